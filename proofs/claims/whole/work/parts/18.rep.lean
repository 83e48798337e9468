/-! the abstract state, and how an exchange of the class holds it -/
abbrev Od : Type := Int32 × Int32 × Int32 × Int32 × Int32 × Int32
/-- general numbers (as the reference lays them), open orders in the order in which they are tried, trades from the latest on -/
abbrev St : Type := (Nat → Int32) × List Od × (Nat → Nat → Int32)
def ug (g : Nat → Int32) (k : Nat) (v : Int32) : Nat → Int32 := fun j => if j = k then v else g j
theorem ug_s {g : Nat → Int32} {k : Nat} {v : Int32} : ug g k v k = v := by simp [ug]
theorem ug_n {g : Nat → Int32} {k j : Nat} {v : Int32} (h : j ≠ k) : ug g k v j = g j := by simp [ug, h]
theorem ug_ug {g : Nat → Int32} {k : Nat} {v w : Int32} : ug (ug g k v) k w = ug g k w := by funext j; simp only [ug]; split <;> rfl
theorem ug_id {g : Nat → Int32} {k : Nat} : ug g k (g k) = g := by funext j; simp only [ug]; split <;> simp [*]
/-- where the number k of an exchange at B lies -/
def il (B k : Nat) : Nat × Nat :=
  if k = 0 then (B, 5) else if k = 1 then (B, 4) else if k = 2 then (B + 63, 2) else if k = 3 then (B + 63, 1) else if k = 4 then (B + 81, 1) else if k = 5 then (B, 77)
  else if k < 12 then (B + 1, k - 6)
  else if (k - 12) % 43 < 9 then (B + 3 + 10 * ((k - 12) / 43), if (k - 12) % 43 = 0 then 9 else if (k - 12) % 43 = 1 then 4 else if (k - 12) % 43 = 2 then 5 else if (k - 12) % 43 = 3 then 6 else if (k - 12) % 43 = 4 then 7 else if (k - 12) % 43 = 5 then 8 else if (k - 12) % 43 = 6 then 12 else if (k - 12) % 43 = 7 then 10 else 11)
  else if (k - 12) % 43 < 13 then (B + 4 + 10 * ((k - 12) / 43), (k - 12) % 43 - 9)
  else if (k - 12) % 43 < 37 then (B + 6 + 10 * ((k - 12) / 43) + ((k - 12) % 43 - 13) / 4, ((k - 12) % 43 - 13) % 4)
  else (B + 12 + 10 * ((k - 12) / 43), (k - 12) % 43 - 37)
def oat (I : Nat → Nat → Int32) (a : Nat) : Od := (I a 0, I a 1, I a 2, I a 3, I a 4, I a 5)
/-- which of two orders is tried first -/
def obf (x y : Od) : Prop := y.2.2.2.2.2 < x.2.2.2.2.2 ∨ (x.2.2.2.2.2 = y.2.2.2.2.2 ∧ x.1 < y.1)
/-- the open orders in the class's book, in its order: the addresses of its rows are the pool's, in some order -/
def Bk (B : Nat) (L : List Od) (I : Nat → Nat → Int32) (M : Nat → Nat → Nat) : Prop :=
  L.length ≤ 16 ∧ I (B + 63) 1 = nI L.length ∧ ∃ p : Nat → Nat, (∀ i, i < 16 → p i < 16 ∧ M (B + 64) i = B + 65 + p i + 1) ∧ (∀ i j, i < 16 → j < 16 → p i = p j → i = j) ∧
    ∀ i o, L[i]? = some o → oat I (B + 65 + p i) = o
/-- the trades in the class's ring -/
def Hs (B : Nat) (T : Nat) (hs : Nat → Nat → Int32) (I : Nat → Nat → Int32) : Prop :=
  I (B + 81) 1 = nI T ∧ T < 1000000000 ∧ ∀ i p, i < 30 → i < T → p < 6 → I (B + 83 + (T - 1 - i) % 30) p = hs i p
/-- an exchange at B holds S; outside its cells the heap is C -/
def EX (B : Nat) (S : St) (C : (Nat → Nat → Int32) × (Nat → Nat → Nat)) (I : Nat → Nat → Int32) (M : Nat → Nat → Nat) : Prop :=
  (∀ a, ¬ (B ≤ a ∧ a < B + 113) → I a = C.1 a ∧ M a = C.2 a) ∧ (∀ a j, B ≤ a → a < B + 113 → a ≠ B + 64 → M a j = M0b B a j) ∧ (∀ m, m < 6 → I (B + 3 + 10 * m) 0 = nI m) ∧
  (∀ k, k < 270 → k ≠ 5 → I (il B k).1 (il B k).2 = S.1 k) ∧ Bk B S.2.1 I M ∧ ∃ T, Hs B T S.2.2 I
theorem il_rng {B k : Nat} (h : k < 270) : B ≤ (il B k).1 ∧ (il B k).1 < B + 64 ∨ (il B k).1 = B + 81 := by
  unfold il
  by_cases h0 : k = 0
  · rw [if_pos h0]
    dsimp only
    omega
  rw [if_neg h0]
  by_cases h1 : k = 1
  · rw [if_pos h1]
    dsimp only
    omega
  rw [if_neg h1]
  by_cases h2 : k = 2
  · rw [if_pos h2]
    dsimp only
    omega
  rw [if_neg h2]
  by_cases h3 : k = 3
  · rw [if_pos h3]
    dsimp only
    omega
  rw [if_neg h3]
  by_cases h4 : k = 4
  · rw [if_pos h4]
    dsimp only
    omega
  rw [if_neg h4]
  by_cases h5 : k = 5
  · rw [if_pos h5]
    dsimp only
    omega
  rw [if_neg h5]
  by_cases h6 : k < 12
  · rw [if_pos h6]
    dsimp only
    omega
  rw [if_neg h6]
  by_cases h7 : (k - 12) % 43 < 9
  · rw [if_pos h7]
    dsimp only
    omega
  rw [if_neg h7]
  by_cases h8 : (k - 12) % 43 < 13
  · rw [if_pos h8]
    dsimp only
    omega
  rw [if_neg h8]
  by_cases h9 : (k - 12) % 43 < 37
  · rw [if_pos h9]
    dsimp only
    omega
  rw [if_neg h9]
  dsimp only
  omega
/-- the number that lies at a place -/
def li (B a j : Nat) : Nat :=
  let r := a - B
  if r = 0 then (if j = 5 then 0 else if j = 4 then 1 else 5) else if r = 63 then (if j = 2 then 2 else 3) else if r = 81 then 4 else if r = 1 then j + 6
  else if (r - 3) % 10 = 0 then 12 + 43 * ((r - 3) / 10) + (if j = 9 then 0 else if j = 4 then 1 else if j = 5 then 2 else if j = 6 then 3 else if j = 7 then 4 else if j = 8 then 5 else if j = 12 then 6 else if j = 10 then 7 else 8)
  else if (r - 3) % 10 = 1 then 12 + 43 * ((r - 3) / 10) + 9 + j
  else if (r - 3) % 10 = 9 then 12 + 43 * ((r - 3) / 10) + 37 + j
  else 12 + 43 * ((r - 3) / 10) + 13 + 4 * ((r - 3) % 10 - 3) + j
set_option maxRecDepth 20000 in
theorem li_il1 : ∀ k, k < 270 → li 1 (il 1 k).1 (il 1 k).2 = k := fun k hk => co_dec (P := fun k => li 1 (il 1 k).1 (il 1 k).2 = k) (N := 270) (by decide +kernel) hk
set_option maxRecDepth 20000 in
theorem li_il2 : ∀ k, k < 270 → li 114 (il 114 k).1 (il 114 k).2 = k := fun k hk => co_dec (P := fun k => li 114 (il 114 k).1 (il 114 k).2 = k) (N := 270) (by decide +kernel) hk
theorem il_inj {B : Nat} (hB : B = 1 ∨ B = 114) {k k' : Nat} (h : k < 270) (h' : k' < 270) (e1 : (il B k).1 = (il B k').1) (e2 : (il B k).2 = (il B k').2) : k = k' := by
  rcases hB with rfl | rfl
  · rw [← li_il1 k h, ← li_il1 k' h', e1, e2]
  · rw [← li_il2 k h, ← li_il2 k' h', e1, e2]
theorem il_col {B k m : Nat} (hk : k < 270) (e : (il B k).1 = B + 3 + 10 * m) : (il B k).2 < 13 := by
  unfold il at e ⊢
  by_cases h0 : k = 0
  · rw [if_pos h0] at e ⊢
    dsimp only at e ⊢
    (try (repeat' split)) <;> omega
  rw [if_neg h0] at e ⊢
  by_cases h1 : k = 1
  · rw [if_pos h1] at e ⊢
    dsimp only at e ⊢
    (try (repeat' split)) <;> omega
  rw [if_neg h1] at e ⊢
  by_cases h2 : k = 2
  · rw [if_pos h2] at e ⊢
    dsimp only at e ⊢
    (try (repeat' split)) <;> omega
  rw [if_neg h2] at e ⊢
  by_cases h3 : k = 3
  · rw [if_pos h3] at e ⊢
    dsimp only at e ⊢
    (try (repeat' split)) <;> omega
  rw [if_neg h3] at e ⊢
  by_cases h4 : k = 4
  · rw [if_pos h4] at e ⊢
    dsimp only at e ⊢
    (try (repeat' split)) <;> omega
  rw [if_neg h4] at e ⊢
  by_cases h5 : k = 5
  · rw [if_pos h5] at e ⊢
    dsimp only at e ⊢
    (try (repeat' split)) <;> omega
  rw [if_neg h5] at e ⊢
  by_cases h6 : k < 12
  · rw [if_pos h6] at e ⊢
    dsimp only at e ⊢
    (try (repeat' split)) <;> omega
  rw [if_neg h6] at e ⊢
  by_cases h7 : (k - 12) % 43 < 9
  · rw [if_pos h7] at e ⊢
    dsimp only at e ⊢
    (try (repeat' split)) <;> omega
  rw [if_neg h7] at e ⊢
  by_cases h8 : (k - 12) % 43 < 13
  · rw [if_pos h8] at e ⊢
    dsimp only at e ⊢
    (try (repeat' split)) <;> omega
  rw [if_neg h8] at e ⊢
  by_cases h9 : (k - 12) % 43 < 37
  · rw [if_pos h9] at e ⊢
    dsimp only at e ⊢
    (try (repeat' split)) <;> omega
  rw [if_neg h9] at e ⊢
  dsimp only at e ⊢
  omega
theorem il_mk {B m w : Nat} (hw : w < 9) (v : Nat) (hv : v = if w = 0 then 9 else if w = 1 then 4 else if w = 2 then 5 else if w = 3 then 6 else if w = 4 then 7 else if w = 5 then 8 else if w = 6 then 12 else if w = 7 then 10 else 11) : il B (12 + 43 * m + w) = (B + 3 + 10 * m, v) := by
  have e1 : (12 + 43 * m + w - 12) % 43 = w := by omega
  have e2 : (12 + 43 * m + w - 12) / 43 = m := by omega
  unfold il
  rw [e1, e2, hv]
  rw [if_neg (by omega), if_neg (by omega), if_neg (by omega), if_neg (by omega), if_neg (by omega), if_neg (by omega), if_neg (by omega), if_pos hw]
theorem il_sh {B m o : Nat} (ho : o < 4) : il B (21 + 43 * m + o) = (B + 4 + 10 * m, o) := by
  have e1 : (21 + 43 * m + o - 12) % 43 = 9 + o := by omega
  have e2 : (21 + 43 * m + o - 12) / 43 = m := by omega
  unfold il
  rw [e1, e2]
  rw [if_neg (by omega), if_neg (by omega), if_neg (by omega), if_neg (by omega), if_neg (by omega), if_neg (by omega), if_neg (by omega), if_neg (by omega), if_pos (by omega)]
  congr 1
  omega
theorem il_hd {B m t o : Nat} (ht : t < 6) (ho : o < 4) : il B (25 + 43 * m + 4 * t + o) = (B + 6 + 10 * m + t, o) := by
  have e1 : (25 + 43 * m + 4 * t + o - 12) % 43 = 13 + 4 * t + o := by omega
  have e2 : (25 + 43 * m + 4 * t + o - 12) / 43 = m := by omega
  unfold il
  rw [e1, e2]
  rw [if_neg (by omega), if_neg (by omega), if_neg (by omega), if_neg (by omega), if_neg (by omega), if_neg (by omega), if_neg (by omega), if_neg (by omega), if_neg (by omega), if_pos (by omega)]
  congr 1 <;> omega
theorem il_pd {B m t : Nat} (ht : t < 6) : il B (49 + 43 * m + t) = (B + 12 + 10 * m, t) := by
  have e1 : (49 + 43 * m + t - 12) % 43 = 37 + t := by omega
  have e2 : (49 + 43 * m + t - 12) / 43 = m := by omega
  unfold il
  rw [e1, e2]
  rw [if_neg (by omega), if_neg (by omega), if_neg (by omega), if_neg (by omega), if_neg (by omega), if_neg (by omega), if_neg (by omega), if_neg (by omega), if_neg (by omega), if_neg (by omega)]
  congr 1
  omega
theorem il_bal {B t : Nat} (ht : t < 6) : il B (6 + t) = (B + 1, t) := by
  unfold il
  rw [if_neg (by omega), if_neg (by omega), if_neg (by omega), if_neg (by omega), if_neg (by omega), if_neg (by omega), if_pos (by omega)]
  congr 1
  omega
/-- a number changes that neither the book nor the trades count by -/
theorem EX.upd {B : Nat} (hB : B = 1 ∨ B = 114) {S : St} {C : (Nat → Nat → Int32) × (Nat → Nat → Nat)} {I : Nat → Nat → Int32} {M : Nat → Nat → Nat} (h : EX B S C I M) {k a j : Nat} (hk : k < 270) (h3 : k ≠ 3) (h4 : k ≠ 4) (h5 : k ≠ 5) (he : il B k = (a, j)) (v : Int32) : EX B (ug S.1 k v, S.2) C (ai_u I a j v) M := by
  obtain ⟨h1, h2, hn, hg, hb, T, ht⟩ := h
  have hr := il_rng (B := B) hk
  rw [he] at hr
  dsimp only at hr
  have key : ∀ k', k' < 270 → k' ≠ k → ¬ ((il B k').1 = a ∧ (il B k').2 = j) := fun k' hk' hne hc => hne (il_inj hB hk' hk (by rw [he]; exact hc.1) (by rw [he]; exact hc.2))
  have e3 : il B 3 = (B + 63, 1) := rfl
  have e4 : il B 4 = (B + 81, 1) := rfl
  have n3 := key 3 (by omega) (Ne.symm h3)
  have n4 := key 4 (by omega) (Ne.symm h4)
  rw [e3] at n3
  rw [e4] at n4
  dsimp only at n3 n4
  have hrow : ∀ b, B + 64 ≤ b → b ≠ B + 81 → ai_u I a j v b = I b := fun b hb1 hb2 => ai_u_other I a j v (by omega)
  refine ⟨fun b hb1 => ?_, h2, fun m hm => ?_, fun k' hk' hk5 => ?_, ⟨hb.1, ?_, ?_⟩, T, ⟨?_, ht.2.1, fun i p hi hiT hp => ?_⟩⟩
  · rw [ai_u_other I a j v (by omega)]
    exact h1 b hb1
  · have : ¬ (B + 3 + 10 * m = a ∧ 0 = j) := by
      rintro ⟨e1, e2⟩
      have hil : il B k = (B + 3 + 10 * m, 0) := by rw [he, e1, e2]
      have hli : li B (il B k).1 (il B k).2 = k := by rcases hB with rfl | rfl; exact li_il1 k hk; exact li_il2 k hk
      rw [hil] at hli
      have e5 : li B (B + 3 + 10 * m) 0 = 12 + 43 * m + 8 := by
        unfold li
        have q1 : B + 3 + 10 * m - B = 3 + 10 * m := by omega
        have q2 : (3 + 10 * m - 3) % 10 = 0 := by omega
        have q3 : (3 + 10 * m - 3) / 10 = m := by omega
        simp only [q1, q2, q3]
        rw [if_neg (by omega), if_neg (by omega), if_neg (by omega), if_neg (by omega), if_pos trivial]
        rfl
      have e6 := il_mk (B := B) (m := m) (w := 8) (by omega) 11 rfl
      dsimp only at hli
      rw [e5] at hli
      rw [hli, hil] at e6
      have := congrArg Prod.snd e6
      simp at this
    show (if B + 3 + 10 * m = a ∧ 0 = j then v else I (B + 3 + 10 * m) 0) = nI m
    rw [if_neg this]
    exact hn m hm
  · show (if (il B k').1 = a ∧ (il B k').2 = j then v else I (il B k').1 (il B k').2) = ug S.1 k v k'
    by_cases hkk : k' = k
    · subst hkk
      rw [he, if_pos ⟨rfl, rfl⟩, ug_s]
    · rw [if_neg (key k' hk' hkk), ug_n hkk]
      exact hg k' hk' hk5
  · show (if B + 63 = a ∧ 1 = j then v else I (B + 63) 1) = _
    rw [if_neg n3]
    exact hb.2.1
  · obtain ⟨p, p1, p2, p3⟩ := hb.2.2
    have ho : ∀ i, i < 16 → oat (ai_u I a j v) (B + 65 + p i) = oat I (B + 65 + p i) := fun i hi => by
      have := (p1 i hi).1
      unfold oat
      rw [hrow (B + 65 + p i) (by omega) (by omega)]
    refine ⟨p, p1, p2, fun i o hi => ?_⟩
    have h8 : i < S.2.1.length := (List.getElem?_eq_some_iff.mp hi).1
    rw [ho i (by have := hb.1; omega)]
    exact p3 i o hi
  · show (if B + 81 = a ∧ 1 = j then v else I (B + 81) 1) = _
    rw [if_neg n4]
    exact ht.1
  · rw [hrow _ (by omega) (by omega)]
    exact ht.2.2 i p hi hiT hp
/-- the numbers that a market keeps for a while, only for itself -/
theorem EX.scr {B : Nat} {S : St} {C : (Nat → Nat → Int32) × (Nat → Nat → Nat)} {I : Nat → Nat → Int32} {M : Nat → Nat → Nat} (h : EX B S C I M) {m j : Nat} (hm : m < 6) (hj : 13 ≤ j ∧ j ≤ 15) (v : Int32) : EX B S C (ai_u I (B + 3 + 10 * m) j v) M := by
  obtain ⟨h1, h2, hn, hg, hb, T, ht⟩ := h
  have hrow : ∀ b, b ≠ B + 3 + 10 * m → ai_u I (B + 3 + 10 * m) j v b = I b := fun b hb1 => ai_u_other I _ j v hb1
  have hcol : ∀ i, i < 13 → ai_u I (B + 3 + 10 * m) j v (B + 3 + 10 * m) i = I (B + 3 + 10 * m) i := fun i hi => if_neg (by omega)
  have hany : ∀ b i, (b = B + 3 + 10 * m → i < 13) → ai_u I (B + 3 + 10 * m) j v b i = I b i := fun b i hc => by
    by_cases e : b = B + 3 + 10 * m
    · subst e; exact hcol i (hc rfl)
    · rw [hrow b e]
  refine ⟨fun b hb1 => ?_, h2, fun m' hm' => ?_, fun k' hk' hk5 => ?_, ⟨hb.1, ?_, ?_⟩, T, ⟨?_, ht.2.1, fun i p hi hiT hp => ?_⟩⟩
  · rw [hrow b (by omega)]
    exact h1 b hb1
  · rw [hany _ _ (fun _ => by omega)]
    exact hn m' hm'
  · rw [hany _ _ (fun e => ?_)]
    · exact hg k' hk' hk5
    · exact il_col hk' e
  · rw [hany _ _ (fun _ => by omega)]
    exact hb.2.1
  · obtain ⟨p, p1, p2, p3⟩ := hb.2.2
    have ho : ∀ i, i < 16 → oat (ai_u I (B + 3 + 10 * m) j v) (B + 65 + p i) = oat I (B + 65 + p i) := fun i hi => by
      have := (p1 i hi).1
      unfold oat
      rw [hrow (B + 65 + p i) (by omega)]
    refine ⟨p, p1, p2, fun i o hi => ?_⟩
    have h8 : i < S.2.1.length := (List.getElem?_eq_some_iff.mp hi).1
    rw [ho i (by have := hb.1; omega)]
    exact p3 i o hi
  · rw [hany _ _ (fun _ => by omega)]
    exact ht.1
  · rw [hrow _ (by omega)]
    exact ht.2.2 i p hi hiT hp
