/-! costs rise with the shares -/
def iS (f : Nat → Int) : Nat → Int
  | 0 => 0
  | n + 1 => iS f n + f n
theorem iS_congr {f g : Nat → Int} : ∀ n, (∀ j, j < n → f j = g j) → iS f n = iS g n
  | 0, _ => rfl
  | n + 1, h => by rw [iS, iS, iS_congr n fun j hj => h j (by omega), h n (by omega)]
theorem iS_le {f g : Nat → Int} : ∀ n, (∀ j, j < n → f j ≤ g j) → iS f n ≤ iS g n
  | 0, _ => Int.le_refl _
  | n + 1, h => by
    have h1 := iS_le n fun j hj => h j (by omega)
    have h2 := h n (by omega)
    rw [iS, iS]
    omega
theorem iS_add {f g : Nat → Int} : ∀ n, iS (fun j => f j + g j) n = iS f n + iS g n
  | 0 => rfl
  | n + 1 => by
    rw [iS, iS, iS, iS_add n]
    omega
theorem iS_mul {f : Nat → Int} {a : Int} : ∀ n, iS (fun j => a * f j) n = a * iS f n
  | 0 => by rw [iS, iS, Int.mul_zero]
  | n + 1 => by rw [iS, iS, iS_mul n, Int.mul_add]
theorem iS_N {f : Nat → Nat} : ∀ n, iS (fun j => (f j : Int)) n = (sN f n : Int)
  | 0 => rfl
  | n + 1 => by
    rw [iS, sN, iS_N n]
    omega
/-- shares out of a level: the weights and the water line -/
def WL (s : Nat → Nat) (n b : Nat) (X : Int) : Prop := ∃ (P : Nat → Int) (l : Int), (∀ i, i < n → 0 ≤ P i ∧ 12 * (s i : Int) ≤ l + P i ∧ (P i = 0 ∨ 12 * (s i : Int) = l + P i)) ∧ iS P n = 24 * (b : Int) ∧ iS (fun i => P i * (24 * (s i : Int) - P i)) n = 12 * X
theorem term1 {P P' Y l : Int} (hP : 0 ≤ P) (hY : Y ≤ l + P') : P * (2 * Y - P) ≤ 2 * l * P + P' * P' := by
  have h1 : P * (2 * Y - P) ≤ P * (2 * (l + P') - P) := Int.mul_le_mul_of_nonneg_left (by omega) hP
  have h2 : P * (2 * (l + P') - P) = 2 * l * P + P' * P' - (P - P') * (P - P') := by grind
  have h3 : 0 ≤ (P - P') * (P - P') := by
    rcases Int.le_total 0 (P - P') with h | h
    · exact Int.mul_nonneg h h
    · exact Int.mul_nonneg_of_nonpos_of_nonpos h h
  omega
theorem term2 {P Y l : Int} (h : P = 0 ∨ Y = l + P) : P * (2 * Y - P) = 2 * l * P + P * P := by
  rcases h with rfl | rfl
  · simp
  · grind
theorem WL_le {s s' : Nat → Nat} {n b : Nat} {X X' : Int} (h : WL s n b X) (h' : WL s' n b X') (hs : ∀ i, i < n → s i ≤ s' i) : X ≤ X' := by
  obtain ⟨P, l, h1, h2, h3⟩ := h
  obtain ⟨P', l', h1', h2', h3'⟩ := h'
  have e1 : iS (fun i => P i * (24 * (s i : Int) - P i)) n ≤ iS (fun i => 2 * l' * P i + P' i * P' i) n := iS_le n fun i hi => by
    obtain ⟨p1, p2, p3⟩ := h1 i hi
    obtain ⟨q1, q2, q3⟩ := h1' i hi
    have t := term1 (P := P i) (P' := P' i) (Y := 12 * (s' i : Int)) (l := l') p1 q2
    have hs' := hs i hi
    have t2 : P i * (24 * (s i : Int) - P i) ≤ P i * (2 * (12 * (s' i : Int)) - P i) := Int.mul_le_mul_of_nonneg_left (by omega) p1
    exact Int.le_trans t2 t
  have e2 : iS (fun i => P' i * (24 * (s' i : Int) - P' i)) n = iS (fun i => 2 * l' * P' i + P' i * P' i) n := iS_congr n fun i hi => by
    obtain ⟨q1, q2, q3⟩ := h1' i hi
    have t := term2 (P := P' i) (Y := 12 * (s' i : Int)) (l := l') q3
    rw [← t]
    congr 1
    omega
  rw [iS_add (f := fun i => 2 * l' * P i), iS_mul, h2] at e1
  rw [iS_add (f := fun i => 2 * l' * P' i), iS_mul, h2'] at e2
  omega
section MONO
variable {s : Nat → Nat} {n b : Nat} {q : Nat → Int32}
theorem rk_sur {i : Nat} (hi : i < n) : ∃ p, p < n ∧ rk s n p = i := by
  have h : i ∈ rkl s n := rkl_perm.mem_iff.mpr (List.mem_range.mpr hi)
  obtain ⟨p, hp, e⟩ := List.mem_iff_getElem.mp h
  rw [rkl_len] at hp
  refine ⟨p, hp, ?_⟩
  unfold rk
  rw [List.getElem?_eq_getElem (by rw [rkl_len]; exact hp), Option.getD_some, e]
/-- active outcomes lie above the line, the others don't -/
theorem act_line (hn : 1 ≤ n) (hb : 1 ≤ b) {i : Nat} (hi : i < n) : abN s i n < 2 * b ↔ rs s n (aK s n b) < aK s n b * s i + 2 * b := by
  obtain ⟨p, hp, rfl⟩ := rk_sur (s := s) hi
  obtain ⟨k1, k2⟩ := aK_rng (s := s) (n := n) (b := b) hn
  rw [aK_iff hn hb hp]
  generalize hK : aK s n b = K at *
  refine ⟨fun g => ?_, fun g => ?_⟩
  · have h1 := ab_at (s := s) (n := n) (p := K - 1) (by omega)
    have h2 := (aK_iff (s := s) hn hb (p := K - 1) (by omega)).mpr (by omega)
    have h3 := rk_mono (s := s) (n := n) (p := p) (p' := K - 1) (by omega) (by omega)
    have h4 : rs s n K = rs s n (K - 1) + s (rk s n (K - 1)) := by
      obtain ⟨K', rfl⟩ : ∃ K', K = K' + 1 := ⟨K - 1, by omega⟩
      rfl
    have h5 : K * s (rk s n (K - 1)) ≤ K * s (rk s n p) := Nat.mul_le_mul_left K h3
    have h6 : K * s (rk s n (K - 1)) = (K - 1) * s (rk s n (K - 1)) + s (rk s n (K - 1)) := by
      obtain ⟨K', rfl⟩ : ∃ K', K = K' + 1 := ⟨K - 1, by omega⟩
      rw [Nat.add_sub_cancel, Nat.succ_mul]
    omega
  · apply Nat.lt_of_not_le
    intro hle
    have hKn : K < n := by omega
    have h1 := ab_at (s := s) (n := n) (p := K) hKn
    have h2 : ¬ abN s (rk s n K) n < 2 * b := fun h => by
      have := (aK_iff (s := s) hn hb hKn).mp h
      omega
    have h3 := rk_mono (s := s) (n := n) (p := K) (p' := p) hle hp
    have h5 : K * s (rk s n p) ≤ K * s (rk s n K) := Nat.mul_le_mul_left K h3
    omega
theorem WL_of (hn : 1 ≤ n) (hn4 : n ≤ 4) (hb : 1 ≤ b) {c : Nat} (hc : c * aK s n b = 12) : WL s n b (12 * (rq s n (aK s n b) : Int) - c * ((rs s n (aK s n b) : Int) - 2 * b) * ((rs s n (aK s n b) : Int) - 2 * b)) := by
  obtain ⟨k1, k2⟩ := aK_rng (s := s) (n := n) (b := b) hn
  have hK : sN (fun j => if abN s j n < 2 * b then 1 else 0) n = aK s n b := by
    rw [act_sum hn hb (fun _ => 1)]
    have : ∀ k, sN (fun _ => 1) k = k := fun k => by
      induction k with
      | zero => rfl
      | succ k ih => rw [sN, ih]
    exact this _
  have hS : sN (fun j => if abN s j n < 2 * b then s j else 0) n = rs s n (aK s n b) := by
    rw [rs_sN, ← act_sum hn hb (fun i => s i)]
  have hR : sN (fun j => if abN s j n < 2 * b then s j * s j else 0) n = rq s n (aK s n b) := by
    rw [rq_sN, ← act_sum hn hb (fun i => s i * s i)]
  have line : ∀ i, i < n → (abN s i n < 2 * b ↔ rs s n (aK s n b) < aK s n b * s i + 2 * b) := fun i hi => act_line hn hb hi
  generalize aK s n b = K at *
  generalize rs s n K = R1 at *
  generalize rq s n K = R2 at *
  have hcK : (c : Int) * (K : Int) = 12 := by
    have : ((c * K : Nat) : Int) = 12 := by rw [hc]; rfl
    rw [Int.natCast_mul] at this
    exact this
  have c0 : (0 : Int) ≤ c := by omega
  refine ⟨fun i => if abN s i n < 2 * b then 12 * (s i : Int) - c * ((R1 : Int) - 2 * b) else 0, c * ((R1 : Int) - 2 * b), fun i hi => ?_, ?_, ?_⟩
  · have e12 : 12 * (s i : Int) = c * ((K : Int) * s i) := by rw [← Int.mul_assoc, hcK]
    have hl := line i hi
    by_cases g : abN s i n < 2 * b
    · have g2 := hl.mp g
      dsimp only
      rw [if_pos g]
      have g3 : (R1 : Int) - 2 * b ≤ (K : Int) * s i := by
        have : ((K * s i : Nat) : Int) = (K : Int) * s i := Int.natCast_mul _ _
        omega
      have g4 := Int.mul_le_mul_of_nonneg_left g3 c0
      refine ⟨by omega, by omega, Or.inr (by omega)⟩
    · dsimp only
      rw [if_neg g]
      have g2 : ¬ R1 < K * s i + 2 * b := fun h => g (hl.mpr h)
      have g3 : (K : Int) * s i ≤ (R1 : Int) - 2 * b := by
        have : ((K * s i : Nat) : Int) = (K : Int) * s i := Int.natCast_mul _ _
        omega
      have g4 := Int.mul_le_mul_of_nonneg_left g3 c0
      refine ⟨by omega, by omega, Or.inl rfl⟩
  · have e : iS (fun i => if abN s i n < 2 * b then 12 * (s i : Int) - c * ((R1 : Int) - 2 * b) else 0) n = iS (fun i => 12 * ((if abN s i n < 2 * b then s i else 0 : Nat) : Int) + (-(c * ((R1 : Int) - 2 * b))) * ((if abN s i n < 2 * b then 1 else 0 : Nat) : Int)) n := iS_congr n fun i hi => by
      by_cases g : abN s i n < 2 * b
      · rw [if_pos g, if_pos g, if_pos g]; omega
      · rw [if_neg g, if_neg g, if_neg g]; omega
    rw [e, iS_add (f := fun i => 12 * ((if abN s i n < 2 * b then s i else 0 : Nat) : Int)), iS_mul, iS_mul, iS_N, iS_N, hK, hS]
    have : (-(c * ((R1 : Int) - 2 * b))) * (K : Int) = -(12 * ((R1 : Int) - 2 * b)) := by rw [← hcK]; grind
    omega
  · have e : iS (fun i => (if abN s i n < 2 * b then 12 * (s i : Int) - c * ((R1 : Int) - 2 * b) else 0) * (24 * (s i : Int) - (if abN s i n < 2 * b then 12 * (s i : Int) - c * ((R1 : Int) - 2 * b) else 0))) n = iS (fun i => 144 * ((if abN s i n < 2 * b then s i * s i else 0 : Nat) : Int) + (-((c * ((R1 : Int) - 2 * b)) * (c * ((R1 : Int) - 2 * b)))) * ((if abN s i n < 2 * b then 1 else 0 : Nat) : Int)) n := iS_congr n fun i hi => by
      by_cases g : abN s i n < 2 * b
      · rw [if_pos g, if_pos g, if_pos g, Int.natCast_mul]; grind
      · rw [if_neg g, if_neg g, if_neg g]; simp
    rw [e, iS_add (f := fun i => 144 * ((if abN s i n < 2 * b then s i * s i else 0 : Nat) : Int)), iS_mul, iS_mul, iS_N, iS_N, hK, hR]
    have : (-((c * ((R1 : Int) - 2 * b)) * (c * ((R1 : Int) - 2 * b)))) * (K : Int) = -(12 * (c * ((R1 : Int) - 2 * b) * ((R1 : Int) - 2 * b))) := by rw [← hcK]; grind
    rw [this]
    omega
theorem mulTT {x y : Int32} (h1 : -2000000000 ≤ x.toInt * y.toInt) (h2 : x.toInt * y.toInt ≤ 2000000000) : (x * y).toInt = x.toInt * y.toInt := by
  rw [Int32.toInt_mul, Int.bmod_eq_of_le (by omega) (by omega)]
theorem sN_c {f : Nat → Nat} {a : Nat} : ∀ k, (∀ j, j < k → f j ≤ a) → sN f k ≤ a * k
  | 0, _ => by rw [sN]; omega
  | k + 1, h => by
    have h1 := sN_c k fun j hj => h j (by omega)
    have h2 := h k (by omega)
    rw [sN, Nat.mul_succ]
    omega
/-- the level as an exact number -/
theorem lev_T (hn : 1 ≤ n) (hn4 : n ≤ 4) (hb1 : 1 ≤ b) (hb : b ≤ 60) (hq : ∀ o, o < n → q o = nI (s o) ∧ s o ≤ 400) : ∃ X : Int, WL s n b X ∧ -8000000 ≤ X ∧ X ≤ 8000000 ∧ (m_lev q n (nI b)).toInt = ((60 / b : Nat) : Int) * X := by
  have hq' : ∀ o, o < n → q o = nI (s o) ∧ s o < 1000 := fun o ho => ⟨(hq o ho).1, by have := (hq o ho).2; omega⟩
  obtain ⟨k1, k2, k3⟩ := k_N hn hn4 hb1 hb hq'
  obtain ⟨g1, g2⟩ := aK_rng (s := s) (n := n) (b := b) hn
  have hS : rs s n (aK s n b) ≤ 400 * aK s n b := by
    rw [rs_sN]
    exact sN_c _ fun j hj => (hq _ (rk_s (by omega)).2.1).2
  have hR : rq s n (aK s n b) ≤ 160000 * aK s n b := by
    rw [rq_sN]
    refine sN_c _ fun j hj => ?_
    have h4 := (hq _ (rk_s (s := s) (n := n) (p := j) (by omega)).2.1).2
    exact Nat.le_trans (Nat.mul_le_mul h4 h4) (by omega)
  obtain ⟨c, hc⟩ : ∃ c, c * aK s n b = 12 := by
    rcases (by omega : aK s n b = 1 ∨ aK s n b = 2 ∨ aK s n b = 3 ∨ aK s n b = 4) with h | h | h | h
    · exact ⟨12, by omega⟩
    · exact ⟨6, by omega⟩
    · exact ⟨4, by omega⟩
    · exact ⟨3, by omega⟩
  refine ⟨_, WL_of hn hn4 hb1 hc, ?_⟩
  unfold m_lev
  rw [k1, k2, k3, if_neg (by rw [nIeq (by omega) (by omega)]; omega), if_neg (by rw [nIeq (by omega) (by omega)]; omega)]
  generalize aK s n b = K at *
  generalize rs s n K = R1 at *
  generalize rq s n K = R2 at *
  have hd : nI 60 / nI b = nI (60 / b) := pk_div (by omega) (by omega) (by omega)
  have hd2 : nI 12 / nI K = nI c := by
    rw [pk_div (by omega) (by omega) (by omega)]
    congr 1
    rw [← hc, Nat.mul_div_cancel _ (by omega)]
  have h60 : 60 / b ≤ 60 := Nat.div_le_self 60 b
  have e1 : (nI R1 - nI 2 * nI b).toInt = (R1 : Int) - 2 * b := by
    rw [nIm, nI_subT (by omega) (by omega)]
    omega
  have b1 : -1440 ≤ (c : Int) * ((R1 : Int) - 2 * b) ∧ (c : Int) * ((R1 : Int) - 2 * b) ≤ 4800 := by
    rcases (by omega : K = 1 ∨ K = 2 ∨ K = 3 ∨ K = 4) with rfl | rfl | rfl | rfl
    · obtain rfl : c = 12 := by omega
      omega
    · obtain rfl : c = 6 := by omega
      omega
    · obtain rfl : c = 4 := by omega
      omega
    · obtain rfl : c = 3 := by omega
      omega
  have c0 : (0 : Int) ≤ c := by omega
  have hc12 : c ≤ 12 := by
    rcases (by omega : K = 1 ∨ K = 2 ∨ K = 3 ∨ K = 4) with rfl | rfl | rfl | rfl <;> omega
  have e2 : (nI c * (nI R1 - nI 2 * nI b)).toInt = (c : Int) * ((R1 : Int) - 2 * b) := by
    rw [mulT (by omega) (by rw [e1]; omega) (by rw [e1]; omega), e1]
  have b2 : 0 ≤ (c : Int) * ((R1 : Int) - 2 * b) * ((R1 : Int) - 2 * b) ∧ (c : Int) * ((R1 : Int) - 2 * b) * ((R1 : Int) - 2 * b) ≤ 7680000 := by
    rcases Int.le_total 0 ((R1 : Int) - 2 * b) with h | h
    · have h2 := Int.mul_nonneg c0 h
      exact ⟨Int.mul_nonneg h2 h, Int.le_trans (Int.mul_le_mul b1.2 (show (R1 : Int) - 2 * b ≤ 1600 by omega) h (by omega)) (by omega)⟩
    · have h0 : 0 ≤ -((R1 : Int) - 2 * b) := by omega
      have h2 : 0 ≤ -((c : Int) * ((R1 : Int) - 2 * b)) := by
        rw [← Int.mul_neg]
        exact Int.mul_nonneg c0 h0
      have h3 : (c : Int) * ((R1 : Int) - 2 * b) * ((R1 : Int) - 2 * b) = -((c : Int) * ((R1 : Int) - 2 * b)) * -((R1 : Int) - 2 * b) := by rw [Int.neg_mul_neg]
      rw [h3]
      exact ⟨Int.mul_nonneg h2 h0, Int.le_trans (Int.mul_le_mul (show -((c : Int) * ((R1 : Int) - 2 * b)) ≤ 1440 by omega) (show -((R1 : Int) - 2 * b) ≤ 120 by omega) h0 (by omega)) (by omega)⟩
  have e3 : (nI c * (nI R1 - nI 2 * nI b) * (nI R1 - nI 2 * nI b)).toInt = (c : Int) * ((R1 : Int) - 2 * b) * ((R1 : Int) - 2 * b) := by
    rw [mulTT (by rw [e1, e2]; omega) (by rw [e1, e2]; omega), e1, e2]
  have e4 : (nI 12 * nI R2).toInt = 12 * (R2 : Int) := by
    rw [nIm, nI_toInt (by omega)]
    omega
  have e5 : (nI 12 * nI R2 - nI c * (nI R1 - nI 2 * nI b) * (nI R1 - nI 2 * nI b)).toInt = 12 * (R2 : Int) - c * ((R1 : Int) - 2 * b) * ((R1 : Int) - 2 * b) := by
    rw [subT (by rw [e3, e4]; omega) (by rw [e3, e4]; omega), e3, e4]
  rw [hd, hd2]
  generalize (c : Int) * ((R1 : Int) - 2 * b) * ((R1 : Int) - 2 * b) = Z at *
  refine ⟨by omega, by omega, ?_⟩
  have bX : -480000000 ≤ ((60 / b : Nat) : Int) * (12 * (R2 : Int) - Z) ∧ ((60 / b : Nat) : Int) * (12 * (R2 : Int) - Z) ≤ 480000000 := by
    have h6 : (0 : Int) ≤ ((60 / b : Nat) : Int) := Int.natCast_nonneg _
    have h7 : ((60 / b : Nat) : Int) ≤ 60 := Int.ofNat_le.mpr h60
    generalize ((60 / b : Nat) : Int) = A at *
    have x1 := Int.mul_le_mul_of_nonneg_left (show 12 * (R2 : Int) - Z ≤ 8000000 by omega) h6
    have x2 := Int.mul_le_mul_of_nonneg_left (show -8000000 ≤ 12 * (R2 : Int) - Z by omega) h6
    omega
  rw [mulT (by omega) (by rw [e5]; omega) (by rw [e5]; omega), e5]
/-- the cost of one share more is no less -/
theorem cost_mono {o i : Nat} (hn : 1 ≤ n) (hn4 : n ≤ 4) (hb1 : 1 ≤ b) (hb : b ≤ 60) (hq : ∀ o, o < n → q o = nI (s o) ∧ s o ≤ 400) (ho : o < n) (hi : s o + i + 1 ≤ 400) : m_cost q n (nI b) o (nI i) ≤ m_cost q n (nI b) o (nI (i + 1)) := by
  have up : ∀ j, s o + j ≤ 400 → ∀ x, x < n → ug q o (q o + nI j) x = nI (if x = o then s o + j else s x) ∧ (if x = o then s o + j else s x) ≤ 400 := fun j hj x hx => by
    unfold ug
    by_cases e : x = o
    · subst e
      rw [if_pos rfl, if_pos rfl, (hq x hx).1, nIa]
      exact ⟨rfl, hj⟩
    · rw [if_neg e, if_neg e]
      exact hq x hx
  obtain ⟨X0, -, b01, b02, t0⟩ := lev_T hn hn4 hb1 hb hq
  obtain ⟨X1, w1, b11, b12, t1⟩ := lev_T (s := fun x => if x = o then s o + i else s x) hn hn4 hb1 hb (up i (by omega))
  obtain ⟨X2, w2, b21, b22, t2⟩ := lev_T (s := fun x => if x = o then s o + (i + 1) else s x) hn hn4 hb1 hb (up (i + 1) (by omega))
  have hle := WL_le w1 w2 (fun x hx => by
    by_cases e : x = o
    · rw [if_pos e, if_pos e]; omega
    · rw [if_neg e, if_neg e]; exact Nat.le_refl _)
  have h60 : 60 / b ≤ 60 := Nat.div_le_self 60 b
  have h6 : (0 : Int) ≤ ((60 / b : Nat) : Int) := Int.natCast_nonneg _
  have h7 : ((60 / b : Nat) : Int) ≤ 60 := Int.ofNat_le.mpr h60
  unfold m_cost
  generalize ((60 / b : Nat) : Int) = A at *
  have x1 := Int.mul_le_mul_of_nonneg_left hle h6
  have y01 := Int.mul_le_mul_of_nonneg_left b01 h6
  have y02 := Int.mul_le_mul_of_nonneg_left b02 h6
  have y11 := Int.mul_le_mul_of_nonneg_left b11 h6
  have y22 := Int.mul_le_mul_of_nonneg_left b22 h6
  rw [Int32.le_iff_toInt_le, subT (by omega) (by omega), subT (by omega) (by omega)]
  omega
end MONO
