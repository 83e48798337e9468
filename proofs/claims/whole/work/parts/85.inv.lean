/-! the invariant of the abstract state -/
/-- what stands apart from the trades -/
def CF (g : Nat → Int32) (k tm : Nat) : Prop := CV g k ∧ MST g k ∧ NF k g ∧ XP g k tm ∧ g 0 = nI tm ∧ BL g k ∧ VR g k
def FX (g g' : Nat → Int32) (k : Nat) : Prop := g' 0 = g 0 ∧ (∀ m w, m < k → w < 9 → w ≠ 6 → g' (12 + 43 * m + w) = g (12 + 43 * m + w)) ∧ ∀ m w, k ≤ m → m < 6 → w < 43 → g' (12 + 43 * m + w) = g (12 + 43 * m + w)
theorem FX.comp {g g' g'' : Nat → Int32} {k : Nat} (h : FX g g' k) (h' : FX g' g'' k) : FX g g'' k :=
  ⟨h'.1.trans h.1, fun m w a b c => (h'.2.1 m w a b c).trans (h.2.1 m w a b c), fun m w a b c => (h'.2.2 m w a b c).trans (h.2.2 m w a b c)⟩
section INV
variable {S : St} {k T N tm m : Nat}
theorem FX.e {g g' : Nat → Int32} (h : FX g g' k) {m : Nat} (hm : m < k) : g' (12 + 43 * m) = g (12 + 43 * m) ∧ g' (13 + 43 * m) = g (13 + 43 * m) ∧ g' (14 + 43 * m) = g (14 + 43 * m) ∧ g' (15 + 43 * m) = g (15 + 43 * m) ∧ g' (16 + 43 * m) = g (16 + 43 * m) ∧ g' (17 + 43 * m) = g (17 + 43 * m) ∧ g' (19 + 43 * m) = g (19 + 43 * m) ∧ g' (20 + 43 * m) = g (20 + 43 * m) := by
  have e := fun w hw h6 => h.2.1 m w hm hw h6
  refine ⟨e 0 (by omega) (by omega), ?_, ?_, ?_, ?_, ?_, ?_, ?_⟩
  · rw [← p_1]; exact e 1 (by omega) (by omega)
  · rw [← p_2]; exact e 2 (by omega) (by omega)
  · rw [← p_3]; exact e 3 (by omega) (by omega)
  · rw [← p_4]; exact e 4 (by omega) (by omega)
  · rw [← p_5]; exact e 5 (by omega) (by omega)
  · rw [← p_7]; exact e 7 (by omega) (by omega)
  · rw [show 20 + 43 * m = 12 + 43 * m + 8 by omega]; exact e 8 (by omega) (by omega)
theorem CF.fx {g g' : Nat → Int32} (h : CF g k tm) (hk6 : k ≤ 6) (f : FX g g' k) : CF g' k tm := by
  obtain ⟨h1, h2, h3, h4, h5, h6, h7⟩ := h
  refine ⟨fun m hm => ?_, fun m hm => ?_, NF_of h3 h1 hk6 (fun e he => (f.e he).2.2.2.2.1) (fun e he => (f.e he).2.2.2.2.2.1) (fun e he => (f.e he).2.2.2.2.2.2.1) (fun e he => Or.inl (f.e he).1), fun m hm => ?_, f.1.trans h5, fun m w a b c e => (f.2.2 m w a b c).trans (h6 m w a b c e), fun m hm => ?_⟩
  · rw [(f.e hm).2.2.2.2.1]; exact h1 m hm
  · rw [(f.e hm).1]; exact h2 m hm
  · rw [(f.e hm).1, (f.e hm).2.2.2.1]; exact h4 m hm
  · rw [(f.e hm).1, (f.e hm).2.2.2.2.2.2.2, (f.e hm).2.2.2.2.1]
    intro a b
    obtain ⟨c, c1, c2, c3⟩ := h7 m hm a b
    exact ⟨c, c1, c2, by rw [(f.e (show c < k by omega)).1]; exact c3⟩
theorem FX.trd {t o : Nat} {c ord : Int32} (hm : m < k) (ht : t < 6) (ho : o < 4) (hk6 : k ≤ 6) : FX S.1 (tr S m t o c ord).1 k := by
  refine ⟨tr_K (by omega) (by omega) (by omega) (by omega) (by omega) (by omega), fun m' w a b c' => ?_, fun m' w a b c' => ?_⟩
  · rcases Nat.lt_trichotomy m m' with g | g | g
    · exact tr_K (by omega) (by omega) (by omega) (by omega) (by omega) (by omega)
    · exact tr_K (by omega) (by omega) (by omega) (by omega) (by omega) (by omega)
    · exact tr_K (by omega) (by omega) (by omega) (by omega) (by omega) (by omega)
  · exact tr_K (by omega) (by omega) (by omega) (by omega) (by omega) (by omega)
theorem FX.u {g : Nat → Int32} {j : Nat} {v : Int32} (hj : 1 ≤ j) (hj2 : j < 12) : FX g (ug g j v) k :=
  ⟨ug_n (by omega), fun m w a b c => ug_n (by omega), fun m w a b c => ug_n (by omega)⟩
/-- the invariant: k markets, T trades, the next order's number N, the time -/
def INV (S : St) (k T N tm : Nat) : Prop := EW S k T ∧ SH S.1 k ∧ NB S N ∧ CF S.1 k tm
theorem INV.ti (h : INV S k T N tm) : TI S k := ⟨h.1.2.1.2.1, h.2.2.2.1, h.2.2.2.2.1, h.2.2.2.2.2.1⟩
theorem INV.trd {t o x y : Nat} {c ord : Int32} (h : INV S k T N tm) (hm : m < k) (ht : t < 6) (ho : o < 4) (hx : S.1 (21 + 43 * m + o) + c = nI x) (hy : S.1 (25 + 43 * m + 4 * t + o) + c = nI y) (hb : x < 1000 ∧ y < 1000) (hx4 : x ≤ 400) (hxy : ∀ s h, s < 1000 → h < 1000 → S.1 (21 + 43 * m + o) = nI s → S.1 (25 + 43 * m + 4 * t + o) = nI h → x + h = s + y) : INV (tr S m t o c ord) k (T + 1) N tm := by
  obtain ⟨h1, h2, h3, h4⟩ := h
  have hk6 := h1.1.2.1
  have f := FX.trd (S := S) (c := c) (ord := ord) hm ht ho hk6
  exact ⟨h1.trd ht ho hx hx4, h2.trd hm ht ho hx hy hb hx4 hxy, ⟨(tr_K (by omega) (by omega) (by omega) (by omega) (by omega) (by omega)).trans h3.1, h3.2⟩, h4.fx hk6 f⟩
/-- so many shares more -/
theorem INV.up {t o c : Nat} {ord : Int32} (h : INV S k T N tm) (hm : m < k) (ht : t < 6) (ho : o < 4) {s : Nat} (hs : S.1 (21 + 43 * m + o) = nI s) (hs4 : s + c ≤ 400) : INV (tr S m t o (nI c) ord) k (T + 1) N tm := by
  obtain ⟨s0, y0, q1, q3, q4, q5⟩ := h.2.1.le hm ht ho
  have e1 : ∀ s', s' < 1000 → S.1 (21 + 43 * m + o) = nI s' → s' = s0 := fun s' hs' e => (nIeq (by omega) (by omega)).mp (e.symm.trans q1)
  have e2 : ∀ s', s' < 1000 → S.1 (25 + 43 * m + 4 * t + o) = nI s' → s' = y0 := fun s' hs' e => (nIeq (by omega) (by omega)).mp (e.symm.trans q3)
  have e3 : s < 2147483648 := by omega
  have e4 : s = s0 := (nIeq e3 (by omega)).mp (hs.symm.trans q1)
  refine h.trd hm ht ho (x := s0 + c) (y := y0 + c) (by rw [q1, nIa]) (by rw [q3, nIa]) ⟨by omega, by omega⟩ (by omega) fun s' h' b1 b2 z1 z2 => ?_
  rw [e1 s' b1 z1, e2 h' b2 z2]
  omega
/-- so many shares less -/
theorem INV.dn {t o c : Nat} {ord : Int32} (h : INV S k T N tm) (hm : m < k) (ht : t < 6) (ho : o < 4) {y : Nat} (hy : S.1 (25 + 43 * m + 4 * t + o) = nI y) (hy2 : y < 1000) (hc : c ≤ y) : INV (tr S m t o (-(nI c)) ord) k (T + 1) N tm := by
  obtain ⟨s0, y0, q1, q3, q4, q5⟩ := h.2.1.le hm ht ho
  have e1 : ∀ s', s' < 1000 → S.1 (21 + 43 * m + o) = nI s' → s' = s0 := fun s' hs' e => (nIeq (by omega) (by omega)).mp (e.symm.trans q1)
  have e2 : ∀ s', s' < 1000 → S.1 (25 + 43 * m + 4 * t + o) = nI s' → s' = y0 := fun s' hs' e => (nIeq (by omega) (by omega)).mp (e.symm.trans q3)
  have e4 := e2 y hy2 hy
  refine h.trd hm ht ho (x := s0 - c) (y := y0 - c) (by rw [q1, add_neg_nI (by omega)]) (by rw [q3, add_neg_nI (by omega)]) ⟨by omega, by omega⟩ (by omega) fun s' h' b1 b2 z1 z2 => ?_
  rw [e1 s' b1 z1, e2 h' b2 z2]
  omega
theorem INV.xs {q : Nat} {x : Od} (h : INV S k T N tm) (hmk : m < k) (hx : S.2.1[q]? = some x) (hq : xq S.1 m x = true) : INV (xs1 S m q x) k (T + 1) N tm := by
  have hk6 := h.1.1.2.1
  obtain ⟨t, o, s, ht, ho, et, eo, es, hs, exs⟩ := xs1_c h.1.2.1 hk6 hmk hx hq
  have h1 := h.up (ord := x.1) (c := 1) hmk ht ho es (by omega)
  have ew := h.1.xs hmk hx hq
  rw [exs] at ew ⊢
  refine ⟨ew, h1.2.1.of fun m w a b c => by dsimp only; rw [ug_n (by omega)], ⟨by dsimp only; rw [ug_n (by omega)]; exact h1.2.2.1.1, fun y hy => ?_⟩, h1.2.2.2.fx hk6 (FX.u (by omega) (by omega))⟩
  rcases xl_mem hx hy with hy | ⟨rfl, -⟩
  · exact h.2.2.1.2 y hy
  · exact h.2.2.1.2 x (List.mem_of_getElem? hx)
theorem INV.exo (hmk : m < k) : ∀ (f : Nat) {S : St} {T : Nat}, INV S k T N tm → ∃ T', T ≤ T' ∧ T' ≤ T + f ∧ INV (xo f m S) k T' N tm
  | 0, S, T, h => ⟨T, by omega, by omega, h⟩
  | f + 1, S, T, h => by
    rw [xo]
    cases hq : S.2.1.findIdx? (xq S.1 m) with
    | none => exact ⟨T, by omega, by omega, h⟩
    | some i =>
      dsimp only
      cases hx : S.2.1[i]? with
      | none => exact ⟨T, by omega, by omega, h⟩
      | some x =>
        dsimp only
        have hq' : xq S.1 m x = true := by
          obtain ⟨h8, h9, -⟩ := List.findIdx?_eq_some_iff_getElem.mp hq
          obtain ⟨h8', e⟩ := List.getElem?_eq_some_iff.mp hx
          rw [e] at h9
          exact h9
        obtain ⟨T', h1, h2, h3⟩ := INV.exo hmk f (h.xs hmk hx hq')
        exact ⟨T', by omega, by omega, h3⟩
theorem INV.exa {S : St} {T : Nat} (h : INV S k T N tm) : ∀ i, i ≤ k → ∃ T', T ≤ T' ∧ T' ≤ T + 800 * i ∧ INV (xa i S) k T' N tm
  | 0, _ => ⟨T, by omega, by omega, h⟩
  | i + 1, hi => by
    obtain ⟨T1, h1, h2, h3⟩ := INV.exa h i (by omega)
    obtain ⟨T2, g1, g2, g3⟩ := INV.exo (m := i) (by omega) 800 h3
    have hm8 : 800 * (i + 1) = 800 * i + 800 := Nat.mul_succ 800 i
    rw [xa, hm8, ← Nat.add_assoc]
    exact ⟨T2, Nat.le_trans h1 g1, Nat.le_trans g2 (Nat.add_le_add_right h2 800), g3⟩
theorem INV.bal {t : Nat} (h : INV S k T N tm) (ht : t < 6) (v : Int32) : INV (ug S.1 (6 + t) v, S.2) k T N tm :=
  ⟨h.1.bal ht v, h.2.1.of fun m w a b c => by dsimp only; rw [ug_n (by omega)], ⟨by dsimp only; rw [ug_n (by omega)]; exact h.2.2.1.1, h.2.2.1.2⟩, h.2.2.2.fx h.1.1.2.1 (FX.u (by omega) (by omega))⟩
theorem INV.buy {t x y c : Int32} (h : INV S k T N tm) : ∃ T', T ≤ T' ∧ T' ≤ T + 801 ∧ INV (p_buy S t x y c).2 k T' N tm := by
  have hid : ∃ T', T ≤ T' ∧ T' ≤ T + 801 ∧ INV S k T' N tm := ⟨T, by omega, by omega, h⟩
  unfold p_buy
  split
  · rename_i g1
    obtain ⟨t, ht, rfl⟩ := tr_of g1
    rw [nIc (by omega)]
    split
    · rename_i g2
      obtain ⟨c, hc, rfl⟩ := nI_ofr (k := 51) (Int32.le_trans (by decide) g2.1) (Int32.lt_of_le_of_lt g2.2 (by decide)) (by omega)
      rcases mW_c h.1.1 x y with ⟨m, n, o, hm, rfl, hn, n2, n4, ho, rfl, em⟩ | ⟨em, -⟩
      · rw [em]
        dsimp only
        split
        · split
          · rename_i g4
            split
            · exact hid
            · obtain ⟨s0, y0, q1, q3, q4, q5⟩ := h.2.1.le hm ht (show o < 4 by omega)
              rw [show qs S.1 m o = nI s0 from q1, nIa, nIle (by omega) (by omega), nIle (by omega) (by omega)] at g4
              obtain ⟨T', t1, t2, t3⟩ := INV.exo hm 800 (h.up (ord := -1) (c := c) hm ht (show o < 4 by omega) q1 (by omega))
              exact ⟨T', by omega, by omega, t3⟩
          · exact hid
        · exact hid
      · rw [em]
        exact hid
    · exact hid
  · exact hid
theorem INV.sell {t x y c : Int32} (h : INV S k T N tm) : ∃ T', T ≤ T' ∧ T' ≤ T + 801 ∧ INV (p_sell S t x y c).2 k T' N tm := by
  have hid : ∃ T', T ≤ T' ∧ T' ≤ T + 801 ∧ INV S k T' N tm := ⟨T, by omega, by omega, h⟩
  unfold p_sell
  split
  · rename_i g1
    obtain ⟨t, ht, rfl⟩ := tr_of g1
    rw [nIc (by omega)]
    split
    · rename_i g2
      obtain ⟨c, hc, rfl⟩ := nI_ofr (k := 51) (Int32.le_trans (by decide) g2.1) (Int32.lt_of_le_of_lt g2.2 (by decide)) (by omega)
      rcases mW_c h.1.1 x y with ⟨m, n, o, hm, rfl, hn, n2, n4, ho, rfl, em⟩ | ⟨em, -⟩
      · rw [em]
        dsimp only
        split
        · split
          · exact hid
          · rename_i g4
            obtain ⟨s0, y0, q1, q3, q4, q5⟩ := h.2.1.le hm ht (show o < 4 by omega)
            rw [show hq S.1 m t o = nI y0 from q3, nIlt (by omega) (by omega)] at g4
            obtain ⟨T', t1, t2, t3⟩ := INV.exo hm 800 (h.dn (ord := -1) (c := c) hm ht (show o < 4 by omega) q3 (by omega) (by omega))
            exact ⟨T', by omega, by omega, t3⟩
        · exact hid
      · rw [em]
        exact hid
    · exact hid
  · exact hid
theorem INV.dep {t c : Int32} (h : INV S k T N tm) : ∃ T', T ≤ T' ∧ T' ≤ T + 4800 ∧ INV (p_dep S t c).2 k T' N tm := by
  have hid : ∃ T', T ≤ T' ∧ T' ≤ T + 4800 ∧ INV S k T' N tm := ⟨T, by omega, by omega, h⟩
  have hk6 := h.1.1.2.1
  unfold p_dep
  split
  · rename_i g1
    obtain ⟨t, ht, rfl⟩ := tr_of g1
    rw [nIc (by omega)]
    split
    · split
      · exact hid
      · rw [h.1.1.1, nIc (by omega)]
        obtain ⟨T', t1, t2, t3⟩ := (h.bal ht (S.1 (6 + t) + c * nI 2880)).exa k (Nat.le_refl _)
        exact ⟨T', t1, by omega, t3⟩
    · exact hid
  · exact hid
theorem INV.wd {t c : Int32} (h : INV S k T N tm) : INV (p_wd S t c).2 k T N tm := by
  unfold p_wd
  split
  · rename_i g1
    obtain ⟨t, ht, rfl⟩ := tr_of g1
    rw [nIc (by omega)]
    split
    · split
      · exact h
      · exact h.bal ht _
    · exact h
  · exact h
end INV
