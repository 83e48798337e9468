/-! the reference sells -/
/-- the shares of an outcome are what the traders hold -/
def SH (g : Nat → Int32) (k : Nat) : Prop := ∀ m, m < k → ∃ h : Nat → Nat → Nat, (∀ t o, t < 6 → o < 4 → g (25 + 43 * m + 4 * t + o) = nI (h t o)) ∧ ∀ o, o < 4 → g (21 + 43 * m + o) = nI (h 0 o + h 1 o + h 2 o + h 3 o + h 4 o + h 5 o) ∧ h 0 o + h 1 o + h 2 o + h 3 o + h 4 o + h 5 o ≤ 400
theorem SH.of {g g' : Nat → Int32} {k : Nat} (h : SH g k) (e : ∀ m w, 9 ≤ w → w < 37 → m < k → g' (12 + 43 * m + w) = g (12 + 43 * m + w)) : SH g' k := fun m hm => by
  obtain ⟨f, h1, h2⟩ := h m hm
  refine ⟨f, fun t o ht ho => ?_, fun o ho => ?_⟩
  · rw [show 25 + 43 * m + 4 * t + o = 12 + 43 * m + (13 + 4 * t + o) by omega, e m _ (by omega) (by omega) hm, ← h1 t o ht ho]
    congr 1
    omega
  · rw [show 21 + 43 * m + o = 12 + 43 * m + (9 + o) by omega, e m _ (by omega) (by omega) hm, ← (h2 o ho).1]
    refine ⟨?_, (h2 o ho).2⟩
    congr 1
    omega
theorem SH.trd {S : St} {k m t o x y : Nat} {c ord : Int32} (h : SH S.1 k) (hm : m < k) (ht : t < 6) (ho : o < 4) (hx : S.1 (21 + 43 * m + o) + c = nI x) (hy : S.1 (25 + 43 * m + 4 * t + o) + c = nI y) (hb : x < 1000 ∧ y < 1000) (hx4 : x ≤ 400) (hxy : ∀ s h, s < 1000 → h < 1000 → S.1 (21 + 43 * m + o) = nI s → S.1 (25 + 43 * m + 4 * t + o) = nI h → x + h = s + y) : SH (tr S m t o c ord).1 k := by
  intro m' hm'
  obtain ⟨f, h1, h2⟩ := h m' hm'
  have es : ∀ j, j < 4 → (tr S m t o c ord).1 (21 + 43 * m' + j) = if m' = m ∧ j = o then nI x else S.1 (21 + 43 * m' + j) := fun j hj => by
    unfold tr tr_g
    dsimp only
    by_cases e : m' = m ∧ j = o
    · obtain ⟨rfl, rfl⟩ := e
      rw [if_pos ⟨rfl, rfl⟩, ug_n (by omega), ug_s, hx]
    · rw [if_neg e]
      rcases Nat.lt_trichotomy m m' with g | g | g
      · rw [ug_n (by omega), ug_n (by omega), ug_n (by omega), ug_n (by omega), ug_n (by omega), ug_n (by omega)]
      · rw [ug_n (by omega), ug_n (by omega), ug_n (by omega), ug_n (by omega), ug_n (by omega), ug_n (by omega)]
      · rw [ug_n (by omega), ug_n (by omega), ug_n (by omega), ug_n (by omega), ug_n (by omega), ug_n (by omega)]
  have eh : ∀ u j, u < 6 → j < 4 → (tr S m t o c ord).1 (25 + 43 * m' + 4 * u + j) = if m' = m ∧ u = t ∧ j = o then nI y else S.1 (25 + 43 * m' + 4 * u + j) := fun u j hu hj => by
    unfold tr
    dsimp only
    rw [tr_g_alt ht ho]
    by_cases e : m' = m ∧ u = t ∧ j = o
    · obtain ⟨rfl, rfl, rfl⟩ := e
      rw [if_pos ⟨rfl, rfl, rfl⟩, ug_n (by omega), ug_n (by omega), ug_n (by omega), ug_n (by omega), ug_s, hy]
    · rw [if_neg e]
      rcases Nat.lt_trichotomy m m' with g | g | g
      · rw [ug_n (by omega), ug_n (by omega), ug_n (by omega), ug_n (by omega), ug_n (by omega), ug_n (by omega)]
      · rw [ug_n (by omega), ug_n (by omega), ug_n (by omega), ug_n (by omega), ug_n (by omega), ug_n (by omega)]
      · rw [ug_n (by omega), ug_n (by omega), ug_n (by omega), ug_n (by omega), ug_n (by omega), ug_n (by omega)]
  by_cases em : m' = m
  · subst em
    have e0 := hxy _ _ (by have := (h2 o ho).2; omega) (by have := (h2 o ho).2; rcases (by omega : t = 0 ∨ t = 1 ∨ t = 2 ∨ t = 3 ∨ t = 4 ∨ t = 5) with rfl | rfl | rfl | rfl | rfl | rfl <;> omega) (h2 o ho).1 (h1 t o ht ho)
    refine ⟨fun u j => if u = t ∧ j = o then y else f u j, fun u j hu hj => ?_, fun j hj => ?_⟩
    · rw [eh u j hu hj]
      by_cases e : u = t ∧ j = o
      · obtain ⟨rfl, rfl⟩ := e
        rw [if_pos ⟨rfl, rfl, rfl⟩]
        dsimp only
        rw [if_pos ⟨rfl, rfl⟩]
      · rw [if_neg (fun g => e g.2)]
        dsimp only
        rw [if_neg e]
        exact h1 u j hu hj
    · rw [es j hj]
      by_cases e : j = o
      · subst e
        rw [if_pos ⟨rfl, rfl⟩]
        have : x = (if 0 = t ∧ j = j then y else f 0 j) + (if 1 = t ∧ j = j then y else f 1 j) + (if 2 = t ∧ j = j then y else f 2 j) + (if 3 = t ∧ j = j then y else f 3 j) + (if 4 = t ∧ j = j then y else f 4 j) + (if 5 = t ∧ j = j then y else f 5 j) := by
          rcases (by omega : t = 0 ∨ t = 1 ∨ t = 2 ∨ t = 3 ∨ t = 4 ∨ t = 5) with rfl | rfl | rfl | rfl | rfl | rfl <;> simp <;> omega
        rw [← this]
        exact ⟨rfl, hx4⟩
      · rw [if_neg (fun g => e g.2)]
        simp only [e, and_false, if_false]
        exact h2 j hj
  · refine ⟨f, fun u j hu hj => ?_, fun j hj => ?_⟩
    · rw [eh u j hu hj, if_neg (fun g => em g.1)]
      exact h1 u j hu hj
    · rw [es j hj, if_neg (fun g => em g.1)]
      exact h2 j hj
section RSELL
variable {I : Nat → Nat → Int32} {J : Nat → Int32} {M : Nat → Nat → Nat} {S : St} {m k T : Nat} {d : Nat} {Q : Option Value → ai_H → Prop}
theorem SH.le (h : SH S.1 k) {m t o : Nat} (hm : m < k) (ht : t < 6) (ho : o < 4) : ∃ s y, S.1 (21 + 43 * m + o) = nI s ∧ S.1 (25 + 43 * m + 4 * t + o) = nI y ∧ y ≤ s ∧ s ≤ 400 := by
  obtain ⟨f, h1, h2⟩ := h m hm
  refine ⟨_, _, (h2 o ho).1, h1 t o ht ho, ?_, (h2 o ho).2⟩
  rcases (by omega : t = 0 ∨ t = 1 ∨ t = 2 ∨ t = 3 ∨ t = 4 ∨ t = 5) with rfl | rfl | rfl | rfl | rfl | rfl <;> omega
theorem add_neg_nI {a b : Nat} (h : b ≤ a) : nI a + -(nI b) = nI (a - b) := by rw [← Int32.sub_eq_add_neg, pk_sub h]
theorem r122 (hm : RM M) (hj : RJ J S k) (h : EW S k T) (hsh : SH S.1 k) (hb : T < 999980000) {t x y c : Int32} (kk : ∀ J', RJ J' (p_sell S t x y c).2 k → Q (some (.int (p_sell S t x y c).1)) (LK, sr I J', M)) : Cl (d + 9) 122 [.ref 229, .int t, .int x, .int y, .int c] (LK, sr I J, M) Q := by
  obtain ⟨w1, w2, w3, w4, w5⟩ := id h
  obtain ⟨v1, v2, v3, v4⟩ := id w2
  have hk6 := hj.2.1
  have rd := hj.2.2.1
  have hjr : RJ ((sr I J) 230) S k := hj
  have n10 : (nI 1 = nI 0) = False := eq_false (by decide)
  unfold p_sell at kk
  by_cases g1 : nI 0 ≤ t ∧ t ≤ nI 5
  · rw [if_pos g1] at kk
    obtain ⟨t, ht, rfl⟩ := tr_of g1
    rw [nIc (by omega)] at kk
    by_cases g2 : nI 1 ≤ c ∧ c ≤ nI 50
    · rw [if_pos g2] at kk
      simp (disch := omega) only [E122, K122, ai_c1i, ai_c1n, ai_c1r, e_al0, e_an0, e_b0, e_b2, e_c3, e_const, e_cs1, e_cs3, e_cv2, e_cv3, e_cv6, e_il1, e_il2, e_il3, e_il4, e_il5, e_is5, e_neg, e_reti, e_z0, e_z1, Option.toList_some, Option.toList_none, List.cons_append, List.nil_append, List.append_nil, List.length_cons, List.length_nil, Nat.reduceAdd, Nat.reduceLeDiff, Nat.zero_le, true_and, and_true, and_self, true_implies, forall_const, ai_rvs, ai_rv0, ai_b_0, Classical.not_not, not_true_eq_false, false_implies, not_false_eq_true, true_implies, and_true, true_and, if_true, if_false, Bool.false_eq_true, q_229, a_nw, r103, c97, g1, g2, n10]
      refine r102 hm w1 hjr (fun m n o hmk ex hn n2 n4 ho ey em => ?_) (fun em => ?_)
      · rw [em] at kk
        dsimp only at kk
        subst ex ey
        obtain ⟨n', b, s, h1, n2', n4', h2, b1, b2, h3⟩ := v1 m hmk
        obtain rfl := (nIeq (by omega) (by omega)).mp (h1.symm.trans hn)
        obtain ⟨s0, y0, q1, q3, q4, q5⟩ := hsh.le hmk ht (show o < 4 by omega)
        obtain ⟨c, hc, rfl⟩ := nI_ofr (k := 51) (Int32.le_trans (by decide) g2.1) (Int32.lt_of_le_of_lt g2.2 (by decide)) (by omega)
        have rst : J (12 + 43 * m + 0) = S.1 (12 + 43 * m) := rd _ (by omega) (by omega)
        have rhe : J (12 + 43 * m + (13 + 4 * t + o)) = nI y0 := by rw [show 12 + 43 * m + (13 + 4 * t + o) = 25 + 43 * m + 4 * t + o by omega, rd _ (by omega) (by omega)]; exact q3
        have hr : RK J m n' b s := RK.of hmk hk6 rd h1 n4 h2 b2 h3
        have e4 : (hq S.1 m t o < nI c) ↔ y0 < c := by
          rw [show hq S.1 m t o = nI y0 from q3, nIlt (by omega) (by omega)]
        by_cases g3 : S.1 (12 + 43 * m) = nI 0
        · rw [if_pos g3] at kk
          by_cases g4 : y0 < c
          · rw [if_pos (e4.mpr g4)] at kk
            have g4' : ¬ c ≤ y0 := by omega
            simp (disch := omega) only [K122, ai_c1i, ai_c1n, ai_c1r, e_al0, e_an0, e_b0, e_b2, e_c3, e_const, e_cs1, e_cs3, e_cv2, e_cv3, e_cv6, e_il1, e_il2, e_il3, e_il4, e_il5, e_is5, e_neg, e_reti, e_z0, e_z1, Option.toList_some, Option.toList_none, List.cons_append, List.nil_append, List.append_nil, List.length_cons, List.length_nil, Nat.reduceAdd, Nat.reduceLeDiff, Nat.zero_le, true_and, and_true, and_self, true_implies, forall_const, ai_rvs, ai_rv0, ai_b_0, Classical.not_not, not_true_eq_false, false_implies, not_false_eq_true, true_implies, and_true, true_and, if_true, if_false, Bool.false_eq_true, q_229, a_nw, n10, r100 hm, sr_r, rst, g3, rhe, nIa, nIm, nIle, g4']
            exact kk J hj
          · rw [if_neg (fun g => g4 (e4.mp g))] at kk
            have g4' : c ≤ y0 := by omega
            have hsx : J (21 + 43 * m + o) + -(nI c) = nI (s0 - c) := by rw [rd _ (by omega) (by omega), q1, add_neg_nI (by omega)]
            simp (disch := omega) only [K122, ai_c1i, ai_c1n, ai_c1r, e_al0, e_an0, e_b0, e_b2, e_c3, e_const, e_cs1, e_cs3, e_cv2, e_cv3, e_cv6, e_il1, e_il2, e_il3, e_il4, e_il5, e_is5, e_neg, e_reti, e_z0, e_z1, Option.toList_some, Option.toList_none, List.cons_append, List.nil_append, List.append_nil, List.length_cons, List.length_nil, Nat.reduceAdd, Nat.reduceLeDiff, Nat.zero_le, true_and, and_true, and_self, true_implies, forall_const, ai_rvs, ai_rv0, ai_b_0, Classical.not_not, not_true_eq_false, false_implies, not_false_eq_true, true_implies, and_true, true_and, if_true, if_false, Bool.false_eq_true, q_229, a_nw, n10, r100 hm, sr_r, rst, g3, rhe, nIa, nIm, nIle, g4']
            refine r117 hm hj hmk w4 (by omega) hr (by omega) b1 ht ho hsx (by omega) fun J1 hc1 hj1 => ?_
            have ew := h.trd (m := m) (ord := -1) ht (show o < 4 by omega) (c := -(nI c)) (x := s0 - c) (by rw [q1, add_neg_nI (by omega)]) (by omega)
            simp (disch := omega) only [K122, ai_c1i, ai_c1n, ai_c1r, e_al0, e_an0, e_b0, e_b2, e_c3, e_const, e_cs1, e_cs3, e_cv2, e_cv3, e_cv6, e_il1, e_il2, e_il3, e_il4, e_il5, e_is5, e_neg, e_reti, e_z0, e_z1, Option.toList_some, Option.toList_none, List.cons_append, List.nil_append, List.append_nil, List.length_cons, List.length_nil, Nat.reduceAdd, Nat.reduceLeDiff, Nat.zero_le, true_and, and_true, and_self, true_implies, forall_const, ai_rvs, ai_rv0, ai_b_0, Classical.not_not, not_true_eq_false, false_implies, not_false_eq_true, true_implies, and_true, true_and, if_true, if_false, Bool.false_eq_true, q_229, a_nw]
            refine r126' hm hmk ew hj1 (by omega) fun J2 hj2 => ?_
            simp (disch := omega) only [K122, ai_c1i, ai_c1n, ai_c1r, e_al0, e_an0, e_b0, e_b2, e_c3, e_const, e_cs1, e_cs3, e_cv2, e_cv3, e_cv6, e_il1, e_il2, e_il3, e_il4, e_il5, e_is5, e_neg, e_reti, e_z0, e_z1, Option.toList_some, Option.toList_none, List.cons_append, List.nil_append, List.append_nil, List.length_cons, List.length_nil, Nat.reduceAdd, Nat.reduceLeDiff, Nat.zero_le, true_and, and_true, and_self, true_implies, forall_const, ai_rvs, ai_rv0, ai_b_0, Classical.not_not, not_true_eq_false, false_implies, not_false_eq_true, true_implies, and_true, true_and, if_true, if_false, Bool.false_eq_true, q_229, a_nw]
            exact kk J2 hj2
        · rw [if_neg g3] at kk
          simp (disch := omega) only [K122, ai_c1i, ai_c1n, ai_c1r, e_al0, e_an0, e_b0, e_b2, e_c3, e_const, e_cs1, e_cs3, e_cv2, e_cv3, e_cv6, e_il1, e_il2, e_il3, e_il4, e_il5, e_is5, e_neg, e_reti, e_z0, e_z1, Option.toList_some, Option.toList_none, List.cons_append, List.nil_append, List.append_nil, List.length_cons, List.length_nil, Nat.reduceAdd, Nat.reduceLeDiff, Nat.zero_le, true_and, and_true, and_self, true_implies, forall_const, ai_rvs, ai_rv0, ai_b_0, Classical.not_not, not_true_eq_false, false_implies, not_false_eq_true, true_implies, and_true, true_and, if_true, if_false, Bool.false_eq_true, q_229, a_nw, n10, r100 hm, sr_r, rst, g3]
          exact kk J hj
      · rw [em] at kk
        simp (disch := omega) only [K122, ai_c1i, ai_c1n, ai_c1r, e_al0, e_an0, e_b0, e_b2, e_c3, e_const, e_cs1, e_cs3, e_cv2, e_cv3, e_cv6, e_il1, e_il2, e_il3, e_il4, e_il5, e_is5, e_neg, e_reti, e_z0, e_z1, Option.toList_some, Option.toList_none, List.cons_append, List.nil_append, List.append_nil, List.length_cons, List.length_nil, Nat.reduceAdd, Nat.reduceLeDiff, Nat.zero_le, true_and, and_true, and_self, true_implies, forall_const, ai_rvs, ai_rv0, ai_b_0, Classical.not_not, not_true_eq_false, false_implies, not_false_eq_true, true_implies, and_true, true_and, if_true, if_false, Bool.false_eq_true, q_229, a_nw]
        exact kk J hj
    · rw [if_neg g2] at kk
      simp (disch := omega) only [E122, K122, ai_c1i, ai_c1n, ai_c1r, e_al0, e_an0, e_b0, e_b2, e_c3, e_const, e_cs1, e_cs3, e_cv2, e_cv3, e_cv6, e_il1, e_il2, e_il3, e_il4, e_il5, e_is5, e_neg, e_reti, e_z0, e_z1, Option.toList_some, Option.toList_none, List.cons_append, List.nil_append, List.append_nil, List.length_cons, List.length_nil, Nat.reduceAdd, Nat.reduceLeDiff, Nat.zero_le, true_and, and_true, and_self, true_implies, forall_const, ai_rvs, ai_rv0, ai_b_0, Classical.not_not, not_true_eq_false, false_implies, not_false_eq_true, true_implies, and_true, true_and, if_true, if_false, Bool.false_eq_true, q_229, a_nw, r103, c97, g1, g2]
      exact kk J hj
  · rw [if_neg g1] at kk
    simp (disch := omega) only [E122, K122, ai_c1i, ai_c1n, ai_c1r, e_al0, e_an0, e_b0, e_b2, e_c3, e_const, e_cs1, e_cs3, e_cv2, e_cv3, e_cv6, e_il1, e_il2, e_il3, e_il4, e_il5, e_is5, e_neg, e_reti, e_z0, e_z1, Option.toList_some, Option.toList_none, List.cons_append, List.nil_append, List.append_nil, List.length_cons, List.length_nil, Nat.reduceAdd, Nat.reduceLeDiff, Nat.zero_le, true_and, and_true, and_self, true_implies, forall_const, ai_rvs, ai_rv0, ai_b_0, Classical.not_not, not_true_eq_false, false_implies, not_false_eq_true, true_implies, and_true, true_and, if_true, if_false, Bool.false_eq_true, q_229, a_nw, r103, g1]
    exact kk J hj
end RSELL
