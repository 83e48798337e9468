/-! the reference tells of markets -/
theorem sw7_in {k a : Nat} {tb : List Nat} (hk : k < 1000) : (if (nI k).toInt < (nI 7).toInt then a else (tb[((nI k).toInt - (nI 7).toInt).toNat]?).getD a) = if k < 7 then a else (tb[k - 7]?).getD a := by
  have e0 : (nI 7).toInt = 7 := by decide
  have e1 : (nI k).toInt = k := nI_toInt (by omega)
  rw [e0, e1]
  by_cases g : k < 7
  · rw [if_pos (by omega), if_pos g]
  · rw [if_neg (by omega), if_neg g]
    congr 2
    omega
theorem sw7_out {x : Int32} {a : Nat} {tb : List Nat} (hn : tb.length = 5) (hx : ∀ k, k < 12 → x ≠ nI k) : (if x.toInt < (nI 7).toInt then a else (tb[(x.toInt - (nI 7).toInt).toNat]?).getD a) = a := by
  have e0 : (nI 7).toInt = 7 := by decide
  rw [e0]
  split
  · rfl
  · rw [List.getElem?_eq_none, Option.getD_none]
    rw [hn]
    apply Nat.le_of_not_lt
    intro h1
    refine hx x.toInt.toNat (by omega) ?_
    apply Int32.toInt_inj.mp
    rw [nI_toInt (by omega)]
    omega
theorem mx_N {q : Nat → Int32} {s : Nat → Nat} : ∀ i, (∀ o, o < i → q o = nI (s o) ∧ s o < 1000) → ∃ v, m_mx q i = nI v ∧ v < 1000 ∧ (∀ j, j < i → s j ≤ v) ∧ (v = 0 ∨ ∃ j, j < i ∧ v = s j)
  | 0, _ => ⟨0, rfl, by omega, fun j hj => absurd hj (by omega), Or.inl rfl⟩
  | i + 1, h => by
    obtain ⟨v, h1, h2, h3, h4⟩ := mx_N i fun o ho => h o (by omega)
    obtain ⟨q1, q2⟩ := h i (by omega)
    rw [m_mx, m_max, h1, q1]
    have gi := nIlt (a := v) (b := s i) (by omega) (by omega)
    by_cases g : v < s i
    · rw [if_pos (gi.mpr g)]
      refine ⟨s i, rfl, q2, fun j hj => ?_, Or.inr ⟨i, by omega, rfl⟩⟩
      by_cases e : j = i
      · subst e; exact Nat.le_refl _
      · have := h3 j (by omega)
        omega
    · rw [if_neg (fun h => g (gi.mp h))]
      refine ⟨v, rfl, h2, fun j hj => ?_, ?_⟩
      · by_cases e : j = i
        · subst e; omega
        · exact h3 j (by omega)
      · rcases h4 with h4 | ⟨j, hj, e⟩
        · exact Or.inl h4
        · exact Or.inr ⟨j, by omega, e⟩
theorem mx_rk {q : Nat → Int32} {s : Nat → Nat} {n : Nat} (hn : 1 ≤ n) (h : ∀ o, o < n → q o = nI (s o) ∧ s o < 1000) : m_mx q n = nI (s (rk s n 0)) := by
  obtain ⟨v, h1, h2, h3, h4⟩ := mx_N n h
  obtain ⟨g1, g2, g3⟩ := rk_s (s := s) (n := n) (p := 0) (by omega)
  have hle : ∀ j, j < n → s j ≤ s (rk s n 0) := fun j hj => by
    unfold cnt at g3
    rw [List.countP_eq_zero] at g3
    have := g3 j (List.mem_range.mpr hj)
    rw [ahd_c] at this
    omega
  have := h3 _ g2
  rw [h1]
  congr 1
  rcases h4 with h4 | ⟨j, hj, e⟩
  · omega
  · have := hle j hj
    omega
section RMKT
variable {I : Nat → Nat → Int32} {J : Nat → Int32} {M : Nat → Nat → Nat} {S : St} {m k T : Nat} {d : Nat} {Q : Option Value → ai_H → Prop}
theorem r140 (hm : RM M) (hj : RJ J S k) (hv : VB S.1 k) (hmv : MV S.1 k) {x w : Int32} (kk : Q (some (.int (p_mkt S x w))) (LK, sr I J, M)) : Cl (d + 7) 140 [.ref 229, .int x, .int w] (LK, sr I J, M) Q := by
  have hk6 := hj.2.1
  have rd := hj.2.2.1
  have hjr : RJ ((sr I J) 230) S k := hj
  have n10 : (nI 1 = nI 0) = False := eq_false (by decide)
  unfold p_mkt at kk
  simp (disch := omega) only [E140, K140_0, K140_1, ai_c1i, ai_c1n, ai_c1r, e_al0, e_an0, e_b1, e_b2, e_const, e_cs3, e_cv2, e_cv3, e_div, e_goto, e_il1, e_il2, e_reti, e_sw, e_z0, e_z1, Option.toList_some, Option.toList_none, List.cons_append, List.nil_append, List.append_nil, List.length_cons, List.length_nil, Nat.reduceAdd, Nat.reduceLeDiff, Nat.zero_le, true_and, and_true, and_self, true_implies, forall_const, ai_rvs, ai_rv0, ai_b_0, Classical.not_not, not_true_eq_false, false_implies, not_false_eq_true, true_implies, and_true, true_and, if_true, if_false, Bool.false_eq_true, q_229, a_nw]
  refine r101 hm hv hjr (fun m hmk ex em => ?_) (fun em => ?_)
  · rw [em] at kk
    subst ex
    dsimp only at kk
    obtain ⟨n, b, s, h1, n2, n4, h2, b1, b2, h3⟩ := hmv m hmk
    have hr : RK ((sr I J) 230) m n b s := RK.of hmk hk6 rd h1 n4 h2 b2 h3
    rw [nN_of h1 n4] at kk
    have r0 : J (12 + 43 * m + 0) = S.1 (12 + 43 * m) := rd _ (by omega) (by omega)
    have r1 : J (12 + 43 * m + 1) = S.1 (13 + 43 * m) := by rw [rd _ (by omega) (by omega), p_1]
    have r2 : J (12 + 43 * m + 2) = S.1 (14 + 43 * m) := by rw [rd _ (by omega) (by omega), p_2]
    have r3 : J (12 + 43 * m + 3) = S.1 (15 + 43 * m) := by rw [rd _ (by omega) (by omega), p_3]
    have r4 : J (12 + 43 * m + 4) = S.1 (16 + 43 * m) := by rw [rd _ (by omega) (by omega), p_4]
    have r5 : J (12 + 43 * m + 5) = S.1 (17 + 43 * m) := by rw [rd _ (by omega) (by omega), p_5]
    have r6 : J (12 + 43 * m + 6) = S.1 (18 + 43 * m) := by rw [rd _ (by omega) (by omega), p_6]
    have r7 : J (12 + 43 * m + 7) = S.1 (19 + 43 * m) := by rw [rd _ (by omega) (by omega), p_7]
    have hq : ∀ o, o < n → qs S.1 m o = nI (s o) ∧ s o < 1000 := fun o ho => ⟨(h3 o ho).1, by have := (h3 o ho).2; omega⟩
    rcases sw_cases w 12 with ⟨j, hj12, rfl⟩ | hx
    · rcases (by omega : (j = 0 ∨ j = 1 ∨ j = 2 ∨ j = 3 ∨ j = 4 ∨ j = 5 ∨ j = 6) ∨ j = 7 ∨ j = 8 ∨ j = 9 ∨ j = 10 ∨ j = 11) with (rfl | rfl | rfl | rfl | rfl | rfl | rfl) | rfl | rfl | rfl | rfl | rfl
      any_goals
        simp (disch := omega) only [m_prop, nIeq, Nat.reduceEqDiff, Nat.one_ne_zero, Nat.zero_ne_one, if_true, if_false] at kk
        simp (disch := omega) only [K140_0, K140_1, ai_c1i, ai_c1n, ai_c1r, e_al0, e_an0, e_b1, e_b2, e_const, e_cs3, e_cv2, e_cv3, e_div, e_goto, e_il1, e_il2, e_reti, e_sw, e_z0, e_z1, Option.toList_some, Option.toList_none, List.cons_append, List.nil_append, List.append_nil, List.length_cons, List.length_nil, Nat.reduceAdd, Nat.reduceLeDiff, Nat.zero_le, true_and, and_true, and_self, true_implies, forall_const, ai_rvs, ai_rv0, ai_b_0, Classical.not_not, not_true_eq_false, false_implies, not_false_eq_true, true_implies, and_true, true_and, if_true, if_false, Bool.false_eq_true, q_229, a_nw, n10, sw7_in, Nat.reduceLT, Nat.reduceSub, List.getElem?_cons_zero, List.getElem?_cons_succ, Option.getD_some, c97, nIle, r100 hm, sr_r, r0, r1, r2, r3, r4, r5, r6, r7]
        exact kk
      · simp (disch := omega) only [m_prop, nIeq, Nat.reduceEqDiff, Nat.one_ne_zero, Nat.zero_ne_one, if_true, if_false] at kk
        have hd : nI 2880 / nI n = nI (2880 / n) := pk_div (by omega) (by omega) (by omega)
        have hs : nI n - nI 1 = nI (n - 1) := pk_sub (by omega)
        have hz : (nI n = 0) = False := eq_false (fun h => by
          have := (nIeq (by omega) (by omega)).mp (h.trans nI_0.symm)
          omega)
        have eb : m_bnd S.1 m = nI (2880 / n * b * (n - 1)) := by
          unfold m_bnd
          have hbd : 2880 * b * (n - 1) < 2147483648 := by
            have := Nat.mul_le_mul (Nat.mul_le_mul (Nat.le_refl 2880) b2) (show n - 1 ≤ 3 by omega)
            omega
          rw [h1, h2, if_neg (fun h => by have := (nIeq (by omega) (by omega)).mp h; omega), hs, nIm, nIm, pk_div hbd (by omega) (by omega)]
          congr 1
          rcases (by omega : n = 2 ∨ n = 3 ∨ n = 4) with rfl | rfl | rfl <;> omega
        rw [eb] at kk
        simp (disch := omega) only [K140_0, K140_1, ai_c1i, ai_c1n, ai_c1r, e_al0, e_an0, e_b1, e_b2, e_const, e_cs3, e_cv2, e_cv3, e_div, e_goto, e_il1, e_il2, e_reti, e_sw, e_z0, e_z1, Option.toList_some, Option.toList_none, List.cons_append, List.nil_append, List.append_nil, List.length_cons, List.length_nil, Nat.reduceAdd, Nat.reduceLeDiff, Nat.zero_le, true_and, and_true, and_self, true_implies, forall_const, ai_rvs, ai_rv0, ai_b_0, Classical.not_not, not_true_eq_false, false_implies, not_false_eq_true, true_implies, and_true, true_and, if_true, if_false, Bool.false_eq_true, q_229, a_nw, n10, sw7_in, Nat.reduceLT, Nat.reduceSub, List.getElem?_cons_zero, List.getElem?_cons_succ, Option.getD_some, r100 hm, sr_r, r1, r2, h1, h2, hd, hs, hz, nIm]
        refine ⟨?_, kk⟩
        exact fun h => by have := (nIeq (by omega) (by omega)).mp h; omega
      · simp (disch := omega) only [m_prop, nIeq, Nat.reduceEqDiff, Nat.one_ne_zero, Nat.zero_ne_one, if_true, if_false] at kk
        have eL : m_lev (fun o => sr I J 230 (21 + 43 * m + o)) n (nI b) = m_lev (qs S.1 m) n (S.1 (13 + 43 * m)) := by
          rw [h2]
          exact lev_congr fun j hj' => rd _ (by omega) (by omega)
        simp (disch := omega) only [K140_0, K140_1, ai_c1i, ai_c1n, ai_c1r, e_al0, e_an0, e_b1, e_b2, e_const, e_cs3, e_cv2, e_cv3, e_div, e_goto, e_il1, e_il2, e_reti, e_sw, e_z0, e_z1, Option.toList_some, Option.toList_none, List.cons_append, List.nil_append, List.append_nil, List.length_cons, List.length_nil, Nat.reduceAdd, Nat.reduceLeDiff, Nat.zero_le, true_and, and_true, and_self, true_implies, forall_const, ai_rvs, ai_rv0, ai_b_0, Classical.not_not, not_true_eq_false, false_implies, not_false_eq_true, true_implies, and_true, true_and, if_true, if_false, Bool.false_eq_true, q_229, a_nw, n10, sw7_in, Nat.reduceLT, Nat.reduceSub, List.getElem?_cons_zero, List.getElem?_cons_succ, Option.getD_some, R107 hm hr (show 1 ≤ n by omega) b1, eL]
        exact kk
      · simp (disch := omega) only [m_prop, nIeq, Nat.reduceEqDiff, Nat.one_ne_zero, Nat.zero_ne_one, if_true, if_false] at kk
        rw [h2, (k_N (by omega) n4 b1 b2 hq).1] at kk
        simp (disch := omega) only [K140_0, K140_1, ai_c1i, ai_c1n, ai_c1r, e_al0, e_an0, e_b1, e_b2, e_const, e_cs3, e_cv2, e_cv3, e_div, e_goto, e_il1, e_il2, e_reti, e_sw, e_z0, e_z1, Option.toList_some, Option.toList_none, List.cons_append, List.nil_append, List.append_nil, List.length_cons, List.length_nil, Nat.reduceAdd, Nat.reduceLeDiff, Nat.zero_le, true_and, and_true, and_self, true_implies, forall_const, ai_rvs, ai_rv0, ai_b_0, Classical.not_not, not_true_eq_false, false_implies, not_false_eq_true, true_implies, and_true, true_and, if_true, if_false, Bool.false_eq_true, q_229, a_nw, n10, sw7_in, Nat.reduceLT, Nat.reduceSub, List.getElem?_cons_zero, List.getElem?_cons_succ, Option.getD_some, r106 hm hr (show 1 ≤ n by omega)]
        exact kk
      · simp (disch := omega) only [m_prop, nIeq, Nat.reduceEqDiff, Nat.one_ne_zero, Nat.zero_ne_one, if_true, if_false] at kk
        obtain ⟨g1, g2, g3⟩ := rk_s (s := s) (n := n) (p := 0) (by omega)
        have rs : J (12 + 43 * m + (9 + rk s n 0)) = nI (s (rk s n 0)) := by
          rw [show 12 + 43 * m + (9 + rk s n 0) = 21 + 43 * m + rk s n 0 by omega, rd _ (by omega) (by omega)]
          exact (h3 _ g2).1
        rw [mx_rk (by omega) hq] at kk
        simp (disch := omega) only [K140_0, K140_1, ai_c1i, ai_c1n, ai_c1r, e_al0, e_an0, e_b1, e_b2, e_const, e_cs3, e_cv2, e_cv3, e_div, e_goto, e_il1, e_il2, e_reti, e_sw, e_z0, e_z1, Option.toList_some, Option.toList_none, List.cons_append, List.nil_append, List.append_nil, List.length_cons, List.length_nil, Nat.reduceAdd, Nat.reduceLeDiff, Nat.zero_le, true_and, and_true, and_self, true_implies, forall_const, ai_rvs, ai_rv0, ai_b_0, Classical.not_not, not_true_eq_false, false_implies, not_false_eq_true, true_implies, and_true, true_and, if_true, if_false, Bool.false_eq_true, q_229, a_nw, n10, sw7_in, Nat.reduceLT, Nat.reduceSub, List.getElem?_cons_zero, List.getElem?_cons_succ, Option.getD_some, E139, K139, ai_c1i, ai_c1n, ai_c1r, e_al0, e_an0, e_b0, e_const, e_cv3, e_il1, e_reti, r105 hm hr (show 0 < n by omega), nIa, r100 hm, sr_r, rs, r6]
        exact kk
    · have e : ∀ j, j < 12 → (w = nI j) = False := fun j hj => eq_false (hx j hj)
      have e2 : ¬ (nI 0 ≤ w ∧ w ≤ nI 6) := fun g => by
        obtain ⟨j, hj7, rfl⟩ := nI_ofr (k := 7) g.1 (Int32.lt_of_le_of_lt g.2 (by decide)) (by omega)
        exact hx j (by omega) rfl
      simp (disch := omega) only [m_prop, e, if_false] at kk
      simp (disch := omega) only [K140_0, K140_1, ai_c1i, ai_c1n, ai_c1r, e_al0, e_an0, e_b1, e_b2, e_const, e_cs3, e_cv2, e_cv3, e_div, e_goto, e_il1, e_il2, e_reti, e_sw, e_z0, e_z1, Option.toList_some, Option.toList_none, List.cons_append, List.nil_append, List.append_nil, List.length_cons, List.length_nil, Nat.reduceAdd, Nat.reduceLeDiff, Nat.zero_le, true_and, and_true, and_self, true_implies, forall_const, ai_rvs, ai_rv0, ai_b_0, Classical.not_not, not_true_eq_false, false_implies, not_false_eq_true, true_implies, and_true, true_and, if_true, if_false, Bool.false_eq_true, q_229, a_nw, n10, sw7_out (a := 113) (tb := [48, 75, 81, 89, 95]) rfl hx, c97, e2]
      exact kk
  · rw [em] at kk
    simp (disch := omega) only [K140_0, K140_1, ai_c1i, ai_c1n, ai_c1r, e_al0, e_an0, e_b1, e_b2, e_const, e_cs3, e_cv2, e_cv3, e_div, e_goto, e_il1, e_il2, e_reti, e_sw, e_z0, e_z1, Option.toList_some, Option.toList_none, List.cons_append, List.nil_append, List.append_nil, List.length_cons, List.length_nil, Nat.reduceAdd, Nat.reduceLeDiff, Nat.zero_le, true_and, and_true, and_self, true_implies, forall_const, ai_rvs, ai_rv0, ai_b_0, Classical.not_not, not_true_eq_false, false_implies, not_false_eq_true, true_implies, and_true, true_and, if_true, if_false, Bool.false_eq_true, q_229, a_nw]
    exact kk
theorem r145 (hm : RM M) (hj : RJ J S k) (hv : VB S.1 k) {t x y : Int32} (kk : Q (some (.int (p_hold S t x y))) (LK, sr I J, M)) : Cl (d + 4) 145 [.ref 229, .int t, .int x, .int y] (LK, sr I J, M) Q := by
  have hk6 := hj.2.1
  have rd := hj.2.2.1
  have hjr : RJ ((sr I J) 230) S k := hj
  have n10 : (nI 1 = nI 0) = False := eq_false (by decide)
  unfold p_hold at kk
  by_cases g1 : nI 0 ≤ t ∧ t ≤ nI 5
  · obtain ⟨t, ht, rfl⟩ := tr_of g1
    simp (disch := omega) only [E145, K145, ai_c1i, ai_c1n, ai_c1r, e_al0, e_an0, e_b0, e_b2, e_const, e_cs1, e_cv3, e_goto, e_il1, e_il2, e_il3, e_reti, e_z0, Option.toList_some, Option.toList_none, List.cons_append, List.nil_append, List.append_nil, List.length_cons, List.length_nil, Nat.reduceAdd, Nat.reduceLeDiff, Nat.zero_le, true_and, and_true, and_self, true_implies, forall_const, ai_rvs, ai_rv0, ai_b_0, Classical.not_not, not_true_eq_false, false_implies, not_false_eq_true, true_implies, and_true, true_and, if_true, if_false, Bool.false_eq_true, q_229, a_nw, r103, g1, n10]
    refine r102 hm hv hjr (fun m n o hmk ex hn n2 n4 ho ey em => ?_) (fun em => ?_)
    · rw [em] at kk
      subst ex ey
      dsimp only at kk
      rw [if_pos g1, nIc (by omega)] at kk
      have e : J (12 + 43 * m + (13 + 4 * t + o)) = hq S.1 m t o := by rw [show 12 + 43 * m + (13 + 4 * t + o) = 25 + 43 * m + 4 * t + o by omega, rd _ (by omega) (by omega)]; rfl
      simp (disch := omega) only [K145, ai_c1i, ai_c1n, ai_c1r, e_al0, e_an0, e_b0, e_b2, e_const, e_cs1, e_cv3, e_goto, e_il1, e_il2, e_il3, e_reti, e_z0, Option.toList_some, Option.toList_none, List.cons_append, List.nil_append, List.append_nil, List.length_cons, List.length_nil, Nat.reduceAdd, Nat.reduceLeDiff, Nat.zero_le, true_and, and_true, and_self, true_implies, forall_const, ai_rvs, ai_rv0, ai_b_0, Classical.not_not, not_true_eq_false, false_implies, not_false_eq_true, true_implies, and_true, true_and, if_true, if_false, Bool.false_eq_true, q_229, a_nw, n10, nIa, nIm, r100 hm, sr_r, e]
      exact kk
    · rw [em] at kk
      simp (disch := omega) only [K145, ai_c1i, ai_c1n, ai_c1r, e_al0, e_an0, e_b0, e_b2, e_const, e_cs1, e_cv3, e_goto, e_il1, e_il2, e_il3, e_reti, e_z0, Option.toList_some, Option.toList_none, List.cons_append, List.nil_append, List.append_nil, List.length_cons, List.length_nil, Nat.reduceAdd, Nat.reduceLeDiff, Nat.zero_le, true_and, and_true, and_self, true_implies, forall_const, ai_rvs, ai_rv0, ai_b_0, Classical.not_not, not_true_eq_false, false_implies, not_false_eq_true, true_implies, and_true, true_and, if_true, if_false, Bool.false_eq_true, q_229, a_nw]
      exact kk
  · have kk' : Q (some (.int (-1000000001))) (LK, sr I J, M) := by
      cases h : mWith S.1 x y with
      | none => rw [h] at kk; exact kk
      | some p =>
        obtain ⟨m, o⟩ := p
        rw [h] at kk
        dsimp only at kk
        rw [if_neg g1] at kk
        exact kk
    simp (disch := omega) only [E145, K145, ai_c1i, ai_c1n, ai_c1r, e_al0, e_an0, e_b0, e_b2, e_const, e_cs1, e_cv3, e_goto, e_il1, e_il2, e_il3, e_reti, e_z0, Option.toList_some, Option.toList_none, List.cons_append, List.nil_append, List.append_nil, List.length_cons, List.length_nil, Nat.reduceAdd, Nat.reduceLeDiff, Nat.zero_le, true_and, and_true, and_self, true_implies, forall_const, ai_rvs, ai_rv0, ai_b_0, Classical.not_not, not_true_eq_false, false_implies, not_false_eq_true, true_implies, and_true, true_and, if_true, if_false, Bool.false_eq_true, q_229, a_nw, r103, g1]
    exact kk'
theorem r148 (hm : RM M) (hj : RJ J S k) (hv : VB S.1 k) {t x : Int32} (kk : Q (some (.int (p_paid S t x))) (LK, sr I J, M)) : Cl (d + 3) 148 [.ref 229, .int t, .int x] (LK, sr I J, M) Q := by
  have hk6 := hj.2.1
  have rd := hj.2.2.1
  have hjr : RJ ((sr I J) 230) S k := hj
  have n10 : (nI 1 = nI 0) = False := eq_false (by decide)
  unfold p_paid at kk
  by_cases g1 : nI 0 ≤ t ∧ t ≤ nI 5
  · obtain ⟨t, ht, rfl⟩ := tr_of g1
    simp (disch := omega) only [E148, K148, ai_c1i, ai_c1n, ai_c1r, e_al0, e_an0, e_b0, e_const, e_cs1, e_cv2, e_cv3, e_goto, e_il1, e_il2, e_reti, e_z0, Option.toList_some, Option.toList_none, List.cons_append, List.nil_append, List.append_nil, List.length_cons, List.length_nil, Nat.reduceAdd, Nat.reduceLeDiff, Nat.zero_le, true_and, and_true, and_self, true_implies, forall_const, ai_rvs, ai_rv0, ai_b_0, Classical.not_not, not_true_eq_false, false_implies, not_false_eq_true, true_implies, and_true, true_and, if_true, if_false, Bool.false_eq_true, q_229, a_nw, r103, g1, n10]
    refine r101 hm hv hjr (fun m hmk ex em => ?_) (fun em => ?_)
    · rw [em] at kk
      subst ex
      dsimp only at kk
      rw [if_pos g1, nIc (by omega)] at kk
      have e : J (12 + 43 * m + (37 + t)) = S.1 (49 + 43 * m + t) := by rw [show 12 + 43 * m + (37 + t) = 49 + 43 * m + t by omega, rd _ (by omega) (by omega)]
      simp (disch := omega) only [K148, ai_c1i, ai_c1n, ai_c1r, e_al0, e_an0, e_b0, e_const, e_cs1, e_cv2, e_cv3, e_goto, e_il1, e_il2, e_reti, e_z0, Option.toList_some, Option.toList_none, List.cons_append, List.nil_append, List.append_nil, List.length_cons, List.length_nil, Nat.reduceAdd, Nat.reduceLeDiff, Nat.zero_le, true_and, and_true, and_self, true_implies, forall_const, ai_rvs, ai_rv0, ai_b_0, Classical.not_not, not_true_eq_false, false_implies, not_false_eq_true, true_implies, and_true, true_and, if_true, if_false, Bool.false_eq_true, q_229, a_nw, n10, nIa, nIm, r100 hm, sr_r, e]
      exact kk
    · rw [em] at kk
      simp (disch := omega) only [K148, ai_c1i, ai_c1n, ai_c1r, e_al0, e_an0, e_b0, e_const, e_cs1, e_cv2, e_cv3, e_goto, e_il1, e_il2, e_reti, e_z0, Option.toList_some, Option.toList_none, List.cons_append, List.nil_append, List.append_nil, List.length_cons, List.length_nil, Nat.reduceAdd, Nat.reduceLeDiff, Nat.zero_le, true_and, and_true, and_self, true_implies, forall_const, ai_rvs, ai_rv0, ai_b_0, Classical.not_not, not_true_eq_false, false_implies, not_false_eq_true, true_implies, and_true, true_and, if_true, if_false, Bool.false_eq_true, q_229, a_nw]
      exact kk
  · have kk' : Q (some (.int (-1000000001))) (LK, sr I J, M) := by
      cases h : mAt S.1 x with
      | none => rw [h] at kk; exact kk
      | some m =>
        rw [h] at kk
        dsimp only at kk
        rw [if_neg g1] at kk
        exact kk
    simp (disch := omega) only [E148, K148, ai_c1i, ai_c1n, ai_c1r, e_al0, e_an0, e_b0, e_const, e_cs1, e_cv2, e_cv3, e_goto, e_il1, e_il2, e_reti, e_z0, Option.toList_some, Option.toList_none, List.cons_append, List.nil_append, List.append_nil, List.length_cons, List.length_nil, Nat.reduceAdd, Nat.reduceLeDiff, Nat.zero_le, true_and, and_true, and_self, true_implies, forall_const, ai_rvs, ai_rv0, ai_b_0, Classical.not_not, not_true_eq_false, false_implies, not_false_eq_true, true_implies, and_true, true_and, if_true, if_false, Bool.false_eq_true, q_229, a_nw, r103, g1]
    exact kk'
theorem r150 (hm : RM M) (hj : RJ J S k) {i w : Int32} (kk : Q (some (.int (p_hist S i w))) (LK, sr I J, M)) : Cl (d + 2) 150 [.ref 229, .int i, .int w] (LK, sr I J, M) Q := by
  obtain ⟨r1, r2, r3, r4, T, t1, t2, t3, t4⟩ := id hj
  have n10 : (nI 1 = nI 0) = False := eq_false (by decide)
  have gi : (nI 0 ≤ i ∧ i ≤ nI (min 30 T) - nI 1) ↔ (nI 0 ≤ i ∧ i < S.1 4 ∧ i < nI 30) := by
    rw [in_k (by omega), t1]
    refine ⟨fun g => ?_, fun g => ?_⟩
    · obtain ⟨j, hj, rfl⟩ := nI_ofr g.1 g.2 (by omega)
      exact ⟨g.1, (nIlt (by omega) (by omega)).mpr (by omega), (nIlt (by omega) (by omega)).mpr (by omega)⟩
    · obtain ⟨j, hj, rfl⟩ := nI_ofr g.1 g.2.2 (by omega)
      have := (nIlt (by omega) (by omega)).mp g.2.1
      exact ⟨g.1, (nIlt (by omega) (by omega)).mpr (by omega)⟩
  unfold p_hist at kk
  by_cases g1 : nI 0 ≤ i ∧ i < S.1 4 ∧ i < nI 30
  · have g1' := gi.mpr g1
    rw [if_pos g1] at kk
    obtain ⟨j, hj30, rfl⟩ := nI_ofr g1.1 g1.2.2 (by omega)
    have hjT : j < T := (nIlt (by omega) (by omega)).mp (by rw [← t1]; exact g1.2.1)
    by_cases g2 : nI 0 ≤ w ∧ w ≤ nI 5
    · rw [if_pos g2] at kk
      obtain ⟨p, hp, rfl⟩ := tr_of g2
      rw [nIc (by omega), nIc (by omega)] at kk
      have e := t4 j p hj30 hjT hp
      simp (disch := omega) only [E150, K150, ai_c1i, ai_c1n, ai_c1r, e_al0, e_an0, e_b0, e_b1, e_b2, e_const, e_cs3, e_getR, e_goto, e_iald, e_il1, e_il2, e_reti, e_z0, e_z1, Option.toList_some, Option.toList_none, List.cons_append, List.nil_append, List.append_nil, List.length_cons, List.length_nil, Nat.reduceAdd, Nat.reduceLeDiff, Nat.zero_le, true_and, and_true, and_self, true_implies, forall_const, ai_rvs, ai_rv0, ai_b_0, Classical.not_not, not_true_eq_false, false_implies, not_false_eq_true, true_implies, and_true, true_and, if_true, if_false, Bool.false_eq_true, q_229, a_nw, n10, hm.1, nIc, nIa, nIm, sr_r, t3, c97, g1', g2, e]
      exact kk
    · rw [if_neg g2] at kk
      simp (disch := omega) only [E150, K150, ai_c1i, ai_c1n, ai_c1r, e_al0, e_an0, e_b0, e_b1, e_b2, e_const, e_cs3, e_getR, e_goto, e_iald, e_il1, e_il2, e_reti, e_z0, e_z1, Option.toList_some, Option.toList_none, List.cons_append, List.nil_append, List.append_nil, List.length_cons, List.length_nil, Nat.reduceAdd, Nat.reduceLeDiff, Nat.zero_le, true_and, and_true, and_self, true_implies, forall_const, ai_rvs, ai_rv0, ai_b_0, Classical.not_not, not_true_eq_false, false_implies, not_false_eq_true, true_implies, and_true, true_and, if_true, if_false, Bool.false_eq_true, q_229, a_nw, n10, hm.1, nIc, nIa, nIm, sr_r, t3, c97, g1', g2]
      exact kk
  · rw [if_neg g1] at kk
    have g1' : ¬ (nI 0 ≤ i ∧ i ≤ nI (min 30 T) - nI 1) := fun h => g1 (gi.mp h)
    simp (disch := omega) only [E150, K150, ai_c1i, ai_c1n, ai_c1r, e_al0, e_an0, e_b0, e_b1, e_b2, e_const, e_cs3, e_getR, e_goto, e_iald, e_il1, e_il2, e_reti, e_z0, e_z1, Option.toList_some, Option.toList_none, List.cons_append, List.nil_append, List.append_nil, List.length_cons, List.length_nil, Nat.reduceAdd, Nat.reduceLeDiff, Nat.zero_le, true_and, and_true, and_self, true_implies, forall_const, ai_rvs, ai_rv0, ai_b_0, Classical.not_not, not_true_eq_false, false_implies, not_false_eq_true, true_implies, and_true, true_and, if_true, if_false, Bool.false_eq_true, q_229, a_nw, n10, hm.1, nIc, nIa, nIm, sr_r, t3, c97, g1']
    exact kk
end RMKT
