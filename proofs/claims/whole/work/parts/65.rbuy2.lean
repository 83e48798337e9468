/-! the reference buys -/
section RBUY2
variable {I : Nat → Nat → Int32} {J : Nat → Int32} {M : Nat → Nat → Nat} {S : St} {m k T : Nat} {d : Nat} {Q : Option Value → ai_H → Prop}
theorem r103 {h : ai_H} {v : Int32} : Cl (d + 1) 103 [.int v] h Q ↔ Q (some (.int (ai_b (nI 0 ≤ v ∧ v ≤ nI 5)))) h := c103
theorem r118 (hm : RM M) (hj : RJ J S k) (h : EW S k T) (hb : T < 999980000) {t x y c : Int32} (kk : ∀ J', RJ J' (p_buy S t x y c).2 k → Q (some (.int (p_buy S t x y c).1)) (LK, sr I J', M)) : Cl (d + 9) 118 [.ref 229, .int t, .int x, .int y, .int c] (LK, sr I J, M) Q := by
  obtain ⟨w1, w2, w3, w4, w5⟩ := id h
  obtain ⟨v1, v2, v3, v4⟩ := id w2
  have hk6 := hj.2.1
  have rd := hj.2.2.1
  have hjr : RJ ((sr I J) 230) S k := hj
  have n10 : (nI 1 = nI 0) = False := eq_false (by decide)
  unfold p_buy at kk
  by_cases g1 : nI 0 ≤ t ∧ t ≤ nI 5
  · rw [if_pos g1] at kk
    obtain ⟨t, ht, rfl⟩ := tr_of g1
    rw [nIc (by omega)] at kk
    by_cases g2 : nI 1 ≤ c ∧ c ≤ nI 50
    · rw [if_pos g2] at kk
      simp (disch := omega) only [E118, K118_0, K118_1, ai_c1i, ai_c1n, ai_c1r, e_al0, e_an0, e_b0, e_c5, e_const, e_cs1, e_cs3, e_cv2, e_cv3, e_cv4, e_cv6, e_getR, e_iald, e_il1, e_il2, e_il3, e_il4, e_il5, e_is5, e_reti, e_z0, e_z1, Option.toList_some, Option.toList_none, List.cons_append, List.nil_append, List.append_nil, List.length_cons, List.length_nil, Nat.reduceAdd, Nat.reduceLeDiff, Nat.zero_le, true_and, and_true, and_self, true_implies, forall_const, ai_rvs, ai_rv0, ai_b_0, Classical.not_not, not_true_eq_false, false_implies, not_false_eq_true, true_implies, and_true, true_and, if_true, if_false, Bool.false_eq_true, q_229, a_nw, r103, c97, g1, g2]
      refine r102 hm w1 hjr (fun m n o hmk ex hn n2 n4 ho ey em => ?_) (fun em => ?_)
      · rw [em] at kk
        dsimp only at kk
        subst ex ey
        obtain ⟨n', b, s, h1, n2', n4', h2, b1, b2, h3⟩ := v1 m hmk
        obtain rfl := (nIeq (by omega) (by omega)).mp (h1.symm.trans hn)
        obtain ⟨q1, q2⟩ := h3 o ho
        obtain ⟨c, hc, rfl⟩ := nI_ofr (k := 51) (Int32.le_trans (by decide) g2.1) (Int32.lt_of_le_of_lt g2.2 (by decide)) (by omega)
        have rst : J (12 + 43 * m + 0) = S.1 (12 + 43 * m) := rd _ (by omega) (by omega)
        have rsh : J (12 + 43 * m + (9 + o)) = nI (s o) := by rw [show 12 + 43 * m + (9 + o) = 21 + 43 * m + o by omega, rd _ (by omega) (by omega)]; exact q1
        have rbl : J (6 + t) = S.1 (6 + t) := rd _ (by omega) (by omega)
        have hr : RK J m n' b s := RK.of hmk hk6 rd h1 n4 h2 b2 h3
        by_cases g3 : S.1 (12 + 43 * m) = nI 0
        · rw [if_pos g3] at kk
          have e4 : (nI 0 ≤ qs S.1 m o + nI c ∧ qs S.1 m o + nI c ≤ nI 400) ↔ s o + c ≤ 400 := by
            rw [show qs S.1 m o = nI (s o) from q1, nIa, nIle (by omega) (by omega), nIle (by omega) (by omega)]
            omega
          by_cases g4 : s o + c ≤ 400
          · rw [if_pos (e4.mpr g4)] at kk
            have hsx : J (21 + 43 * m + o) + nI c = nI (s o + c) := by rw [rd _ (by omega) (by omega), q1, nIa]
            have hdue := hj.due (c := nI c) hmk hr ho
            by_cases g5 : S.1 (6 + t) < m_due S.1 m o (nI c)
            · rw [if_pos g5] at kk
              simp (disch := omega) only [K118_0, K118_1, ai_c1i, ai_c1n, ai_c1r, e_al0, e_an0, e_b0, e_c5, e_const, e_cs1, e_cs3, e_cv2, e_cv3, e_cv4, e_cv6, e_getR, e_iald, e_il1, e_il2, e_il3, e_il4, e_il5, e_is5, e_reti, e_z0, e_z1, Option.toList_some, Option.toList_none, List.cons_append, List.nil_append, List.append_nil, List.length_cons, List.length_nil, Nat.reduceAdd, Nat.reduceLeDiff, Nat.zero_le, true_and, and_true, and_self, true_implies, forall_const, ai_rvs, ai_rv0, ai_b_0, Classical.not_not, not_true_eq_false, false_implies, not_false_eq_true, true_implies, and_true, true_and, if_true, if_false, Bool.false_eq_true, q_229, a_nw, n10, r100 hm, sr_r, rst, g3, rsh, nIa, nIle, g4, r109 hm hr (by omega) b1 ho hsx (by omega), hdue, hm.1, nIc, rbl, i_nle.mpr g5]
              exact kk J hj
            · rw [if_neg g5] at kk
              simp (disch := omega) only [K118_0, K118_1, ai_c1i, ai_c1n, ai_c1r, e_al0, e_an0, e_b0, e_c5, e_const, e_cs1, e_cs3, e_cv2, e_cv3, e_cv4, e_cv6, e_getR, e_iald, e_il1, e_il2, e_il3, e_il4, e_il5, e_is5, e_reti, e_z0, e_z1, Option.toList_some, Option.toList_none, List.cons_append, List.nil_append, List.append_nil, List.length_cons, List.length_nil, Nat.reduceAdd, Nat.reduceLeDiff, Nat.zero_le, true_and, and_true, and_self, true_implies, forall_const, ai_rvs, ai_rv0, ai_b_0, Classical.not_not, not_true_eq_false, false_implies, not_false_eq_true, true_implies, and_true, true_and, if_true, if_false, Bool.false_eq_true, q_229, a_nw, n10, r100 hm, sr_r, rst, g3, rsh, nIa, nIle, g4, r109 hm hr (by omega) b1 ho hsx (by omega), hdue, hm.1, nIc, rbl, i_nlt.mp g5]
              refine r117 hm hj hmk w4 (by omega) hr (by omega) b1 ht ho hsx (by omega) fun J1 hc1 hj1 => ?_
              have ew := h.trd (m := m) (ord := -1) ht (show o < 4 by omega) (c := nI c) (x := s o + c) (by rw [q1, nIa]) g4
              simp (disch := omega) only [K118_0, K118_1, ai_c1i, ai_c1n, ai_c1r, e_al0, e_an0, e_b0, e_c5, e_const, e_cs1, e_cs3, e_cv2, e_cv3, e_cv4, e_cv6, e_getR, e_iald, e_il1, e_il2, e_il3, e_il4, e_il5, e_is5, e_reti, e_z0, e_z1, Option.toList_some, Option.toList_none, List.cons_append, List.nil_append, List.append_nil, List.length_cons, List.length_nil, Nat.reduceAdd, Nat.reduceLeDiff, Nat.zero_le, true_and, and_true, and_self, true_implies, forall_const, ai_rvs, ai_rv0, ai_b_0, Classical.not_not, not_true_eq_false, false_implies, not_false_eq_true, true_implies, and_true, true_and, if_true, if_false, Bool.false_eq_true, q_229, a_nw]
              refine r126 hm hmk ew.2.1 ew.2.2.1 hj1 ew.2.2.2.1 (by omega) ew.tot fun J2 hj2 => ?_
              simp (disch := omega) only [K118_0, K118_1, ai_c1i, ai_c1n, ai_c1r, e_al0, e_an0, e_b0, e_c5, e_const, e_cs1, e_cs3, e_cv2, e_cv3, e_cv4, e_cv6, e_getR, e_iald, e_il1, e_il2, e_il3, e_il4, e_il5, e_is5, e_reti, e_z0, e_z1, Option.toList_some, Option.toList_none, List.cons_append, List.nil_append, List.append_nil, List.length_cons, List.length_nil, Nat.reduceAdd, Nat.reduceLeDiff, Nat.zero_le, true_and, and_true, and_self, true_implies, forall_const, ai_rvs, ai_rv0, ai_b_0, Classical.not_not, not_true_eq_false, false_implies, not_false_eq_true, true_implies, and_true, true_and, if_true, if_false, Bool.false_eq_true, q_229, a_nw]
              exact kk J2 hj2
          · rw [if_neg (fun g => g4 (e4.mp g))] at kk
            simp (disch := omega) only [K118_0, K118_1, ai_c1i, ai_c1n, ai_c1r, e_al0, e_an0, e_b0, e_c5, e_const, e_cs1, e_cs3, e_cv2, e_cv3, e_cv4, e_cv6, e_getR, e_iald, e_il1, e_il2, e_il3, e_il4, e_il5, e_is5, e_reti, e_z0, e_z1, Option.toList_some, Option.toList_none, List.cons_append, List.nil_append, List.append_nil, List.length_cons, List.length_nil, Nat.reduceAdd, Nat.reduceLeDiff, Nat.zero_le, true_and, and_true, and_self, true_implies, forall_const, ai_rvs, ai_rv0, ai_b_0, Classical.not_not, not_true_eq_false, false_implies, not_false_eq_true, true_implies, and_true, true_and, if_true, if_false, Bool.false_eq_true, q_229, a_nw, n10, r100 hm, sr_r, rst, g3, rsh, nIa, nIle, g4]
            exact kk J hj
        · rw [if_neg g3] at kk
          simp (disch := omega) only [K118_0, K118_1, ai_c1i, ai_c1n, ai_c1r, e_al0, e_an0, e_b0, e_c5, e_const, e_cs1, e_cs3, e_cv2, e_cv3, e_cv4, e_cv6, e_getR, e_iald, e_il1, e_il2, e_il3, e_il4, e_il5, e_is5, e_reti, e_z0, e_z1, Option.toList_some, Option.toList_none, List.cons_append, List.nil_append, List.append_nil, List.length_cons, List.length_nil, Nat.reduceAdd, Nat.reduceLeDiff, Nat.zero_le, true_and, and_true, and_self, true_implies, forall_const, ai_rvs, ai_rv0, ai_b_0, Classical.not_not, not_true_eq_false, false_implies, not_false_eq_true, true_implies, and_true, true_and, if_true, if_false, Bool.false_eq_true, q_229, a_nw, n10, r100 hm, sr_r, rst, g3]
          exact kk J hj
      · rw [em] at kk
        simp (disch := omega) only [K118_0, K118_1, ai_c1i, ai_c1n, ai_c1r, e_al0, e_an0, e_b0, e_c5, e_const, e_cs1, e_cs3, e_cv2, e_cv3, e_cv4, e_cv6, e_getR, e_iald, e_il1, e_il2, e_il3, e_il4, e_il5, e_is5, e_reti, e_z0, e_z1, Option.toList_some, Option.toList_none, List.cons_append, List.nil_append, List.append_nil, List.length_cons, List.length_nil, Nat.reduceAdd, Nat.reduceLeDiff, Nat.zero_le, true_and, and_true, and_self, true_implies, forall_const, ai_rvs, ai_rv0, ai_b_0, Classical.not_not, not_true_eq_false, false_implies, not_false_eq_true, true_implies, and_true, true_and, if_true, if_false, Bool.false_eq_true, q_229, a_nw]
        exact kk J hj
    · rw [if_neg g2] at kk
      simp (disch := omega) only [E118, K118_0, K118_1, ai_c1i, ai_c1n, ai_c1r, e_al0, e_an0, e_b0, e_c5, e_const, e_cs1, e_cs3, e_cv2, e_cv3, e_cv4, e_cv6, e_getR, e_iald, e_il1, e_il2, e_il3, e_il4, e_il5, e_is5, e_reti, e_z0, e_z1, Option.toList_some, Option.toList_none, List.cons_append, List.nil_append, List.append_nil, List.length_cons, List.length_nil, Nat.reduceAdd, Nat.reduceLeDiff, Nat.zero_le, true_and, and_true, and_self, true_implies, forall_const, ai_rvs, ai_rv0, ai_b_0, Classical.not_not, not_true_eq_false, false_implies, not_false_eq_true, true_implies, and_true, true_and, if_true, if_false, Bool.false_eq_true, q_229, a_nw, r103, c97, g1, g2]
      exact kk J hj
  · rw [if_neg g1] at kk
    simp (disch := omega) only [E118, K118_0, K118_1, ai_c1i, ai_c1n, ai_c1r, e_al0, e_an0, e_b0, e_c5, e_const, e_cs1, e_cs3, e_cv2, e_cv3, e_cv4, e_cv6, e_getR, e_iald, e_il1, e_il2, e_il3, e_il4, e_il5, e_is5, e_reti, e_z0, e_z1, Option.toList_some, Option.toList_none, List.cons_append, List.nil_append, List.append_nil, List.length_cons, List.length_nil, Nat.reduceAdd, Nat.reduceLeDiff, Nat.zero_le, true_and, and_true, and_self, true_implies, forall_const, ai_rvs, ai_rv0, ai_b_0, Classical.not_not, not_true_eq_false, false_implies, not_false_eq_true, true_implies, and_true, true_and, if_true, if_false, Bool.false_eq_true, q_229, a_nw, r103, g1]
    exact kk J hj
end RBUY2
