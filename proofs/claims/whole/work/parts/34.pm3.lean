/-! buying and selling -/
section PM3
variable {S : St} {C : (Nat → Nat → Int32) × (Nat → Nat → Nat)} {I : Nat → Nat → Int32} {M : Nat → Nat → Nat} {m n o k T : Nat} {d : Nat} {Q : Option Value → ai_H → Prop}
theorem tr_n {m' t : Nat} {c ord : Int32} (ht : t < 6) (ho : o < 4) : (tr S m t o c ord).1 (14 + 43 * m') = S.1 (14 + 43 * m') := by
  obtain ⟨h1, h2, h3, h4⟩ := cfg_n (m := m) (m' := m')
  obtain ⟨g1, g2, g3, g4⟩ := h4 t o ht ho
  exact tr_K h2 g1 h3 g2 g3 g4
theorem c66 (h : EX 1 S C I M) (hp : PC C) (hv : VB S.1 k) (hT : S.1 4 = nI T) (hb : T < 999980000) (hov : OV S.2.1) {t x y c : Int32} (kk : ∀ I' M', EX 1 (p_buy S t x y c).2 C I' M' → Q (some (.int (p_buy S t x y c).1)) (LK, I', M')) : Cl (d + 5) 66 [.ref 0, .int t, .int x, .int y, .int c] (LK, I, M) Q := by
  have hk6 := hv.2.1
  unfold p_buy at kk
  by_cases g1 : nI 0 ≤ t ∧ t ≤ nI 5
  · rw [if_pos g1] at kk
    obtain ⟨t, ht, rfl⟩ := tr_of g1
    rw [nIc (by omega)] at kk
    by_cases g2 : nI 1 ≤ c ∧ c ≤ nI 50
    · rw [if_pos g2] at kk
      simp (disch := omega) only [E66, K66_0, K66_1, ai_c1i, ai_c1n, ai_c1r, e_al0, e_al5, e_an0, e_an5, e_as5, e_az5, e_c5, e_const, e_cs1, e_cs3, e_cv2, e_cv3, e_cv6, e_getI, e_getR, e_iald, e_il1, e_il2, e_il3, e_il4, e_il6, e_is6, e_popi, e_popr, e_reti, e_xn, e_xr, e_z0, e_z1, Option.toList_some, Option.toList_none, List.cons_append, List.nil_append, List.append_nil, List.length_cons, List.length_nil, Nat.reduceAdd, Nat.reduceLeDiff, Nat.zero_le, true_and, and_true, and_self, true_implies, forall_const, ai_rvs, ai_rv0, ai_b_0, Classical.not_not, q_0, q_1, q_64, q_65, q_82, q_mk, q_od, not_true_eq_false, false_implies, not_false_eq_true, true_implies, and_true, true_and, if_true, if_false, Bool.false_eq_true, c92, c95, g1, g2, m_00 h hp]
      refine c10m h hv (fun m n o hm ex hn n2 n4 ho ey em => ?_) (fun em => ?_)
      · rw [em] at kk
        dsimp only at kk
        subst ex ey
        by_cases g3 : S.1 (12 + 43 * m) = nI 0
        · rw [if_pos g3] at kk
          by_cases g4 : nI 0 ≤ qs S.1 m o + c ∧ qs S.1 m o + c ≤ nI 400
          · rw [if_pos g4] at kk
            simp (disch := omega) only [K66_0, K66_1, ai_c1i, ai_c1n, ai_c1r, e_al0, e_al5, e_an0, e_an5, e_as5, e_az5, e_c5, e_const, e_cs1, e_cs3, e_cv2, e_cv3, e_cv6, e_getI, e_getR, e_iald, e_il1, e_il2, e_il3, e_il4, e_il6, e_is6, e_popi, e_popr, e_reti, e_xn, e_xr, e_z0, e_z1, Option.toList_some, Option.toList_none, List.cons_append, List.nil_append, List.append_nil, List.length_cons, List.length_nil, Nat.reduceAdd, Nat.reduceLeDiff, Nat.zero_le, true_and, and_true, and_self, true_implies, forall_const, ai_rvs, ai_rv0, ai_b_0, Classical.not_not, q_0, q_1, q_64, q_65, q_82, q_mk, q_od, not_true_eq_false, false_implies, not_false_eq_true, true_implies, and_true, true_and, if_true, if_false, Bool.false_eq_true, rd_st h, p_0, g3, c47 h, g4]
            refine c43 h (by omega) hn n4 (by omega) fun I1 h1 => ?_
            have e0 : m_cost (qs S.1 m) n (S.1 (13 + 43 * m)) o c = m_due S.1 m o c := by rw [m_due, nN_of hn n4]
            rw [e0]
            by_cases g5 : S.1 (6 + t) < m_due S.1 m o c
            · rw [if_pos g5] at kk
              simp (disch := omega) only [K66_0, K66_1, ai_c1i, ai_c1n, ai_c1r, e_al0, e_al5, e_an0, e_an5, e_as5, e_az5, e_c5, e_const, e_cs1, e_cs3, e_cv2, e_cv3, e_cv6, e_getI, e_getR, e_iald, e_il1, e_il2, e_il3, e_il4, e_il6, e_is6, e_popi, e_popr, e_reti, e_xn, e_xr, e_z0, e_z1, Option.toList_some, Option.toList_none, List.cons_append, List.nil_append, List.append_nil, List.length_cons, List.length_nil, Nat.reduceAdd, Nat.reduceLeDiff, Nat.zero_le, true_and, and_true, and_self, true_implies, forall_const, ai_rvs, ai_rv0, ai_b_0, Classical.not_not, q_0, q_1, q_64, q_65, q_82, q_mk, q_od, not_true_eq_false, false_implies, not_false_eq_true, true_implies, and_true, true_and, if_true, if_false, Bool.false_eq_true, m_00 h1 hp, m_10 h1, a_bal, nIc, rd_bal h1, i_nle.mpr g5]
              exact kk I1 M h1
            · rw [if_neg g5] at kk
              simp (disch := omega) only [K66_0, K66_1, ai_c1i, ai_c1n, ai_c1r, e_al0, e_al5, e_an0, e_an5, e_as5, e_az5, e_c5, e_const, e_cs1, e_cs3, e_cv2, e_cv3, e_cv6, e_getI, e_getR, e_iald, e_il1, e_il2, e_il3, e_il4, e_il6, e_is6, e_popi, e_popr, e_reti, e_xn, e_xr, e_z0, e_z1, Option.toList_some, Option.toList_none, List.cons_append, List.nil_append, List.append_nil, List.length_cons, List.length_nil, Nat.reduceAdd, Nat.reduceLeDiff, Nat.zero_le, true_and, and_true, and_self, true_implies, forall_const, ai_rvs, ai_rv0, ai_b_0, Classical.not_not, q_0, q_1, q_64, q_65, q_82, q_mk, q_od, not_true_eq_false, false_implies, not_false_eq_true, true_implies, and_true, true_and, if_true, if_false, Bool.false_eq_true, m_00 h1 hp, m_10 h1, a_bal, nIc, rd_bal h1, i_nlt.mp g5]
              refine c12 h1 hT (by omega) (by omega) hn n4 ht (by omega) fun I2 h2 => ?_
              simp (disch := omega) only [K66_0, K66_1, ai_c1i, ai_c1n, ai_c1r, e_al0, e_al5, e_an0, e_an5, e_as5, e_az5, e_c5, e_const, e_cs1, e_cs3, e_cv2, e_cv3, e_cv6, e_getI, e_getR, e_iald, e_il1, e_il2, e_il3, e_il4, e_il6, e_is6, e_popi, e_popr, e_reti, e_xn, e_xr, e_z0, e_z1, Option.toList_some, Option.toList_none, List.cons_append, List.nil_append, List.append_nil, List.length_cons, List.length_nil, Nat.reduceAdd, Nat.reduceLeDiff, Nat.zero_le, true_and, and_true, and_self, true_implies, forall_const, ai_rvs, ai_rv0, ai_b_0, Classical.not_not, q_0, q_1, q_64, q_65, q_82, q_mk, q_od, not_true_eq_false, false_implies, not_false_eq_true, true_implies, and_true, true_and, if_true, if_false, Bool.false_eq_true, m_00 h2 hp]
              refine c15 (T := T + 1) h2 (by rw [tr_4, hT, nIa]) (by omega) (by omega) (by rw [tr_n ht (by omega)]; exact hn) n4 hov fun I3 M3 h3 => ?_
              simp (disch := omega) only [K66_0, K66_1, ai_c1i, ai_c1n, ai_c1r, e_al0, e_al5, e_an0, e_an5, e_as5, e_az5, e_c5, e_const, e_cs1, e_cs3, e_cv2, e_cv3, e_cv6, e_getI, e_getR, e_iald, e_il1, e_il2, e_il3, e_il4, e_il6, e_is6, e_popi, e_popr, e_reti, e_xn, e_xr, e_z0, e_z1, Option.toList_some, Option.toList_none, List.cons_append, List.nil_append, List.append_nil, List.length_cons, List.length_nil, Nat.reduceAdd, Nat.reduceLeDiff, Nat.zero_le, true_and, and_true, and_self, true_implies, forall_const, ai_rvs, ai_rv0, ai_b_0, Classical.not_not, q_0, q_1, q_64, q_65, q_82, q_mk, q_od, not_true_eq_false, false_implies, not_false_eq_true, true_implies, and_true, true_and, if_true, if_false, Bool.false_eq_true]
              exact kk I3 M3 h3
          · rw [if_neg g4] at kk
            simp (disch := omega) only [K66_0, K66_1, ai_c1i, ai_c1n, ai_c1r, e_al0, e_al5, e_an0, e_an5, e_as5, e_az5, e_c5, e_const, e_cs1, e_cs3, e_cv2, e_cv3, e_cv6, e_getI, e_getR, e_iald, e_il1, e_il2, e_il3, e_il4, e_il6, e_is6, e_popi, e_popr, e_reti, e_xn, e_xr, e_z0, e_z1, Option.toList_some, Option.toList_none, List.cons_append, List.nil_append, List.append_nil, List.length_cons, List.length_nil, Nat.reduceAdd, Nat.reduceLeDiff, Nat.zero_le, true_and, and_true, and_self, true_implies, forall_const, ai_rvs, ai_rv0, ai_b_0, Classical.not_not, q_0, q_1, q_64, q_65, q_82, q_mk, q_od, not_true_eq_false, false_implies, not_false_eq_true, true_implies, and_true, true_and, if_true, if_false, Bool.false_eq_true, rd_st h, p_0, g3, c47 h, g4]
            exact kk I M h
        · rw [if_neg g3] at kk
          simp (disch := omega) only [K66_0, K66_1, ai_c1i, ai_c1n, ai_c1r, e_al0, e_al5, e_an0, e_an5, e_as5, e_az5, e_c5, e_const, e_cs1, e_cs3, e_cv2, e_cv3, e_cv6, e_getI, e_getR, e_iald, e_il1, e_il2, e_il3, e_il4, e_il6, e_is6, e_popi, e_popr, e_reti, e_xn, e_xr, e_z0, e_z1, Option.toList_some, Option.toList_none, List.cons_append, List.nil_append, List.append_nil, List.length_cons, List.length_nil, Nat.reduceAdd, Nat.reduceLeDiff, Nat.zero_le, true_and, and_true, and_self, true_implies, forall_const, ai_rvs, ai_rv0, ai_b_0, Classical.not_not, q_0, q_1, q_64, q_65, q_82, q_mk, q_od, not_true_eq_false, false_implies, not_false_eq_true, true_implies, and_true, true_and, if_true, if_false, Bool.false_eq_true, rd_st h, p_0, g3]
          exact kk I M h
      · rw [em] at kk
        simp (disch := omega) only [K66_0, K66_1, ai_c1i, ai_c1n, ai_c1r, e_al0, e_al5, e_an0, e_an5, e_as5, e_az5, e_c5, e_const, e_cs1, e_cs3, e_cv2, e_cv3, e_cv6, e_getI, e_getR, e_iald, e_il1, e_il2, e_il3, e_il4, e_il6, e_is6, e_popi, e_popr, e_reti, e_xn, e_xr, e_z0, e_z1, Option.toList_some, Option.toList_none, List.cons_append, List.nil_append, List.append_nil, List.length_cons, List.length_nil, Nat.reduceAdd, Nat.reduceLeDiff, Nat.zero_le, true_and, and_true, and_self, true_implies, forall_const, ai_rvs, ai_rv0, ai_b_0, Classical.not_not, q_0, q_1, q_64, q_65, q_82, q_mk, q_od, not_true_eq_false, false_implies, not_false_eq_true, true_implies, and_true, true_and, if_true, if_false, Bool.false_eq_true]
        exact kk I M h
    · rw [if_neg g2] at kk
      simp (disch := omega) only [E66, K66_0, K66_1, ai_c1i, ai_c1n, ai_c1r, e_al0, e_al5, e_an0, e_an5, e_as5, e_az5, e_c5, e_const, e_cs1, e_cs3, e_cv2, e_cv3, e_cv6, e_getI, e_getR, e_iald, e_il1, e_il2, e_il3, e_il4, e_il6, e_is6, e_popi, e_popr, e_reti, e_xn, e_xr, e_z0, e_z1, Option.toList_some, Option.toList_none, List.cons_append, List.nil_append, List.append_nil, List.length_cons, List.length_nil, Nat.reduceAdd, Nat.reduceLeDiff, Nat.zero_le, true_and, and_true, and_self, true_implies, forall_const, ai_rvs, ai_rv0, ai_b_0, Classical.not_not, q_0, q_1, q_64, q_65, q_82, q_mk, q_od, not_true_eq_false, false_implies, not_false_eq_true, true_implies, and_true, true_and, if_true, if_false, Bool.false_eq_true, c92, c95, g1, g2]
      exact kk I M h
  · rw [if_neg g1] at kk
    simp (disch := omega) only [E66, K66_0, K66_1, ai_c1i, ai_c1n, ai_c1r, e_al0, e_al5, e_an0, e_an5, e_as5, e_az5, e_c5, e_const, e_cs1, e_cs3, e_cv2, e_cv3, e_cv6, e_getI, e_getR, e_iald, e_il1, e_il2, e_il3, e_il4, e_il6, e_is6, e_popi, e_popr, e_reti, e_xn, e_xr, e_z0, e_z1, Option.toList_some, Option.toList_none, List.cons_append, List.nil_append, List.append_nil, List.length_cons, List.length_nil, Nat.reduceAdd, Nat.reduceLeDiff, Nat.zero_le, true_and, and_true, and_self, true_implies, forall_const, ai_rvs, ai_rv0, ai_b_0, Classical.not_not, q_0, q_1, q_64, q_65, q_82, q_mk, q_od, not_true_eq_false, false_implies, not_false_eq_true, true_implies, and_true, true_and, if_true, if_false, Bool.false_eq_true, c92, g1]
    exact kk I M h
theorem c67 (h : EX 1 S C I M) (hp : PC C) (hv : VB S.1 k) (hT : S.1 4 = nI T) (hb : T < 999980000) (hov : OV S.2.1) {t x s c : Int32} (kk : ∀ I' M', EX 1 (p_bs S t x s c).2 C I' M' → Q (some (.int (p_bs S t x s c).1)) (LK, I', M')) : Cl (d + 5) 67 [.ref 0, .int t, .int x, .int s, .int c] (LK, I, M) Q := by
  have hk6 := hv.2.1
  unfold p_bs at kk
  by_cases g1 : nI 0 ≤ t ∧ t ≤ nI 5
  · rw [if_pos g1] at kk
    obtain ⟨t, ht, rfl⟩ := tr_of g1
    rw [nIc (by omega)] at kk
    by_cases g2 : nI 1 ≤ c ∧ c ≤ nI 50
    · rw [if_pos g2] at kk
      simp (disch := omega) only [E67, K67_0, K67_1, ai_c1i, ai_c1n, ai_c1r, e_al0, e_al5, e_an0, e_an5, e_as5, e_az5, e_c5, e_const, e_cs1, e_cs3, e_cv2, e_cv3, e_cv5, e_getI, e_getR, e_iald, e_il1, e_il2, e_il3, e_il4, e_il6, e_is6, e_reti, e_xn, e_xr, e_z0, e_z1, Option.toList_some, Option.toList_none, List.cons_append, List.nil_append, List.append_nil, List.length_cons, List.length_nil, Nat.reduceAdd, Nat.reduceLeDiff, Nat.zero_le, true_and, and_true, and_self, true_implies, forall_const, ai_rvs, ai_rv0, ai_b_0, Classical.not_not, q_0, q_1, q_64, q_65, q_82, q_mk, q_od, not_true_eq_false, false_implies, not_false_eq_true, true_implies, and_true, true_and, if_true, if_false, Bool.false_eq_true, c92, c95, g1, g2, m_00 h hp]
      refine c9m h hv (fun m hm ex em => ?_) (fun em => ?_)
      · rw [em] at kk
        dsimp only at kk
        subst ex
        obtain ⟨n, hn, n2, n4⟩ := hv.2.2 m hm
        by_cases g6 : nI 1 ≤ s ∧ s ≤ nI 1 <<< (nI n &&& 31) - nI 1
        · rw [hn, if_pos g6] at kk
          by_cases g3 : S.1 (12 + 43 * m) = nI 0
          · rw [if_pos g3] at kk
            by_cases g4 : b_all (fun i => !b_in s i || decide (nI 0 ≤ qs S.1 m i + c ∧ qs S.1 m i + c ≤ nI 400)) n = true
            · rw [nN_of hn n4, if_pos g4] at kk
              simp (disch := omega) only [K67_0, K67_1, ai_c1i, ai_c1n, ai_c1r, e_al0, e_al5, e_an0, e_an5, e_as5, e_az5, e_c5, e_const, e_cs1, e_cs3, e_cv2, e_cv3, e_cv5, e_getI, e_getR, e_iald, e_il1, e_il2, e_il3, e_il4, e_il6, e_is6, e_reti, e_xn, e_xr, e_z0, e_z1, Option.toList_some, Option.toList_none, List.cons_append, List.nil_append, List.append_nil, List.length_cons, List.length_nil, Nat.reduceAdd, Nat.reduceLeDiff, Nat.zero_le, true_and, and_true, and_self, true_implies, forall_const, ai_rvs, ai_rv0, ai_b_0, Classical.not_not, q_0, q_1, q_64, q_65, q_82, q_mk, q_od, not_true_eq_false, false_implies, not_false_eq_true, true_implies, and_true, true_and, if_true, if_false, Bool.false_eq_true, c49 h (by omega) hn, g6, rd_st h, p_0, g3, c48 h (by omega) hn n4, g4]
              refine c44 h (by omega) hn n4 fun I1 h1 => ?_
              have e0 : m_lev (qs (g_add S.1 m s c n) m) n (S.1 (13 + 43 * m)) - m_lev (qs S.1 m) n (S.1 (13 + 43 * m)) = m_dus S.1 m s c := by rw [m_dus, nN_of hn n4]
              rw [e0]
              by_cases g5 : S.1 (6 + t) < m_dus S.1 m s c
              · rw [if_pos g5] at kk
                simp (disch := omega) only [K67_0, K67_1, ai_c1i, ai_c1n, ai_c1r, e_al0, e_al5, e_an0, e_an5, e_as5, e_az5, e_c5, e_const, e_cs1, e_cs3, e_cv2, e_cv3, e_cv5, e_getI, e_getR, e_iald, e_il1, e_il2, e_il3, e_il4, e_il6, e_is6, e_reti, e_xn, e_xr, e_z0, e_z1, Option.toList_some, Option.toList_none, List.cons_append, List.nil_append, List.append_nil, List.length_cons, List.length_nil, Nat.reduceAdd, Nat.reduceLeDiff, Nat.zero_le, true_and, and_true, and_self, true_implies, forall_const, ai_rvs, ai_rv0, ai_b_0, Classical.not_not, q_0, q_1, q_64, q_65, q_82, q_mk, q_od, not_true_eq_false, false_implies, not_false_eq_true, true_implies, and_true, true_and, if_true, if_false, Bool.false_eq_true, m_00 h1 hp, m_10 h1, a_bal, nIc, rd_bal h1, i_nle.mpr g5]
                exact kk I1 M h1
              · rw [if_neg g5] at kk
                simp (disch := omega) only [K67_0, K67_1, ai_c1i, ai_c1n, ai_c1r, e_al0, e_al5, e_an0, e_an5, e_as5, e_az5, e_c5, e_const, e_cs1, e_cs3, e_cv2, e_cv3, e_cv5, e_getI, e_getR, e_iald, e_il1, e_il2, e_il3, e_il4, e_il6, e_is6, e_reti, e_xn, e_xr, e_z0, e_z1, Option.toList_some, Option.toList_none, List.cons_append, List.nil_append, List.append_nil, List.length_cons, List.length_nil, Nat.reduceAdd, Nat.reduceLeDiff, Nat.zero_le, true_and, and_true, and_self, true_implies, forall_const, ai_rvs, ai_rv0, ai_b_0, Classical.not_not, q_0, q_1, q_64, q_65, q_82, q_mk, q_od, not_true_eq_false, false_implies, not_false_eq_true, true_implies, and_true, true_and, if_true, if_false, Bool.false_eq_true, m_00 h1 hp, m_10 h1, a_bal, nIc, rd_bal h1, i_nlt.mp g5]
                refine c13 h1 hT (by omega) (by omega) hn n4 ht fun I2 h2 => ?_
                simp (disch := omega) only [K67_0, K67_1, ai_c1i, ai_c1n, ai_c1r, e_al0, e_al5, e_an0, e_an5, e_as5, e_az5, e_c5, e_const, e_cs1, e_cs3, e_cv2, e_cv3, e_cv5, e_getI, e_getR, e_iald, e_il1, e_il2, e_il3, e_il4, e_il6, e_is6, e_reti, e_xn, e_xr, e_z0, e_z1, Option.toList_some, Option.toList_none, List.cons_append, List.nil_append, List.append_nil, List.length_cons, List.length_nil, Nat.reduceAdd, Nat.reduceLeDiff, Nat.zero_le, true_and, and_true, and_self, true_implies, forall_const, ai_rvs, ai_rv0, ai_b_0, Classical.not_not, q_0, q_1, q_64, q_65, q_82, q_mk, q_od, not_true_eq_false, false_implies, not_false_eq_true, true_implies, and_true, true_and, if_true, if_false, Bool.false_eq_true, m_00 h2 hp]
                obtain ⟨e1, e2, T1, t1, t2, t3⟩ := trs_p (s := s) (c := c) ht (cfg_n (m := m) (m' := m)) hT n n4
                refine c15 (T := T1) h2 t1 (by omega) (by omega) (e1.trans hn) n4 (by rw [e2]; exact hov) fun I3 M3 h3 => ?_
                simp (disch := omega) only [K67_0, K67_1, ai_c1i, ai_c1n, ai_c1r, e_al0, e_al5, e_an0, e_an5, e_as5, e_az5, e_c5, e_const, e_cs1, e_cs3, e_cv2, e_cv3, e_cv5, e_getI, e_getR, e_iald, e_il1, e_il2, e_il3, e_il4, e_il6, e_is6, e_reti, e_xn, e_xr, e_z0, e_z1, Option.toList_some, Option.toList_none, List.cons_append, List.nil_append, List.append_nil, List.length_cons, List.length_nil, Nat.reduceAdd, Nat.reduceLeDiff, Nat.zero_le, true_and, and_true, and_self, true_implies, forall_const, ai_rvs, ai_rv0, ai_b_0, Classical.not_not, q_0, q_1, q_64, q_65, q_82, q_mk, q_od, not_true_eq_false, false_implies, not_false_eq_true, true_implies, and_true, true_and, if_true, if_false, Bool.false_eq_true]
                exact kk I3 M3 h3
            · rw [nN_of hn n4, if_neg g4] at kk
              simp (disch := omega) only [K67_0, K67_1, ai_c1i, ai_c1n, ai_c1r, e_al0, e_al5, e_an0, e_an5, e_as5, e_az5, e_c5, e_const, e_cs1, e_cs3, e_cv2, e_cv3, e_cv5, e_getI, e_getR, e_iald, e_il1, e_il2, e_il3, e_il4, e_il6, e_is6, e_reti, e_xn, e_xr, e_z0, e_z1, Option.toList_some, Option.toList_none, List.cons_append, List.nil_append, List.append_nil, List.length_cons, List.length_nil, Nat.reduceAdd, Nat.reduceLeDiff, Nat.zero_le, true_and, and_true, and_self, true_implies, forall_const, ai_rvs, ai_rv0, ai_b_0, Classical.not_not, q_0, q_1, q_64, q_65, q_82, q_mk, q_od, not_true_eq_false, false_implies, not_false_eq_true, true_implies, and_true, true_and, if_true, if_false, Bool.false_eq_true, c49 h (by omega) hn, g6, rd_st h, p_0, g3, c48 h (by omega) hn n4, g4]
              exact kk I M h
          · rw [if_neg g3] at kk
            simp (disch := omega) only [K67_0, K67_1, ai_c1i, ai_c1n, ai_c1r, e_al0, e_al5, e_an0, e_an5, e_as5, e_az5, e_c5, e_const, e_cs1, e_cs3, e_cv2, e_cv3, e_cv5, e_getI, e_getR, e_iald, e_il1, e_il2, e_il3, e_il4, e_il6, e_is6, e_reti, e_xn, e_xr, e_z0, e_z1, Option.toList_some, Option.toList_none, List.cons_append, List.nil_append, List.append_nil, List.length_cons, List.length_nil, Nat.reduceAdd, Nat.reduceLeDiff, Nat.zero_le, true_and, and_true, and_self, true_implies, forall_const, ai_rvs, ai_rv0, ai_b_0, Classical.not_not, q_0, q_1, q_64, q_65, q_82, q_mk, q_od, not_true_eq_false, false_implies, not_false_eq_true, true_implies, and_true, true_and, if_true, if_false, Bool.false_eq_true, c49 h (by omega) hn, g6, rd_st h, p_0, g3]
            exact kk I M h
        · rw [hn, if_neg g6] at kk
          simp (disch := omega) only [K67_0, K67_1, ai_c1i, ai_c1n, ai_c1r, e_al0, e_al5, e_an0, e_an5, e_as5, e_az5, e_c5, e_const, e_cs1, e_cs3, e_cv2, e_cv3, e_cv5, e_getI, e_getR, e_iald, e_il1, e_il2, e_il3, e_il4, e_il6, e_is6, e_reti, e_xn, e_xr, e_z0, e_z1, Option.toList_some, Option.toList_none, List.cons_append, List.nil_append, List.append_nil, List.length_cons, List.length_nil, Nat.reduceAdd, Nat.reduceLeDiff, Nat.zero_le, true_and, and_true, and_self, true_implies, forall_const, ai_rvs, ai_rv0, ai_b_0, Classical.not_not, q_0, q_1, q_64, q_65, q_82, q_mk, q_od, not_true_eq_false, false_implies, not_false_eq_true, true_implies, and_true, true_and, if_true, if_false, Bool.false_eq_true, c49 h (by omega) hn, g6]
          exact kk I M h
      · rw [em] at kk
        simp (disch := omega) only [K67_0, K67_1, ai_c1i, ai_c1n, ai_c1r, e_al0, e_al5, e_an0, e_an5, e_as5, e_az5, e_c5, e_const, e_cs1, e_cs3, e_cv2, e_cv3, e_cv5, e_getI, e_getR, e_iald, e_il1, e_il2, e_il3, e_il4, e_il6, e_is6, e_reti, e_xn, e_xr, e_z0, e_z1, Option.toList_some, Option.toList_none, List.cons_append, List.nil_append, List.append_nil, List.length_cons, List.length_nil, Nat.reduceAdd, Nat.reduceLeDiff, Nat.zero_le, true_and, and_true, and_self, true_implies, forall_const, ai_rvs, ai_rv0, ai_b_0, Classical.not_not, q_0, q_1, q_64, q_65, q_82, q_mk, q_od, not_true_eq_false, false_implies, not_false_eq_true, true_implies, and_true, true_and, if_true, if_false, Bool.false_eq_true]
        exact kk I M h
    · rw [if_neg g2] at kk
      simp (disch := omega) only [E67, K67_0, K67_1, ai_c1i, ai_c1n, ai_c1r, e_al0, e_al5, e_an0, e_an5, e_as5, e_az5, e_c5, e_const, e_cs1, e_cs3, e_cv2, e_cv3, e_cv5, e_getI, e_getR, e_iald, e_il1, e_il2, e_il3, e_il4, e_il6, e_is6, e_reti, e_xn, e_xr, e_z0, e_z1, Option.toList_some, Option.toList_none, List.cons_append, List.nil_append, List.append_nil, List.length_cons, List.length_nil, Nat.reduceAdd, Nat.reduceLeDiff, Nat.zero_le, true_and, and_true, and_self, true_implies, forall_const, ai_rvs, ai_rv0, ai_b_0, Classical.not_not, q_0, q_1, q_64, q_65, q_82, q_mk, q_od, not_true_eq_false, false_implies, not_false_eq_true, true_implies, and_true, true_and, if_true, if_false, Bool.false_eq_true, c92, c95, g1, g2]
      exact kk I M h
  · rw [if_neg g1] at kk
    simp (disch := omega) only [E67, K67_0, K67_1, ai_c1i, ai_c1n, ai_c1r, e_al0, e_al5, e_an0, e_an5, e_as5, e_az5, e_c5, e_const, e_cs1, e_cs3, e_cv2, e_cv3, e_cv5, e_getI, e_getR, e_iald, e_il1, e_il2, e_il3, e_il4, e_il6, e_is6, e_reti, e_xn, e_xr, e_z0, e_z1, Option.toList_some, Option.toList_none, List.cons_append, List.nil_append, List.append_nil, List.length_cons, List.length_nil, Nat.reduceAdd, Nat.reduceLeDiff, Nat.zero_le, true_and, and_true, and_self, true_implies, forall_const, ai_rvs, ai_rv0, ai_b_0, Classical.not_not, q_0, q_1, q_64, q_65, q_82, q_mk, q_od, not_true_eq_false, false_implies, not_false_eq_true, true_implies, and_true, true_and, if_true, if_false, Bool.false_eq_true, c92, g1]
    exact kk I M h
theorem c68 (h : EX 1 S C I M) (hp : PC C) (hv : VB S.1 k) (hT : S.1 4 = nI T) (hb : T < 999980000) (hov : OV S.2.1) {t x y c : Int32} (kk : ∀ I' M', EX 1 (p_sell S t x y c).2 C I' M' → Q (some (.int (p_sell S t x y c).1)) (LK, I', M')) : Cl (d + 5) 68 [.ref 0, .int t, .int x, .int y, .int c] (LK, I, M) Q := by
  have hk6 := hv.2.1
  unfold p_sell at kk
  by_cases g1 : nI 0 ≤ t ∧ t ≤ nI 5
  · rw [if_pos g1] at kk
    obtain ⟨t, ht, rfl⟩ := tr_of g1
    rw [nIc (by omega)] at kk
    by_cases g2 : nI 1 ≤ c ∧ c ≤ nI 50
    · rw [if_pos g2] at kk
      simp (disch := omega) only [E68, K68, ai_c1i, ai_c1n, ai_c1r, e_aald, e_al0, e_al5, e_an0, e_an5, e_as5, e_az5, e_c3, e_const, e_cs1, e_cs3, e_cv2, e_cv3, e_cv6, e_getI, e_getR, e_iald, e_il1, e_il2, e_il3, e_il4, e_il6, e_is6, e_neg, e_reti, e_xn, e_xr, e_z0, e_z1, Option.toList_some, Option.toList_none, List.cons_append, List.nil_append, List.append_nil, List.length_cons, List.length_nil, Nat.reduceAdd, Nat.reduceLeDiff, Nat.zero_le, true_and, and_true, and_self, true_implies, forall_const, ai_rvs, ai_rv0, ai_b_0, Classical.not_not, q_0, q_1, q_64, q_65, q_82, q_mk, q_od, not_true_eq_false, false_implies, not_false_eq_true, true_implies, and_true, true_and, if_true, if_false, Bool.false_eq_true, c92, c95, g1, g2, m_00 h hp]
      refine c10m h hv (fun m n o hm ex hn n2 n4 ho ey em => ?_) (fun em => ?_)
      · rw [em] at kk
        dsimp only at kk
        subst ex ey
        have e : S.1 (25 + 43 * m + 4 * t + o) = hq S.1 m t o := rfl
        by_cases g3 : S.1 (12 + 43 * m) = nI 0
        · rw [if_pos g3] at kk
          by_cases g4 : hq S.1 m t o < c
          · rw [if_pos g4] at kk
            simp (disch := omega) only [K68, ai_c1i, ai_c1n, ai_c1r, e_aald, e_al0, e_al5, e_an0, e_an5, e_as5, e_az5, e_c3, e_const, e_cs1, e_cs3, e_cv2, e_cv3, e_cv6, e_getI, e_getR, e_iald, e_il1, e_il2, e_il3, e_il4, e_il6, e_is6, e_neg, e_reti, e_xn, e_xr, e_z0, e_z1, Option.toList_some, Option.toList_none, List.cons_append, List.nil_append, List.append_nil, List.length_cons, List.length_nil, Nat.reduceAdd, Nat.reduceLeDiff, Nat.zero_le, true_and, and_true, and_self, true_implies, forall_const, ai_rvs, ai_rv0, ai_b_0, Classical.not_not, q_0, q_1, q_64, q_65, q_82, q_mk, q_od, not_true_eq_false, false_implies, not_false_eq_true, true_implies, and_true, true_and, if_true, if_false, Bool.false_eq_true, rd_st h, p_0, g3, m_hd h, a_hd, m_ht h, a_hr, nIc, rd_hd h, e, i_nle.mpr g4]
            exact kk I M h
          · rw [if_neg g4] at kk
            simp (disch := omega) only [K68, ai_c1i, ai_c1n, ai_c1r, e_aald, e_al0, e_al5, e_an0, e_an5, e_as5, e_az5, e_c3, e_const, e_cs1, e_cs3, e_cv2, e_cv3, e_cv6, e_getI, e_getR, e_iald, e_il1, e_il2, e_il3, e_il4, e_il6, e_is6, e_neg, e_reti, e_xn, e_xr, e_z0, e_z1, Option.toList_some, Option.toList_none, List.cons_append, List.nil_append, List.append_nil, List.length_cons, List.length_nil, Nat.reduceAdd, Nat.reduceLeDiff, Nat.zero_le, true_and, and_true, and_self, true_implies, forall_const, ai_rvs, ai_rv0, ai_b_0, Classical.not_not, q_0, q_1, q_64, q_65, q_82, q_mk, q_od, not_true_eq_false, false_implies, not_false_eq_true, true_implies, and_true, true_and, if_true, if_false, Bool.false_eq_true, rd_st h, p_0, g3, m_hd h, a_hd, m_ht h, a_hr, nIc, rd_hd h, e, i_nlt.mp g4, m_00 h hp]
            refine c12 h hT (by omega) (by omega) hn n4 ht (by omega) fun I2 h2 => ?_
            simp (disch := omega) only [K68, ai_c1i, ai_c1n, ai_c1r, e_aald, e_al0, e_al5, e_an0, e_an5, e_as5, e_az5, e_c3, e_const, e_cs1, e_cs3, e_cv2, e_cv3, e_cv6, e_getI, e_getR, e_iald, e_il1, e_il2, e_il3, e_il4, e_il6, e_is6, e_neg, e_reti, e_xn, e_xr, e_z0, e_z1, Option.toList_some, Option.toList_none, List.cons_append, List.nil_append, List.append_nil, List.length_cons, List.length_nil, Nat.reduceAdd, Nat.reduceLeDiff, Nat.zero_le, true_and, and_true, and_self, true_implies, forall_const, ai_rvs, ai_rv0, ai_b_0, Classical.not_not, q_0, q_1, q_64, q_65, q_82, q_mk, q_od, not_true_eq_false, false_implies, not_false_eq_true, true_implies, and_true, true_and, if_true, if_false, Bool.false_eq_true, m_00 h2 hp]
            refine c15 (T := T + 1) h2 (by rw [tr_4, hT, nIa]) (by omega) (by omega) (by rw [tr_n ht (by omega)]; exact hn) n4 hov fun I3 M3 h3 => ?_
            simp (disch := omega) only [K68, ai_c1i, ai_c1n, ai_c1r, e_aald, e_al0, e_al5, e_an0, e_an5, e_as5, e_az5, e_c3, e_const, e_cs1, e_cs3, e_cv2, e_cv3, e_cv6, e_getI, e_getR, e_iald, e_il1, e_il2, e_il3, e_il4, e_il6, e_is6, e_neg, e_reti, e_xn, e_xr, e_z0, e_z1, Option.toList_some, Option.toList_none, List.cons_append, List.nil_append, List.append_nil, List.length_cons, List.length_nil, Nat.reduceAdd, Nat.reduceLeDiff, Nat.zero_le, true_and, and_true, and_self, true_implies, forall_const, ai_rvs, ai_rv0, ai_b_0, Classical.not_not, q_0, q_1, q_64, q_65, q_82, q_mk, q_od, not_true_eq_false, false_implies, not_false_eq_true, true_implies, and_true, true_and, if_true, if_false, Bool.false_eq_true]
            exact kk I3 M3 h3
        · rw [if_neg g3] at kk
          simp (disch := omega) only [K68, ai_c1i, ai_c1n, ai_c1r, e_aald, e_al0, e_al5, e_an0, e_an5, e_as5, e_az5, e_c3, e_const, e_cs1, e_cs3, e_cv2, e_cv3, e_cv6, e_getI, e_getR, e_iald, e_il1, e_il2, e_il3, e_il4, e_il6, e_is6, e_neg, e_reti, e_xn, e_xr, e_z0, e_z1, Option.toList_some, Option.toList_none, List.cons_append, List.nil_append, List.append_nil, List.length_cons, List.length_nil, Nat.reduceAdd, Nat.reduceLeDiff, Nat.zero_le, true_and, and_true, and_self, true_implies, forall_const, ai_rvs, ai_rv0, ai_b_0, Classical.not_not, q_0, q_1, q_64, q_65, q_82, q_mk, q_od, not_true_eq_false, false_implies, not_false_eq_true, true_implies, and_true, true_and, if_true, if_false, Bool.false_eq_true, rd_st h, p_0, g3]
          exact kk I M h
      · rw [em] at kk
        simp (disch := omega) only [K68, ai_c1i, ai_c1n, ai_c1r, e_aald, e_al0, e_al5, e_an0, e_an5, e_as5, e_az5, e_c3, e_const, e_cs1, e_cs3, e_cv2, e_cv3, e_cv6, e_getI, e_getR, e_iald, e_il1, e_il2, e_il3, e_il4, e_il6, e_is6, e_neg, e_reti, e_xn, e_xr, e_z0, e_z1, Option.toList_some, Option.toList_none, List.cons_append, List.nil_append, List.append_nil, List.length_cons, List.length_nil, Nat.reduceAdd, Nat.reduceLeDiff, Nat.zero_le, true_and, and_true, and_self, true_implies, forall_const, ai_rvs, ai_rv0, ai_b_0, Classical.not_not, q_0, q_1, q_64, q_65, q_82, q_mk, q_od, not_true_eq_false, false_implies, not_false_eq_true, true_implies, and_true, true_and, if_true, if_false, Bool.false_eq_true]
        exact kk I M h
    · rw [if_neg g2] at kk
      simp (disch := omega) only [E68, K68, ai_c1i, ai_c1n, ai_c1r, e_aald, e_al0, e_al5, e_an0, e_an5, e_as5, e_az5, e_c3, e_const, e_cs1, e_cs3, e_cv2, e_cv3, e_cv6, e_getI, e_getR, e_iald, e_il1, e_il2, e_il3, e_il4, e_il6, e_is6, e_neg, e_reti, e_xn, e_xr, e_z0, e_z1, Option.toList_some, Option.toList_none, List.cons_append, List.nil_append, List.append_nil, List.length_cons, List.length_nil, Nat.reduceAdd, Nat.reduceLeDiff, Nat.zero_le, true_and, and_true, and_self, true_implies, forall_const, ai_rvs, ai_rv0, ai_b_0, Classical.not_not, q_0, q_1, q_64, q_65, q_82, q_mk, q_od, not_true_eq_false, false_implies, not_false_eq_true, true_implies, and_true, true_and, if_true, if_false, Bool.false_eq_true, c92, c95, g1, g2]
      exact kk I M h
  · rw [if_neg g1] at kk
    simp (disch := omega) only [E68, K68, ai_c1i, ai_c1n, ai_c1r, e_aald, e_al0, e_al5, e_an0, e_an5, e_as5, e_az5, e_c3, e_const, e_cs1, e_cs3, e_cv2, e_cv3, e_cv6, e_getI, e_getR, e_iald, e_il1, e_il2, e_il3, e_il4, e_il6, e_is6, e_neg, e_reti, e_xn, e_xr, e_z0, e_z1, Option.toList_some, Option.toList_none, List.cons_append, List.nil_append, List.append_nil, List.length_cons, List.length_nil, Nat.reduceAdd, Nat.reduceLeDiff, Nat.zero_le, true_and, and_true, and_self, true_implies, forall_const, ai_rvs, ai_rv0, ai_b_0, Classical.not_not, q_0, q_1, q_64, q_65, q_82, q_mk, q_od, not_true_eq_false, false_implies, not_false_eq_true, true_implies, and_true, true_and, if_true, if_false, Bool.false_eq_true, c92, g1]
    exact kk I M h
end PM3
