/-! the reference's sums -/
section RSUM
variable {I : Nat → Nat → Int32} {J : Nat → Int32} {M : Nat → Nat → Nat} {S : St} {m n b k T : Nat} {s : Nat → Nat} {d : Nat} {Q : Option Value → ai_H → Prop}
theorem r146_l {t : Nat} {bo : Int32} (hm : RM M) (hj : RJ J S k) (hmk : m < k) (ht : t < 6) (h1 : S.1 (14 + 43 * m) = nI n) (n2 : 2 ≤ n) (n4 : n ≤ 4) (h2 : S.1 (13 + 43 * m) = nI b) (b1 : 1 ≤ b) (b2 : b ≤ 60) (h3 : ∀ o, o < n → S.1 (21 + 43 * m + o) = nI (s o) ∧ s o ≤ 400) (kk : ∀ u, Ev (d + 6) X0 146 66 [.ref 229, .int (nI t), .int (nI m), .int bo, .int (m_wo (qs S.1 m) (hq S.1 m t) n (S.1 (13 + 43 * m)) n), .int (m_mx (hq S.1 m t) n), .int (nI n), u] [] (LK, sr I J, M) Q) :
    ∀ r i u, r + i = n → Ev (d + 6) X0 146 9 [.ref 229, .int (nI t), .int (nI m), .int bo, .int (m_wo (qs S.1 m) (hq S.1 m t) n (S.1 (13 + 43 * m)) i), .int (m_mx (hq S.1 m t) i), .int (nI i), u] [] (LK, sr I J, M) Q
  | 0, i, u, hi => by
    obtain rfl : i = n := by omega
    have hk6 := hj.2.1
    have e2 : J (12 + 43 * m + 2) = nI i := by rw [hj.2.2.1 _ (by omega) (by omega), p_2]; exact h1
    have k3 := kk u
    rw [H146_9]
    simp (disch := omega) only [k146_0, k146_1, k146_3, k146_4, k146_6, k146_7, k146_11, k146_12, k146_13, k146_14, k146_17, k146_20, k146_21, k146_22, k146_24, k146_25, k146_26, k146_27, k146_28, k146_30, k146_31, k146_34, k146_36, k146_38, k146_40, k146_41, k146_42, k146_44, k146_47, k146_48, k146_49, k146_51, k146_53, k146_55, k146_58, k146_60, k146_63, k146_67, k146_70, k146_72, k146_75, k146_77, ai_c1i, ai_c1n, ai_c1r, e_al0, e_an0, e_b0, e_b2, e_c3, e_const, e_cs2, e_cv3, e_goto, e_ii6, e_il1, e_il2, e_il3, e_il4, e_il5, e_il6, e_il7, e_is4, e_is5, e_is6, e_is7, e_reti, e_z0, Option.toList_some, Option.toList_none, List.cons_append, List.nil_append, List.append_nil, List.length_cons, List.length_nil, Nat.reduceAdd, Nat.reduceLeDiff, Nat.zero_le, true_and, and_true, and_self, true_implies, forall_const, ai_rvs, ai_rv0, ai_b_0, Classical.not_not, not_true_eq_false, false_implies, not_false_eq_true, true_implies, and_true, true_and, if_true, if_false, Bool.false_eq_true, q_229, a_nw, r100 hm, sr_r, e2, Int32.le_refl]
    exact k3
  | r + 1, i, u, hi => by
    have hk6 := hj.2.1
    have rd := hj.2.2.1
    have hr : RK ((sr I J) 230) m n b s := RK.of hmk hk6 rd h1 n4 h2 b2 h3
    have e2 : J (12 + 43 * m + 2) = nI n := by rw [rd _ (by omega) (by omega), p_2]; exact h1
    have eh : J (12 + 43 * m + (13 + 4 * t + i)) = hq S.1 m t i := by rw [show 12 + 43 * m + (13 + 4 * t + i) = 25 + 43 * m + 4 * t + i by omega, rd _ (by omega) (by omega)]; rfl
    have eP : m_pr (fun o => J (21 + 43 * m + o)) n (nI b) i = m_pr (qs S.1 m) n (S.1 (13 + 43 * m)) i := by
      rw [h2]
      exact pr_congr (fun j hj' => rd _ (by omega) (by omega)) (by omega)
    have ih := r146_l (bo := bo) hm hj hmk ht h1 n2 n4 h2 b1 b2 h3 kk r (i + 1) (.int (hq S.1 m t i)) (by omega)
    rw [H146_9]
    simp (disch := omega) only [k146_0, k146_1, k146_3, k146_4, k146_6, k146_7, k146_11, k146_12, k146_13, k146_14, k146_17, k146_20, k146_21, k146_22, k146_24, k146_25, k146_26, k146_27, k146_28, k146_30, k146_31, k146_34, k146_36, k146_38, k146_40, k146_41, k146_42, k146_44, k146_47, k146_48, k146_49, k146_51, k146_53, k146_55, k146_58, k146_60, k146_63, k146_67, k146_70, k146_72, k146_75, k146_77, ai_c1i, ai_c1n, ai_c1r, e_al0, e_an0, e_b0, e_b2, e_c3, e_const, e_cs2, e_cv3, e_goto, e_ii6, e_il1, e_il2, e_il3, e_il4, e_il5, e_il6, e_il7, e_is4, e_is5, e_is6, e_is7, e_reti, e_z0, Option.toList_some, Option.toList_none, List.cons_append, List.nil_append, List.append_nil, List.length_cons, List.length_nil, Nat.reduceAdd, Nat.reduceLeDiff, Nat.zero_le, true_and, and_true, and_self, true_implies, forall_const, ai_rvs, ai_rv0, ai_b_0, Classical.not_not, not_true_eq_false, false_implies, not_false_eq_true, true_implies, and_true, true_and, if_true, if_false, Bool.false_eq_true, q_229, a_nw, r100 hm, sr_r, e2, nIle, nIa, nIm, eh, R108 hm hr (show 1 ≤ n by omega) b1 (show i < n by omega), eP, c160]
    refine ⟨fun g => absurd g (by omega), fun _ => ?_⟩
    exact ih
theorem r146 {t : Nat} {w3 : Bool} (hm : RM M) (hj : RJ J S k) (hmv : MV S.1 k) (hmk : m < k) (ht : t < 6) (kk : Q (some (.int (if w3 then m_mx (hq S.1 m t) (nN S.1 m) else m_wo (qs S.1 m) (hq S.1 m t) (nN S.1 m) (S.1 (13 + 43 * m)) (nN S.1 m)))) (LK, sr I J, M)) : Cl (d + 6) 146 [.ref 229, .int (nI t), .int (nI m), .int (if w3 then nI 1 else nI 0)] (LK, sr I J, M) Q := by
  obtain ⟨n, b, s, h1, n2, n4, h2, b1, b2, h3⟩ := hmv m hmk
  have n10 : (nI 1 = nI 0) = False := eq_false (by decide)
  rw [nN_of h1 n4] at kk
  simp (disch := omega) only [E146, k146_0, k146_1, k146_3, k146_4, k146_6, k146_7, k146_11, k146_12, k146_13, k146_14, k146_17, k146_20, k146_21, k146_22, k146_24, k146_25, k146_26, k146_27, k146_28, k146_30, k146_31, k146_34, k146_36, k146_38, k146_40, k146_41, k146_42, k146_44, k146_47, k146_48, k146_49, k146_51, k146_53, k146_55, k146_58, k146_60, k146_63, k146_67, k146_70, k146_72, k146_75, k146_77, ai_c1i, ai_c1n, ai_c1r, e_al0, e_an0, e_b0, e_b2, e_c3, e_const, e_cs2, e_cv3, e_goto, e_ii6, e_il1, e_il2, e_il3, e_il4, e_il5, e_il6, e_il7, e_is4, e_is5, e_is6, e_is7, e_reti, e_z0, Option.toList_some, Option.toList_none, List.cons_append, List.nil_append, List.append_nil, List.length_cons, List.length_nil, Nat.reduceAdd, Nat.reduceLeDiff, Nat.zero_le, true_and, and_true, and_self, true_implies, forall_const, ai_rvs, ai_rv0, ai_b_0, Classical.not_not, not_true_eq_false, false_implies, not_false_eq_true, true_implies, and_true, true_and, if_true, if_false, Bool.false_eq_true, q_229, a_nw]
  refine r146_l hm hj hmk ht h1 n2 n4 h2 b1 b2 h3 (fun u => ?_) n 0 _ (by omega)
  cases w3 with
  | true =>
    simp (disch := omega) only [K146, ai_c1i, ai_c1n, ai_c1r, e_al0, e_an0, e_b0, e_b2, e_c3, e_const, e_cs2, e_cv3, e_goto, e_ii6, e_il1, e_il2, e_il3, e_il4, e_il5, e_il6, e_il7, e_is4, e_is5, e_is6, e_is7, e_reti, e_z0, Option.toList_some, Option.toList_none, List.cons_append, List.nil_append, List.append_nil, List.length_cons, List.length_nil, Nat.reduceAdd, Nat.reduceLeDiff, Nat.zero_le, true_and, and_true, and_self, true_implies, forall_const, ai_rvs, ai_rv0, ai_b_0, Classical.not_not, not_true_eq_false, false_implies, not_false_eq_true, true_implies, and_true, true_and, if_true, if_false, Bool.false_eq_true, q_229, a_nw, n10]
    exact kk
  | false =>
    simp (disch := omega) only [K146, ai_c1i, ai_c1n, ai_c1r, e_al0, e_an0, e_b0, e_b2, e_c3, e_const, e_cs2, e_cv3, e_goto, e_ii6, e_il1, e_il2, e_il3, e_il4, e_il5, e_il6, e_il7, e_is4, e_is5, e_is6, e_is7, e_reti, e_z0, Option.toList_some, Option.toList_none, List.cons_append, List.nil_append, List.append_nil, List.length_cons, List.length_nil, Nat.reduceAdd, Nat.reduceLeDiff, Nat.zero_le, true_and, and_true, and_self, true_implies, forall_const, ai_rvs, ai_rv0, ai_b_0, Classical.not_not, not_true_eq_false, false_implies, not_false_eq_true, true_implies, and_true, true_and, if_true, if_false, Bool.false_eq_true, q_229, a_nw]
    exact kk
theorem r147_o {t : Nat} {L os : List Od} (hm : RM M) (hro : RO J L os) (h3 : J 3 = nI L.length) (hot : ∀ x ∈ L, ∃ t, t < 6 ∧ x.2.1 = nI t) (ht : t < 6) (kk : ∀ u, Ev (d + 1) X0 147 79 [.ref 229, .int (nI t), .int (nI 2), .int (nI (os.countP (fun o => decide (o.2.1 = nI t)))), u] [] (LK, sr I J, M) Q) :
    ∀ r i, r + i = os.length → Ev (d + 1) X0 147 43 [.ref 229, .int (nI t), .int (nI 2), .int (nI ((os.take i).countP (fun o => decide (o.2.1 = nI t)))), .int (nI i)] [] (LK, sr I J, M) Q
  | 0, i, hi => by
    obtain rfl : i = os.length := by omega
    obtain ⟨l1, l2⟩ := hro.len
    have k3 := kk (.int (nI os.length))
    rw [List.take_length]
    rw [H147_43]
    simp (disch := omega) only [k147_0, k147_1, k147_4, k147_7, k147_8, k147_9, k147_10, k147_13, k147_16, k147_18, k147_19, k147_20, k147_23, k147_24, k147_27, k147_29, k147_30, k147_31, k147_32, k147_33, k147_34, k147_35, k147_36, k147_37, k147_40, k147_41, k147_45, k147_46, k147_49, k147_50, k147_51, k147_54, k147_55, k147_58, k147_60, k147_63, k147_64, k147_65, k147_66, k147_67, k147_70, k147_73, k147_76, k147_80, k147_81, k147_84, k147_85, k147_89, k147_90, k147_93, k147_94, k147_95, k147_98, k147_99, k147_101, k147_102, k147_105, k147_106, k147_109, k147_110, k147_111, k147_112, k147_114, k147_115, k147_116, k147_119, k147_120, k147_123, k147_124, k147_127, k147_128, k147_129, k147_132, k147_135, k147_136, ai_c1i, ai_c1n, ai_c1r, e_al0, e_an0, e_b0, e_c0, e_c1, e_c3, e_const, e_cs1, e_cs3, e_cv3, e_cv4, e_getR, e_goto, e_iald, e_ii3, e_ii4, e_il1, e_il2, e_il3, e_il4, e_is3, e_is4, e_reti, e_z0, e_z1, Option.toList_some, Option.toList_none, List.cons_append, List.nil_append, List.append_nil, List.length_cons, List.length_nil, Nat.reduceAdd, Nat.reduceLeDiff, Nat.zero_le, true_and, and_true, and_self, true_implies, forall_const, ai_rvs, ai_rv0, ai_b_0, Classical.not_not, not_true_eq_false, false_implies, not_false_eq_true, true_implies, and_true, true_and, if_true, if_false, Bool.false_eq_true, q_229, a_nw, hm.1, nIc, sr_r, h3, l1, Int32.le_refl]
    rw [l1] at k3
    exact k3
  | r + 1, i, hi => by
    obtain ⟨l1, l2⟩ := hro.len
    obtain ⟨y, hy⟩ := get_lt (L := os) (i := i) (by omega)
    have e1 := (hro.f hy).2.1
    have ih := r147_o hm hro h3 hot ht kk r (i + 1) (by omega)
    rw [List.take_succ, hy, Option.toList_some, List.countP_append] at ih
    rw [H147_43]
    simp (disch := omega) only [k147_0, k147_1, k147_4, k147_7, k147_8, k147_9, k147_10, k147_13, k147_16, k147_18, k147_19, k147_20, k147_23, k147_24, k147_27, k147_29, k147_30, k147_31, k147_32, k147_33, k147_34, k147_35, k147_36, k147_37, k147_40, k147_41, k147_45, k147_46, k147_49, k147_50, k147_51, k147_54, k147_55, k147_58, k147_60, k147_63, k147_64, k147_65, k147_66, k147_67, k147_70, k147_73, k147_76, k147_80, k147_81, k147_84, k147_85, k147_89, k147_90, k147_93, k147_94, k147_95, k147_98, k147_99, k147_101, k147_102, k147_105, k147_106, k147_109, k147_110, k147_111, k147_112, k147_114, k147_115, k147_116, k147_119, k147_120, k147_123, k147_124, k147_127, k147_128, k147_129, k147_132, k147_135, k147_136, ai_c1i, ai_c1n, ai_c1r, e_al0, e_an0, e_b0, e_c0, e_c1, e_c3, e_const, e_cs1, e_cs3, e_cv3, e_cv4, e_getR, e_goto, e_iald, e_ii3, e_ii4, e_il1, e_il2, e_il3, e_il4, e_is3, e_is4, e_reti, e_z0, e_z1, Option.toList_some, Option.toList_none, List.cons_append, List.nil_append, List.append_nil, List.length_cons, List.length_nil, Nat.reduceAdd, Nat.reduceLeDiff, Nat.zero_le, true_and, and_true, and_self, true_implies, forall_const, ai_rvs, ai_rv0, ai_b_0, Classical.not_not, not_true_eq_false, false_implies, not_false_eq_true, true_implies, and_true, true_and, if_true, if_false, Bool.false_eq_true, q_229, a_nw, hm.1, c99, nIm, nIa, nIc, sr_r, h3, nIle, e1]
    refine ⟨fun g => absurd g (by omega), fun _ => ⟨fun g => ?_, fun g => ?_⟩⟩
    · rw [List.countP_cons_of_neg (by rw [decide_eq_true_eq]; exact g), List.countP_nil, Nat.add_zero] at ih
      exact ih
    · rw [List.countP_cons_of_pos (by rw [decide_eq_true_eq]; exact g), List.countP_nil] at ih
      exact ih
theorem r147_m {t w : Nat} (hm : RM M) (hj : RJ J S k) (hmv : MV S.1 k) (hst : MST S.1 k) (ht : t < 6) (hw : w = 1 ∨ w = 3) (kk : ∀ u, Ev (d + 7) X0 147 135 [.ref 229, .int (nI t), .int (nI w), .int (if w = 3 then s_mo S.1 t k else s_wo S.1 t k), u] [] (LK, sr I J, M) Q) :
    ∀ r i, r + i = k → Ev (d + 7) X0 147 87 [.ref 229, .int (nI t), .int (nI w), .int (if w = 3 then s_mo S.1 t i else s_wo S.1 t i), .int (nI i)] [] (LK, sr I J, M) Q
  | 0, i, hi => by
    obtain rfl : i = k := by omega
    have hk6 := hj.2.1
    have e1 : J 1 = nI i := by rw [hj.2.2.1 1 (by omega) (by omega)]; exact hj.1
    have k3 := kk (.int (nI i))
    rw [H147_87]
    simp (disch := omega) only [k147_0, k147_1, k147_4, k147_7, k147_8, k147_9, k147_10, k147_13, k147_16, k147_18, k147_19, k147_20, k147_23, k147_24, k147_27, k147_29, k147_30, k147_31, k147_32, k147_33, k147_34, k147_35, k147_36, k147_37, k147_40, k147_41, k147_45, k147_46, k147_49, k147_50, k147_51, k147_54, k147_55, k147_58, k147_60, k147_63, k147_64, k147_65, k147_66, k147_67, k147_70, k147_73, k147_76, k147_79, k147_80, k147_81, k147_84, k147_85, k147_89, k147_90, k147_93, k147_94, k147_95, k147_98, k147_99, k147_101, k147_102, k147_105, k147_106, k147_109, k147_110, k147_111, k147_112, k147_114, k147_115, k147_116, k147_119, k147_120, k147_123, k147_124, k147_127, k147_128, k147_129, k147_132, k147_136, ai_c1i, ai_c1n, ai_c1r, e_al0, e_an0, e_b0, e_c0, e_c1, e_c3, e_const, e_cs1, e_cs3, e_cv3, e_cv4, e_getR, e_goto, e_iald, e_ii3, e_ii4, e_il1, e_il2, e_il3, e_il4, e_is3, e_is4, e_reti, e_z0, e_z1, Option.toList_some, Option.toList_none, List.cons_append, List.nil_append, List.append_nil, List.length_cons, List.length_nil, Nat.reduceAdd, Nat.reduceLeDiff, Nat.zero_le, true_and, and_true, and_self, true_implies, forall_const, ai_rvs, ai_rv0, ai_b_0, Classical.not_not, not_true_eq_false, false_implies, not_false_eq_true, true_implies, and_true, true_and, if_true, if_false, Bool.false_eq_true, q_229, a_nw, hm.1, nIc, sr_r, e1, Int32.le_refl]
    exact k3
  | r + 1, i, hi => by
    have hk6 := hj.2.1
    have rd := hj.2.2.1
    have e1 : J 1 = nI k := by rw [rd 1 (by omega) (by omega)]; exact hj.1
    obtain ⟨st, hs4, es⟩ := hst i (by omega)
    have e0 : J (12 + 43 * i + 0) = nI st := (rd _ (by omega) (by omega)).trans es
    have ih := r147_m hm hj hmv hst ht hw kk r (i + 1) (by omega)
    have lv : (decide (S.1 (12 + 43 * i) = nI 0) || decide (S.1 (12 + 43 * i) = nI 1)) = decide (st < 2) := by
      rw [es, Bool.eq_iff_iff, Bool.or_eq_true, decide_eq_true_eq, decide_eq_true_eq, decide_eq_true_eq, nIeq (by omega) (by omega), nIeq (by omega) (by omega)]
      omega
    have s1 : s_mo S.1 t (i + 1) = s_mo S.1 t i + (if st < 2 then m_mx (hq S.1 i t) (nN S.1 i) else nI 0) := by
      unfold s_mo
      rw [bx_s, lv]
      simp only [decide_eq_true_eq]
    have s2 : s_wo S.1 t (i + 1) = s_wo S.1 t i + (if st < 2 then m_wo (qs S.1 i) (hq S.1 i t) (nN S.1 i) (S.1 (13 + 43 * i)) (nN S.1 i) else nI 0) := by
      unfold s_wo
      rw [bx_s, lv]
      simp only [decide_eq_true_eq]
    rw [s1, s2] at ih
    rw [H147_87]
    by_cases g : st < 2
    · rw [if_pos g, if_pos g] at ih
      have g' : ¬ 2 ≤ st := by omega
      rcases hw with rfl | rfl
      · rw [if_neg (by omega)] at ih
        rw [if_neg (by omega)]
        have n13 : (nI 1 = nI 3) = False := eq_false (by decide)
        simp (disch := omega) only [k147_0, k147_1, k147_4, k147_7, k147_8, k147_9, k147_10, k147_13, k147_16, k147_18, k147_19, k147_20, k147_23, k147_24, k147_27, k147_29, k147_30, k147_31, k147_32, k147_33, k147_34, k147_35, k147_36, k147_37, k147_40, k147_41, k147_45, k147_46, k147_49, k147_50, k147_51, k147_54, k147_55, k147_58, k147_60, k147_63, k147_64, k147_65, k147_66, k147_67, k147_70, k147_73, k147_76, k147_79, k147_80, k147_81, k147_84, k147_85, k147_89, k147_90, k147_93, k147_94, k147_95, k147_98, k147_99, k147_101, k147_102, k147_105, k147_106, k147_109, k147_110, k147_111, k147_112, k147_114, k147_115, k147_116, k147_119, k147_120, k147_123, k147_124, k147_127, k147_128, k147_129, k147_132, k147_136, ai_c1i, ai_c1n, ai_c1r, e_al0, e_an0, e_b0, e_c0, e_c1, e_c3, e_const, e_cs1, e_cs3, e_cv3, e_cv4, e_getR, e_goto, e_iald, e_ii3, e_ii4, e_il1, e_il2, e_il3, e_il4, e_is3, e_is4, e_reti, e_z0, e_z1, Option.toList_some, Option.toList_none, List.cons_append, List.nil_append, List.append_nil, List.length_cons, List.length_nil, Nat.reduceAdd, Nat.reduceLeDiff, Nat.zero_le, true_and, and_true, and_self, true_implies, forall_const, ai_rvs, ai_rv0, ai_b_0, Classical.not_not, not_true_eq_false, false_implies, not_false_eq_true, true_implies, and_true, true_and, if_true, if_false, Bool.false_eq_true, q_229, a_nw, hm.1, nIc, sr_r, e1, nIle, r100 hm, e0, g', n13]
        refine ⟨fun g => absurd g (by omega), fun _ => ?_⟩
        refine r146 (d := d) (w3 := false) hm hj hmv (show i < k by omega) ht ?_
        simp (disch := omega) only [k147_0, k147_1, k147_4, k147_7, k147_8, k147_9, k147_10, k147_13, k147_16, k147_18, k147_19, k147_20, k147_23, k147_24, k147_27, k147_29, k147_30, k147_31, k147_32, k147_33, k147_34, k147_35, k147_36, k147_37, k147_40, k147_41, k147_45, k147_46, k147_49, k147_50, k147_51, k147_54, k147_55, k147_58, k147_60, k147_63, k147_64, k147_65, k147_66, k147_67, k147_70, k147_73, k147_76, k147_79, k147_80, k147_81, k147_84, k147_85, k147_89, k147_90, k147_93, k147_94, k147_95, k147_98, k147_99, k147_101, k147_102, k147_105, k147_106, k147_109, k147_110, k147_111, k147_112, k147_114, k147_115, k147_116, k147_119, k147_120, k147_123, k147_124, k147_127, k147_128, k147_129, k147_132, k147_136, ai_c1i, ai_c1n, ai_c1r, e_al0, e_an0, e_b0, e_c0, e_c1, e_c3, e_const, e_cs1, e_cs3, e_cv3, e_cv4, e_getR, e_goto, e_iald, e_ii3, e_ii4, e_il1, e_il2, e_il3, e_il4, e_is3, e_is4, e_reti, e_z0, e_z1, Option.toList_some, Option.toList_none, List.cons_append, List.nil_append, List.append_nil, List.length_cons, List.length_nil, Nat.reduceAdd, Nat.reduceLeDiff, Nat.zero_le, true_and, and_true, and_self, true_implies, forall_const, ai_rvs, ai_rv0, ai_b_0, Classical.not_not, not_true_eq_false, false_implies, not_false_eq_true, true_implies, and_true, true_and, if_true, if_false, Bool.false_eq_true, q_229, a_nw, nIa]
        exact ih
      · rw [if_pos rfl] at ih
        rw [if_pos rfl]
        simp (disch := omega) only [k147_0, k147_1, k147_4, k147_7, k147_8, k147_9, k147_10, k147_13, k147_16, k147_18, k147_19, k147_20, k147_23, k147_24, k147_27, k147_29, k147_30, k147_31, k147_32, k147_33, k147_34, k147_35, k147_36, k147_37, k147_40, k147_41, k147_45, k147_46, k147_49, k147_50, k147_51, k147_54, k147_55, k147_58, k147_60, k147_63, k147_64, k147_65, k147_66, k147_67, k147_70, k147_73, k147_76, k147_79, k147_80, k147_81, k147_84, k147_85, k147_89, k147_90, k147_93, k147_94, k147_95, k147_98, k147_99, k147_101, k147_102, k147_105, k147_106, k147_109, k147_110, k147_111, k147_112, k147_114, k147_115, k147_116, k147_119, k147_120, k147_123, k147_124, k147_127, k147_128, k147_129, k147_132, k147_136, ai_c1i, ai_c1n, ai_c1r, e_al0, e_an0, e_b0, e_c0, e_c1, e_c3, e_const, e_cs1, e_cs3, e_cv3, e_cv4, e_getR, e_goto, e_iald, e_ii3, e_ii4, e_il1, e_il2, e_il3, e_il4, e_is3, e_is4, e_reti, e_z0, e_z1, Option.toList_some, Option.toList_none, List.cons_append, List.nil_append, List.append_nil, List.length_cons, List.length_nil, Nat.reduceAdd, Nat.reduceLeDiff, Nat.zero_le, true_and, and_true, and_self, true_implies, forall_const, ai_rvs, ai_rv0, ai_b_0, Classical.not_not, not_true_eq_false, false_implies, not_false_eq_true, true_implies, and_true, true_and, if_true, if_false, Bool.false_eq_true, q_229, a_nw, hm.1, nIc, sr_r, e1, nIle, r100 hm, e0, g']
        refine ⟨fun g => absurd g (by omega), fun _ => ?_⟩
        refine r146 (d := d) (w3 := true) hm hj hmv (show i < k by omega) ht ?_
        simp (disch := omega) only [k147_0, k147_1, k147_4, k147_7, k147_8, k147_9, k147_10, k147_13, k147_16, k147_18, k147_19, k147_20, k147_23, k147_24, k147_27, k147_29, k147_30, k147_31, k147_32, k147_33, k147_34, k147_35, k147_36, k147_37, k147_40, k147_41, k147_45, k147_46, k147_49, k147_50, k147_51, k147_54, k147_55, k147_58, k147_60, k147_63, k147_64, k147_65, k147_66, k147_67, k147_70, k147_73, k147_76, k147_79, k147_80, k147_81, k147_84, k147_85, k147_89, k147_90, k147_93, k147_94, k147_95, k147_98, k147_99, k147_101, k147_102, k147_105, k147_106, k147_109, k147_110, k147_111, k147_112, k147_114, k147_115, k147_116, k147_119, k147_120, k147_123, k147_124, k147_127, k147_128, k147_129, k147_132, k147_136, ai_c1i, ai_c1n, ai_c1r, e_al0, e_an0, e_b0, e_c0, e_c1, e_c3, e_const, e_cs1, e_cs3, e_cv3, e_cv4, e_getR, e_goto, e_iald, e_ii3, e_ii4, e_il1, e_il2, e_il3, e_il4, e_is3, e_is4, e_reti, e_z0, e_z1, Option.toList_some, Option.toList_none, List.cons_append, List.nil_append, List.append_nil, List.length_cons, List.length_nil, Nat.reduceAdd, Nat.reduceLeDiff, Nat.zero_le, true_and, and_true, and_self, true_implies, forall_const, ai_rvs, ai_rv0, ai_b_0, Classical.not_not, not_true_eq_false, false_implies, not_false_eq_true, true_implies, and_true, true_and, if_true, if_false, Bool.false_eq_true, q_229, a_nw, nIa]
        exact ih
    · rw [if_neg g, if_neg g, i_add0, i_add0] at ih
      have g' : 2 ≤ st := by omega
      simp (disch := omega) only [k147_0, k147_1, k147_4, k147_7, k147_8, k147_9, k147_10, k147_13, k147_16, k147_18, k147_19, k147_20, k147_23, k147_24, k147_27, k147_29, k147_30, k147_31, k147_32, k147_33, k147_34, k147_35, k147_36, k147_37, k147_40, k147_41, k147_45, k147_46, k147_49, k147_50, k147_51, k147_54, k147_55, k147_58, k147_60, k147_63, k147_64, k147_65, k147_66, k147_67, k147_70, k147_73, k147_76, k147_79, k147_80, k147_81, k147_84, k147_85, k147_89, k147_90, k147_93, k147_94, k147_95, k147_98, k147_99, k147_101, k147_102, k147_105, k147_106, k147_109, k147_110, k147_111, k147_112, k147_114, k147_115, k147_116, k147_119, k147_120, k147_123, k147_124, k147_127, k147_128, k147_129, k147_132, k147_136, ai_c1i, ai_c1n, ai_c1r, e_al0, e_an0, e_b0, e_c0, e_c1, e_c3, e_const, e_cs1, e_cs3, e_cv3, e_cv4, e_getR, e_goto, e_iald, e_ii3, e_ii4, e_il1, e_il2, e_il3, e_il4, e_is3, e_is4, e_reti, e_z0, e_z1, Option.toList_some, Option.toList_none, List.cons_append, List.nil_append, List.append_nil, List.length_cons, List.length_nil, Nat.reduceAdd, Nat.reduceLeDiff, Nat.zero_le, true_and, and_true, and_self, true_implies, forall_const, ai_rvs, ai_rv0, ai_b_0, Classical.not_not, not_true_eq_false, false_implies, not_false_eq_true, true_implies, and_true, true_and, if_true, if_false, Bool.false_eq_true, q_229, a_nw, hm.1, nIc, sr_r, e1, nIle, r100 hm, e0, g', nIa]
      exact ⟨fun g => absurd g (by omega), fun _ => ih⟩
theorem r147 (hm : RM M) (hj : RJ J S k) (hev : EV S k) (hst : MST S.1 k) {t w : Int32} (kk : Q (some (.int (p_trd S t w))) (LK, sr I J, M)) : Cl (d + 7) 147 [.ref 229, .int t, .int w] (LK, sr I J, M) Q := by
  have hk6 := hj.2.1
  have rd := hj.2.2.1
  have n10 : (nI 1 = nI 0) = False := eq_false (by decide)
  unfold p_trd at kk
  rw [hj.1, nIc (by omega)] at kk
  by_cases g1 : nI 0 ≤ t ∧ t ≤ nI 5
  · rw [if_pos g1] at kk
    obtain ⟨t, ht, rfl⟩ := tr_of g1
    rw [nIc (by omega)] at kk
    rcases sw_cases w 4 with ⟨j, hj4, rfl⟩ | hx
    · have g2 : nI 0 ≤ nI j ∧ nI j ≤ nI 3 := ⟨nI_0le j (by omega), (nIle (by omega) (by omega)).mpr (by omega)⟩
      rcases (by omega : j = 0 ∨ j = 1 ∨ j = 2 ∨ j = 3) with rfl | rfl | rfl | rfl
      all_goals simp (disch := omega) only [nIeq, Nat.reduceEqDiff, Nat.one_ne_zero, Nat.zero_ne_one, if_true, if_false] at kk
      · have rb : J (6 + t) = S.1 (6 + t) := rd _ (by omega) (by omega)
        simp (disch := omega) only [E147, k147_0, k147_1, k147_4, k147_7, k147_8, k147_9, k147_10, k147_13, k147_16, k147_18, k147_19, k147_20, k147_23, k147_24, k147_27, k147_29, k147_30, k147_31, k147_32, k147_33, k147_34, k147_35, k147_36, k147_37, k147_40, k147_41, k147_45, k147_46, k147_49, k147_50, k147_51, k147_54, k147_55, k147_58, k147_60, k147_63, k147_64, k147_65, k147_66, k147_67, k147_70, k147_73, k147_76, k147_80, k147_81, k147_84, k147_85, k147_89, k147_90, k147_93, k147_94, k147_95, k147_98, k147_99, k147_101, k147_102, k147_105, k147_106, k147_109, k147_110, k147_111, k147_112, k147_114, k147_115, k147_116, k147_119, k147_120, k147_123, k147_124, k147_127, k147_128, k147_129, k147_132, k147_135, k147_136, ai_c1i, ai_c1n, ai_c1r, e_al0, e_an0, e_b0, e_c0, e_c1, e_c3, e_const, e_cs1, e_cs3, e_cv3, e_cv4, e_getR, e_goto, e_iald, e_ii3, e_ii4, e_il1, e_il2, e_il3, e_il4, e_is3, e_is4, e_reti, e_z0, e_z1, Option.toList_some, Option.toList_none, List.cons_append, List.nil_append, List.append_nil, List.length_cons, List.length_nil, Nat.reduceAdd, Nat.reduceLeDiff, Nat.zero_le, true_and, and_true, and_self, true_implies, forall_const, ai_rvs, ai_rv0, ai_b_0, Classical.not_not, not_true_eq_false, false_implies, not_false_eq_true, true_implies, and_true, true_and, if_true, if_false, Bool.false_eq_true, q_229, a_nw, r103, g1, n10, c97, g2, hm.1, nIa, nIc, sr_r, rb]
        exact kk
      · have n12 : (nI 1 = nI 2) = False := eq_false (by decide)
        have l := r147_m (d := d) (t := t) (w := 1) (I := I) (Q := Q) hm hj hev.1 hst ht (Or.inl rfl) (fun u => by
          simp (disch := omega) only [K147_0, K147_1, ai_c1i, ai_c1n, ai_c1r, e_al0, e_an0, e_b0, e_c0, e_c1, e_c3, e_const, e_cs1, e_cs3, e_cv3, e_cv4, e_getR, e_goto, e_iald, e_ii3, e_ii4, e_il1, e_il2, e_il3, e_il4, e_is3, e_is4, e_reti, e_z0, e_z1, Option.toList_some, Option.toList_none, List.cons_append, List.nil_append, List.append_nil, List.length_cons, List.length_nil, Nat.reduceAdd, Nat.reduceLeDiff, Nat.zero_le, true_and, and_true, and_self, true_implies, forall_const, ai_rvs, ai_rv0, ai_b_0, Classical.not_not, not_true_eq_false, false_implies, not_false_eq_true, true_implies, and_true, true_and, if_true, if_false, Bool.false_eq_true, q_229, a_nw]
          rw [if_neg (by omega)]
          exact kk) k 0 (by omega)
        rw [if_neg (by omega)] at l
        simp (disch := omega) only [E147, K147_0, K147_1, ai_c1i, ai_c1n, ai_c1r, e_al0, e_an0, e_b0, e_c0, e_c1, e_c3, e_const, e_cs1, e_cs3, e_cv3, e_cv4, e_getR, e_goto, e_iald, e_ii3, e_ii4, e_il1, e_il2, e_il3, e_il4, e_is3, e_is4, e_reti, e_z0, e_z1, Option.toList_some, Option.toList_none, List.cons_append, List.nil_append, List.append_nil, List.length_cons, List.length_nil, Nat.reduceAdd, Nat.reduceLeDiff, Nat.zero_le, true_and, and_true, and_self, true_implies, forall_const, ai_rvs, ai_rv0, ai_b_0, Classical.not_not, not_true_eq_false, false_implies, not_false_eq_true, true_implies, and_true, true_and, if_true, if_false, Bool.false_eq_true, q_229, a_nw, r103, g1, n10, c97, g2, n12]
        exact l
      · have n20 : (nI 2 = nI 0) = False := eq_false (by decide)
        obtain ⟨os, hro⟩ := hj.ro
        have h3 : J 3 = nI S.2.1.length := (rd 3 (by omega) (by omega)).trans hev.2.1
        have l := r147_o (d := d + 6) (t := t) (I := I) (Q := Q) hm hro h3 (fun x hx => by
          obtain ⟨m, n, o, t, a1, a2, a3, a4, a5, a6, a7, a8⟩ := hev.2.2.1 x hx
          exact ⟨t, a7, a8⟩) ht (fun u => by
          simp (disch := omega) only [K147_0, K147_1, ai_c1i, ai_c1n, ai_c1r, e_al0, e_an0, e_b0, e_c0, e_c1, e_c3, e_const, e_cs1, e_cs3, e_cv3, e_cv4, e_getR, e_goto, e_iald, e_ii3, e_ii4, e_il1, e_il2, e_il3, e_il4, e_is3, e_is4, e_reti, e_z0, e_z1, Option.toList_some, Option.toList_none, List.cons_append, List.nil_append, List.append_nil, List.length_cons, List.length_nil, Nat.reduceAdd, Nat.reduceLeDiff, Nat.zero_le, true_and, and_true, and_self, true_implies, forall_const, ai_rvs, ai_rv0, ai_b_0, Classical.not_not, not_true_eq_false, false_implies, not_false_eq_true, true_implies, and_true, true_and, if_true, if_false, Bool.false_eq_true, q_229, a_nw]
          rw [hro.2.1.countP_eq]
          exact kk) os.length 0 (by omega)
        simp (disch := omega) only [E147, k147_0, k147_1, k147_4, k147_7, k147_8, k147_9, k147_10, k147_13, k147_16, k147_18, k147_19, k147_20, k147_23, k147_24, k147_27, k147_29, k147_30, k147_31, k147_32, k147_33, k147_34, k147_35, k147_36, k147_37, k147_40, k147_41, k147_45, k147_46, k147_49, k147_50, k147_51, k147_54, k147_55, k147_58, k147_60, k147_63, k147_64, k147_65, k147_66, k147_67, k147_70, k147_73, k147_76, k147_80, k147_81, k147_84, k147_85, k147_89, k147_90, k147_93, k147_94, k147_95, k147_98, k147_99, k147_101, k147_102, k147_105, k147_106, k147_109, k147_110, k147_111, k147_112, k147_114, k147_115, k147_116, k147_119, k147_120, k147_123, k147_124, k147_127, k147_128, k147_129, k147_132, k147_135, k147_136, ai_c1i, ai_c1n, ai_c1r, e_al0, e_an0, e_b0, e_c0, e_c1, e_c3, e_const, e_cs1, e_cs3, e_cv3, e_cv4, e_getR, e_goto, e_iald, e_ii3, e_ii4, e_il1, e_il2, e_il3, e_il4, e_is3, e_is4, e_reti, e_z0, e_z1, Option.toList_some, Option.toList_none, List.cons_append, List.nil_append, List.append_nil, List.length_cons, List.length_nil, Nat.reduceAdd, Nat.reduceLeDiff, Nat.zero_le, true_and, and_true, and_self, true_implies, forall_const, ai_rvs, ai_rv0, ai_b_0, Classical.not_not, not_true_eq_false, false_implies, not_false_eq_true, true_implies, and_true, true_and, if_true, if_false, Bool.false_eq_true, q_229, a_nw, r103, g1, n10, c97, g2, n20]
        exact l
      · have n30 : (nI 3 = nI 0) = False := eq_false (by decide)
        have n32 : (nI 3 = nI 2) = False := eq_false (by decide)
        have l := r147_m (d := d) (t := t) (w := 3) (I := I) (Q := Q) hm hj hev.1 hst ht (Or.inr rfl) (fun u => by
          simp (disch := omega) only [K147_0, K147_1, ai_c1i, ai_c1n, ai_c1r, e_al0, e_an0, e_b0, e_c0, e_c1, e_c3, e_const, e_cs1, e_cs3, e_cv3, e_cv4, e_getR, e_goto, e_iald, e_ii3, e_ii4, e_il1, e_il2, e_il3, e_il4, e_is3, e_is4, e_reti, e_z0, e_z1, Option.toList_some, Option.toList_none, List.cons_append, List.nil_append, List.append_nil, List.length_cons, List.length_nil, Nat.reduceAdd, Nat.reduceLeDiff, Nat.zero_le, true_and, and_true, and_self, true_implies, forall_const, ai_rvs, ai_rv0, ai_b_0, Classical.not_not, not_true_eq_false, false_implies, not_false_eq_true, true_implies, and_true, true_and, if_true, if_false, Bool.false_eq_true, q_229, a_nw]
          exact kk) k 0 (by omega)
        rw [if_pos rfl] at l
        simp (disch := omega) only [E147, K147_0, K147_1, ai_c1i, ai_c1n, ai_c1r, e_al0, e_an0, e_b0, e_c0, e_c1, e_c3, e_const, e_cs1, e_cs3, e_cv3, e_cv4, e_getR, e_goto, e_iald, e_ii3, e_ii4, e_il1, e_il2, e_il3, e_il4, e_is3, e_is4, e_reti, e_z0, e_z1, Option.toList_some, Option.toList_none, List.cons_append, List.nil_append, List.append_nil, List.length_cons, List.length_nil, Nat.reduceAdd, Nat.reduceLeDiff, Nat.zero_le, true_and, and_true, and_self, true_implies, forall_const, ai_rvs, ai_rv0, ai_b_0, Classical.not_not, not_true_eq_false, false_implies, not_false_eq_true, true_implies, and_true, true_and, if_true, if_false, Bool.false_eq_true, q_229, a_nw, r103, g1, n10, c97, g2, n30, n32]
        exact l
    · have e : ∀ j, j < 4 → (w = nI j) = False := fun j hj => eq_false (hx j hj)
      have g2 : ¬ (nI 0 ≤ w ∧ w ≤ nI 3) := fun g => by
        obtain ⟨j, hj4, rfl⟩ := nI_ofr (k := 4) g.1 (Int32.lt_of_le_of_lt g.2 (by decide)) (by omega)
        exact hx j (by omega) rfl
      simp (disch := omega) only [e, if_false] at kk
      simp (disch := omega) only [E147, k147_0, k147_1, k147_4, k147_7, k147_8, k147_9, k147_10, k147_13, k147_16, k147_18, k147_19, k147_20, k147_23, k147_24, k147_27, k147_29, k147_30, k147_31, k147_32, k147_33, k147_34, k147_35, k147_36, k147_37, k147_40, k147_41, k147_45, k147_46, k147_49, k147_50, k147_51, k147_54, k147_55, k147_58, k147_60, k147_63, k147_64, k147_65, k147_66, k147_67, k147_70, k147_73, k147_76, k147_80, k147_81, k147_84, k147_85, k147_89, k147_90, k147_93, k147_94, k147_95, k147_98, k147_99, k147_101, k147_102, k147_105, k147_106, k147_109, k147_110, k147_111, k147_112, k147_114, k147_115, k147_116, k147_119, k147_120, k147_123, k147_124, k147_127, k147_128, k147_129, k147_132, k147_135, k147_136, ai_c1i, ai_c1n, ai_c1r, e_al0, e_an0, e_b0, e_c0, e_c1, e_c3, e_const, e_cs1, e_cs3, e_cv3, e_cv4, e_getR, e_goto, e_iald, e_ii3, e_ii4, e_il1, e_il2, e_il3, e_il4, e_is3, e_is4, e_reti, e_z0, e_z1, Option.toList_some, Option.toList_none, List.cons_append, List.nil_append, List.append_nil, List.length_cons, List.length_nil, Nat.reduceAdd, Nat.reduceLeDiff, Nat.zero_le, true_and, and_true, and_self, true_implies, forall_const, ai_rvs, ai_rv0, ai_b_0, Classical.not_not, not_true_eq_false, false_implies, not_false_eq_true, true_implies, and_true, true_and, if_true, if_false, Bool.false_eq_true, q_229, a_nw, r103, g1, n10, c97, g2]
      exact kk
  · rw [if_neg g1] at kk
    simp (disch := omega) only [E147, k147_0, k147_1, k147_4, k147_7, k147_8, k147_9, k147_10, k147_13, k147_16, k147_18, k147_19, k147_20, k147_23, k147_24, k147_27, k147_29, k147_30, k147_31, k147_32, k147_33, k147_34, k147_35, k147_36, k147_37, k147_40, k147_41, k147_45, k147_46, k147_49, k147_50, k147_51, k147_54, k147_55, k147_58, k147_60, k147_63, k147_64, k147_65, k147_66, k147_67, k147_70, k147_73, k147_76, k147_80, k147_81, k147_84, k147_85, k147_89, k147_90, k147_93, k147_94, k147_95, k147_98, k147_99, k147_101, k147_102, k147_105, k147_106, k147_109, k147_110, k147_111, k147_112, k147_114, k147_115, k147_116, k147_119, k147_120, k147_123, k147_124, k147_127, k147_128, k147_129, k147_132, k147_135, k147_136, ai_c1i, ai_c1n, ai_c1r, e_al0, e_an0, e_b0, e_c0, e_c1, e_c3, e_const, e_cs1, e_cs3, e_cv3, e_cv4, e_getR, e_goto, e_iald, e_ii3, e_ii4, e_il1, e_il2, e_il3, e_il4, e_is3, e_is4, e_reti, e_z0, e_z1, Option.toList_some, Option.toList_none, List.cons_append, List.nil_append, List.append_nil, List.length_cons, List.length_nil, Nat.reduceAdd, Nat.reduceLeDiff, Nat.zero_le, true_and, and_true, and_self, true_implies, forall_const, ai_rvs, ai_rv0, ai_b_0, Classical.not_not, not_true_eq_false, false_implies, not_false_eq_true, true_implies, and_true, true_and, if_true, if_false, Bool.false_eq_true, q_229, a_nw, r103, g1]
    exact kk
end RSUM
