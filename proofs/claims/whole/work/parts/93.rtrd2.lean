/-! the reference trades the text, whole -/
section RTRD2
variable {tx : Nat → Int32} {len k k' T N tm : Nat} {I : Nat → Nat → Int32} {M : Nat → Nat → Nat} {S S' : St} {s : Bool} {d : Nat} {Q : Option Value → ai_H → Prop}
theorem r156 {R : Rd} (h : RW S k S' k' s tx len I M) (hinv : INV S k T N tm) (hb : T < 999900000) (kk : ∀ I', (∀ a, a < 229 → I' a = I a) → RW (p_td S tx len R).2 k S' k' s tx 0 I' M → Q (some (.int (p_td S tx len R).1)) (LK, I', M)) : Cl (d + 11) 156 [.ref 229] (LK, I, M) Q := by
  obtain ⟨w1, w2, w3, w4, w5, w6, w7⟩ := id h
  have n10 : (nI 1 = nI 0) = False := eq_false (by decide)
  have eat : ai_u I 229 5 (nI 0) = atp I 0 := rfl
  unfold p_td at kk
  -- the world after
  have wo : ∀ {p : Nat} {S2 : St} {J' : Nat → Int32}, RJ J' S2 k → (∀ a, a < 229 → sr (ai_u (atp I p) 229 4 (nI 0)) J' a = I a) ∧ RW S2 k S' k' s tx 0 (sr (ai_u (atp I p) 229 4 (nI 0)) J') M := fun {p S2 J'} hj => by
    have o : ∀ a, a ≠ 229 → a ≠ 230 → sr (ai_u (atp I p) 229 4 (nI 0)) J' a = I a := fun a h1 h2 => by
      rw [sr_o h2, ai_u_other _ _ _ _ h1]
      unfold atp
      rw [ai_u_other _ _ _ _ h1]
    refine ⟨fun a ha => o a (by omega) (by omega), w1, hj, ?_, ?_, by omega, ?_, fun i hi => absurd hi (by omega)⟩
    · rw [o 231 (by omega) (by omega)]; exact w3
    · rw [sr_o (by omega), ai_uo (by omega)]
      unfold atp
      rw [ai_uo (by omega)]
      exact w4
    · rw [sr_o (by omega), ai_uh]
  have good : eo tx len 0 (nI 0) = -1 → Ev (d + 11) X0 156 52 [.ref 229, .int (nI 1), UU, UU, UU, UU, UU] [] (LK, atp I len, M) Q := fun he => by
    rw [if_pos he] at kk
    have e5 : atp I len 229 5 = nI len := ai_uh
    have e4 : atp I len 229 4 = nI len := by unfold atp; rw [ai_uo (by omega)]; exact w6
    simp (disch := omega) only [K156_0, K156_1, ai_c1i, ai_c1n, ai_c1r, e_al0, e_an0, e_b1, e_c0, e_c3, e_const, e_cv1, e_cv2, e_cv3, e_getI, e_getR, e_goto, e_iald, e_ii4, e_ii6, e_il1, e_il2, e_il3, e_il4, e_il5, e_il6, e_is1, e_is2, e_is3, e_is4, e_is5, e_is6, e_putI, e_reti, e_z0, e_z1, e_z5, Option.toList_some, Option.toList_none, List.cons_append, List.nil_append, List.append_nil, List.length_cons, List.length_nil, Nat.reduceAdd, Nat.reduceLeDiff, Nat.zero_le, true_and, and_true, and_self, true_implies, forall_const, ai_rvs, ai_rv0, ai_b_0, Classical.not_not, not_true_eq_false, false_implies, not_false_eq_true, true_implies, and_true, true_and, if_true, if_false, Bool.false_eq_true, q_229, a_nw, n10, e5, e4, BO, true_or]
    have h230 : (ai_u (atp I len) 229 4 (nI 0)) 230 = I 230 := by
      rw [ai_u_other _ _ _ _ (by omega)]
      unfold atp
      rw [ai_u_other _ _ _ _ (by omega)]
    have l := r156_l (d := d) (is := 1) (bad := len) (I := ai_u (atp I len) 229 4 (nI 0)) (Q := Q) (X := tl tx len 60 0 0 R S) (k := k) (N := N) (tm := tm) w1 w5 (fun i hi => by
      rw [ai_uo (by omega)]
      unfold atp
      rw [ai_uo (by omega)]
      exact w7 i hi) (fun J' hj' => ?_) 60 0 0 S (I 230) T R (by omega) (by omega) (Or.inr ⟨Or.inl rfl, 61, eo_lst w5 61 0 (by omega) (by omega) he⟩) hinv (by omega) w2 rfl
    · have e : sr (ai_u (atp I len) 229 4 (nI 0)) (I 230) = ai_u (atp I len) 229 4 (nI 0) := by
        rw [← h230]
        exact sr_id
      rw [e] at l
      exact l
    · obtain ⟨o1, o2⟩ := wo (p := len) hj'
      exact kk _ o1 o2
  have bad : ∀ e, e ≤ len → eo tx len 0 (nI 0) = nI e → Ev (d + 11) X0 156 52 [.ref 229, .int (nI 0), UU, UU, UU, UU, UU] [] (LK, atp I e, M) Q := fun e he hee => by
    rw [if_neg (by rw [hee]; exact nI_n1 (by omega)), hee] at kk
    have e5 : atp I e 229 5 = nI e := ai_uh
    have e4 : atp I e 229 4 = nI len := by unfold atp; rw [ai_uo (by omega)]; exact w6
    obtain ⟨o1, o2⟩ := wo (p := e) w2
    have h230 : (ai_u (atp I e) 229 4 (nI 0)) 230 = I 230 := by
      rw [ai_u_other _ _ _ _ (by omega)]
      unfold atp
      rw [ai_u_other _ _ _ _ (by omega)]
    have ee : sr (ai_u (atp I e) 229 4 (nI 0)) (I 230) = ai_u (atp I e) 229 4 (nI 0) := by
      rw [← h230]
      exact sr_id
    rw [ee] at o1 o2
    have k3 := kk _ o1 o2
    simp (disch := omega) only [K156_0, K156_1, ai_c1i, ai_c1n, ai_c1r, e_al0, e_an0, e_b1, e_c0, e_c3, e_const, e_cv1, e_cv2, e_cv3, e_getI, e_getR, e_goto, e_iald, e_ii4, e_ii6, e_il1, e_il2, e_il3, e_il4, e_il5, e_il6, e_is1, e_is2, e_is3, e_is4, e_is5, e_is6, e_putI, e_reti, e_z0, e_z1, e_z5, Option.toList_some, Option.toList_none, List.cons_append, List.nil_append, List.append_nil, List.length_cons, List.length_nil, Nat.reduceAdd, Nat.reduceLeDiff, Nat.zero_le, true_and, and_true, and_self, true_implies, forall_const, ai_rvs, ai_rv0, ai_b_0, Classical.not_not, not_true_eq_false, false_implies, not_false_eq_true, true_implies, and_true, true_and, if_true, if_false, Bool.false_eq_true, q_229, a_nw, e5, e4, BO, true_or]
    exact k3
  have z0 : ∀ e, e ≤ len → eo tx len 0 (nI 0) = nI e → Ev (d + 11) X0 156 10 [.ref 229, .int (nI 0), UU, UU, UU, UU, UU] [] (LK, atp I e, M) Q := fun e he h => by
    have k3 := bad e he h
    rw [H156_10]
    simp (disch := omega) only [k156_0, k156_1, k156_2, k156_5, k156_6, k156_9, k156_11, k156_14, k156_15, k156_18, k156_19, k156_22, k156_25, k156_26, k156_28, k156_30, k156_33, k156_36, k156_37, k156_40, k156_43, k156_44, k156_47, k156_48, k156_49, k156_53, k156_56, k156_57, k156_58, k156_61, k156_62, k156_63, k156_64, k156_67, k156_68, k156_71, k156_74, k156_75, k156_76, k156_77, k156_78, k156_80, k156_81, k156_83, k156_84, k156_88, k156_89, k156_92, k156_94, k156_97, k156_99, k156_102, k156_103, k156_106, k156_108, k156_109, k156_110, k156_111, k156_113, k156_116, k156_119, k156_120, k156_122, k156_125, k156_127, k156_129, k156_132, k156_135, k156_138, k156_141, k156_143, ai_c1i, ai_c1n, ai_c1r, e_al0, e_an0, e_b1, e_c0, e_c3, e_const, e_cv1, e_cv2, e_cv3, e_getI, e_getR, e_goto, e_iald, e_ii4, e_ii6, e_il1, e_il2, e_il3, e_il4, e_il5, e_il6, e_is1, e_is2, e_is3, e_is4, e_is5, e_is6, e_putI, e_reti, e_z0, e_z1, e_z5, Option.toList_some, Option.toList_none, List.cons_append, List.nil_append, List.append_nil, List.length_cons, List.length_nil, Nat.reduceAdd, Nat.reduceLeDiff, Nat.zero_le, true_and, and_true, and_self, true_implies, forall_const, ai_rvs, ai_rv0, ai_b_0, Classical.not_not, not_true_eq_false, false_implies, not_false_eq_true, true_implies, and_true, true_and, if_true, if_false, Bool.false_eq_true, q_229, a_nw]
    exact k3
  simp (disch := omega) only [E156, k156_0, k156_1, k156_2, k156_5, k156_6, k156_9, k156_11, k156_14, k156_15, k156_18, k156_19, k156_22, k156_25, k156_26, k156_28, k156_30, k156_33, k156_36, k156_37, k156_40, k156_43, k156_44, k156_47, k156_48, k156_49, k156_53, k156_56, k156_57, k156_58, k156_61, k156_62, k156_63, k156_64, k156_67, k156_68, k156_71, k156_74, k156_75, k156_76, k156_77, k156_78, k156_80, k156_81, k156_83, k156_84, k156_88, k156_89, k156_92, k156_94, k156_97, k156_99, k156_102, k156_103, k156_106, k156_108, k156_109, k156_110, k156_111, k156_113, k156_116, k156_119, k156_120, k156_122, k156_125, k156_127, k156_129, k156_132, k156_135, k156_138, k156_141, k156_143, ai_c1i, ai_c1n, ai_c1r, e_al0, e_an0, e_b1, e_c0, e_c3, e_const, e_cv1, e_cv2, e_cv3, e_getI, e_getR, e_goto, e_iald, e_ii4, e_ii6, e_il1, e_il2, e_il3, e_il4, e_il5, e_il6, e_is1, e_is2, e_is3, e_is4, e_is5, e_is6, e_putI, e_reti, e_z0, e_z1, e_z5, Option.toList_some, Option.toList_none, List.cons_append, List.nil_append, List.append_nil, List.length_cons, List.length_nil, Nat.reduceAdd, Nat.reduceLeDiff, Nat.zero_le, true_and, and_true, and_self, true_implies, forall_const, ai_rvs, ai_rv0, ai_b_0, Classical.not_not, not_true_eq_false, false_implies, not_false_eq_true, true_implies, and_true, true_and, if_true, if_false, Bool.false_eq_true, q_229, a_nw, BO, true_or, eat]
  refine r154 (d := d + 8) w1 w5 w6 w7 (by omega) (fun q h1 h2 h3 => ?_) (fun e h1 h2 => ?_)
  · simp (disch := omega) only [k156_0, k156_1, k156_2, k156_5, k156_6, k156_9, k156_11, k156_14, k156_15, k156_18, k156_19, k156_22, k156_25, k156_26, k156_28, k156_30, k156_33, k156_36, k156_37, k156_40, k156_43, k156_44, k156_47, k156_48, k156_49, k156_53, k156_56, k156_57, k156_58, k156_61, k156_62, k156_63, k156_64, k156_67, k156_68, k156_71, k156_74, k156_75, k156_76, k156_77, k156_78, k156_80, k156_81, k156_83, k156_84, k156_88, k156_89, k156_92, k156_94, k156_97, k156_99, k156_102, k156_103, k156_106, k156_108, k156_109, k156_110, k156_111, k156_113, k156_116, k156_119, k156_120, k156_122, k156_125, k156_127, k156_129, k156_132, k156_135, k156_138, k156_141, k156_143, ai_c1i, ai_c1n, ai_c1r, e_al0, e_an0, e_b1, e_c0, e_c3, e_const, e_cv1, e_cv2, e_cv3, e_getI, e_getR, e_goto, e_iald, e_ii4, e_ii6, e_il1, e_il2, e_il3, e_il4, e_il5, e_il6, e_is1, e_is2, e_is3, e_is4, e_is5, e_is6, e_putI, e_reti, e_z0, e_z1, e_z5, Option.toList_some, Option.toList_none, List.cons_append, List.nil_append, List.append_nil, List.length_cons, List.length_nil, Nat.reduceAdd, Nat.reduceLeDiff, Nat.zero_le, true_and, and_true, and_self, true_implies, forall_const, ai_rvs, ai_rv0, ai_b_0, Classical.not_not, not_true_eq_false, false_implies, not_false_eq_true, true_implies, and_true, true_and, if_true, if_false, Bool.false_eq_true, q_229, a_nw]
    exact r156_p (d := d + 8) w1 w5 w6 w7 good bad len (q + 4) (by omega) h1 (by rw [← h3]; rfl)
  · simp (disch := omega) only [k156_0, k156_1, k156_2, k156_5, k156_6, k156_9, k156_11, k156_14, k156_15, k156_18, k156_19, k156_22, k156_25, k156_26, k156_28, k156_30, k156_33, k156_36, k156_37, k156_40, k156_43, k156_44, k156_47, k156_48, k156_49, k156_53, k156_56, k156_57, k156_58, k156_61, k156_62, k156_63, k156_64, k156_67, k156_68, k156_71, k156_74, k156_75, k156_76, k156_77, k156_78, k156_80, k156_81, k156_83, k156_84, k156_88, k156_89, k156_92, k156_94, k156_97, k156_99, k156_102, k156_103, k156_106, k156_108, k156_109, k156_110, k156_111, k156_113, k156_116, k156_119, k156_120, k156_122, k156_125, k156_127, k156_129, k156_132, k156_135, k156_138, k156_141, k156_143, ai_c1i, ai_c1n, ai_c1r, e_al0, e_an0, e_b1, e_c0, e_c3, e_const, e_cv1, e_cv2, e_cv3, e_getI, e_getR, e_goto, e_iald, e_ii4, e_ii6, e_il1, e_il2, e_il3, e_il4, e_il5, e_il6, e_is1, e_is2, e_is3, e_is4, e_is5, e_is6, e_putI, e_reti, e_z0, e_z1, e_z5, Option.toList_some, Option.toList_none, List.cons_append, List.nil_append, List.append_nil, List.length_cons, List.length_nil, Nat.reduceAdd, Nat.reduceLeDiff, Nat.zero_le, true_and, and_true, and_self, true_implies, forall_const, ai_rvs, ai_rv0, ai_b_0, Classical.not_not, not_true_eq_false, false_implies, not_false_eq_true, true_implies, and_true, true_and, if_true, if_false, Bool.false_eq_true, q_229, a_nw]
    exact z0 e h1 h2
end RTRD2
