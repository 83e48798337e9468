/-! the reference trades the text -/
section RTRD
variable {tx : Nat → Int32} {len p q k k' T N tm : Nat} {I : Nat → Nat → Int32} {J : Nat → Int32} {M : Nat → Nat → Nat} {S S' : St} {s : Bool} {d : Nat} {Q : Option Value → ai_H → Prop}
theorem n59_r {c lo hi : Int32} (h : lo ≤ c ∧ c ≤ hi) (hh : hi < nI 59) : c ≠ nI 59 := fun e => by
  rw [e] at h
  exact Int32.not_le.mpr hh h.2
theorem TRD.n59 (h : TRD tx p q) {i : Nat} (h1 : p ≤ i) (h2 : i < q + 4) : tx i ≠ nI 59 := by
  have hq := h.q
  obtain ⟨a1, a2, a3, a4, a5, a6, a7, a8⟩ := h
  rcases (by omega : i = p ∨ i = p + 1 ∨ i = p + 2 ∨ (i = p + 3 ∧ q = p + 4) ∨ i = q ∨ i = q + 1 ∨ i = q + 2 ∨ i = q + 3) with rfl | rfl | rfl | ⟨rfl, rfl⟩ | rfl | rfl | rfl | rfl
  · exact n59_r a1 (by decide)
  · rcases a2 with a | a <;> rw [a] <;> decide
  · exact n59_r a3 (by decide)
  · rcases a4 with a | a
    · omega
    · exact n59_r a.2 (by decide)
  · rw [a5]; decide
  · exact n59_r a6 (by decide)
  · rw [a7]; decide
  · exact n59_r a8 (by decide)
theorem r156_p {E : Int32} (hm : RM M) (hl : len ≤ 60) (h4 : I 229 4 = nI len) (ht : ∀ i, i < len → I 232 i = tx i) (k1 : E = -1 → Ev (d + 3) X0 156 52 [.ref 229, .int (nI 1), UU, UU, UU, UU, UU] [] (LK, atp I len, M) Q) (k2 : ∀ e, e ≤ len → E = nI e → Ev (d + 3) X0 156 52 [.ref 229, .int (nI 0), UU, UU, UU, UU, UU] [] (LK, atp I e, M) Q) :
    ∀ n p, len - p ≤ n → p ≤ len → eo tx (len - p) p (nI 8) = E → Ev (d + 3) X0 156 10 [.ref 229, .int (nI 1), UU, UU, UU, UU, UU] [] (LK, atp I p, M) Q := by
  have n10 : (nI 1 = nI 0) = False := eq_false (by decide)
  have z0 : ∀ e, e ≤ len → E = nI e → Ev (d + 3) X0 156 10 [.ref 229, .int (nI 0), UU, UU, UU, UU, UU] [] (LK, atp I e, M) Q := fun e he h => by
    have k3 := k2 e he h
    rw [H156_10]
    simp (disch := omega) only [k156_0, k156_1, k156_2, k156_5, k156_6, k156_9, k156_11, k156_14, k156_15, k156_18, k156_19, k156_22, k156_25, k156_26, k156_28, k156_30, k156_33, k156_36, k156_37, k156_40, k156_43, k156_44, k156_47, k156_48, k156_49, k156_53, k156_56, k156_57, k156_58, k156_61, k156_62, k156_63, k156_64, k156_67, k156_68, k156_71, k156_74, k156_75, k156_76, k156_77, k156_78, k156_80, k156_81, k156_83, k156_84, k156_88, k156_89, k156_92, k156_94, k156_97, k156_99, k156_102, k156_103, k156_106, k156_108, k156_109, k156_110, k156_111, k156_113, k156_116, k156_119, k156_120, k156_122, k156_125, k156_127, k156_129, k156_132, k156_135, k156_138, k156_141, k156_143, ai_c1i, ai_c1n, ai_c1r, e_al0, e_an0, e_b1, e_c0, e_c3, e_const, e_cv1, e_cv2, e_cv3, e_getI, e_getR, e_goto, e_iald, e_ii4, e_ii6, e_il1, e_il2, e_il3, e_il4, e_il5, e_il6, e_is1, e_is2, e_is3, e_is4, e_is5, e_is6, e_putI, e_reti, e_z0, e_z1, e_z5, Option.toList_some, Option.toList_none, List.cons_append, List.nil_append, List.append_nil, List.length_cons, List.length_nil, Nat.reduceAdd, Nat.reduceLeDiff, Nat.zero_le, true_and, and_true, and_self, true_implies, forall_const, ai_rvs, ai_rv0, ai_b_0, Classical.not_not, not_true_eq_false, false_implies, not_false_eq_true, true_implies, and_true, true_and, if_true, if_false, Bool.false_eq_true, q_229, a_nw]
    exact k3
  intro n
  induction n with
  | zero =>
    intro p hn hp he
    obtain rfl : p = len := by omega
    have e5 : atp I p 229 5 = nI p := ai_uh
    have e4 : atp I p 229 4 = nI p := by unfold atp; rw [ai_uo (by omega)]; exact h4
    rw [Nat.sub_self, eo, if_pos rfl] at he
    have k3 := k1 he.symm
    rw [H156_10]
    simp (disch := omega) only [k156_0, k156_1, k156_2, k156_5, k156_6, k156_9, k156_11, k156_14, k156_15, k156_18, k156_19, k156_22, k156_25, k156_26, k156_28, k156_30, k156_33, k156_36, k156_37, k156_40, k156_43, k156_44, k156_47, k156_48, k156_49, k156_53, k156_56, k156_57, k156_58, k156_61, k156_62, k156_63, k156_64, k156_67, k156_68, k156_71, k156_74, k156_75, k156_76, k156_77, k156_78, k156_80, k156_81, k156_83, k156_84, k156_88, k156_89, k156_92, k156_94, k156_97, k156_99, k156_102, k156_103, k156_106, k156_108, k156_109, k156_110, k156_111, k156_113, k156_116, k156_119, k156_120, k156_122, k156_125, k156_127, k156_129, k156_132, k156_135, k156_138, k156_141, k156_143, ai_c1i, ai_c1n, ai_c1r, e_al0, e_an0, e_b1, e_c0, e_c3, e_const, e_cv1, e_cv2, e_cv3, e_getI, e_getR, e_goto, e_iald, e_ii4, e_ii6, e_il1, e_il2, e_il3, e_il4, e_il5, e_il6, e_is1, e_is2, e_is3, e_is4, e_is5, e_is6, e_putI, e_reti, e_z0, e_z1, e_z5, Option.toList_some, Option.toList_none, List.cons_append, List.nil_append, List.append_nil, List.length_cons, List.length_nil, Nat.reduceAdd, Nat.reduceLeDiff, Nat.zero_le, true_and, and_true, and_self, true_implies, forall_const, ai_rvs, ai_rv0, ai_b_0, Classical.not_not, not_true_eq_false, false_implies, not_false_eq_true, true_implies, and_true, true_and, if_true, if_false, Bool.false_eq_true, q_229, a_nw, n10, e5, e4, Int32.le_refl]
    exact k3
  | succ n ih =>
    intro p hn hp he
    have e5 : atp I p 229 5 = nI p := ai_uh
    have e4 : atp I p 229 4 = nI len := by unfold atp; rw [ai_uo (by omega)]; exact h4
    by_cases g : p = len
    · subst g
      rw [Nat.sub_self, eo, if_pos rfl] at he
      have k3 := k1 he.symm
      rw [H156_10]
      simp (disch := omega) only [k156_0, k156_1, k156_2, k156_5, k156_6, k156_9, k156_11, k156_14, k156_15, k156_18, k156_19, k156_22, k156_25, k156_26, k156_28, k156_30, k156_33, k156_36, k156_37, k156_40, k156_43, k156_44, k156_47, k156_48, k156_49, k156_53, k156_56, k156_57, k156_58, k156_61, k156_62, k156_63, k156_64, k156_67, k156_68, k156_71, k156_74, k156_75, k156_76, k156_77, k156_78, k156_80, k156_81, k156_83, k156_84, k156_88, k156_89, k156_92, k156_94, k156_97, k156_99, k156_102, k156_103, k156_106, k156_108, k156_109, k156_110, k156_111, k156_113, k156_116, k156_119, k156_120, k156_122, k156_125, k156_127, k156_129, k156_132, k156_135, k156_138, k156_141, k156_143, ai_c1i, ai_c1n, ai_c1r, e_al0, e_an0, e_b1, e_c0, e_c3, e_const, e_cv1, e_cv2, e_cv3, e_getI, e_getR, e_goto, e_iald, e_ii4, e_ii6, e_il1, e_il2, e_il3, e_il4, e_il5, e_il6, e_is1, e_is2, e_is3, e_is4, e_is5, e_is6, e_putI, e_reti, e_z0, e_z1, e_z5, Option.toList_some, Option.toList_none, List.cons_append, List.nil_append, List.append_nil, List.length_cons, List.length_nil, Nat.reduceAdd, Nat.reduceLeDiff, Nat.zero_le, true_and, and_true, and_self, true_implies, forall_const, ai_rvs, ai_rv0, ai_b_0, Classical.not_not, not_true_eq_false, false_implies, not_false_eq_true, true_implies, and_true, true_and, if_true, if_false, Bool.false_eq_true, q_229, a_nw, n10, e5, e4, Int32.le_refl]
      exact k3
    · have g' : ¬ len ≤ p := by omega
      rw [H156_10]
      simp (disch := omega) only [k156_0, k156_1, k156_2, k156_5, k156_6, k156_9, k156_11, k156_14, k156_15, k156_18, k156_19, k156_22, k156_25, k156_26, k156_28, k156_30, k156_33, k156_36, k156_37, k156_40, k156_43, k156_44, k156_47, k156_48, k156_49, k156_53, k156_56, k156_57, k156_58, k156_61, k156_62, k156_63, k156_64, k156_67, k156_68, k156_71, k156_74, k156_75, k156_76, k156_77, k156_78, k156_80, k156_81, k156_83, k156_84, k156_88, k156_89, k156_92, k156_94, k156_97, k156_99, k156_102, k156_103, k156_106, k156_108, k156_109, k156_110, k156_111, k156_113, k156_116, k156_119, k156_120, k156_122, k156_125, k156_127, k156_129, k156_132, k156_135, k156_138, k156_141, k156_143, ai_c1i, ai_c1n, ai_c1r, e_al0, e_an0, e_b1, e_c0, e_c3, e_const, e_cv1, e_cv2, e_cv3, e_getI, e_getR, e_goto, e_iald, e_ii4, e_ii6, e_il1, e_il2, e_il3, e_il4, e_il5, e_il6, e_is1, e_is2, e_is3, e_is4, e_is5, e_is6, e_putI, e_reti, e_z0, e_z1, e_z5, Option.toList_some, Option.toList_none, List.cons_append, List.nil_append, List.append_nil, List.length_cons, List.length_nil, Nat.reduceAdd, Nat.reduceLeDiff, Nat.zero_le, true_and, and_true, and_self, true_implies, forall_const, ai_rvs, ai_rv0, ai_b_0, Classical.not_not, not_true_eq_false, false_implies, not_false_eq_true, true_implies, and_true, true_and, if_true, if_false, Bool.false_eq_true, q_229, a_nw, n10, e5, e4, nIle, g']
      refine r153 hm hl h4 ht (fun g1 g2 => ?_) (fun g1 => ?_) hp
      · rw [le_anti] at g2
        have e1 := eo_n (tx := tx) g1 (sA_8.trans (if_pos g2)) (by decide)
        simp (disch := omega) only [k156_0, k156_1, k156_2, k156_5, k156_6, k156_9, k156_11, k156_14, k156_15, k156_18, k156_19, k156_22, k156_25, k156_26, k156_28, k156_30, k156_33, k156_36, k156_37, k156_40, k156_43, k156_44, k156_47, k156_48, k156_49, k156_53, k156_56, k156_57, k156_58, k156_61, k156_62, k156_63, k156_64, k156_67, k156_68, k156_71, k156_74, k156_75, k156_76, k156_77, k156_78, k156_80, k156_81, k156_83, k156_84, k156_88, k156_89, k156_92, k156_94, k156_97, k156_99, k156_102, k156_103, k156_106, k156_108, k156_109, k156_110, k156_111, k156_113, k156_116, k156_119, k156_120, k156_122, k156_125, k156_127, k156_129, k156_132, k156_135, k156_138, k156_141, k156_143, ai_c1i, ai_c1n, ai_c1r, e_al0, e_an0, e_b1, e_c0, e_c3, e_const, e_cv1, e_cv2, e_cv3, e_getI, e_getR, e_goto, e_iald, e_ii4, e_ii6, e_il1, e_il2, e_il3, e_il4, e_il5, e_il6, e_is1, e_is2, e_is3, e_is4, e_is5, e_is6, e_putI, e_reti, e_z0, e_z1, e_z5, Option.toList_some, Option.toList_none, List.cons_append, List.nil_append, List.append_nil, List.length_cons, List.length_nil, Nat.reduceAdd, Nat.reduceLeDiff, Nat.zero_le, true_and, and_true, and_self, true_implies, forall_const, ai_rvs, ai_rv0, ai_b_0, Classical.not_not, not_true_eq_false, false_implies, not_false_eq_true, true_implies, and_true, true_and, if_true, if_false, Bool.false_eq_true, q_229, a_nw, n10]
        refine r154 hm hl h4 ht (by omega) (fun q h1 h2 h3 => ?_) (fun e h1 h2 => ?_)
        · simp (disch := omega) only [k156_0, k156_1, k156_2, k156_5, k156_6, k156_9, k156_11, k156_14, k156_15, k156_18, k156_19, k156_22, k156_25, k156_26, k156_28, k156_30, k156_33, k156_36, k156_37, k156_40, k156_43, k156_44, k156_47, k156_48, k156_49, k156_53, k156_56, k156_57, k156_58, k156_61, k156_62, k156_63, k156_64, k156_67, k156_68, k156_71, k156_74, k156_75, k156_76, k156_77, k156_78, k156_80, k156_81, k156_83, k156_84, k156_88, k156_89, k156_92, k156_94, k156_97, k156_99, k156_102, k156_103, k156_106, k156_108, k156_109, k156_110, k156_111, k156_113, k156_116, k156_119, k156_120, k156_122, k156_125, k156_127, k156_129, k156_132, k156_135, k156_138, k156_141, k156_143, ai_c1i, ai_c1n, ai_c1r, e_al0, e_an0, e_b1, e_c0, e_c3, e_const, e_cv1, e_cv2, e_cv3, e_getI, e_getR, e_goto, e_iald, e_ii4, e_ii6, e_il1, e_il2, e_il3, e_il4, e_il5, e_il6, e_is1, e_is2, e_is3, e_is4, e_is5, e_is6, e_putI, e_reti, e_z0, e_z1, e_z5, Option.toList_some, Option.toList_none, List.cons_append, List.nil_append, List.append_nil, List.length_cons, List.length_nil, Nat.reduceAdd, Nat.reduceLeDiff, Nat.zero_le, true_and, and_true, and_self, true_implies, forall_const, ai_rvs, ai_rv0, ai_b_0, Classical.not_not, not_true_eq_false, false_implies, not_false_eq_true, true_implies, and_true, true_and, if_true, if_false, Bool.false_eq_true, q_229, a_nw, n10]
          have := h2.q
          exact ih (q + 4) (by omega) h1 (by rw [← h3, ← e1]; exact he)
        · simp (disch := omega) only [k156_0, k156_1, k156_2, k156_5, k156_6, k156_9, k156_11, k156_14, k156_15, k156_18, k156_19, k156_22, k156_25, k156_26, k156_28, k156_30, k156_33, k156_36, k156_37, k156_40, k156_43, k156_44, k156_47, k156_48, k156_49, k156_53, k156_56, k156_57, k156_58, k156_61, k156_62, k156_63, k156_64, k156_67, k156_68, k156_71, k156_74, k156_75, k156_76, k156_77, k156_78, k156_80, k156_81, k156_83, k156_84, k156_88, k156_89, k156_92, k156_94, k156_97, k156_99, k156_102, k156_103, k156_106, k156_108, k156_109, k156_110, k156_111, k156_113, k156_116, k156_119, k156_120, k156_122, k156_125, k156_127, k156_129, k156_132, k156_135, k156_138, k156_141, k156_143, ai_c1i, ai_c1n, ai_c1r, e_al0, e_an0, e_b1, e_c0, e_c3, e_const, e_cv1, e_cv2, e_cv3, e_getI, e_getR, e_goto, e_iald, e_ii4, e_ii6, e_il1, e_il2, e_il3, e_il4, e_il5, e_il6, e_is1, e_is2, e_is3, e_is4, e_is5, e_is6, e_putI, e_reti, e_z0, e_z1, e_z5, Option.toList_some, Option.toList_none, List.cons_append, List.nil_append, List.append_nil, List.length_cons, List.length_nil, Nat.reduceAdd, Nat.reduceLeDiff, Nat.zero_le, true_and, and_true, and_self, true_implies, forall_const, ai_rvs, ai_rv0, ai_b_0, Classical.not_not, not_true_eq_false, false_implies, not_false_eq_true, true_implies, and_true, true_and, if_true, if_false, Bool.false_eq_true, q_229, a_nw]
          exact z0 e h1 (by rw [← h2, ← e1]; exact he.symm)
      · have e1 : eo tx (len - p) p (nI 8) = nI p := by
          rw [show len - p = (len - p - 1) + 1 by omega, eo, sA_8, if_neg (fun h => g1 ⟨by omega, le_anti.mpr h⟩), if_pos rfl]
        simp (disch := omega) only [k156_0, k156_1, k156_2, k156_5, k156_6, k156_9, k156_11, k156_14, k156_15, k156_18, k156_19, k156_22, k156_25, k156_26, k156_28, k156_30, k156_33, k156_36, k156_37, k156_40, k156_43, k156_44, k156_47, k156_48, k156_49, k156_53, k156_56, k156_57, k156_58, k156_61, k156_62, k156_63, k156_64, k156_67, k156_68, k156_71, k156_74, k156_75, k156_76, k156_77, k156_78, k156_80, k156_81, k156_83, k156_84, k156_88, k156_89, k156_92, k156_94, k156_97, k156_99, k156_102, k156_103, k156_106, k156_108, k156_109, k156_110, k156_111, k156_113, k156_116, k156_119, k156_120, k156_122, k156_125, k156_127, k156_129, k156_132, k156_135, k156_138, k156_141, k156_143, ai_c1i, ai_c1n, ai_c1r, e_al0, e_an0, e_b1, e_c0, e_c3, e_const, e_cv1, e_cv2, e_cv3, e_getI, e_getR, e_goto, e_iald, e_ii4, e_ii6, e_il1, e_il2, e_il3, e_il4, e_il5, e_il6, e_is1, e_is2, e_is3, e_is4, e_is5, e_is6, e_putI, e_reti, e_z0, e_z1, e_z5, Option.toList_some, Option.toList_none, List.cons_append, List.nil_append, List.append_nil, List.length_cons, List.length_nil, Nat.reduceAdd, Nat.reduceLeDiff, Nat.zero_le, true_and, and_true, and_self, true_implies, forall_const, ai_rvs, ai_rv0, ai_b_0, Classical.not_not, not_true_eq_false, false_implies, not_false_eq_true, true_implies, and_true, true_and, if_true, if_false, Bool.false_eq_true, q_229, a_nw]
        exact z0 p hp (by rw [← e1]; exact he.symm)
theorem r156_s {is bad dn : Nat} {x : Nat} (hm : RM M) (hl : len ≤ 60) (ht : ∀ i, i < len → I 232 i = tx i) (hx : x ≤ len) (hn : ∀ i, p ≤ i → i + 1 < x → tx i ≠ nI 59) (kk : Ev (d + 11) X0 156 86 [.ref 229, .int (nI is), .int (nI bad), .int (nI len), .int (nI dn), .int (nI 1), .int (nI x)] [] (LK, sr I J, M) Q) :
    ∀ r y, r + y = x → p < y → Ev (d + 11) X0 156 86 [.ref 229, .int (nI is), .int (nI bad), .int (nI len), .int (nI dn), .int (nI 1), .int (nI y)] [] (LK, sr I J, M) Q
  | 0, y, hr, hy => by
    obtain rfl : y = x := by omega
    exact kk
  | r + 1, y, hr, hy => by
    have et : ∀ j, j < len → sr I J 232 j = tx j := fun j hj => by rw [sr_o (by omega)]; exact ht j hj
    have n10 : (nI 1 = nI 0) = False := eq_false (by decide)
    have g1 : ¬ len ≤ y := by omega
    have g2 : ¬ y ≤ 0 := by omega
    have e1 : nI y - nI 1 = nI (y - 1) := pk_sub (by omega)
    have n59 : (tx (y - 1) = nI 59) = False := eq_false (hn (y - 1) (by omega) (by omega))
    have ih := r156_s hm hl ht hx hn kk r (y + 1) (by omega) (by omega)
    rw [H156_86]
    simp (disch := omega) only [K156_0, K156_1, ai_c1i, ai_c1n, ai_c1r, e_al0, e_an0, e_b1, e_c0, e_c3, e_const, e_cv1, e_cv2, e_cv3, e_getI, e_getR, e_goto, e_iald, e_ii4, e_ii6, e_il1, e_il2, e_il3, e_il4, e_il5, e_il6, e_is1, e_is2, e_is3, e_is4, e_is5, e_is6, e_putI, e_reti, e_z0, e_z1, e_z5, Option.toList_some, Option.toList_none, List.cons_append, List.nil_append, List.append_nil, List.length_cons, List.length_nil, Nat.reduceAdd, Nat.reduceLeDiff, Nat.zero_le, true_and, and_true, and_self, true_implies, forall_const, ai_rvs, ai_rv0, ai_b_0, Classical.not_not, not_true_eq_false, false_implies, not_false_eq_true, true_implies, and_true, true_and, if_true, if_false, Bool.false_eq_true, q_229, a_nw, nIle, g1, g2, n10, hm.2.2, e1, a_rt, nIc, et, n59, nIa]
    exact ih
theorem r156_l {is bad : Nat} {X : Nat × St} (hm : RM M) (hl : len ≤ 60) (ht : ∀ i, i < len → I 232 i = tx i) (kk : ∀ J', RJ J' X.2 k → Q (some (.int (nI X.1))) (LK, sr I J', M)) :
    ∀ r nx dn S J T R, 60 ≤ nx + r → nx ≤ len → (nx = len ∨ (nx = 0 ∨ tx (nx - 1) = nI 59) ∧ ∃ r', LST tx len r' nx) → INV S k T N tm → T + 801 * r < 999960000 → RJ J S k → tl tx len r nx dn R S = X → Ev (d + 11) X0 156 86 [.ref 229, .int (nI is), .int (nI bad), .int (nI len), .int (nI dn), .int (nI 1), .int (nI nx)] [] (LK, sr I J, M) Q := by
  have n10 : (nI 1 = nI 0) = False := eq_false (by decide)
  have done : ∀ r dn S J R, RJ J S k → tl tx len r len dn R S = X → Ev (d + 11) X0 156 86 [.ref 229, .int (nI is), .int (nI bad), .int (nI len), .int (nI dn), .int (nI 1), .int (nI len)] [] (LK, sr I J, M) Q := fun r dn S J R hj he => by
    have e : tl tx len r len dn R S = (dn, S) := by
      cases r with
      | zero => rfl
      | succ r => rw [tl, if_neg (by omega)]
    rw [e] at he
    subst he
    have k3 := kk J hj
    rw [H156_86]
    simp (disch := omega) only [K156_0, K156_1, ai_c1i, ai_c1n, ai_c1r, e_al0, e_an0, e_b1, e_c0, e_c3, e_const, e_cv1, e_cv2, e_cv3, e_getI, e_getR, e_goto, e_iald, e_ii4, e_ii6, e_il1, e_il2, e_il3, e_il4, e_il5, e_il6, e_is1, e_is2, e_is3, e_is4, e_is5, e_is6, e_putI, e_reti, e_z0, e_z1, e_z5, Option.toList_some, Option.toList_none, List.cons_append, List.nil_append, List.append_nil, List.length_cons, List.length_nil, Nat.reduceAdd, Nat.reduceLeDiff, Nat.zero_le, true_and, and_true, and_self, true_implies, forall_const, ai_rvs, ai_rv0, ai_b_0, Classical.not_not, not_true_eq_false, false_implies, not_false_eq_true, true_implies, and_true, true_and, if_true, if_false, Bool.false_eq_true, q_229, a_nw, Int32.le_refl]
    exact k3
  intro r
  induction r with
  | zero =>
    intro nx dn S J T R h60 hnx hls hinv hT hj he
    obtain rfl : nx = len := by omega
    exact done 0 dn S J R hj he
  | succ r ih =>
    intro nx dn S J T R h60 hnx hls hinv hT hj he
    by_cases g : nx = len
    · subst g
      exact done (r + 1) dn S J R hj he
    · rcases hls with h | ⟨hst, r', hls⟩
      · exact absurd h g
      · cases r' with
        | zero => exact hls.elim
        | succ r' =>
          obtain ⟨q, q1, q2, q3⟩ := hls
          have hq := q2.q
          have ert := rt_trd (R := R) q2 q1 (fun h => by
            rcases q3 with q3 | q3
            · omega
            · exact q3.2.1)
          rw [tl, if_pos (by omega), ert] at he
          dsimp only at he
          obtain ⟨T', t1, t2, t3⟩ := hinv.td_ (R := trd tx nx q)
          have et : ∀ j, j < len → sr I J 232 j = tx j := fun j hj => by rw [sr_o (by omega)]; exact ht j hj
          have main : Cl (d + 10) 155 [.ref 229, .int (nI nx)] (LK, sr I J, M) (fun r h' => EvI (d + 11) X0 156 (3, 5, 0, nI 0, [], 127) [.ref 229, .int (nI is), .int (nI bad), .int (nI len), .int (nI dn), .int (nI 1), .int (nI nx)] r.toList h' Q) := by
            refine r155 hm hl ht q2 q1 hinv hj (by omega) (fun J' hj' hno => ?_) (fun J' hj' hyes => ?_)
            · rw [if_neg hno] at he
              simp (disch := omega) only [K156_0, K156_1, ai_c1i, ai_c1n, ai_c1r, e_al0, e_an0, e_b1, e_c0, e_c3, e_const, e_cv1, e_cv2, e_cv3, e_getI, e_getR, e_goto, e_iald, e_ii4, e_ii6, e_il1, e_il2, e_il3, e_il4, e_il5, e_il6, e_is1, e_is2, e_is3, e_is4, e_is5, e_is6, e_putI, e_reti, e_z0, e_z1, e_z5, Option.toList_some, Option.toList_none, List.cons_append, List.nil_append, List.append_nil, List.length_cons, List.length_nil, Nat.reduceAdd, Nat.reduceLeDiff, Nat.zero_le, true_and, and_true, and_self, true_implies, forall_const, ai_rvs, ai_rv0, ai_b_0, Classical.not_not, not_true_eq_false, false_implies, not_false_eq_true, true_implies, and_true, true_and, if_true, if_false, Bool.false_eq_true, q_229, a_nw, n10, nIa]
              by_cases g2 : q + 4 < len
              · rw [if_pos g2] at he
                have hl3 : tx (q + 4) = nI 59 ∧ LST tx len r' (q + 5) := by
                  rcases q3 with q3 | q3
                  · omega
                  · exact q3.2
                refine r156_s (p := nx) (x := q + 5) hm hl ht (by omega) (fun i a b => q2.n59 a (by omega)) ?_ (q + 5 - (nx + 1)) (nx + 1) (by omega) (by omega)
                exact ih (q + 5) (dn + 1) _ J' T' _ (by omega) (by omega) (Or.inr ⟨Or.inr hl3.1, r', hl3.2⟩) t3 (by omega) hj' he
              · rw [if_neg g2] at he
                refine r156_s (p := nx) (x := q + 4) hm hl ht (by omega) (fun i a b => q2.n59 a (by omega)) ?_ (q + 4 - (nx + 1)) (nx + 1) (by omega) (by omega)
                exact ih (q + 4) (dn + 1) _ J' T' _ (by omega) (by omega) (Or.inl (by omega)) t3 (by omega) hj' he
            · rw [if_pos hyes] at he
              subst he
              have k3 := kk J' hj'
              have g1 : ¬ len ≤ nx + 1 := by omega
              simp (disch := omega) only [K156_0, K156_1, ai_c1i, ai_c1n, ai_c1r, e_al0, e_an0, e_b1, e_c0, e_c3, e_const, e_cv1, e_cv2, e_cv3, e_getI, e_getR, e_goto, e_iald, e_ii4, e_ii6, e_il1, e_il2, e_il3, e_il4, e_il5, e_il6, e_is1, e_is2, e_is3, e_is4, e_is5, e_is6, e_putI, e_reti, e_z0, e_z1, e_z5, Option.toList_some, Option.toList_none, List.cons_append, List.nil_append, List.append_nil, List.length_cons, List.length_nil, Nat.reduceAdd, Nat.reduceLeDiff, Nat.zero_le, true_and, and_true, and_self, true_implies, forall_const, ai_rvs, ai_rv0, ai_b_0, Classical.not_not, not_true_eq_false, false_implies, not_false_eq_true, true_implies, and_true, true_and, if_true, if_false, Bool.false_eq_true, q_229, a_nw, nIa]
              rw [H156_86]
              simp (disch := omega) only [K156_0, K156_1, ai_c1i, ai_c1n, ai_c1r, e_al0, e_an0, e_b1, e_c0, e_c3, e_const, e_cv1, e_cv2, e_cv3, e_getI, e_getR, e_goto, e_iald, e_ii4, e_ii6, e_il1, e_il2, e_il3, e_il4, e_il5, e_il6, e_is1, e_is2, e_is3, e_is4, e_is5, e_is6, e_putI, e_reti, e_z0, e_z1, e_z5, Option.toList_some, Option.toList_none, List.cons_append, List.nil_append, List.append_nil, List.length_cons, List.length_nil, Nat.reduceAdd, Nat.reduceLeDiff, Nat.zero_le, true_and, and_true, and_self, true_implies, forall_const, ai_rvs, ai_rv0, ai_b_0, Classical.not_not, not_true_eq_false, false_implies, not_false_eq_true, true_implies, and_true, true_and, if_true, if_false, Bool.false_eq_true, q_229, a_nw, nIle, g1]
              exact k3
          have g1 : ¬ len ≤ nx := by omega
          rw [H156_86]
          by_cases g0 : nx = 0
          · subst g0
            simp (disch := omega) only [K156_0, K156_1, ai_c1i, ai_c1n, ai_c1r, e_al0, e_an0, e_b1, e_c0, e_c3, e_const, e_cv1, e_cv2, e_cv3, e_getI, e_getR, e_goto, e_iald, e_ii4, e_ii6, e_il1, e_il2, e_il3, e_il4, e_il5, e_il6, e_is1, e_is2, e_is3, e_is4, e_is5, e_is6, e_putI, e_reti, e_z0, e_z1, e_z5, Option.toList_some, Option.toList_none, List.cons_append, List.nil_append, List.append_nil, List.length_cons, List.length_nil, Nat.reduceAdd, Nat.reduceLeDiff, Nat.zero_le, true_and, and_true, and_self, true_implies, forall_const, ai_rvs, ai_rv0, ai_b_0, Classical.not_not, not_true_eq_false, false_implies, not_false_eq_true, true_implies, and_true, true_and, if_true, if_false, Bool.false_eq_true, q_229, a_nw, nIle, g1, n10, Nat.le_refl]
            exact main
          · have g2 : ¬ nx ≤ 0 := by omega
            have e1 : nI nx - nI 1 = nI (nx - 1) := pk_sub (by omega)
            have e59 : tx (nx - 1) = nI 59 := by
              rcases hst with h | h
              · exact absurd h g0
              · exact h
            simp (disch := omega) only [K156_0, K156_1, ai_c1i, ai_c1n, ai_c1r, e_al0, e_an0, e_b1, e_c0, e_c3, e_const, e_cv1, e_cv2, e_cv3, e_getI, e_getR, e_goto, e_iald, e_ii4, e_ii6, e_il1, e_il2, e_il3, e_il4, e_il5, e_il6, e_is1, e_is2, e_is3, e_is4, e_is5, e_is6, e_putI, e_reti, e_z0, e_z1, e_z5, Option.toList_some, Option.toList_none, List.cons_append, List.nil_append, List.append_nil, List.length_cons, List.length_nil, Nat.reduceAdd, Nat.reduceLeDiff, Nat.zero_le, true_and, and_true, and_self, true_implies, forall_const, ai_rvs, ai_rv0, ai_b_0, Classical.not_not, not_true_eq_false, false_implies, not_false_eq_true, true_implies, and_true, true_and, if_true, if_false, Bool.false_eq_true, q_229, a_nw, nIle, g1, g2, n10, hm.2.2, e1, a_rt, nIc, et, e59]
            exact main
end RTRD
