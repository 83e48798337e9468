/-! the reference executes orders -/
section REXEC
variable {I : Nat → Nat → Int32} {J : Nat → Int32} {M : Nat → Nat → Nat} {S : St} {m k T : Nat} {L os : List Od} {d : Nat} {Q : Option Value → ai_H → Prop}
/-- what the reference's looking for orders rests on -/
def EV (S : St) (k : Nat) : Prop := MV S.1 k ∧ S.1 3 = nI S.2.1.length ∧ OMv S.2.1 S.1 k ∧ ∀ x ∈ S.2.1, OD x
/-- an executable order has no bar, and the other way -/
theorem r123x {i : Nat} {x : Od} (hm : RM M) (hro : RO J S.2.1 os) (hk : m < k) (hj : RJ J S k) (hv : EV S k) (hi : os[i]? = some x) (em : x.2.2.1 = nI m) : ∃ r, (r = nI 0 ↔ xq S.1 m x = true) ∧ ∀ {d : Nat} {Q : Option Value → ai_H → Prop}, Cl (d + 7) 123 [.ref 229, .int (nI i)] (LK, sr I J, M) Q ↔ Q (some (.int r)) (LK, sr I J, M) := by
  obtain ⟨v1, v2, v3, v4⟩ := hv
  obtain ⟨n, b, s, h1, n2, n4, h2, b1, b2, h3⟩ := v1 m hk
  obtain ⟨m', n', o, t, hm', em', en', n4', ho, eo, ht, et⟩ := v3 x (hro.mem hi)
  have hk6 := hj.2.1
  obtain rfl := (nIeq (by omega) (by omega)).mp (em.symm.trans em')
  obtain rfl := (nIeq (by omega) (by omega)).mp (h1.symm.trans en')
  refine ⟨_, ?_, fun {d Q} => r123 hm hro hk hj h1 n2 n4 h2 b1 b2 h3 hi em ho eo ht et⟩
  unfold xq
  rw [em, eo, et, nIc (by omega), nIc (by omega)]
  simp only [decide_true, Bool.true_and, decide_eq_true_eq]
theorem r126_in (hm : RM M) (hro : RO J S.2.1 os) (hk : m < k) (hj : RJ J S k) (hv : EV S k) (kk : ∀ v, BST (xq S.1 m) os os.length v → Ev (d + 8) X0 126 70 [.ref 229, .int (nI m), .int (nI 1), .int v, .int (nI os.length)] [] (LK, sr I J, M) Q) :
    ∀ r i v, r + i = os.length → BST (xq S.1 m) os i v → Ev (d + 8) X0 126 11 [.ref 229, .int (nI m), .int (nI 1), .int v, .int (nI i)] [] (LK, sr I J, M) Q
  | 0, i, v, hi, hb => by
    obtain rfl : i = os.length := by omega
    obtain ⟨l1, l2⟩ := hro.len
    have e3 : J 3 = nI os.length := by rw [hj.2.2.1 3 (by omega) (by omega), hv.2.1, l1]
    have k3 := kk v hb
    rw [H126_11]
    simp (disch := omega) only [k126_0, k126_1, k126_3, k126_6, k126_7, k126_8, k126_9, k126_13, k126_14, k126_17, k126_18, k126_19, k126_22, k126_23, k126_26, k126_28, k126_31, k126_32, k126_33, k126_34, k126_35, k126_38, k126_39, k126_42, k126_43, k126_45, k126_46, k126_49, k126_52, k126_53, k126_55, k126_58, k126_61, k126_63, k126_64, k126_67, k126_71, k126_74, k126_75, k126_78, k126_79, k126_80, k126_81, k126_84, k126_87, k126_88, k126_89, k126_92, k126_93, k126_96, k126_97, k126_98, k126_99, k126_100, k126_101, k126_104, k126_105, k126_108, k126_109, k126_110, k126_111, k126_112, k126_113, k126_116, k126_117, k126_120, k126_121, k126_124, k126_125, k126_126, k126_129, k126_130, k126_133, k126_134, k126_135, k126_136, k126_137, k126_138, k126_139, k126_140, k126_141, k126_144, k126_145, k126_148, k126_149, k126_150, k126_151, k126_154, k126_155, k126_156, k126_159, k126_162, ai_c1i, ai_c1n, ai_c1r, e_al0, e_an0, e_b0, e_b1, e_c1, e_c3, e_const, e_cs1, e_cv2, e_cv3, e_cv6, e_dup2, e_getR, e_goto, e_iald, e_iast, e_ii4, e_il1, e_il2, e_il3, e_il4, e_is2, e_is3, e_is4, e_popi, e_popr, e_ret, e_z0, e_z1, e_z2, Option.toList_some, Option.toList_none, List.cons_append, List.nil_append, List.append_nil, List.length_cons, List.length_nil, Nat.reduceAdd, Nat.reduceLeDiff, Nat.zero_le, true_and, and_true, and_self, true_implies, forall_const, ai_rvs, ai_rv0, ai_b_0, Classical.not_not, not_true_eq_false, false_implies, not_false_eq_true, true_implies, and_true, true_and, if_true, if_false, Bool.false_eq_true, q_229, a_nw, hm.1, nIc, sr_r, e3, Int32.le_refl]
    exact k3
  | r + 1, i, v, hi, hb => by
    obtain ⟨l1, l2⟩ := hro.len
    have hk6 := hj.2.1
    have e3 : J 3 = nI os.length := by rw [hj.2.2.1 3 (by omega) (by omega), hv.2.1, l1]
    obtain ⟨y, hy⟩ := get_lt (L := os) (i := i) (by omega)
    have ey := (hro.f hy).2.2.1
    have ih := fun v => r126_in hm hro hk hj hv kk r (i + 1) v (by omega)
    have e0 : (nI 0).toInt = 0 := by decide
    rw [H126_11]
    simp (disch := omega) only [k126_0, k126_1, k126_3, k126_6, k126_7, k126_8, k126_9, k126_13, k126_14, k126_17, k126_18, k126_19, k126_22, k126_23, k126_26, k126_28, k126_31, k126_32, k126_33, k126_34, k126_35, k126_38, k126_39, k126_42, k126_43, k126_45, k126_46, k126_49, k126_52, k126_53, k126_55, k126_58, k126_61, k126_63, k126_64, k126_67, k126_71, k126_74, k126_75, k126_78, k126_79, k126_80, k126_81, k126_84, k126_87, k126_88, k126_89, k126_92, k126_93, k126_96, k126_97, k126_98, k126_99, k126_100, k126_101, k126_104, k126_105, k126_108, k126_109, k126_110, k126_111, k126_112, k126_113, k126_116, k126_117, k126_120, k126_121, k126_124, k126_125, k126_126, k126_129, k126_130, k126_133, k126_134, k126_135, k126_136, k126_137, k126_138, k126_139, k126_140, k126_141, k126_144, k126_145, k126_148, k126_149, k126_150, k126_151, k126_154, k126_155, k126_156, k126_159, k126_162, ai_c1i, ai_c1n, ai_c1r, e_al0, e_an0, e_b0, e_b1, e_c1, e_c3, e_const, e_cs1, e_cv2, e_cv3, e_cv6, e_dup2, e_getR, e_goto, e_iald, e_iast, e_ii4, e_il1, e_il2, e_il3, e_il4, e_is2, e_is3, e_is4, e_popi, e_popr, e_ret, e_z0, e_z1, e_z2, Option.toList_some, Option.toList_none, List.cons_append, List.nil_append, List.append_nil, List.length_cons, List.length_nil, Nat.reduceAdd, Nat.reduceLeDiff, Nat.zero_le, true_and, and_true, and_self, true_implies, forall_const, ai_rvs, ai_rv0, ai_b_0, Classical.not_not, not_true_eq_false, false_implies, not_false_eq_true, true_implies, and_true, true_and, if_true, if_false, Bool.false_eq_true, q_229, a_nw, hm.1, c99, nIm, nIa, nIc, sr_r, e3, nIle, ey]
    refine ⟨fun g => absurd g (by omega), fun _ => ⟨fun g => ih v (hb.skip hy ?_), fun g => ?_⟩⟩
    · unfold xq
      rw [decide_eq_false g]
      rfl
    · obtain ⟨rb, hrb, hbar⟩ := r123x (I := I) hm hro hk hj hv hy g
      have fxf : rb ≠ nI 0 → xq S.1 m y = false := fun h => by
        cases hx : xq S.1 m y with
        | false => rfl
        | true => exact absurd (hrb.mpr hx) h
      by_cases hv0 : v = -1
      · subst hv0
        have ng : ((-1 : Int32) < nI 0) := by decide
        simp (disch := omega) only [k126_0, k126_1, k126_3, k126_6, k126_7, k126_8, k126_9, k126_13, k126_14, k126_17, k126_18, k126_19, k126_22, k126_23, k126_26, k126_28, k126_31, k126_32, k126_33, k126_34, k126_35, k126_38, k126_39, k126_42, k126_43, k126_45, k126_46, k126_49, k126_52, k126_53, k126_55, k126_58, k126_61, k126_63, k126_64, k126_67, k126_71, k126_74, k126_75, k126_78, k126_79, k126_80, k126_81, k126_84, k126_87, k126_88, k126_89, k126_92, k126_93, k126_96, k126_97, k126_98, k126_99, k126_100, k126_101, k126_104, k126_105, k126_108, k126_109, k126_110, k126_111, k126_112, k126_113, k126_116, k126_117, k126_120, k126_121, k126_124, k126_125, k126_126, k126_129, k126_130, k126_133, k126_134, k126_135, k126_136, k126_137, k126_138, k126_139, k126_140, k126_141, k126_144, k126_145, k126_148, k126_149, k126_150, k126_151, k126_154, k126_155, k126_156, k126_159, k126_162, ai_c1i, ai_c1n, ai_c1r, e_al0, e_an0, e_b0, e_b1, e_c1, e_c3, e_const, e_cs1, e_cv2, e_cv3, e_cv6, e_dup2, e_getR, e_goto, e_iald, e_iast, e_ii4, e_il1, e_il2, e_il3, e_il4, e_is2, e_is3, e_is4, e_popi, e_popr, e_ret, e_z0, e_z1, e_z2, Option.toList_some, Option.toList_none, List.cons_append, List.nil_append, List.append_nil, List.length_cons, List.length_nil, Nat.reduceAdd, Nat.reduceLeDiff, Nat.zero_le, true_and, and_true, and_self, true_implies, forall_const, ai_rvs, ai_rv0, ai_b_0, Classical.not_not, not_true_eq_false, false_implies, not_false_eq_true, true_implies, and_true, true_and, if_true, if_false, Bool.false_eq_true, ng, hbar, nIa]
        exact ⟨fun g2 => ih _ (hb.skip hy (fxf g2)), fun g2 => ih _ (hb.new0 (by omega) hy (hrb.mp g2))⟩
      · rcases id hb with ⟨e, -⟩ | ⟨p, x, hp, rfl, hx, fx, hall⟩
        · exact absurd e hv0
        · have ng : ¬ (nI p < nI 0) := by rw [nIlt (by omega) (by omega)]; omega
          have nx : x.1 ≠ y.1 := by
            obtain ⟨p8, ep⟩ := List.getElem?_eq_some_iff.mp hx
            obtain ⟨i8, ei⟩ := List.getElem?_eq_some_iff.mp hy
            have := List.pairwise_iff_getElem.mp hro.2.2.1 p i p8 i8 hp
            rw [ep, ei] at this
            intro h
            rw [h] at this
            exact Int32.lt_irrefl this
          simp (disch := omega) only [k126_0, k126_1, k126_3, k126_6, k126_7, k126_8, k126_9, k126_13, k126_14, k126_17, k126_18, k126_19, k126_22, k126_23, k126_26, k126_28, k126_31, k126_32, k126_33, k126_34, k126_35, k126_38, k126_39, k126_42, k126_43, k126_45, k126_46, k126_49, k126_52, k126_53, k126_55, k126_58, k126_61, k126_63, k126_64, k126_67, k126_71, k126_74, k126_75, k126_78, k126_79, k126_80, k126_81, k126_84, k126_87, k126_88, k126_89, k126_92, k126_93, k126_96, k126_97, k126_98, k126_99, k126_100, k126_101, k126_104, k126_105, k126_108, k126_109, k126_110, k126_111, k126_112, k126_113, k126_116, k126_117, k126_120, k126_121, k126_124, k126_125, k126_126, k126_129, k126_130, k126_133, k126_134, k126_135, k126_136, k126_137, k126_138, k126_139, k126_140, k126_141, k126_144, k126_145, k126_148, k126_149, k126_150, k126_151, k126_154, k126_155, k126_156, k126_159, k126_162, ai_c1i, ai_c1n, ai_c1r, e_al0, e_an0, e_b0, e_b1, e_c1, e_c3, e_const, e_cs1, e_cv2, e_cv3, e_cv6, e_dup2, e_getR, e_goto, e_iald, e_iast, e_ii4, e_il1, e_il2, e_il3, e_il4, e_is2, e_is3, e_is4, e_popi, e_popr, e_ret, e_z0, e_z1, e_z2, Option.toList_some, Option.toList_none, List.cons_append, List.nil_append, List.append_nil, List.length_cons, List.length_nil, Nat.reduceAdd, Nat.reduceLeDiff, Nat.zero_le, true_and, and_true, and_self, true_implies, forall_const, ai_rvs, ai_rv0, ai_b_0, Classical.not_not, not_true_eq_false, false_implies, not_false_eq_true, true_implies, and_true, true_and, if_true, if_false, Bool.false_eq_true, ng, r124 hm hro hv.2.2.2 hy hx, nIa]
          refine ⟨fun g2 => ih _ (hb.keep (by omega) (by omega) hx hy ?_), fun g2 => ?_⟩
          · exact ofb_tot (hv.2.2.2 y (hro.mem hy)) (hv.2.2.2 x (hro.mem hx)) (Ne.symm nx) g2
          · rw [hbar]
            simp (disch := omega) only [k126_0, k126_1, k126_3, k126_6, k126_7, k126_8, k126_9, k126_13, k126_14, k126_17, k126_18, k126_19, k126_22, k126_23, k126_26, k126_28, k126_31, k126_32, k126_33, k126_34, k126_35, k126_38, k126_39, k126_42, k126_43, k126_45, k126_46, k126_49, k126_52, k126_53, k126_55, k126_58, k126_61, k126_63, k126_64, k126_67, k126_71, k126_74, k126_75, k126_78, k126_79, k126_80, k126_81, k126_84, k126_87, k126_88, k126_89, k126_92, k126_93, k126_96, k126_97, k126_98, k126_99, k126_100, k126_101, k126_104, k126_105, k126_108, k126_109, k126_110, k126_111, k126_112, k126_113, k126_116, k126_117, k126_120, k126_121, k126_124, k126_125, k126_126, k126_129, k126_130, k126_133, k126_134, k126_135, k126_136, k126_137, k126_138, k126_139, k126_140, k126_141, k126_144, k126_145, k126_148, k126_149, k126_150, k126_151, k126_154, k126_155, k126_156, k126_159, k126_162, ai_c1i, ai_c1n, ai_c1r, e_al0, e_an0, e_b0, e_b1, e_c1, e_c3, e_const, e_cs1, e_cv2, e_cv3, e_cv6, e_dup2, e_getR, e_goto, e_iald, e_iast, e_ii4, e_il1, e_il2, e_il3, e_il4, e_is2, e_is3, e_is4, e_popi, e_popr, e_ret, e_z0, e_z1, e_z2, Option.toList_some, Option.toList_none, List.cons_append, List.nil_append, List.append_nil, List.length_cons, List.length_nil, Nat.reduceAdd, Nat.reduceLeDiff, Nat.zero_le, true_and, and_true, and_self, true_implies, forall_const, ai_rvs, ai_rv0, ai_b_0, Classical.not_not, not_true_eq_false, false_implies, not_false_eq_true, true_implies, and_true, true_and, if_true, if_false, Bool.false_eq_true, q_229, a_nw, nIa]
            exact ⟨fun g3 => ih _ (hb.skip hy (fxf g3)), fun g3 => ih _ (hb.new (by omega) (by omega) hx hy (hrb.mp g3) g2)⟩
end REXEC
