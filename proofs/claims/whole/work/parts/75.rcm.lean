/-! the reference cancels a market, settles one -/
section RCM
variable {I : Nat → Nat → Int32} {J : Nat → Int32} {M : Nat → Nat → Nat} {S : St} {m k : Nat} {d : Nat} {Q : Option Value → ai_H → Prop}
theorem NF_mv {why : Int32} {ds : List Nat} (hnf : NF k S.1) (hs : ∀ e, e < k → av (rn ds (mv S m why)).1 e → av S.1 e) : NF k (rn ds (mv S m why)).1 := fun e he ha => hnf e he (hs e he ha)
theorem vf_eq {ds : List Nat} (hk6 : k ≤ 6) (hc : CV S.1 k) (ho : okr k ds S) (hn : NF k (rn ds S).1) : (vf k S).1 = rn ds S ∧ (vf k S).2 = ds.length := by
  obtain ⟨es, p1, p2, p3, p4⟩ := vf_rn hk6 hc k (Nat.le_refl _)
  obtain ⟨q1, q2⟩ := conf hk6 ds S es hc ho p1 hn (by rw [← p2]; exact p4)
  exact ⟨by rw [p2, q1], by rw [p3, q2]⟩
theorem mst_lv (h : MST S.1 k) (hm : m < k) : (∃ s, s < 4 ∧ S.1 (12 + 43 * m) = nI s ∧ ((S.1 (12 + 43 * m) = nI 0 ∨ S.1 (12 + 43 * m) = nI 1) ↔ s ≤ 1)) := by
  obtain ⟨s, hs, es⟩ := h m hm
  refine ⟨s, hs, es, ?_⟩
  rw [es, nIeq (by omega) (by omega), nIeq (by omega) (by omega)]
  omega
theorem r138 (hm : RM M) (hj : RJ J S k) (hv : VB S.1 k) (h3 : S.1 3 = nI S.2.1.length) (hc : CV S.1 k) (hst : MST S.1 k) (hnf : NF k S.1) {x : Int32} (kk : ∀ J' v, RJ J' (p_cm S x).2 k → Q (some (.int (p_cm S x).1)) (LK, sr (ai_u I 229 6 v) J', M)) : Cl (d + 10) 138 [.ref 229, .int x] (LK, sr I J, M) Q := by
  have hk6 := hj.2.1
  have rd := hj.2.2.1
  have hjr : RJ ((sr I J) 230) S k := hj
  have n10 : (nI 1 = nI 0) = False := eq_false (by decide)
  have idI : ai_u I 229 6 (I 229 6) = I := by
    funext a b
    unfold ai_u
    split
    · rename_i h; rw [h.1, h.2]
    · rfl
  have k0 := fun h => kk J (I 229 6) h
  rw [idI] at k0
  unfold p_cm at kk k0
  simp (disch := omega) only [E138, K138, ai_c1i, ai_c1n, ai_c1r, e_al0, e_an0, e_c5, e_const, e_cv2, e_cv3, e_getI, e_il1, e_putI, e_reti, e_z1, Option.toList_some, Option.toList_none, List.cons_append, List.nil_append, List.append_nil, List.length_cons, List.length_nil, Nat.reduceAdd, Nat.reduceLeDiff, Nat.zero_le, true_and, and_true, and_self, true_implies, forall_const, ai_rvs, ai_rv0, ai_b_0, Classical.not_not, not_true_eq_false, false_implies, not_false_eq_true, true_implies, and_true, true_and, if_true, if_false, Bool.false_eq_true, q_229, a_nw]
  refine r101 hm hv hjr (fun m hmk ex em => ?_) (fun em => ?_)
  · rw [em] at kk k0
    subst ex
    dsimp only at kk k0
    obtain ⟨s, hs, es, lv⟩ := mst_lv hst hmk
    have rst : J (12 + 43 * m + 0) = nI s := (rd _ (by omega) (by omega)).trans es
    by_cases g : s ≤ 1
    · rw [if_pos (lv.mpr g)] at kk
      simp (disch := omega) only [K138, ai_c1i, ai_c1n, ai_c1r, e_al0, e_an0, e_c5, e_const, e_cv2, e_cv3, e_getI, e_il1, e_putI, e_reti, e_z1, Option.toList_some, Option.toList_none, List.cons_append, List.nil_append, List.append_nil, List.length_cons, List.length_nil, Nat.reduceAdd, Nat.reduceLeDiff, Nat.zero_le, true_and, and_true, and_self, true_implies, forall_const, ai_rvs, ai_rv0, ai_b_0, Classical.not_not, not_true_eq_false, false_implies, not_false_eq_true, true_implies, and_true, true_and, if_true, if_false, Bool.false_eq_true, q_229, a_nw, n10, r100 hm, sr_r, rst, nIle, g, sr_v]
      refine ⟨Or.inl rfl, r133 hm hk6 6 (d := d) hmk (by omega) h3 hc hst hj fun J' ds ho hs hj' => ?_⟩
      have hnf2 := NF_mv hnf hs
      obtain ⟨e1, e2⟩ := vf_eq hk6 hc.mv_ ho hnf2
      rw [hj.1, nIc (by omega), e1, e2] at kk
      have k2 := kk J' (nI 0 + nI (1 + ds.length)) hj'
      have eu : sr (ai_u (ai_u I 229 6 (nI 0)) 229 6 (ai_u I 229 6 (nI 0) 229 6 + nI (1 + ds.length))) J' 229 6 = nI 1 + nI ds.length := by
        rw [sr_o (by omega), ai_uh, ai_uh, nIa, nIa, Nat.zero_add]
      simp (disch := omega) only [K138, ai_c1i, ai_c1n, ai_c1r, e_al0, e_an0, e_c5, e_const, e_cv2, e_cv3, e_getI, e_il1, e_putI, e_reti, e_z1, Option.toList_some, Option.toList_none, List.cons_append, List.nil_append, List.append_nil, List.length_cons, List.length_nil, Nat.reduceAdd, Nat.reduceLeDiff, Nat.zero_le, true_and, and_true, and_self, true_implies, forall_const, ai_rvs, ai_rv0, ai_b_0, Classical.not_not, not_true_eq_false, false_implies, not_false_eq_true, true_implies, and_true, true_and, if_true, if_false, Bool.false_eq_true, q_229, a_nw, eu]
      rw [ai_u_add, ai_uh]
      exact k2
    · rw [if_neg (fun h => g (lv.mp h))] at k0
      simp (disch := omega) only [K138, ai_c1i, ai_c1n, ai_c1r, e_al0, e_an0, e_c5, e_const, e_cv2, e_cv3, e_getI, e_il1, e_putI, e_reti, e_z1, Option.toList_some, Option.toList_none, List.cons_append, List.nil_append, List.append_nil, List.length_cons, List.length_nil, Nat.reduceAdd, Nat.reduceLeDiff, Nat.zero_le, true_and, and_true, and_self, true_implies, forall_const, ai_rvs, ai_rv0, ai_b_0, Classical.not_not, not_true_eq_false, false_implies, not_false_eq_true, true_implies, and_true, true_and, if_true, if_false, Bool.false_eq_true, q_229, a_nw, n10, r100 hm, sr_r, rst, nIle, g]
      exact k0 hj
  · rw [em] at k0
    simp (disch := omega) only [K138, ai_c1i, ai_c1n, ai_c1r, e_al0, e_an0, e_c5, e_const, e_cv2, e_cv3, e_getI, e_il1, e_putI, e_reti, e_z1, Option.toList_some, Option.toList_none, List.cons_append, List.nil_append, List.append_nil, List.length_cons, List.length_nil, Nat.reduceAdd, Nat.reduceLeDiff, Nat.zero_le, true_and, and_true, and_self, true_implies, forall_const, ai_rvs, ai_rv0, ai_b_0, Classical.not_not, not_true_eq_false, false_implies, not_false_eq_true, true_implies, and_true, true_and, if_true, if_false, Bool.false_eq_true, q_229, a_nw]
    exact k0 hj
theorem pw_g_ug {g : Nat → Int32} {o j : Nat} {v : Int32} (h1 : ∀ t, t < 6 → j ≠ 6 + t ∧ j ≠ 25 + 43 * m + 4 * t + o) : ∀ i, i ≤ 6 → pw_g (ug g j v) m o i = ug (pw_g g m o i) j v
  | 0, _ => rfl
  | i + 1, hi => by
    rw [pw_g, pw_g, pw_g_ug h1 i (by omega)]
    obtain ⟨a1, a2⟩ := h1 i (by omega)
    rw [ug_n (Ne.symm a1), ug_n (Ne.symm a2), ug_comm a1]
theorem pw_s_ug {g : Nat → Int32} {o j : Nat} {v : Int32} (h1 : ∀ t, t < 6 → j ≠ 6 + t ∧ j ≠ 25 + 43 * m + 4 * t + o) : ∀ i, i ≤ 6 → pw_s (ug g j v) m o i = pw_s g m o i
  | 0, _ => rfl
  | i + 1, hi => by
    rw [pw_s, pw_s, pw_s_ug h1 i (by omega), pw_g_ug h1 i (by omega), ug_n (Ne.symm (h1 i (by omega)).2)]
theorem r137_p {o : Nat} {u : Value} (hm : RM M) (hmk : m < k) (ho : o < 4) (kk : ∀ J' u, RJ J' (pw_g S.1 m o 6, S.2) k → Ev (d + 2) X0 137 130 [.ref 229, .int (nI m), .int (nI o), .int (pw_s S.1 m o 6), .int (nI 6), u] [] (LK, sr I J', M) Q) :
    ∀ r i, r + i = 6 → ∀ J u, RJ J (pw_g S.1 m o i, S.2) k → Ev (d + 2) X0 137 77 [.ref 229, .int (nI m), .int (nI o), .int (pw_s S.1 m o i), .int (nI i), u] [] (LK, sr I J, M) Q
  | 0, i, hi, J, u, hj => by
    obtain rfl : i = 6 := by omega
    have k3 := kk J u hj
    rw [H137_77]
    simp (disch := omega) only [k137_0, k137_1, k137_2, k137_3, k137_6, k137_9, k137_11, k137_12, k137_13, k137_14, k137_15, k137_18, k137_19, k137_22, k137_23, k137_24, k137_25, k137_28, k137_31, k137_32, k137_33, k137_34, k137_35, k137_38, k137_39, k137_42, k137_43, k137_46, k137_48, k137_49, k137_50, k137_53, k137_54, k137_57, k137_58, k137_59, k137_60, k137_63, k137_64, k137_67, k137_69, k137_70, k137_71, k137_72, k137_73, k137_74, k137_75, k137_79, k137_81, k137_84, k137_87, k137_88, k137_89, k137_91, k137_92, k137_94, k137_95, k137_96, k137_97, k137_98, k137_101, k137_102, k137_104, k137_105, k137_108, k137_110, k137_112, k137_113, k137_114, k137_115, k137_117, k137_118, k137_119, k137_120, k137_122, k137_123, k137_124, k137_127, k137_131, k137_134, k137_135, k137_138, k137_140, k137_141, k137_142, k137_143, k137_144, k137_145, k137_146, k137_147, k137_151, k137_152, k137_155, k137_156, k137_157, k137_160, k137_161, k137_163, k137_164, k137_167, k137_168, k137_171, k137_172, k137_174, k137_175, k137_178, k137_179, k137_182, k137_183, k137_185, k137_186, k137_189, k137_190, k137_193, k137_194, k137_196, k137_197, k137_200, k137_203, k137_206, k137_207, ai_c1i, ai_c1n, ai_c1r, e_al0, e_an0, e_b0, e_b1, e_b2, e_c0, e_c1, e_c3, e_const, e_cs1, e_cv3, e_dup2, e_getR, e_goto, e_iald, e_iast, e_ii4, e_il1, e_il2, e_il3, e_il4, e_il5, e_is3, e_is4, e_is5, e_reti, e_z1, e_z2, Option.toList_some, Option.toList_none, List.cons_append, List.nil_append, List.append_nil, List.length_cons, List.length_nil, Nat.reduceAdd, Nat.reduceLeDiff, Nat.zero_le, true_and, and_true, and_self, true_implies, forall_const, ai_rvs, ai_rv0, ai_b_0, Classical.not_not, not_true_eq_false, false_implies, not_false_eq_true, true_implies, and_true, true_and, if_true, if_false, Bool.false_eq_true, q_229, a_nw, Int32.le_refl]
    exact k3
  | r + 1, i, hi, J, u, hj => by
    have hk6 := hj.2.1
    have rd := hj.2.2.1
    have ih := r137_p (u := u) hm hmk ho kk r (i + 1) (by omega)
    have eb : J (6 + i) = pw_g S.1 m o i (6 + i) := rd _ (by omega) (by omega)
    have ep : J (25 + 43 * m + 4 * i + o) = pw_g S.1 m o i (25 + 43 * m + 4 * i + o) := rd _ (by omega) (by omega)
    have x1 : 12 + 43 * m + (13 + 4 * i + o) = 25 + 43 * m + 4 * i + o := by omega
    rw [pw_g, pw_s] at ih
    have h2 := ih _ (.int (nI 2880 * pw_g S.1 m o i (25 + 43 * m + 4 * i + o))) (hj.upd (j := 6 + i) (by omega) (by omega) (by omega) (by omega) (pw_g S.1 m o i (6 + i) + nI 2880 * pw_g S.1 m o i (25 + 43 * m + 4 * i + o)))
    rw [H137_77]
    simp (disch := omega) only [k137_0, k137_1, k137_2, k137_3, k137_6, k137_9, k137_11, k137_12, k137_13, k137_14, k137_15, k137_18, k137_19, k137_22, k137_23, k137_24, k137_25, k137_28, k137_31, k137_32, k137_33, k137_34, k137_35, k137_38, k137_39, k137_42, k137_43, k137_46, k137_48, k137_49, k137_50, k137_53, k137_54, k137_57, k137_58, k137_59, k137_60, k137_63, k137_64, k137_67, k137_69, k137_70, k137_71, k137_72, k137_73, k137_74, k137_75, k137_79, k137_81, k137_84, k137_87, k137_88, k137_89, k137_91, k137_92, k137_94, k137_95, k137_96, k137_97, k137_98, k137_101, k137_102, k137_104, k137_105, k137_108, k137_110, k137_112, k137_113, k137_114, k137_115, k137_117, k137_118, k137_119, k137_120, k137_122, k137_123, k137_124, k137_127, k137_131, k137_134, k137_135, k137_138, k137_140, k137_141, k137_142, k137_143, k137_144, k137_145, k137_146, k137_147, k137_151, k137_152, k137_155, k137_156, k137_157, k137_160, k137_161, k137_163, k137_164, k137_167, k137_168, k137_171, k137_172, k137_174, k137_175, k137_178, k137_179, k137_182, k137_183, k137_185, k137_186, k137_189, k137_190, k137_193, k137_194, k137_196, k137_197, k137_200, k137_203, k137_206, k137_207, ai_c1i, ai_c1n, ai_c1r, e_al0, e_an0, e_b0, e_b1, e_b2, e_c0, e_c1, e_c3, e_const, e_cs1, e_cv3, e_dup2, e_getR, e_goto, e_iald, e_iast, e_ii4, e_il1, e_il2, e_il3, e_il4, e_il5, e_is3, e_is4, e_is5, e_reti, e_z1, e_z2, Option.toList_some, Option.toList_none, List.cons_append, List.nil_append, List.append_nil, List.length_cons, List.length_nil, Nat.reduceAdd, Nat.reduceLeDiff, Nat.zero_le, true_and, and_true, and_self, true_implies, forall_const, ai_rvs, ai_rv0, ai_b_0, Classical.not_not, not_true_eq_false, false_implies, not_false_eq_true, true_implies, and_true, true_and, if_true, if_false, Bool.false_eq_true, q_229, a_nw, nIle, hm.1, nIa, nIc, nIm, r100 hm, x1, sr_r, sr_u, ug_n, eb, ep]
    exact ⟨fun g => absurd g (by omega), fun _ => h2⟩
theorem rn_2 {m : Nat} : ∀ (ds : List Nat) (S : St), okr k ds S → S.1 (12 + 43 * m) = nI 2 → (rn ds S).1 (12 + 43 * m) = nI 2
  | [], _, _, h => h
  | d :: ds, S, ho, h => by
    rw [rn]
    refine rn_2 ds _ ho.2.2 ?_
    have hne : m ≠ d := fun e => by
      subst e
      have := ho.2.1.1
      rw [h] at this
      rcases this with h | h <;> exact absurd h (by decide)
    unfold stp
    rw [mv_o (by omega) (by omega) (by omega) (by omega) (by omega)]
    exact h
/-- the loop over the markets that a settling makes void -/
theorem r137_l {o : Nat} {u : Value} {pd : Int32} (hm : RM M) (hmk : m < k) (hk6 : k ≤ 6) (ho : o < 4) {S1 : St} (h3 : S1.1 3 = nI S1.2.1.length) (hc : CV S1.1 k) (hst : MST S1.1 k) (s2 : S1.1 (12 + 43 * m) = nI 2) (sw : S1.1 (19 + 43 * m) = nI o) (kk : ∀ J' ds w, okr k ds S1 → NF k (rn ds S1).1 → RJ J' (rn ds S1) k → Q (some (.int pd)) (LK, sr (ai_u I 229 6 w) J', M)) :
    ∀ q i, q + i = k → ∀ (ds : List Nat) (J : Nat → Int32) (w : Int32), okr k ds S1 → (∀ e, e < k → av (rn ds S1).1 e → i ≤ e ∧ S1.1 (16 + 43 * e) = nI m ∧ S1.1 (17 + 43 * e) ≠ nI o) → RJ J (rn ds S1) k → Ev (d + 10) X0 137 149 [.ref 229, .int (nI m), .int (nI o), .int pd, .int (nI i), u] [] (LK, sr (ai_u I 229 6 w) J, M) Q := by
  intro q
  induction q with
  | zero =>
    intro i hi ds J w hok hs hj
    obtain rfl : i = k := by omega
    have e1 : J 1 = nI i := by rw [hj.2.2.1 1 (by omega) (by omega)]; exact hj.1
    have k3 := kk J ds w hok (fun e he ha => absurd (hs e he ha).1 (by omega)) hj
    rw [H137_149]
    simp (disch := omega) only [K137_0, K137_1, K137_2, ai_c1i, ai_c1n, ai_c1r, e_al0, e_an0, e_b0, e_b1, e_b2, e_c0, e_c1, e_c3, e_const, e_cs1, e_cv3, e_dup2, e_getR, e_goto, e_iald, e_iast, e_ii4, e_il1, e_il2, e_il3, e_il4, e_il5, e_is3, e_is4, e_is5, e_reti, e_z1, e_z2, Option.toList_some, Option.toList_none, List.cons_append, List.nil_append, List.append_nil, List.length_cons, List.length_nil, Nat.reduceAdd, Nat.reduceLeDiff, Nat.zero_le, true_and, and_true, and_self, true_implies, forall_const, ai_rvs, ai_rv0, ai_b_0, Classical.not_not, not_true_eq_false, false_implies, not_false_eq_true, true_implies, and_true, true_and, if_true, if_false, Bool.false_eq_true, q_229, a_nw, hm.1, nIc, sr_r, e1, Int32.le_refl]
    exact k3
  | succ q ih2 =>
    intro i hi ds J w hok hs hj
    have rd := hj.2.2.1
    have e1 : J 1 = nI k := by rw [rd 1 (by omega) (by omega)]; exact hj.1
    have ec : (rn ds S1).1 (16 + 43 * i) = S1.1 (16 + 43 * i) := rn_o (by omega) (by omega) (fun m => by omega) ds S1
    have ec5 : (rn ds S1).1 (17 + 43 * i) = S1.1 (17 + 43 * i) := rn_o (by omega) (by omega) (fun m => by omega) ds S1
    have ew : (rn ds S1).1 (19 + 43 * m) = S1.1 (19 + 43 * m) := rn_o (by omega) (by omega) (fun m => by omega) ds S1
    have e4 : J (12 + 43 * i + 4) = S1.1 (16 + 43 * i) := by rw [rd _ (by omega) (by omega), p_4, ec]
    have e5 : J (12 + 43 * i + 5) = S1.1 (17 + 43 * i) := by rw [rd _ (by omega) (by omega), p_5, ec5]
    obtain ⟨s, hs4, es⟩ := MST.rn_ ds _ hst i (by omega)
    have e0 : J (12 + 43 * i + 0) = nI s := by rw [rd _ (by omega) (by omega)]; exact es
    have nx : ∀ (hno : ¬ av (rn ds S1).1 i), Ev (d + 10) X0 137 149 [.ref 229, .int (nI m), .int (nI o), .int pd, .int (nI (i + 1)), u] [] (LK, sr (ai_u I 229 6 w) J, M) Q := fun hno => by
      refine ih2 (i + 1) (by omega) ds J w hok (fun e he ha => ⟨?_, (hs e he ha).2⟩) hj
      have h0 := (hs e he ha).1
      by_cases h : e = i
      · subst h
        exact absurd ha hno
      · omega
    rw [H137_149]
    simp (disch := omega) only [K137_0, K137_1, K137_2, ai_c1i, ai_c1n, ai_c1r, e_al0, e_an0, e_b0, e_b1, e_b2, e_c0, e_c1, e_c3, e_const, e_cs1, e_cv3, e_dup2, e_getR, e_goto, e_iald, e_iast, e_ii4, e_il1, e_il2, e_il3, e_il4, e_il5, e_is3, e_is4, e_is5, e_reti, e_z1, e_z2, Option.toList_some, Option.toList_none, List.cons_append, List.nil_append, List.append_nil, List.length_cons, List.length_nil, Nat.reduceAdd, Nat.reduceLeDiff, Nat.zero_le, true_and, and_true, and_self, true_implies, forall_const, ai_rvs, ai_rv0, ai_b_0, Classical.not_not, not_true_eq_false, false_implies, not_false_eq_true, true_implies, and_true, true_and, if_true, if_false, Bool.false_eq_true, q_229, a_nw, hm.1, nIc, sr_r, e1, nIle, r100 hm, e4, e5, e0, nIa]
    refine ⟨fun g => absurd g (by omega), fun _ => ⟨fun g1 => nx fun ha => g1 (hs i (by omega) ha).2.1, fun g1 => ⟨fun g2 => nx fun ha => (hs i (by omega) ha).2.2 g2, fun g2 => ⟨fun g3 => nx fun ha => ?_, fun g3 => ?_⟩⟩⟩⟩
    · have := ha.1
      rw [es, nIeq (by omega) (by omega), nIeq (by omega) (by omega)] at this
      omega
    · have hm2 : (rn ds S1).1 (12 + 43 * m) = nI 2 := rn_2 ds _ hok s2
      have hrz : m_rz (rn ds S1).1 i = nI 4 := by
        unfold m_rz
        rw [ec, g1, if_neg (nI_ne_m1 (by omega)), nIc (by omega), hm2, if_neg (by decide), if_pos ⟨rfl, by rw [ew, sw, ec5]; exact fun h => g2 h.symm⟩]
      have hav : av (rn ds S1).1 i := by
        refine ⟨?_, by rw [hrz]; decide⟩
        rw [es, nIeq (by omega) (by omega), nIeq (by omega) (by omega)]
        omega
      have hstp : stp (rn ds S1) i = mv (rn ds S1) i (nI 4) := by
        unfold stp
        rw [hrz]
      refine r133 hm hk6 6 (d := d) (show i < k by omega) (by omega) (rn_len ds _ h3) (CV.rn_ ds _ hc) (MST.rn_ ds _ hst) hj fun J2 es2 ho2 hs2 hj2 => ?_
      simp (disch := omega) only [K137_0, K137_1, K137_2, ai_c1i, ai_c1n, ai_c1r, e_al0, e_an0, e_b0, e_b1, e_b2, e_c0, e_c1, e_c3, e_const, e_cs1, e_cv3, e_dup2, e_getR, e_goto, e_iald, e_iast, e_ii4, e_il1, e_il2, e_il3, e_il4, e_il5, e_is3, e_is4, e_is5, e_reti, e_z1, e_z2, Option.toList_some, Option.toList_none, List.cons_append, List.nil_append, List.append_nil, List.length_cons, List.length_nil, Nat.reduceAdd, Nat.reduceLeDiff, Nat.zero_le, true_and, and_true, and_self, true_implies, forall_const, ai_rvs, ai_rv0, ai_b_0, Classical.not_not, not_true_eq_false, false_implies, not_false_eq_true, true_implies, and_true, true_and, if_true, if_false, Bool.false_eq_true, q_229, a_nw, nIa]
      have key : rn (ds ++ i :: es2) S1 = rn es2 (mv (rn ds S1) i (nI 4)) := by
        rw [rn_app, rn, hstp]
      rw [ai_u_add]
      refine ih2 (i + 1) (by omega) (ds ++ i :: es2) J2 _ (okr_app ds _ _ hok ⟨by omega, hav, by rw [hstp]; exact ho2⟩) (fun e he ha => ?_) (by rw [key]; exact hj2)
      rw [key] at ha
      obtain ⟨z1, z2⟩ := hs e he (hs2 e he ha)
      refine ⟨?_, z2⟩
      by_cases h : e = i
      · subst h
        exfalso
        have h4 := ha.1
        rw [rn_3 es2 _ mv_st] at h4
        rcases h4 with h4 | h4 <;> exact absurd h4 (by decide)
      · omega
theorem VB.cf {g g' : Nat → Int32} (h : VB g k) (h1 : g' 1 = g 1) (h2 : ∀ m, g' (14 + 43 * m) = g (14 + 43 * m)) : VB g' k := h.of h1 h2
theorem pw_o {o j : Nat} (h1 : j < 6 ∨ 12 ≤ j) (h2 : j ≠ 18 + 43 * m) (h3 : j ≠ 12 + 43 * m) (h4 : j ≠ 19 + 43 * m) : pw S.1 m o j = S.1 j := by
  unfold pw
  rw [ug_n h4, ug_n h3, ug_n h2, pw_g_o (fun t ht => by omega) 6 (by omega)]
theorem r137 (hm : RM M) (hj : RJ J S k) (hv : VB S.1 k) (h3 : S.1 3 = nI S.2.1.length) (hc : CV S.1 k) (hst : MST S.1 k) (hnf : NF k S.1) {x y : Int32} (kk : ∀ J' v, RJ J' (p_set S x y).2 k → Q (some (.int (p_set S x y).1)) (LK, sr (ai_u I 229 6 v) J', M)) : Cl (d + 10) 137 [.ref 229, .int x, .int y] (LK, sr I J, M) Q := by
  have hk6 := hj.2.1
  have rd := hj.2.2.1
  have hjr : RJ ((sr I J) 230) S k := hj
  have n10 : (nI 1 = nI 0) = False := eq_false (by decide)
  have idI : ai_u I 229 6 (I 229 6) = I := by
    funext a b
    unfold ai_u
    split
    · rename_i h; rw [h.1, h.2]
    · rfl
  have k0 := fun h => kk J (I 229 6) h
  rw [idI] at k0
  unfold p_set at kk k0
  simp (disch := omega) only [E137, k137_0, k137_1, k137_2, k137_3, k137_6, k137_9, k137_11, k137_12, k137_13, k137_14, k137_15, k137_18, k137_19, k137_22, k137_23, k137_24, k137_25, k137_28, k137_31, k137_32, k137_33, k137_34, k137_35, k137_38, k137_39, k137_42, k137_43, k137_46, k137_48, k137_50, k137_53, k137_54, k137_57, k137_58, k137_59, k137_60, k137_63, k137_64, k137_67, k137_69, k137_70, k137_71, k137_72, k137_73, k137_74, k137_75, k137_79, k137_81, k137_84, k137_87, k137_88, k137_89, k137_91, k137_92, k137_94, k137_95, k137_96, k137_97, k137_98, k137_101, k137_102, k137_104, k137_105, k137_108, k137_110, k137_112, k137_113, k137_114, k137_115, k137_117, k137_118, k137_119, k137_120, k137_122, k137_123, k137_124, k137_127, k137_130, k137_131, k137_134, k137_135, k137_138, k137_140, k137_141, k137_142, k137_143, k137_144, k137_145, k137_146, k137_147, k137_151, k137_152, k137_155, k137_156, k137_157, k137_160, k137_161, k137_163, k137_164, k137_167, k137_168, k137_171, k137_172, k137_174, k137_175, k137_178, k137_179, k137_182, k137_183, k137_185, k137_186, k137_189, k137_190, k137_193, k137_194, k137_196, k137_197, k137_200, k137_203, k137_206, k137_207, ai_c1i, ai_c1n, ai_c1r, e_al0, e_an0, e_b0, e_b1, e_b2, e_c0, e_c1, e_c3, e_const, e_cs1, e_cv3, e_dup2, e_getR, e_goto, e_iald, e_iast, e_ii4, e_il1, e_il2, e_il3, e_il4, e_il5, e_is3, e_is4, e_is5, e_reti, e_z1, e_z2, Option.toList_some, Option.toList_none, List.cons_append, List.nil_append, List.append_nil, List.length_cons, List.length_nil, Nat.reduceAdd, Nat.reduceLeDiff, Nat.zero_le, true_and, and_true, and_self, true_implies, forall_const, ai_rvs, ai_rv0, ai_b_0, Classical.not_not, not_true_eq_false, false_implies, not_false_eq_true, true_implies, and_true, true_and, if_true, if_false, Bool.false_eq_true, q_229, a_nw]
  refine r102 hm hv hjr (fun m n o hmk ex hn n2 n4 ho ey em => ?_) (fun em => ?_)
  · rw [em] at kk k0
    subst ex ey
    dsimp only at kk k0
    have rst : J (12 + 43 * m + 0) = S.1 (12 + 43 * m) := rd _ (by omega) (by omega)
    have rcm : J (12 + 43 * m + 4) = S.1 (16 + 43 * m) := by rw [rd _ (by omega) (by omega), p_4]
    by_cases g : S.1 (12 + 43 * m) = nI 1
    · rw [if_pos g] at kk k0
      have main : m_wt S.1 m = nI 0 → Ev (d + 10) X0 137 49 [.ref 229, .int (nI m), .int (nI o), UU, UU, UU] [] (LK, sr I J, M) Q := fun gw => by
        rw [if_pos gw] at kk
        have h1 := (hj.upd (j := 12 + 43 * m) (by omega) (by omega) (by omega) (by omega) (nI 2)).upd (j := 19 + 43 * m) (by omega) (by omega) (by omega) (by omega) (nI o)
        have x7 : 12 + 43 * m + 7 = 19 + 43 * m := by omega
        have x6 : 12 + 43 * m + 6 = 18 + 43 * m := by omega
        simp (disch := omega) only [k137_0, k137_1, k137_2, k137_3, k137_6, k137_9, k137_11, k137_12, k137_13, k137_14, k137_15, k137_18, k137_19, k137_22, k137_23, k137_24, k137_25, k137_28, k137_31, k137_32, k137_33, k137_34, k137_35, k137_38, k137_39, k137_42, k137_43, k137_46, k137_48, k137_49, k137_50, k137_53, k137_54, k137_57, k137_58, k137_59, k137_60, k137_63, k137_64, k137_67, k137_69, k137_70, k137_71, k137_72, k137_73, k137_74, k137_75, k137_79, k137_81, k137_84, k137_87, k137_88, k137_89, k137_91, k137_92, k137_94, k137_95, k137_96, k137_97, k137_98, k137_101, k137_102, k137_104, k137_105, k137_108, k137_110, k137_112, k137_113, k137_114, k137_115, k137_117, k137_118, k137_119, k137_120, k137_122, k137_123, k137_124, k137_127, k137_131, k137_134, k137_135, k137_138, k137_140, k137_141, k137_142, k137_143, k137_144, k137_145, k137_146, k137_147, k137_151, k137_152, k137_155, k137_156, k137_157, k137_160, k137_161, k137_163, k137_164, k137_167, k137_168, k137_171, k137_172, k137_174, k137_175, k137_178, k137_179, k137_182, k137_183, k137_185, k137_186, k137_189, k137_190, k137_193, k137_194, k137_196, k137_197, k137_200, k137_203, k137_206, k137_207, ai_c1i, ai_c1n, ai_c1r, e_al0, e_an0, e_b0, e_b1, e_b2, e_c0, e_c1, e_c3, e_const, e_cs1, e_cv3, e_dup2, e_getR, e_goto, e_iald, e_iast, e_ii4, e_il1, e_il2, e_il3, e_il4, e_il5, e_is3, e_is4, e_is5, e_reti, e_z1, e_z2, Option.toList_some, Option.toList_none, List.cons_append, List.nil_append, List.append_nil, List.length_cons, List.length_nil, Nat.reduceAdd, Nat.reduceLeDiff, Nat.zero_le, true_and, and_true, and_self, true_implies, forall_const, ai_rvs, ai_rv0, ai_b_0, Classical.not_not, not_true_eq_false, false_implies, not_false_eq_true, true_implies, and_true, true_and, if_true, if_false, Bool.false_eq_true, q_229, a_nw, hm.1, c98, nIm, nIa, nIc, x7, sr_u]
        refine r137_p (d := d + 8) (u := UU) hm hmk (show o < 4 by omega) (S := (ug (ug S.1 (12 + 43 * m) (nI 2)) (19 + 43 * m) (nI o), S.2)) (fun J1 u hj1 => ?_) 6 0 (by omega) _ _ h1
        dsimp only at hj1 ⊢
        rw [pw_g_ug (fun t ht => by omega) 6 (by omega), pw_g_ug (fun t ht => by omega) 6 (by omega)] at hj1
        rw [pw_s_ug (fun t ht => by omega) 6 (by omega), pw_s_ug (fun t ht => by omega) 6 (by omega)]
        have ea : J1 (18 + 43 * m) = pw_g S.1 m o 6 (18 + 43 * m) := by
          rw [hj1.2.2.1 _ (by omega) (by omega)]
          dsimp only
          rw [ug_n (by omega), ug_n (by omega)]
        have h2 := hj1.upd (j := 18 + 43 * m) (by omega) (by omega) (by omega) (by omega) (pw_g S.1 m o 6 (18 + 43 * m) - pw_s S.1 m o 6)
        have epw : ug (ug (ug (pw_g S.1 m o 6) (12 + 43 * m) (nI 2)) (19 + 43 * m) (nI o)) (18 + 43 * m) (pw_g S.1 m o 6 (18 + 43 * m) - pw_s S.1 m o 6) = pw S.1 m o := by
          unfold pw
          rw [ug_comm (a := 19 + 43 * m) (b := 18 + 43 * m) (by omega), ug_comm (a := 12 + 43 * m) (b := 18 + 43 * m) (by omega)]
        dsimp only at h2
        rw [epw] at h2
        simp (disch := omega) only [K137_0, K137_1, K137_2, ai_c1i, ai_c1n, ai_c1r, e_al0, e_an0, e_b0, e_b1, e_b2, e_c0, e_c1, e_c3, e_const, e_cs1, e_cv3, e_dup2, e_getR, e_goto, e_iald, e_iast, e_ii4, e_il1, e_il2, e_il3, e_il4, e_il5, e_is3, e_is4, e_is5, e_reti, e_z1, e_z2, Option.toList_some, Option.toList_none, List.cons_append, List.nil_append, List.append_nil, List.length_cons, List.length_nil, Nat.reduceAdd, Nat.reduceLeDiff, Nat.zero_le, true_and, and_true, and_self, true_implies, forall_const, ai_rvs, ai_rv0, ai_b_0, Classical.not_not, not_true_eq_false, false_implies, not_false_eq_true, true_implies, and_true, true_and, if_true, if_false, Bool.false_eq_true, q_229, a_nw, hm.1, c98, nIm, nIa, nIc, x6, sr_r, sr_u, ea]
        have c1 : CV (pw S.1 m o) k := fun e he => by
          rw [pw_o (by omega) (by omega) (by omega) (by omega)]
          exact hc e he
        have s2 : pw S.1 m o (12 + 43 * m) = nI 2 := by unfold pw; rw [ug_n (by omega), ug_s]
        have sw : pw S.1 m o (19 + 43 * m) = nI o := by unfold pw; rw [ug_s]
        have st1 : MST (pw S.1 m o) k := fun e he => by
          by_cases h : e = m
          · subst h
            exact ⟨2, by omega, s2⟩
          · rw [pw_o (by omega) (by omega) (by omega) (by omega)]
            exact hst e he
        have l3 : pw S.1 m o 3 = nI S.2.1.length := by rw [pw_o (by omega) (by omega) (by omega) (by omega)]; exact h3
        have l := r137_l (d := d) (I := I) (Q := Q) (u := u) (pd := pw_s S.1 m o 6) hm hmk hk6 (show o < 4 by omega) (S1 := (pw S.1 m o, S.2)) l3 c1 st1 s2 sw (fun J2 ds w hok hnf2 hj2 => ?_) k 0 (by omega) [] _ (I 229 6) trivial (fun e he ha => ?_) h2
        · rw [idI] at l
          exact l
        · obtain ⟨e1, e2⟩ := vf_eq (S := (pw S.1 m o, S.2)) hk6 c1 hok hnf2
          rw [hj.1, nIc (by omega), e1] at kk
          exact kk J2 w hj2
        · rw [rn] at ha
          have hne : e ≠ m := fun h => by
            subst h
            have := ha.1
            dsimp only at this
            rw [s2] at this
            rcases this with h | h <;> exact absurd h (by decide)
          have hlv : S.1 (12 + 43 * e) = nI 0 ∨ S.1 (12 + 43 * e) = nI 1 := by
            have := ha.1
            dsimp only at this
            rw [pw_o (by omega) (by omega) (by omega) (by omega)] at this
            exact this
          have nrz : m_rz S.1 e = nI 0 := Classical.byContradiction fun h => hnf e he ⟨hlv, h⟩
          have a2 := ha.2
          dsimp only at a2 ⊢
          rw [pw_o (by omega) (by omega) (by omega) (by omega), pw_o (by omega) (by omega) (by omega) (by omega)]
          by_cases hce : S.1 (16 + 43 * e) = nI m
          · refine ⟨by omega, hce, fun h => a2 ?_⟩
            unfold m_rz
            rw [pw_o (by omega) (by omega) (by omega) (by omega), hce, if_neg (nI_ne_m1 (by omega)), nIc (by omega), s2, if_neg (by decide), sw, pw_o (by omega) (by omega) (by omega) (by omega), h, if_neg (fun g => g.2 rfl)]
          · exfalso
            refine a2 (Eq.trans ?_ nrz)
            rcases hc e he with h | ⟨c, hcd, h⟩
            · exact rz_c (pw_o (by omega) (by omega) (by omega) (by omega)) (pw_o (by omega) (by omega) (by omega) (by omega)) (fun g => absurd h g) (fun g => absurd h g)
            · have ec : (nI c).toNatClampNeg = c := nIc (by omega)
              have hcm : c ≠ m := fun g => hce (by rw [h, g])
              refine rz_c (pw_o (by omega) (by omega) (by omega) (by omega)) (pw_o (by omega) (by omega) (by omega) (by omega)) (fun _ => ?_) (fun _ => ?_)
              · rw [h, ec]; exact pw_o (by omega) (by omega) (by omega) (by omega)
              · rw [h, ec]; exact pw_o (by omega) (by omega) (by omega) (by omega)
      rcases hc m hmk with ec | ⟨c, hcm, ec⟩
      · have gw : m_wt S.1 m = nI 0 := by unfold m_wt; rw [if_pos ec]
        have n0 : ((-1 : Int32) < nI 0) = True := eq_true (by decide)
        simp (disch := omega) only [k137_0, k137_1, k137_2, k137_3, k137_6, k137_9, k137_11, k137_12, k137_13, k137_14, k137_15, k137_18, k137_19, k137_22, k137_23, k137_24, k137_25, k137_28, k137_31, k137_32, k137_33, k137_34, k137_35, k137_38, k137_39, k137_42, k137_43, k137_46, k137_48, k137_50, k137_53, k137_54, k137_57, k137_58, k137_59, k137_60, k137_63, k137_64, k137_67, k137_69, k137_70, k137_71, k137_72, k137_73, k137_74, k137_75, k137_79, k137_81, k137_84, k137_87, k137_88, k137_89, k137_91, k137_92, k137_94, k137_95, k137_96, k137_97, k137_98, k137_101, k137_102, k137_104, k137_105, k137_108, k137_110, k137_112, k137_113, k137_114, k137_115, k137_117, k137_118, k137_119, k137_120, k137_122, k137_123, k137_124, k137_127, k137_130, k137_131, k137_134, k137_135, k137_138, k137_140, k137_141, k137_142, k137_143, k137_144, k137_145, k137_146, k137_147, k137_151, k137_152, k137_155, k137_156, k137_157, k137_160, k137_161, k137_163, k137_164, k137_167, k137_168, k137_171, k137_172, k137_174, k137_175, k137_178, k137_179, k137_182, k137_183, k137_185, k137_186, k137_189, k137_190, k137_193, k137_194, k137_196, k137_197, k137_200, k137_203, k137_206, k137_207, ai_c1i, ai_c1n, ai_c1r, e_al0, e_an0, e_b0, e_b1, e_b2, e_c0, e_c1, e_c3, e_const, e_cs1, e_cv3, e_dup2, e_getR, e_goto, e_iald, e_iast, e_ii4, e_il1, e_il2, e_il3, e_il4, e_il5, e_is3, e_is4, e_is5, e_reti, e_z1, e_z2, Option.toList_some, Option.toList_none, List.cons_append, List.nil_append, List.append_nil, List.length_cons, List.length_nil, Nat.reduceAdd, Nat.reduceLeDiff, Nat.zero_le, true_and, and_true, and_self, true_implies, forall_const, ai_rvs, ai_rv0, ai_b_0, Classical.not_not, not_true_eq_false, false_implies, not_false_eq_true, true_implies, and_true, true_and, if_true, if_false, Bool.false_eq_true, q_229, a_nw, n10, r100 hm, sr_r, rst, g, rcm, ec, n0]
        exact main gw
      · have n0 : (nI c < nI 0) = False := eq_false (by rw [nIlt (by omega) (by omega)]; omega)
        have rsc : J (12 + 43 * c + 0) = S.1 (12 + 43 * c) := rd _ (by omega) (by omega)
        have em : m_wt S.1 m = if S.1 (12 + 43 * c) = nI 2 then nI 0 else nI 1 := by
          unfold m_wt
          rw [ec, if_neg (nI_ne_m1 (by omega)), nIc (by omega)]
        simp (disch := omega) only [k137_0, k137_1, k137_2, k137_3, k137_6, k137_9, k137_11, k137_12, k137_13, k137_14, k137_15, k137_18, k137_19, k137_22, k137_23, k137_24, k137_25, k137_28, k137_31, k137_32, k137_33, k137_34, k137_35, k137_38, k137_39, k137_42, k137_43, k137_46, k137_48, k137_50, k137_53, k137_54, k137_57, k137_58, k137_59, k137_60, k137_63, k137_64, k137_67, k137_69, k137_70, k137_71, k137_72, k137_73, k137_74, k137_75, k137_79, k137_81, k137_84, k137_87, k137_88, k137_89, k137_91, k137_92, k137_94, k137_95, k137_96, k137_97, k137_98, k137_101, k137_102, k137_104, k137_105, k137_108, k137_110, k137_112, k137_113, k137_114, k137_115, k137_117, k137_118, k137_119, k137_120, k137_122, k137_123, k137_124, k137_127, k137_130, k137_131, k137_134, k137_135, k137_138, k137_140, k137_141, k137_142, k137_143, k137_144, k137_145, k137_146, k137_147, k137_151, k137_152, k137_155, k137_156, k137_157, k137_160, k137_161, k137_163, k137_164, k137_167, k137_168, k137_171, k137_172, k137_174, k137_175, k137_178, k137_179, k137_182, k137_183, k137_185, k137_186, k137_189, k137_190, k137_193, k137_194, k137_196, k137_197, k137_200, k137_203, k137_206, k137_207, ai_c1i, ai_c1n, ai_c1r, e_al0, e_an0, e_b0, e_b1, e_b2, e_c0, e_c1, e_c3, e_const, e_cs1, e_cv3, e_dup2, e_getR, e_goto, e_iald, e_iast, e_ii4, e_il1, e_il2, e_il3, e_il4, e_il5, e_is3, e_is4, e_is5, e_reti, e_z1, e_z2, Option.toList_some, Option.toList_none, List.cons_append, List.nil_append, List.append_nil, List.length_cons, List.length_nil, Nat.reduceAdd, Nat.reduceLeDiff, Nat.zero_le, true_and, and_true, and_self, true_implies, forall_const, ai_rvs, ai_rv0, ai_b_0, Classical.not_not, not_true_eq_false, false_implies, not_false_eq_true, true_implies, and_true, true_and, if_true, if_false, Bool.false_eq_true, q_229, a_nw, n10, r100 hm, sr_r, rst, g, rcm, ec, n0, rsc]
        refine ⟨fun g2 => main (by rw [em, if_pos g2]), fun g2 => ?_⟩
        rw [em, if_neg g2, if_neg (by decide)] at k0
        exact k0 hj
    · rw [if_neg g] at k0
      simp (disch := omega) only [k137_0, k137_1, k137_2, k137_3, k137_6, k137_9, k137_11, k137_12, k137_13, k137_14, k137_15, k137_18, k137_19, k137_22, k137_23, k137_24, k137_25, k137_28, k137_31, k137_32, k137_33, k137_34, k137_35, k137_38, k137_39, k137_42, k137_43, k137_46, k137_48, k137_50, k137_53, k137_54, k137_57, k137_58, k137_59, k137_60, k137_63, k137_64, k137_67, k137_69, k137_70, k137_71, k137_72, k137_73, k137_74, k137_75, k137_79, k137_81, k137_84, k137_87, k137_88, k137_89, k137_91, k137_92, k137_94, k137_95, k137_96, k137_97, k137_98, k137_101, k137_102, k137_104, k137_105, k137_108, k137_110, k137_112, k137_113, k137_114, k137_115, k137_117, k137_118, k137_119, k137_120, k137_122, k137_123, k137_124, k137_127, k137_130, k137_131, k137_134, k137_135, k137_138, k137_140, k137_141, k137_142, k137_143, k137_144, k137_145, k137_146, k137_147, k137_151, k137_152, k137_155, k137_156, k137_157, k137_160, k137_161, k137_163, k137_164, k137_167, k137_168, k137_171, k137_172, k137_174, k137_175, k137_178, k137_179, k137_182, k137_183, k137_185, k137_186, k137_189, k137_190, k137_193, k137_194, k137_196, k137_197, k137_200, k137_203, k137_206, k137_207, ai_c1i, ai_c1n, ai_c1r, e_al0, e_an0, e_b0, e_b1, e_b2, e_c0, e_c1, e_c3, e_const, e_cs1, e_cv3, e_dup2, e_getR, e_goto, e_iald, e_iast, e_ii4, e_il1, e_il2, e_il3, e_il4, e_il5, e_is3, e_is4, e_is5, e_reti, e_z1, e_z2, Option.toList_some, Option.toList_none, List.cons_append, List.nil_append, List.append_nil, List.length_cons, List.length_nil, Nat.reduceAdd, Nat.reduceLeDiff, Nat.zero_le, true_and, and_true, and_self, true_implies, forall_const, ai_rvs, ai_rv0, ai_b_0, Classical.not_not, not_true_eq_false, false_implies, not_false_eq_true, true_implies, and_true, true_and, if_true, if_false, Bool.false_eq_true, q_229, a_nw, n10, r100 hm, sr_r, rst, g]
      exact k0 hj
  · rw [em] at k0
    simp (disch := omega) only [k137_0, k137_1, k137_2, k137_3, k137_6, k137_9, k137_11, k137_12, k137_13, k137_14, k137_15, k137_18, k137_19, k137_22, k137_23, k137_24, k137_25, k137_28, k137_31, k137_32, k137_33, k137_34, k137_35, k137_38, k137_39, k137_42, k137_43, k137_46, k137_48, k137_50, k137_53, k137_54, k137_57, k137_58, k137_59, k137_60, k137_63, k137_64, k137_67, k137_69, k137_70, k137_71, k137_72, k137_73, k137_74, k137_75, k137_79, k137_81, k137_84, k137_87, k137_88, k137_89, k137_91, k137_92, k137_94, k137_95, k137_96, k137_97, k137_98, k137_101, k137_102, k137_104, k137_105, k137_108, k137_110, k137_112, k137_113, k137_114, k137_115, k137_117, k137_118, k137_119, k137_120, k137_122, k137_123, k137_124, k137_127, k137_130, k137_131, k137_134, k137_135, k137_138, k137_140, k137_141, k137_142, k137_143, k137_144, k137_145, k137_146, k137_147, k137_151, k137_152, k137_155, k137_156, k137_157, k137_160, k137_161, k137_163, k137_164, k137_167, k137_168, k137_171, k137_172, k137_174, k137_175, k137_178, k137_179, k137_182, k137_183, k137_185, k137_186, k137_189, k137_190, k137_193, k137_194, k137_196, k137_197, k137_200, k137_203, k137_206, k137_207, ai_c1i, ai_c1n, ai_c1r, e_al0, e_an0, e_b0, e_b1, e_b2, e_c0, e_c1, e_c3, e_const, e_cs1, e_cv3, e_dup2, e_getR, e_goto, e_iald, e_iast, e_ii4, e_il1, e_il2, e_il3, e_il4, e_il5, e_is3, e_is4, e_is5, e_reti, e_z1, e_z2, Option.toList_some, Option.toList_none, List.cons_append, List.nil_append, List.append_nil, List.length_cons, List.length_nil, Nat.reduceAdd, Nat.reduceLeDiff, Nat.zero_le, true_and, and_true, and_self, true_implies, forall_const, ai_rvs, ai_rv0, ai_b_0, Classical.not_not, not_true_eq_false, false_implies, not_false_eq_true, true_implies, and_true, true_and, if_true, if_false, Bool.false_eq_true, q_229, a_nw]
    exact k0 hj
end RCM
