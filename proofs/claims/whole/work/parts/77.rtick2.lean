/-! the reference's ticks, whole -/
/-- what voids and ticks rest on -/
def TI (S : St) (k : Nat) : Prop := S.1 3 = nI S.2.1.length ∧ CV S.1 k ∧ MST S.1 k ∧ NF k S.1
/-- expiries: open markets expire later, those that wait not ten ticks ago -/
def XP (g : Nat → Int32) (k tm : Nat) : Prop := ∀ m, m < k → ∃ x, g (15 + 43 * m) = nI x ∧ x ≤ 999 ∧ (g (12 + 43 * m) = nI 0 → tm < x) ∧ (g (12 + 43 * m) = nI 1 → x ≤ tm ∧ tm < x + 10)
section RTICK2
variable {I : Nat → Nat → Int32} {J : Nat → Int32} {M : Nat → Nat → Nat} {S : St} {m k tm : Nat} {d : Nat} {Q : Option Value → ai_H → Prop}
/-- a change that leaves the conditions and what they rest on -/
theorem NF_of {g g' : Nat → Int32} (h : NF k g) (hc : CV g k) (hk6 : k ≤ 6) (h4 : ∀ e, e < k → g' (16 + 43 * e) = g (16 + 43 * e)) (h5 : ∀ e, e < k → g' (17 + 43 * e) = g (17 + 43 * e)) (hw : ∀ e, e < k → g' (19 + 43 * e) = g (19 + 43 * e)) (hs : ∀ e, e < k → g' (12 + 43 * e) = g (12 + 43 * e) ∨ (g' (12 + 43 * e) = nI 1 ∧ g (12 + 43 * e) = nI 0)) : NF k g' := fun e he ha => by
  refine h e he ⟨?_, fun hz => ha.2 ?_⟩
  · rcases hs e he with h | h
    · rw [← h]; exact ha.1
    · exact Or.inl h.2
  · rcases hc e he with hc1 | ⟨c, hce, hc1⟩
    · unfold m_rz
      rw [h4 e he, if_pos hc1]
    · have ec : (nI c).toNatClampNeg = c := nIc (by omega)
      rcases hs c (by omega) with h | h
      · rw [← hz]
        refine rz_c (h4 e he) (h5 e he) (fun _ => ?_) (fun _ => ?_)
        · rw [hc1, ec]; exact h
        · rw [hc1, ec]; exact hw c (by omega)
      · exact rz_n (c := c) (by omega) (by rw [h4 e he]; exact hc1) (Or.inr h.1)
theorem TI.expd (h : TI S k) (hk6 : k ≤ 6) (h0 : S.1 (12 + 43 * m) = nI 0) : TI (xpd S m) k := by
  obtain ⟨h1, h2, h3, h4⟩ := h
  have o : ∀ j, j ≠ 3 → j ≠ 12 + 43 * m → (xpd S m).1 j = S.1 j := fun j g1 g2 => by
    unfold xpd
    dsimp only
    rw [ug_n g1, ug_n g2]
  have s1 : (xpd S m).1 (12 + 43 * m) = nI 1 := by
    unfold xpd
    dsimp only
    rw [ug_n (by omega), ug_s]
  refine ⟨?_, fun e he => by rw [o _ (by omega) (by omega)]; exact h2 e he, fun e he => ?_, NF_of h4 h2 hk6 (fun e he => o _ (by omega) (by omega)) (fun e he => o _ (by omega) (by omega)) (fun e he => o _ (by omega) (by omega)) fun e he => ?_⟩
  · unfold xpd
    dsimp only
    rw [ug_s]
  · by_cases g : e = m
    · subst g
      exact ⟨1, by omega, s1⟩
    · rw [o _ (by omega) (by omega)]
      exact h3 e he
  · by_cases g : e = m
    · subst g
      exact Or.inr ⟨s1, h0⟩
    · exact Or.inl (o _ (by omega) (by omega))
theorem TI.emv {r : Int32} (h : TI S k) (hk6 : k ≤ 6) : TI (vf k (mv S m r)).1 k := by
  obtain ⟨h1, h2, h3, h4⟩ := h
  obtain ⟨ds, p1, p2, p3, p4⟩ := vf_rn (S := mv S m r) hk6 h2.mv_ k (Nat.le_refl _)
  refine ⟨?_, ?_, ?_, p4⟩
  · rw [p2]; exact rn_len ds _ mv_3
  · rw [p2]; exact CV.rn_ ds _ h2.mv_
  · rw [p2]; exact MST.rn_ ds _ h3.mv_
theorem pt1_ti (h : TI S k) (hk6 : k ≤ 6) : ∀ i, TI (pt1 i S) k
  | 0 => h
  | i + 1 => by
    have ih := pt1_ti h hk6 i
    rw [pt1]
    split
    · rename_i g
      rw [Bool.and_eq_true, decide_eq_true_eq, decide_eq_true_eq] at g
      exact ih.expd hk6 g.1
    · exact ih
theorem pt2_ti (h : TI S k) (hk6 : k ≤ 6) : ∀ i, TI (pt2 k i S) k
  | 0 => h
  | i + 1 => by
    have ih := pt2_ti h hk6 i
    rw [pt2]
    split
    · exact ih.emv hk6
    · exact ih
theorem TI.time (h : TI S k) (hk6 : k ≤ 6) {v : Int32} : TI (ug S.1 0 v, S.2) k := by
  obtain ⟨h1, h2, h3, h4⟩ := h
  refine ⟨by dsimp only; rw [ug_n (by omega)]; exact h1, fun e he => by dsimp only; rw [ug_n (by omega)]; exact h2 e he, fun e he => by dsimp only; rw [ug_n (by omega)]; exact h3 e he, NF_of h4 h2 hk6 (fun e he => ug_n (by omega)) (fun e he => ug_n (by omega)) (fun e he => ug_n (by omega)) fun e he => Or.inl (ug_n (by omega))⟩
theorem pt1_s : ∀ i e, (pt1 i S).1 (12 + 43 * e) = S.1 (12 + 43 * e) ∨ ((pt1 i S).1 (12 + 43 * e) = nI 1 ∧ S.1 (12 + 43 * e) = nI 0 ∧ S.1 (15 + 43 * e) ≤ S.1 0)
  | 0, _ => Or.inl rfl
  | i + 1, e => by
    have ih := pt1_s i e
    rw [pt1]
    split
    · rename_i g
      rw [Bool.and_eq_true, decide_eq_true_eq, decide_eq_true_eq, pt1_K cfv_15, pt1_K cfv_0] at g
      unfold xpd
      dsimp only
      rw [ug_n (by omega)]
      by_cases he : e = i
      · subst he
        rw [ug_s]
        rcases ih with h | h
        · exact Or.inr ⟨rfl, h ▸ g.1, g.2⟩
        · exact Or.inr ⟨rfl, h.2⟩
      · rw [ug_n (by omega)]
        exact ih
    · exact ih
theorem pt1_skip {i : Nat} (hn : ∀ e, i ≤ e → e < m → ¬ MT (pt1 i S).1 (nI 0) (S.1 0) e) : ∀ r, i + r ≤ m → pt1 (i + r) S = pt1 i S
  | 0, _ => rfl
  | r + 1, hr => by
    have ih := pt1_skip hn r (by omega)
    have h0 := hn (i + r) (by omega) (by omega)
    rw [← Nat.add_assoc, pt1, ih, if_neg]
    rw [Bool.and_eq_true, decide_eq_true_eq, decide_eq_true_eq]
    intro g
    exact h0 ⟨g.1, by rw [← pt1_K (S := S) cfv_0 i]; exact g.2⟩
theorem r135_1 {I : Nat → Nat → Int32} (hm : RM M) (h : TI S k) (hx : XP S.1 k tm) (ht : S.1 0 = nI (tm + 1)) (htm : tm < 1000000) (kk : ∀ J' v, RJ J' (pt1 k S) k → Ev (d + 3) X0 135 56 [.ref 229, .int v] [] (LK, sr I J', M) Q) :
    ∀ n i J v, k - i ≤ n → i ≤ k → RJ J (pt1 i S) k → (∀ e, e < i → ¬ MT (pt1 i S).1 (nI 0) (nI (tm + 1)) e) → FM (pt1 i S).1 k (nI 0) (nI (tm + 1)) v → Ev (d + 3) X0 135 22 [.ref 229, .int v] [] (LK, sr I J, M) Q := by
  intro n
  induction n with
  | zero =>
    intro i J v hn hi hj hno hf
    obtain rfl : i = k := by omega
    rcases hf with ⟨rfl, hf⟩ | ⟨b, hb, rfl, h1, h2⟩
    · have n0 : ((-1 : Int32) < nI 0) = True := eq_true (by decide)
      have k3 := kk J (-1) hj
      rw [H135_22]
      simp (disch := omega) only [k135_0, k135_1, k135_4, k135_5, k135_6, k135_7, k135_8, k135_9, k135_10, k135_11, k135_12, k135_13, k135_16, k135_17, k135_18, k135_21, k135_23, k135_26, k135_27, k135_30, k135_31, k135_34, k135_35, k135_36, k135_37, k135_38, k135_41, k135_42, k135_43, k135_44, k135_47, k135_48, k135_49, k135_52, k135_53, k135_57, k135_58, k135_59, k135_62, k135_63, k135_64, k135_66, k135_67, k135_70, k135_72, k135_75, k135_76, k135_77, k135_78, k135_81, k135_82, k135_83, k135_84, k135_87, k135_88, k135_89, k135_91, k135_92, k135_95, k135_96, k135_99, ai_c1i, ai_c1n, ai_c1r, e_al0, e_an0, e_b0, e_b1, e_const, e_cs1, e_cv2, e_cv3, e_dup2, e_getR, e_goto, e_iald, e_iast, e_il1, e_is1, e_ret, e_z2, Option.toList_some, Option.toList_none, List.cons_append, List.nil_append, List.append_nil, List.length_cons, List.length_nil, Nat.reduceAdd, Nat.reduceLeDiff, Nat.zero_le, true_and, and_true, and_self, true_implies, forall_const, ai_rvs, ai_rv0, ai_b_0, Classical.not_not, not_true_eq_false, false_implies, not_false_eq_true, true_implies, and_true, true_and, if_true, if_false, Bool.false_eq_true, q_229, a_nw, n0]
      exact k3
    · exact absurd h1 (hno b hb)
  | succ n ih =>
    intro i J v hn hi hj hno hf
    have hk6 := hj.2.1
    rcases hf with ⟨rfl, hf⟩ | ⟨b, hb, rfl, h1, h2⟩
    · have n0 : ((-1 : Int32) < nI 0) = True := eq_true (by decide)
      have e := pt1_skip (S := S) (m := k) (i := i) (fun e _ he => by rw [ht]; exact hf e he) (k - i) (by omega)
      rw [show i + (k - i) = k by omega] at e
      have k3 := kk J (-1) (by rw [e]; exact hj)
      rw [H135_22]
      simp (disch := omega) only [k135_0, k135_1, k135_4, k135_5, k135_6, k135_7, k135_8, k135_9, k135_10, k135_11, k135_12, k135_13, k135_16, k135_17, k135_18, k135_21, k135_23, k135_26, k135_27, k135_30, k135_31, k135_34, k135_35, k135_36, k135_37, k135_38, k135_41, k135_42, k135_43, k135_44, k135_47, k135_48, k135_49, k135_52, k135_53, k135_57, k135_58, k135_59, k135_62, k135_63, k135_64, k135_66, k135_67, k135_70, k135_72, k135_75, k135_76, k135_77, k135_78, k135_81, k135_82, k135_83, k135_84, k135_87, k135_88, k135_89, k135_91, k135_92, k135_95, k135_96, k135_99, ai_c1i, ai_c1n, ai_c1r, e_al0, e_an0, e_b0, e_b1, e_const, e_cs1, e_cv2, e_cv3, e_dup2, e_getR, e_goto, e_iald, e_iast, e_il1, e_is1, e_ret, e_z2, Option.toList_some, Option.toList_none, List.cons_append, List.nil_append, List.append_nil, List.length_cons, List.length_nil, Nat.reduceAdd, Nat.reduceLeDiff, Nat.zero_le, true_and, and_true, and_self, true_implies, forall_const, ai_rvs, ai_rv0, ai_b_0, Classical.not_not, not_true_eq_false, false_implies, not_false_eq_true, true_implies, and_true, true_and, if_true, if_false, Bool.false_eq_true, q_229, a_nw, n0]
      exact k3
    · have hib : i ≤ b := Nat.le_of_not_lt fun g => hno b g h1
      have e := pt1_skip (S := S) (m := b) (i := i) (fun e _ he => by rw [ht]; exact h2 e he) (b - i) (by omega)
      rw [show i + (b - i) = b by omega] at e
      rw [← e] at hj h1 h2
      have e1 : pt1 (b + 1) S = xpd (pt1 b S) b := by
        rw [pt1, if_pos]
        rw [Bool.and_eq_true, decide_eq_true_eq, decide_eq_true_eq]
        exact ⟨h1.1, by rw [pt1_K (S := S) cfv_0 b, ht]; exact h1.2⟩
      have hti := pt1_ti h hk6 b
      have n0 : (nI b < nI 0) = False := eq_false (by rw [nIlt (by omega) (by omega)]; omega)
      have hj1 := hj.upd (j := 12 + 43 * b) (by omega) (by omega) (by omega) (by omega) (nI 1)
      rw [H135_22]
      simp (disch := omega) only [k135_0, k135_1, k135_4, k135_5, k135_6, k135_7, k135_8, k135_9, k135_10, k135_11, k135_12, k135_13, k135_16, k135_17, k135_18, k135_21, k135_23, k135_26, k135_27, k135_30, k135_31, k135_34, k135_35, k135_36, k135_37, k135_38, k135_41, k135_42, k135_43, k135_44, k135_47, k135_48, k135_49, k135_52, k135_53, k135_57, k135_58, k135_59, k135_62, k135_63, k135_64, k135_66, k135_67, k135_70, k135_72, k135_75, k135_76, k135_77, k135_78, k135_81, k135_82, k135_83, k135_84, k135_87, k135_88, k135_89, k135_91, k135_92, k135_95, k135_96, k135_99, ai_c1i, ai_c1n, ai_c1r, e_al0, e_an0, e_b0, e_b1, e_const, e_cs1, e_cv2, e_cv3, e_dup2, e_getR, e_goto, e_iald, e_iast, e_il1, e_is1, e_ret, e_z2, Option.toList_some, Option.toList_none, List.cons_append, List.nil_append, List.append_nil, List.length_cons, List.length_nil, Nat.reduceAdd, Nat.reduceLeDiff, Nat.zero_le, true_and, and_true, and_self, true_implies, forall_const, ai_rvs, ai_rv0, ai_b_0, Classical.not_not, not_true_eq_false, false_implies, not_false_eq_true, true_implies, and_true, true_and, if_true, if_false, Bool.false_eq_true, q_229, a_nw, n0, hm.1, c98, nIm, nIa, nIc, sr_u]
      refine r132 (d := d) hm hj1 (by dsimp only; rw [ug_n (by omega)]; exact hti.1) fun J2 hj2 => ?_
      have hj3 : RJ J2 (pt1 (b + 1) S) k := by rw [e1]; exact hj2
      have e0 : J2 0 = nI (tm + 1) := by rw [hj3.2.2.1 0 (by omega) (by omega), pt1_K (S := S) cfv_0, ht]
      simp (disch := omega) only [k135_0, k135_1, k135_4, k135_5, k135_6, k135_7, k135_8, k135_9, k135_10, k135_11, k135_12, k135_13, k135_16, k135_17, k135_18, k135_21, k135_23, k135_26, k135_27, k135_30, k135_31, k135_34, k135_35, k135_36, k135_37, k135_38, k135_41, k135_42, k135_43, k135_44, k135_47, k135_48, k135_49, k135_52, k135_53, k135_57, k135_58, k135_59, k135_62, k135_63, k135_64, k135_66, k135_67, k135_70, k135_72, k135_75, k135_76, k135_77, k135_78, k135_81, k135_82, k135_83, k135_84, k135_87, k135_88, k135_89, k135_91, k135_92, k135_95, k135_96, k135_99, ai_c1i, ai_c1n, ai_c1r, e_al0, e_an0, e_b0, e_b1, e_const, e_cs1, e_cv2, e_cv3, e_dup2, e_getR, e_goto, e_iald, e_iast, e_il1, e_is1, e_ret, e_z2, Option.toList_some, Option.toList_none, List.cons_append, List.nil_append, List.append_nil, List.length_cons, List.length_nil, Nat.reduceAdd, Nat.reduceLeDiff, Nat.zero_le, true_and, and_true, and_self, true_implies, forall_const, ai_rvs, ai_rv0, ai_b_0, Classical.not_not, not_true_eq_false, false_implies, not_false_eq_true, true_implies, and_true, true_and, if_true, if_false, Bool.false_eq_true, q_229, a_nw, hm.1, nIc, sr_r, e0]
      refine r134 (d := d) (x := nI (tm + 1)) hm hj3 (fun e he hmt => ?_) fun v hv => ?_
      · obtain ⟨x, x1, x2, x3, x4⟩ := hx e he
        rw [pt1_K (S := S) cfv_15, x1]
        have m2 := hmt.2
        rw [pt1_K (S := S) cfv_15, x1, nIle (by omega) (by omega)] at m2
        have s0 : S.1 (12 + 43 * e) = nI 0 := by
          rcases pt1_s (S := S) (b + 1) e with g | g
          · rw [← g]; exact hmt.1
          · exact g.2.1
        have := x3 s0
        rw [show x = tm + 1 by omega]
      · simp (disch := omega) only [k135_0, k135_1, k135_4, k135_5, k135_6, k135_7, k135_8, k135_9, k135_10, k135_11, k135_12, k135_13, k135_16, k135_17, k135_18, k135_21, k135_23, k135_26, k135_27, k135_30, k135_31, k135_34, k135_35, k135_36, k135_37, k135_38, k135_41, k135_42, k135_43, k135_44, k135_47, k135_48, k135_49, k135_52, k135_53, k135_57, k135_58, k135_59, k135_62, k135_63, k135_64, k135_66, k135_67, k135_70, k135_72, k135_75, k135_76, k135_77, k135_78, k135_81, k135_82, k135_83, k135_84, k135_87, k135_88, k135_89, k135_91, k135_92, k135_95, k135_96, k135_99, ai_c1i, ai_c1n, ai_c1r, e_al0, e_an0, e_b0, e_b1, e_const, e_cs1, e_cv2, e_cv3, e_dup2, e_getR, e_goto, e_iald, e_iast, e_il1, e_is1, e_ret, e_z2, Option.toList_some, Option.toList_none, List.cons_append, List.nil_append, List.append_nil, List.length_cons, List.length_nil, Nat.reduceAdd, Nat.reduceLeDiff, Nat.zero_le, true_and, and_true, and_self, true_implies, forall_const, ai_rvs, ai_rv0, ai_b_0, Classical.not_not, not_true_eq_false, false_implies, not_false_eq_true, true_implies, and_true, true_and, if_true, if_false, Bool.false_eq_true, q_229, a_nw]
        refine ih (b + 1) J2 v (by omega) (by omega) hj3 (fun e he hmt => ?_) hv
        rw [e1] at hmt
        have m1 := hmt.1
        have m2 := hmt.2
        unfold xpd at m1 m2
        dsimp only at m1 m2
        rw [ug_n (by omega)] at m1
        rw [ug_n (by omega), ug_n (by omega)] at m2
        by_cases g : e = b
        · subst g
          rw [ug_s] at m1
          exact absurd m1 (by decide)
        · rw [ug_n (by omega)] at m1
          exact h2 e (by omega) ⟨m1, m2⟩
end RTICK2
