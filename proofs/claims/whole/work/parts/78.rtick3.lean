/-! the reference's ticks: the second half -/
section RTICK3
variable {I : Nat → Nat → Int32} {J : Nat → Int32} {M : Nat → Nat → Nat} {S : St} {m k tm : Nat} {d : Nat} {Q : Option Value → ai_H → Prop}
theorem e10 {x t : Nat} (hx : x ≤ 999) (ht : t < 2000000) : (nI x ≤ nI t - nI 10) ↔ x + 10 ≤ t := by
  rw [Int32.le_iff_toInt_le, nI_subT (by omega) (by omega), nI_toInt (by omega)]
  omega
theorem rn_s1 {m : Nat} : ∀ (ds : List Nat) (S : St), (rn ds S).1 (12 + 43 * m) = nI 3 ∨ (rn ds S).1 (12 + 43 * m) = S.1 (12 + 43 * m)
  | [], _ => Or.inr rfl
  | d :: ds, S => by
    rw [rn]
    by_cases e : m = d
    · subst e
      exact Or.inl (rn_3 ds _ mv_st)
    · rcases rn_s1 (m := m) ds (stp S d) with h | h
      · exact Or.inl h
      · refine Or.inr (h.trans ?_)
        unfold stp
        exact mv_o (by omega) (by omega) (by omega) (by omega) (by omega)
/-- after a void and its followers, a market's state is what it was or void -/
theorem vfm_s {b e : Nat} {r : Int32} (hc : CV S.1 k) (hk6 : k ≤ 6) : (vf k (mv S b r)).1.1 (12 + 43 * e) = nI 3 ∨ (vf k (mv S b r)).1.1 (12 + 43 * e) = S.1 (12 + 43 * e) := by
  obtain ⟨ds, p1, p2, p3, p4⟩ := vf_rn (S := mv S b r) hk6 hc.mv_ k (Nat.le_refl _)
  rw [p2]
  rcases rn_s1 (m := e) ds (mv S b r) with h | h
  · exact Or.inl h
  · by_cases g : e = b
    · subst g
      exact Or.inl (h.trans mv_st)
    · exact Or.inr (h.trans (mv_o (by omega) (by omega) (by omega) (by omega) (by omega)))
theorem pt2_s (h : TI S k) (hk6 : k ≤ 6) : ∀ i e, (pt2 k i S).1 (12 + 43 * e) = nI 3 ∨ (pt2 k i S).1 (12 + 43 * e) = S.1 (12 + 43 * e)
  | 0, _ => Or.inr rfl
  | i + 1, e => by
    have ih := pt2_s h hk6 i e
    rw [pt2]
    split
    · rcases vfm_s (b := i) (e := e) (r := nI 2) (pt2_ti h hk6 i).2.1 hk6 with g | g
      · exact Or.inl g
      · rcases ih with h | h
        · exact Or.inl (g.trans h)
        · exact Or.inr (g.trans h)
    · exact ih
theorem pt2_skip {i : Nat} (hn : ∀ e, i ≤ e → e < m → ¬ ((pt2 k i S).1 (12 + 43 * e) = nI 1 ∧ (pt2 k i S).1 (15 + 43 * e) + nI 10 ≤ S.1 0)) : ∀ r, i + r ≤ m → pt2 k (i + r) S = pt2 k i S
  | 0, _ => rfl
  | r + 1, hr => by
    have ih := pt2_skip hn r (by omega)
    have h0 := hn (i + r) (by omega) (by omega)
    rw [← Nat.add_assoc, pt2, ih, if_neg]
    rw [Bool.and_eq_true, decide_eq_true_eq, decide_eq_true_eq]
    intro g
    exact h0 ⟨g.1, by rw [← pt2_K (S := S) (k := k) cfv_0 i]; exact g.2⟩
/-- expiries of the markets that wait -/
def XW (g : Nat → Int32) (k t : Nat) : Prop := ∀ m, m < k → ∃ x, g (15 + 43 * m) = nI x ∧ x ≤ 999 ∧ (g (12 + 43 * m) = nI 1 → t ≤ x + 10)
theorem r135_2 (hm : RM M) (h : TI S k) {t : Nat} (hx : XW S.1 k t) (ht : S.1 0 = nI t) (htm : t < 2000000) (kk : ∀ J' w, RJ J' (pt2 k k S) k → Q none (LK, sr (ai_u I 229 6 w) J', M)) :
    ∀ n i J v w, k - i ≤ n → i ≤ k → RJ J (pt2 k i S) k → (∀ e, e < i → ¬ MT (pt2 k i S).1 (nI 1) (nI t - nI 10) e) → FM (pt2 k i S).1 k (nI 1) (nI t - nI 10) v → Ev (d + 10) X0 135 71 [.ref 229, .int v] [] (LK, sr (ai_u I 229 6 w) J, M) Q := by
  have mtc : ∀ i e, e < k → (MT (pt2 k i S).1 (nI 1) (nI t - nI 10) e ↔ (pt2 k i S).1 (12 + 43 * e) = nI 1 ∧ (pt2 k i S).1 (15 + 43 * e) + nI 10 ≤ S.1 0) := fun i e he => by
    obtain ⟨x, x1, x2, x3⟩ := hx e he
    unfold MT
    rw [pt2_K (S := S) (k := k) cfv_15, x1, ht, nIa, nIle (by omega) (by omega), e10 x2 htm]
  intro n
  induction n with
  | zero =>
    intro i J v w hn hi hj hno hf
    obtain rfl : i = k := by omega
    rcases hf with ⟨rfl, hf⟩ | ⟨b, hb, rfl, h1, h2⟩
    · have n0 : ((-1 : Int32) < nI 0) = True := eq_true (by decide)
      have k3 := kk J w hj
      rw [H135_71]
      simp (disch := omega) only [K135_0, K135_1, ai_c1i, ai_c1n, ai_c1r, e_al0, e_an0, e_b0, e_b1, e_const, e_cs1, e_cv2, e_cv3, e_dup2, e_getR, e_goto, e_iald, e_iast, e_il1, e_is1, e_ret, e_z2, Option.toList_some, Option.toList_none, List.cons_append, List.nil_append, List.append_nil, List.length_cons, List.length_nil, Nat.reduceAdd, Nat.reduceLeDiff, Nat.zero_le, true_and, and_true, and_self, true_implies, forall_const, ai_rvs, ai_rv0, ai_b_0, Classical.not_not, not_true_eq_false, false_implies, not_false_eq_true, true_implies, and_true, true_and, if_true, if_false, Bool.false_eq_true, q_229, a_nw, n0]
      exact k3
    · exact absurd h1 (hno b hb)
  | succ n ih =>
    intro i J v w hn hi hj hno hf
    have hk6 := hj.2.1
    rcases hf with ⟨rfl, hf⟩ | ⟨b, hb, rfl, h1, h2⟩
    · have n0 : ((-1 : Int32) < nI 0) = True := eq_true (by decide)
      have e := pt2_skip (S := S) (k := k) (m := k) (i := i) (fun e _ he => by rw [← mtc i e he]; exact hf e he) (k - i) (by omega)
      rw [show i + (k - i) = k by omega] at e
      have k3 := kk J w (by rw [e]; exact hj)
      rw [H135_71]
      simp (disch := omega) only [K135_0, K135_1, ai_c1i, ai_c1n, ai_c1r, e_al0, e_an0, e_b0, e_b1, e_const, e_cs1, e_cv2, e_cv3, e_dup2, e_getR, e_goto, e_iald, e_iast, e_il1, e_is1, e_ret, e_z2, Option.toList_some, Option.toList_none, List.cons_append, List.nil_append, List.append_nil, List.length_cons, List.length_nil, Nat.reduceAdd, Nat.reduceLeDiff, Nat.zero_le, true_and, and_true, and_self, true_implies, forall_const, ai_rvs, ai_rv0, ai_b_0, Classical.not_not, not_true_eq_false, false_implies, not_false_eq_true, true_implies, and_true, true_and, if_true, if_false, Bool.false_eq_true, q_229, a_nw, n0]
      exact k3
    · have hib : i ≤ b := Nat.le_of_not_lt fun g => hno b g h1
      have e := pt2_skip (S := S) (k := k) (m := b) (i := i) (fun e _ he => by rw [← mtc i e (by omega)]; exact h2 e he) (b - i) (by omega)
      rw [show i + (b - i) = b by omega] at e
      rw [← e] at hj h1 h2
      have e1 : pt2 k (b + 1) S = (vf k (mv (pt2 k b S) b (nI 2))).1 := by
        rw [pt2, if_pos]
        rw [Bool.and_eq_true, decide_eq_true_eq, decide_eq_true_eq, pt2_K (S := S) (k := k) cfv_0 b]
        exact (mtc b b hb).mp h1
      obtain ⟨h31, h32, h33, h34⟩ := pt2_ti h hk6 b
      have n0 : (nI b < nI 0) = False := eq_false (by rw [nIlt (by omega) (by omega)]; omega)
      rw [H135_71]
      simp (disch := omega) only [K135_0, K135_1, ai_c1i, ai_c1n, ai_c1r, e_al0, e_an0, e_b0, e_b1, e_const, e_cs1, e_cv2, e_cv3, e_dup2, e_getR, e_goto, e_iald, e_iast, e_il1, e_is1, e_ret, e_z2, Option.toList_some, Option.toList_none, List.cons_append, List.nil_append, List.append_nil, List.length_cons, List.length_nil, Nat.reduceAdd, Nat.reduceLeDiff, Nat.zero_le, true_and, and_true, and_self, true_implies, forall_const, ai_rvs, ai_rv0, ai_b_0, Classical.not_not, not_true_eq_false, false_implies, not_false_eq_true, true_implies, and_true, true_and, if_true, if_false, Bool.false_eq_true, q_229, a_nw, n0]
      refine r133 hm hk6 6 (d := d) hb (by omega) h31 h32 h33 hj fun J2 ds ho hs hj2 => ?_
      obtain ⟨f1, f2⟩ := vf_eq hk6 h32.mv_ ho (NF_mv h34 hs)
      have hj3 : RJ J2 (pt2 k (b + 1) S) k := by rw [e1, f1]; exact hj2
      rw [ai_u_add]
      have e0 : J2 0 = nI t := by rw [hj3.2.2.1 0 (by omega) (by omega), pt2_K (S := S) (k := k) cfv_0, ht]
      simp (disch := omega) only [K135_0, K135_1, ai_c1i, ai_c1n, ai_c1r, e_al0, e_an0, e_b0, e_b1, e_const, e_cs1, e_cv2, e_cv3, e_dup2, e_getR, e_goto, e_iald, e_iast, e_il1, e_is1, e_ret, e_z2, Option.toList_some, Option.toList_none, List.cons_append, List.nil_append, List.append_nil, List.length_cons, List.length_nil, Nat.reduceAdd, Nat.reduceLeDiff, Nat.zero_le, true_and, and_true, and_self, true_implies, forall_const, ai_rvs, ai_rv0, ai_b_0, Classical.not_not, not_true_eq_false, false_implies, not_false_eq_true, true_implies, and_true, true_and, if_true, if_false, Bool.false_eq_true, q_229, a_nw, hm.1, nIc, sr_r, e0]
      refine r134 (d := d + 7) (x := nI t - nI 10) hm hj3 (fun e he hmt => ?_) fun v hv => ?_
      · obtain ⟨x, x1, x2, x3⟩ := hx e he
        rw [pt2_K (S := S) (k := k) cfv_15, x1]
        have m2 := hmt.2
        rw [pt2_K (S := S) (k := k) cfv_15, x1, e10 x2 htm] at m2
        have s1 : S.1 (12 + 43 * e) = nI 1 := by
          rcases pt2_s h hk6 (b + 1) e with g | g
          · rw [hmt.1] at g
            exact absurd g (by decide)
          · rw [← g]; exact hmt.1
        have := x3 s1
        rw [show t = x + 10 by omega, ← nIa, i_addsub]
      · simp (disch := omega) only [K135_0, K135_1, ai_c1i, ai_c1n, ai_c1r, e_al0, e_an0, e_b0, e_b1, e_const, e_cs1, e_cv2, e_cv3, e_dup2, e_getR, e_goto, e_iald, e_iast, e_il1, e_is1, e_ret, e_z2, Option.toList_some, Option.toList_none, List.cons_append, List.nil_append, List.append_nil, List.length_cons, List.length_nil, Nat.reduceAdd, Nat.reduceLeDiff, Nat.zero_le, true_and, and_true, and_self, true_implies, forall_const, ai_rvs, ai_rv0, ai_b_0, Classical.not_not, not_true_eq_false, false_implies, not_false_eq_true, true_implies, and_true, true_and, if_true, if_false, Bool.false_eq_true, q_229, a_nw]
        refine ih (b + 1) J2 v _ (by omega) (by omega) hj3 (fun e he hmt => ?_) hv
        rw [e1] at hmt
        have m1 := hmt.1
        have m2 := hmt.2
        rw [vf_K cfv_15, mv_K cfv_15] at m2
        by_cases g : e = b
        · have g3 : (vf k (mv (pt2 k b S) b (nI 2))).1.1 (12 + 43 * b) = nI 3 := by
            rw [f1]
            exact rn_3 ds _ mv_st
          rw [g, g3] at m1
          exact absurd m1 (by decide)
        · rcases vfm_s (b := b) (e := e) (r := nI 2) h32 hk6 with g2 | g2
          · rw [m1] at g2
            exact absurd g2 (by decide)
          · rw [g2] at m1
            exact h2 e (by omega) ⟨m1, m2⟩
theorem XP.ep1 (hx : XP S.1 k tm) (ht : S.1 0 = nI (tm + 1)) (htm : tm < 1000000) : XW (pt1 k S).1 k (tm + 1) := fun e he => by
  obtain ⟨x, x1, x2, x3, x4⟩ := hx e he
  refine ⟨x, by rw [pt1_K cfv_15]; exact x1, x2, fun h => ?_⟩
  rcases pt1_s (S := S) k e with g | g
  · have := x4 (by rw [← g]; exact h)
    omega
  · have := x3 g.2.1
    omega
theorem r135 (hm : RM M) (hj : RJ J S k) (h : TI S k) (hx : XP S.1 k tm) (ht : S.1 0 = nI tm) (htm : tm < 1000000) (kk : ∀ J' w, RJ J' (ptk k S) k → Q none (LK, sr (ai_u I 229 6 w) J', M)) : Cl (d + 10) 135 [.ref 229] (LK, sr I J, M) Q := by
  have hk6 := hj.2.1
  have e0 : J 0 = nI tm := by rw [hj.2.2.1 0 (by omega) (by omega)]; exact ht
  have hj1 := hj.upd (j := 0) (by omega) (by omega) (by omega) (by omega) (nI (tm + 1))
  have e2 : ug S.1 0 (S.1 0 + nI 1) = ug S.1 0 (nI (tm + 1)) := by rw [ht, nIa]
  unfold ptk at kk
  rw [e2] at kk
  have hti : TI (ug S.1 0 (nI (tm + 1)), S.2) k := h.time hk6
  have hx1 : XP (ug S.1 0 (nI (tm + 1))) k tm := fun e he => by
    rw [ug_n (by omega), ug_n (by omega)]
    exact hx e he
  have ht1 : (ug S.1 0 (nI (tm + 1)), S.2).1 0 = nI (tm + 1) := by dsimp only; exact ug_s
  have hx2 : XP (ug S.1 0 (nI (tm + 1)), S.2).1 k tm := hx1
  generalize (ug S.1 0 (nI (tm + 1)), S.2) = S1 at hj1 kk hti ht1 hx2
  have idI : ai_u I 229 6 (I 229 6) = I := by
    funext a b
    unfold ai_u
    split
    · rename_i h; rw [h.1, h.2]
    · rfl
  simp (disch := omega) only [E135, k135_0, k135_1, k135_4, k135_5, k135_6, k135_7, k135_8, k135_9, k135_10, k135_11, k135_12, k135_13, k135_16, k135_17, k135_18, k135_21, k135_23, k135_26, k135_27, k135_30, k135_31, k135_34, k135_35, k135_36, k135_37, k135_38, k135_41, k135_42, k135_43, k135_44, k135_47, k135_48, k135_49, k135_52, k135_53, k135_57, k135_58, k135_59, k135_62, k135_63, k135_64, k135_66, k135_67, k135_70, k135_72, k135_75, k135_76, k135_77, k135_78, k135_81, k135_82, k135_83, k135_84, k135_87, k135_88, k135_89, k135_91, k135_92, k135_95, k135_96, k135_99, ai_c1i, ai_c1n, ai_c1r, e_al0, e_an0, e_b0, e_b1, e_const, e_cs1, e_cv2, e_cv3, e_dup2, e_getR, e_goto, e_iald, e_iast, e_il1, e_is1, e_ret, e_z2, Option.toList_some, Option.toList_none, List.cons_append, List.nil_append, List.append_nil, List.length_cons, List.length_nil, Nat.reduceAdd, Nat.reduceLeDiff, Nat.zero_le, true_and, and_true, and_self, true_implies, forall_const, ai_rvs, ai_rv0, ai_b_0, Classical.not_not, not_true_eq_false, false_implies, not_false_eq_true, true_implies, and_true, true_and, if_true, if_false, Bool.false_eq_true, q_229, a_nw, hm.1, nIc, sr_r, sr_u, e0, nIa, ug_s]
  have xx : ∀ {S' : St}, (∀ e, (S'.1 (12 + 43 * e) = nI 0 → S1.1 (12 + 43 * e) = nI 0) ∧ S'.1 (15 + 43 * e) = S1.1 (15 + 43 * e)) → ∀ e, e < k → MT S'.1 (nI 0) (nI (tm + 1)) e → S'.1 (15 + 43 * e) = nI (tm + 1) := fun {S'} hs e he hmt => by
    obtain ⟨x, x1, x2, x3, x4⟩ := hx2 e he
    have m2 := hmt.2
    rw [(hs e).2, x1, nIle (by omega) (by omega)] at m2
    have := x3 ((hs e).1 hmt.1)
    rw [(hs e).2, x1, show x = tm + 1 by omega]
  refine r134 (d := d + 7) (x := nI (tm + 1)) hm hj1 (xx fun e => ⟨id, rfl⟩) fun v hv => ?_
  simp (disch := omega) only [k135_0, k135_1, k135_4, k135_5, k135_6, k135_7, k135_8, k135_9, k135_10, k135_11, k135_12, k135_13, k135_16, k135_17, k135_18, k135_21, k135_23, k135_26, k135_27, k135_30, k135_31, k135_34, k135_35, k135_36, k135_37, k135_38, k135_41, k135_42, k135_43, k135_44, k135_47, k135_48, k135_49, k135_52, k135_53, k135_57, k135_58, k135_59, k135_62, k135_63, k135_64, k135_66, k135_67, k135_70, k135_72, k135_75, k135_76, k135_77, k135_78, k135_81, k135_82, k135_83, k135_84, k135_87, k135_88, k135_89, k135_91, k135_92, k135_95, k135_96, k135_99, ai_c1i, ai_c1n, ai_c1r, e_al0, e_an0, e_b0, e_b1, e_const, e_cs1, e_cv2, e_cv3, e_dup2, e_getR, e_goto, e_iald, e_iast, e_il1, e_is1, e_ret, e_z2, Option.toList_some, Option.toList_none, List.cons_append, List.nil_append, List.append_nil, List.length_cons, List.length_nil, Nat.reduceAdd, Nat.reduceLeDiff, Nat.zero_le, true_and, and_true, and_self, true_implies, forall_const, ai_rvs, ai_rv0, ai_b_0, Classical.not_not, not_true_eq_false, false_implies, not_false_eq_true, true_implies, and_true, true_and, if_true, if_false, Bool.false_eq_true, q_229, a_nw]
  refine r135_1 (d := d + 7) hm hti hx2 ht1 htm (fun J2 v2 hj2 => ?_) k 0 _ v (by omega) (by omega) hj1 (fun e he => absurd he (by omega)) hv
  have hw := XP.ep1 hx2 ht1 htm
  have ht2 : (pt1 k S1).1 0 = nI (tm + 1) := (pt1_K (S := S1) cfv_0 k).trans ht1
  have e20 : J2 0 = nI (tm + 1) := by rw [hj2.2.2.1 0 (by omega) (by omega)]; exact ht2
  simp (disch := omega) only [K135_0, K135_1, ai_c1i, ai_c1n, ai_c1r, e_al0, e_an0, e_b0, e_b1, e_const, e_cs1, e_cv2, e_cv3, e_dup2, e_getR, e_goto, e_iald, e_iast, e_il1, e_is1, e_ret, e_z2, Option.toList_some, Option.toList_none, List.cons_append, List.nil_append, List.append_nil, List.length_cons, List.length_nil, Nat.reduceAdd, Nat.reduceLeDiff, Nat.zero_le, true_and, and_true, and_self, true_implies, forall_const, ai_rvs, ai_rv0, ai_b_0, Classical.not_not, not_true_eq_false, false_implies, not_false_eq_true, true_implies, and_true, true_and, if_true, if_false, Bool.false_eq_true, q_229, a_nw, hm.1, nIc, sr_r, e20]
  refine r134 (d := d + 7) (x := nI (tm + 1) - nI 10) hm hj2 (fun e he hmt => ?_) fun v hv => ?_
  · obtain ⟨x, x1, x2, x3⟩ := hw e he
    have m2 := hmt.2
    rw [x1, e10 x2 (by omega)] at m2
    have := x3 hmt.1
    rw [x1, show tm + 1 = x + 10 by omega, ← nIa, i_addsub]
  · simp (disch := omega) only [K135_0, K135_1, ai_c1i, ai_c1n, ai_c1r, e_al0, e_an0, e_b0, e_b1, e_const, e_cs1, e_cv2, e_cv3, e_dup2, e_getR, e_goto, e_iald, e_iast, e_il1, e_is1, e_ret, e_z2, Option.toList_some, Option.toList_none, List.cons_append, List.nil_append, List.append_nil, List.length_cons, List.length_nil, Nat.reduceAdd, Nat.reduceLeDiff, Nat.zero_le, true_and, and_true, and_self, true_implies, forall_const, ai_rvs, ai_rv0, ai_b_0, Classical.not_not, not_true_eq_false, false_implies, not_false_eq_true, true_implies, and_true, true_and, if_true, if_false, Bool.false_eq_true, q_229, a_nw]
    have l := r135_2 (d := d) (I := I) (Q := Q) hm (pt1_ti hti hk6 k) hw ht2 (by omega) kk k 0 J2 v (I 229 6) (by omega) (by omega) hj2 (fun e he => absurd he (by omega)) hv
    rw [idI] at l
    exact l
end RTICK3
