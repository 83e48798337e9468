/-! the reference tells prices, shares, holdings, payments -/
section RREAD
variable {I : Nat → Nat → Int32} {J : Nat → Int32} {M : Nat → Nat → Nat} {S : St} {m k T : Nat} {d : Nat} {Q : Option Value → ai_H → Prop}
theorem r144 (hm : RM M) (hj : RJ J S k) (hv : VB S.1 k) {x y : Int32} (kk : Q (some (.int (p_sh S x y))) (LK, sr I J, M)) : Cl (d + 3) 144 [.ref 229, .int x, .int y] (LK, sr I J, M) Q := by
  have hk6 := hj.2.1
  have hjr : RJ ((sr I J) 230) S k := hj
  have n10 : (nI 1 = nI 0) = False := eq_false (by decide)
  unfold p_sh at kk
  simp (disch := omega) only [E144, K144, ai_c1i, ai_c1n, ai_c1r, e_al0, e_an0, e_b0, e_const, e_cv3, e_goto, e_il1, e_il2, e_reti, e_z0, Option.toList_some, Option.toList_none, List.cons_append, List.nil_append, List.append_nil, List.length_cons, List.length_nil, Nat.reduceAdd, Nat.reduceLeDiff, Nat.zero_le, true_and, and_true, and_self, true_implies, forall_const, ai_rvs, ai_rv0, ai_b_0, Classical.not_not, not_true_eq_false, false_implies, not_false_eq_true, true_implies, and_true, true_and, if_true, if_false, Bool.false_eq_true, q_229, a_nw]
  refine r102 hm hv hjr (fun m n o hmk ex hn n2 n4 ho ey em => ?_) (fun em => ?_)
  · rw [em] at kk
    subst ex ey
    have e : J (12 + 43 * m + (9 + o)) = qs S.1 m o := by rw [show 12 + 43 * m + (9 + o) = 21 + 43 * m + o by omega, hj.2.2.1 _ (by omega) (by omega)]; rfl
    simp (disch := omega) only [K144, ai_c1i, ai_c1n, ai_c1r, e_al0, e_an0, e_b0, e_const, e_cv3, e_goto, e_il1, e_il2, e_reti, e_z0, Option.toList_some, Option.toList_none, List.cons_append, List.nil_append, List.append_nil, List.length_cons, List.length_nil, Nat.reduceAdd, Nat.reduceLeDiff, Nat.zero_le, true_and, and_true, and_self, true_implies, forall_const, ai_rvs, ai_rv0, ai_b_0, Classical.not_not, not_true_eq_false, false_implies, not_false_eq_true, true_implies, and_true, true_and, if_true, if_false, Bool.false_eq_true, q_229, a_nw, n10, nIa, r100 hm, sr_r, e]
    exact kk
  · rw [em] at kk
    simp (disch := omega) only [K144, ai_c1i, ai_c1n, ai_c1r, e_al0, e_an0, e_b0, e_const, e_cv3, e_goto, e_il1, e_il2, e_reti, e_z0, Option.toList_some, Option.toList_none, List.cons_append, List.nil_append, List.append_nil, List.length_cons, List.length_nil, Nat.reduceAdd, Nat.reduceLeDiff, Nat.zero_le, true_and, and_true, and_self, true_implies, forall_const, ai_rvs, ai_rv0, ai_b_0, Classical.not_not, not_true_eq_false, false_implies, not_false_eq_true, true_implies, and_true, true_and, if_true, if_false, Bool.false_eq_true, q_229, a_nw]
    exact kk
theorem r141 (hm : RM M) (hj : RJ J S k) (hv : VB S.1 k) (hmv : MV S.1 k) {x y : Int32} (kk : Q (some (.int (p_price S x y))) (LK, sr I J, M)) : Cl (d + 6) 141 [.ref 229, .int x, .int y] (LK, sr I J, M) Q := by
  have hk6 := hj.2.1
  have rd := hj.2.2.1
  have hjr : RJ ((sr I J) 230) S k := hj
  have n10 : (nI 1 = nI 0) = False := eq_false (by decide)
  unfold p_price at kk
  simp (disch := omega) only [E141, K141, ai_c1i, ai_c1n, ai_c1r, e_al0, e_an0, e_const, e_cv3, e_goto, e_il1, e_il2, e_reti, e_z0, Option.toList_some, Option.toList_none, List.cons_append, List.nil_append, List.append_nil, List.length_cons, List.length_nil, Nat.reduceAdd, Nat.reduceLeDiff, Nat.zero_le, true_and, and_true, and_self, true_implies, forall_const, ai_rvs, ai_rv0, ai_b_0, Classical.not_not, not_true_eq_false, false_implies, not_false_eq_true, true_implies, and_true, true_and, if_true, if_false, Bool.false_eq_true, q_229, a_nw]
  refine r102 hm hv hjr (fun m n o hmk ex hn n2 n4 ho ey em => ?_) (fun em => ?_)
  · rw [em] at kk
    subst ex ey
    dsimp only at kk
    obtain ⟨n', b, s, h1, n2', n4', h2, b1, b2, h3⟩ := hmv m hmk
    obtain rfl := (nIeq (by omega) (by omega)).mp (h1.symm.trans hn)
    have hr : RK ((sr I J) 230) m n' b s := RK.of hmk hk6 rd h1 n4 h2 b2 h3
    have e : m_pr (fun o => sr I J 230 (21 + 43 * m + o)) n' (nI b) o = m_pr (qs S.1 m) n' (nI b) o := pr_congr (fun j hj' => rd _ (by omega) (by omega)) ho
    rw [nN_of h1 n4, h2] at kk
    simp (disch := omega) only [K141, ai_c1i, ai_c1n, ai_c1r, e_al0, e_an0, e_const, e_cv3, e_goto, e_il1, e_il2, e_reti, e_z0, Option.toList_some, Option.toList_none, List.cons_append, List.nil_append, List.append_nil, List.length_cons, List.length_nil, Nat.reduceAdd, Nat.reduceLeDiff, Nat.zero_le, true_and, and_true, and_self, true_implies, forall_const, ai_rvs, ai_rv0, ai_b_0, Classical.not_not, not_true_eq_false, false_implies, not_false_eq_true, true_implies, and_true, true_and, if_true, if_false, Bool.false_eq_true, q_229, a_nw, n10, R108 hm hr (by omega) b1 ho, e]
    exact kk
  · rw [em] at kk
    simp (disch := omega) only [K141, ai_c1i, ai_c1n, ai_c1r, e_al0, e_an0, e_const, e_cv3, e_goto, e_il1, e_il2, e_reti, e_z0, Option.toList_some, Option.toList_none, List.cons_append, List.nil_append, List.append_nil, List.length_cons, List.length_nil, Nat.reduceAdd, Nat.reduceLeDiff, Nat.zero_le, true_and, and_true, and_self, true_implies, forall_const, ai_rvs, ai_rv0, ai_b_0, Classical.not_not, not_true_eq_false, false_implies, not_false_eq_true, true_implies, and_true, true_and, if_true, if_false, Bool.false_eq_true, q_229, a_nw]
    exact kk
end RREAD
