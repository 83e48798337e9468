/-! the reference takes a market's orders out, pays back -/
section RVOID
variable {I : Nat → Nat → Int32} {J : Nat → Int32} {M : Nat → Nat → Nat} {S : St} {m k : Nat} {d : Nat} {Q : Option Value → ai_H → Prop}
theorem sr_v {v : Int32} {a j : Nat} (h : a ≠ 230) : ai_u (sr I J) a j v = sr (ai_u I a j v) J := by
  funext b i
  unfold ai_u sr
  by_cases e : b = 230
  · subst e
    simp [Ne.symm h]
  · simp [e]
theorem r132_l {J0 : Nat → Int32} {os0 : List Od} {x : Int32} (hm : RM M) (kk : ∀ J', (∀ j, j < 270 ∨ 366 ≤ j → j ≠ 3 → J' j = J0 j) → J' 3 = nI (os0.filter (fun o => decide (¬ o.2.2.1 = x))).length → (∀ (i : Nat) (o : Od), (os0.filter (fun o => decide (¬ o.2.2.1 = x)))[i]? = some o → ∀ j, j < 6 → J' (270 + 6 * i + j) = o_f o j) → Q none (LK, sr I J', M)) :
    ∀ (k : Nat) (A B : List Od), A.length = k → A.filter (fun o => decide (¬ o.2.2.1 = x)) ++ B = os0.filter (fun o => decide (¬ o.2.2.1 = x)) → ∀ J, (∀ j, j < 270 ∨ 366 ≤ j → j ≠ 3 → J j = J0 j) → J 3 = nI (A ++ B).length → RO J (A ++ B) (A ++ B) → Ev (d + 2) X0 132 9 [.ref 229, .int x, .int (nI k - nI 1)] [] (LK, sr I J, M) Q
  | 0, A, B, hk, he, J, h0, h3, hr => by
    obtain rfl : A = [] := List.length_eq_zero_iff.mp hk
    rw [List.filter_nil, List.nil_append] at he
    rw [List.nil_append] at h3 hr
    subst he
    rw [H132_9]
    simp (disch := omega) only [K132, ai_c1i, ai_c1n, ai_c1r, e_al0, e_an0, e_b0, e_b1, e_c1, e_const, e_cs1, e_cv2, e_getR, e_goto, e_iald, e_ii2, e_il1, e_il2, e_is2, e_ret, e_z2, Option.toList_some, Option.toList_none, List.cons_append, List.nil_append, List.append_nil, List.length_cons, List.length_nil, Nat.reduceAdd, Nat.reduceLeDiff, Nat.zero_le, true_and, and_true, and_self, true_implies, forall_const, ai_rvs, ai_rv0, ai_b_0, Classical.not_not, not_true_eq_false, false_implies, not_false_eq_true, true_implies, and_true, true_and, if_true, if_false, Bool.false_eq_true, nIneg]
    exact kk J h0 h3 hr.2.2.2
  | k + 1, A, B, hk, he, J, h0, h3, hr => by
    obtain ⟨A', o, rfl⟩ : ∃ A' o, A = A' ++ [o] := ⟨A.dropLast, A.getLast (by intro hn; rw [hn] at hk; cases hk), (List.dropLast_concat_getLast _).symm⟩
    have hk' : A'.length = k := by simpa using hk
    have hlen : (A' ++ [o] ++ B).length = k + 1 + B.length := by simp; omega
    obtain ⟨-, l2⟩ := hr.len
    have ho : (A' ++ [o] ++ B)[k]? = some o := by rw [List.append_assoc, List.getElem?_append_right (by omega), hk', Nat.sub_self]; rfl
    have e2 := (hr.f ho).2.2.1
    have em : nI k + (-1) = nI k - nI 1 := by rw [Int32.sub_eq_add_neg]; rfl
    rw [H132_9]
    simp (disch := omega) only [K132, ai_c1i, ai_c1n, ai_c1r, e_al0, e_an0, e_b0, e_b1, e_c1, e_const, e_cs1, e_cv2, e_getR, e_goto, e_iald, e_ii2, e_il1, e_il2, e_is2, e_ret, e_z2, Option.toList_some, Option.toList_none, List.cons_append, List.nil_append, List.append_nil, List.length_cons, List.length_nil, Nat.reduceAdd, Nat.reduceLeDiff, Nat.zero_le, true_and, and_true, and_self, true_implies, forall_const, ai_rvs, ai_rv0, ai_b_0, Classical.not_not, not_true_eq_false, false_implies, not_false_eq_true, true_implies, and_true, true_and, if_true, if_false, Bool.false_eq_true, q_229, a_nw, nIm1, nIlt, hm.1, c99, nIm, nIa, nIc, sr_r, e2]
    refine ⟨fun g => absurd g (by omega), fun _ => ⟨fun g1 => ?_, fun g1 => ?_⟩⟩
    · rw [em]
      refine r132_l hm kk k A' (o :: B) hk' ?_ J h0 ?_ ?_
      · rw [List.filter_append] at he
        rw [← he]
        simp [g1]
      · rw [show A' ++ o :: B = A' ++ [o] ++ B by simp]
        exact h3
      · rw [show A' ++ o :: B = A' ++ [o] ++ B by simp]
        exact hr
    · refine r125 hm hr h3 (by omega) fun J' a1 a2 a3 => ?_
      have e1 : (A' ++ [o] ++ B).eraseIdx k = A' ++ B := by
        rw [List.append_assoc, List.eraseIdx_append_of_length_le (by omega), hk', Nat.sub_self]
        rfl
      rw [e1] at a3
      simp (disch := omega) only [K132, ai_c1i, ai_c1n, ai_c1r, e_al0, e_an0, e_b0, e_b1, e_c1, e_const, e_cs1, e_cv2, e_getR, e_goto, e_iald, e_ii2, e_il1, e_il2, e_is2, e_ret, e_z2, Option.toList_some, Option.toList_none, List.cons_append, List.nil_append, List.append_nil, List.length_cons, List.length_nil, Nat.reduceAdd, Nat.reduceLeDiff, Nat.zero_le, true_and, and_true, and_self, true_implies, forall_const, ai_rvs, ai_rv0, ai_b_0, Classical.not_not, not_true_eq_false, false_implies, not_false_eq_true, true_implies, and_true, true_and, if_true, if_false, Bool.false_eq_true]
      rw [em]
      have hsub : List.Sublist (A' ++ B) (A' ++ [o] ++ B) := by
        rw [← e1]
        exact List.eraseIdx_sublist _ _
      have hl2 : (A' ++ B).length = (A' ++ [o] ++ B).length - 1 := by simp
      refine r132_l hm kk k A' B hk' ?_ J' (fun j hj hj3 => (a1 j hj hj3).trans (h0 j hj hj3)) (by rw [hl2]; exact a2) ⟨by have := hr.1; omega, List.Perm.refl _, hr.2.2.1.sublist hsub, a3⟩
      rw [List.filter_append] at he
      rw [← he]
      simp [g1]
theorem r132 (hm : RM M) (hj : RJ J S k) (h3 : S.1 3 = nI S.2.1.length) (kk : ∀ J', RJ J' (ug S.1 3 (nI (fl m S.2.1).length), fl m S.2.1, S.2.2) k → Q none (LK, sr I J', M)) : Cl (d + 2) 132 [.ref 229, .int (nI m)] (LK, sr I J, M) Q := by
  obtain ⟨r1, r2, r3, ⟨l1, os, o1, o2, o3⟩, r5⟩ := id hj
  have e3 : J 3 = nI os.length := by rw [r3 3 (by omega) (by omega), h3, o1.length_eq]
  have hp : (os.filter (fun o => decide (¬ o.2.2.1 = nI m))).Perm (fl m S.2.1) := o1.filter _
  simp (disch := omega) only [E132, K132, ai_c1i, ai_c1n, ai_c1r, e_al0, e_an0, e_b0, e_b1, e_c1, e_const, e_cs1, e_cv2, e_getR, e_goto, e_iald, e_ii2, e_il1, e_il2, e_is2, e_ret, e_z2, Option.toList_some, Option.toList_none, List.cons_append, List.nil_append, List.append_nil, List.length_cons, List.length_nil, Nat.reduceAdd, Nat.reduceLeDiff, Nat.zero_le, true_and, and_true, and_self, true_implies, forall_const, ai_rvs, ai_rv0, ai_b_0, Classical.not_not, not_true_eq_false, false_implies, not_false_eq_true, true_implies, and_true, true_and, if_true, if_false, Bool.false_eq_true, q_229, a_nw, hm.1, nIc, sr_r, e3]
  refine r132_l (J0 := J) (os0 := os) (x := nI m) hm (fun J' a1 a2 a3 => kk J' ?_) os.length os [] rfl (List.append_nil _) J (fun j _ _ => rfl) (by rw [List.append_nil]; exact e3) ?_
  · refine hj.ord a1 (by rw [a2, hp.length_eq]) ?_ hp (o2.sublist List.filter_sublist) a3
    exact Nat.le_trans (List.length_filter_le _ _) l1
  · rw [List.append_nil]
    exact ⟨by rw [o1.length_eq]; exact l1, List.Perm.refl _, o2, o3⟩
theorem mv_p_ug {g : Nat → Int32} {j : Nat} {v : Int32} (h1 : ∀ t, t < 6 → j ≠ 6 + t ∧ j ≠ 49 + 43 * m + t) (h2 : j ≠ 18 + 43 * m) : ∀ i, i ≤ 6 → mv_p (ug g j v) m i = ug (mv_p g m i) j v
  | 0, _ => rfl
  | i + 1, hi => by
    rw [mv_p, mv_p, mv_p_ug h1 h2 i (by omega)]
    obtain ⟨a1, a2⟩ := h1 i (by omega)
    rw [ug_n (Ne.symm a1), ug_n (Ne.symm a2), ug_n (Ne.symm h2), ug_comm a1, ug_comm h2]
theorem r133_p {why : Int32} (hm : RM M) (hmk : m < k) (kk : ∀ J', RJ J' (mv_p S.1 m 6, S.2) k → Ev (d + 2) X0 133 99 [.ref 229, .int (nI m), .int why, .int (nI 0)] [] (LK, sr I J', M) Q) :
    ∀ r i, r + i = 6 → ∀ J, RJ J (mv_p S.1 m i, S.2) k → Ev (d + 2) X0 133 40 [.ref 229, .int (nI m), .int why, .int (nI i)] [] (LK, sr I J, M) Q
  | 0, i, hi, J, hj => by
    obtain rfl : i = 6 := by omega
    have k3 := kk J hj
    rw [H133_40]
    simp (disch := omega) only [K133_0, K133_1, ai_c1i, ai_c1n, ai_c1r, e_al0, e_an0, e_b0, e_b1, e_c1, e_c3, e_const, e_cs1, e_cv2, e_cv3, e_dup2, e_dupi, e_dupr, e_getI, e_getR, e_goto, e_iald, e_iast, e_ii3, e_il1, e_il2, e_il3, e_is3, e_putI, e_ret, Option.toList_some, Option.toList_none, List.cons_append, List.nil_append, List.append_nil, List.length_cons, List.length_nil, Nat.reduceAdd, Nat.reduceLeDiff, Nat.zero_le, true_and, and_true, and_self, true_implies, forall_const, ai_rvs, ai_rv0, ai_b_0, Classical.not_not, not_true_eq_false, false_implies, not_false_eq_true, true_implies, and_true, true_and, if_true, if_false, Bool.false_eq_true, q_229, a_nw, Int32.le_refl]
    exact k3
  | r + 1, i, hi, J, hj => by
    have hk6 := hj.2.1
    have rd := hj.2.2.1
    have ih := r133_p (why := why) hm hmk kk r (i + 1) (by omega)
    have eb : J (6 + i) = mv_p S.1 m i (6 + i) := rd _ (by omega) (by omega)
    have ep : J (49 + 43 * m + i) = mv_p S.1 m i (49 + 43 * m + i) := rd _ (by omega) (by omega)
    have ea : J (18 + 43 * m) = mv_p S.1 m i (18 + 43 * m) := rd _ (by omega) (by omega)
    have x1 : 12 + 43 * m + (37 + i) = 49 + 43 * m + i := by omega
    have x2 : 12 + 43 * m + 6 = 18 + 43 * m := by omega
    rw [mv_p] at ih
    have h2 := ih _ ((hj.upd (j := 6 + i) (by omega) (by omega) (by omega) (by omega) (mv_p S.1 m i (6 + i) + mv_p S.1 m i (49 + 43 * m + i))).upd (j := 18 + 43 * m) (by omega) (by omega) (by omega) (by omega) (mv_p S.1 m i (18 + 43 * m) - mv_p S.1 m i (49 + 43 * m + i)))
    rw [H133_40]
    simp (disch := omega) only [K133_0, K133_1, ai_c1i, ai_c1n, ai_c1r, e_al0, e_an0, e_b0, e_b1, e_c1, e_c3, e_const, e_cs1, e_cv2, e_cv3, e_dup2, e_dupi, e_dupr, e_getI, e_getR, e_goto, e_iald, e_iast, e_ii3, e_il1, e_il2, e_il3, e_is3, e_putI, e_ret, Option.toList_some, Option.toList_none, List.cons_append, List.nil_append, List.append_nil, List.length_cons, List.length_nil, Nat.reduceAdd, Nat.reduceLeDiff, Nat.zero_le, true_and, and_true, and_self, true_implies, forall_const, ai_rvs, ai_rv0, ai_b_0, Classical.not_not, not_true_eq_false, false_implies, not_false_eq_true, true_implies, and_true, true_and, if_true, if_false, Bool.false_eq_true, q_229, a_nw, nIle, hm.1, nIa, nIc, nIm, c98, r100 hm, x1, x2, sr_r, sr_u, ug_n, eb, ep, ea]
    exact ⟨fun g => absurd g (by omega), fun _ => h2⟩
/-- the first half of voids -/
theorem r133_h {why : Int32} (hm : RM M) (hmk : m < k) (hj : RJ J S k) (h3 : S.1 3 = nI S.2.1.length) (kk : ∀ J', RJ J' (mv S m why) k → Ev (d + 3) X0 133 99 [.ref 229, .int (nI m), .int why, .int (nI 0)] [] (LK, sr (ai_u I 229 6 (I 229 6 + nI 1)) J', M) Q) : Cl (d + 3) 133 [.ref 229, .int (nI m), .int why] (LK, sr I J, M) Q := by
  have hk6 := hj.2.1
  simp (disch := omega) only [E133, K133_0, K133_1, ai_c1i, ai_c1n, ai_c1r, e_al0, e_an0, e_b0, e_b1, e_c1, e_c3, e_const, e_cs1, e_cv2, e_cv3, e_dup2, e_dupi, e_dupr, e_getI, e_getR, e_goto, e_iald, e_iast, e_ii3, e_il1, e_il2, e_il3, e_is3, e_putI, e_ret, Option.toList_some, Option.toList_none, List.cons_append, List.nil_append, List.append_nil, List.length_cons, List.length_nil, Nat.reduceAdd, Nat.reduceLeDiff, Nat.zero_le, true_and, and_true, and_self, true_implies, forall_const, ai_rvs, ai_rv0, ai_b_0, Classical.not_not, not_true_eq_false, false_implies, not_false_eq_true, true_implies, and_true, true_and, if_true, if_false, Bool.false_eq_true, q_229, a_nw]
  refine r132 hm hj h3 fun J1 hj1 => ?_
  have h2 := (hj1.upd (j := 12 + 43 * m) (by omega) (by omega) (by omega) (by omega) (nI 3)).upd (j := 20 + 43 * m) (by omega) (by omega) (by omega) (by omega) why
  have x2 : 12 + 43 * m + 8 = 20 + 43 * m := by omega
  have e6 : sr I J1 229 6 = I 229 6 := by rw [sr_o (by omega)]
  simp (disch := omega) only [K133_0, K133_1, ai_c1i, ai_c1n, ai_c1r, e_al0, e_an0, e_b0, e_b1, e_c1, e_c3, e_const, e_cs1, e_cv2, e_cv3, e_dup2, e_dupi, e_dupr, e_getI, e_getR, e_goto, e_iald, e_iast, e_ii3, e_il1, e_il2, e_il3, e_is3, e_putI, e_ret, Option.toList_some, Option.toList_none, List.cons_append, List.nil_append, List.append_nil, List.length_cons, List.length_nil, Nat.reduceAdd, Nat.reduceLeDiff, Nat.zero_le, true_and, and_true, and_self, true_implies, forall_const, ai_rvs, ai_rv0, ai_b_0, Classical.not_not, not_true_eq_false, false_implies, not_false_eq_true, true_implies, and_true, true_and, if_true, if_false, Bool.false_eq_true, q_229, a_nw, e6, sr_v, hm.1, c98, nIm, nIa, nIc, x2, sr_u]
  refine ⟨Or.inl rfl, r133_p (d := d + 1) hm hmk (S := (ug (ug (ug S.1 3 (nI (fl m S.2.1).length)) (12 + 43 * m) (nI 3)) (20 + 43 * m) why, fl m S.2.1, S.2.2)) (fun J' hj' => kk J' ?_) 6 0 (by omega) _ h2⟩
  unfold mv
  dsimp only at hj'
  rw [mv_p_ug (fun t ht => by omega) (by omega) 6 (by omega), mv_p_ug (fun t ht => by omega) (by omega) 6 (by omega)] at hj'
  exact hj'
end RVOID
