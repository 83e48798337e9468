/-! the reference counts; void reasons; shares for a price -/
section RCNT
variable {I : Nat → Nat → Int32} {J : Nat → Int32} {M : Nat → Nat → Nat} {S : St} {m n b k T : Nat} {s : Nat → Nat} {d : Nat} {Q : Option Value → ai_H → Prop}
theorem r151_1 {w : Int32} (hm : RM M) (hj : RJ J S k) (kk : Q (some (.int (s_op S.1 k))) (LK, sr I J, M)) :
    ∀ r i, r + i = k → Ev (d + 2) X0 151 57 [.ref 229, .int w, .int (s_op S.1 i), .int (nI i)] [] (LK, sr I J, M) Q
  | 0, i, hi => by
    obtain rfl : i = k := by omega
    have hk6 := hj.2.1
    have e1 : J 1 = nI i := by rw [hj.2.2.1 1 (by omega) (by omega)]; exact hj.1
    rw [H151_57]
    simp (disch := omega) only [K151_0, K151_1, ai_c1i, ai_c1n, ai_c1r, e_al0, e_an0, e_b0, e_c3, e_const, e_cv3, e_getI, e_getR, e_goto, e_iald, e_ii2, e_ii3, e_il1, e_il2, e_il3, e_is2, e_is3, e_reti, e_sw, e_z1, Option.toList_some, Option.toList_none, List.cons_append, List.nil_append, List.append_nil, List.length_cons, List.length_nil, Nat.reduceAdd, Nat.reduceLeDiff, Nat.zero_le, true_and, and_true, and_self, true_implies, forall_const, ai_rvs, ai_rv0, ai_b_0, Classical.not_not, not_true_eq_false, false_implies, not_false_eq_true, true_implies, and_true, true_and, if_true, if_false, Bool.false_eq_true, q_229, a_nw, hm.1, nIc, sr_r, e1, Int32.le_refl]
    exact kk
  | r + 1, i, hi => by
    have hk6 := hj.2.1
    have rd := hj.2.2.1
    have e1 : J 1 = nI k := by rw [rd 1 (by omega) (by omega)]; exact hj.1
    have e0 : J (12 + 43 * i + 0) = S.1 (12 + 43 * i) := rd _ (by omega) (by omega)
    have ih := r151_1 (w := w) hm hj kk r (i + 1) (by omega)
    have s1 : s_op S.1 (i + 1) = s_op S.1 i + (if S.1 (12 + 43 * i) = nI 0 then nI 1 else nI 0) := rfl
    rw [s1] at ih
    rw [H151_57]
    by_cases g : S.1 (12 + 43 * i) = nI 0
    · rw [if_pos g] at ih
      simp (disch := omega) only [K151_0, K151_1, ai_c1i, ai_c1n, ai_c1r, e_al0, e_an0, e_b0, e_c3, e_const, e_cv3, e_getI, e_getR, e_goto, e_iald, e_ii2, e_ii3, e_il1, e_il2, e_il3, e_is2, e_is3, e_reti, e_sw, e_z1, Option.toList_some, Option.toList_none, List.cons_append, List.nil_append, List.append_nil, List.length_cons, List.length_nil, Nat.reduceAdd, Nat.reduceLeDiff, Nat.zero_le, true_and, and_true, and_self, true_implies, forall_const, ai_rvs, ai_rv0, ai_b_0, Classical.not_not, not_true_eq_false, false_implies, not_false_eq_true, true_implies, and_true, true_and, if_true, if_false, Bool.false_eq_true, q_229, a_nw, hm.1, nIc, sr_r, e1, nIle, r100 hm, e0, g, nIa]
      exact ⟨fun g => absurd g (by omega), fun _ => ih⟩
    · rw [if_neg g, i_add0] at ih
      simp (disch := omega) only [K151_0, K151_1, ai_c1i, ai_c1n, ai_c1r, e_al0, e_an0, e_b0, e_c3, e_const, e_cv3, e_getI, e_getR, e_goto, e_iald, e_ii2, e_ii3, e_il1, e_il2, e_il3, e_is2, e_is3, e_reti, e_sw, e_z1, Option.toList_some, Option.toList_none, List.cons_append, List.nil_append, List.append_nil, List.length_cons, List.length_nil, Nat.reduceAdd, Nat.reduceLeDiff, Nat.zero_le, true_and, and_true, and_self, true_implies, forall_const, ai_rvs, ai_rv0, ai_b_0, Classical.not_not, not_true_eq_false, false_implies, not_false_eq_true, true_implies, and_true, true_and, if_true, if_false, Bool.false_eq_true, q_229, a_nw, hm.1, nIc, sr_r, e1, nIle, r100 hm, e0, g, nIa]
      exact ⟨fun g => absurd g (by omega), fun _ => ih⟩
theorem r151_6 {w : Int32} (hm : RM M) (hj : RJ J S k) (kk : Q (some (.int (bx_sum (fun t => S.1 (6 + t)) 6))) (LK, sr I J, M)) :
    ∀ r i, r + i = 6 → Ev (d + 2) X0 151 115 [.ref 229, .int w, .int (bx_sum (fun t => S.1 (6 + t)) i), .int (nI i)] [] (LK, sr I J, M) Q
  | 0, i, hi => by
    obtain rfl : i = 6 := by omega
    rw [H151_115]
    simp (disch := omega) only [K151_0, K151_1, ai_c1i, ai_c1n, ai_c1r, e_al0, e_an0, e_b0, e_c3, e_const, e_cv3, e_getI, e_getR, e_goto, e_iald, e_ii2, e_ii3, e_il1, e_il2, e_il3, e_is2, e_is3, e_reti, e_sw, e_z1, Option.toList_some, Option.toList_none, List.cons_append, List.nil_append, List.append_nil, List.length_cons, List.length_nil, Nat.reduceAdd, Nat.reduceLeDiff, Nat.zero_le, true_and, and_true, and_self, true_implies, forall_const, ai_rvs, ai_rv0, ai_b_0, Classical.not_not, not_true_eq_false, false_implies, not_false_eq_true, true_implies, and_true, true_and, if_true, if_false, Bool.false_eq_true, q_229, a_nw, Int32.le_refl]
    exact kk
  | r + 1, i, hi => by
    have hk6 := hj.2.1
    have e1 : J (6 + i) = S.1 (6 + i) := hj.2.2.1 _ (by omega) (by omega)
    have ih := r151_6 (w := w) hm hj kk r (i + 1) (by omega)
    rw [bx_s] at ih
    rw [H151_115]
    simp (disch := omega) only [K151_0, K151_1, ai_c1i, ai_c1n, ai_c1r, e_al0, e_an0, e_b0, e_c3, e_const, e_cv3, e_getI, e_getR, e_goto, e_iald, e_ii2, e_ii3, e_il1, e_il2, e_il3, e_is2, e_is3, e_reti, e_sw, e_z1, Option.toList_some, Option.toList_none, List.cons_append, List.nil_append, List.append_nil, List.length_cons, List.length_nil, Nat.reduceAdd, Nat.reduceLeDiff, Nat.zero_le, true_and, and_true, and_self, true_implies, forall_const, ai_rvs, ai_rv0, ai_b_0, Classical.not_not, not_true_eq_false, false_implies, not_false_eq_true, true_implies, and_true, true_and, if_true, if_false, Bool.false_eq_true, q_229, a_nw, hm.1, nIc, sr_r, nIle, nIa, e1]
    exact ⟨fun g => absurd g (by omega), fun _ => ih⟩
theorem r151_7 {w : Int32} (hm : RM M) (hj : RJ J S k) (kk : Q (some (.int (bx_sum (fun m => S.1 (18 + 43 * m)) k))) (LK, sr I J, M)) :
    ∀ r i, r + i = k → Ev (d + 2) X0 151 143 [.ref 229, .int w, .int (bx_sum (fun m => S.1 (18 + 43 * m)) i), .int (nI i)] [] (LK, sr I J, M) Q
  | 0, i, hi => by
    obtain rfl : i = k := by omega
    have hk6 := hj.2.1
    have e1 : J 1 = nI i := by rw [hj.2.2.1 1 (by omega) (by omega)]; exact hj.1
    rw [H151_143]
    simp (disch := omega) only [K151_0, K151_1, ai_c1i, ai_c1n, ai_c1r, e_al0, e_an0, e_b0, e_c3, e_const, e_cv3, e_getI, e_getR, e_goto, e_iald, e_ii2, e_ii3, e_il1, e_il2, e_il3, e_is2, e_is3, e_reti, e_sw, e_z1, Option.toList_some, Option.toList_none, List.cons_append, List.nil_append, List.append_nil, List.length_cons, List.length_nil, Nat.reduceAdd, Nat.reduceLeDiff, Nat.zero_le, true_and, and_true, and_self, true_implies, forall_const, ai_rvs, ai_rv0, ai_b_0, Classical.not_not, not_true_eq_false, false_implies, not_false_eq_true, true_implies, and_true, true_and, if_true, if_false, Bool.false_eq_true, q_229, a_nw, hm.1, nIc, sr_r, e1, Int32.le_refl]
    exact kk
  | r + 1, i, hi => by
    have hk6 := hj.2.1
    have rd := hj.2.2.1
    have e1 : J 1 = nI k := by rw [rd 1 (by omega) (by omega)]; exact hj.1
    have e0 : J (12 + 43 * i + 6) = S.1 (18 + 43 * i) := by rw [rd _ (by omega) (by omega), p_6]
    have ih := r151_7 (w := w) hm hj kk r (i + 1) (by omega)
    rw [bx_s] at ih
    rw [H151_143]
    simp (disch := omega) only [K151_0, K151_1, ai_c1i, ai_c1n, ai_c1r, e_al0, e_an0, e_b0, e_c3, e_const, e_cv3, e_getI, e_getR, e_goto, e_iald, e_ii2, e_ii3, e_il1, e_il2, e_il3, e_is2, e_is3, e_reti, e_sw, e_z1, Option.toList_some, Option.toList_none, List.cons_append, List.nil_append, List.append_nil, List.length_cons, List.length_nil, Nat.reduceAdd, Nat.reduceLeDiff, Nat.zero_le, true_and, and_true, and_self, true_implies, forall_const, ai_rvs, ai_rv0, ai_b_0, Classical.not_not, not_true_eq_false, false_implies, not_false_eq_true, true_implies, and_true, true_and, if_true, if_false, Bool.false_eq_true, q_229, a_nw, hm.1, nIc, sr_r, e1, nIle, r100 hm, e0, nIa]
    exact ⟨fun g => absurd g (by omega), fun _ => ih⟩
theorem r151 (hm : RM M) (hj : RJ J S k) (h3 : S.1 3 = nI S.2.1.length) {w len : Int32} (hl : I 229 4 = len) (kk : Q (some (.int (p_cnt S len w))) (LK, sr I J, M)) : Cl (d + 2) 151 [.ref 229, .int w] (LK, sr I J, M) Q := by
  have hk6 := hj.2.1
  have rd := hj.2.2.1
  have r0 : J 0 = S.1 0 := rd _ (by omega) (by omega)
  have r1 : J 1 = S.1 1 := rd _ (by omega) (by omega)
  have r3 : J 3 = nI S.2.1.length := (rd _ (by omega) (by omega)).trans h3
  have r4 : J 4 = S.1 4 := rd _ (by omega) (by omega)
  have e4 : sr I J 229 4 = len := by rw [sr_o (by omega)]; exact hl
  unfold p_cnt at kk
  rw [hj.1, nIc (by omega)] at kk
  rw [hj.1] at r1
  rcases sw_cases w 8 with ⟨j, hj8, rfl⟩ | hx
  · rcases (by omega : (j = 0 ∨ j = 2 ∨ j = 3 ∨ j = 4 ∨ j = 5) ∨ j = 1 ∨ j = 6 ∨ j = 7) with (rfl | rfl | rfl | rfl | rfl) | rfl | rfl | rfl
    any_goals
      simp (disch := omega) only [nIeq, Nat.reduceEqDiff, Nat.one_ne_zero, Nat.zero_ne_one, if_true, if_false] at kk
      simp (disch := omega) only [E151, K151_0, K151_1, ai_c1i, ai_c1n, ai_c1r, e_al0, e_an0, e_b0, e_c3, e_const, e_cv3, e_getI, e_getR, e_goto, e_iald, e_ii2, e_ii3, e_il1, e_il2, e_il3, e_is2, e_is3, e_reti, e_sw, e_z1, Option.toList_some, Option.toList_none, List.cons_append, List.nil_append, List.append_nil, List.length_cons, List.length_nil, Nat.reduceAdd, Nat.reduceLeDiff, Nat.zero_le, true_and, and_true, and_self, true_implies, forall_const, ai_rvs, ai_rv0, ai_b_0, Classical.not_not, not_true_eq_false, false_implies, not_false_eq_true, true_implies, and_true, true_and, if_true, if_false, Bool.false_eq_true, q_229, a_nw, sw_in, List.getElem?_cons_zero, List.getElem?_cons_succ, Option.getD_some, hm.1, nIc, sr_r, r0, r1, r3, r4, e4]
      exact kk
    · simp (disch := omega) only [nIeq, Nat.reduceEqDiff, Nat.one_ne_zero, Nat.zero_ne_one, if_true, if_false] at kk
      simp (disch := omega) only [E151, K151_0, K151_1, ai_c1i, ai_c1n, ai_c1r, e_al0, e_an0, e_b0, e_c3, e_const, e_cv3, e_getI, e_getR, e_goto, e_iald, e_ii2, e_ii3, e_il1, e_il2, e_il3, e_is2, e_is3, e_reti, e_sw, e_z1, Option.toList_some, Option.toList_none, List.cons_append, List.nil_append, List.append_nil, List.length_cons, List.length_nil, Nat.reduceAdd, Nat.reduceLeDiff, Nat.zero_le, true_and, and_true, and_self, true_implies, forall_const, ai_rvs, ai_rv0, ai_b_0, Classical.not_not, not_true_eq_false, false_implies, not_false_eq_true, true_implies, and_true, true_and, if_true, if_false, Bool.false_eq_true, q_229, a_nw, sw_in, List.getElem?_cons_zero, List.getElem?_cons_succ, Option.getD_some]
      exact r151_1 hm hj kk k 0 (by omega)
    · simp (disch := omega) only [nIeq, Nat.reduceEqDiff, Nat.one_ne_zero, Nat.zero_ne_one, if_true, if_false] at kk
      simp (disch := omega) only [E151, K151_0, K151_1, ai_c1i, ai_c1n, ai_c1r, e_al0, e_an0, e_b0, e_c3, e_const, e_cv3, e_getI, e_getR, e_goto, e_iald, e_ii2, e_ii3, e_il1, e_il2, e_il3, e_is2, e_is3, e_reti, e_sw, e_z1, Option.toList_some, Option.toList_none, List.cons_append, List.nil_append, List.append_nil, List.length_cons, List.length_nil, Nat.reduceAdd, Nat.reduceLeDiff, Nat.zero_le, true_and, and_true, and_self, true_implies, forall_const, ai_rvs, ai_rv0, ai_b_0, Classical.not_not, not_true_eq_false, false_implies, not_false_eq_true, true_implies, and_true, true_and, if_true, if_false, Bool.false_eq_true, q_229, a_nw, sw_in, List.getElem?_cons_zero, List.getElem?_cons_succ, Option.getD_some]
      exact r151_6 hm hj kk 6 0 (by omega)
    · simp (disch := omega) only [nIeq, Nat.reduceEqDiff, Nat.one_ne_zero, Nat.zero_ne_one, if_true, if_false] at kk
      simp (disch := omega) only [E151, K151_0, K151_1, ai_c1i, ai_c1n, ai_c1r, e_al0, e_an0, e_b0, e_c3, e_const, e_cv3, e_getI, e_getR, e_goto, e_iald, e_ii2, e_ii3, e_il1, e_il2, e_il3, e_is2, e_is3, e_reti, e_sw, e_z1, Option.toList_some, Option.toList_none, List.cons_append, List.nil_append, List.append_nil, List.length_cons, List.length_nil, Nat.reduceAdd, Nat.reduceLeDiff, Nat.zero_le, true_and, and_true, and_self, true_implies, forall_const, ai_rvs, ai_rv0, ai_b_0, Classical.not_not, not_true_eq_false, false_implies, not_false_eq_true, true_implies, and_true, true_and, if_true, if_false, Bool.false_eq_true, q_229, a_nw, sw_in, List.getElem?_cons_zero, List.getElem?_cons_succ, Option.getD_some]
      exact r151_7 hm hj kk k 0 (by omega)
  · have e : ∀ j, j < 8 → (w = nI j) = False := fun j hj => eq_false (hx j hj)
    simp (disch := omega) only [e, if_false] at kk
    simp (disch := omega) only [E151, K151_0, K151_1, ai_c1i, ai_c1n, ai_c1r, e_al0, e_an0, e_b0, e_c3, e_const, e_cv3, e_getI, e_getR, e_goto, e_iald, e_ii2, e_ii3, e_il1, e_il2, e_il3, e_is2, e_is3, e_reti, e_sw, e_z1, Option.toList_some, Option.toList_none, List.cons_append, List.nil_append, List.append_nil, List.length_cons, List.length_nil, Nat.reduceAdd, Nat.reduceLeDiff, Nat.zero_le, true_and, and_true, and_self, true_implies, forall_const, ai_rvs, ai_rv0, ai_b_0, Classical.not_not, not_true_eq_false, false_implies, not_false_eq_true, true_implies, and_true, true_and, if_true, if_false, Bool.false_eq_true, q_229, a_nw, sw_out (n := 8) (a := 171) (tb := [48, 55, 87, 94, 101, 108, 113, 141]) rfl hx (by omega)]
    exact kk
/-- a void market that followed its condition has a void one -/
def VR (g : Nat → Int32) (k : Nat) : Prop := ∀ m, m < k → g (12 + 43 * m) = nI 3 → g (20 + 43 * m) = nI 3 → ∃ c, c < m ∧ g (16 + 43 * m) = nI c ∧ g (12 + 43 * c) = nI 3
theorem r143_l {l : Int32} {x : Value} (hm : RM M) (hj : RJ J S k) (hv : VB S.1 k) (hvr : VR S.1 k) : ∀ r p m, m < r → m < k → S.1 (12 + 43 * m) = nI 3 → nI p ≤ l → p + r < 1000 → Q (some (.int (vr S.1 l r p (nI m)))) (LK, sr I J, M) → Ev (d + 2) X0 143 30 [.ref 229, x, .int l, .int (nI m), .int (nI p)] [] (LK, sr I J, M) Q
  | 0, _, m, h, _, _, _, _, _ => absurd h (by omega)
  | r + 1, p, m, hmr, hmk, h3, hl, hp, kk => by
    have hk6 := hj.2.1
    have rd := hj.2.2.1
    have e8 : J (12 + 43 * m + 8) = S.1 (20 + 43 * m) := by rw [rd _ (by omega) (by omega), show 12 + 43 * m + 8 = 20 + 43 * m by omega]
    have e4 : J (12 + 43 * m + 4) = S.1 (16 + 43 * m) := by rw [rd _ (by omega) (by omega), p_4]
    rw [vr, mAt_s hv hmk] at kk
    dsimp only at kk
    rw [if_pos h3] at kk
    rw [H143_30]
    by_cases g : nI p = l
    · rw [if_pos g] at kk
      subst g
      simp (disch := omega) only [K143, ai_c1i, ai_c1n, ai_c1r, e_al0, e_an0, e_c0, e_c1, e_c3, e_const, e_cv2, e_cv3, e_goto, e_ii4, e_il1, e_il2, e_il3, e_il4, e_is3, e_is4, e_reti, e_z0, e_z3, Option.toList_some, Option.toList_none, List.cons_append, List.nil_append, List.append_nil, List.length_cons, List.length_nil, Nat.reduceAdd, Nat.reduceLeDiff, Nat.zero_le, true_and, and_true, and_self, true_implies, forall_const, ai_rvs, ai_rv0, ai_b_0, Classical.not_not, not_true_eq_false, false_implies, not_false_eq_true, true_implies, and_true, true_and, if_true, if_false, Bool.false_eq_true, q_229, a_nw, Int32.le_refl, r100 hm, sr_r, e8]
      exact kk
    · rw [if_neg g] at kk
      have hlt : ¬ l ≤ nI p := fun h => g (Int32.le_antisymm hl h)
      by_cases g2 : S.1 (20 + 43 * m) = nI 3
      · rw [if_pos g2] at kk
        obtain ⟨c, hcm, ec, sc⟩ := hvr m hmk h3 g2
        rw [ec] at kk
        simp (disch := omega) only [K143, ai_c1i, ai_c1n, ai_c1r, e_al0, e_an0, e_c0, e_c1, e_c3, e_const, e_cv2, e_cv3, e_goto, e_ii4, e_il1, e_il2, e_il3, e_il4, e_is3, e_is4, e_reti, e_z0, e_z3, Option.toList_some, Option.toList_none, List.cons_append, List.nil_append, List.append_nil, List.length_cons, List.length_nil, Nat.reduceAdd, Nat.reduceLeDiff, Nat.zero_le, true_and, and_true, and_self, true_implies, forall_const, ai_rvs, ai_rv0, ai_b_0, Classical.not_not, not_true_eq_false, false_implies, not_false_eq_true, true_implies, and_true, true_and, if_true, if_false, Bool.false_eq_true, q_229, a_nw, hlt, r100 hm, sr_r, e8, g2, e4, ec, nIa]
        refine r143_l hm hj hv hvr r (p + 1) c (by omega) (by omega) sc ?_ ?_ kk
        · rw [Int32.le_iff_toInt_le, nI_toInt (by omega)] at hl ⊢
          have : ¬ l.toInt ≤ p := fun h => hlt (by rw [Int32.le_iff_toInt_le, nI_toInt (by omega)]; exact h)
          omega
        · omega
      · rw [if_neg g2] at kk
        simp (disch := omega) only [K143, ai_c1i, ai_c1n, ai_c1r, e_al0, e_an0, e_c0, e_c1, e_c3, e_const, e_cv2, e_cv3, e_goto, e_ii4, e_il1, e_il2, e_il3, e_il4, e_is3, e_is4, e_reti, e_z0, e_z3, Option.toList_some, Option.toList_none, List.cons_append, List.nil_append, List.append_nil, List.length_cons, List.length_nil, Nat.reduceAdd, Nat.reduceLeDiff, Nat.zero_le, true_and, and_true, and_self, true_implies, forall_const, ai_rvs, ai_rv0, ai_b_0, Classical.not_not, not_true_eq_false, false_implies, not_false_eq_true, true_implies, and_true, true_and, if_true, if_false, Bool.false_eq_true, q_229, a_nw, hlt, r100 hm, sr_r, e8, g2]
        exact kk
theorem r143 (hm : RM M) (hj : RJ J S k) (hv : VB S.1 k) (hvr : VR S.1 k) {x l : Int32} (kk : Q (some (.int (vr S.1 l 6 0 x))) (LK, sr I J, M)) : Cl (d + 2) 143 [.ref 229, .int x, .int l] (LK, sr I J, M) Q := by
  have hk6 := hj.2.1
  have rd := hj.2.2.1
  have hjr : RJ ((sr I J) 230) S k := hj
  have n10 : (nI 1 = nI 0) = False := eq_false (by decide)
  simp (disch := omega) only [E143, K143, ai_c1i, ai_c1n, ai_c1r, e_al0, e_an0, e_c0, e_c1, e_c3, e_const, e_cv2, e_cv3, e_goto, e_ii4, e_il1, e_il2, e_il3, e_il4, e_is3, e_is4, e_reti, e_z0, e_z3, Option.toList_some, Option.toList_none, List.cons_append, List.nil_append, List.append_nil, List.length_cons, List.length_nil, Nat.reduceAdd, Nat.reduceLeDiff, Nat.zero_le, true_and, and_true, and_self, true_implies, forall_const, ai_rvs, ai_rv0, ai_b_0, Classical.not_not, not_true_eq_false, false_implies, not_false_eq_true, true_implies, and_true, true_and, if_true, if_false, Bool.false_eq_true, q_229, a_nw]
  refine r101 hm hv hjr (fun m hmk ex em => ?_) (fun em => ?_)
  · subst ex
    have r0 : J (12 + 43 * m + 0) = S.1 (12 + 43 * m) := rd _ (by omega) (by omega)
    by_cases g : S.1 (12 + 43 * m) = nI 3
    · by_cases g2 : nI 0 ≤ l
      · simp (disch := omega) only [K143, ai_c1i, ai_c1n, ai_c1r, e_al0, e_an0, e_c0, e_c1, e_c3, e_const, e_cv2, e_cv3, e_goto, e_ii4, e_il1, e_il2, e_il3, e_il4, e_is3, e_is4, e_reti, e_z0, e_z3, Option.toList_some, Option.toList_none, List.cons_append, List.nil_append, List.append_nil, List.length_cons, List.length_nil, Nat.reduceAdd, Nat.reduceLeDiff, Nat.zero_le, true_and, and_true, and_self, true_implies, forall_const, ai_rvs, ai_rv0, ai_b_0, Classical.not_not, not_true_eq_false, false_implies, not_false_eq_true, true_implies, and_true, true_and, if_true, if_false, Bool.false_eq_true, q_229, a_nw, n10, r100 hm, sr_r, r0, g, g2]
        exact r143_l hm hj hv hvr 6 0 m (by omega) hmk g g2 (by omega) kk
      · have hneg : ∀ r p x, p + r < 1000 → vr S.1 l r p x = -1000000001 := fun r => by
          induction r with
          | zero => intro p x _; rfl
          | succ r ih =>
            intro p x hp
            rw [vr]
            cases mAt S.1 x with
            | none => rfl
            | some m =>
              dsimp only
              have hne : ¬ nI p = l := fun h => g2 (by rw [← h]; exact nI_0le p (by omega))
              rw [if_neg hne, ih (p + 1) _ (by omega)]
              split
              · split <;> rfl
              · rfl
        rw [hneg 6 0 _ (by omega)] at kk
        simp (disch := omega) only [K143, ai_c1i, ai_c1n, ai_c1r, e_al0, e_an0, e_c0, e_c1, e_c3, e_const, e_cv2, e_cv3, e_goto, e_ii4, e_il1, e_il2, e_il3, e_il4, e_is3, e_is4, e_reti, e_z0, e_z3, Option.toList_some, Option.toList_none, List.cons_append, List.nil_append, List.append_nil, List.length_cons, List.length_nil, Nat.reduceAdd, Nat.reduceLeDiff, Nat.zero_le, true_and, and_true, and_self, true_implies, forall_const, ai_rvs, ai_rv0, ai_b_0, Classical.not_not, not_true_eq_false, false_implies, not_false_eq_true, true_implies, and_true, true_and, if_true, if_false, Bool.false_eq_true, q_229, a_nw, n10, r100 hm, sr_r, r0, g, g2]
        exact kk
    · rw [vr, em] at kk
      dsimp only at kk
      rw [if_neg g] at kk
      simp (disch := omega) only [K143, ai_c1i, ai_c1n, ai_c1r, e_al0, e_an0, e_c0, e_c1, e_c3, e_const, e_cv2, e_cv3, e_goto, e_ii4, e_il1, e_il2, e_il3, e_il4, e_is3, e_is4, e_reti, e_z0, e_z3, Option.toList_some, Option.toList_none, List.cons_append, List.nil_append, List.append_nil, List.length_cons, List.length_nil, Nat.reduceAdd, Nat.reduceLeDiff, Nat.zero_le, true_and, and_true, and_self, true_implies, forall_const, ai_rvs, ai_rv0, ai_b_0, Classical.not_not, not_true_eq_false, false_implies, not_false_eq_true, true_implies, and_true, true_and, if_true, if_false, Bool.false_eq_true, q_229, a_nw, n10, r100 hm, sr_r, r0, g]
      exact kk
  · rw [vr, em] at kk
    simp (disch := omega) only [K143, ai_c1i, ai_c1n, ai_c1r, e_al0, e_an0, e_c0, e_c1, e_c3, e_const, e_cv2, e_cv3, e_goto, e_ii4, e_il1, e_il2, e_il3, e_il4, e_is3, e_is4, e_reti, e_z0, e_z3, Option.toList_some, Option.toList_none, List.cons_append, List.nil_append, List.append_nil, List.length_cons, List.length_nil, Nat.reduceAdd, Nat.reduceLeDiff, Nat.zero_le, true_and, and_true, and_self, true_implies, forall_const, ai_rvs, ai_rv0, ai_b_0, Classical.not_not, not_true_eq_false, false_implies, not_false_eq_true, true_implies, and_true, true_and, if_true, if_false, Bool.false_eq_true, q_229, a_nw]
    exact kk
/-- the price at so many shares -/
theorem r142_l {o : Nat} {u : Int32} {v : Value} (hm : RM M) (hj : RJ J S k) (hmk : m < k) (h1 : S.1 (14 + 43 * m) = nI n) (n2 : 2 ≤ n) (n4 : n ≤ 4) (h2 : S.1 (13 + 43 * m) = nI b) (b1 : 1 ≤ b) (b2 : b ≤ 60) (h3 : ∀ o, o < n → S.1 (21 + 43 * m + o) = nI (s o) ∧ s o ≤ 400) (ho : o < n) (kk : Q (some (.int (sf (qs S.1 m) n (S.1 (13 + 43 * m)) o u 401 0))) (LK, sr I J, M)) :
    ∀ r e, r + e = 401 → s o + e ≤ 400 → sf (qs S.1 m) n (S.1 (13 + 43 * m)) o u r e = sf (qs S.1 m) n (S.1 (13 + 43 * m)) o u 401 0 → Ev (d + 6) X0 142 46 [.ref 229, .int (nI m), .int (nI o), .int u, .int (nI (21 + 43 * m + o)), .int (nI (s o)), v] [] (LK, sr I (ug J (21 + 43 * m + o) (nI (s o + e))), M) Q
  | 0, e, he, hs, _ => absurd hs (by omega)
  | r + 1, e, he, hs, hsf => by
    have hk6 := hj.2.1
    have rd := hj.2.2.1
    have r0 : RK J m n b s := RK.of hmk hk6 rd h1 n4 h2 b2 h3
    have hr : RK ((sr I (ug J (21 + 43 * m + o) (nI (s o + e)))) 230) m n b (fun j => if j = o then s o + e else s j) := r0.set ho (by omega)
    obtain ⟨q1, q2⟩ := h3 o ho
    have eb : J (21 + 43 * m + o) = nI (s o) := by rw [rd _ (by omega) (by omega)]; exact q1
    have eP : m_pr (fun j => ug J (21 + 43 * m + o) (nI (s o + e)) (21 + 43 * m + j)) n (nI b) o = m_pr (ug (qs S.1 m) o (qs S.1 m o + nI e)) n (S.1 (13 + 43 * m)) o := by
      rw [h2]
      refine pr_congr (fun j hj' => ?_) ho
      rw [show qs S.1 m o = nI (s o) from q1, nIa]
      unfold ug
      by_cases g : j = o
      · subst g
        rw [if_pos rfl, if_pos rfl]
      · rw [if_neg (by omega), if_neg g]
        exact rd _ (by omega) (by omega)
    have hc : nI 0 ≤ qs S.1 m o + nI e ∧ qs S.1 m o + nI e ≤ nI 400 := by
      rw [show qs S.1 m o = nI (s o) from q1, nIa]
      exact ⟨nI_0le _ (by omega), (nIle (by omega) (by omega)).mpr hs⟩
    have hsub : nI (s o + e) - nI (s o) = nI e := by
      rw [pk_sub (by omega), show s o + e - s o = e by omega]
    have hbk : ug J (21 + 43 * m + o) (nI (s o)) = J := by rw [← eb, ug_id]
    rw [sf, if_pos hc] at hsf
    rw [H142_46]
    by_cases g : u ≤ m_pr (ug (qs S.1 m) o (qs S.1 m o + nI e)) n (S.1 (13 + 43 * m)) o
    · rw [if_pos g] at hsf
      rw [← hsf] at kk
      by_cases g2 : s o + e < 400
      · have g3 : ¬ 400 ≤ s o + e := by omega
        simp (disch := omega) only [K142_0, K142_1, ai_c1i, ai_c1n, ai_c1r, e_al0, e_an0, e_b0, e_b1, e_c3, e_const, e_cs1, e_cs3, e_cv3, e_dup2, e_getR, e_goto, e_iald, e_iast, e_il1, e_il2, e_il3, e_il4, e_il5, e_il6, e_is4, e_is5, e_is6, e_reti, e_z1, Option.toList_some, Option.toList_none, List.cons_append, List.nil_append, List.append_nil, List.length_cons, List.length_nil, Nat.reduceAdd, Nat.reduceLeDiff, Nat.zero_le, true_and, and_true, and_self, true_implies, forall_const, ai_rvs, ai_rv0, ai_b_0, Classical.not_not, not_true_eq_false, false_implies, not_false_eq_true, true_implies, and_true, true_and, if_true, if_false, Bool.false_eq_true, q_229, a_nw, hm.1, nIc, sr_r, sr_u, ug_s, nIle, g3, R108 hm hr (show 1 ≤ n by omega) b1 ho, eP, g, hsub, ug_ug, hbk]
        exact kk
      · have g3 : 400 ≤ s o + e := by omega
        simp (disch := omega) only [K142_0, K142_1, ai_c1i, ai_c1n, ai_c1r, e_al0, e_an0, e_b0, e_b1, e_c3, e_const, e_cs1, e_cs3, e_cv3, e_dup2, e_getR, e_goto, e_iald, e_iast, e_il1, e_il2, e_il3, e_il4, e_il5, e_il6, e_is4, e_is5, e_is6, e_reti, e_z1, Option.toList_some, Option.toList_none, List.cons_append, List.nil_append, List.append_nil, List.length_cons, List.length_nil, Nat.reduceAdd, Nat.reduceLeDiff, Nat.zero_le, true_and, and_true, and_self, true_implies, forall_const, ai_rvs, ai_rv0, ai_b_0, Classical.not_not, not_true_eq_false, false_implies, not_false_eq_true, true_implies, and_true, true_and, if_true, if_false, Bool.false_eq_true, q_229, a_nw, hm.1, nIc, sr_r, sr_u, ug_s, nIle, g3, R108 hm hr (show 1 ≤ n by omega) b1 ho, eP, g, hsub, ug_ug, hbk]
        exact kk
    · rw [if_neg g] at hsf
      by_cases g2 : s o + e < 400
      · have g3 : ¬ 400 ≤ s o + e := by omega
        have ih := r142_l (v := v) hm hj hmk h1 n2 n4 h2 b1 b2 h3 ho kk r (e + 1) (by omega) (by omega) hsf
        simp (disch := omega) only [K142_0, K142_1, ai_c1i, ai_c1n, ai_c1r, e_al0, e_an0, e_b0, e_b1, e_c3, e_const, e_cs1, e_cs3, e_cv3, e_dup2, e_getR, e_goto, e_iald, e_iast, e_il1, e_il2, e_il3, e_il4, e_il5, e_il6, e_is4, e_is5, e_is6, e_reti, e_z1, Option.toList_some, Option.toList_none, List.cons_append, List.nil_append, List.append_nil, List.length_cons, List.length_nil, Nat.reduceAdd, Nat.reduceLeDiff, Nat.zero_le, true_and, and_true, and_self, true_implies, forall_const, ai_rvs, ai_rv0, ai_b_0, Classical.not_not, not_true_eq_false, false_implies, not_false_eq_true, true_implies, and_true, true_and, if_true, if_false, Bool.false_eq_true, q_229, a_nw, hm.1, nIc, sr_r, sr_u, ug_s, nIle, g3, R108 hm hr (show 1 ≤ n by omega) b1 ho, eP, g, nIa, ug_ug]
        exact ih
      · have g3 : 400 ≤ s o + e := by omega
        have e4 : sf (qs S.1 m) n (S.1 (13 + 43 * m)) o u r (e + 1) = -1000000003 := by
          cases r with
          | zero => rfl
          | succ r =>
            rw [sf, if_neg]
            rw [show qs S.1 m o = nI (s o) from q1, nIa, nIle (by omega) (by omega), nIle (by omega) (by omega)]
            omega
        rw [← hsf, e4] at kk
        simp (disch := omega) only [K142_0, K142_1, ai_c1i, ai_c1n, ai_c1r, e_al0, e_an0, e_b0, e_b1, e_c3, e_const, e_cs1, e_cs3, e_cv3, e_dup2, e_getR, e_goto, e_iald, e_iast, e_il1, e_il2, e_il3, e_il4, e_il5, e_il6, e_is4, e_is5, e_is6, e_reti, e_z1, Option.toList_some, Option.toList_none, List.cons_append, List.nil_append, List.append_nil, List.length_cons, List.length_nil, Nat.reduceAdd, Nat.reduceLeDiff, Nat.zero_le, true_and, and_true, and_self, true_implies, forall_const, ai_rvs, ai_rv0, ai_b_0, Classical.not_not, not_true_eq_false, false_implies, not_false_eq_true, true_implies, and_true, true_and, if_true, if_false, Bool.false_eq_true, q_229, a_nw, hm.1, nIc, sr_r, sr_u, ug_s, nIle, g3, R108 hm hr (show 1 ≤ n by omega) b1 ho, eP, g, hsub, ug_ug, hbk]
        exact kk
theorem r142 (hm : RM M) (hj : RJ J S k) (hv : VB S.1 k) (hmv : MV S.1 k) {x y u : Int32} (kk : Q (some (.int (p_sf S x y u))) (LK, sr I J, M)) : Cl (d + 6) 142 [.ref 229, .int x, .int y, .int u] (LK, sr I J, M) Q := by
  have hk6 := hj.2.1
  have rd := hj.2.2.1
  have hjr : RJ ((sr I J) 230) S k := hj
  have n10 : (nI 1 = nI 0) = False := eq_false (by decide)
  unfold p_sf at kk
  simp (disch := omega) only [E142, K142_0, K142_1, ai_c1i, ai_c1n, ai_c1r, e_al0, e_an0, e_b0, e_b1, e_c3, e_const, e_cs1, e_cs3, e_cv3, e_dup2, e_getR, e_goto, e_iald, e_iast, e_il1, e_il2, e_il3, e_il4, e_il5, e_il6, e_is4, e_is5, e_is6, e_reti, e_z1, Option.toList_some, Option.toList_none, List.cons_append, List.nil_append, List.append_nil, List.length_cons, List.length_nil, Nat.reduceAdd, Nat.reduceLeDiff, Nat.zero_le, true_and, and_true, and_self, true_implies, forall_const, ai_rvs, ai_rv0, ai_b_0, Classical.not_not, not_true_eq_false, false_implies, not_false_eq_true, true_implies, and_true, true_and, if_true, if_false, Bool.false_eq_true, q_229, a_nw]
  refine r102 hm hv hjr (fun m n o hmk ex hn n2 n4 ho ey em => ?_) (fun em => ?_)
  · rw [em] at kk
    subst ex ey
    dsimp only at kk
    obtain ⟨n', b, s, h1, n2', n4', h2, b1, b2, h3⟩ := hmv m hmk
    obtain rfl := (nIeq (by omega) (by omega)).mp (h1.symm.trans hn)
    rw [nN_of h1 n4] at kk
    by_cases g : nI 1 ≤ u ∧ u ≤ nI 2880
    · rw [if_pos g] at kk
      have rs : J (21 + 43 * m + o) = nI (s o) := by rw [rd _ (by omega) (by omega)]; exact (h3 o ho).1
      have ea : 12 + 43 * m + 9 + o = 21 + 43 * m + o := by omega
      simp (disch := omega) only [K142_0, K142_1, ai_c1i, ai_c1n, ai_c1r, e_al0, e_an0, e_b0, e_b1, e_c3, e_const, e_cs1, e_cs3, e_cv3, e_dup2, e_getR, e_goto, e_iald, e_iast, e_il1, e_il2, e_il3, e_il4, e_il5, e_il6, e_is4, e_is5, e_is6, e_reti, e_z1, Option.toList_some, Option.toList_none, List.cons_append, List.nil_append, List.append_nil, List.length_cons, List.length_nil, Nat.reduceAdd, Nat.reduceLeDiff, Nat.zero_le, true_and, and_true, and_self, true_implies, forall_const, ai_rvs, ai_rv0, ai_b_0, Classical.not_not, not_true_eq_false, false_implies, not_false_eq_true, true_implies, and_true, true_and, if_true, if_false, Bool.false_eq_true, q_229, a_nw, n10, c97, g, c98, nIm, nIa, nIc, ea, hm.1, sr_r, rs]
      have l := r142_l (d := d) (I := I) (v := UU) hm hj hmk h1 n2 n4 h2 b1 b2 h3 ho kk 401 0 (by omega) (by have := (h3 o ho).2; omega) rfl
      have hid : ug J (21 + 43 * m + o) (nI (s o + 0)) = J := by
        show ug J (21 + 43 * m + o) (nI (s o)) = J
        rw [← rs, ug_id]
      rw [hid] at l
      exact l
    · rw [if_neg g] at kk
      simp (disch := omega) only [K142_0, K142_1, ai_c1i, ai_c1n, ai_c1r, e_al0, e_an0, e_b0, e_b1, e_c3, e_const, e_cs1, e_cs3, e_cv3, e_dup2, e_getR, e_goto, e_iald, e_iast, e_il1, e_il2, e_il3, e_il4, e_il5, e_il6, e_is4, e_is5, e_is6, e_reti, e_z1, Option.toList_some, Option.toList_none, List.cons_append, List.nil_append, List.append_nil, List.length_cons, List.length_nil, Nat.reduceAdd, Nat.reduceLeDiff, Nat.zero_le, true_and, and_true, and_self, true_implies, forall_const, ai_rvs, ai_rv0, ai_b_0, Classical.not_not, not_true_eq_false, false_implies, not_false_eq_true, true_implies, and_true, true_and, if_true, if_false, Bool.false_eq_true, q_229, a_nw, n10, c97, g]
      exact kk
  · rw [em] at kk
    simp (disch := omega) only [K142_0, K142_1, ai_c1i, ai_c1n, ai_c1r, e_al0, e_an0, e_b0, e_b1, e_c3, e_const, e_cs1, e_cs3, e_cv3, e_dup2, e_getR, e_goto, e_iald, e_iast, e_il1, e_il2, e_il3, e_il4, e_il5, e_il6, e_is4, e_is5, e_is6, e_reti, e_z1, Option.toList_some, Option.toList_none, List.cons_append, List.nil_append, List.append_nil, List.length_cons, List.length_nil, Nat.reduceAdd, Nat.reduceLeDiff, Nat.zero_le, true_and, and_true, and_self, true_implies, forall_const, ai_rvs, ai_rv0, ai_b_0, Classical.not_not, not_true_eq_false, false_implies, not_false_eq_true, true_implies, and_true, true_and, if_true, if_false, Bool.false_eq_true, q_229, a_nw]
    exact kk
end RCNT
