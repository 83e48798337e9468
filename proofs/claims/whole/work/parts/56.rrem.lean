/-! the reference takes an order out; an order's bar -/
def rmf (J : Nat → Int32) (a y : Nat) : Nat → Int32 := fun j => if a ≤ j ∧ j < y then J (j + 6) else J j
theorem rmf_s {J : Nat → Int32} {a y : Nat} (h : a ≤ y) : ug (rmf J a y) y (rmf J a y (y + 6)) = rmf J a (y + 1) := by
  funext j
  unfold rmf ug
  dsimp only
  by_cases e : j = y
  · subst e
    rw [if_pos rfl, if_neg (by omega), if_pos (by omega)]
  · rw [if_neg e]
    by_cases g : a ≤ j ∧ j < y
    · rw [if_pos g, if_pos (by omega)]
    · rw [if_neg g, if_neg (by omega)]
theorem rmf_0 {J : Nat → Int32} {a : Nat} : rmf J a a = J := by
  funext j
  unfold rmf
  rw [if_neg (by omega)]
section RREM
variable {I : Nat → Nat → Int32} {J : Nat → Int32} {M : Nat → Nat → Nat} {S : St} {m n b o k t T : Nat} {L os : List Od} {d : Nat} {Q : Option Value → ai_H → Prop}
theorem r125_l {J0 : Nat → Int32} {len a : Nat} {a1 : Value} (hm : RM M) (hl : len ≤ 16) (ha : 270 ≤ a) (h3 : J0 3 = nI len) (kk : Q none (LK, sr I (rmf J0 a (270 + 6 * len)), M)) :
    ∀ r y, r + y = 270 + 6 * len → a ≤ y → Ev (d + 1) X0 125 15 [.ref 229, a1, .int (nI y)] [] (LK, sr I (rmf J0 a y), M) Q
  | 0, y, hy, hay => by
    obtain rfl : y = 270 + 6 * len := by omega
    have e3 : rmf J0 a (270 + 6 * len) 3 = nI len := by unfold rmf; rw [if_neg (by omega)]; exact h3
    rw [H125_15]
    simp (disch := omega) only [K125, ai_c1i, ai_c1n, ai_c1r, e_al0, e_an0, e_b0, e_b1, e_c3, e_const, e_cs1, e_dup2, e_getR, e_goto, e_iald, e_iast, e_ii2, e_il1, e_il2, e_is2, e_ret, Option.toList_some, Option.toList_none, List.cons_append, List.nil_append, List.append_nil, List.length_cons, List.length_nil, Nat.reduceAdd, Nat.reduceLeDiff, Nat.zero_le, true_and, and_true, and_self, true_implies, forall_const, ai_rvs, ai_rv0, ai_b_0, Classical.not_not, not_true_eq_false, false_implies, not_false_eq_true, true_implies, and_true, true_and, if_true, if_false, Bool.false_eq_true, q_229, a_nw, hm.1, c99, nIm, nIa, nIc, sr_r, e3, Int32.le_refl]
    exact kk
  | r + 1, y, hy, hay => by
    have ih := r125_l (a1 := a1) hm hl ha h3 kk r (y + 1) (by omega) (by omega)
    have e3 : rmf J0 a y 3 = nI len := by unfold rmf; rw [if_neg (by omega)]; exact h3
    rw [H125_15]
    simp (disch := omega) only [K125, ai_c1i, ai_c1n, ai_c1r, e_al0, e_an0, e_b0, e_b1, e_c3, e_const, e_cs1, e_dup2, e_getR, e_goto, e_iald, e_iast, e_ii2, e_il1, e_il2, e_is2, e_ret, Option.toList_some, Option.toList_none, List.cons_append, List.nil_append, List.append_nil, List.length_cons, List.length_nil, Nat.reduceAdd, Nat.reduceLeDiff, Nat.zero_le, true_and, and_true, and_self, true_implies, forall_const, ai_rvs, ai_rv0, ai_b_0, Classical.not_not, not_true_eq_false, false_implies, not_false_eq_true, true_implies, and_true, true_and, if_true, if_false, Bool.false_eq_true, q_229, a_nw, hm.1, c99, nIm, nIa, nIc, sr_r, sr_u, e3, nIle, rmf_s]
    exact ⟨fun g => absurd g (by omega), fun _ => ih⟩
theorem r125 {i : Nat} (hm : RM M) (h : RO J L os) (h3 : J 3 = nI L.length) (hi : i < os.length) (kk : ∀ J', (∀ j, j < 270 ∨ 366 ≤ j → j ≠ 3 → J' j = J j) → J' 3 = nI (L.length - 1) → (∀ (p : Nat) (o : Od), (os.eraseIdx i)[p]? = some o → ∀ j, j < 6 → J' (270 + 6 * p + j) = o_f o j) → Q none (LK, sr I J', M)) : Cl (d + 1) 125 [.ref 229, .int (nI i)] (LK, sr I J, M) Q := by
  obtain ⟨l1, l2⟩ := h.len
  have em : nI L.length - nI 1 = nI (L.length - 1) := pk_sub (by omega)
  simp (disch := omega) only [E125, K125, ai_c1i, ai_c1n, ai_c1r, e_al0, e_an0, e_b0, e_b1, e_c3, e_const, e_cs1, e_dup2, e_getR, e_goto, e_iald, e_iast, e_ii2, e_il1, e_il2, e_is2, e_ret, Option.toList_some, Option.toList_none, List.cons_append, List.nil_append, List.append_nil, List.length_cons, List.length_nil, Nat.reduceAdd, Nat.reduceLeDiff, Nat.zero_le, true_and, and_true, and_self, true_implies, forall_const, ai_rvs, ai_rv0, ai_b_0, Classical.not_not, not_true_eq_false, false_implies, not_false_eq_true, true_implies, and_true, true_and, if_true, if_false, Bool.false_eq_true, q_229, a_nw, hm.1, c99, nIm, nIa, nIc, sr_r, sr_u, h3, em]
  have l := r125_l (d := d) (Q := Q) (I := I) (J0 := ug J 3 (nI (L.length - 1))) (len := L.length - 1) (a := 270 + 6 * i) (a1 := .int (nI i)) hm (by omega) (by omega) ug_s (kk _ (fun j hj hj3 => ?_) ?_ (fun p o hp j hj => ?_)) (270 + 6 * (L.length - 1) - (270 + 6 * i)) (270 + 6 * i) (by omega) (by omega)
  · rw [rmf_0] at l
    exact l
  · unfold rmf
    rw [if_neg (by omega), ug_n hj3]
  · unfold rmf
    rw [if_neg (by omega), ug_s]
  · have hp8 := (List.getElem?_eq_some_iff.mp hp).1
    rw [List.length_eraseIdx_of_lt hi] at hp8
    rw [List.getElem?_eraseIdx] at hp
    unfold rmf
    by_cases g : p < i
    · rw [if_pos g] at hp
      rw [if_neg (by omega), ug_n (by omega)]
      exact h.2.2.2 p o hp j hj
    · rw [if_neg g] at hp
      rw [if_pos (by omega), ug_n (by omega), show 270 + 6 * p + j + 6 = 270 + 6 * (p + 1) + j by omega]
      exact h.2.2.2 (p + 1) o hp j hj
end RREM
