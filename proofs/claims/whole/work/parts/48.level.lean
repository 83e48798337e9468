/-! the reference's ranks, active outcomes, level and prices -/
def rs (s : Nat → Nat) (n : Nat) : Nat → Nat
  | 0 => 0
  | p + 1 => rs s n p + s (rk s n p)
def rq (s : Nat → Nat) (n : Nat) : Nat → Nat
  | 0 => 0
  | p + 1 => rq s n p + s (rk s n p) * s (rk s n p)
/-- how many outcomes are active, as the reference counts -/
def ac (s : Nat → Nat) (n b : Nat) : Nat → Nat → Nat
  | 0, k => k
  | r + 1, k => if rs s n k < s (rk s n k) * k + 2 * b then ac s n b r (k + 1) else k
theorem ac_le {s : Nat → Nat} {n b : Nat} : ∀ r k, k ≤ ac s n b r k ∧ ac s n b r k ≤ k + r
  | 0, k => ⟨Nat.le_refl _, Nat.le_refl _⟩
  | r + 1, k => by
    rw [ac]
    split
    · have := ac_le (s := s) (n := n) (b := b) r (k + 1)
      omega
    · omega
def aK (s : Nat → Nat) (n b : Nat) : Nat := ac s n b (n - 1) 1
theorem rs_le {s : Nat → Nat} {n : Nat} (h : ∀ o, o < n → s o < 1000) : ∀ p, p ≤ n → rs s n p ≤ 1000 * p
  | 0, _ => by rw [rs]; omega
  | p + 1, hp => by
    have h1 := rs_le h p (by omega)
    have h2 := h _ (rk_s (s := s) (n := n) (p := p) (by omega)).2.1
    rw [rs]
    omega
theorem cmp_a {A B C : Nat} (hA : A < 1000000) (hB : B < 1000000) (hC : C < 1000000000) : (nI A - nI B < nI C) ↔ A < C + B := by
  rw [Int32.lt_iff_toInt_lt, nI_subT (by omega) (by omega), nI_toInt (by omega)]
  omega
section LEVEL
variable {I : Nat → Nat → Int32} {M : Nat → Nat → Nat} {m n b : Nat} {s : Nat → Nat} {d : Nat} {Q : Option Value → ai_H → Prop}
theorem r105_in {r i : Nat} (hm : RM M) (h : RK (I 230) m n b s) (hi : i < n) (kk : Ev (d + 3) X0 105 55 [.ref 229, .int (nI m), .int (nI r), .int (nI i), .int (nI (cnt s n i)), .int (nI n)] [] (LK, I, M) Q) :
    ∀ k j, k + j = n → Ev (d + 3) X0 105 18 [.ref 229, .int (nI m), .int (nI r), .int (nI i), .int (nI (cnt s j i)), .int (nI j)] [] (LK, I, M) Q
  | 0, j, hj => by
    obtain rfl : j = n := by omega
    obtain ⟨h1, h2, h3, h4, h5, h6⟩ := h
    rw [H105_18]
    simp (disch := omega) only [k105_0, k105_1, k105_3, k105_4, k105_5, k105_6, k105_9, k105_12, k105_13, k105_15, k105_16, k105_20, k105_21, k105_22, k105_23, k105_26, k105_29, k105_31, k105_32, k105_35, k105_36, k105_37, k105_39, k105_40, k105_43, k105_46, k105_49, k105_52, k105_57, k105_58, k105_61, k105_62, k105_63, k105_66, k105_69, k105_70, ai_c1i, ai_c1n, ai_c1r, e_al0, e_an0, e_c0, e_c1, e_c3, e_const, e_cv3, e_cv4, e_goto, e_ii3, e_ii4, e_ii5, e_il1, e_il2, e_il3, e_il4, e_il5, e_is3, e_is4, e_is5, e_reti, e_z0, Option.toList_some, Option.toList_none, List.cons_append, List.nil_append, List.append_nil, List.length_cons, List.length_nil, Nat.reduceAdd, Nat.reduceLeDiff, Nat.zero_le, true_and, and_true, and_self, true_implies, forall_const, ai_rvs, ai_rv0, ai_b_0, Classical.not_not, not_true_eq_false, false_implies, not_false_eq_true, true_implies, and_true, true_and, if_true, if_false, Bool.false_eq_true, q_229, a_nw, r100 hm, h3, Int32.le_refl]
    exact kk
  | k + 1, j, hj => by
    have ih := r105_in hm h hi kk k (j + 1) (by omega)
    obtain ⟨h1, h2, h3, h4, h5, h6⟩ := id h
    rw [cnt_s] at ih
    rw [H105_18]
    simp (disch := omega) only [k105_0, k105_1, k105_3, k105_4, k105_5, k105_6, k105_9, k105_12, k105_13, k105_15, k105_16, k105_20, k105_21, k105_22, k105_23, k105_26, k105_29, k105_31, k105_32, k105_35, k105_36, k105_37, k105_39, k105_40, k105_43, k105_46, k105_49, k105_52, k105_57, k105_58, k105_61, k105_62, k105_63, k105_66, k105_69, k105_70, ai_c1i, ai_c1n, ai_c1r, e_al0, e_an0, e_c0, e_c1, e_c3, e_const, e_cv3, e_cv4, e_goto, e_ii3, e_ii4, e_ii5, e_il1, e_il2, e_il3, e_il4, e_il5, e_is3, e_is4, e_is5, e_reti, e_z0, Option.toList_some, Option.toList_none, List.cons_append, List.nil_append, List.append_nil, List.length_cons, List.length_nil, Nat.reduceAdd, Nat.reduceLeDiff, Nat.zero_le, true_and, and_true, and_self, true_implies, forall_const, ai_rvs, ai_rv0, ai_b_0, Classical.not_not, not_true_eq_false, false_implies, not_false_eq_true, true_implies, and_true, true_and, if_true, if_false, Bool.false_eq_true, q_229, a_nw, r100 hm, h3, nIle, nIeq]
    refine ⟨fun g => absurd g (by omega), fun _ => ⟨fun g => ?_, fun g => ?_⟩⟩
    · rw [if_neg (by rw [g, ahd_c]; omega)] at ih
      simp (disch := omega) only [nIa]
      exact ih
    · rw [r104 hm h (by omega) hi]
      simp (disch := omega) only [k105_0, k105_1, k105_3, k105_4, k105_5, k105_6, k105_9, k105_12, k105_13, k105_15, k105_16, k105_20, k105_21, k105_22, k105_23, k105_26, k105_29, k105_31, k105_32, k105_35, k105_36, k105_37, k105_39, k105_40, k105_43, k105_46, k105_49, k105_52, k105_57, k105_58, k105_61, k105_62, k105_63, k105_66, k105_69, k105_70, ai_c1i, ai_c1n, ai_c1r, e_al0, e_an0, e_c0, e_c1, e_c3, e_const, e_cv3, e_cv4, e_goto, e_ii3, e_ii4, e_ii5, e_il1, e_il2, e_il3, e_il4, e_il5, e_is3, e_is4, e_is5, e_reti, e_z0, Option.toList_some, Option.toList_none, List.cons_append, List.nil_append, List.append_nil, List.length_cons, List.length_nil, Nat.reduceAdd, Nat.reduceLeDiff, Nat.zero_le, true_and, and_true, and_self, true_implies, forall_const, ai_rvs, ai_rv0, ai_b_0, Classical.not_not, not_true_eq_false, false_implies, not_false_eq_true, true_implies, and_true, true_and, if_true, if_false, Bool.false_eq_true, nIa]
      refine ⟨fun g2 => ?_, fun g2 => ?_⟩
      · rw [if_neg g2] at ih
        exact ih
      · rw [if_pos g2] at ih
        exact ih
theorem r105_out {r : Nat} (hm : RM M) (h : RK (I 230) m n b s) (hr : r < n) (kk : Q (some (.int (nI (rk s n r)))) (LK, I, M)) :
    ∀ k i x y, k + i = n → (∀ i', i' < i → cnt s n i' ≠ r) → Ev (d + 3) X0 105 2 [.ref 229, .int (nI m), .int (nI r), .int (nI i), x, y] [] (LK, I, M) Q
  | 0, i, x, y, hi, hno => by
    obtain rfl : i = n := by omega
    obtain ⟨g1, g2, g3⟩ := rk_s (s := s) hr
    exact absurd g3 (hno _ g2)
  | k + 1, i, x, y, hi, hno => by
    have ih := fun x y h9 => r105_out hm h hr kk k (i + 1) x y (by omega) h9
    obtain ⟨h1, h2, h3, h4, h5, h6⟩ := id h
    have hc : cnt s n i ≤ n := by
      unfold cnt
      exact Nat.le_trans List.countP_le_length (by rw [List.length_range]; omega)
    rw [H105_2]
    simp (disch := omega) only [k105_0, k105_1, k105_3, k105_4, k105_5, k105_6, k105_9, k105_12, k105_13, k105_15, k105_16, k105_20, k105_21, k105_22, k105_23, k105_26, k105_29, k105_31, k105_32, k105_35, k105_36, k105_37, k105_39, k105_40, k105_43, k105_46, k105_49, k105_52, k105_57, k105_58, k105_61, k105_62, k105_63, k105_66, k105_69, k105_70, ai_c1i, ai_c1n, ai_c1r, e_al0, e_an0, e_c0, e_c1, e_c3, e_const, e_cv3, e_cv4, e_goto, e_ii3, e_ii4, e_ii5, e_il1, e_il2, e_il3, e_il4, e_il5, e_is3, e_is4, e_is5, e_reti, e_z0, Option.toList_some, Option.toList_none, List.cons_append, List.nil_append, List.append_nil, List.length_cons, List.length_nil, Nat.reduceAdd, Nat.reduceLeDiff, Nat.zero_le, true_and, and_true, and_self, true_implies, forall_const, ai_rvs, ai_rv0, ai_b_0, Classical.not_not, not_true_eq_false, false_implies, not_false_eq_true, true_implies, and_true, true_and, if_true, if_false, Bool.false_eq_true, q_229, a_nw, r100 hm, h3, nIle]
    refine ⟨fun g => absurd g (by omega), fun _ => ?_⟩
    have hin := r105_in (d := d) (Q := Q) (r := r) hm h (i := i) (by omega) ?_ n 0 (by omega)
    · exact hin
    · simp (disch := omega) only [K105, ai_c1i, ai_c1n, ai_c1r, e_al0, e_an0, e_c0, e_c1, e_c3, e_const, e_cv3, e_cv4, e_goto, e_ii3, e_ii4, e_ii5, e_il1, e_il2, e_il3, e_il4, e_il5, e_is3, e_is4, e_is5, e_reti, e_z0, Option.toList_some, Option.toList_none, List.cons_append, List.nil_append, List.append_nil, List.length_cons, List.length_nil, Nat.reduceAdd, Nat.reduceLeDiff, Nat.zero_le, true_and, and_true, and_self, true_implies, forall_const, ai_rvs, ai_rv0, ai_b_0, Classical.not_not, not_true_eq_false, false_implies, not_false_eq_true, true_implies, and_true, true_and, if_true, if_false, Bool.false_eq_true, nIeq, nIa]
      refine ⟨fun g => ih _ _ fun i' hi' => ?_, fun g => ?_⟩
      · by_cases e : i' = i
        · subst e; exact g
        · exact hno i' (by omega)
      · rw [rk_u (s := s) (n := n) (by omega) g]
        exact kk
theorem r105 {r : Nat} (hm : RM M) (h : RK (I 230) m n b s) (hr : r < n) : Cl (d + 3) 105 [.ref 229, .int (nI m), .int (nI r)] (LK, I, M) Q ↔ Q (some (.int (nI (rk s n r)))) (LK, I, M) := by
  refine Cl_one ?_
  simp (disch := omega) only [E105, K105, ai_c1i, ai_c1n, ai_c1r, e_al0, e_an0, e_c0, e_c1, e_c3, e_const, e_cv3, e_cv4, e_goto, e_ii3, e_ii4, e_ii5, e_il1, e_il2, e_il3, e_il4, e_il5, e_is3, e_is4, e_is5, e_reti, e_z0, Option.toList_some, Option.toList_none, List.cons_append, List.nil_append, List.append_nil, List.length_cons, List.length_nil, Nat.reduceAdd, Nat.reduceLeDiff, Nat.zero_le, true_and, and_true, and_self, true_implies, forall_const, ai_rvs, ai_rv0, ai_b_0, Classical.not_not, not_true_eq_false, false_implies, not_false_eq_true, true_implies, and_true, true_and, if_true, if_false, Bool.false_eq_true]
  exact r105_out hm h hr ⟨rfl, rfl⟩ n 0 _ _ (by omega) fun i' hi' => by omega
theorem RK.o {J : Nat → Int32} (h : RK J m n b s) {o : Nat} (ho : o < n) : J (12 + 43 * m + (9 + o)) = nI (s o) := (h.2.2.2.2.2 o ho).1
theorem r106_l (hm : RM M) (h : RK (I 230) m n b s) (hn : 1 ≤ n) (kk : Q (some (.int (nI (aK s n b)))) (LK, I, M)) : ∀ r k, r + k = n → 1 ≤ k → ac s n b r k = aK s n b → Ev (d + 4) X0 106 17 [.ref 229, .int (nI m), .int (nI (rs s n k)), .int (nI k)] [] (LK, I, M) Q
  | 0, k, hk, h0, he => by
    obtain rfl : k = n := by omega
    rw [← he, ac] at kk
    obtain ⟨h1, h2, h3, h4, h5, h6⟩ := id h
    rw [H106_17]
    simp (disch := omega) only [K106, ai_c1i, ai_c1n, ai_c1r, e_al0, e_an0, e_b0, e_b1, e_b2, e_c3, e_c5, e_const, e_cv3, e_goto, e_ii3, e_il1, e_il2, e_il3, e_is2, e_is3, e_reti, Option.toList_some, Option.toList_none, List.cons_append, List.nil_append, List.append_nil, List.length_cons, List.length_nil, Nat.reduceAdd, Nat.reduceLeDiff, Nat.zero_le, true_and, and_true, and_self, true_implies, forall_const, ai_rvs, ai_rv0, ai_b_0, Classical.not_not, not_true_eq_false, false_implies, not_false_eq_true, true_implies, and_true, true_and, if_true, if_false, Bool.false_eq_true, q_229, a_nw, r100 hm, h3, Int32.le_refl]
    exact kk
  | r + 1, k, hk, h0, he => by
    have ih := r106_l hm h hn kk r (k + 1) (by omega) (by omega)
    obtain ⟨h1, h2, h3, h4, h5, h6⟩ := id h
    have hs := rs_le (fun o ho => (h6 o ho).2) k (by omega)
    obtain ⟨g1, g2, g3⟩ := rk_s (s := s) (n := n) (p := k) (by omega)
    have hsk := (h6 _ g2).2
    have hmul : s (rk s n k) * k ≤ 1000 * 4 := Nat.mul_le_mul (by omega) (by omega)
    rw [ac] at he
    rw [H106_17]
    simp (disch := omega) only [K106, ai_c1i, ai_c1n, ai_c1r, e_al0, e_an0, e_b0, e_b1, e_b2, e_c3, e_c5, e_const, e_cv3, e_goto, e_ii3, e_il1, e_il2, e_il3, e_is2, e_is3, e_reti, Option.toList_some, Option.toList_none, List.cons_append, List.nil_append, List.append_nil, List.length_cons, List.length_nil, Nat.reduceAdd, Nat.reduceLeDiff, Nat.zero_le, true_and, and_true, and_self, true_implies, forall_const, ai_rvs, ai_rv0, ai_b_0, Classical.not_not, not_true_eq_false, false_implies, not_false_eq_true, true_implies, and_true, true_and, if_true, if_false, Bool.false_eq_true, q_229, a_nw, r100 hm, h3, h4, nIle, r105 hm h, nIa, nIm, h.o g2, cmp_a, i_nlt]
    refine ⟨fun g => absurd g (by omega), fun _ => ?_⟩
    have ec : (nI (s (rk s n k) * k) ≤ nI (rs s n k) - nI (2 * b)) ↔ ¬ rs s n k < s (rk s n k) * k + 2 * b := by
      rw [← i_nlt, cmp_a (by omega) (by omega) (by omega)]
    rw [ec]
    refine ⟨fun g => ?_, fun g => ?_⟩
    · rw [if_neg g] at he
      rw [← he] at kk
      exact kk
    · rw [if_pos (Classical.not_not.mp g)] at he
      rw [rs] at ih
      exact ih he
theorem r106 (hm : RM M) (h : RK (I 230) m n b s) (hn : 1 ≤ n) : Cl (d + 4) 106 [.ref 229, .int (nI m)] (LK, I, M) Q ↔ Q (some (.int (nI (aK s n b)))) (LK, I, M) := by
  refine Cl_one ?_
  obtain ⟨h1, h2, h3, h4, h5, h6⟩ := id h
  obtain ⟨g1, g2, g3⟩ := rk_s (s := s) (n := n) (p := 0) (by omega)
  have e : rs s n 1 = s (rk s n 0) := by rw [rs, rs, Nat.zero_add]
  have l := r106_l (d := d) hm h hn (Q := fun r h' => r = some (.int (nI (aK s n b))) ∧ h' = (LK, I, M)) ⟨rfl, rfl⟩ (n - 1) 1 (by omega) (by omega) rfl
  rw [e] at l
  simp (disch := omega) only [E106, K106, ai_c1i, ai_c1n, ai_c1r, e_al0, e_an0, e_b0, e_b1, e_b2, e_c3, e_c5, e_const, e_cv3, e_goto, e_ii3, e_il1, e_il2, e_il3, e_is2, e_is3, e_reti, Option.toList_some, Option.toList_none, List.cons_append, List.nil_append, List.append_nil, List.length_cons, List.length_nil, Nat.reduceAdd, Nat.reduceLeDiff, Nat.zero_le, true_and, and_true, and_self, true_implies, forall_const, ai_rvs, ai_rv0, ai_b_0, Classical.not_not, not_true_eq_false, false_implies, not_false_eq_true, true_implies, and_true, true_and, if_true, if_false, Bool.false_eq_true, q_229, a_nw, r100 hm, r105 hm h, nIa, h.o g2]
  exact l
theorem r107_l (hm : RM M) (h : RK (I 230) m n b s) (hn : 1 ≤ n) (hb : 1 ≤ b) (kk : Q (some (.int (nI 60 / nI b * (nI 12 * nI (rq s n (aK s n b)) - nI 12 / nI (aK s n b) * ((-2) * nI b + nI (rs s n (aK s n b))) * ((-2) * nI b + nI (rs s n (aK s n b))))))) (LK, I, M)) :
    ∀ r k x, r + k = aK s n b → Ev (d + 5) X0 107 22 [.ref 229, .int (nI m), .int (nI (aK s n b)), .int ((-2) * nI b + nI (rs s n k)), .int (nI (rq s n k)), .int (nI k), x] [] (LK, I, M) Q
  | 0, k, x, hk => by
    obtain rfl : k = aK s n b := by omega
    obtain ⟨h1, h2, h3, h4, h5, h6⟩ := id h
    have hK := ac_le (s := s) (n := n) (b := b) (n - 1) 1
    have hK' : aK s n b = ac s n b (n - 1) 1 := rfl
    have n1 : (nI b = nI 0) = False := eq_false (by rw [nIeq (by omega) (by omega)]; omega)
    have n2 : (nI (aK s n b) = nI 0) = False := eq_false (by rw [nIeq (by omega) (by omega)]; omega)
    rw [H107_22]
    simp (disch := omega) only [K107, ai_c1i, ai_c1n, ai_c1r, e_al0, e_an0, e_b0, e_b1, e_b2, e_c3, e_const, e_cv2, e_cv3, e_div, e_goto, e_ii5, e_il1, e_il2, e_il3, e_il4, e_il5, e_il6, e_is2, e_is3, e_is4, e_is5, e_is6, e_reti, Option.toList_some, Option.toList_none, List.cons_append, List.nil_append, List.append_nil, List.length_cons, List.length_nil, Nat.reduceAdd, Nat.reduceLeDiff, Nat.zero_le, true_and, and_true, and_self, true_implies, forall_const, ai_rvs, ai_rv0, ai_b_0, Classical.not_not, not_true_eq_false, false_implies, not_false_eq_true, true_implies, and_true, true_and, if_true, if_false, Bool.false_eq_true, q_229, a_nw, r100 hm, h4, Int32.le_refl, n1, n2]
    exact kk
  | r + 1, k, x, hk => by
    have ih := fun x => r107_l hm h hn hb kk r (k + 1) x (by omega)
    obtain ⟨h1, h2, h3, h4, h5, h6⟩ := id h
    have hK := ac_le (s := s) (n := n) (b := b) (n - 1) 1
    have hK' : aK s n b = ac s n b (n - 1) 1 := rfl
    obtain ⟨g1, g2, g3⟩ := rk_s (s := s) (n := n) (p := k) (by omega)
    rw [rs, rq] at ih
    rw [H107_22]
    simp (disch := omega) only [K107, ai_c1i, ai_c1n, ai_c1r, e_al0, e_an0, e_b0, e_b1, e_b2, e_c3, e_const, e_cv2, e_cv3, e_div, e_goto, e_ii5, e_il1, e_il2, e_il3, e_il4, e_il5, e_il6, e_is2, e_is3, e_is4, e_is5, e_is6, e_reti, Option.toList_some, Option.toList_none, List.cons_append, List.nil_append, List.append_nil, List.length_cons, List.length_nil, Nat.reduceAdd, Nat.reduceLeDiff, Nat.zero_le, true_and, and_true, and_self, true_implies, forall_const, ai_rvs, ai_rv0, ai_b_0, Classical.not_not, not_true_eq_false, false_implies, not_false_eq_true, true_implies, and_true, true_and, if_true, if_false, Bool.false_eq_true, q_229, a_nw, r100 hm, nIle, r105 hm h, nIa, nIm, h.o g2, Int32.add_assoc]
    exact ⟨fun g => absurd g (by omega), fun _ => ih _⟩
theorem r107 (hm : RM M) (h : RK (I 230) m n b s) (hn : 1 ≤ n) (hb : 1 ≤ b) : Cl (d + 5) 107 [.ref 229, .int (nI m)] (LK, I, M) Q ↔ Q (some (.int (nI 60 / nI b * (nI 12 * nI (rq s n (aK s n b)) - nI 12 / nI (aK s n b) * ((-2) * nI b + nI (rs s n (aK s n b))) * ((-2) * nI b + nI (rs s n (aK s n b))))))) (LK, I, M) := by
  refine Cl_one ?_
  obtain ⟨h1, h2, h3, h4, h5, h6⟩ := id h
  have l := fun x => r107_l (d := d) hm h hn hb (Q := fun r h' => r = some (.int (nI 60 / nI b * (nI 12 * nI (rq s n (aK s n b)) - nI 12 / nI (aK s n b) * ((-2) * nI b + nI (rs s n (aK s n b))) * ((-2) * nI b + nI (rs s n (aK s n b)))))) ∧ h' = (LK, I, M)) ⟨rfl, rfl⟩ (aK s n b) 0 x (by omega)
  have e : (-2) * nI b + nI (rs s n 0) = (-2) * nI b := by rw [rs, i_add0]
  rw [e, rq] at l
  simp (disch := omega) only [E107, K107, ai_c1i, ai_c1n, ai_c1r, e_al0, e_an0, e_b0, e_b1, e_b2, e_c3, e_const, e_cv2, e_cv3, e_div, e_goto, e_ii5, e_il1, e_il2, e_il3, e_il4, e_il5, e_il6, e_is2, e_is3, e_is4, e_is5, e_is6, e_reti, Option.toList_some, Option.toList_none, List.cons_append, List.nil_append, List.append_nil, List.length_cons, List.length_nil, Nat.reduceAdd, Nat.reduceLeDiff, Nat.zero_le, true_and, and_true, and_self, true_implies, forall_const, ai_rvs, ai_rv0, ai_b_0, Classical.not_not, not_true_eq_false, false_implies, not_false_eq_true, true_implies, and_true, true_and, if_true, if_false, Bool.false_eq_true, q_229, a_nw, r100 hm, r106 hm h hn, h4]
  exact l _
end LEVEL
