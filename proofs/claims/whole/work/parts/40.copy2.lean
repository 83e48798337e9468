/-! one exchange is copied into the other: orders, trades, all -/
def hbk (I : Nat → Nat → Int32) (D E : Nat) (pD pE : Nat → Nat) : Nat → Nat → Nat → Int32
  | 0 => I
  | i + 1 => cpf (hbk I D E pD pE i) (D + 65 + pD i) (E + 65 + pE i) 6
def hhs (I : Nat → Nat → Int32) (D E : Nat) : Nat → Nat → Nat → Int32
  | 0 => I
  | i + 1 => cpf (hhs I D E i) (D + 83 + i) (E + 83 + i) 6
def hmk (I : Nat → Nat → Int32) (D E : Nat) : Nat → Nat → Nat → Int32
  | 0 => cpf I (D + 1) (E + 1) 6
  | i + 1 => cm2 (hmk I D E i) D E i
theorem yb_e {B : Nat} (hB : BB B) : LK[B]? = some (1, 6) := yb_ex hB
section COPYB
variable {M : Nat → Nat → Nat} {D E m : Nat} {d : Nat} {Q : Option Value → ai_H → Prop}
/-- Order.copyFrom -/
theorem c53 {I : Nat → Nat → Int32} {x y : Nat} (hD : BB D) (hE : BB E) (hne : D ≠ E) (hx : x < 16) (hy : y < 16) (kk : Q none (LK, cpf I (D + 65 + x) (E + 65 + y) 6, M)) : Cl d 53 [.ref (D + 65 + x), .ref (E + 65 + y)] (LK, I, M) Q := by
  have hD' : D = 1 ∨ D = 114 := hD
  have hE' : E = 1 ∨ E = 114 := hE
  simp (disch := omega) only [E53, K53, e_al0, e_al1, e_an0, e_an1, e_getI, e_putI, e_ret, Option.toList_some, Option.toList_none, List.cons_append, List.nil_append, List.append_nil, List.length_cons, List.length_nil, Nat.reduceAdd, Nat.reduceLeDiff, Nat.zero_le, true_and, and_true, and_self, true_implies, forall_const, ai_rvs, ai_rv0, ai_b_0, Classical.not_not, not_true_eq_false, false_implies, not_false_eq_true, true_implies, and_true, true_and, if_true, if_false, Bool.false_eq_true, kq_of (yb_od hD hx), kq_of (yb_od hE hy), BO, true_or, ai_uo]
  refine Eq.mpr (congrArg (fun H => Q none (LK, H, M)) (?_ : _ = cpf I (D + 65 + x) (E + 65 + y) 6)) kk
  funext a j
  unfold cpf
  by_cases ha : a = D + 65 + x
  · subst ha
    by_cases hj : j < 6
    · rcases (by omega : j = 0 ∨ j = 1 ∨ j = 2 ∨ j = 3 ∨ j = 4 ∨ j = 5) with rfl | rfl | rfl | rfl | rfl | rfl
      all_goals
        simp (disch := omega) only [ai_uo, ai_uh]
        rw [if_pos (by simp)]
    · simp (disch := omega) only [ai_uo]
      rw [if_neg (by omega)]
  · simp (disch := omega) only [ai_uo]
    rw [if_neg (by omega)]
theorem hbk_o {I : Nat → Nat → Int32} {pD pE : Nat → Nat} {a : Nat} : ∀ n, (∀ i, i < n → a ≠ D + 65 + pD i) → hbk I D E pD pE n a = I a
  | 0, _ => rfl
  | n + 1, h => by
    rw [hbk]
    funext j
    unfold cpf
    rw [if_neg (fun g => h n (by omega) g.1), hbk_o n fun i hi => h i (by omega)]
theorem hbk_r {I : Nat → Nat → Int32} {pD pE : Nat → Nat} (hD : BB D) (hE : BB E) (hne : D ≠ E) (hd : ∀ i, i < 16 → pD i < 16) (he : ∀ i, i < 16 → pE i < 16) (inj : ∀ i j, i < 16 → j < 16 → pD i = pD j → i = j) {r j : Nat} (hj : j < 6) : ∀ n, n ≤ 16 → r < n → hbk I D E pD pE n (D + 65 + pD r) j = I (E + 65 + pE r) j
  | 0, _, h => absurd h (by omega)
  | n + 1, hn, h => by
    have hD' : D = 1 ∨ D = 114 := hD
    have hE' : E = 1 ∨ E = 114 := hE
    have h1 := hd n (by omega)
    have h2 := he n (by omega)
    have h3 := hd r (by omega)
    rw [hbk]
    unfold cpf
    by_cases hr : r = n
    · subst hr
      rw [if_pos ⟨rfl, hj⟩, hbk_o r fun i hi => by have := hd i (by omega); omega]
    · rw [if_neg (fun g => hr (inj r n (by omega) (by omega) (by omega)))]
      exact hbk_r hD hE hne hd he inj hj n (by omega) (by omega)
theorem c1_l {I : Nat → Nat → Int32} {pD pE : Nat → Nat} (hD : BB D) (hE : BB E) (hne : D ≠ E) (sD : MS D M) (sE : MS E M) (hd : ∀ i, i < 16 → pD i < 16 ∧ M (D + 64) i = D + 65 + pD i + 1) (he : ∀ i, i < 16 → pE i < 16 ∧ M (E + 64) i = E + 65 + pE i + 1)
    (kk : Q none (LK, ai_u (ai_u (hbk I D E pD pE 16) (D + 63) 1 (I (E + 63) 1)) (D + 63) 2 (I (E + 63) 2), M)) : ∀ r i, r + i = 16 → Ev (d + 1) X0 1 2 [.ref (D + 63), .ref (E + 63), .int (nI i)] [] (LK, hbk I D E pD pE i, M) Q
  | 0, i, hi => by
    obtain rfl : i = 16 := by omega
    have hD' : D = 1 ∨ D = 114 := hD
    have hE' : E = 1 ∨ E = 114 := hE
    have e : hbk I D E pD pE 16 (E + 63) = I (E + 63) := hbk_o 16 fun i hi => by have := (hd i hi).1; omega
    rw [H1_2]
    simp (disch := omega) only [K1, ai_c1i, ai_c1n, ai_c1r, e_aald, e_al0, e_al1, e_an0, e_an1, e_c3, e_const, e_cv2, e_getI, e_getR, e_goto, e_ii2, e_il2, e_is2, e_putI, e_ret, Option.toList_some, Option.toList_none, List.cons_append, List.nil_append, List.append_nil, List.length_cons, List.length_nil, Nat.reduceAdd, Nat.reduceLeDiff, Nat.zero_le, true_and, and_true, and_self, true_implies, forall_const, ai_rvs, ai_rv0, ai_b_0, Classical.not_not, not_true_eq_false, false_implies, not_false_eq_true, true_implies, and_true, true_and, if_true, if_false, Bool.false_eq_true, Int32.le_refl, kq_of (yb_bk hD), kq_of (yb_bk hE), BO, true_or, ai_uo, e]
    exact kk
  | r + 1, i, hi => by
    have ih := c1_l hD hE hne sD sE hd he kk r (i + 1) (by omega)
    obtain ⟨d1, d2⟩ := hd i (by omega)
    obtain ⟨e1, e2⟩ := he i (by omega)
    rw [H1_2]
    simp (disch := omega) only [K1, ai_c1i, ai_c1n, ai_c1r, e_aald, e_al0, e_al1, e_an0, e_an1, e_c3, e_const, e_cv2, e_getI, e_getR, e_goto, e_ii2, e_il2, e_is2, e_putI, e_ret, Option.toList_some, Option.toList_none, List.cons_append, List.nil_append, List.append_nil, List.length_cons, List.length_nil, Nat.reduceAdd, Nat.reduceLeDiff, Nat.zero_le, true_and, and_true, and_self, true_implies, forall_const, ai_rvs, ai_rv0, ai_b_0, Classical.not_not, not_true_eq_false, false_implies, not_false_eq_true, true_implies, and_true, true_and, if_true, if_false, Bool.false_eq_true, nIle, kq_of (yb_bk hD), kq_of (yb_bk hE), mb_o hD sD, mb_o hE sE, ar3_of (yb_oa hD), ar3_of (yb_oa hE), nIc, d2, e2]
    refine ⟨fun g => absurd g (by omega), fun _ => ⟨kq_of (yb_od hD d1), ?_⟩⟩
    refine c53 hD hE hne d1 e1 ?_
    simp (disch := omega) only [K1, ai_c1i, ai_c1n, ai_c1r, e_aald, e_al0, e_al1, e_an0, e_an1, e_c3, e_const, e_cv2, e_getI, e_getR, e_goto, e_ii2, e_il2, e_is2, e_putI, e_ret, Option.toList_some, Option.toList_none, List.cons_append, List.nil_append, List.append_nil, List.length_cons, List.length_nil, Nat.reduceAdd, Nat.reduceLeDiff, Nat.zero_le, true_and, and_true, and_self, true_implies, forall_const, ai_rvs, ai_rv0, ai_b_0, Classical.not_not, not_true_eq_false, false_implies, not_false_eq_true, true_implies, and_true, true_and, if_true, if_false, Bool.false_eq_true, nIa]
    exact ih
/-- Book.copyFrom -/
theorem c1 {I : Nat → Nat → Int32} {pD pE : Nat → Nat} (hD : BB D) (hE : BB E) (hne : D ≠ E) (sD : MS D M) (sE : MS E M) (hd : ∀ i, i < 16 → pD i < 16 ∧ M (D + 64) i = D + 65 + pD i + 1) (he : ∀ i, i < 16 → pE i < 16 ∧ M (E + 64) i = E + 65 + pE i + 1)
    (kk : Q none (LK, ai_u (ai_u (hbk I D E pD pE 16) (D + 63) 1 (I (E + 63) 1)) (D + 63) 2 (I (E + 63) 2), M)) : Cl (d + 1) 1 [.ref (D + 63), .ref (E + 63)] (LK, I, M) Q := by
  simp (disch := omega) only [E1, K1, ai_c1i, ai_c1n, ai_c1r, e_aald, e_al0, e_al1, e_an0, e_an1, e_c3, e_const, e_cv2, e_getI, e_getR, e_goto, e_ii2, e_il2, e_is2, e_putI, e_ret, Option.toList_some, Option.toList_none, List.cons_append, List.nil_append, List.append_nil, List.length_cons, List.length_nil, Nat.reduceAdd, Nat.reduceLeDiff, Nat.zero_le, true_and, and_true, and_self, true_implies, forall_const, ai_rvs, ai_rv0, ai_b_0, Classical.not_not, not_true_eq_false, false_implies, not_false_eq_true, true_implies, and_true, true_and, if_true, if_false, Bool.false_eq_true]
  exact c1_l hD hE hne sD sE hd he kk 16 0 (by omega)
theorem hhs_at {I : Nat → Nat → Int32} (hD : BB D) (hE : BB E) (hne : D ≠ E) {a j : Nat} : ∀ n, n ≤ 30 → hhs I D E n a j = if D + 83 ≤ a ∧ a < D + 83 + n ∧ j < 6 then I (a + E - D) j else I a j
  | 0, _ => by
    rw [hhs, if_neg (by omega)]
  | n + 1, hn => by
    have hD' : D = 1 ∨ D = 114 := hD
    have hE' : E = 1 ∨ E = 114 := hE
    rw [hhs]
    unfold cpf
    by_cases h1 : a = D + 83 + n ∧ j < 6
    · rw [if_pos h1, if_pos (by omega), hhs_at hD hE hne n (by omega), if_neg (by omega)]
      congr 1
      omega
    · rw [if_neg h1, hhs_at hD hE hne n (by omega)]
      by_cases h2 : D + 83 ≤ a ∧ a < D + 83 + n ∧ j < 6
      · rw [if_pos h2, if_pos (by omega)]
      · rw [if_neg h2, if_neg (by omega)]
theorem c31_l {I : Nat → Nat → Int32} (hD : BB D) (hE : BB E) (hne : D ≠ E) (sD : MS D M) (sE : MS E M) (kk : Q none (LK, ai_u (hhs I D E 30) (D + 81) 1 (I (E + 81) 1), M)) : ∀ r i, r + i = 30 → Ev (d + 1) X0 31 2 [.ref (D + 81), .ref (E + 81), .int (nI i)] [] (LK, hhs I D E i, M) Q
  | 0, i, hi => by
    obtain rfl : i = 30 := by omega
    have hD' : D = 1 ∨ D = 114 := hD
    have hE' : E = 1 ∨ E = 114 := hE
    have e : hhs I D E 30 (E + 81) 1 = I (E + 81) 1 := by rw [hhs_at hD hE hne 30 (by omega), if_neg (by omega)]
    rw [H31_2]
    simp (disch := omega) only [K31, e_aald, e_al0, e_al1, e_an0, e_an1, e_c3, e_const, e_getI, e_getR, e_goto, e_ii2, e_il2, e_is2, e_putI, e_ret, Option.toList_some, Option.toList_none, List.cons_append, List.nil_append, List.append_nil, List.length_cons, List.length_nil, Nat.reduceAdd, Nat.reduceLeDiff, Nat.zero_le, true_and, and_true, and_self, true_implies, forall_const, ai_rvs, ai_rv0, ai_b_0, Classical.not_not, not_true_eq_false, false_implies, not_false_eq_true, true_implies, and_true, true_and, if_true, if_false, Bool.false_eq_true, Int32.le_refl, kq_of (yb_hy hD), kq_of (yb_hy hE), BO, true_or, ai_uo, e]
    exact kk
  | r + 1, i, hi => by
    have ih := c31_l hD hE hne sD sE kk r (i + 1) (by omega)
    rw [H31_2]
    simp (disch := omega) only [K31, e_aald, e_al0, e_al1, e_an0, e_an1, e_c3, e_const, e_getI, e_getR, e_goto, e_ii2, e_il2, e_is2, e_putI, e_ret, Option.toList_some, Option.toList_none, List.cons_append, List.nil_append, List.append_nil, List.length_cons, List.length_nil, Nat.reduceAdd, Nat.reduceLeDiff, Nat.zero_le, true_and, and_true, and_self, true_implies, forall_const, ai_rvs, ai_rv0, ai_b_0, Classical.not_not, not_true_eq_false, false_implies, not_false_eq_true, true_implies, and_true, true_and, if_true, if_false, Bool.false_eq_true, nIle, kq_of (yb_hy hD), kq_of (yb_hy hE), mb_h hD sD, mb_h hE sE, ar3_of (yb_ra hD), ar3_of (yb_ra hE), nIc, mb_ra hD sD, mb_ra hE sE, e_cp (yb_hs hE (m := i) (by omega)) (yb_hs hD (m := i) (by omega)) (n := 6) (by omega) (by omega) (by omega), nIa]
    exact ⟨fun g => absurd g (by omega), fun _ => ih⟩
/-- History.copyFrom -/
theorem c31 {I : Nat → Nat → Int32} (hD : BB D) (hE : BB E) (hne : D ≠ E) (sD : MS D M) (sE : MS E M) (kk : Q none (LK, ai_u (hhs I D E 30) (D + 81) 1 (I (E + 81) 1), M)) : Cl (d + 1) 31 [.ref (D + 81), .ref (E + 81)] (LK, I, M) Q := by
  simp (disch := omega) only [E31, K31, e_aald, e_al0, e_al1, e_an0, e_an1, e_c3, e_const, e_getI, e_getR, e_goto, e_ii2, e_il2, e_is2, e_putI, e_ret, Option.toList_some, Option.toList_none, List.cons_append, List.nil_append, List.append_nil, List.length_cons, List.length_nil, Nat.reduceAdd, Nat.reduceLeDiff, Nat.zero_le, true_and, and_true, and_self, true_implies, forall_const, ai_rvs, ai_rv0, ai_b_0, Classical.not_not, not_true_eq_false, false_implies, not_false_eq_true, true_implies, and_true, true_and, if_true, if_false, Bool.false_eq_true]
  exact c31_l hD hE hne sD sE kk 30 0 (by omega)
theorem hmk_at {I : Nat → Nat → Int32} (hD : BB D) (hE : BB E) (hne : D ≠ E) {a j : Nat} : ∀ n, n ≤ 6 → hmk I D E n a j = if (a = D + 1 ∧ j < 6) ∨ (D + 3 ≤ a ∧ a < D + 3 + 10 * n ∧ (((a - D - 3) % 10 = 0 ∧ 4 ≤ j ∧ j < 13) ∨ ((a - D - 3) % 10 = 1 ∧ j < 4) ∨ (3 ≤ (a - D - 3) % 10 ∧ (a - D - 3) % 10 < 9 ∧ j < 4) ∨ ((a - D - 3) % 10 = 9 ∧ j < 6))) then I (a + E - D) j else I a j
  | 0, _ => by
    rw [hmk]
    unfold cpf
    by_cases h1 : a = D + 1 ∧ j < 6
    · rw [if_pos h1, if_pos (by omega)]
      congr 1
      omega
    · rw [if_neg h1, if_neg (by omega)]
  | n + 1, hn => by
    have hD' : D = 1 ∨ D = 114 := hD
    have hE' : E = 1 ∨ E = 114 := hE
    rw [hmk]
    unfold cm2
    have ih := fun a j => hmk_at (I := I) hD hE hne (a := a) (j := j) n (by omega)
    by_cases h1 : (a = D + 4 + 10 * n ∧ j < 4) ∨ (D + 6 + 10 * n ≤ a ∧ a < D + 12 + 10 * n ∧ j < 4) ∨ (a = D + 12 + 10 * n ∧ j < 6) ∨ (a = D + 3 + 10 * n ∧ 4 ≤ j ∧ j < 13)
    · rw [if_pos h1, ih, if_neg (by omega), if_pos (by omega)]
    · rw [if_neg h1, ih]
      by_cases h2 : (a = D + 1 ∧ j < 6) ∨ (D + 3 ≤ a ∧ a < D + 3 + 10 * n ∧ (((a - D - 3) % 10 = 0 ∧ 4 ≤ j ∧ j < 13) ∨ ((a - D - 3) % 10 = 1 ∧ j < 4) ∨ (3 ≤ (a - D - 3) % 10 ∧ (a - D - 3) % 10 < 9 ∧ j < 4) ∨ ((a - D - 3) % 10 = 9 ∧ j < 6)))
      · rw [if_pos h2, if_pos (by omega)]
      · rw [if_neg h2, if_neg (by omega)]
def hex (I : Nat → Nat → Int32) (D E : Nat) (pD pE : Nat → Nat) : Nat → Nat → Int32 :=
  let H1 := hmk I D E 6
  let H2 := ai_u (ai_u (hbk H1 D E pD pE 16) (D + 63) 1 (H1 (E + 63) 1)) (D + 63) 2 (H1 (E + 63) 2)
  let H3 := ai_u (hhs H2 D E 30) (D + 81) 1 (H2 (E + 81) 1)
  ai_u (ai_u H3 D 4 (H3 E 4)) D 5 (H3 E 5)
theorem c8_l {I : Nat → Nat → Int32} {pD pE : Nat → Nat} (hD : BB D) (hE : BB E) (hne : D ≠ E) (sD : MS D M) (sE : MS E M) (hd : ∀ i, i < 16 → pD i < 16 ∧ M (D + 64) i = D + 65 + pD i + 1) (he : ∀ i, i < 16 → pE i < 16 ∧ M (E + 64) i = E + 65 + pE i + 1)
    (kk : Q none (LK, hex I D E pD pE, M)) : ∀ r i, r + i = 6 → Ev (d + 2) X0 8 17 [.ref D, .ref E, .int (nI i)] [] (LK, hmk I D E i, M) Q
  | 0, i, hi => by
    obtain rfl : i = 6 := by omega
    have hD' : D = 1 ∨ D = 114 := hD
    have hE' : E = 1 ∨ E = 114 := hE
    rw [H8_17]
    simp (disch := omega) only [K8, ai_c1i, ai_c1n, ai_c1r, e_aald, e_al0, e_al1, e_an0, e_an1, e_c3, e_const, e_cv2, e_getI, e_getR, e_goto, e_ii2, e_il2, e_is2, e_putI, e_ret, Option.toList_some, Option.toList_none, List.cons_append, List.nil_append, List.append_nil, List.length_cons, List.length_nil, Nat.reduceAdd, Nat.reduceLeDiff, Nat.zero_le, true_and, and_true, and_self, true_implies, forall_const, ai_rvs, ai_rv0, ai_b_0, Classical.not_not, not_true_eq_false, false_implies, not_false_eq_true, true_implies, and_true, true_and, if_true, if_false, Bool.false_eq_true, Int32.le_refl, kq_of (yb_e hD), kq_of (yb_e hE), mb_2 hD sD, mb_2 hE sE, kq_of (yb_bk hD)]
    refine c1 hD hE hne sD sE hd he ?_
    simp (disch := omega) only [K8, ai_c1i, ai_c1n, ai_c1r, e_aald, e_al0, e_al1, e_an0, e_an1, e_c3, e_const, e_cv2, e_getI, e_getR, e_goto, e_ii2, e_il2, e_is2, e_putI, e_ret, Option.toList_some, Option.toList_none, List.cons_append, List.nil_append, List.append_nil, List.length_cons, List.length_nil, Nat.reduceAdd, Nat.reduceLeDiff, Nat.zero_le, true_and, and_true, and_self, true_implies, forall_const, ai_rvs, ai_rv0, ai_b_0, Classical.not_not, not_true_eq_false, false_implies, not_false_eq_true, true_implies, and_true, true_and, if_true, if_false, Bool.false_eq_true, kq_of (yb_e hD), kq_of (yb_e hE), mb_3 hD sD, mb_3 hE sE, kq_of (yb_hy hD)]
    refine c31 hD hE hne sD sE ?_
    simp (disch := omega) only [K8, ai_c1i, ai_c1n, ai_c1r, e_aald, e_al0, e_al1, e_an0, e_an1, e_c3, e_const, e_cv2, e_getI, e_getR, e_goto, e_ii2, e_il2, e_is2, e_putI, e_ret, Option.toList_some, Option.toList_none, List.cons_append, List.nil_append, List.append_nil, List.length_cons, List.length_nil, Nat.reduceAdd, Nat.reduceLeDiff, Nat.zero_le, true_and, and_true, and_self, true_implies, forall_const, ai_rvs, ai_rv0, ai_b_0, Classical.not_not, not_true_eq_false, false_implies, not_false_eq_true, true_implies, and_true, true_and, if_true, if_false, Bool.false_eq_true, kq_of (yb_e hD), kq_of (yb_e hE), BO, true_or, ai_uo]
    unfold hex at kk
    simp (disch := omega) only [ai_uo] at kk
    exact kk
  | r + 1, i, hi => by
    have ih := c8_l hD hE hne sD sE hd he kk r (i + 1) (by omega)
    rw [hmk] at ih
    rw [H8_17]
    simp (disch := omega) only [K8, ai_c1i, ai_c1n, ai_c1r, e_aald, e_al0, e_al1, e_an0, e_an1, e_c3, e_const, e_cv2, e_getI, e_getR, e_goto, e_ii2, e_il2, e_is2, e_putI, e_ret, Option.toList_some, Option.toList_none, List.cons_append, List.nil_append, List.append_nil, List.length_cons, List.length_nil, Nat.reduceAdd, Nat.reduceLeDiff, Nat.zero_le, true_and, and_true, and_self, true_implies, forall_const, ai_rvs, ai_rv0, ai_b_0, Classical.not_not, not_true_eq_false, false_implies, not_false_eq_true, true_implies, and_true, true_and, if_true, if_false, Bool.false_eq_true, nIle, kq_of (yb_e hD), kq_of (yb_e hE), mb_1 hD sD, mb_1 hE sE, ar3_of (yb_ma hD), ar3_of (yb_ma hE), nIc, mb_ma hD sD, mb_ma hE sE]
    refine ⟨fun g => absurd g (by omega), fun _ => ⟨kq_of (yb_mk (m := i) hD (by omega)), ?_⟩⟩
    refine c36 hD hE hne sD sE (by omega) ?_
    simp (disch := omega) only [K8, ai_c1i, ai_c1n, ai_c1r, e_aald, e_al0, e_al1, e_an0, e_an1, e_c3, e_const, e_cv2, e_getI, e_getR, e_goto, e_ii2, e_il2, e_is2, e_putI, e_ret, Option.toList_some, Option.toList_none, List.cons_append, List.nil_append, List.append_nil, List.length_cons, List.length_nil, Nat.reduceAdd, Nat.reduceLeDiff, Nat.zero_le, true_and, and_true, and_self, true_implies, forall_const, ai_rvs, ai_rv0, ai_b_0, Classical.not_not, not_true_eq_false, false_implies, not_false_eq_true, true_implies, and_true, true_and, if_true, if_false, Bool.false_eq_true, nIa]
    exact ih
theorem c8h {I : Nat → Nat → Int32} {pD pE : Nat → Nat} (hD : BB D) (hE : BB E) (hne : D ≠ E) (sD : MS D M) (sE : MS E M) (hd : ∀ i, i < 16 → pD i < 16 ∧ M (D + 64) i = D + 65 + pD i + 1) (he : ∀ i, i < 16 → pE i < 16 ∧ M (E + 64) i = E + 65 + pE i + 1)
    (kk : Q none (LK, hex I D E pD pE, M)) : Cl (d + 2) 8 [.ref D, .ref E] (LK, I, M) Q := by
  simp (disch := omega) only [E8, K8, ai_c1i, ai_c1n, ai_c1r, e_aald, e_al0, e_al1, e_an0, e_an1, e_c3, e_const, e_cv2, e_getI, e_getR, e_goto, e_ii2, e_il2, e_is2, e_putI, e_ret, Option.toList_some, Option.toList_none, List.cons_append, List.nil_append, List.append_nil, List.length_cons, List.length_nil, Nat.reduceAdd, Nat.reduceLeDiff, Nat.zero_le, true_and, and_true, and_self, true_implies, forall_const, ai_rvs, ai_rv0, ai_b_0, Classical.not_not, not_true_eq_false, false_implies, not_false_eq_true, true_implies, and_true, true_and, if_true, if_false, Bool.false_eq_true, kq_of (yb_e hD), kq_of (yb_e hE), mb_0 hD sD, mb_0 hE sE, e_cp (yb_bl hE) (yb_bl hD) (n := 6) (by omega) (by omega) (by omega)]
  exact c8_l hD hE hne sD sE hd he kk 6 0 (by omega)
end COPYB
