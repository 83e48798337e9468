/-! the law -/
theorem and31 (x : Int32) : ∃ j, j < 32 ∧ x &&& nI 31 = nI j := by
  refine ⟨(x &&& nI 31).toBitVec.toNat, ?_, ?_⟩
  · rw [Int32.toBitVec_and, BitVec.toNat_and]
    exact Nat.lt_of_le_of_lt Nat.and_le_right (by decide)
  · apply Int32.toBitVec_inj.mp
    apply BitVec.eq_of_toNat_eq
    show _ = (BitVec.ofNat 32 (x &&& nI 31).toBitVec.toNat).toNat
    rw [BitVec.toNat_ofNat, Nat.mod_eq_of_lt (x &&& nI 31).toBitVec.isLt]
theorem ltL {L i : Nat} (hL : L < 1000000) (hi : i < 1000000) : (nI L - nI 6 < nI i) ↔ L < i + 6 := by
  rw [Int32.lt_iff_toInt_lt, nI_subT (by omega) (by omega), nI_toInt (by omega)]
  omega
section LAWC
variable {X : ai_X} {d : Nat} {Q : Option Value → ai_H → Prop}
theorem law_l (hX0 : X.1 ≠ 0) (hL : X.1 ≤ 3073) (kk : ∀ I M, Q (some (.int (nI 1))) (LK, I, M)) : ∀ r i c I M, X.1 - 1 < i + 6 * r → i = 6 * c → c ≤ 512 → WI c I M → Ev (d + 60) X 162 18 [.retAddr 0, .ref 0, .ref 229, .int (nI i)] [] (LK, I, M) Q
  | 0, i, c, I, M, hr, hi, hc, h => by
    have g : X.1 - 1 < i + 6 := by omega
    have k3 := kk I M
    have eL : Int32.ofNat (X.1 - 1) = nI (X.1 - 1) := rfl
    have gt : (nI (X.1 - 1) - nI 6 < nI i) = True := eq_true ((ltL (by omega) (by omega)).mpr g)
    rw [H162_18]
    simp (disch := omega) only [k162_19, k162_20, k162_21, k162_23, k162_24, k162_27, k162_28, k162_29, k162_30, k162_32, k162_33, k162_1234, k162_1235, e_al1, e_al2, e_xl0, e_il3, e_is3, e_as1, e_as2, e_const, e_b0, e_b1, e_b3, e_xald, e_xlen, e_c4, e_ii3, e_goto, e_sw, e_dupr, e_dupi, e_ci1, e_retb, ai_c1n, ai_c1i, ai_c1r, Option.toList_some, Option.toList_none, List.cons_append, List.nil_append, List.append_nil, List.length_cons, List.length_nil, Nat.reduceAdd, Nat.reduceLeDiff, Nat.zero_le, true_and, and_true, and_self, true_implies, forall_const, ai_rvs, ai_rv0, ai_b_0, Classical.not_not, not_true_eq_false, false_implies, not_false_eq_true, true_implies, and_true, true_and, if_true, if_false, Bool.false_eq_true, eq_self, eL, gt, hX0, ne_eq]
    exact ⟨Or.inr rfl, k3⟩
  | r + 1, i, c, I, M, hr, hi, hc, h => by
    have eL : Int32.ofNat (X.1 - 1) = nI (X.1 - 1) := rfl
    by_cases g : X.1 - 1 < i + 6
    · have k3 := kk I M
      have gt : (nI (X.1 - 1) - nI 6 < nI i) = True := eq_true ((ltL (by omega) (by omega)).mpr g)
      rw [H162_18]
      simp (disch := omega) only [k162_19, k162_20, k162_21, k162_23, k162_24, k162_27, k162_28, k162_29, k162_30, k162_32, k162_33, k162_1234, k162_1235, e_al1, e_al2, e_xl0, e_il3, e_is3, e_as1, e_as2, e_const, e_b0, e_b1, e_b3, e_xald, e_xlen, e_c4, e_ii3, e_goto, e_sw, e_dupr, e_dupi, e_ci1, e_retb, ai_c1n, ai_c1i, ai_c1r, Option.toList_some, Option.toList_none, List.cons_append, List.nil_append, List.append_nil, List.length_cons, List.length_nil, Nat.reduceAdd, Nat.reduceLeDiff, Nat.zero_le, true_and, and_true, and_self, true_implies, forall_const, ai_rvs, ai_rv0, ai_b_0, Classical.not_not, not_true_eq_false, false_implies, not_false_eq_true, true_implies, and_true, true_and, if_true, if_false, Bool.false_eq_true, eq_self, eL, gt, hX0, ne_eq]
      exact ⟨Or.inr rfl, k3⟩
    · have gt : (nI (X.1 - 1) - nI 6 < nI i) = False := eq_false (fun h => g ((ltL (by omega) (by omega)).mp h))
      have hin : ∀ t, t ≤ 5 → ai_in (nI (i + t)) (X.1 - 1) = true := fun t ht => in_nI (by omega) (by omega)
      have hin0 : ai_in (nI i) (X.1 - 1) = true := hin 0 (by omega)
      have hc5 : c < 512 := by omega
      have nx : ∀ I' M', WI (c + 1) I' M' → Ev (d + 60) X 162 1228 [.retAddr 0, .ref 0, .ref 229, .int (nI i)] [] (LK, I', M') Q := fun I' M' h' => by
        have ih := law_l hX0 hL kk r (i + 6) (c + 1) I' M' (by omega) (by omega) (by omega) h'
        simp (disch := omega) only [k162_1228, k162_1231, e_al1, e_al2, e_xl0, e_il3, e_is3, e_as1, e_as2, e_const, e_b0, e_b1, e_b3, e_xald, e_xlen, e_c4, e_ii3, e_goto, e_sw, e_dupr, e_dupi, e_ci1, e_retb, ai_c1n, ai_c1i, ai_c1r, Option.toList_some, Option.toList_none, List.cons_append, List.nil_append, List.append_nil, List.length_cons, List.length_nil, Nat.reduceAdd, Nat.reduceLeDiff, Nat.zero_le, true_and, and_true, and_self, true_implies, forall_const, ai_rvs, ai_rv0, ai_b_0, Classical.not_not, not_true_eq_false, false_implies, not_false_eq_true, true_implies, and_true, true_and, if_true, if_false, Bool.false_eq_true, eq_self, nIa]
        exact ih
      obtain ⟨j, hj, ej⟩ := and31 (X.2 i)
      rw [H162_18]
      simp (disch := omega) only [k162_19, k162_20, k162_21, k162_23, k162_24, k162_27, k162_28, k162_29, k162_30, k162_32, k162_33, k162_1234, k162_1235, e_al1, e_al2, e_xl0, e_il3, e_is3, e_as1, e_as2, e_const, e_b0, e_b1, e_b3, e_xald, e_xlen, e_c4, e_ii3, e_goto, e_sw, e_dupr, e_dupi, e_ci1, e_retb, ai_c1n, ai_c1i, ai_c1r, Option.toList_some, Option.toList_none, List.cons_append, List.nil_append, List.append_nil, List.length_cons, List.length_nil, Nat.reduceAdd, Nat.reduceLeDiff, Nat.zero_le, true_and, and_true, and_self, true_implies, forall_const, ai_rvs, ai_rv0, ai_b_0, Classical.not_not, not_true_eq_false, false_implies, not_false_eq_true, true_implies, and_true, true_and, if_true, if_false, Bool.false_eq_true, eq_self, eL, gt, hX0, ne_eq, hin0, nIc, ej, sw_in]
      rcases (by omega : j = 0 ∨ j = 1 ∨ j = 2 ∨ j = 3 ∨ j = 4 ∨ j = 5 ∨ j = 6 ∨ j = 7 ∨ j = 8 ∨ j = 9 ∨ j = 10 ∨ j = 11 ∨ j = 12 ∨ j = 13 ∨ j = 14 ∨ j = 15 ∨ j = 16 ∨ j = 17 ∨ j = 18 ∨ j = 19 ∨ j = 20 ∨ j = 21 ∨ j = 22 ∨ j = 23 ∨ j = 24 ∨ j = 25 ∨ j = 26 ∨ j = 27 ∨ j = 28 ∨ j = 29 ∨ 30 ≤ j) with rfl | rfl | rfl | rfl | rfl | rfl | rfl | rfl | rfl | rfl | rfl | rfl | rfl | rfl | rfl | rfl | rfl | rfl | rfl | rfl | rfl | rfl | rfl | rfl | rfl | rfl | rfl | rfl | rfl | rfl | h30
      · exact law_0 hin hc5 (by omega) h nx
      · exact law_1 hin hc5 (by omega) h nx
      · exact law_2 hin hc5 (by omega) h nx
      · exact law_3 hin hc5 (by omega) h nx
      · exact law_4 hin hc5 (by omega) h nx
      · exact law_5 hin hc5 (by omega) h nx
      · exact law_6 hin hc5 (by omega) h nx
      · exact law_7 hin hc5 (by omega) h nx
      · exact law_8 hin hc5 (by omega) h nx
      · exact law_9 hin hc5 (by omega) h nx
      · exact law_10 hin hc5 (by omega) h nx
      · exact law_11 hin hc5 (by omega) h nx
      · exact law_12 hin hc5 (by omega) h nx
      · exact law_13 hin hc5 (by omega) h nx
      · exact law_14 hin hc5 (by omega) h nx
      · exact law_15 hin hc5 (by omega) h nx
      · exact law_16 hin hc5 (by omega) h nx
      · exact law_17 hin hc5 (by omega) h nx
      · exact law_18 hin hc5 (by omega) h nx
      · exact law_19 hin hc5 (by omega) h nx
      · exact law_20 hin hc5 (by omega) h nx
      · exact law_21 hin hc5 (by omega) h nx
      · exact law_22 hin hc5 (by omega) h nx
      · exact law_23 hin hc5 (by omega) h nx
      · exact law_24 hin hc5 (by omega) h nx
      · exact law_25 hin hc5 (by omega) h nx
      · exact law_26 hin hc5 (by omega) h nx
      · exact law_27 hin hc5 (by omega) h nx
      · exact law_28 hin hc5 (by omega) h nx
      · exact law_29 hin hc5 (by omega) h nx
      · have e30 : (([168, 211, 274, 307, 340, 383, 436, 489, 542, 605, 628, 661, 694, 717, 750, 773, 806, 839, 882, 915, 948, 991, 1024, 1057, 1100, 1133, 1156, 1189, 1202, 1215] : List Nat)[j]?).getD 1228 = 1228 := by
          rw [List.getElem?_eq_none (by simpa using h30), Option.getD_none]
        rw [e30]
        refine nx I M ?_
        obtain ⟨S, k, S', k', s, tx, len, T, N, tm, T', N', tm', hp, hi, hi', b1, b2, b3, b4, b5, b6⟩ := h
        exact ⟨S, k, S', k', s, tx, len, T, N, tm, T', N', tm', hp, hi, hi', by omega, by omega, by omega, by omega, by omega, by omega⟩
theorem law_b (hX0 : X.1 ≠ 0) (hL : X.1 ≤ 3073) (kk : ∀ I M, Q (some (.int (nI 1))) (LK, I, M)) : Ev (d + 60) X 162 0 [.retAddr 0, UU, UU, UU] [] ([], fun _ _ => 0, fun _ _ => 0) Q := by
  have e0 : ([] : List (Nat × Nat)) = LK.take 0 := rfl
  have x0 : LK[0]? = some (6, 4) := y0_0
  have x229 : LK[229]? = some (7, 7) := y0_229
  have c0 : ai_kq (LK.take 1) 0 = some 6 := tk_kq y0_0 (by omega)
  have c1 : ai_kq (LK.take 230) 229 = some 7 := tk_kq y0_229 (by omega)
  rw [e0]
  simp (disch := omega) only [k162_0, k162_3, k162_4, k162_7, k162_8, k162_11, k162_12, k162_15, k162_16, k162_17, e_al1, e_al2, e_xl0, e_il3, e_is3, e_as1, e_as2, e_const, e_b0, e_b1, e_b3, e_xald, e_xlen, e_c4, e_ii3, e_goto, e_sw, e_dupr, e_dupi, e_ci1, e_retb, ai_c1n, ai_c1i, ai_c1r, Option.toList_some, Option.toList_none, List.cons_append, List.nil_append, List.append_nil, List.length_cons, List.length_nil, Nat.reduceAdd, Nat.reduceLeDiff, Nat.zero_le, true_and, and_true, and_self, true_implies, forall_const, ai_rvs, ai_rv0, ai_b_0, Classical.not_not, not_true_eq_false, false_implies, not_false_eq_true, true_implies, and_true, true_and, if_true, if_false, Bool.false_eq_true, eq_self, e_new x0, c0]
  refine b60 (d := d + 55) (fun j => az_h') fun I1 M1 f1 => ?_
  simp (disch := omega) only [k162_0, k162_3, k162_4, k162_7, k162_8, k162_11, k162_12, k162_15, k162_16, k162_17, e_al1, e_al2, e_xl0, e_il3, e_is3, e_as1, e_as2, e_const, e_b0, e_b1, e_b3, e_xald, e_xlen, e_c4, e_ii3, e_goto, e_sw, e_dupr, e_dupi, e_ci1, e_retb, ai_c1n, ai_c1i, ai_c1r, Option.toList_some, Option.toList_none, List.cons_append, List.nil_append, List.append_nil, List.length_cons, List.length_nil, Nat.reduceAdd, Nat.reduceLeDiff, Nat.zero_le, true_and, and_true, and_self, true_implies, forall_const, ai_rvs, ai_rv0, ai_b_0, Classical.not_not, not_true_eq_false, false_implies, not_false_eq_true, true_implies, and_true, true_and, if_true, if_false, Bool.false_eq_true, eq_self, e_new x229, c1]
  refine b96 (d := d + 58) fun I2 M2 o2 p2 m2 z2 => ?_
  simp (disch := omega) only [k162_0, k162_3, k162_4, k162_7, k162_8, k162_11, k162_12, k162_15, k162_16, k162_17, e_al1, e_al2, e_xl0, e_il3, e_is3, e_as1, e_as2, e_const, e_b0, e_b1, e_b3, e_xald, e_xlen, e_c4, e_ii3, e_goto, e_sw, e_dupr, e_dupi, e_ci1, e_retb, ai_c1n, ai_c1i, ai_c1r, Option.toList_some, Option.toList_none, List.cons_append, List.nil_append, List.append_nil, List.length_cons, List.length_nil, Nat.reduceAdd, Nat.reduceLeDiff, Nat.zero_le, true_and, and_true, and_self, true_implies, forall_const, ai_rvs, ai_rv0, ai_b_0, Classical.not_not, not_true_eq_false, false_implies, not_false_eq_true, true_implies, and_true, true_and, if_true, if_false, Bool.false_eq_true, eq_self]
  have hl : ∀ a j, a < 229 → I2 a j = I1 a j ∧ M2 a j = M1 a j := fun a j ha => by
    rw [(o2 a j ha).1, (o2 a j ha).2, az_n' (by omega), az_n (by omega)]
    exact ⟨rfl, rfl⟩
  have f2 : FC0 I2 M2 := by
    obtain ⟨a1, a2, a3, a4, a5, a6, a7, a8, a9, a10⟩ := f1
    refine ⟨fun a j h1 h2 h3 => ?_, fun i hi => ?_, fun a j h1 h2 h3 => ?_, fun i hi => ?_, ?_, ?_, ?_, ?_, ?_, ?_⟩
    · rw [(hl a j (by omega)).1, (hl a j (by omega)).2]; exact a1 a j h1 h2 h3
    · rw [(hl 65 i (by omega)).2]; exact a2 i hi
    · rw [(hl a j (by omega)).1, (hl a j (by omega)).2]; exact a3 a j h1 h2 h3
    · rw [(hl 178 i (by omega)).2]; exact a4 i hi
    · rw [(hl 0 3 (by omega)).1]; exact a5
    · rw [(hl 0 0 (by omega)).2]; exact a6
    · rw [(hl 0 1 (by omega)).2]; exact a7
    · rw [(hl 0 2 (by omega)).2]; exact a8
    · rw [(hl 227 1 (by omega)).1]; exact a9
    · rw [(hl 227 0 (by omega)).2]; exact a10
  have z229 : ∀ j, I2 229 j = 0 := fun j => by
    rw [p2 j]
    exact az_h'
  refine law_l hX0 hL kk 513 0 0 I2 M2 (by omega) rfl (by omega) ⟨S0, 0, S0, 0, false, fun _ => 0, 0, 0, 0, 0, 0, 0, 0, ⟨WD_0 f2, m2, RJ_0 z2, fun h => absurd h (by decide), z229 2, Nat.zero_le _, z229 4, fun i hi => absurd hi (by omega)⟩, INV_0, fun h => absurd h (by decide), by omega, by omega, by omega, by omega, by omega, by omega⟩
end LAWC
theorem ai_law : ai_Law := fun L xs hL => by
  have h := law_b (X := (L + 1, xs)) (d := 0) (Q := fun r h' => r = some (.int (nI 1)) ∧ h'.1 = LK) (Nat.succ_ne_zero L) (by show L + 1 ≤ 3073; omega) (fun I M => ⟨rfl, rfl⟩)
  obtain ⟨n, r, h', e1, e2, e3⟩ := h
  refine ⟨n, h', ?_, ?_, ?_⟩
  · rw [e2] at e1
    exact e1
  · rw [e3]
    decide +kernel
  · unfold ai_sum
    rw [e3]
    decide +kernel
