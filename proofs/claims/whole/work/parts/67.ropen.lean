/-! the reference opens markets -/
/-- a slot without a market -/
def BL (g : Nat → Int32) (k : Nat) : Prop := ∀ m w, k ≤ m → m < 6 → w < 43 → (w = 0 ∨ 6 ≤ w) → g (12 + 43 * m + w) = if w = 7 then -1 else nI 0
section ROPEN
variable {I : Nat → Nat → Int32} {J : Nat → Int32} {M : Nat → Nat → Nat} {S : St} {m k T tm : Nat} {d : Nat} {Q : Option Value → ai_H → Prop}
theorem r110 (hm : RM M) (hj : RJ J S k) (ht0 : S.1 0 = nI tm) (htm : tm < 1000000) {b n e : Int32} : Cl (d + 1) 110 [.ref 229, .int b, .int n, .int e] (LK, sr I J, M) Q ↔ Q (some (.int (ai_b (p_can S.1 b n e = true)))) (LK, sr I J, M) := by
  refine Cl_one ?_
  have e0 : J 0 = nI tm := by rw [hj.2.2.1 0 (by omega) (by omega)]; exact ht0
  have hf : p_can S.1 b n e = false → nI 0 = ai_b (p_can S.1 b n e = true) := fun e => by rw [e, ai_b_f Bool.false_ne_true]
  have n10 : (nI 1 = nI 0) = False := eq_false (by decide)
  by_cases g1 : b ≤ nI 0
  · simp (disch := omega) only [E110, K110, ai_c1i, ai_c1n, ai_c1r, e_al0, e_an0, e_c4, e_c5, e_const, e_cs3, e_getR, e_goto, e_iald, e_il1, e_il2, e_il3, e_rem, e_retb, e_z0, e_z1, e_z5, Option.toList_some, Option.toList_none, List.cons_append, List.nil_append, List.append_nil, List.length_cons, List.length_nil, Nat.reduceAdd, Nat.reduceLeDiff, Nat.zero_le, true_and, and_true, and_self, true_implies, forall_const, ai_rvs, ai_rv0, ai_b_0, Classical.not_not, not_true_eq_false, false_implies, not_false_eq_true, true_implies, and_true, true_and, if_true, if_false, Bool.false_eq_true, q_229, a_nw, g1]
    refine ⟨Or.inl rfl, ?_⟩
    rw [hf]
    unfold p_can
    rw [decide_eq_false (fun g => absurd (Int32.le_trans g.1 g1) (by decide))]
    rfl
  · obtain ⟨j, hj31, rfl⟩ := nI_nn (Int32.le_of_lt (Int32.not_le.mp g1))
    have hj0 : 0 < j := by
      rw [nIle hj31 (by omega)] at g1
      omega
    have hd : nI 60 / nI j = nI (60 / j) := pk_div (by omega) (by omega) (by omega)
    have hz : nI j ≠ 0 := fun h => by
      have := (nIeq hj31 (by omega)).mp (h.trans nI_0.symm)
      omega
    have hz2 : (nI j = 0) = False := eq_false hz
    have hle : 60 / j * j ≤ 60 := Nat.div_mul_le_self 60 j
    have hs : nI 60 - nI (60 / j * j) = nI (60 - 60 / j * j) := pk_sub hle
    have hb : (nI 1 ≤ nI j ∧ nI j ≤ nI 60) ↔ j ≤ 60 := by
      rw [nIle (by omega) hj31, nIle hj31 (by omega)]
      omega
    by_cases g2 : 60 - 60 / j * j = 0
    · have g3 : j ≤ 60 := by
        apply Nat.le_of_not_lt
        intro h
        rw [Nat.div_eq_of_lt h] at g2
        omega
      simp (disch := omega) only [E110, K110, ai_c1i, ai_c1n, ai_c1r, e_al0, e_an0, e_c4, e_c5, e_const, e_cs3, e_getR, e_goto, e_iald, e_il1, e_il2, e_il3, e_rem, e_retb, e_z0, e_z1, e_z5, Option.toList_some, Option.toList_none, List.cons_append, List.nil_append, List.append_nil, List.length_cons, List.length_nil, Nat.reduceAdd, Nat.reduceLeDiff, Nat.zero_le, true_and, and_true, and_self, true_implies, forall_const, ai_rvs, ai_rv0, ai_b_0, Classical.not_not, not_true_eq_false, false_implies, not_false_eq_true, true_implies, and_true, true_and, if_true, if_false, Bool.false_eq_true, q_229, a_nw, g1, hz2, hd, nIm, hs, nIeq, g2, c97, hm.1, e0, nIc, sr_r]
      have ec : p_can S.1 (nI j) n e = (decide (nI 2 ≤ n ∧ n ≤ nI 4) && decide (nI tm + nI 1 ≤ e ∧ e ≤ nI 999)) := by
        unfold p_can
        rw [decide_eq_true (hb.mpr g3), hd, nIm, hs, g2, ht0, decide_eq_true rfl]
        rfl
      rw [ec, nIa]
      by_cases g4 : nI 2 ≤ n ∧ n ≤ nI 4
      · rw [decide_eq_true g4]
        simp (disch := omega) only [not_true_eq_false, false_implies, not_false_eq_true, true_implies, and_true, true_and, if_true, if_false, Bool.false_eq_true, g4, n10]
        have g5 : (e ≤ nI tm) ↔ ¬ nI (tm + 1) ≤ e := by
          rw [Int32.not_le, Int32.lt_iff_toInt_lt, Int32.le_iff_toInt_le, nI_toInt (by omega), nI_toInt (by omega)]
          omega
        have g6 : (nI 999 < e) ↔ ¬ e ≤ nI 999 := Int32.not_le.symm
        by_cases g7 : nI (tm + 1) ≤ e
        · by_cases g8 : e ≤ nI 999
          · rw [decide_eq_true ⟨g7, g8⟩]
            simp only [g5, g6, g7, g8, not_true_eq_false, false_implies, not_false_eq_true, true_implies, and_true, true_and, if_true, if_false, Bool.false_eq_true, Bool.true_and, ai_b_t]
            exact ⟨by omega, Or.inr rfl⟩
          · rw [decide_eq_false (fun g => g8 g.2)]
            simp only [g5, g6, g7, g8, not_true_eq_false, false_implies, not_false_eq_true, true_implies, and_true, true_and, if_true, if_false, Bool.false_eq_true, Bool.true_and, ai_b_f Bool.false_ne_true]
            exact ⟨by omega, Or.inl rfl, by rw [ai_b_f (fun h => h)]⟩
        · rw [decide_eq_false (fun g => g7 g.1)]
          simp only [g5, g7, not_true_eq_false, false_implies, not_false_eq_true, true_implies, and_true, true_and, if_true, if_false, Bool.false_eq_true, Bool.true_and, ai_b_f Bool.false_ne_true]
          exact ⟨by omega, Or.inl rfl, by rw [ai_b_f (fun h => h)]⟩
      · rw [decide_eq_false g4]
        simp (disch := omega) only [not_true_eq_false, false_implies, not_false_eq_true, true_implies, and_true, true_and, if_true, if_false, Bool.false_eq_true, g4, Bool.false_and, ai_b_f Bool.false_ne_true]
        exact ⟨by omega, Or.inl rfl, by rw [ai_b_f (fun h => h)]⟩
    · simp (disch := omega) only [E110, K110, ai_c1i, ai_c1n, ai_c1r, e_al0, e_an0, e_c4, e_c5, e_const, e_cs3, e_getR, e_goto, e_iald, e_il1, e_il2, e_il3, e_rem, e_retb, e_z0, e_z1, e_z5, Option.toList_some, Option.toList_none, List.cons_append, List.nil_append, List.append_nil, List.length_cons, List.length_nil, Nat.reduceAdd, Nat.reduceLeDiff, Nat.zero_le, true_and, and_true, and_self, true_implies, forall_const, ai_rvs, ai_rv0, ai_b_0, Classical.not_not, not_true_eq_false, false_implies, not_false_eq_true, true_implies, and_true, true_and, if_true, if_false, Bool.false_eq_true, q_229, a_nw, g1, hz2, hd, nIm, hs, nIeq, g2]
      refine ⟨by omega, Or.inl rfl, ?_⟩
      rw [hf]
      unfold p_can
      rw [hd, nIm, hs, decide_eq_false (fun g => g2 ((nIeq (by omega) (by omega)).mp g)), Bool.and_false]
      rfl
/-- a row of numbers with zeros in it -/
def zer (J : Nat → Int32) (c i : Nat) : Nat → Int32 := fun j => if c ≤ j ∧ j < c + i then nI 0 else J j
theorem zer_s {c i : Nat} : ug (zer J c i) (c + i) (nI 0) = zer J c (i + 1) := by
  funext j
  unfold zer ug
  by_cases h : j = c + i
  · rw [if_pos h, if_pos (by omega)]
  · rw [if_neg h]
    dsimp only
    by_cases h2 : c ≤ j ∧ j < c + i
    · rw [if_pos h2, if_pos (by omega)]
    · rw [if_neg h2, if_neg (by omega)]
theorem r111_l {b n e cm co : Int32} (hm : RM M) {c : Nat} (hc : c < 300) (kk : Ev d X0 111 52 [.ref 229, .int b, .int n, .int e, .int cm, .int co, .int (nI c), .int (nI 43)] [] (LK, sr I (zer J c 43), M) Q) :
    ∀ r i, r + i = 43 → Ev d X0 111 28 [.ref 229, .int b, .int n, .int e, .int cm, .int co, .int (nI c), .int (nI i)] [] (LK, sr I (zer J c i), M) Q
  | 0, i, hi => by
    obtain rfl : i = 43 := by omega
    rw [H111_28]
    simp (disch := omega) only [k111_0, k111_1, k111_4, k111_5, k111_6, k111_8, k111_11, k111_13, k111_14, k111_15, k111_18, k111_19, k111_20, k111_23, k111_25, k111_26, k111_30, k111_32, k111_35, k111_36, k111_39, k111_41, k111_43, k111_44, k111_45, k111_46, k111_49, k111_53, k111_56, k111_58, k111_59, k111_60, k111_61, k111_62, k111_63, k111_66, k111_68, k111_69, k111_70, k111_71, k111_72, k111_73, k111_76, k111_78, k111_79, k111_80, k111_81, k111_82, k111_83, k111_86, k111_88, k111_89, k111_90, k111_92, k111_93, k111_94, k111_97, k111_99, k111_100, k111_101, k111_103, k111_104, k111_105, k111_108, k111_110, k111_112, k111_113, k111_114, k111_115, k111_116, k111_119, k111_120, k111_121, k111_122, k111_123, k111_124, k111_125, k111_126, ai_c1i, ai_c1n, ai_c1r, e_al0, e_an0, e_b0, e_c1, e_c3, e_const, e_cs1, e_dup2, e_dx2, e_getR, e_goto, e_iald, e_iast, e_ii7, e_il1, e_il2, e_il3, e_il4, e_il5, e_il6, e_il7, e_is6, e_is7, e_reti, Option.toList_some, Option.toList_none, List.cons_append, List.nil_append, List.append_nil, List.length_cons, List.length_nil, Nat.reduceAdd, Nat.reduceLeDiff, Nat.zero_le, true_and, and_true, and_self, true_implies, forall_const, ai_rvs, ai_rv0, ai_b_0, Classical.not_not, not_true_eq_false, false_implies, not_false_eq_true, true_implies, and_true, true_and, if_true, if_false, Bool.false_eq_true, Int32.le_refl]
    exact kk
  | r + 1, i, hi => by
    have ih := r111_l (b := b) (n := n) (e := e) (cm := cm) (co := co) hm hc kk r (i + 1) (by omega)
    rw [H111_28]
    simp (disch := omega) only [k111_0, k111_1, k111_4, k111_5, k111_6, k111_8, k111_11, k111_13, k111_14, k111_15, k111_18, k111_19, k111_20, k111_23, k111_25, k111_26, k111_30, k111_32, k111_35, k111_36, k111_39, k111_41, k111_43, k111_44, k111_45, k111_46, k111_49, k111_53, k111_56, k111_58, k111_59, k111_60, k111_61, k111_62, k111_63, k111_66, k111_68, k111_69, k111_70, k111_71, k111_72, k111_73, k111_76, k111_78, k111_79, k111_80, k111_81, k111_82, k111_83, k111_86, k111_88, k111_89, k111_90, k111_92, k111_93, k111_94, k111_97, k111_99, k111_100, k111_101, k111_103, k111_104, k111_105, k111_108, k111_110, k111_112, k111_113, k111_114, k111_115, k111_116, k111_119, k111_120, k111_121, k111_122, k111_123, k111_124, k111_125, k111_126, ai_c1i, ai_c1n, ai_c1r, e_al0, e_an0, e_b0, e_c1, e_c3, e_const, e_cs1, e_dup2, e_dx2, e_getR, e_goto, e_iald, e_iast, e_ii7, e_il1, e_il2, e_il3, e_il4, e_il5, e_il6, e_il7, e_is6, e_is7, e_reti, Option.toList_some, Option.toList_none, List.cons_append, List.nil_append, List.append_nil, List.length_cons, List.length_nil, Nat.reduceAdd, Nat.reduceLeDiff, Nat.zero_le, true_and, and_true, and_self, true_implies, forall_const, ai_rvs, ai_rv0, ai_b_0, Classical.not_not, not_true_eq_false, false_implies, not_false_eq_true, true_implies, and_true, true_and, if_true, if_false, Bool.false_eq_true, q_229, a_nw, nIle, hm.1, nIa, nIc, sr_u, zer_s]
    exact ⟨fun g => absurd g (by omega), fun _ => ih⟩
theorem r111 {b n e cm co : Int32} (hm : RM M) (hj : RJ J S k) (hbl : BL S.1 k) (k1 : k = 6 → Q (some (.int (-1000000003))) (LK, sr I J, M)) (k2 : k < 6 → ∀ J', RJ J' (add_g S.1 k b n e cm co, S.2) (k + 1) → Q (some (.int (nI k))) (LK, sr I J', M)) : Cl (d + 1) 111 [.ref 229, .int b, .int n, .int e, .int cm, .int co] (LK, sr I J, M) Q := by
  obtain ⟨r1, r2, r3, ⟨l1, os, o1, o2, o3⟩, T, t1, t2, t3, t4⟩ := id hj
  have e1 : J 1 = nI k := by rw [r3 1 (by omega) (by omega)]; exact r1
  by_cases hf : k = 6
  · have k3 := k1 hf
    subst hf
    simp (disch := omega) only [E111, k111_0, k111_1, k111_4, k111_5, k111_6, k111_8, k111_11, k111_13, k111_14, k111_15, k111_18, k111_19, k111_20, k111_23, k111_25, k111_26, k111_30, k111_32, k111_35, k111_36, k111_39, k111_41, k111_43, k111_44, k111_45, k111_46, k111_49, k111_53, k111_56, k111_58, k111_59, k111_60, k111_61, k111_62, k111_63, k111_66, k111_68, k111_69, k111_70, k111_71, k111_72, k111_73, k111_76, k111_78, k111_79, k111_80, k111_81, k111_82, k111_83, k111_86, k111_88, k111_89, k111_90, k111_92, k111_93, k111_94, k111_97, k111_99, k111_100, k111_101, k111_103, k111_104, k111_105, k111_108, k111_110, k111_112, k111_113, k111_114, k111_115, k111_116, k111_119, k111_120, k111_121, k111_122, k111_123, k111_124, k111_125, k111_126, ai_c1i, ai_c1n, ai_c1r, e_al0, e_an0, e_b0, e_c1, e_c3, e_const, e_cs1, e_dup2, e_dx2, e_getR, e_goto, e_iald, e_iast, e_ii7, e_il1, e_il2, e_il3, e_il4, e_il5, e_il6, e_il7, e_is6, e_is7, e_reti, Option.toList_some, Option.toList_none, List.cons_append, List.nil_append, List.append_nil, List.length_cons, List.length_nil, Nat.reduceAdd, Nat.reduceLeDiff, Nat.zero_le, true_and, and_true, and_self, true_implies, forall_const, ai_rvs, ai_rv0, ai_b_0, Classical.not_not, not_true_eq_false, false_implies, not_false_eq_true, true_implies, and_true, true_and, if_true, if_false, Bool.false_eq_true, q_229, a_nw, hm.1, e1, nIc, sr_r]
    exact k3
  · have hk' : k < 6 := by omega
    have k3 := k2 hk'
    have ne : (nI k = nI 6) = False := eq_false (fun h => hf ((nIeq (by omega) (by omega)).mp h))
    have l := r111_l (d := d + 1) (J := J) (I := I) (Q := Q) (b := b) (n := n) (e := e) (cm := cm) (co := co) hm (c := 12 + 43 * k) (by omega) ?_ 43 0 (by omega)
    · have z0 : zer J (12 + 43 * k) 0 = J := by
        funext j
        unfold zer
        rw [if_neg (by omega)]
      rw [z0] at l
      simp (disch := omega) only [E111, k111_0, k111_1, k111_4, k111_5, k111_6, k111_8, k111_11, k111_13, k111_14, k111_15, k111_18, k111_19, k111_20, k111_23, k111_25, k111_26, k111_30, k111_32, k111_35, k111_36, k111_39, k111_41, k111_43, k111_44, k111_45, k111_46, k111_49, k111_53, k111_56, k111_58, k111_59, k111_60, k111_61, k111_62, k111_63, k111_66, k111_68, k111_69, k111_70, k111_71, k111_72, k111_73, k111_76, k111_78, k111_79, k111_80, k111_81, k111_82, k111_83, k111_86, k111_88, k111_89, k111_90, k111_92, k111_93, k111_94, k111_97, k111_99, k111_100, k111_101, k111_103, k111_104, k111_105, k111_108, k111_110, k111_112, k111_113, k111_114, k111_115, k111_116, k111_119, k111_120, k111_121, k111_122, k111_123, k111_124, k111_125, k111_126, ai_c1i, ai_c1n, ai_c1r, e_al0, e_an0, e_b0, e_c1, e_c3, e_const, e_cs1, e_dup2, e_dx2, e_getR, e_goto, e_iald, e_iast, e_ii7, e_il1, e_il2, e_il3, e_il4, e_il5, e_il6, e_il7, e_is6, e_is7, e_reti, Option.toList_some, Option.toList_none, List.cons_append, List.nil_append, List.append_nil, List.length_cons, List.length_nil, Nat.reduceAdd, Nat.reduceLeDiff, Nat.zero_le, true_and, and_true, and_self, true_implies, forall_const, ai_rvs, ai_rv0, ai_b_0, Classical.not_not, not_true_eq_false, false_implies, not_false_eq_true, true_implies, and_true, true_and, if_true, if_false, Bool.false_eq_true, q_229, a_nw, hm.1, e1, nIc, sr_r, ne, c98, nIm, nIa]
      exact l
    · have z1 : zer J (12 + 43 * k) 43 1 = nI k := by
        unfold zer
        rw [if_neg (by omega)]
        exact e1
      simp (disch := omega) only [K111_0, K111_1, ai_c1i, ai_c1n, ai_c1r, e_al0, e_an0, e_b0, e_c1, e_c3, e_const, e_cs1, e_dup2, e_dx2, e_getR, e_goto, e_iald, e_iast, e_ii7, e_il1, e_il2, e_il3, e_il4, e_il5, e_il6, e_il7, e_is6, e_is7, e_reti, Option.toList_some, Option.toList_none, List.cons_append, List.nil_append, List.append_nil, List.length_cons, List.length_nil, Nat.reduceAdd, Nat.reduceLeDiff, Nat.zero_le, true_and, and_true, and_self, true_implies, forall_const, ai_rvs, ai_rv0, ai_b_0, Classical.not_not, not_true_eq_false, false_implies, not_false_eq_true, true_implies, and_true, true_and, if_true, if_false, Bool.false_eq_true, q_229, a_nw, hm.1, nIc, sr_r, sr_u, ug_n, nIa, z1]
      refine k3 _ ⟨by unfold add_g; dsimp only; rw [ug_s], by omega, fun j hj h5 => ?_, ⟨l1, os, o1, o2, fun i o hi x hx => ?_⟩, T, ?_, t2, ?_, fun i p hi hiT hp => ?_⟩
      · by_cases h1 : j = 1
        · subst h1
          unfold add_g
          dsimp only
          rw [ug_s, ug_s]
        · by_cases h2 : 12 + 43 * k ≤ j
          · obtain ⟨w, rfl⟩ : ∃ w, j = 12 + 43 * k + w := ⟨j - (12 + 43 * k), by omega⟩
            have hb := hbl k w (Nat.le_refl _) hk' (by omega)
            unfold add_g
            rcases (by omega : w = 1 ∨ w = 2 ∨ w = 3 ∨ w = 4 ∨ w = 5 ∨ w = 7 ∨ (w ≠ 1 ∧ w ≠ 2 ∧ w ≠ 3 ∧ w ≠ 4 ∧ w ≠ 5 ∧ w ≠ 7)) with rfl | rfl | rfl | rfl | rfl | rfl | h9
            · simp (disch := omega) only [ug_n, show 12 + 43 * k + 1 = 13 + 43 * k by omega, ug_s]
            · simp (disch := omega) only [ug_n, show 12 + 43 * k + 2 = 14 + 43 * k by omega, ug_s]
            · simp (disch := omega) only [ug_n, show 12 + 43 * k + 3 = 15 + 43 * k by omega, ug_s]
            · simp (disch := omega) only [ug_n, show 12 + 43 * k + 4 = 16 + 43 * k by omega, ug_s]
            · simp (disch := omega) only [ug_n, show 12 + 43 * k + 5 = 17 + 43 * k by omega, ug_s]
            · simp (disch := omega) only [ug_n, ug_s]
              rw [hb (by omega), if_pos rfl]
            · have hb := hb (by omega)
              rw [if_neg (by omega)] at hb
              simp (disch := omega) only [ug_n]
              rw [hb]
              unfold zer
              rw [if_pos (by omega)]
          · unfold add_g
            simp (disch := omega) only [ug_n]
            unfold zer
            rw [if_neg (by omega)]
            exact r3 j (by omega) h5
      · have h8 : i < os.length := (List.getElem?_eq_some_iff.mp hi).1
        have h9 := o1.length_eq
        simp (disch := omega) only [ug_n]
        unfold zer
        rw [if_neg (by omega)]
        exact o3 i o hi x hx
      · unfold add_g
        dsimp only
        simp (disch := omega) only [ug_n]
        exact t1
      · simp (disch := omega) only [ug_n]
        unfold zer
        rw [if_neg (by omega)]
        exact t3
      · simp (disch := omega) only [ug_n]
        unfold zer
        rw [if_neg (by omega)]
        exact t4 i p hi hiT hp
theorem r111p {b n e cm co : Int32} (hm : RM M) (hj : RJ J S k) (hbl : BL S.1 k) (kk : ∀ J' k', RJ J' (p_addM S b n e cm co).2 k' → Q (some (.int (p_addM S b n e cm co).1)) (LK, sr I J', M)) : Cl (d + 1) 111 [.ref 229, .int b, .int n, .int e, .int cm, .int co] (LK, sr I J, M) Q := by
  have hk6 := hj.2.1
  unfold p_addM at kk
  refine r111 hm hj hbl (fun h6 => ?_) (fun h6 J' hj' => ?_)
  · rw [hj.1, h6, if_pos rfl] at kk
    exact kk J k hj
  · rw [hj.1, if_neg (fun g => by have := (nIeq (by omega) (by omega)).mp g; omega), nIc (by omega)] at kk
    exact kk J' (k + 1) hj'
theorem r112 {b n e : Int32} (hm : RM M) (hj : RJ J S k) (hbl : BL S.1 k) (ht0 : S.1 0 = nI tm) (htm : tm < 1000000) (kk : ∀ J' k', RJ J' (p_open S b n e).2 k' → Q (some (.int (p_open S b n e).1)) (LK, sr I J', M)) : Cl (d + 2) 112 [.ref 229, .int b, .int n, .int e] (LK, sr I J, M) Q := by
  unfold p_open at kk
  have n10 : (nI 1 = nI 0) = False := eq_false (by decide)
  by_cases g : p_can S.1 b n e = true
  · rw [if_pos g] at kk
    simp (disch := omega) only [E112, K112, ai_c1i, ai_c1n, ai_c1r, e_al0, e_an0, e_const, e_cv4, e_cv6, e_goto, e_il1, e_il2, e_il3, e_reti, e_z0, Option.toList_some, Option.toList_none, List.cons_append, List.nil_append, List.append_nil, List.length_cons, List.length_nil, Nat.reduceAdd, Nat.reduceLeDiff, Nat.zero_le, true_and, and_true, and_self, true_implies, forall_const, ai_rvs, ai_rv0, ai_b_0, Classical.not_not, not_true_eq_false, false_implies, not_false_eq_true, true_implies, and_true, true_and, if_true, if_false, Bool.false_eq_true, q_229, a_nw, r110 hm hj ht0 htm, g, ai_b_t, n10]
    refine r111p hm hj hbl fun J' k' hj' => ?_
    simp (disch := omega) only [K112, ai_c1i, ai_c1n, ai_c1r, e_al0, e_an0, e_const, e_cv4, e_cv6, e_goto, e_il1, e_il2, e_il3, e_reti, e_z0, Option.toList_some, Option.toList_none, List.cons_append, List.nil_append, List.append_nil, List.length_cons, List.length_nil, Nat.reduceAdd, Nat.reduceLeDiff, Nat.zero_le, true_and, and_true, and_self, true_implies, forall_const, ai_rvs, ai_rv0, ai_b_0, Classical.not_not, not_true_eq_false, false_implies, not_false_eq_true, true_implies, and_true, true_and, if_true, if_false, Bool.false_eq_true]
    exact kk J' k' hj'
  · rw [if_neg g] at kk
    simp (disch := omega) only [E112, K112, ai_c1i, ai_c1n, ai_c1r, e_al0, e_an0, e_const, e_cv4, e_cv6, e_goto, e_il1, e_il2, e_il3, e_reti, e_z0, Option.toList_some, Option.toList_none, List.cons_append, List.nil_append, List.append_nil, List.length_cons, List.length_nil, Nat.reduceAdd, Nat.reduceLeDiff, Nat.zero_le, true_and, and_true, and_self, true_implies, forall_const, ai_rvs, ai_rv0, ai_b_0, Classical.not_not, not_true_eq_false, false_implies, not_false_eq_true, true_implies, and_true, true_and, if_true, if_false, Bool.false_eq_true, q_229, a_nw, r110 hm hj ht0 htm, ai_b_f g]
    exact kk J k hj
theorem r113 {b n e x y : Int32} (hm : RM M) (hj : RJ J S k) (hv : VB S.1 k) (hst : ∀ m, m < k → ∃ s, s < 4 ∧ S.1 (12 + 43 * m) = nI s) (hbl : BL S.1 k) (ht0 : S.1 0 = nI tm) (htm : tm < 1000000) (kk : ∀ J' k', RJ J' (p_link S b n e x y).2 k' → Q (some (.int (p_link S b n e x y).1)) (LK, sr I J', M)) : Cl (d + 3) 113 [.ref 229, .int b, .int n, .int e, .int x, .int y] (LK, sr I J, M) Q := by
  have hk6 := hj.2.1
  have rd := hj.2.2.1
  have hjr : RJ ((sr I J) 230) S k := hj
  unfold p_link at kk
  have n10 : (nI 1 = nI 0) = False := eq_false (by decide)
  by_cases g : p_can S.1 b n e = true
  · rw [if_pos g] at kk
    simp (disch := omega) only [E113, K113, ai_c1i, ai_c1n, ai_c1r, e_al0, e_an0, e_c5, e_const, e_cv3, e_cv4, e_cv6, e_goto, e_il1, e_il2, e_il3, e_il4, e_il5, e_reti, e_z1, Option.toList_some, Option.toList_none, List.cons_append, List.nil_append, List.append_nil, List.length_cons, List.length_nil, Nat.reduceAdd, Nat.reduceLeDiff, Nat.zero_le, true_and, and_true, and_self, true_implies, forall_const, ai_rvs, ai_rv0, ai_b_0, Classical.not_not, not_true_eq_false, false_implies, not_false_eq_true, true_implies, and_true, true_and, if_true, if_false, Bool.false_eq_true, q_229, a_nw, r110 hm hj ht0 htm, g, ai_b_t, n10]
    refine r102 hm hv hjr (fun m n o hmk ex hn n2 n4 ho ey em => ?_) (fun em => ?_)
    · rw [em] at kk
      dsimp only at kk
      obtain ⟨s, hs, es⟩ := hst m hmk
      have rst : J (12 + 43 * m + 0) = nI s := (rd _ (by omega) (by omega)).trans es
      have ec : (S.1 (12 + 43 * m) = nI 0 ∨ S.1 (12 + 43 * m) = nI 1) ↔ s ≤ 1 := by
        rw [es, nIeq (by omega) (by omega), nIeq (by omega) (by omega)]
        omega
      subst ex ey
      by_cases g2 : s ≤ 1
      · rw [if_pos (ec.mpr g2)] at kk
        simp (disch := omega) only [K113, ai_c1i, ai_c1n, ai_c1r, e_al0, e_an0, e_c5, e_const, e_cv3, e_cv4, e_cv6, e_goto, e_il1, e_il2, e_il3, e_il4, e_il5, e_reti, e_z1, Option.toList_some, Option.toList_none, List.cons_append, List.nil_append, List.append_nil, List.length_cons, List.length_nil, Nat.reduceAdd, Nat.reduceLeDiff, Nat.zero_le, true_and, and_true, and_self, true_implies, forall_const, ai_rvs, ai_rv0, ai_b_0, Classical.not_not, not_true_eq_false, false_implies, not_false_eq_true, true_implies, and_true, true_and, if_true, if_false, Bool.false_eq_true, q_229, a_nw, n10, r100 hm, sr_r, rst, nIle, g2]
        refine r111p hm hj hbl fun J' k' hj' => ?_
        simp (disch := omega) only [K113, ai_c1i, ai_c1n, ai_c1r, e_al0, e_an0, e_c5, e_const, e_cv3, e_cv4, e_cv6, e_goto, e_il1, e_il2, e_il3, e_il4, e_il5, e_reti, e_z1, Option.toList_some, Option.toList_none, List.cons_append, List.nil_append, List.append_nil, List.length_cons, List.length_nil, Nat.reduceAdd, Nat.reduceLeDiff, Nat.zero_le, true_and, and_true, and_self, true_implies, forall_const, ai_rvs, ai_rv0, ai_b_0, Classical.not_not, not_true_eq_false, false_implies, not_false_eq_true, true_implies, and_true, true_and, if_true, if_false, Bool.false_eq_true]
        exact kk J' k' hj'
      · rw [if_neg (fun g => g2 (ec.mp g))] at kk
        simp (disch := omega) only [K113, ai_c1i, ai_c1n, ai_c1r, e_al0, e_an0, e_c5, e_const, e_cv3, e_cv4, e_cv6, e_goto, e_il1, e_il2, e_il3, e_il4, e_il5, e_reti, e_z1, Option.toList_some, Option.toList_none, List.cons_append, List.nil_append, List.append_nil, List.length_cons, List.length_nil, Nat.reduceAdd, Nat.reduceLeDiff, Nat.zero_le, true_and, and_true, and_self, true_implies, forall_const, ai_rvs, ai_rv0, ai_b_0, Classical.not_not, not_true_eq_false, false_implies, not_false_eq_true, true_implies, and_true, true_and, if_true, if_false, Bool.false_eq_true, q_229, a_nw, n10, r100 hm, sr_r, rst, nIle, g2]
        exact kk J k hj
    · rw [em] at kk
      simp (disch := omega) only [K113, ai_c1i, ai_c1n, ai_c1r, e_al0, e_an0, e_c5, e_const, e_cv3, e_cv4, e_cv6, e_goto, e_il1, e_il2, e_il3, e_il4, e_il5, e_reti, e_z1, Option.toList_some, Option.toList_none, List.cons_append, List.nil_append, List.append_nil, List.length_cons, List.length_nil, Nat.reduceAdd, Nat.reduceLeDiff, Nat.zero_le, true_and, and_true, and_self, true_implies, forall_const, ai_rvs, ai_rv0, ai_b_0, Classical.not_not, not_true_eq_false, false_implies, not_false_eq_true, true_implies, and_true, true_and, if_true, if_false, Bool.false_eq_true, q_229, a_nw]
      exact kk J k hj
  · rw [if_neg g] at kk
    simp (disch := omega) only [E113, K113, ai_c1i, ai_c1n, ai_c1r, e_al0, e_an0, e_c5, e_const, e_cv3, e_cv4, e_cv6, e_goto, e_il1, e_il2, e_il3, e_il4, e_il5, e_reti, e_z1, Option.toList_some, Option.toList_none, List.cons_append, List.nil_append, List.append_nil, List.length_cons, List.length_nil, Nat.reduceAdd, Nat.reduceLeDiff, Nat.zero_le, true_and, and_true, and_self, true_implies, forall_const, ai_rvs, ai_rv0, ai_b_0, Classical.not_not, not_true_eq_false, false_implies, not_false_eq_true, true_implies, and_true, true_and, if_true, if_false, Bool.false_eq_true, q_229, a_nw, r110 hm hj ht0 htm, ai_b_f g]
    exact kk J k hj
end ROPEN
