/-! the book: taking all of a market out, putting one in -/
section BOOK2
variable {C : (Nat → Nat → Int32) × (Nat → Nat → Nat)} {I : Nat → Nat → Int32} {M : Nat → Nat → Nat} {d : Nat} {Q : Option Value → ai_H → Prop}
theorem nIm1 (k : Nat) : nI (k + 1) - nI 1 = nI k := pk_sub (by omega)
theorem nIneg : nI 0 - nI 1 < nI 0 := by decide
theorem c5_l {x : Int32} {g0 : Nat → Int32} {hs : Nat → Nat → Int32} {L0 : List Od} (kk : ∀ I' M', EX 1 (ug g0 3 (nI (L0.filter (fun o => decide (¬ o.2.2.1 = x))).length), L0.filter (fun o => decide (¬ o.2.2.1 = x)), hs) C I' M' → Q none (LK, I', M')) :
    ∀ (k : Nat) (A B : List Od), A.length = k → A.filter (fun o => decide (¬ o.2.2.1 = x)) ++ B = L0.filter (fun o => decide (¬ o.2.2.1 = x)) → ∀ I M, EX 1 (ug g0 3 (nI (A ++ B).length), A ++ B, hs) C I M → Ev (d + 1) X0 5 7 [.ref 64, .int x, .int (nI k - nI 1)] [] (LK, I, M) Q
  | 0, A, B, hk, he, I, M, h => by
    obtain rfl : A = [] := List.length_eq_zero_iff.mp hk
    rw [H5_7]
    simp (disch := omega) only [K5, ai_c1i, ai_c1n, ai_c1r, e_aald, e_al0, e_an0, e_b1, e_c1, e_const, e_cv2, e_getI, e_getR, e_goto, e_ii2, e_il1, e_il2, e_is2, e_ret, e_z2, Option.toList_some, Option.toList_none, List.cons_append, List.nil_append, List.append_nil, List.length_cons, List.length_nil, Nat.reduceAdd, Nat.reduceLeDiff, Nat.zero_le, true_and, and_true, and_self, true_implies, forall_const, ai_rvs, ai_rv0, ai_b_0, Classical.not_not, nIneg, not_true_eq_false, false_implies]
    rw [List.filter_nil, List.nil_append] at he
    subst he
    exact kk I M h
  | k + 1, A, B, hk, he, I, M, h => by
    obtain ⟨A', o, rfl⟩ : ∃ A' o, A = A' ++ [o] := ⟨A.dropLast, A.getLast (by intro hn; rw [hn] at hk; cases hk), (List.dropLast_concat_getLast _).symm⟩
    have hk' : A'.length = k := by simpa using hk
    obtain ⟨l1, l2, l3⟩ := h.len
    obtain ⟨p, p0, p1, p2, p3⟩ := h.rows
    dsimp only at l1 l2 p3
    have hlen : (A' ++ [o] ++ B).length = k + 1 + B.length := by simp; omega
    have ho : (A' ++ [o] ++ B)[k]? = some o := by rw [List.append_assoc, List.getElem?_append_right (by omega), hk', Nat.sub_self]; rfl
    have hp := p0 k (by omega)
    have e := p3 k o ho
    have em : nI k + (-1) = nI k - nI 1 := by rw [Int32.sub_eq_add_neg]; rfl
    rw [H5_7]
    simp (disch := omega) only [K5, ai_c1i, ai_c1n, ai_c1r, e_aald, e_al0, e_an0, e_b1, e_c1, e_const, e_cv2, e_getI, e_getR, e_goto, e_ii2, e_il1, e_il2, e_is2, e_ret, e_z2, Option.toList_some, Option.toList_none, List.cons_append, List.nil_append, List.append_nil, List.length_cons, List.length_nil, Nat.reduceAdd, Nat.reduceLeDiff, Nat.zero_le, true_and, and_true, and_self, true_implies, forall_const, ai_rvs, ai_rv0, ai_b_0, Classical.not_not, nIm1, nIlt, q_64, m_bo h, nIc, a_od, p1, q_od, e.2.2.1]
    refine ⟨fun g => absurd g (by omega), fun _ => ⟨fun g1 => ?_, fun g1 => ?_⟩⟩
    · rw [em]
      refine c5_l kk k A' (o :: B) hk' ?_ I M ?_
      · rw [List.filter_append] at he
        rw [← he]
        simp [g1]
      · rw [show A' ++ o :: B = A' ++ [o] ++ B by simp]
        exact h
    · refine c4 h (by dsimp only; omega) fun I' M' h' => ?_
      simp (disch := omega) only [K5, ai_c1i, ai_c1n, ai_c1r, e_aald, e_al0, e_an0, e_b1, e_c1, e_const, e_cv2, e_getI, e_getR, e_goto, e_ii2, e_il1, e_il2, e_is2, e_ret, e_z2, Option.toList_some, Option.toList_none, List.cons_append, List.nil_append, List.append_nil, List.length_cons, List.length_nil, Nat.reduceAdd, Nat.reduceLeDiff, Nat.zero_le, true_and, and_true, and_self, true_implies, forall_const, ai_rvs, ai_rv0, ai_b_0, Classical.not_not]
      rw [em]
      refine c5_l kk k A' B hk' ?_ I' M' ?_
      · rw [List.filter_append] at he
        rw [← he]
        simp [g1]
      · have e1 : (A' ++ [o] ++ B).eraseIdx k = A' ++ B := by
          rw [List.append_assoc, List.eraseIdx_append_of_length_le (by omega), hk', Nat.sub_self]
          rfl
        dsimp only at h'
        rw [e1, ug_ug] at h'
        exact h'
/-- Book.removeAll -/
theorem c5 {S : St} {x : Int32} (h : EX 1 S C I M) (kk : ∀ I' M', EX 1 (ug S.1 3 (nI (S.2.1.filter (fun o => decide (¬ o.2.2.1 = x))).length), S.2.1.filter (fun o => decide (¬ o.2.2.1 = x)), S.2.2) C I' M' → Q none (LK, I', M')) : Cl (d + 1) 5 [.ref 64, .int x] (LK, I, M) Q := by
  obtain ⟨l1, l2, l3⟩ := h.len
  simp (disch := omega) only [E5, K5, ai_c1i, ai_c1n, ai_c1r, e_aald, e_al0, e_an0, e_b1, e_c1, e_const, e_cv2, e_getI, e_getR, e_goto, e_ii2, e_il1, e_il2, e_is2, e_ret, e_z2, Option.toList_some, Option.toList_none, List.cons_append, List.nil_append, List.append_nil, List.length_cons, List.length_nil, Nat.reduceAdd, Nat.reduceLeDiff, Nat.zero_le, true_and, and_true, and_self, true_implies, forall_const, ai_rvs, ai_rv0, ai_b_0, Classical.not_not, q_64, l2]
  refine c5_l (hs := S.2.2) kk S.2.1.length S.2.1 [] rfl (List.append_nil _) I M ?_
  rw [List.append_nil, ← l3, ug_id]
  exact h
/-- an order takes its place ahead of the first with a lower limit -/
def l_in (o : Od) : List Od → List Od
  | [] => [o]
  | x :: xs => if x.2.2.2.2.2 < o.2.2.2.2.2 then o :: x :: xs else x :: l_in o xs
theorem get_ins {L : List Od} {o x : Od} {i j : Nat} (hi : i ≤ L.length) (h : (L.take i ++ o :: L.drop i)[j]? = some x) : (j = i ∧ x = o) ∨ (j ≠ i ∧ t_in i L.length j < L.length ∧ L[t_in i L.length j]? = some x) := by
  have hlen : (L.take i).length = i := by rw [List.length_take]; omega
  have hj := (List.getElem?_eq_some_iff.mp h).1
  rw [List.length_append, hlen, List.length_cons, List.length_drop] at hj
  unfold t_in
  by_cases h1 : j < i
  · rw [List.getElem?_append_left (by omega), List.getElem?_take, if_pos h1] at h
    rw [if_pos h1]
    exact Or.inr ⟨by omega, by omega, h⟩
  · by_cases h2 : j = i
    · subst h2
      rw [List.getElem?_append_right (by omega), hlen, Nat.sub_self] at h
      cases h
      exact Or.inl ⟨rfl, rfl⟩
    · rw [List.getElem?_append_right (by omega), hlen, show j - i = (j - i - 1) + 1 by omega, List.getElem?_cons_succ, List.getElem?_drop] at h
      rw [if_neg h1, if_neg h2, if_pos (by omega)]
      exact Or.inr ⟨h2, by omega, by rw [show j - 1 = i + (j - i - 1) by omega]; exact h⟩
theorem c2_l {S : St} {a1 a2 a3 a4 lim : Int32} {p : Nat → Nat} {n : Nat} (hn : n < 16) (h : EX 1 S C I M) (hl : S.2.1.length = n) (p0 : ∀ i, i < 16 → p i < 16)
    (p3 : ∀ (i : Nat) (o : Od), S.2.1[i]? = some o → I (66 + p i) 5 = o.2.2.2.2.2)
    (kk : ∀ k, k ≤ n → (∀ (i : Nat) (o : Od), k ≤ i → S.2.1[i]? = some o → o.2.2.2.2.2 < lim) → (k = 0 ∨ ∃ o : Od, S.2.1[k - 1]? = some o ∧ ¬ o.2.2.2.2.2 < lim) → ∀ M' : Nat → Nat → Nat, (∀ a, a ≠ 65 → M' a = M a) → (∀ j, j < 16 → j ≠ k → M' 65 j = 66 + p (t_in k n j) + 1) →
      Ev d X0 2 73 [.ref 64, .int a1, .int a2, .int a3, .int a4, .int lim, .ref (66 + p n), .int (nI k)] [] (LK, I, M') Q) :
    ∀ k, k ≤ n → (∀ (i : Nat) (o : Od), k ≤ i → S.2.1[i]? = some o → o.2.2.2.2.2 < lim) → ∀ M' : Nat → Nat → Nat, (∀ a, a ≠ 65 → M' a = M a) → (∀ j, j < 16 → j ≠ k → M' 65 j = 66 + p (t_in k n j) + 1) →
      Ev d X0 2 29 [.ref 64, .int a1, .int a2, .int a3, .int a4, .int lim, .ref (66 + p n), .int (nI k)] [] (LK, I, M') Q
  | 0, hk, hlt, M', h1, h2 => by
    have k1 := kk 0 (by omega) hlt (Or.inl rfl) M' h1 h2
    rw [H2_29]
    simp (disch := omega) only [k2_0, k2_1, k2_4, k2_6, k2_9, k2_11, k2_12, k2_13, k2_16, k2_17, k2_20, k2_21, k2_23, k2_24, k2_27, k2_31, k2_34, k2_35, k2_38, k2_40, k2_41, k2_42, k2_43, k2_46, k2_48, k2_51, k2_52, k2_55, k2_57, k2_58, k2_61, k2_63, k2_64, k2_65, k2_66, k2_67, k2_70, k2_74, k2_77, k2_79, k2_81, k2_82, k2_84, k2_85, k2_88, k2_91, k2_93, k2_94, k2_97, k2_99, k2_100, k2_103, k2_105, k2_106, k2_109, k2_111, k2_113, k2_116, k2_118, k2_120, k2_123, k2_124, k2_125, k2_128, k2_129, k2_130, k2_133, k2_134, k2_135, k2_138, k2_139, k2_140, k2_143, k2_145, k2_148, e_aald, e_aast, e_al0, e_al6, e_an0, e_an6, e_as6, e_az6, e_b0, e_b1, e_c2, e_c3, e_const, e_dupi, e_dupr, e_getI, e_getR, e_goto, e_ii7, e_il1, e_il2, e_il3, e_il4, e_il5, e_il7, e_is7, e_putI, e_reti, e_z5, Option.toList_some, Option.toList_none, List.cons_append, List.nil_append, List.append_nil, List.length_cons, List.length_nil, Nat.reduceAdd, Nat.reduceLeDiff, Nat.zero_le, true_and, and_true, and_self, true_implies, forall_const, ai_rvs, ai_rv0, ai_b_0, Classical.not_not, Int32.le_refl, not_true_eq_false, false_implies]
    exact k1
  | k + 1, hk, hlt, M', h1, h2 => by
    have k1 := kk (k + 1) hk hlt
    have ih := c2_l hn h hl p0 p3 kk k (by omega)
    obtain ⟨o, ho⟩ := get_lt (L := S.2.1) (i := k) (by omega)
    have eb : M' 64 0 = 65 + 1 := by rw [h1 64 (by omega)]; exact m_bo h
    have er : M' 65 k = 66 + p k + 1 := by
      rw [h2 k (by omega) (by omega)]
      unfold t_in
      rw [if_pos (by omega)]
    have hpk := p0 k (by omega)
    rw [H2_29]
    simp (disch := omega) only [k2_0, k2_1, k2_4, k2_6, k2_9, k2_11, k2_12, k2_13, k2_16, k2_17, k2_20, k2_21, k2_23, k2_24, k2_27, k2_31, k2_34, k2_35, k2_38, k2_40, k2_41, k2_42, k2_43, k2_46, k2_48, k2_51, k2_52, k2_55, k2_57, k2_58, k2_61, k2_63, k2_64, k2_65, k2_66, k2_67, k2_70, k2_74, k2_77, k2_79, k2_81, k2_82, k2_84, k2_85, k2_88, k2_91, k2_93, k2_94, k2_97, k2_99, k2_100, k2_103, k2_105, k2_106, k2_109, k2_111, k2_113, k2_116, k2_118, k2_120, k2_123, k2_124, k2_125, k2_128, k2_129, k2_130, k2_133, k2_134, k2_135, k2_138, k2_139, k2_140, k2_143, k2_145, k2_148, e_aald, e_aast, e_al0, e_al6, e_an0, e_an6, e_as6, e_az6, e_b0, e_b1, e_c2, e_c3, e_const, e_dupi, e_dupr, e_getI, e_getR, e_goto, e_ii7, e_il1, e_il2, e_il3, e_il4, e_il5, e_il7, e_is7, e_putI, e_reti, e_z5, Option.toList_some, Option.toList_none, List.cons_append, List.nil_append, List.append_nil, List.length_cons, List.length_nil, Nat.reduceAdd, Nat.reduceLeDiff, Nat.zero_le, true_and, and_true, and_self, true_implies, forall_const, ai_rvs, ai_rv0, ai_b_0, Classical.not_not, nIle, nIm1, q_64, eb, a_od, nIc, er, q_od, p3 k o ho, q_65, or_true]
    have em : nI (k + 1) + (-1) = nI k := pk_m1 k
    refine ⟨fun g => g.elim, fun _ => ⟨fun g => ?_, fun g => ?_⟩⟩
    · exact k1 (Or.inr ⟨o, ho, i_nlt.mpr g⟩) M' h1 h2
    · rw [em]
      refine ih (fun i o' hi ho' => ?_) _ (fun a ha => ?_) (fun j hj hjk => ?_)
      · by_cases hik : i = k
        · subst hik
          rw [ho] at ho'
          cases ho'
          exact i_nle.mp g
        · exact hlt i o' (by omega) ho'
      · rw [ai_u_other _ _ _ _ ha, h1 a ha]
      · show (if 65 = 65 ∧ j = k + 1 then 66 + p k + 1 else M' 65 j) = _
        by_cases hj1 : j = k + 1
        · rw [if_pos ⟨rfl, hj1⟩]
          unfold t_in
          rw [if_neg (by omega), if_neg (by omega), if_pos (by omega)]
          congr 3
          omega
        · rw [if_neg (fun g9 => hj1 g9.2), h2 j hj hj1]
          congr 3
          unfold t_in
          repeat' split
          all_goals omega
/-- Book.insert -/
theorem c2 {S : St} {a1 a2 a3 a4 lim : Int32} (h : EX 1 S C I M) (k1 : S.2.1.length = 16 → Q (some (.int (-1000000003))) (LK, I, M))
    (k2 : S.2.1.length < 16 → ∀ k I' M', k ≤ S.2.1.length → (∀ (i : Nat) (o : Od), k ≤ i → S.2.1[i]? = some o → o.2.2.2.2.2 < lim) → (k = 0 ∨ ∃ o : Od, S.2.1[k - 1]? = some o ∧ ¬ o.2.2.2.2.2 < lim) →
      EX 1 (ug (ug S.1 3 (nI (S.2.1.length + 1))) 2 (S.1 2 + nI 1), S.2.1.take k ++ (S.1 2, a1, a2, a3, a4, lim) :: S.2.1.drop k, S.2.2) C I' M' → Q (some (.int (S.1 2))) (LK, I', M')) :
    Cl d 2 [.ref 64, .int a1, .int a2, .int a3, .int a4, .int lim] (LK, I, M) Q := by
  obtain ⟨l1, l2, l3⟩ := h.len
  obtain ⟨p, p0, p1, p2, p3⟩ := h.rows
  by_cases hf : S.2.1.length = 16
  · have kf := k1 hf
    simp (disch := omega) only [E2, k2_0, k2_1, k2_4, k2_6, k2_9, k2_11, k2_12, k2_13, k2_16, k2_17, k2_20, k2_21, k2_23, k2_24, k2_27, k2_31, k2_34, k2_35, k2_38, k2_40, k2_41, k2_42, k2_43, k2_46, k2_48, k2_51, k2_52, k2_55, k2_57, k2_58, k2_61, k2_63, k2_64, k2_65, k2_66, k2_67, k2_70, k2_74, k2_77, k2_79, k2_81, k2_82, k2_84, k2_85, k2_88, k2_91, k2_93, k2_94, k2_97, k2_99, k2_100, k2_103, k2_105, k2_106, k2_109, k2_111, k2_113, k2_116, k2_118, k2_120, k2_123, k2_124, k2_125, k2_128, k2_129, k2_130, k2_133, k2_134, k2_135, k2_138, k2_139, k2_140, k2_143, k2_145, k2_148, e_aald, e_aast, e_al0, e_al6, e_an0, e_an6, e_as6, e_az6, e_b0, e_b1, e_c2, e_c3, e_const, e_dupi, e_dupr, e_getI, e_getR, e_goto, e_ii7, e_il1, e_il2, e_il3, e_il4, e_il5, e_il7, e_is7, e_putI, e_reti, e_z5, Option.toList_some, Option.toList_none, List.cons_append, List.nil_append, List.append_nil, List.length_cons, List.length_nil, Nat.reduceAdd, Nat.reduceLeDiff, Nat.zero_le, true_and, and_true, and_self, true_implies, forall_const, ai_rvs, ai_rv0, ai_b_0, Classical.not_not, q_64, l2, hf, nIlt, Nat.lt_irrefl, false_implies, not_false_eq_true]
    exact kf
  · have hlt : S.2.1.length < 16 := by omega
    have hpn := p0 S.2.1.length (by omega)
    simp (disch := omega) only [E2, k2_0, k2_1, k2_4, k2_6, k2_9, k2_11, k2_12, k2_13, k2_16, k2_17, k2_20, k2_21, k2_23, k2_24, k2_27, k2_31, k2_34, k2_35, k2_38, k2_40, k2_41, k2_42, k2_43, k2_46, k2_48, k2_51, k2_52, k2_55, k2_57, k2_58, k2_61, k2_63, k2_64, k2_65, k2_66, k2_67, k2_70, k2_74, k2_77, k2_79, k2_81, k2_82, k2_84, k2_85, k2_88, k2_91, k2_93, k2_94, k2_97, k2_99, k2_100, k2_103, k2_105, k2_106, k2_109, k2_111, k2_113, k2_116, k2_118, k2_120, k2_123, k2_124, k2_125, k2_128, k2_129, k2_130, k2_133, k2_134, k2_135, k2_138, k2_139, k2_140, k2_143, k2_145, k2_148, e_aald, e_aast, e_al0, e_al6, e_an0, e_an6, e_as6, e_az6, e_b0, e_b1, e_c2, e_c3, e_const, e_dupi, e_dupr, e_getI, e_getR, e_goto, e_ii7, e_il1, e_il2, e_il3, e_il4, e_il5, e_il7, e_is7, e_putI, e_reti, e_z5, Option.toList_some, Option.toList_none, List.cons_append, List.nil_append, List.append_nil, List.length_cons, List.length_nil, Nat.reduceAdd, Nat.reduceLeDiff, Nat.zero_le, true_and, and_true, and_self, true_implies, forall_const, ai_rvs, ai_rv0, ai_b_0, Classical.not_not, q_64, l2, nIlt, m_bo h, a_od, nIc, p1]
    refine ⟨fun _ => ?_, fun g => absurd hlt g⟩
    refine c2_l (p := p) (n := S.2.1.length) hlt h rfl p0 (fun i o hi => (p3 i o hi).2.2.2.2.2) ?_ S.2.1.length (Nat.le_refl _) (fun i o hi ho => absurd (List.getElem?_eq_some_iff.mp ho).1 (by omega)) M (fun _ _ => rfl) (fun j hj hjn => ?_)
    · intro k hk hlo hhi M' h1 h2
      have eb : M' 64 0 = 65 + 1 := by rw [h1 64 (by omega)]; exact m_bo h
      simp (disch := omega) only [K2_0, K2_1, e_aald, e_aast, e_al0, e_al6, e_an0, e_an6, e_as6, e_az6, e_b0, e_b1, e_c2, e_c3, e_const, e_dupi, e_dupr, e_getI, e_getR, e_goto, e_ii7, e_il1, e_il2, e_il3, e_il4, e_il5, e_il7, e_is7, e_putI, e_reti, e_z5, Option.toList_some, Option.toList_none, List.cons_append, List.nil_append, List.append_nil, List.length_cons, List.length_nil, Nat.reduceAdd, Nat.reduceLeDiff, Nat.zero_le, true_and, and_true, and_self, true_implies, forall_const, ai_rvs, ai_rv0, ai_b_0, Classical.not_not, BO, true_or, q_64, eb, a_od, nIc, q_65, q_od, or_true, rd_np h, l2, nIa, ai_uo, ai_uh]
      refine k2 hlt k _ _ hk hlo hhi ?_
      have hlen : (S.2.1.take k ++ (S.1 2, a1, a2, a3, a4, lim) :: S.2.1.drop k).length = S.2.1.length + 1 := by
        rw [List.length_append, List.length_take, List.length_cons, List.length_drop]; omega
      have hb := h.bk (I' := ai_u (ai_u (ai_u (ai_u (ai_u (ai_u (ai_u I (66 + p S.2.1.length) 0 (S.1 2)) (66 + p S.2.1.length) 1 a1) (66 + p S.2.1.length) 2 a2) (66 + p S.2.1.length) 3 a3) (66 + p S.2.1.length) 4 a4) (66 + p S.2.1.length) 5 lim) 64 1 (nI (S.2.1.length + 1))) (M' := ai_u M' 65 k (66 + p S.2.1.length + 1)) (L' := S.2.1.take k ++ (S.1 2, a1, a2, a3, a4, lim) :: S.2.1.drop k)
        (fun a ha => by rw [ai_u_other _ _ _ _ ha, h1 a ha]) (fun a j g1 g2 => by simp (disch := omega) only [ai_uo]) ⟨by omega, by rw [hlen]; exact ai_uh, fun j => p (t_in k S.2.1.length j), fun j hj => ⟨p0 _ (t_in_lt hk hlt hj), ?_⟩, fun a b ha hb e => t_in_inj hk (p2 _ _ (t_in_lt hk hlt ha) (t_in_lt hk hlt hb) e), fun j o hj => ?_⟩
      · rw [hlen] at hb
        have hu := hb.upd (Or.inl rfl) (k := 2) (by omega) (by omega) (by omega) (by omega) (show il 1 2 = (64, 2) from rfl) (S.1 2 + nI 1)
        exact hu
      · show (if 65 = 65 ∧ j = k then 66 + p S.2.1.length + 1 else M' 65 j) = _
        by_cases hjk : j = k
        · have et : t_in k S.2.1.length j = S.2.1.length := by
            unfold t_in
            repeat' split
            all_goals omega
          rw [if_pos ⟨rfl, hjk⟩]
          show 66 + p S.2.1.length + 1 = 1 + 65 + p (t_in k S.2.1.length j) + 1
          rw [et]
        · rw [if_neg (fun g => hjk g.2), h2 j hj hjk]
      · unfold oat
        rw [show 1 + 65 + p (t_in k S.2.1.length j) = 66 + p (t_in k S.2.1.length j) by omega]
        rcases get_ins hk hj with ⟨rfl, rfl⟩ | ⟨hjk, hlt2, hj2⟩
        · have et : t_in j S.2.1.length j = S.2.1.length := by
            unfold t_in
            rw [if_neg (by omega), if_pos rfl]
          rw [et]
          simp (disch := omega) only [ai_uo, ai_uh]
        · have g3 := p3 _ o hj2
          have hne : p (t_in k S.2.1.length j) ≠ p S.2.1.length := fun e9 => by
            have := p2 _ _ (by omega) (by omega) e9
            omega
          have g4 := p0 (t_in k S.2.1.length j) (by omega)
          simp (disch := omega) only [ai_uo, g3.1, g3.2.1, g3.2.2.1, g3.2.2.2.1, g3.2.2.2.2.1, g3.2.2.2.2.2]
    · rw [p1 j hj]
      congr 3
      unfold t_in
      repeat' split
      all_goals omega
/-- where the insertion goes is where l_in puts it, in a list whose limits don't rise -/
theorem l_in_at {o : Od} : ∀ {L : List Od} {k : Nat}, L.Pairwise (fun x y => y.2.2.2.2.2 ≤ x.2.2.2.2.2) → k ≤ L.length → (∀ (i : Nat) (x : Od), k ≤ i → L[i]? = some x → x.2.2.2.2.2 < o.2.2.2.2.2) → (k = 0 ∨ ∃ x : Od, L[k - 1]? = some x ∧ ¬ x.2.2.2.2.2 < o.2.2.2.2.2) → L.take k ++ o :: L.drop k = l_in o L
  | [], k, _, hk, _, _ => by
    obtain rfl : k = 0 := by simpa using hk
    rfl
  | x :: xs, 0, hs, hk, hlo, hhi => by
    have := hlo 0 x (Nat.le_refl _) rfl
    rw [l_in, if_pos this]
    rfl
  | x :: xs, k + 1, hs, hk, hlo, hhi => by
    rw [List.pairwise_cons] at hs
    have hx : ¬ x.2.2.2.2.2 < o.2.2.2.2.2 := by
      rcases hhi with h | ⟨y, hy, hny⟩
      · omega
      · rw [show k + 1 - 1 = k by omega] at hy
        cases k with
        | zero => cases hy; exact hny
        | succ k =>
          have hm : y ∈ xs := List.mem_of_getElem? hy
          exact fun h9 => hny (Int32.lt_of_le_of_lt (hs.1 y hm) h9)
    rw [l_in, if_neg hx, List.take_succ_cons, List.drop_succ_cons, List.cons_append]
    congr 1
    refine l_in_at hs.2 (by simpa using hk) (fun i y hi hy => hlo (i + 1) y (by omega) hy) ?_
    cases k with
    | zero => exact Or.inl rfl
    | succ k =>
      rcases hhi with h | ⟨y, hy, hny⟩
      · omega
      · exact Or.inr ⟨y, hy, hny⟩
end BOOK2
