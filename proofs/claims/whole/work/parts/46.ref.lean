/-! how the reference holds the abstract state -/
def o_f (o : Od) (j : Nat) : Int32 := if j = 0 then o.1 else if j = 1 then o.2.1 else if j = 2 then o.2.2.1 else if j = 3 then o.2.2.2.1 else if j = 4 then o.2.2.2.2.1 else o.2.2.2.2.2
def Ro (J : Nat → Int32) (L : List Od) : Prop := L.length ≤ 16 ∧ ∃ os : List Od, os.Perm L ∧ os.Pairwise (fun a b => a.1 < b.1) ∧ ∀ (i : Nat) (o : Od), os[i]? = some o → ∀ j, j < 6 → J (270 + 6 * i + j) = o_f o j
def Rh (J : Nat → Int32) (S : St) : Prop := ∃ T, S.1 4 = nI T ∧ T < 1000000000 ∧ J 5 = nI (min 30 T) ∧ ∀ i p, i < 30 → i < T → p < 6 → J (366 + 6 * i + p) = S.2.2 i p
def RM (M : Nat → Nat → Nat) : Prop := M 229 0 = 230 + 1 ∧ M 229 1 = 231 + 1 ∧ M 229 3 = 232 + 1
def RJ (J : Nat → Int32) (S : St) (k : Nat) : Prop := S.1 1 = nI k ∧ k ≤ 6 ∧ (∀ j, j < 12 + 43 * k → j ≠ 5 → J j = S.1 j) ∧ Ro J S.2.1 ∧ Rh J S
section REF
variable {S : St} {I : Nat → Nat → Int32} {M : Nat → Nat → Nat} {k m n : Nat} {d : Nat} {Q : Option Value → ai_H → Prop}
theorem r100 (hm : RM M) {w : Nat} (h6 : m < 6) (hw : w < 43) : Cl (d + 1) 100 [.ref 229, .int (nI m), .int (nI w)] (LK, I, M) Q ↔ Q (some (.int (I 230 (12 + 43 * m + w)))) (LK, I, M) := by
  refine Cl_one ?_
  simp (disch := omega) only [E100, K100, ai_c1i, ai_c1n, ai_c1r, e_al0, e_an0, e_b0, e_cs1, e_getR, e_iald, e_il1, e_il2, e_reti, Option.toList_some, Option.toList_none, List.cons_append, List.nil_append, List.append_nil, List.length_cons, List.length_nil, Nat.reduceAdd, Nat.reduceLeDiff, Nat.zero_le, true_and, and_true, and_self, true_implies, forall_const, ai_rvs, ai_rv0, ai_b_0, Classical.not_not, not_true_eq_false, false_implies, not_false_eq_true, true_implies, and_true, true_and, if_true, if_false, Bool.false_eq_true, q_229, a_nw, hm.1, c98, nIm, nIa, nIc]
theorem in_k {x : Int32} {k : Nat} (hk : k < 1000) : (nI 0 ≤ x ∧ x ≤ nI k - nI 1) ↔ (nI 0 ≤ x ∧ x < nI k) := by
  rcases Nat.eq_zero_or_pos k with rfl | h
  · refine ⟨fun g => absurd (Int32.le_trans g.1 g.2) (by decide), fun g => absurd (Int32.lt_of_le_of_lt g.1 g.2) (by decide)⟩
  · rw [pk_sub h]
    refine ⟨fun g => ⟨g.1, Int32.lt_of_le_of_lt g.2 ((nIlt (by omega) (by omega)).mpr (by omega))⟩, fun g => ?_⟩
    obtain ⟨j, hj, rfl⟩ := nI_ofr g.1 g.2 (by omega)
    exact ⟨g.1, (nIle (by omega) (by omega)).mpr (by omega)⟩
theorem r101 (hm : RM M) (hv : VB S.1 k) (h : RJ (I 230) S k) {x : Int32} (k1 : ∀ m, m < k → x = nI m → mAt S.1 x = some m → Q (some (.int (nI 1))) (LK, I, M)) (k2 : mAt S.1 x = none → Q (some (.int (nI 0))) (LK, I, M)) : Cl (d + 1) 101 [.ref 229, .int x] (LK, I, M) Q := by
  have hk6 := hv.2.1
  have e1 : I 230 1 = nI k := by rw [h.2.2.1 1 (by omega) (by omega)]; exact hv.1
  simp (disch := omega) only [E101, K101, ai_c1i, ai_c1n, ai_c1r, e_al0, e_an0, e_b1, e_const, e_cs3, e_getR, e_iald, e_il1, e_retb, Option.toList_some, Option.toList_none, List.cons_append, List.nil_append, List.append_nil, List.length_cons, List.length_nil, Nat.reduceAdd, Nat.reduceLeDiff, Nat.zero_le, true_and, and_true, and_self, true_implies, forall_const, ai_rvs, ai_rv0, ai_b_0, Classical.not_not, not_true_eq_false, false_implies, not_false_eq_true, true_implies, and_true, true_and, if_true, if_false, Bool.false_eq_true, q_229, a_nw, hm.1, nIc, c97, e1, in_k]
  refine ⟨ai_b_01 _, ?_⟩
  rcases mAt_c hv x with ⟨m, hm', rfl, e⟩ | ⟨e, hx⟩
  · rw [ai_b_t ⟨nI_0le m (by omega), (nIlt (by omega) (by omega)).mpr hm'⟩]
    exact k1 m hm' rfl e
  · rw [ai_b_f (fun g => by obtain ⟨j, hj, rfl⟩ := nI_ofr g.1 g.2 (by omega); exact hx j hj rfl)]
    exact k2 e
theorem r102 (hm : RM M) (hv : VB S.1 k) (h : RJ (I 230) S k) {x y : Int32} (k1 : ∀ m n o, m < k → x = nI m → S.1 (14 + 43 * m) = nI n → 2 ≤ n → n ≤ 4 → o < n → y = nI o → mWith S.1 x y = some (m, o) → Q (some (.int (nI 1))) (LK, I, M)) (k2 : mWith S.1 x y = none → Q (some (.int (nI 0))) (LK, I, M)) : Cl (d + 2) 102 [.ref 229, .int x, .int y] (LK, I, M) Q := by
  have hk6 := hv.2.1
  simp (disch := omega) only [E102, K102, ai_c1i, ai_c1n, ai_c1r, e_al0, e_an0, e_b1, e_const, e_cs3, e_cv2, e_cv3, e_goto, e_il1, e_il2, e_retb, e_z0, Option.toList_some, Option.toList_none, List.cons_append, List.nil_append, List.append_nil, List.length_cons, List.length_nil, Nat.reduceAdd, Nat.reduceLeDiff, Nat.zero_le, true_and, and_true, and_self, true_implies, forall_const, ai_rvs, ai_rv0, ai_b_0, Classical.not_not, not_true_eq_false, false_implies, not_false_eq_true, true_implies, and_true, true_and, if_true, if_false, Bool.false_eq_true, q_229, a_nw]
  refine r101 hm hv h (fun m hm' ex em => ?_) (fun em => ?_)
  · subst ex
    obtain ⟨n, hn, n2, n4⟩ := hv.2.2 m hm'
    have e2 : I 230 (12 + 43 * m + 2) = nI n := by rw [h.2.2.1 _ (by omega) (by omega), p_2]; exact hn
    have ne : (nI 1 = nI 0) = False := eq_false (by decide)
    simp (disch := omega) only [K102, ai_c1i, ai_c1n, ai_c1r, e_al0, e_an0, e_b1, e_const, e_cs3, e_cv2, e_cv3, e_goto, e_il1, e_il2, e_retb, e_z0, Option.toList_some, Option.toList_none, List.cons_append, List.nil_append, List.append_nil, List.length_cons, List.length_nil, Nat.reduceAdd, Nat.reduceLeDiff, Nat.zero_le, true_and, and_true, and_self, true_implies, forall_const, ai_rvs, ai_rv0, ai_b_0, Classical.not_not, not_true_eq_false, false_implies, not_false_eq_true, true_implies, and_true, true_and, if_true, if_false, Bool.false_eq_true, q_229, a_nw, r100 hm, e2, c97, in_k, ne]
    rcases mW_c hv (nI m) y with ⟨m', n', o, g1, g2, g3, g4, g5, g6, g7, g8⟩ | ⟨e, hx⟩
    · obtain rfl := (nIeq (by omega) (by omega)).mp g2
      obtain rfl := (nIeq (by omega) (by omega)).mp (hn.symm.trans g3)
      have g9 : nI 0 ≤ y ∧ y < nI n := by rw [g7]; exact ⟨nI_0le o (by omega), (nIlt (by omega) (by omega)).mpr g6⟩
      refine ⟨fun g => absurd g9 g, fun _ => ⟨Or.inr rfl, k1 m n o g1 rfl g3 g4 g5 g6 g7 g8⟩⟩
    · refine ⟨fun _ => ⟨Or.inl rfl, k2 e⟩, fun g => ?_⟩
      obtain ⟨o, ho, rfl⟩ := nI_ofr g.1 g.2 (by omega)
      exact (hx m n o hm' hn ho n4 rfl rfl).elim
  · have e : mWith S.1 x y = none := by unfold mWith; rw [em]
    simp (disch := omega) only [K102, ai_c1i, ai_c1n, ai_c1r, e_al0, e_an0, e_b1, e_const, e_cs3, e_cv2, e_cv3, e_goto, e_il1, e_il2, e_retb, e_z0, Option.toList_some, Option.toList_none, List.cons_append, List.nil_append, List.append_nil, List.length_cons, List.length_nil, Nat.reduceAdd, Nat.reduceLeDiff, Nat.zero_le, true_and, and_true, and_self, true_implies, forall_const, ai_rvs, ai_rv0, ai_b_0, Classical.not_not, not_true_eq_false, false_implies, not_false_eq_true, true_implies, and_true, true_and, if_true, if_false, Bool.false_eq_true, q_229, a_nw]
    exact ⟨Or.inl rfl, k2 e⟩
end REF
