/-! all that the class holds; snapshots -/
def WD (S S' : St) (s : Bool) (tx : Nat → Int32) (len : Nat) (I : Nat → Nat → Int32) (M : Nat → Nat → Nat) : Prop :=
  EX 1 S (I, M) I M ∧ EX 114 S' (I, M) I M ∧ PC (I, M) ∧ I 0 3 = (if s then nI 1 else nI 0) ∧ len ≤ 60 ∧ I 227 1 = nI len ∧ ∀ i, i < len → I 228 i = tx i
theorem EX.fr {B : Nat} {S : St} {C : (Nat → Nat → Int32) × (Nat → Nat → Nat)} {I I' : Nat → Nat → Int32} {M M' : Nat → Nat → Nat} (h : EX B S C I M) (e : ∀ a, B ≤ a → a < B + 113 → I' a = I a ∧ M' a = M a) : EX B S (I', M') I' M' := by
  obtain ⟨h1, h2, hn, hg, ⟨b1, b2, p, p1, p2, p3⟩, T, t1, t2, t3⟩ := h
  refine ⟨fun a _ => ⟨rfl, rfl⟩, fun a j x1 x2 x3 => ?_, fun m hm => ?_, fun k hk h5 => ?_, ⟨b1, ?_, p, fun i hi => ?_, p2, fun i o hi => ?_⟩, T, ?_, t2, fun i p hi hiT hp => ?_⟩
  · rw [(e a x1 x2).2]
    exact h2 a j x1 x2 x3
  · rw [(e _ (by omega) (by omega)).1]
    exact hn m hm
  · have hr := il_rng (B := B) hk
    rw [(e _ (by omega) (by omega)).1]
    exact hg k hk h5
  · rw [(e _ (by omega) (by omega)).1]
    exact b2
  · rw [(e _ (by omega) (by omega)).2]
    exact p1 i hi
  · have h8 : i < S.2.1.length := (List.getElem?_eq_some_iff.mp hi).1
    have h9 := (p1 i (by omega)).1
    unfold oat
    rw [(e _ (by omega) (by omega)).1]
    exact p3 i o hi
  · rw [(e _ (by omega) (by omega)).1]
    exact t1
  · rw [(e _ (by omega) (by omega)).1]
    exact t3 i p hi hiT hp
section WORLD
variable {S S' T : St} {s : Bool} {tx : Nat → Int32} {len : Nat} {I I' : Nat → Nat → Int32} {M M' : Nat → Nat → Nat} {d : Nat} {Q : Option Value → ai_H → Prop}
/-- a method of the exchange leaves the rest as it was -/
theorem WD.step (h : WD S S' s tx len I M) (h1 : EX 1 T (I, M) I' M') : WD T S' s tx len I' M' := by
  obtain ⟨w1, w2, w3, w4, w5, w6, w7⟩ := h
  have o : ∀ a, ¬ (1 ≤ a ∧ a < 1 + 113) → I' a = I a ∧ M' a = M a := fun a ha => h1.1 a ha
  refine ⟨h1.fr fun a _ _ => ⟨rfl, rfl⟩, w2.fr fun a x1 x2 => o a (by omega), ?_, ?_, w5, ?_, fun i hi => ?_⟩
  · obtain ⟨p1, p2, p3, p4⟩ := w3
    dsimp only at p1 p2 p3 p4
    unfold PC
    dsimp only
    rw [(o 0 (by omega)).2, (o 227 (by omega)).2]
    exact ⟨p1, p2, p3, p4⟩
  · rw [(o 0 (by omega)).1]; exact w4
  · rw [(o 227 (by omega)).1]; exact w6
  · rw [(o 228 (by omega)).1]; exact w7 i hi
theorem b_63 : ai_bool 6 3 = true := by decide +kernel
/-- PredictionMaker.save -/
theorem c89 (h : WD S S' s tx len I M) (kk : ∀ I', (∀ a, 227 ≤ a → I' a = I a) → WD S S true tx len I' M → Q (some (.int (S.1 1))) (LK, I', M)) : Cl (d + 3) 89 [.ref 0] (LK, I, M) Q := by
  obtain ⟨w1, w2, w3, w4, w5, w6, w7⟩ := h
  simp (disch := omega) only [E89, K89, ai_c1i, ai_c1n, ai_c1r, e_al0, e_an0, e_const, e_cv2, e_getI, e_getR, e_putI, e_reti, Option.toList_some, Option.toList_none, List.cons_append, List.nil_append, List.append_nil, List.length_cons, List.length_nil, Nat.reduceAdd, Nat.reduceLeDiff, Nat.zero_le, true_and, and_true, and_self, true_implies, forall_const, ai_rvs, ai_rv0, ai_b_0, Classical.not_not, q_0, q_1, q_64, q_65, q_82, q_mk, q_od, not_true_eq_false, false_implies, not_false_eq_true, true_implies, and_true, true_and, if_true, if_false, Bool.false_eq_true, m_00 w1 w3, m_01 w1 w3, q_114]
  refine c8 (D := 114) (E := 1) (Or.inr rfl) (Or.inl rfl) (by omega) w1 w2 fun I1 o1 h1 => ?_
  have f1 : EX 1 S (I1, M) I1 M := w1.fr fun a x1 x2 => ⟨o1 a (by omega), rfl⟩
  have u1 : EX 1 S (ai_u I1 0 3 (nI 1), M) (ai_u I1 0 3 (nI 1)) M := f1.fr fun a x1 x2 => ⟨ai_u_other _ _ _ _ (by omega), rfl⟩
  have u2 : EX 114 S (ai_u I1 0 3 (nI 1), M) (ai_u I1 0 3 (nI 1)) M := h1.fr fun a x1 x2 => ⟨ai_u_other _ _ _ _ (by omega), rfl⟩
  have u3 : PC (ai_u I1 0 3 (nI 1), M) := w3
  simp (disch := omega) only [K89, ai_c1i, ai_c1n, ai_c1r, e_al0, e_an0, e_const, e_cv2, e_getI, e_getR, e_putI, e_reti, Option.toList_some, Option.toList_none, List.cons_append, List.nil_append, List.append_nil, List.length_cons, List.length_nil, Nat.reduceAdd, Nat.reduceLeDiff, Nat.zero_le, true_and, and_true, and_self, true_implies, forall_const, ai_rvs, ai_rv0, ai_b_0, Classical.not_not, q_0, q_1, q_64, q_65, q_82, q_mk, q_od, not_true_eq_false, false_implies, not_false_eq_true, true_implies, and_true, true_and, if_true, if_false, Bool.false_eq_true, m_00 u1 u3, rd_mc u1]
  refine ⟨Or.inr (Or.inr rfl), kk _ (fun a ha => ?_) ⟨u1, u2, u3, ?_, w5, ?_, fun i hi => ?_⟩⟩
  · rw [ai_u_other _ _ _ _ (by omega), o1 a (by omega)]
  · rw [ai_uh]; rfl
  · rw [ai_uo (by omega), o1 227 (by omega)]; exact w6
  · rw [ai_uo (by omega), o1 228 (by omega)]; exact w7 i hi
/-- PredictionMaker.restore -/
theorem c90 (h : WD S S' s tx len I M) (k1 : s = false → Q (some (.int (-1000000001))) (LK, I, M)) (k2 : s = true → ∀ I', (∀ a, 227 ≤ a → I' a = I a) → WD S' S' s tx len I' M → Q (some (.int (S'.1 1))) (LK, I', M)) : Cl (d + 3) 90 [.ref 0] (LK, I, M) Q := by
  obtain ⟨w1, w2, w3, w4, w5, w6, w7⟩ := h
  cases s with
  | false =>
    have k3 := k1 rfl
    simp only [Bool.false_eq_true, if_false] at w4
    simp (disch := omega) only [E90, K90, ai_c1i, ai_c1n, ai_c1r, e_al0, e_an0, e_const, e_cv2, e_getI, e_getR, e_reti, e_z1, Option.toList_some, Option.toList_none, List.cons_append, List.nil_append, List.append_nil, List.length_cons, List.length_nil, Nat.reduceAdd, Nat.reduceLeDiff, Nat.zero_le, true_and, and_true, and_self, true_implies, forall_const, ai_rvs, ai_rv0, ai_b_0, Classical.not_not, q_0, q_1, q_64, q_65, q_82, q_mk, q_od, not_true_eq_false, false_implies, not_false_eq_true, true_implies, and_true, true_and, if_true, if_false, Bool.false_eq_true, w4]
    exact k3
  | true =>
    have k3 := k2 rfl
    simp only [if_true] at w4
    have ne : (nI 1 = nI 0) = False := eq_false (by decide)
    simp (disch := omega) only [E90, K90, ai_c1i, ai_c1n, ai_c1r, e_al0, e_an0, e_const, e_cv2, e_getI, e_getR, e_reti, e_z1, Option.toList_some, Option.toList_none, List.cons_append, List.nil_append, List.append_nil, List.length_cons, List.length_nil, Nat.reduceAdd, Nat.reduceLeDiff, Nat.zero_le, true_and, and_true, and_self, true_implies, forall_const, ai_rvs, ai_rv0, ai_b_0, Classical.not_not, q_0, q_1, q_64, q_65, q_82, q_mk, q_od, not_true_eq_false, false_implies, not_false_eq_true, true_implies, and_true, true_and, if_true, if_false, Bool.false_eq_true, w4, ne, m_00 w1 w3, m_01 w1 w3, q_1]
    refine c8 (D := 1) (E := 114) (Or.inl rfl) (Or.inr rfl) (by omega) w2 w1 fun I1 o1 h1 => ?_
    have f2 : EX 114 S' (I1, M) I1 M := w2.fr fun a x1 x2 => ⟨o1 a (by omega), rfl⟩
    have u3 : PC (I1, M) := w3
    simp (disch := omega) only [K90, ai_c1i, ai_c1n, ai_c1r, e_al0, e_an0, e_const, e_cv2, e_getI, e_getR, e_reti, e_z1, Option.toList_some, Option.toList_none, List.cons_append, List.nil_append, List.append_nil, List.length_cons, List.length_nil, Nat.reduceAdd, Nat.reduceLeDiff, Nat.zero_le, true_and, and_true, and_self, true_implies, forall_const, ai_rvs, ai_rv0, ai_b_0, Classical.not_not, q_0, q_1, q_64, q_65, q_82, q_mk, q_od, not_true_eq_false, false_implies, not_false_eq_true, true_implies, and_true, true_and, if_true, if_false, Bool.false_eq_true, m_00 h1 u3, rd_mc h1]
    refine k3 _ (fun a ha => o1 a (by omega)) ⟨h1, f2, u3, ?_, w5, ?_, fun i hi => ?_⟩
    · rw [o1 0 (by omega), w4]; rfl
    · rw [o1 227 (by omega)]; exact w6
    · rw [o1 228 (by omega)]; exact w7 i hi
end WORLD
