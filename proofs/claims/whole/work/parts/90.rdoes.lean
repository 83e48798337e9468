/-! the reference parses the text, does a trade -/
/-- the heap with the reference's place in the text -/
def atp (I : Nat → Nat → Int32) (p : Nat) : Nat → Nat → Int32 := ai_u I 229 5 (nI p)
section RDOES
variable {tx : Nat → Int32} {len p k T N tm : Nat} {I : Nat → Nat → Int32} {J : Nat → Int32} {M : Nat → Nat → Nat} {S : St} {d : Nat} {Q : Option Value → ai_H → Prop}
theorem r153 {lo hi : Int32} (hm : RM M) (hl : len ≤ 60) (h4 : I 229 4 = nI len) (ht : ∀ i, i < len → I 232 i = tx i) (k1 : p < len → lo ≤ tx p ∧ tx p ≤ hi → Q (some (.int (nI 1))) (LK, atp I (p + 1), M)) (k2 : ¬ (p < len ∧ lo ≤ tx p ∧ tx p ≤ hi) → Q (some (.int (nI 0))) (LK, atp I p, M)) (hp : p ≤ len) : Cl (d + 1) 153 [.ref 229, .int lo, .int hi] (LK, atp I p, M) Q := by
  have e5 : atp I p 229 5 = nI p := ai_uh
  have e4 : atp I p 229 4 = nI len := by unfold atp; rw [ai_uo (by omega)]; exact h4
  have et : p < len → atp I p 232 p = tx p := fun h => by unfold atp; rw [ai_uo (by omega)]; exact ht p h
  have n10 : (nI 1 = nI 0) = False := eq_false (by decide)
  have eu : ai_u (atp I p) 229 5 (nI (p + 1)) = atp I (p + 1) := ai_u_add
  by_cases g : p < len
  · have g' : ¬ len ≤ p := by omega
    by_cases g2 : lo ≤ tx p ∧ tx p ≤ hi
    · have k3 := k1 g g2
      simp (disch := omega) only [E153, K153, ai_c1i, ai_c1n, ai_c1r, e_al0, e_an0, e_b0, e_c3, e_const, e_cs3, e_dupi, e_dupr, e_getI, e_getR, e_iald, e_il1, e_il2, e_putI, e_retb, e_z1, Option.toList_some, Option.toList_none, List.cons_append, List.nil_append, List.append_nil, List.length_cons, List.length_nil, Nat.reduceAdd, Nat.reduceLeDiff, Nat.zero_le, true_and, and_true, and_self, true_implies, forall_const, ai_rvs, ai_rv0, ai_b_0, Classical.not_not, not_true_eq_false, false_implies, not_false_eq_true, true_implies, and_true, true_and, if_true, if_false, Bool.false_eq_true, q_229, a_nw, e5, e4, nIle, g', hm.2.2, a_rt, nIc, et g, c97, g2, n10, nIa, eu, BO, true_or]
      exact ⟨Or.inr rfl, k3⟩
    · have k3 := k2 (fun h => g2 h.2)
      simp (disch := omega) only [E153, K153, ai_c1i, ai_c1n, ai_c1r, e_al0, e_an0, e_b0, e_c3, e_const, e_cs3, e_dupi, e_dupr, e_getI, e_getR, e_iald, e_il1, e_il2, e_putI, e_retb, e_z1, Option.toList_some, Option.toList_none, List.cons_append, List.nil_append, List.append_nil, List.length_cons, List.length_nil, Nat.reduceAdd, Nat.reduceLeDiff, Nat.zero_le, true_and, and_true, and_self, true_implies, forall_const, ai_rvs, ai_rv0, ai_b_0, Classical.not_not, not_true_eq_false, false_implies, not_false_eq_true, true_implies, and_true, true_and, if_true, if_false, Bool.false_eq_true, q_229, a_nw, e5, e4, nIle, g', hm.2.2, a_rt, nIc, et g, c97, g2]
      exact ⟨Or.inl rfl, k3⟩
  · have g' : len ≤ p := by omega
    have k3 := k2 (fun h => g h.1)
    simp (disch := omega) only [E153, K153, ai_c1i, ai_c1n, ai_c1r, e_al0, e_an0, e_b0, e_c3, e_const, e_cs3, e_dupi, e_dupr, e_getI, e_getR, e_iald, e_il1, e_il2, e_putI, e_retb, e_z1, Option.toList_some, Option.toList_none, List.cons_append, List.nil_append, List.append_nil, List.length_cons, List.length_nil, Nat.reduceAdd, Nat.reduceLeDiff, Nat.zero_le, true_and, and_true, and_self, true_implies, forall_const, ai_rvs, ai_rv0, ai_b_0, Classical.not_not, not_true_eq_false, false_implies, not_false_eq_true, true_implies, and_true, true_and, if_true, if_false, Bool.false_eq_true, q_229, a_nw, e5, e4, nIle, g']
    exact ⟨Or.inl rfl, k3⟩
theorem le_anti {c x : Int32} : (c ≤ x ∧ x ≤ c) ↔ x = c := ⟨fun h => Int32.le_antisymm h.2 h.1, fun h => by rw [h]; exact ⟨Int32.le_refl _, Int32.le_refl _⟩⟩
theorem r154_e {q : Nat} {st : Int32} (hm : RM M) (hl : len ≤ 60) (h4 : I 229 4 = nI len) (ht : ∀ i, i < len → I 232 i = tx i) (hq : q ≤ len) (hst : st = nI 3 ∧ (q < len → ¬ (nI 48 ≤ tx q ∧ tx q ≤ nI 57)) ∨ st = nI 4) (k1 : q + 4 ≤ len → TRE tx q → eo tx (len - q) q st = eo tx (len - (q + 4)) (q + 4) (nI 8) → Q (some (.int (nI 1))) (LK, atp I (q + 4), M)) (k2 : ∀ e, e ≤ len → eo tx (len - q) q st = nI e → Q (some (.int (nI 0))) (LK, atp I e, M)) : Ev (d + 2) X0 154 55 [.ref 229] [] (LK, atp I q, M) Q := by
  have n10 : (nI 1 = nI 0) = False := eq_false (by decide)
  have hm' : q < len → sA st (tx q) = if tx q = nI 109 then nI 5 else -1 := fun hl => by
    rcases hst with ⟨rfl, h⟩ | rfl
    · rw [sA_3, if_neg (h hl)]
    · exact sA_4
  have h8 : st ≠ nI 8 := by
    rcases hst with ⟨rfl, -⟩ | rfl <;> decide
  simp (disch := omega) only [K154, ai_c1i, ai_c1n, ai_c1r, e_al0, e_an0, e_const, e_cv3, e_goto, e_popi, e_popr, e_retb, e_z0, e_z1, Option.toList_some, Option.toList_none, List.cons_append, List.nil_append, List.append_nil, List.length_cons, List.length_nil, Nat.reduceAdd, Nat.reduceLeDiff, Nat.zero_le, true_and, and_true, and_self, true_implies, forall_const, ai_rvs, ai_rv0, ai_b_0, Classical.not_not, not_true_eq_false, false_implies, not_false_eq_true, true_implies, and_true, true_and, if_true, if_false, Bool.false_eq_true, q_229, a_nw]
  refine r153 hm hl h4 ht (fun g1 g2 => ?_) (fun g1 => ?_) hq
  · rw [le_anti] at g2
    have e1 := eo_n (tx := tx) g1 ((hm' g1).trans (if_pos g2)) (by decide)
    simp (disch := omega) only [K154, ai_c1i, ai_c1n, ai_c1r, e_al0, e_an0, e_const, e_cv3, e_goto, e_popi, e_popr, e_retb, e_z0, e_z1, Option.toList_some, Option.toList_none, List.cons_append, List.nil_append, List.append_nil, List.length_cons, List.length_nil, Nat.reduceAdd, Nat.reduceLeDiff, Nat.zero_le, true_and, and_true, and_self, true_implies, forall_const, ai_rvs, ai_rv0, ai_b_0, Classical.not_not, not_true_eq_false, false_implies, not_false_eq_true, true_implies, and_true, true_and, if_true, if_false, Bool.false_eq_true, q_229, a_nw, n10]
    refine r153 hm hl h4 ht (fun g3 g4 => ?_) (fun g3 => ?_) (by omega)
    · have e2 := eo_n (tx := tx) g3 (sA_5.trans (if_pos g4)) (by decide)
      simp (disch := omega) only [K154, ai_c1i, ai_c1n, ai_c1r, e_al0, e_an0, e_const, e_cv3, e_goto, e_popi, e_popr, e_retb, e_z0, e_z1, Option.toList_some, Option.toList_none, List.cons_append, List.nil_append, List.append_nil, List.length_cons, List.length_nil, Nat.reduceAdd, Nat.reduceLeDiff, Nat.zero_le, true_and, and_true, and_self, true_implies, forall_const, ai_rvs, ai_rv0, ai_b_0, Classical.not_not, not_true_eq_false, false_implies, not_false_eq_true, true_implies, and_true, true_and, if_true, if_false, Bool.false_eq_true, q_229, a_nw, n10]
      refine r153 hm hl h4 ht (fun g5 g6 => ?_) (fun g5 => ?_) (by omega)
      · rw [le_anti] at g6
        have e3 := eo_n (tx := tx) g5 (sA_6.trans (if_pos g6)) (by decide)
        simp (disch := omega) only [K154, ai_c1i, ai_c1n, ai_c1r, e_al0, e_an0, e_const, e_cv3, e_goto, e_popi, e_popr, e_retb, e_z0, e_z1, Option.toList_some, Option.toList_none, List.cons_append, List.nil_append, List.append_nil, List.length_cons, List.length_nil, Nat.reduceAdd, Nat.reduceLeDiff, Nat.zero_le, true_and, and_true, and_self, true_implies, forall_const, ai_rvs, ai_rv0, ai_b_0, Classical.not_not, not_true_eq_false, false_implies, not_false_eq_true, true_implies, and_true, true_and, if_true, if_false, Bool.false_eq_true, q_229, a_nw, n10]
        refine r153 hm hl h4 ht (fun g7 g8 => ?_) (fun g7 => ?_) (by omega)
        · have e4 := eo_n (tx := tx) g7 (sA_7.trans (if_pos g8)) (by decide)
          have k3 := k1 (by omega) ⟨g2, g4, g6, g8⟩ (e1.trans (e2.trans (e3.trans e4)))
          simp (disch := omega) only [K154, ai_c1i, ai_c1n, ai_c1r, e_al0, e_an0, e_const, e_cv3, e_goto, e_popi, e_popr, e_retb, e_z0, e_z1, Option.toList_some, Option.toList_none, List.cons_append, List.nil_append, List.append_nil, List.length_cons, List.length_nil, Nat.reduceAdd, Nat.reduceLeDiff, Nat.zero_le, true_and, and_true, and_self, true_implies, forall_const, ai_rvs, ai_rv0, ai_b_0, Classical.not_not, not_true_eq_false, false_implies, not_false_eq_true, true_implies, and_true, true_and, if_true, if_false, Bool.false_eq_true, q_229, a_nw, n10]
          exact ⟨Or.inr rfl, k3⟩
        · have k3 := k2 (q + 3) (by omega) (e1.trans (e2.trans (e3.trans (eo_x (by omega) (fun hl => sA_7.trans (if_neg fun h => g7 ⟨hl, h⟩)) (by decide)))))
          simp (disch := omega) only [K154, ai_c1i, ai_c1n, ai_c1r, e_al0, e_an0, e_const, e_cv3, e_goto, e_popi, e_popr, e_retb, e_z0, e_z1, Option.toList_some, Option.toList_none, List.cons_append, List.nil_append, List.append_nil, List.length_cons, List.length_nil, Nat.reduceAdd, Nat.reduceLeDiff, Nat.zero_le, true_and, and_true, and_self, true_implies, forall_const, ai_rvs, ai_rv0, ai_b_0, Classical.not_not, not_true_eq_false, false_implies, not_false_eq_true, true_implies, and_true, true_and, if_true, if_false, Bool.false_eq_true, q_229, a_nw]
          exact ⟨Or.inl rfl, k3⟩
      · have k3 := k2 (q + 2) (by omega) (e1.trans (e2.trans (eo_x (by omega) (fun hl => sA_6.trans (if_neg fun h => g5 ⟨hl, le_anti.mpr h⟩)) (by decide))))
        simp (disch := omega) only [K154, ai_c1i, ai_c1n, ai_c1r, e_al0, e_an0, e_const, e_cv3, e_goto, e_popi, e_popr, e_retb, e_z0, e_z1, Option.toList_some, Option.toList_none, List.cons_append, List.nil_append, List.append_nil, List.length_cons, List.length_nil, Nat.reduceAdd, Nat.reduceLeDiff, Nat.zero_le, true_and, and_true, and_self, true_implies, forall_const, ai_rvs, ai_rv0, ai_b_0, Classical.not_not, not_true_eq_false, false_implies, not_false_eq_true, true_implies, and_true, true_and, if_true, if_false, Bool.false_eq_true, q_229, a_nw]
        exact ⟨Or.inl rfl, k3⟩
    · have k3 := k2 (q + 1) (by omega) (e1.trans (eo_x (by omega) (fun hl => sA_5.trans (if_neg fun h => g3 ⟨hl, h⟩)) (by decide)))
      simp (disch := omega) only [K154, ai_c1i, ai_c1n, ai_c1r, e_al0, e_an0, e_const, e_cv3, e_goto, e_popi, e_popr, e_retb, e_z0, e_z1, Option.toList_some, Option.toList_none, List.cons_append, List.nil_append, List.append_nil, List.length_cons, List.length_nil, Nat.reduceAdd, Nat.reduceLeDiff, Nat.zero_le, true_and, and_true, and_self, true_implies, forall_const, ai_rvs, ai_rv0, ai_b_0, Classical.not_not, not_true_eq_false, false_implies, not_false_eq_true, true_implies, and_true, true_and, if_true, if_false, Bool.false_eq_true, q_229, a_nw]
      exact ⟨Or.inl rfl, k3⟩
  · have k3 := k2 q hq (eo_x hq (fun hl => (hm' hl).trans (if_neg fun h => g1 ⟨hl, le_anti.mpr h⟩)) h8)
    simp (disch := omega) only [K154, ai_c1i, ai_c1n, ai_c1r, e_al0, e_an0, e_const, e_cv3, e_goto, e_popi, e_popr, e_retb, e_z0, e_z1, Option.toList_some, Option.toList_none, List.cons_append, List.nil_append, List.append_nil, List.length_cons, List.length_nil, Nat.reduceAdd, Nat.reduceLeDiff, Nat.zero_le, true_and, and_true, and_self, true_implies, forall_const, ai_rvs, ai_rv0, ai_b_0, Classical.not_not, not_true_eq_false, false_implies, not_false_eq_true, true_implies, and_true, true_and, if_true, if_false, Bool.false_eq_true, q_229, a_nw]
    exact ⟨Or.inl rfl, k3⟩
theorem r154 (hm : RM M) (hl : len ≤ 60) (h4 : I 229 4 = nI len) (ht : ∀ i, i < len → I 232 i = tx i) (hp : p ≤ len) (k1 : ∀ q, q + 4 ≤ len → TRD tx p q → eo tx (len - p) p (nI 0) = eo tx (len - (q + 4)) (q + 4) (nI 8) → Q (some (.int (nI 1))) (LK, atp I (q + 4), M)) (k2 : ∀ e, e ≤ len → eo tx (len - p) p (nI 0) = nI e → Q (some (.int (nI 0))) (LK, atp I e, M)) : Cl (d + 2) 154 [.ref 229] (LK, atp I p, M) Q := by
  have n10 : (nI 1 = nI 0) = False := eq_false (by decide)
  simp (disch := omega) only [E154, K154, ai_c1i, ai_c1n, ai_c1r, e_al0, e_an0, e_const, e_cv3, e_goto, e_popi, e_popr, e_retb, e_z0, e_z1, Option.toList_some, Option.toList_none, List.cons_append, List.nil_append, List.append_nil, List.length_cons, List.length_nil, Nat.reduceAdd, Nat.reduceLeDiff, Nat.zero_le, true_and, and_true, and_self, true_implies, forall_const, ai_rvs, ai_rv0, ai_b_0, Classical.not_not, not_true_eq_false, false_implies, not_false_eq_true, true_implies, and_true, true_and, if_true, if_false, Bool.false_eq_true, q_229, a_nw]
  refine r153 hm hl h4 ht (fun g1 g1' => ?_) (fun g1 => ?_) hp
  · have e1 := eo_n (tx := tx) g1 (sA_0.trans (if_pos g1')) (by decide)
    have sgn : (p + 1 < len ∧ (tx (p + 1) = nI 43 ∨ tx (p + 1) = nI 45)) → Ev (d + 2) X0 154 33 [.ref 229] [] (LK, atp I (p + 2), M) Q := fun ⟨g2, g2'⟩ => by
      have e2 := eo_n (tx := tx) g2 (sA_1.trans (if_pos g2')) (by decide)
      simp (disch := omega) only [K154, ai_c1i, ai_c1n, ai_c1r, e_al0, e_an0, e_const, e_cv3, e_goto, e_popi, e_popr, e_retb, e_z0, e_z1, Option.toList_some, Option.toList_none, List.cons_append, List.nil_append, List.append_nil, List.length_cons, List.length_nil, Nat.reduceAdd, Nat.reduceLeDiff, Nat.zero_le, true_and, and_true, and_self, true_implies, forall_const, ai_rvs, ai_rv0, ai_b_0, Classical.not_not, not_true_eq_false, false_implies, not_false_eq_true, true_implies, and_true, true_and, if_true, if_false, Bool.false_eq_true, q_229, a_nw]
      refine r153 hm hl h4 ht (fun g3 g3' => ?_) (fun g3 => ?_) (by omega)
      · have e3 := eo_n (tx := tx) g3 (sA_2.trans (if_pos g3')) (by decide)
        simp (disch := omega) only [K154, ai_c1i, ai_c1n, ai_c1r, e_al0, e_an0, e_const, e_cv3, e_goto, e_popi, e_popr, e_retb, e_z0, e_z1, Option.toList_some, Option.toList_none, List.cons_append, List.nil_append, List.append_nil, List.length_cons, List.length_nil, Nat.reduceAdd, Nat.reduceLeDiff, Nat.zero_le, true_and, and_true, and_self, true_implies, forall_const, ai_rvs, ai_rv0, ai_b_0, Classical.not_not, not_true_eq_false, false_implies, not_false_eq_true, true_implies, and_true, true_and, if_true, if_false, Bool.false_eq_true, q_229, a_nw, n10]
        refine r153 hm hl h4 ht (fun g4 g4' => ?_) (fun g4 => ?_) (by omega)
        · have e4 := eo_n (tx := tx) g4 (sA_3.trans (if_pos g4')) (by decide)
          have l := r154_e (d := d) (q := p + 4) (st := nI 4) (I := I) (Q := Q) hm hl h4 ht (by omega) (Or.inr rfl) (fun h1 h2 h3 => k1 (p + 4) h1 ⟨g1', g2', g3', Or.inr ⟨rfl, g4'⟩, h2⟩ (e1.trans (e2.trans (e3.trans (e4.trans h3))))) (fun e h1 h2 => k2 e h1 (e1.trans (e2.trans (e3.trans (e4.trans h2)))))
          simp (disch := omega) only [K154, ai_c1i, ai_c1n, ai_c1r, e_al0, e_an0, e_const, e_cv3, e_goto, e_popi, e_popr, e_retb, e_z0, e_z1, Option.toList_some, Option.toList_none, List.cons_append, List.nil_append, List.append_nil, List.length_cons, List.length_nil, Nat.reduceAdd, Nat.reduceLeDiff, Nat.zero_le, true_and, and_true, and_self, true_implies, forall_const, ai_rvs, ai_rv0, ai_b_0, Classical.not_not, not_true_eq_false, false_implies, not_false_eq_true, true_implies, and_true, true_and, if_true, if_false, Bool.false_eq_true, q_229, a_nw, n10] at l ⊢
          exact l
        · have l := r154_e (d := d) (q := p + 3) (st := nI 3) (I := I) (Q := Q) hm hl h4 ht (by omega) (Or.inl ⟨rfl, fun hl h => g4 ⟨hl, h⟩⟩) (fun h1 h2 h3 => k1 (p + 3) h1 ⟨g1', g2', g3', Or.inl rfl, h2⟩ (e1.trans (e2.trans (e3.trans h3)))) (fun e h1 h2 => k2 e h1 (e1.trans (e2.trans (e3.trans h2))))
          simp (disch := omega) only [K154, ai_c1i, ai_c1n, ai_c1r, e_al0, e_an0, e_const, e_cv3, e_goto, e_popi, e_popr, e_retb, e_z0, e_z1, Option.toList_some, Option.toList_none, List.cons_append, List.nil_append, List.append_nil, List.length_cons, List.length_nil, Nat.reduceAdd, Nat.reduceLeDiff, Nat.zero_le, true_and, and_true, and_self, true_implies, forall_const, ai_rvs, ai_rv0, ai_b_0, Classical.not_not, not_true_eq_false, false_implies, not_false_eq_true, true_implies, and_true, true_and, if_true, if_false, Bool.false_eq_true, q_229, a_nw, n10] at l ⊢
          exact l
      · have k3 := k2 (p + 2) (by omega) (e1.trans (e2.trans (eo_x (by omega) (fun hl => sA_2.trans (if_neg fun h => g3 ⟨hl, h⟩)) (by decide))))
        simp (disch := omega) only [K154, ai_c1i, ai_c1n, ai_c1r, e_al0, e_an0, e_const, e_cv3, e_goto, e_popi, e_popr, e_retb, e_z0, e_z1, Option.toList_some, Option.toList_none, List.cons_append, List.nil_append, List.append_nil, List.length_cons, List.length_nil, Nat.reduceAdd, Nat.reduceLeDiff, Nat.zero_le, true_and, and_true, and_self, true_implies, forall_const, ai_rvs, ai_rv0, ai_b_0, Classical.not_not, not_true_eq_false, false_implies, not_false_eq_true, true_implies, and_true, true_and, if_true, if_false, Bool.false_eq_true, q_229, a_nw]
        exact ⟨Or.inl rfl, k3⟩
    simp (disch := omega) only [K154, ai_c1i, ai_c1n, ai_c1r, e_al0, e_an0, e_const, e_cv3, e_goto, e_popi, e_popr, e_retb, e_z0, e_z1, Option.toList_some, Option.toList_none, List.cons_append, List.nil_append, List.append_nil, List.length_cons, List.length_nil, Nat.reduceAdd, Nat.reduceLeDiff, Nat.zero_le, true_and, and_true, and_self, true_implies, forall_const, ai_rvs, ai_rv0, ai_b_0, Classical.not_not, not_true_eq_false, false_implies, not_false_eq_true, true_implies, and_true, true_and, if_true, if_false, Bool.false_eq_true, q_229, a_nw] at sgn
    simp (disch := omega) only [K154, ai_c1i, ai_c1n, ai_c1r, e_al0, e_an0, e_const, e_cv3, e_goto, e_popi, e_popr, e_retb, e_z0, e_z1, Option.toList_some, Option.toList_none, List.cons_append, List.nil_append, List.append_nil, List.length_cons, List.length_nil, Nat.reduceAdd, Nat.reduceLeDiff, Nat.zero_le, true_and, and_true, and_self, true_implies, forall_const, ai_rvs, ai_rv0, ai_b_0, Classical.not_not, not_true_eq_false, false_implies, not_false_eq_true, true_implies, and_true, true_and, if_true, if_false, Bool.false_eq_true, q_229, a_nw, n10]
    refine r153 hm hl h4 ht (fun g2 g2' => ?_) (fun g2 => ?_) (by omega)
    · rw [le_anti] at g2'
      have l := sgn ⟨g2, Or.inl g2'⟩
      simp (disch := omega) only [K154, ai_c1i, ai_c1n, ai_c1r, e_al0, e_an0, e_const, e_cv3, e_goto, e_popi, e_popr, e_retb, e_z0, e_z1, Option.toList_some, Option.toList_none, List.cons_append, List.nil_append, List.append_nil, List.length_cons, List.length_nil, Nat.reduceAdd, Nat.reduceLeDiff, Nat.zero_le, true_and, and_true, and_self, true_implies, forall_const, ai_rvs, ai_rv0, ai_b_0, Classical.not_not, not_true_eq_false, false_implies, not_false_eq_true, true_implies, and_true, true_and, if_true, if_false, Bool.false_eq_true, q_229, a_nw, n10]
      exact l
    · simp (disch := omega) only [K154, ai_c1i, ai_c1n, ai_c1r, e_al0, e_an0, e_const, e_cv3, e_goto, e_popi, e_popr, e_retb, e_z0, e_z1, Option.toList_some, Option.toList_none, List.cons_append, List.nil_append, List.append_nil, List.length_cons, List.length_nil, Nat.reduceAdd, Nat.reduceLeDiff, Nat.zero_le, true_and, and_true, and_self, true_implies, forall_const, ai_rvs, ai_rv0, ai_b_0, Classical.not_not, not_true_eq_false, false_implies, not_false_eq_true, true_implies, and_true, true_and, if_true, if_false, Bool.false_eq_true, q_229, a_nw]
      refine r153 hm hl h4 ht (fun g3 g3' => ?_) (fun g3 => ?_) (by omega)
      · rw [le_anti] at g3'
        have l := sgn ⟨g3, Or.inr g3'⟩
        simp (disch := omega) only [K154, ai_c1i, ai_c1n, ai_c1r, e_al0, e_an0, e_const, e_cv3, e_goto, e_popi, e_popr, e_retb, e_z0, e_z1, Option.toList_some, Option.toList_none, List.cons_append, List.nil_append, List.append_nil, List.length_cons, List.length_nil, Nat.reduceAdd, Nat.reduceLeDiff, Nat.zero_le, true_and, and_true, and_self, true_implies, forall_const, ai_rvs, ai_rv0, ai_b_0, Classical.not_not, not_true_eq_false, false_implies, not_false_eq_true, true_implies, and_true, true_and, if_true, if_false, Bool.false_eq_true, q_229, a_nw, n10]
        exact l
      · have k3 := k2 (p + 1) (by omega) (e1.trans (eo_x (by omega) (fun hl => sA_1.trans (if_neg fun h => h.elim (fun h => g2 ⟨hl, le_anti.mpr h⟩) (fun h => g3 ⟨hl, le_anti.mpr h⟩))) (by decide)))
        simp (disch := omega) only [K154, ai_c1i, ai_c1n, ai_c1r, e_al0, e_an0, e_const, e_cv3, e_goto, e_popi, e_popr, e_retb, e_z0, e_z1, Option.toList_some, Option.toList_none, List.cons_append, List.nil_append, List.append_nil, List.length_cons, List.length_nil, Nat.reduceAdd, Nat.reduceLeDiff, Nat.zero_le, true_and, and_true, and_self, true_implies, forall_const, ai_rvs, ai_rv0, ai_b_0, Classical.not_not, not_true_eq_false, false_implies, not_false_eq_true, true_implies, and_true, true_and, if_true, if_false, Bool.false_eq_true, q_229, a_nw]
        exact ⟨Or.inl rfl, k3⟩
  · have k3 := k2 p hp (eo_x hp (fun hl => sA_0.trans (if_neg fun h => g1 ⟨hl, h⟩)) (by decide))
    simp (disch := omega) only [K154, ai_c1i, ai_c1n, ai_c1r, e_al0, e_an0, e_const, e_cv3, e_goto, e_popi, e_popr, e_retb, e_z0, e_z1, Option.toList_some, Option.toList_none, List.cons_append, List.nil_append, List.append_nil, List.length_cons, List.length_nil, Nat.reduceAdd, Nat.reduceLeDiff, Nat.zero_le, true_and, and_true, and_self, true_implies, forall_const, ai_rvs, ai_rv0, ai_b_0, Classical.not_not, not_true_eq_false, false_implies, not_false_eq_true, true_implies, and_true, true_and, if_true, if_false, Bool.false_eq_true, q_229, a_nw]
    exact ⟨Or.inl rfl, k3⟩
end RDOES
