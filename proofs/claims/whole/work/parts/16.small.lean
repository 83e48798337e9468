/-! the small functions -/
theorem ai_rvs {n : Nat} : ai_rv (n + 1) = .ref n := rfl
theorem ai_rv0 : ai_rv 0 = .null := rfl
theorem i_nlt {x y : Int32} : (¬ x < y) ↔ y ≤ x := Int32.not_lt
theorem i_nle {x y : Int32} : (¬ x ≤ y) ↔ y < x := Int32.not_le
theorem ai_b_t {c : Prop} [Decidable c] (h : c) : ai_b c = nI 1 := by simp [ai_b, h, nI]
theorem ai_b_f {c : Prop} [Decidable c] (h : ¬ c) : ai_b c = nI 0 := by simp [ai_b, h, nI]
theorem c95 {d : Nat} {h : ai_H} {Q : Option Value → ai_H → Prop} {v lo hi : Int32} : Cl d 95 [.int v, .int lo, .int hi] h Q ↔ Q (some (.int (ai_b (lo ≤ v ∧ v ≤ hi)))) h := by
  refine Cl_one ?_
  simp only [E95, K95, e_c2, e_c4, e_const, e_goto, e_il0, e_il1, e_il2, e_retb, Option.toList_some, Option.toList_none, List.cons_append, List.nil_append, List.append_nil, List.length_cons, List.length_nil, Nat.reduceAdd, Nat.reduceLeDiff, Nat.zero_le, true_and, and_true, and_self, true_implies, forall_const, ai_rvs, ai_rv0, ai_b_0, Classical.not_not]
  refine ⟨fun h1 => ⟨Or.inl rfl, ?_⟩, fun h1 => ⟨fun h2 => ⟨Or.inl rfl, ?_⟩, fun h2 => ⟨Or.inr rfl, ?_⟩⟩⟩
  · rw [ai_b_f (fun h3 => i_nlt.mpr h3.1 h1)]
  · rw [ai_b_f (fun h3 => i_nle.mpr h2 h3.2)]
  · rw [ai_b_t ⟨i_nlt.mp h1, i_nlt.mp h2⟩]
theorem c97 {d : Nat} {h : ai_H} {Q : Option Value → ai_H → Prop} {v lo hi : Int32} : Cl d 97 [.int v, .int lo, .int hi] h Q ↔ Q (some (.int (ai_b (lo ≤ v ∧ v ≤ hi)))) h := by
  refine Cl_one ?_
  simp only [E97, K97, e_c2, e_c4, e_const, e_goto, e_il0, e_il1, e_il2, e_retb, Option.toList_some, Option.toList_none, List.cons_append, List.nil_append, List.append_nil, List.length_cons, List.length_nil, Nat.reduceAdd, Nat.reduceLeDiff, Nat.zero_le, true_and, and_true, and_self, true_implies, forall_const, ai_rvs, ai_rv0, ai_b_0, Classical.not_not]
  refine ⟨fun h1 => ⟨Or.inl rfl, ?_⟩, fun h1 => ⟨fun h2 => ⟨Or.inl rfl, ?_⟩, fun h2 => ⟨Or.inr rfl, ?_⟩⟩⟩
  · rw [ai_b_f (fun h3 => i_nlt.mpr h3.1 h1)]
  · rw [ai_b_f (fun h3 => i_nle.mpr h2 h3.2)]
  · rw [ai_b_t ⟨i_nlt.mp h1, i_nlt.mp h2⟩]
theorem c92 {d : Nat} {h : ai_H} {Q : Option Value → ai_H → Prop} {v : Int32} : Cl (d + 1) 92 [.int v] h Q ↔ Q (some (.int (ai_b (nI 0 ≤ v ∧ v ≤ nI 5)))) h := by
  refine Cl_one ?_
  simp only [E92, K92, ai_c1i, ai_c1n, ai_c1r, e_const, e_cs3, e_il0, e_retb, Option.toList_some, Option.toList_none, List.cons_append, List.nil_append, List.append_nil, List.length_cons, List.length_nil, Nat.reduceAdd, Nat.reduceLeDiff, Nat.zero_le, true_and, and_true, and_self, true_implies, forall_const, ai_rvs, ai_rv0, ai_b_0, Classical.not_not, c95]
  exact ai_b_01 _
theorem c103 {d : Nat} {h : ai_H} {Q : Option Value → ai_H → Prop} {v : Int32} : Cl (d + 1) 103 [.int v] h Q ↔ Q (some (.int (ai_b (nI 0 ≤ v ∧ v ≤ nI 5)))) h := by
  refine Cl_one ?_
  simp only [E103, K103, ai_c1i, ai_c1n, ai_c1r, e_const, e_cs3, e_il0, e_retb, Option.toList_some, Option.toList_none, List.cons_append, List.nil_append, List.append_nil, List.length_cons, List.length_nil, Nat.reduceAdd, Nat.reduceLeDiff, Nat.zero_le, true_and, and_true, and_self, true_implies, forall_const, ai_rvs, ai_rv0, ai_b_0, Classical.not_not, c97]
  exact ai_b_01 _
theorem c93 {d : Nat} {h : ai_H} {Q : Option Value → ai_H → Prop} {v : Int32} : Cl (d + 1) 93 [.int v] h Q ↔ Q (some (.int (ai_b ((-1000000005) ≤ v ∧ v ≤ (-1000000001))))) h := by
  refine Cl_one ?_
  simp only [E93, K93, ai_c1i, ai_c1n, ai_c1r, e_const, e_cs3, e_il0, e_retb, Option.toList_some, Option.toList_none, List.cons_append, List.nil_append, List.append_nil, List.length_cons, List.length_nil, Nat.reduceAdd, Nat.reduceLeDiff, Nat.zero_le, true_and, and_true, and_self, true_implies, forall_const, ai_rvs, ai_rv0, ai_b_0, Classical.not_not, c95]
  exact ai_b_01 _
theorem c98 {d : Nat} {h : ai_H} {Q : Option Value → ai_H → Prop} {v : Int32} : Cl d 98 [.int v] h Q ↔ Q (some (.int (nI 12 + nI 43 * v))) h := by
  refine Cl_one ?_
  simp only [E98, K98, e_b0, e_b2, e_const, e_il0, e_reti, Option.toList_some, Option.toList_none, List.cons_append, List.nil_append, List.append_nil, List.length_cons, List.length_nil, Nat.reduceAdd, Nat.reduceLeDiff, Nat.zero_le, true_and, and_true, and_self, true_implies, forall_const, ai_rvs, ai_rv0, ai_b_0, Classical.not_not]
theorem c99 {d : Nat} {h : ai_H} {Q : Option Value → ai_H → Prop} {v : Int32} : Cl d 99 [.int v] h Q ↔ Q (some (.int (nI 270 + nI 6 * v))) h := by
  refine Cl_one ?_
  simp only [E99, K99, e_b0, e_b2, e_const, e_il0, e_reti, Option.toList_some, Option.toList_none, List.cons_append, List.nil_append, List.append_nil, List.length_cons, List.length_nil, Nat.reduceAdd, Nat.reduceLeDiff, Nat.zero_le, true_and, and_true, and_self, true_implies, forall_const, ai_rvs, ai_rv0, ai_b_0, Classical.not_not]
theorem c94 {d : Nat} {h : ai_H} {Q : Option Value → ai_H → Prop} {s o : Int32} : Cl d 94 [.int s, .int o] h Q ↔ Q (some (.int (ai_b ((s >>> (o &&& 31)) &&& nI 1 = nI 1)))) h := by
  refine Cl_one ?_
  simp only [E94, K94, e_b3, e_b5, e_c1, e_const, e_goto, e_il0, e_il1, e_retb, Option.toList_some, Option.toList_none, List.cons_append, List.nil_append, List.append_nil, List.length_cons, List.length_nil, Nat.reduceAdd, Nat.reduceLeDiff, Nat.zero_le, true_and, and_true, and_self, true_implies, forall_const, ai_rvs, ai_rv0, ai_b_0, Classical.not_not]
  refine ⟨fun h1 => ⟨Or.inl rfl, ?_⟩, fun h1 => ⟨Or.inr rfl, ?_⟩⟩
  · rw [ai_b_f h1]
  · rw [ai_b_t h1]
