/-! the reference's orders -/
def RO (J : Nat → Int32) (L os : List Od) : Prop := L.length ≤ 16 ∧ os.Perm L ∧ os.Pairwise (fun a b => a.1 < b.1) ∧ ∀ (i : Nat) (o : Od), os[i]? = some o → ∀ j, j < 6 → J (270 + 6 * i + j) = o_f o j
/-- an order's numbers are small -/
def OD (x : Od) : Prop := ∃ N l li, N < 1000000000 ∧ x.1 = nI N ∧ 1 ≤ l ∧ l ≤ 50 ∧ x.2.2.2.2.1 = nI l ∧ 1 ≤ li ∧ li ≤ 2880 ∧ x.2.2.2.2.2 = nI li
section RORD
variable {I : Nat → Nat → Int32} {J : Nat → Int32} {M : Nat → Nat → Nat} {S : St} {m n b o k t T : Nat} {L os : List Od} {d : Nat} {Q : Option Value → ai_H → Prop}
theorem RO.f (h : RO J L os) {i : Nat} {x : Od} (hi : os[i]? = some x) : J (270 + 6 * i) = x.1 ∧ J (270 + 6 * i + 1) = x.2.1 ∧ J (270 + 6 * i + 2) = x.2.2.1 ∧ J (270 + 6 * i + 3) = x.2.2.2.1 ∧ J (270 + 6 * i + 4) = x.2.2.2.2.1 ∧ J (270 + 6 * i + 5) = x.2.2.2.2.2 :=
  ⟨h.2.2.2 i x hi 0 (by omega), h.2.2.2 i x hi 1 (by omega), h.2.2.2 i x hi 2 (by omega), h.2.2.2 i x hi 3 (by omega), h.2.2.2 i x hi 4 (by omega), h.2.2.2 i x hi 5 (by omega)⟩
theorem RO.len (h : RO J L os) : os.length = L.length ∧ os.length ≤ 16 := ⟨h.2.1.length_eq, by rw [h.2.1.length_eq]; exact h.1⟩
theorem RO.mem (h : RO J L os) {i : Nat} {x : Od} (hi : os[i]? = some x) : x ∈ L := h.2.1.mem_iff.mp (List.mem_of_getElem? hi)
theorem i_0lt {x : Int32} : (¬ x ≤ nI 0) ↔ nI 0 < x := Int32.not_le
/-- which of two orders is tried first -/
def ofb (x y : Od) : Bool := decide (y.2.2.2.2.2 < x.2.2.2.2.2) || (decide (x.2.2.2.2.2 = y.2.2.2.2.2) && decide (x.1 < y.1))
theorem ofb_c {x y : Od} : ofb x y = true ↔ y.2.2.2.2.2 < x.2.2.2.2.2 ∨ (x.2.2.2.2.2 = y.2.2.2.2.2 ∧ x.1 < y.1) := by
  unfold ofb
  simp only [Bool.or_eq_true, Bool.and_eq_true, decide_eq_true_eq]
theorem r124 {i j : Nat} {x y : Od} (hm : RM M) (h : RO J L os) (hd : ∀ x ∈ L, OD x) (hi : os[i]? = some x) (hj : os[j]? = some y) : Cl (d + 1) 124 [.ref 229, .int (nI i), .int (nI j)] (LK, sr I J, M) Q ↔ Q (some (.int (ai_b (ofb x y = true)))) (LK, sr I J, M) := by
  refine Cl_one ?_
  obtain ⟨l1, l2⟩ := h.len
  have hi8 : i < os.length := (List.getElem?_eq_some_iff.mp hi).1
  have hj8 : j < os.length := (List.getElem?_eq_some_iff.mp hj).1
  obtain ⟨x0, x1, x2, x3, x4, x5⟩ := h.f hi
  obtain ⟨y0, y1, y2, y3, y4, y5⟩ := h.f hj
  obtain ⟨N, l, li, hN, eN, -, -, -, hl1, hl2, el⟩ := hd x (h.mem hi)
  obtain ⟨N', l', li', hN', eN', -, -, -, hl1', hl2', el'⟩ := hd y (h.mem hj)
  have z0 : (nI 0 = 0 ∨ nI 0 = 1) := Or.inl rfl
  have z1 : (nI 1 = 0 ∨ nI 1 = 1) := Or.inr rfl
  simp (disch := omega) only [E124, K124, ai_c1i, ai_c1n, ai_c1r, e_al0, e_an0, e_b0, e_b1, e_c3, e_const, e_cs1, e_getR, e_goto, e_iald, e_il1, e_il2, e_il3, e_is3, e_retb, e_z1, e_z4, Option.toList_some, Option.toList_none, List.cons_append, List.nil_append, List.append_nil, List.length_cons, List.length_nil, Nat.reduceAdd, Nat.reduceLeDiff, Nat.zero_le, true_and, and_true, and_self, true_implies, forall_const, ai_rvs, ai_rv0, ai_b_0, Classical.not_not, not_true_eq_false, false_implies, not_false_eq_true, true_implies, and_true, true_and, if_true, if_false, Bool.false_eq_true, q_229, a_nw, hm.1, c99, nIm, nIa, nIc, sr_r, x0, x5, y0, y5, eN, el, eN', el', sg_pos, sg_eq, nIle, z0, z1]
  have e : ofb x y = true ↔ li' < li ∨ (li = li' ∧ N < N') := by
    rw [ofb_c, el, el', eN, eN', nIlt (by omega) (by omega), nIeq (by omega) (by omega), nIlt (by omega) (by omega)]
  by_cases g : li' < li ∨ (li = li' ∧ N < N')
  · rw [ai_b_t (e.mpr g)]
    grind
  · rw [ai_b_f (fun h => g (e.mp h))]
    grind
/-- the place of an order's number in the reference -/
theorem r128_l {x : Int32} (hm : RM M) (h : RO J L os) (h3 : J 3 = nI L.length) (k1 : ∀ i o, os[i]? = some o → o.1 = x → Q (some (.int (nI i))) (LK, sr I J, M)) (k2 : (∀ (i : Nat) (o : Od), os[i]? = some o → o.1 ≠ x) → Q (some (.int (-1))) (LK, sr I J, M)) :
    ∀ r i v, r + i = os.length → (v = -1 ∧ (∀ (j : Nat) (o : Od), j < i → os[j]? = some o → o.1 ≠ x) ∨ ∃ j o, v = nI j ∧ os[j]? = some o ∧ o.1 = x) → Ev (d + 1) X0 128 4 [.ref 229, .int x, .int v, .int (nI i)] [] (LK, sr I J, M) Q
  | 0, i, v, hi, hv => by
    obtain ⟨l1, l2⟩ := h.len
    rw [H128_4]
    simp (disch := omega) only [K128, ai_c1i, ai_c1n, ai_c1r, e_al0, e_an0, e_c1, e_c3, e_const, e_cs1, e_getR, e_goto, e_iald, e_ii3, e_il1, e_il2, e_il3, e_is2, e_is3, e_reti, Option.toList_some, Option.toList_none, List.cons_append, List.nil_append, List.append_nil, List.length_cons, List.length_nil, Nat.reduceAdd, Nat.reduceLeDiff, Nat.zero_le, true_and, and_true, and_self, true_implies, forall_const, ai_rvs, ai_rv0, ai_b_0, Classical.not_not, not_true_eq_false, false_implies, not_false_eq_true, true_implies, and_true, true_and, if_true, if_false, Bool.false_eq_true, q_229, a_nw, hm.1, nIc, sr_r, h3, nIle]
    refine ⟨fun _ => ?_, fun g => absurd (by omega) g⟩
    rcases hv with ⟨rfl, hno⟩ | ⟨j, o, rfl, ho, e⟩
    · exact k2 fun j o ho => hno j o (by have := (List.getElem?_eq_some_iff.mp ho).1; omega) ho
    · exact k1 j o ho e
  | r + 1, i, v, hi, hv => by
    obtain ⟨l1, l2⟩ := h.len
    obtain ⟨o, ho⟩ := get_lt (L := os) (i := i) (by omega)
    have e0 := (h.f ho).1
    rw [H128_4]
    simp (disch := omega) only [K128, ai_c1i, ai_c1n, ai_c1r, e_al0, e_an0, e_c1, e_c3, e_const, e_cs1, e_getR, e_goto, e_iald, e_ii3, e_il1, e_il2, e_il3, e_is2, e_is3, e_reti, Option.toList_some, Option.toList_none, List.cons_append, List.nil_append, List.append_nil, List.length_cons, List.length_nil, Nat.reduceAdd, Nat.reduceLeDiff, Nat.zero_le, true_and, and_true, and_self, true_implies, forall_const, ai_rvs, ai_rv0, ai_b_0, Classical.not_not, not_true_eq_false, false_implies, not_false_eq_true, true_implies, and_true, true_and, if_true, if_false, Bool.false_eq_true, q_229, a_nw, hm.1, c99, nIm, nIa, nIc, sr_r, h3, nIle, e0]
    refine ⟨fun g => absurd g (by omega), fun _ => ⟨fun g => ?_, fun g => ?_⟩⟩
    · refine r128_l hm h h3 k1 k2 r (i + 1) v (by omega) ?_
      rcases hv with ⟨rfl, hno⟩ | hv
      · refine Or.inl ⟨rfl, fun j o' hj ho' => ?_⟩
        by_cases hji : j = i
        · subst hji
          rw [ho] at ho'
          cases ho'
          exact g
        · exact hno j o' (by omega) ho'
      · exact Or.inr hv
    · exact r128_l hm h h3 k1 k2 r (i + 1) (nI i) (by omega) (Or.inr ⟨i, o, rfl, ho, g⟩)
theorem r128 {x : Int32} (hm : RM M) (h : RO J L os) (h3 : J 3 = nI L.length) (k1 : ∀ i o, os[i]? = some o → o.1 = x → Q (some (.int (nI i))) (LK, sr I J, M)) (k2 : (∀ (i : Nat) (o : Od), os[i]? = some o → o.1 ≠ x) → Q (some (.int (-1))) (LK, sr I J, M)) : Cl (d + 1) 128 [.ref 229, .int x] (LK, sr I J, M) Q := by
  simp (disch := omega) only [E128, K128, ai_c1i, ai_c1n, ai_c1r, e_al0, e_an0, e_c1, e_c3, e_const, e_cs1, e_getR, e_goto, e_iald, e_ii3, e_il1, e_il2, e_il3, e_is2, e_is3, e_reti, Option.toList_some, Option.toList_none, List.cons_append, List.nil_append, List.append_nil, List.length_cons, List.length_nil, Nat.reduceAdd, Nat.reduceLeDiff, Nat.zero_le, true_and, and_true, and_self, true_implies, forall_const, ai_rvs, ai_rv0, ai_b_0, Classical.not_not, not_true_eq_false, false_implies, not_false_eq_true, true_implies, and_true, true_and, if_true, if_false, Bool.false_eq_true]
  exact r128_l hm h h3 k1 k2 os.length 0 (-1) (by omega) (Or.inl ⟨rfl, fun j o hj => by omega⟩)
end RORD
