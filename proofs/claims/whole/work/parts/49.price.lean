/-! the reference's prices -/
def fd (s : Nat → Nat) (n o : Nat) : Nat → Bool
  | 0 => false
  | k + 1 => fd s n o k || decide (rk s n k = o)
section PRICE
variable {I : Nat → Nat → Int32} {M : Nat → Nat → Nat} {m n b o : Nat} {s : Nat → Nat} {d : Nat} {Q : Option Value → ai_H → Prop}
def r_pr (s : Nat → Nat) (n b o : Nat) : Int32 := if fd s n o (aK s n b) then nI 120 / nI b * (nI 12 * nI (s o) - nI 12 / nI (aK s n b) * ((-2) * nI b + nI (rs s n (aK s n b)))) else nI 0
theorem r108_l (hm : RM M) (h : RK (I 230) m n b s) (hn : 1 ≤ n) (hb : 1 ≤ b) (ho : o < n) (kk : Q (some (.int (r_pr s n b o))) (LK, I, M)) :
    ∀ r k x, r + k = aK s n b → Ev (d + 5) X0 108 23 [.ref 229, .int (nI m), .int (nI o), .int (nI (aK s n b)), .int ((-2) * nI b + nI (rs s n k)), .int (if fd s n o k then nI 1 else nI 0), .int (nI k), x] [] (LK, I, M) Q
  | 0, k, x, hk => by
    obtain rfl : k = aK s n b := by omega
    obtain ⟨h1, h2, h3, h4, h5, h6⟩ := id h
    have hK := ac_le (s := s) (n := n) (b := b) (n - 1) 1
    have hK' : aK s n b = ac s n b (n - 1) 1 := rfl
    have n1 : (nI b = nI 0) = False := eq_false (by rw [nIeq (by omega) (by omega)]; omega)
    have n2 : (nI (aK s n b) = nI 0) = False := eq_false (by rw [nIeq (by omega) (by omega)]; omega)
    have n3 : (nI 1 = nI 0) = False := eq_false (by decide)
    unfold r_pr at kk
    rw [H108_23]
    cases hf : fd s n o (aK s n b) with
    | false =>
      rw [hf] at kk
      simp only [Bool.false_eq_true, if_false] at kk
      simp (disch := omega) only [K108_0, K108_1, ai_c1i, ai_c1n, ai_c1r, e_al0, e_an0, e_b0, e_b1, e_b2, e_c1, e_c3, e_const, e_cv2, e_cv3, e_div, e_goto, e_ii6, e_il1, e_il2, e_il3, e_il4, e_il5, e_il6, e_il7, e_is3, e_is4, e_is5, e_is6, e_is7, e_reti, e_z0, Option.toList_some, Option.toList_none, List.cons_append, List.nil_append, List.append_nil, List.length_cons, List.length_nil, Nat.reduceAdd, Nat.reduceLeDiff, Nat.zero_le, true_and, and_true, and_self, true_implies, forall_const, ai_rvs, ai_rv0, ai_b_0, Classical.not_not, not_true_eq_false, false_implies, not_false_eq_true, true_implies, and_true, true_and, if_true, if_false, Bool.false_eq_true, q_229, a_nw, r100 hm, h4, Int32.le_refl, n1, n2, hf]
      exact kk
    | true =>
      rw [hf] at kk
      simp only [if_true] at kk
      simp (disch := omega) only [K108_0, K108_1, ai_c1i, ai_c1n, ai_c1r, e_al0, e_an0, e_b0, e_b1, e_b2, e_c1, e_c3, e_const, e_cv2, e_cv3, e_div, e_goto, e_ii6, e_il1, e_il2, e_il3, e_il4, e_il5, e_il6, e_il7, e_is3, e_is4, e_is5, e_is6, e_is7, e_reti, e_z0, Option.toList_some, Option.toList_none, List.cons_append, List.nil_append, List.append_nil, List.length_cons, List.length_nil, Nat.reduceAdd, Nat.reduceLeDiff, Nat.zero_le, true_and, and_true, and_self, true_implies, forall_const, ai_rvs, ai_rv0, ai_b_0, Classical.not_not, not_true_eq_false, false_implies, not_false_eq_true, true_implies, and_true, true_and, if_true, if_false, Bool.false_eq_true, q_229, a_nw, r100 hm, h4, Int32.le_refl, n1, n2, n3, nIa, h.o ho]
      exact kk
  | r + 1, k, x, hk => by
    have ih := fun x => r108_l hm h hn hb ho kk r (k + 1) x (by omega)
    obtain ⟨h1, h2, h3, h4, h5, h6⟩ := id h
    have hK := ac_le (s := s) (n := n) (b := b) (n - 1) 1
    have hK' : aK s n b = ac s n b (n - 1) 1 := rfl
    obtain ⟨g1, g2, g3⟩ := rk_s (s := s) (n := n) (p := k) (by omega)
    rw [rs, fd] at ih
    rw [H108_23]
    simp (disch := omega) only [K108_0, K108_1, ai_c1i, ai_c1n, ai_c1r, e_al0, e_an0, e_b0, e_b1, e_b2, e_c1, e_c3, e_const, e_cv2, e_cv3, e_div, e_goto, e_ii6, e_il1, e_il2, e_il3, e_il4, e_il5, e_il6, e_il7, e_is3, e_is4, e_is5, e_is6, e_is7, e_reti, e_z0, Option.toList_some, Option.toList_none, List.cons_append, List.nil_append, List.append_nil, List.length_cons, List.length_nil, Nat.reduceAdd, Nat.reduceLeDiff, Nat.zero_le, true_and, and_true, and_self, true_implies, forall_const, ai_rvs, ai_rv0, ai_b_0, Classical.not_not, not_true_eq_false, false_implies, not_false_eq_true, true_implies, and_true, true_and, if_true, if_false, Bool.false_eq_true, q_229, a_nw, r100 hm, nIle, nIeq, r105 hm h, nIa, h.o g2, Int32.add_assoc]
    refine ⟨fun g => absurd g (by omega), fun _ => ⟨fun g => ?_, fun g => ?_⟩⟩
    · rw [decide_eq_false g, Bool.or_false] at ih
      exact ih _
    · rw [decide_eq_true g, Bool.or_true] at ih
      exact ih _
theorem r108 (hm : RM M) (h : RK (I 230) m n b s) (hn : 1 ≤ n) (hb : 1 ≤ b) (ho : o < n) : Cl (d + 5) 108 [.ref 229, .int (nI m), .int (nI o)] (LK, I, M) Q ↔ Q (some (.int (r_pr s n b o))) (LK, I, M) := by
  refine Cl_one ?_
  obtain ⟨h1, h2, h3, h4, h5, h6⟩ := id h
  have l := fun x => r108_l (d := d) hm h hn hb ho (Q := fun r h' => r = some (.int (r_pr s n b o)) ∧ h' = (LK, I, M)) ⟨rfl, rfl⟩ (aK s n b) 0 x (by omega)
  have e : (-2) * nI b + nI (rs s n 0) = (-2) * nI b := by rw [rs, i_add0]
  rw [e, fd] at l
  simp (disch := omega) only [E108, K108_0, K108_1, ai_c1i, ai_c1n, ai_c1r, e_al0, e_an0, e_b0, e_b1, e_b2, e_c1, e_c3, e_const, e_cv2, e_cv3, e_div, e_goto, e_ii6, e_il1, e_il2, e_il3, e_il4, e_il5, e_il6, e_il7, e_is3, e_is4, e_is5, e_is6, e_is7, e_reti, e_z0, Option.toList_some, Option.toList_none, List.cons_append, List.nil_append, List.append_nil, List.length_cons, List.length_nil, Nat.reduceAdd, Nat.reduceLeDiff, Nat.zero_le, true_and, and_true, and_self, true_implies, forall_const, ai_rvs, ai_rv0, ai_b_0, Classical.not_not, not_true_eq_false, false_implies, not_false_eq_true, true_implies, and_true, true_and, if_true, if_false, Bool.false_eq_true, q_229, a_nw, r100 hm, r106 hm h hn, h4]
  exact l _
end PRICE
/-! that the ranks' active outcomes are the class's -/
def abN (s : Nat → Nat) (i : Nat) : Nat → Nat
  | 0 => 0
  | j + 1 => abN s i j + (s j - s i)
/-- sums over all outcomes -/
def sN (f : Nat → Nat) : Nat → Nat
  | 0 => 0
  | j + 1 => sN f j + f j
theorem sN_sum {f : Nat → Nat} : ∀ n, sN f n = ((List.range n).map f).sum
  | 0 => rfl
  | n + 1 => by
    rw [sN, List.range_succ, List.map_append, List.sum_append, sN_sum n]
    simp
theorem sN_rk {f s : Nat → Nat} {n : Nat} : sN f n = ((rkl s n).map f).sum := by
  rw [sN_sum]
  exact ((rkl_perm (s := s) (n := n)).map f).sum_nat.symm
theorem sum_sN {g : Nat → Nat} : ∀ (l : List Nat), (∀ p, p < l.length → ∃ i, l[p]? = some i) → (l.map g).sum = sN (fun p => g ((l[p]?).getD 0)) l.length
  | [], _ => rfl
  | l, _ => by
    rw [sN_sum]
    congr 1
    apply List.ext_getElem
    · simp
    · intro p h1 h2
      simp at h1 h2 ⊢
      rw [List.getElem?_eq_getElem h1]
      rfl
/-- a sum over all outcomes is the sum over the ranks -/
theorem sN_ranks {f s : Nat → Nat} {n : Nat} : sN f n = sN (fun p => f (rk s n p)) n := by
  rw [sN_rk (s := s), sum_sN _ (fun p hp => ⟨_, List.getElem?_eq_getElem hp⟩), rkl_len]
  rfl
