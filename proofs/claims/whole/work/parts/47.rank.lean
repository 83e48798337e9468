/-! ranks -/
theorem nI_subT {a b : Nat} (ha : a < 1000000000) (hb : b < 1000000000) : (nI a - nI b).toInt = (a : Int) - b := by
  rw [Int32.toInt_sub, nI_toInt (by omega), nI_toInt (by omega), Int.bmod_eq_of_le (by omega) (by omega)]
theorem sg_pos {a b : Nat} (ha : a < 1000000000) (hb : b < 1000000000) : (nI 0 < nI a - nI b) ↔ b < a := by
  rw [Int32.lt_iff_toInt_lt, nI_subT ha hb, show (nI 0).toInt = 0 by decide]
  omega
theorem sg_eq {a b : Nat} (ha : a < 1000000000) (hb : b < 1000000000) : (nI a - nI b = nI 0) ↔ a = b := by
  rw [← Int32.toInt_inj, nI_subT ha hb, show (nI 0).toInt = 0 by decide]
  omega
def ahd (s : Nat → Nat) (i j : Nat) : Bool := decide (s j < s i) || (decide (s i = s j) && decide (i < j))
theorem ahd_c {s : Nat → Nat} {i j : Nat} : ahd s i j = true ↔ s j < s i ∨ (s i = s j ∧ i < j) := by
  unfold ahd
  simp only [Bool.or_eq_true, Bool.and_eq_true, decide_eq_true_eq]
/-- the outcomes from the first rank to the last -/
def rkl (s : Nat → Nat) (n : Nat) : List Nat := (List.range n).mergeSort (fun i j => !ahd s j i)
theorem rkl_perm {s : Nat → Nat} {n : Nat} : (rkl s n).Perm (List.range n) := List.mergeSort_perm _ _
theorem rkl_pw {s : Nat → Nat} {n : Nat} : (rkl s n).Pairwise (fun i j => ahd s i j = true) := by
  have h1 : (rkl s n).Pairwise (fun i j => (!ahd s j i) = true) := by
    refine List.pairwise_mergeSort (fun a b c h1 h2 => ?_) (fun a b => ?_) _
    · simp only [Bool.not_eq_true', ← Bool.not_eq_true, ahd_c] at h1 h2 ⊢
      omega
    · simp only [Bool.or_eq_true, Bool.not_eq_true', ← Bool.not_eq_true, ahd_c]
      omega
  have h2 : (rkl s n).Pairwise (fun i j => i ≠ j) := rkl_perm.nodup_iff.mpr List.nodup_range
  refine (h1.and h2).imp fun {a b} h => ?_
  obtain ⟨h3, h4⟩ := h
  simp only [Bool.not_eq_true', ← Bool.not_eq_true, ahd_c] at h3 ⊢
  omega
theorem rkl_len {s : Nat → Nat} {n : Nat} : (rkl s n).length = n := by rw [rkl_perm.length_eq, List.length_range]
theorem rkl_lt {s : Nat → Nat} {n i : Nat} (h : i ∈ rkl s n) : i < n := List.mem_range.mp (rkl_perm.mem_iff.mp h)
def cnt (s : Nat → Nat) (n i : Nat) : Nat := (List.range n).countP (fun j => ahd s j i)
theorem cnt_s {s : Nat → Nat} {n i : Nat} : cnt s (n + 1) i = cnt s n i + if ahd s n i then 1 else 0 := by
  unfold cnt
  rw [List.range_succ, List.countP_append, List.countP_cons, List.countP_nil, Nat.zero_add]
theorem pw_cnt {s : Nat → Nat} : ∀ {l : List Nat} {p i : Nat}, l.Pairwise (fun i j => ahd s i j = true) → l[p]? = some i → l.countP (fun j => ahd s j i) = p
  | [], p, i, _, h => by simp at h
  | a :: l, 0, i, hp, h => by
    cases h
    rw [List.pairwise_cons] at hp
    rw [List.countP_cons_of_neg (by rw [ahd_c]; omega), List.countP_eq_zero]
    intro b hb
    have h1 := hp.1 b hb
    rw [ahd_c] at h1 ⊢
    omega
  | a :: l, p + 1, i, hp, h => by
    rw [List.pairwise_cons] at hp
    have h' : l[p]? = some i := h
    rw [List.countP_cons_of_pos (p := fun j => ahd s j i) (hp.1 i (List.mem_of_getElem? h')), pw_cnt hp.2 h']
theorem cnt_rk {s : Nat → Nat} {n p i : Nat} (h : (rkl s n)[p]? = some i) : cnt s n i = p := by
  unfold cnt
  rw [← rkl_perm.countP_eq]
  exact pw_cnt rkl_pw h
/-- the outcome of a rank -/
def rk (s : Nat → Nat) (n p : Nat) : Nat := ((rkl s n)[p]?).getD 0
theorem rk_s {s : Nat → Nat} {n p : Nat} (h : p < n) : (rkl s n)[p]? = some (rk s n p) ∧ rk s n p < n ∧ cnt s n (rk s n p) = p := by
  have h1 : p < (rkl s n).length := by rw [rkl_len]; exact h
  have h2 : (rkl s n)[p]? = some (rk s n p) := by
    unfold rk
    rw [List.getElem?_eq_getElem h1]
    rfl
  exact ⟨h2, rkl_lt (List.mem_of_getElem? h2), cnt_rk h2⟩
theorem rk_u {s : Nat → Nat} {n p i : Nat} (hi : i < n) (h : cnt s n i = p) : i = rk s n p := by
  have h1 : i ∈ rkl s n := rkl_perm.mem_iff.mpr (List.mem_range.mpr hi)
  obtain ⟨q, hq, rfl⟩ := List.mem_iff_getElem.mp h1
  have h2 := List.getElem?_eq_getElem hq
  have h3 := cnt_rk h2
  unfold rk
  rw [← h, h3, h2]
  rfl
section RANK
variable {I : Nat → Nat → Int32} {M : Nat → Nat → Nat} {m n : Nat} {s : Nat → Nat} {d : Nat} {Q : Option Value → ai_H → Prop}
/-- a market as the reference holds it: shares, outcomes, liquidity -/
def RK (J : Nat → Int32) (m n b : Nat) (s : Nat → Nat) : Prop := m < 6 ∧ n ≤ 4 ∧ J (12 + 43 * m + 2) = nI n ∧ J (12 + 43 * m + 1) = nI b ∧ b ≤ 60 ∧ ∀ o, o < n → J (12 + 43 * m + (9 + o)) = nI (s o) ∧ s o < 1000
theorem r104 {b i j : Nat} (hm : RM M) (h : RK (I 230) m n b s) (hi : i < n) (hj : j < n) : Cl (d + 2) 104 [.ref 229, .int (nI m), .int (nI i), .int (nI j)] (LK, I, M) Q ↔ Q (some (.int (ai_b (ahd s i j = true)))) (LK, I, M) := by
  refine Cl_one ?_
  obtain ⟨h1, h2, h3, h4, h5, h6⟩ := h
  obtain ⟨a1, a2⟩ := h6 i hi
  obtain ⟨b1, b2⟩ := h6 j hj
  have z0 : (nI 0 = 0 ∨ nI 0 = 1) := Or.inl rfl
  have z1 : (nI 1 = 0 ∨ nI 1 = 1) := Or.inr rfl
  simp (disch := omega) only [E104, K104, ai_c1i, ai_c1n, ai_c1r, e_al0, e_an0, e_b0, e_b1, e_c3, e_const, e_cv3, e_goto, e_il1, e_il2, e_il3, e_il4, e_is4, e_retb, e_z1, e_z4, Option.toList_some, Option.toList_none, List.cons_append, List.nil_append, List.append_nil, List.length_cons, List.length_nil, Nat.reduceAdd, Nat.reduceLeDiff, Nat.zero_le, true_and, and_true, and_self, true_implies, forall_const, ai_rvs, ai_rv0, ai_b_0, Classical.not_not, not_true_eq_false, false_implies, not_false_eq_true, true_implies, and_true, true_and, if_true, if_false, Bool.false_eq_true, q_229, a_nw, nIa, r100 hm, a1, b1, sg_pos, sg_eq, nIle, z0, z1]
  by_cases g1 : s j < s i
  · rw [ai_b_t (ahd_c.mpr (Or.inl g1))]
    grind
  · by_cases g2 : s i = s j
    · by_cases g3 : i < j
      · rw [ai_b_t (ahd_c.mpr (Or.inr ⟨g2, g3⟩))]
        grind
      · rw [ai_b_f (fun g => by rw [ahd_c] at g; omega)]
        grind
    · rw [ai_b_f (fun g => by rw [ahd_c] at g; omega)]
      grind
end RANK
