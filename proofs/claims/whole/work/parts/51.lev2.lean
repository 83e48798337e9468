/-! level and price of the reference are the class's -/
theorem mulT {a : Nat} {y : Int32} (ha : a < 2147483648) (h1 : -2000000000 ≤ (a : Int) * y.toInt) (h2 : (a : Int) * y.toInt ≤ 2000000000) : (nI a * y).toInt = (a : Int) * y.toInt := by
  rw [Int32.toInt_mul, nI_toInt ha, Int.bmod_eq_of_le (by omega) (by omega)]
theorem subT {x y : Int32} (h1 : -2000000000 ≤ x.toInt - y.toInt) (h2 : x.toInt - y.toInt ≤ 2000000000) : (x - y).toInt = x.toInt - y.toInt := by
  rw [Int32.toInt_sub, Int.bmod_eq_of_le (by omega) (by omega)]
theorem i_m2 {x y : Int32} : (-2) * x + y = y - nI 2 * x := by
  rw [show (-2 : Int32) = -(nI 2) by decide, Int32.neg_mul, Int32.add_comm, Int32.sub_eq_add_neg]
section LEV2
variable {I : Nat → Nat → Int32} {M : Nat → Nat → Nat} {m n b o : Nat} {s : Nat → Nat} {d : Nat} {Q : Option Value → ai_H → Prop} {q : Nat → Int32}
theorem lev_N (hn : 1 ≤ n) (hn4 : n ≤ 4) (hb1 : 1 ≤ b) (hb : b ≤ 60) (hq : ∀ o, o < n → q o = nI (s o) ∧ s o < 1000) : nI 60 / nI b * (nI 12 * nI (rq s n (aK s n b)) - nI 12 / nI (aK s n b) * ((-2) * nI b + nI (rs s n (aK s n b))) * ((-2) * nI b + nI (rs s n (aK s n b)))) = m_lev q n (nI b) := by
  obtain ⟨k1, k2, k3⟩ := k_N hn hn4 hb1 hb hq
  have hK := aK_rng (s := s) (n := n) (b := b) hn
  unfold m_lev
  rw [k1, k2, k3, if_neg (by rw [nIeq (by omega) (by omega)]; omega), if_neg (by rw [nIeq (by omega) (by omega)]; omega), i_m2]
theorem fd_iff : ∀ k, fd s n o k = true ↔ ∃ p, p < k ∧ rk s n p = o
  | 0 => by
    rw [fd]
    exact ⟨fun h => absurd h Bool.false_ne_true, fun ⟨p, hp, _⟩ => by omega⟩
  | k + 1 => by
    rw [fd, Bool.or_eq_true, fd_iff k, decide_eq_true_eq]
    refine ⟨fun h => h.elim (fun ⟨p, hp, e⟩ => ⟨p, by omega, e⟩) (fun e => ⟨k, by omega, e⟩), fun ⟨p, hp, e⟩ => ?_⟩
    by_cases hpk : p = k
    · subst hpk; exact Or.inr e
    · exact Or.inl ⟨p, by omega, e⟩
/-- what stands in the price's brackets, and its sign -/
theorem pr_X {K S x b c : Nat} (hK1 : 1 ≤ K) (hK4 : K ≤ 4) (hc : c * K = 12) (hS : S ≤ 4000) (hx : x < 1000) (hb : b ≤ 60) : (nI 12 * nI x - nI c * (nI S - nI 2 * nI b)).toInt = 12 * (x : Int) - c * ((S : Int) - 2 * b) := by
  have hc12 : c ≤ 12 := by
    rcases (by omega : K = 1 ∨ K = 2 ∨ K = 3 ∨ K = 4) with rfl | rfl | rfl | rfl <;> omega
  have e1 : (nI S - nI 2 * nI b).toInt = (S : Int) - 2 * b := by
    rw [nIm, nI_subT (by omega) (by omega)]
    omega
  have hm1 : -1440 ≤ (c : Int) * ((S : Int) - 2 * b) ∧ (c : Int) * ((S : Int) - 2 * b) ≤ 48000 := by
    rcases (by omega : K = 1 ∨ K = 2 ∨ K = 3 ∨ K = 4) with rfl | rfl | rfl | rfl
    · obtain rfl : c = 12 := by omega
      omega
    · obtain rfl : c = 6 := by omega
      omega
    · obtain rfl : c = 4 := by omega
      omega
    · obtain rfl : c = 3 := by omega
      omega
  have e2 : (nI c * (nI S - nI 2 * nI b)).toInt = (c : Int) * ((S : Int) - 2 * b) := by
    rw [mulT (by omega) (by rw [e1]; omega) (by rw [e1]; omega), e1]
  rw [nIm, subT (by rw [e2, nI_toInt (by omega)]; omega) (by rw [e2, nI_toInt (by omega)]; omega), e2, nI_toInt (by omega)]
  omega
theorem max_pos {a : Nat} {X : Int32} (ha : a ≤ 120) (hX : 0 ≤ X.toInt) (hX2 : X.toInt ≤ 1000000) : m_max (nI 0) (nI a * X) = nI a * X := by
  have h1 : 0 ≤ (a : Int) * X.toInt := Int.mul_nonneg (by omega) hX
  have h2 : (a : Int) * X.toInt ≤ 120 * 1000000 := Int.mul_le_mul (by omega) hX2 hX (by omega)
  have h3 := mulT (a := a) (y := X) (by omega) (by omega) (by omega)
  unfold m_max
  by_cases g : nI 0 < nI a * X
  · rw [if_pos g]
  · rw [if_neg g]
    apply Int32.toInt_inj.mp
    rw [Int32.lt_iff_toInt_lt, h3, show (nI 0).toInt = 0 by decide] at g
    rw [h3, show (nI 0).toInt = 0 by decide]
    omega
theorem max_neg {a : Nat} {X : Int32} (ha : a ≤ 120) (hX : X.toInt ≤ 0) (hX2 : -1000000 ≤ X.toInt) : m_max (nI 0) (nI a * X) = nI 0 := by
  have h1 : 0 ≤ (a : Int) * (-X.toInt) := Int.mul_nonneg (by omega) (by omega)
  have h2 : (a : Int) * (-X.toInt) ≤ 120 * 1000000 := Int.mul_le_mul (by omega) (by omega) (by omega) (by omega)
  rw [Int.mul_neg] at h1 h2
  have h3 := mulT (a := a) (y := X) (by omega) (by omega) (by omega)
  unfold m_max
  rw [if_neg]
  intro g
  rw [Int32.lt_iff_toInt_lt, h3, show (nI 0).toInt = 0 by decide] at g
  omega
theorem pr_N (hn : 1 ≤ n) (hn4 : n ≤ 4) (hb1 : 1 ≤ b) (hb : b ≤ 60) (hq : ∀ o, o < n → q o = nI (s o) ∧ s o < 1000) (ho : o < n) : r_pr s n b o = m_pr q n (nI b) o := by
  obtain ⟨k1, k2, k3⟩ := k_N hn hn4 hb1 hb hq
  have hK := aK_rng (s := s) (n := n) (b := b) hn
  have hrs := rs_le (fun o ho => (hq o ho).2) (aK s n b) hK.2
  have hd : nI 120 / nI b = nI (120 / b) := pk_div (by omega) (by omega) (by omega)
  have hd2 : nI 12 / nI (aK s n b) = nI (12 / aK s n b) := pk_div (by omega) (by omega) (by omega)
  have hd3 : 120 / b ≤ 120 := Nat.div_le_self _ _
  obtain ⟨p, hp⟩ : ∃ p, cnt s n o = p := ⟨_, rfl⟩
  have hpo := rk_u ho hp
  have hpn : p < n := by
    have h1 : o ∈ rkl s n := rkl_perm.mem_iff.mpr (List.mem_range.mpr ho)
    obtain ⟨p', hp', e⟩ := List.mem_iff_getElem.mp h1
    have h2 := cnt_rk (s := s) (n := n) (p := p') (i := o) (by rw [List.getElem?_eq_getElem hp', e])
    rw [rkl_len] at hp'
    omega
  have hfd : fd s n o (aK s n b) = true ↔ p < aK s n b := by
    rw [fd_iff]
    refine ⟨fun ⟨p', h1, h2⟩ => ?_, fun h => ⟨p, h, hpo.symm⟩⟩
    have := (rk_s (s := s) (n := n) (p := p') (by omega)).2.2
    rw [h2] at this
    omega
  have hc : (12 / aK s n b) * aK s n b = 12 := by
    rcases (by omega : aK s n b = 1 ∨ aK s n b = 2 ∨ aK s n b = 3 ∨ aK s n b = 4) with h | h | h | h <;> rw [h]
  have hX := pr_X (K := aK s n b) (S := rs s n (aK s n b)) (x := s o) (b := b) hK.1 (by omega) hc (by omega) (hq o ho).2 hb
  unfold r_pr m_pr
  rw [k1, k2, if_neg (show ¬ nI (aK s n b) = nI 0 by rw [nIeq (by omega) (by omega)]; omega), if_neg (show ¬ nI b = nI 0 by rw [nIeq (by omega) (by omega)]; omega), i_m2, (hq o ho).1, hd, hd2]
  have hx := (hq o ho).2
  by_cases g : p < aK s n b
  · rw [if_pos (hfd.mpr g)]
    have a1 := ab_at (s := s) (n := n) (p := aK s n b - 1) (by omega)
    have a2 := (aK_iff (s := s) hn hb1 (p := aK s n b - 1) (by omega)).mpr (by omega)
    have a3 := rk_mono (s := s) (n := n) (p := p) (p' := aK s n b - 1) (by omega) (by omega)
    have a4 : rs s n (aK s n b) = rs s n (aK s n b - 1) + s (rk s n (aK s n b - 1)) := by
      obtain ⟨j, hj⟩ : ∃ j, aK s n b = j + 1 := ⟨aK s n b - 1, by omega⟩
      rw [hj, rs]
      rfl
    rw [← hpo] at a3
    refine (max_pos hd3 ?_ ?_).symm
    · rw [hX]
      rcases (by omega : aK s n b = 1 ∨ aK s n b = 2 ∨ aK s n b = 3 ∨ aK s n b = 4) with h | h | h | h
      all_goals
        rw [h] at a1 a2 a3 a4 hc ⊢
        simp only [Nat.reduceSub, Nat.reduceDiv] at a1 a2 a3 a4 ⊢
        omega
    · rw [hX]
      rcases (by omega : aK s n b = 1 ∨ aK s n b = 2 ∨ aK s n b = 3 ∨ aK s n b = 4) with h | h | h | h
      all_goals
        rw [h] at hrs ⊢
        simp only [Nat.reduceDiv] at hrs ⊢
        omega
  · rw [if_neg (fun h => g (hfd.mp h))]
    have a1 := ab_at (s := s) (n := n) (p := aK s n b) (by omega)
    have a2 : ¬ abN s (rk s n (aK s n b)) n < 2 * b := fun h => by
      have := (aK_iff (s := s) hn hb1 (p := aK s n b) (by omega)).mp h
      omega
    have a3 := rk_mono (s := s) (n := n) (p := aK s n b) (p' := p) (by omega) hpn
    rw [← hpo] at a3
    refine (max_neg hd3 ?_ ?_).symm
    · rw [hX]
      rcases (by omega : aK s n b = 1 ∨ aK s n b = 2 ∨ aK s n b = 3 ∨ aK s n b = 4) with h | h | h | h
      all_goals
        rw [h] at a1 a2 a3 ⊢
        simp only [Nat.reduceDiv] at a1 a2 a3 ⊢
        omega
    · rw [hX]
      rcases (by omega : aK s n b = 1 ∨ aK s n b = 2 ∨ aK s n b = 3 ∨ aK s n b = 4) with h | h | h | h
      all_goals
        rw [h] at hrs ⊢
        simp only [Nat.reduceDiv] at hrs ⊢
        omega
/-- the reference's level -/
theorem R107 (hm : RM M) (h : RK (I 230) m n b s) (hn : 1 ≤ n) (hb : 1 ≤ b) : Cl (d + 5) 107 [.ref 229, .int (nI m)] (LK, I, M) Q ↔ Q (some (.int (m_lev (fun o => I 230 (21 + 43 * m + o)) n (nI b)))) (LK, I, M) := by
  rw [r107 hm h hn hb, lev_N hn h.2.1 hb h.2.2.2.2.1 (fun o ho => ?_)]
  have := h.2.2.2.2.2 o ho
  rw [show 12 + 43 * m + (9 + o) = 21 + 43 * m + o by omega] at this
  exact this
/-- the reference's prices -/
theorem R108 (hm : RM M) (h : RK (I 230) m n b s) (hn : 1 ≤ n) (hb : 1 ≤ b) (ho : o < n) : Cl (d + 5) 108 [.ref 229, .int (nI m), .int (nI o)] (LK, I, M) Q ↔ Q (some (.int (m_pr (fun o => I 230 (21 + 43 * m + o)) n (nI b) o))) (LK, I, M) := by
  rw [r108 hm h hn hb ho, pr_N hn h.2.1 hb h.2.2.2.2.1 (fun o ho => ?_) ho]
  have := h.2.2.2.2.2 o ho
  rw [show 12 + 43 * m + (9 + o) = 21 + 43 * m + o by omega] at this
  exact this
end LEV2
