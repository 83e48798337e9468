/-! the class's active outcomes are the ranks' first ones -/
theorem sN_congr {f g : Nat → Nat} : ∀ n, (∀ j, j < n → f j = g j) → sN f n = sN g n
  | 0, _ => rfl
  | n + 1, h => by rw [sN, sN, sN_congr n fun j hj => h j (by omega), h n (by omega)]
theorem sN_le {f g : Nat → Nat} : ∀ n, (∀ j, j < n → f j ≤ g j) → sN f n ≤ sN g n
  | 0, _ => Nat.le_refl _
  | n + 1, h => by
    have h1 := sN_le n fun j hj => h j (by omega)
    have h2 := h n (by omega)
    rw [sN, sN]
    omega
theorem sN_cut {f : Nat → Nat} {K : Nat} : ∀ n, K ≤ n → sN (fun p => if p < K then f p else 0) n = sN f K
  | 0, h => by
    obtain rfl : K = 0 := by omega
    rfl
  | n + 1, h => by
    by_cases hK : K = n + 1
    · subst hK
      exact sN_congr _ fun j hj => if_pos hj
    · rw [sN, sN_cut n (by omega), if_neg (by omega), Nat.add_zero]
theorem abN_sN {s : Nat → Nat} {i : Nat} : ∀ n, abN s i n = sN (fun j => s j - s i) n
  | 0 => rfl
  | n + 1 => by rw [abN, sN, abN_sN n]
theorem rs_sN {s : Nat → Nat} {n : Nat} : ∀ k, rs s n k = sN (fun p => s (rk s n p)) k
  | 0 => rfl
  | k + 1 => by rw [rs, sN, rs_sN k]
theorem rq_sN {s : Nat → Nat} {n : Nat} : ∀ k, rq s n k = sN (fun p => s (rk s n p) * s (rk s n p)) k
  | 0 => rfl
  | k + 1 => by rw [rq, sN, rq_sN k]
section ACT
variable {s : Nat → Nat} {n b : Nat}
theorem rk_mono {p p' : Nat} (h : p ≤ p') (hn : p' < n) : s (rk s n p') ≤ s (rk s n p) := by
  by_cases he : p = p'
  · subst he; exact Nat.le_refl _
  · have h1 := (rk_s (s := s) (n := n) (p := p) (by omega)).1
    have h2 := (rk_s (s := s) (n := n) (p := p') hn).1
    obtain ⟨l1, e1⟩ := List.getElem?_eq_some_iff.mp h1
    obtain ⟨l2, e2⟩ := List.getElem?_eq_some_iff.mp h2
    have h3 := List.pairwise_iff_getElem.mp (rkl_pw (s := s) (n := n)) p p' l1 l2 (by omega)
    rw [e1, e2, ahd_c] at h3
    omega
theorem ab_rk {p : Nat} (hp : p < n) : ∀ k, k ≤ n → sN (fun q => s (rk s n q) - s (rk s n p)) k + (min k p) * s (rk s n p) = rs s n (min k p)
  | 0, _ => by
    rw [Nat.zero_min, rs, sN, Nat.zero_mul]
  | k + 1, hk => by
    have ih := ab_rk hp k (by omega)
    rw [sN]
    by_cases h : k < p
    · have h1 := rk_mono (s := s) (n := n) (p := k) (p' := p) (by omega) hp
      rw [show min (k + 1) p = min k p + 1 by omega, rs, ← ih, Nat.succ_mul, show min k p = k by omega]
      omega
    · have h1 := rk_mono (s := s) (n := n) (p := p) (p' := k) (by omega) (by omega)
      rw [show min (k + 1) p = min k p by omega, ← ih]
      omega
theorem ab_at {p : Nat} (hp : p < n) : abN s (rk s n p) n + p * s (rk s n p) = rs s n p := by
  have h := ab_rk (s := s) hp n (Nat.le_refl _)
  rw [show min n p = p by omega] at h
  rw [abN_sN, sN_ranks (s := s)]
  exact h
theorem ab_mono {p p' : Nat} (h : p ≤ p') (hn : p' < n) : abN s (rk s n p) n ≤ abN s (rk s n p') n := by
  rw [abN_sN, abN_sN]
  refine sN_le n fun j _ => ?_
  have := rk_mono (s := s) (n := n) h hn
  omega
theorem ac_sp : ∀ r k, r + k = n → (∀ p, k ≤ p → p < ac s n b r k → abN s (rk s n p) n < 2 * b) ∧ (ac s n b r k < n → ¬ abN s (rk s n (ac s n b r k)) n < 2 * b)
  | 0, k, h => by
    rw [ac]
    exact ⟨fun p h1 h2 => by omega, fun h1 => by omega⟩
  | r + 1, k, h => by
    have hk := ab_at (s := s) (n := n) (p := k) (by omega)
    rw [Nat.mul_comm] at hk
    rw [ac]
    by_cases g : rs s n k < s (rk s n k) * k + 2 * b
    · rw [if_pos g]
      obtain ⟨i1, i2⟩ := ac_sp r (k + 1) (by omega)
      refine ⟨fun p h1 h2 => ?_, i2⟩
      by_cases e : p = k
      · subst e; omega
      · exact i1 p (by omega) h2
    · rw [if_neg g]
      exact ⟨fun p h1 h2 => by omega, fun _ => by omega⟩
theorem aK_rng (hn : 1 ≤ n) : 1 ≤ aK s n b ∧ aK s n b ≤ n := by
  have h := ac_le (s := s) (n := n) (b := b) (n - 1) 1
  unfold aK
  omega
theorem aK_iff (hn : 1 ≤ n) (hb : 1 ≤ b) {p : Nat} (hp : p < n) : abN s (rk s n p) n < 2 * b ↔ p < aK s n b := by
  obtain ⟨h1, h2⟩ := ac_sp (s := s) (b := b) (n := n) (n - 1) 1 (by omega)
  obtain ⟨k1, k2⟩ := aK_rng (s := s) (n := n) (b := b) hn
  have e : ac s n b (n - 1) 1 = aK s n b := rfl
  rw [e] at h1 h2
  refine ⟨fun g => ?_, fun g => ?_⟩
  · apply Nat.lt_of_not_le
    intro hle
    exact h2 (by omega) (Nat.lt_of_le_of_lt (ab_mono hle hp) g)
  · by_cases h0 : p = 0
    · subst h0
      have := ab_at (s := s) (n := n) (p := 0) (by omega)
      rw [rs] at this
      omega
    · exact h1 p (by omega) g
/-- the class's counts over active outcomes -/
theorem act_sum (hn : 1 ≤ n) (hb : 1 ≤ b) (f : Nat → Nat) : sN (fun j => if abN s j n < 2 * b then f j else 0) n = sN (fun p => f (rk s n p)) (aK s n b) := by
  rw [sN_ranks (s := s), ← sN_cut n (aK_rng (s := s) (b := b) hn).2]
  refine sN_congr n fun p hp => ?_
  by_cases g : p < aK s n b
  · rw [if_pos g, if_pos ((aK_iff hn hb hp).mpr g)]
  · rw [if_neg g, if_neg (fun h => g ((aK_iff hn hb hp).mp h))]
theorem bx_nI {f : Nat → Int32} {g : Nat → Nat} : ∀ n, (∀ j, j < n → f j = nI (g j)) → bx_sum f n = nI (sN g n)
  | 0, _ => nI_0.symm
  | n + 1, h => by rw [bx_s, sN, bx_nI n fun j hj => h j (by omega), h n (by omega), nIa]
section CLS
variable {q : Nat → Int32}
theorem abv_N (hq : ∀ o, o < n → q o = nI (s o) ∧ s o < 1000) {i : Nat} (hi : i < n) : m_abv q n i = nI (abN s i n) := by
  rw [abN_sN]
  unfold m_abv
  refine bx_nI n fun j hj => ?_
  obtain ⟨a1, a2⟩ := hq i hi
  obtain ⟨b1, b2⟩ := hq j hj
  rw [a1, b1]
  by_cases g : s i < s j
  · rw [if_pos ((nIlt (by omega) (by omega)).mpr g), pk_sub (by omega)]
  · rw [if_neg (by rw [nIlt (by omega) (by omega)]; exact g), show s j - s i = 0 by omega]
theorem abN_le (h : ∀ o, o < n → s o < 1000) {i : Nat} : ∀ k, k ≤ n → abN s i k ≤ 1000 * k
  | 0, _ => by rw [abN]; omega
  | k + 1, hk => by
    have h1 := abN_le h (i := i) k (by omega)
    have h2 := h k (by omega)
    rw [abN]
    omega
theorem act_N (hn4 : n ≤ 4) (hb : b ≤ 60) (hq : ∀ o, o < n → q o = nI (s o) ∧ s o < 1000) {i : Nat} (hi : i < n) : m_act q n (nI b) i = decide (abN s i n < 2 * b) := by
  have h1 := abN_le (fun o ho => (hq o ho).2) (i := i) n (Nat.le_refl _)
  unfold m_act
  rw [abv_N hq hi, nIm]
  exact decide_eq_decide.mpr (nIlt (by omega) (by omega))
theorem k_N (hn : 1 ≤ n) (hn4 : n ≤ 4) (hb1 : 1 ≤ b) (hb : b ≤ 60) (hq : ∀ o, o < n → q o = nI (s o) ∧ s o < 1000) : m_k q n (nI b) n = nI (aK s n b) ∧ m_s q n (nI b) n = nI (rs s n (aK s n b)) ∧ m_r q n (nI b) n = nI (rq s n (aK s n b)) := by
  refine ⟨?_, ?_, ?_⟩
  · have e : sN (fun j => if abN s j n < 2 * b then 1 else 0) n = aK s n b := by
      rw [act_sum hn hb1 (fun _ => 1)]
      have : ∀ k, sN (fun _ => 1) k = k := fun k => by
        induction k with
        | zero => rfl
        | succ k ih => rw [sN, ih]
      exact this _
    rw [← e]
    unfold m_k
    refine bx_nI n fun j hj => ?_
    rw [act_N hn4 hb hq hj]
    by_cases g : abN s j n < 2 * b
    · rw [if_pos (decide_eq_true g), if_pos g]
    · rw [if_neg (by simpa using g), if_neg g]
  · rw [rs_sN, ← act_sum hn hb1 (fun i => s i)]
    unfold m_s
    refine bx_nI n fun j hj => ?_
    rw [act_N hn4 hb hq hj, (hq j hj).1]
    by_cases g : abN s j n < 2 * b
    · rw [if_pos (decide_eq_true g), if_pos g]
    · rw [if_neg (by simpa using g), if_neg g]
  · rw [rq_sN, ← act_sum hn hb1 (fun i => s i * s i)]
    unfold m_r
    refine bx_nI n fun j hj => ?_
    rw [act_N hn4 hb hq hj, (hq j hj).1, nIm]
    by_cases g : abN s j n < 2 * b
    · rw [if_pos (decide_eq_true g), if_pos g]
    · rw [if_neg (by simpa using g), if_neg g]
end CLS
end ACT
