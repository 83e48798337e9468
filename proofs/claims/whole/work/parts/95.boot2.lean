/-! the constructors -/
def LX (B : Nat) : Prop := LK[B]? = some (1, 6) ∧ LK[B + 1]? = some (9, 6) ∧ LK[B + 2]? = some (10, 6) ∧ (∀ m, m < 6 → LK[B + 3 + 10 * m]? = some (3, 16) ∧ LK[B + 3 + 10 * m + 1]? = some (9, 4) ∧ LK[B + 3 + 10 * m + 2]? = some (12, 6) ∧ (∀ t, t < 6 → LK[B + 3 + 10 * m + 2 + 1 + t]? = some (9, 4)) ∧ LK[B + 3 + 10 * m + 9]? = some (9, 6)) ∧
  LK[B + 63]? = some (0, 3) ∧ LK[B + 63 + 1]? = some (11, 16) ∧ (∀ i, i < 16 → LK[B + 63 + 2 + i]? = some (4, 6)) ∧ LK[B + 81]? = some (2, 2) ∧ LK[B + 81 + 1]? = some (12, 30) ∧ ∀ i, i < 30 → LK[B + 81 + 1 + 1 + i]? = some (9, 6)
theorem LX_1 : LX 1 := by
  refine ⟨by decide +kernel, by decide +kernel, by decide +kernel, fun m hm => ⟨?_, ?_, ?_, fun t ht => ?_, ?_⟩, by decide +kernel, by decide +kernel, fun i hi => ?_, by decide +kernel, by decide +kernel, fun i hi => ?_⟩
  · rw [show 1 + 3 + 10 * m = 4 + 10 * m by omega]; exact y0_mk hm
  · rw [show 1 + 3 + 10 * m + 1 = 5 + 10 * m by omega]; exact y0_sh hm
  · rw [show 1 + 3 + 10 * m + 2 = 6 + 10 * m by omega]; exact y0_hd hm
  · rw [show 1 + 3 + 10 * m + 2 + 1 + t = 7 + 10 * m + t by omega]; exact y0_hr hm ht
  · rw [show 1 + 3 + 10 * m + 9 = 13 + 10 * m by omega]; exact y0_pd hm
  · rw [show 1 + 63 + 2 + i = 66 + i by omega]; exact y0_od hi
  · rw [show 1 + 81 + 1 + 1 + i = 84 + i by omega]; exact y0_hs hi
theorem LX_114 : LX 114 := by
  refine ⟨by decide +kernel, by decide +kernel, by decide +kernel, fun m hm => ⟨?_, ?_, ?_, fun t ht => ?_, ?_⟩, by decide +kernel, by decide +kernel, fun i hi => ?_, by decide +kernel, by decide +kernel, fun i hi => ?_⟩
  · rw [show 114 + 3 + 10 * m = 117 + 10 * m by omega]; exact y0_mks hm
  · rw [show 114 + 3 + 10 * m + 1 = 118 + 10 * m by omega]; exact y0_shs hm
  · rw [show 114 + 3 + 10 * m + 2 = 119 + 10 * m by omega]; exact y0_hds hm
  · rw [show 114 + 3 + 10 * m + 2 + 1 + t = 120 + 10 * m + t by omega]; exact y0_hrs hm ht
  · rw [show 114 + 3 + 10 * m + 9 = 126 + 10 * m by omega]; exact y0_pds hm
  · rw [show 114 + 63 + 2 + i = 179 + i by omega]; exact y0_ods hi
  · rw [show 114 + 81 + 1 + 1 + i = 197 + i by omega]; exact y0_hss hi
section BOOT2
variable {d q B n : Nat} {I : Nat → Nat → Int32} {M : Nat → Nat → Nat} {Q : Option Value → ai_H → Prop}
theorem b52 {x : Nat} {h : ai_H} : Cl (d + 1) 52 [.ref x] h Q ↔ Q none h := by
  refine Cl_one ?_
  simp (disch := omega) only [E52, K52, e_al0, e_an0, e_ret, Option.toList_some, Option.toList_none, List.cons_append, List.nil_append, List.append_nil, List.length_cons, List.length_nil, Nat.reduceAdd, Nat.reduceLeDiff, Nat.zero_le, true_and, and_true, and_self, true_implies, forall_const, ai_rvs, ai_rv0, ai_b_0, Classical.not_not, not_true_eq_false, false_implies, not_false_eq_true, true_implies, and_true, true_and, if_true, if_false, Bool.false_eq_true, e_obj]
theorem az_n {M : Nat → Nat → Nat} {n a j : Nat} (h : a ≠ n) : ai_z M n 0 a j = M a j := if_neg h
theorem az_h {M : Nat → Nat → Nat} {n j : Nat} : ai_z M n 0 n j = 0 := if_pos rfl
theorem az_n' {I : Nat → Nat → Int32} {n a j : Nat} (h : a ≠ n) : ai_z I n 0 a j = I a j := if_neg h
theorem az_h' {I : Nat → Nat → Int32} {n j : Nat} : ai_z I n 0 n j = 0 := if_pos rfl
theorem au_n {M : Nat → Nat → Nat} {n i a j v : Nat} (h : a ≠ n ∨ j ≠ i) : ai_u M n i v a j = M a j := if_neg (by omega)
theorem au_h {M : Nat → Nat → Nat} {n i v : Nat} : ai_u M n i v n i = v := if_pos ⟨rfl, rfl⟩
theorem b0_l (hq : q + 18 ≤ 233) (k1 : LK[q + 1]? = some (11, 16)) (k2 : ∀ i, i < 16 → LK[q + 2 + i]? = some (4, 6)) (k0 : LK[q]? = some (0, 3)) {I0 : Nat → Nat → Int32} {M0 : Nat → Nat → Nat} (kk : ∀ I' M', (∀ a j, a ≤ q → I' a j = I0 a j ∧ M' a j = M0 a j) → (∀ i, i < 16 → M' (q + 1) i = q + 2 + i + 1) → (∀ i j, i < 16 → I' (q + 2 + i) j = 0 ∧ M' (q + 2 + i) j = 0) → Q none (LK.take (q + 18), I', M')) :
    ∀ r i I M, r + i = 16 → M0 q 0 = q + 1 + 1 → (∀ a j, a ≤ q → I a j = I0 a j ∧ M a j = M0 a j) → (∀ x, x < i → M (q + 1) x = q + 2 + x + 1) → (∀ x j, x < i → I (q + 2 + x) j = 0 ∧ M (q + 2 + x) j = 0) → Ev (d + 2) X0 0 15 [.ref q, .int (nI i)] [] (LK.take (q + 2 + i), I, M) Q
  | 0, i, I, M, hi, hm, ho, h1, h2 => by
    obtain rfl : i = 16 := by omega
    have k3 := kk I M ho h1 h2
    rw [H0_15]
    simp (disch := omega) only [K0, ai_c1i, ai_c1n, ai_c1r, e_aast, e_al0, e_an0, e_c3, e_ci1, e_const, e_dupi, e_dupr, e_getR, e_goto, e_ii1, e_il1, e_is1, e_putR, e_ret, Option.toList_some, Option.toList_none, List.cons_append, List.nil_append, List.append_nil, List.length_cons, List.length_nil, Nat.reduceAdd, Nat.reduceLeDiff, Nat.zero_le, true_and, and_true, and_self, true_implies, forall_const, ai_rvs, ai_rv0, ai_b_0, Classical.not_not, not_true_eq_false, false_implies, not_false_eq_true, true_implies, and_true, true_and, if_true, if_false, Bool.false_eq_true, Int32.le_refl]
    exact k3
  | r + 1, i, I, M, hi, hm, ho, h1, h2 => by
    have hn := k2 i (by omega)
    have e0 : M q 0 = q + 1 + 1 := by rw [(ho q 0 (by omega)).2]; exact hm
    have c0 : ai_kq (LK.take (q + 2 + i)) q = some 0 := tk_kq k0 (by omega)
    have c1 : ai_kq (LK.take (q + 2 + i + 1)) (q + 1) = some 11 := tk_kq k1 (by omega)
    have c2 : ai_kq (LK.take (q + 2 + i + 1)) (q + 2 + i) = some 4 := tk_kq hn (by omega)
    have c3 : ai_ar3 (LK.take (q + 2 + i + 1)) (q + 1) (nI i) = true := tk_ar3 k1 (by omega) (by omega) (by omega) (by omega) (by omega)
    have n11 : ((some 11 : Option Nat) = some 10) = False := eq_false (by decide)
    rw [H0_15]
    simp (disch := omega) only [K0, ai_c1i, ai_c1n, ai_c1r, e_aast, e_al0, e_an0, e_c3, e_ci1, e_const, e_dupi, e_dupr, e_getR, e_goto, e_ii1, e_il1, e_is1, e_putR, e_ret, Option.toList_some, Option.toList_none, List.cons_append, List.nil_append, List.append_nil, List.length_cons, List.length_nil, Nat.reduceAdd, Nat.reduceLeDiff, Nat.zero_le, true_and, and_true, and_self, true_implies, forall_const, ai_rvs, ai_rv0, ai_b_0, Classical.not_not, not_true_eq_false, false_implies, not_false_eq_true, true_implies, and_true, true_and, if_true, if_false, Bool.false_eq_true, nIle, c0, e0, e_new hn, b52, c1, c2, c3, nIc, nIa, n11, false_and, false_or]
    refine ⟨fun g => absurd g (by omega), fun _ => ?_⟩
    have ih := b0_l hq k1 k2 k0 kk r (i + 1) (ai_z I (q + 2 + i) 0) (ai_u (ai_z M (q + 2 + i) 0) (q + 1) i (q + 2 + i + 1)) (by omega) hm (fun a j ha => ?_) (fun x hx => ?_) (fun x j hx => ?_)
    · exact ih
    · rw [az_n' (by omega), au_n (by omega), az_n (by omega)]
      exact ho a j ha
    · by_cases e : x = i
      · subst e
        rw [au_h]
      · rw [au_n (by omega), az_n (by omega)]
        exact h1 x (by omega)
    · by_cases e : x = i
      · subst e
        rw [az_h', au_n (by omega), az_h]
        exact ⟨rfl, rfl⟩
      · rw [az_n' (by omega), au_n (by omega), az_n (by omega)]
        exact h2 x j (by omega)
theorem b0 (hq : q + 18 ≤ 233) (k0 : LK[q]? = some (0, 3)) (k1 : LK[q + 1]? = some (11, 16)) (k2 : ∀ i, i < 16 → LK[q + 2 + i]? = some (4, 6)) (kk : ∀ I' M', (∀ a j, a < q → I' a j = I a j ∧ M' a j = M a j) → (∀ j, I' q j = I q j ∧ M' q j = if j = 0 then q + 2 else M q j) → (∀ i, i < 16 → M' (q + 1) i = q + 2 + i + 1) → (∀ i j, i < 16 → I' (q + 2 + i) j = 0 ∧ M' (q + 2 + i) j = 0) → Q none (LK.take (q + 18), I', M')) : Cl (d + 2) 0 [.ref q] (LK.take (q + 1), I, M) Q := by
  have c0 : ai_kq (LK.take (q + 1 + 1)) q = some 0 := tk_kq k0 (by omega)
  simp (disch := omega) only [E0, K0, ai_c1i, ai_c1n, ai_c1r, e_aast, e_al0, e_an0, e_c3, e_ci1, e_const, e_dupi, e_dupr, e_getR, e_goto, e_ii1, e_il1, e_is1, e_putR, e_ret, Option.toList_some, Option.toList_none, List.cons_append, List.nil_append, List.append_nil, List.length_cons, List.length_nil, Nat.reduceAdd, Nat.reduceLeDiff, Nat.zero_le, true_and, and_true, and_self, true_implies, forall_const, ai_rvs, ai_rv0, ai_b_0, Classical.not_not, not_true_eq_false, false_implies, not_false_eq_true, true_implies, and_true, true_and, if_true, if_false, Bool.false_eq_true, e_obj, e_anr k1, c0]
  have l := b0_l (d := d) (Q := Q) hq k1 k2 k0 (I0 := ai_z I (q + 1) 0) (M0 := ai_u (ai_z M (q + 1) 0) q 0 (q + 1 + 1)) (fun I' M' ho h1 h2 => ?_) 16 0 (ai_z I (q + 1) 0) (ai_u (ai_z M (q + 1) 0) q 0 (q + 1 + 1)) (by omega) au_h (fun a j _ => ⟨rfl, rfl⟩) (fun x hx => absurd hx (by omega)) (fun x j hx => absurd hx (by omega))
  · exact l
  · refine kk I' M' (fun a j ha => ?_) (fun j => ?_) h1 h2
    · rw [(ho a j (by omega)).1, (ho a j (by omega)).2, az_n' (by omega), au_n (by omega), az_n (by omega)]
      exact ⟨rfl, rfl⟩
    · rw [(ho q j (by omega)).1, (ho q j (by omega)).2, az_n' (by omega)]
      refine ⟨rfl, ?_⟩
      by_cases e : j = 0
      · subst e
        rw [au_h, if_pos rfl]
      · rw [au_n (by omega), az_n (by omega), if_neg e]
theorem b30 (hq : q + 32 ≤ 233) (k0 : LK[q]? = some (2, 2)) (k1 : LK[q + 1]? = some (12, 30)) (k2 : ∀ i, i < 30 → LK[q + 1 + 1 + i]? = some (9, 6)) (kk : ∀ I' M', (∀ a j, a < q → I' a j = I a j ∧ M' a j = M a j) → (∀ j, I' q j = I q j ∧ M' q j = if j = 0 then q + 2 else M q j) → (∀ j, M' (q + 1) j = if j < 30 then q + 2 + j + 1 else 0) → (∀ a j, q < a → I' a j = 0) → (∀ a j, q + 1 < a → M' a j = 0) → Q none (LK.take (q + 32), I', M')) : Cl (d + 1) 30 [.ref q] (LK.take (q + 1), I, M) Q := by
  have c0 : ai_kq (LK.take (q + 1 + 1 + 30)) q = some 2 := tk_kq k0 (by omega)
  simp (disch := omega) only [E30, K30, e_al0, e_an0, e_const, e_putR, e_ret, Option.toList_some, Option.toList_none, List.cons_append, List.nil_append, List.append_nil, List.length_cons, List.length_nil, Nat.reduceAdd, Nat.reduceLeDiff, Nat.zero_le, true_and, and_true, and_self, true_implies, forall_const, ai_rvs, ai_rv0, ai_b_0, Classical.not_not, not_true_eq_false, false_implies, not_false_eq_true, true_implies, and_true, true_and, if_true, if_false, Bool.false_eq_true, e_obj, e_mul k1 k2, c0]
  refine kk _ _ (fun a j ha => ?_) (fun j => ?_) (fun j => ?_) (fun a j ha => ?_) (fun a j ha => ?_)
  · rw [au_n (by omega), if_neg (by omega), if_neg (by omega), if_neg (by omega)]
    exact ⟨rfl, rfl⟩
  · rw [if_neg (by omega)]
    refine ⟨rfl, ?_⟩
    by_cases e : j = 0
    · subst e
      rw [au_h, if_pos rfl]
    · rw [au_n (by omega), if_neg e]
      rw [if_neg (by omega), if_neg (by omega)]
  · rw [au_n (by omega), if_pos rfl]
  · rw [if_pos (by omega)]
  · rw [au_n (by omega), if_neg (by omega), if_pos (by omega)]
/-- a market's numbers at first -/
def mk0 (x : Int32) (j : Nat) : Int32 := if j = 0 then x else if j = 4 then 1 else if j = 7 ∨ j = 8 ∨ j = 10 then -1 else 0
theorem b35 {x : Int32} (hq : q + 10 ≤ 233) (k0 : LK[q]? = some (3, 16)) (k1 : LK[q + 1]? = some (9, 4)) (k2 : LK[q + 2]? = some (12, 6)) (k3 : ∀ t, t < 6 → LK[q + 2 + 1 + t]? = some (9, 4)) (k9 : LK[q + 9]? = some (9, 6)) (hI : ∀ j, I q j = 0) (hM : ∀ j, M q j = 0) (kk : ∀ I' M', (∀ a j, a < q → I' a j = I a j ∧ M' a j = M a j) → (∀ j, I' q j = mk0 x j ∧ M' q j = if j = 1 then q + 2 else if j = 2 then q + 3 else if j = 3 then q + 10 else 0) → (∀ a j, q < a → a < q + 10 → I' a j = 0 ∧ M' a j = if a = q + 2 ∧ j < 6 then q + 3 + j + 1 else 0) → Q none (LK.take (q + 10), I', M')) : Cl (d + 1) 35 [.ref q, .int x] (LK.take (q + 1), I, M) Q := by
  have c0 : ai_kq (LK.take (q + 1)) q = some 3 := tk_kq k0 (by omega)
  have c1 : ai_kq (LK.take (q + 1 + 1)) q = some 3 := tk_kq k0 (by omega)
  have c2 : ai_kq (LK.take (q + 2 + 1 + 6)) q = some 3 := tk_kq k0 (by omega)
  have c3 : ai_kq (LK.take (q + 2 + 1 + 6 + 1)) q = some 3 := tk_kq k0 (by omega)
  have k2' : LK[q + 1 + 1]? = some (12, 6) := k2
  have k3' : ∀ t, t < 6 → LK[q + 1 + 1 + 1 + t]? = some (9, 4) := k3
  have c2' : ai_kq (LK.take (q + 1 + 1 + 1 + 6)) q = some 3 := c2
  have k9' : LK[q + 1 + 1 + 1 + 6]? = some (9, 6) := k9
  have c3' : ai_kq (LK.take (q + 1 + 1 + 1 + 6 + 1)) q = some 3 := c3
  simp (disch := omega) only [E35, K35, e_al0, e_an0, e_const, e_il1, e_putI, e_putR, e_ret, Option.toList_some, Option.toList_none, List.cons_append, List.nil_append, List.append_nil, List.length_cons, List.length_nil, Nat.reduceAdd, Nat.reduceLeDiff, Nat.zero_le, true_and, and_true, and_self, true_implies, forall_const, ai_rvs, ai_rv0, ai_b_0, Classical.not_not, not_true_eq_false, false_implies, not_false_eq_true, true_implies, and_true, true_and, if_true, if_false, Bool.false_eq_true, e_obj, c0, BO, true_or, e_nar k1, c1, e_mul k2' k3', c2', e_nar k9', c3']
  refine kk _ _ (fun a j ha => ?_) (fun j => ?_) (fun a j ha ha2 => ?_)
  · simp (disch := omega) only [ai_uo, az_n, az_n', au_n, if_neg]
    exact ⟨trivial, trivial⟩
  · refine ⟨?_, ?_⟩
    · rcases (by omega : j = 0 ∨ j = 4 ∨ j = 7 ∨ j = 8 ∨ j = 10 ∨ (j ≠ 0 ∧ j ≠ 4 ∧ j ≠ 7 ∧ j ≠ 8 ∧ j ≠ 10)) with rfl | rfl | rfl | rfl | rfl | h
      · show _ = x
        simp (disch := omega) only [ai_uo, az_n', if_neg]
        exact ai_uh
      · show _ = nI 1
        simp (disch := omega) only [ai_uo]
        exact ai_uh
      · show _ = (-1 : Int32)
        simp (disch := omega) only [ai_uo]
        exact ai_uh
      · show _ = (-1 : Int32)
        simp (disch := omega) only [ai_uo]
        exact ai_uh
      · exact ai_uh
      · simp (disch := omega) only [ai_uo, az_n', if_neg]
        unfold mk0
        rw [if_neg h.1, if_neg h.2.1, if_neg (by omega)]
        exact hI j
    · rcases (by omega : j = 1 ∨ j = 2 ∨ j = 3 ∨ (j ≠ 1 ∧ j ≠ 2 ∧ j ≠ 3)) with rfl | rfl | rfl | h
      · show _ = q + 2
        simp (disch := omega) only [au_n, az_n, if_neg]
        exact au_h
      · show _ = q + 3
        simp (disch := omega) only [au_n, az_n]
        exact au_h
      · exact au_h
      · rw [if_neg h.1, if_neg h.2.1, if_neg h.2.2]
        simp (disch := omega) only [au_n, az_n, if_neg]
        exact hM j
  · refine ⟨?_, ?_⟩
    · rcases (by omega : a = q + 9 ∨ a = q + 1 ∨ (q + 2 ≤ a ∧ a ≠ q + 9)) with rfl | rfl | h
      · simp (disch := omega) only [ai_uo]
        exact az_h'
      · simp (disch := omega) only [ai_uo, az_n', if_neg]
        exact az_h'
      · simp (disch := omega) only [ai_uo, az_n', if_pos]
    · rcases (by omega : a = q + 9 ∨ a = q + 1 ∨ a = q + 2 ∨ (q + 3 ≤ a ∧ a ≠ q + 9)) with rfl | rfl | rfl | h
      · rw [if_neg (by omega), au_n (by omega)]
        exact az_h
      · simp (disch := omega) only [au_n, az_n, if_neg]
        exact az_h
      · by_cases g : j < 6
        · rw [if_pos ⟨rfl, g⟩]
          simp (disch := omega) only [au_n, az_n, if_pos]
          rw [if_pos trivial]
        · rw [if_neg (fun h => g h.2)]
          simp (disch := omega) only [au_n, az_n, if_neg, if_pos]
          rw [if_pos trivial]
      · rw [if_neg (by omega)]
        simp (disch := omega) only [au_n, az_n, if_neg, if_pos]
end BOOT2
