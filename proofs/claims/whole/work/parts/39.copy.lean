/-! one exchange is copied into the other: a market -/
def cpf (I : Nat → Nat → Int32) (q1 q0 n : Nat) : Nat → Nat → Int32 := fun q j => if q = q1 ∧ j < n then I q0 j else I q j
theorem e_cp {d X f a b v tb nx ls Q} {n n0 n1 q0 q1 : Nat} {I : Nat → Nat → Int32} {M : Nat → Nat → Nat} (h0 : LK[q0]? = some (9, n0)) (h1 : LK[q1]? = some (9, n1)) (hn0 : n ≤ n0) (hn1 : n ≤ n1) (hb : n < 2147483648) :
    EvI (d + 1) X f (41, a, b, v, tb, nx) ls [.int (nI n), .int (nI 0), .ref q1, .int (nI 0), .ref q0] (LK, I, M) Q ↔ Ev (d + 1) X f nx ls [] (LK, cpf I q1 q0 n, M) Q := by
  have z : (nI 0).toNatClampNeg = 0 := by decide
  have z0 : ¬ nI 0 < 0 := by decide
  have zn : ¬ nI n < 0 := i_nlt.mpr (nI_0le n hb)
  have e : (fun q j => if q = q1 ∧ (nI 0).toNatClampNeg ≤ j ∧ j < (nI 0).toNatClampNeg + (nI n).toNatClampNeg then I q0 ((nI 0).toNatClampNeg + (j - (nI 0).toNatClampNeg)) else I q j) = cpf I q1 q0 n := by
    funext q j
    unfold cpf
    rw [z, nIc hb]
    simp only [Nat.zero_le, true_and, Nat.zero_add, Nat.sub_zero]
  rw [e_copy, e]
  exact ⟨fun g => g.2, fun g => ⟨⟨n0, n1, h0, h1, z0, z0, zn, by rw [z, nIc hb]; omega, by rw [z, nIc hb]; omega⟩, g⟩⟩
def MS (B : Nat) (M : Nat → Nat → Nat) : Prop := ∀ a j, B ≤ a → a < B + 113 → a ≠ B + 64 → M a j = M0b B a j
def BB (B : Nat) : Prop := B = 1 ∨ B = 114
theorem yb_mk {B m : Nat} (hB : BB B) (hm : m < 6) : LK[B + 3 + 10 * m]? = some (3, 16) := by
  rcases hB with rfl | rfl
  · rw [show 1 + 3 + 10 * m = 4 + 10 * m by omega]; exact y0_mk hm
  · rw [show 114 + 3 + 10 * m = 117 + 10 * m by omega]; exact y0_mks hm
theorem yb_sh {B m : Nat} (hB : BB B) (hm : m < 6) : LK[B + 4 + 10 * m]? = some (9, 4) := by
  rcases hB with rfl | rfl
  · rw [show 1 + 4 + 10 * m = 5 + 10 * m by omega]; exact y0_sh hm
  · rw [show 114 + 4 + 10 * m = 118 + 10 * m by omega]; exact y0_shs hm
theorem yb_hd {B m : Nat} (hB : BB B) (hm : m < 6) : LK[B + 5 + 10 * m]? = some (12, 6) := by
  rcases hB with rfl | rfl
  · rw [show 1 + 5 + 10 * m = 6 + 10 * m by omega]; exact y0_hd hm
  · rw [show 114 + 5 + 10 * m = 119 + 10 * m by omega]; exact y0_hds hm
theorem yb_pd {B m : Nat} (hB : BB B) (hm : m < 6) : LK[B + 12 + 10 * m]? = some (9, 6) := by
  rcases hB with rfl | rfl
  · rw [show 1 + 12 + 10 * m = 13 + 10 * m by omega]; exact y0_pd hm
  · rw [show 114 + 12 + 10 * m = 126 + 10 * m by omega]; exact y0_pds hm
theorem yb_hr {B m t : Nat} (hB : BB B) (hm : m < 6) (ht : t < 6) : LK[B + 6 + 10 * m + t]? = some (9, 4) := by
  rcases hB with rfl | rfl
  · rw [show 1 + 6 + 10 * m + t = 7 + 10 * m + t by omega]; exact y0_hr hm ht
  · rw [show 114 + 6 + 10 * m + t = 120 + 10 * m + t by omega]; exact y0_hrs hm ht
theorem yb_od {B m : Nat} (hB : BB B) (hm : m < 16) : LK[B + 65 + m]? = some (4, 6) := by
  rcases hB with rfl | rfl
  · rw [show 1 + 65 + m = 66 + m by omega]; exact y0_od hm
  · rw [show 114 + 65 + m = 179 + m by omega]; exact y0_ods hm
theorem yb_hs {B m : Nat} (hB : BB B) (hm : m < 30) : LK[B + 83 + m]? = some (9, 6) := by
  rcases hB with rfl | rfl
  · rw [show 1 + 83 + m = 84 + m by omega]; exact y0_hs hm
  · rw [show 114 + 83 + m = 197 + m by omega]; exact y0_hss hm
theorem yb_ex {B : Nat} (hB : BB B) : LK[B + 0]? = some (1, 6) := by
  rcases hB with rfl | rfl
  · decide +kernel
  · decide +kernel
theorem yb_bl {B : Nat} (hB : BB B) : LK[B + 1]? = some (9, 6) := by
  rcases hB with rfl | rfl
  · decide +kernel
  · decide +kernel
theorem yb_ma {B : Nat} (hB : BB B) : LK[B + 2]? = some (10, 6) := by
  rcases hB with rfl | rfl
  · decide +kernel
  · decide +kernel
theorem yb_bk {B : Nat} (hB : BB B) : LK[B + 63]? = some (0, 3) := by
  rcases hB with rfl | rfl
  · decide +kernel
  · decide +kernel
theorem yb_oa {B : Nat} (hB : BB B) : LK[B + 64]? = some (11, 16) := by
  rcases hB with rfl | rfl
  · decide +kernel
  · decide +kernel
theorem yb_hy {B : Nat} (hB : BB B) : LK[B + 81]? = some (2, 2) := by
  rcases hB with rfl | rfl
  · decide +kernel
  · decide +kernel
theorem yb_ra {B : Nat} (hB : BB B) : LK[B + 82]? = some (12, 30) := by
  rcases hB with rfl | rfl
  · decide +kernel
  · decide +kernel
theorem mb_sh {B m : Nat} {M : Nat → Nat → Nat} (hB : BB B) (h : MS B M) (hm : m < 6) : M (B + 3 + 10 * m) 1 = B + 4 + 10 * m + 1 := by
  rw [h _ _ (by omega) (by omega) (by omega)]
  rcases hB with rfl | rfl
  · exact co_dec (P := fun m => M0b 1 (1 + 3 + 10 * m) 1 = 1 + 4 + 10 * m + 1) (N := 6) (by decide +kernel) hm
  · exact co_dec (P := fun m => M0b 114 (114 + 3 + 10 * m) 1 = 114 + 4 + 10 * m + 1) (N := 6) (by decide +kernel) hm
theorem mb_hd {B m : Nat} {M : Nat → Nat → Nat} (hB : BB B) (h : MS B M) (hm : m < 6) : M (B + 3 + 10 * m) 2 = B + 5 + 10 * m + 1 := by
  rw [h _ _ (by omega) (by omega) (by omega)]
  rcases hB with rfl | rfl
  · exact co_dec (P := fun m => M0b 1 (1 + 3 + 10 * m) 2 = 1 + 5 + 10 * m + 1) (N := 6) (by decide +kernel) hm
  · exact co_dec (P := fun m => M0b 114 (114 + 3 + 10 * m) 2 = 114 + 5 + 10 * m + 1) (N := 6) (by decide +kernel) hm
theorem mb_pd {B m : Nat} {M : Nat → Nat → Nat} (hB : BB B) (h : MS B M) (hm : m < 6) : M (B + 3 + 10 * m) 3 = B + 12 + 10 * m + 1 := by
  rw [h _ _ (by omega) (by omega) (by omega)]
  rcases hB with rfl | rfl
  · exact co_dec (P := fun m => M0b 1 (1 + 3 + 10 * m) 3 = 1 + 12 + 10 * m + 1) (N := 6) (by decide +kernel) hm
  · exact co_dec (P := fun m => M0b 114 (114 + 3 + 10 * m) 3 = 114 + 12 + 10 * m + 1) (N := 6) (by decide +kernel) hm
theorem mb_ma {B m : Nat} {M : Nat → Nat → Nat} (hB : BB B) (h : MS B M) (hm : m < 6) : M (B + 2) m = B + 3 + 10 * m + 1 := by
  rw [h _ _ (by omega) (by omega) (by omega)]
  rcases hB with rfl | rfl
  · exact co_dec (P := fun m => M0b 1 (1 + 2) m = 1 + 3 + 10 * m + 1) (N := 6) (by decide +kernel) hm
  · exact co_dec (P := fun m => M0b 114 (114 + 2) m = 114 + 3 + 10 * m + 1) (N := 6) (by decide +kernel) hm
theorem mb_ra {B m : Nat} {M : Nat → Nat → Nat} (hB : BB B) (h : MS B M) (hm : m < 30) : M (B + 82) m = B + 83 + m + 1 := by
  rw [h _ _ (by omega) (by omega) (by omega)]
  rcases hB with rfl | rfl
  · exact co_dec (P := fun m => M0b 1 (1 + 82) m = 1 + 83 + m + 1) (N := 30) (by decide +kernel) hm
  · exact co_dec (P := fun m => M0b 114 (114 + 82) m = 114 + 83 + m + 1) (N := 30) (by decide +kernel) hm
theorem mb_ht {B m t : Nat} {M : Nat → Nat → Nat} (hB : BB B) (h : MS B M) (hm : m < 6) (ht : t < 6) : M (B + 5 + 10 * m) t = B + 6 + 10 * m + t + 1 := by
  rw [h _ _ (by omega) (by omega) (by omega)]
  have e1 : (6 * m + t) / 6 = m := by omega
  have e2 : (6 * m + t) % 6 = t := by omega
  rcases hB with rfl | rfl
  · have h1 := co_dec (P := fun x => M0b 1 (1 + 5 + 10 * (x / 6)) (x % 6) = 1 + 6 + 10 * (x / 6) + x % 6 + 1) (N := 36) (by decide +kernel) (i := 6 * m + t) (by omega)
    rw [e1, e2] at h1
    exact h1
  · have h1 := co_dec (P := fun x => M0b 114 (114 + 5 + 10 * (x / 6)) (x % 6) = 114 + 6 + 10 * (x / 6) + x % 6 + 1) (N := 36) (by decide +kernel) (i := 6 * m + t) (by omega)
    rw [e1, e2] at h1
    exact h1
theorem mb_0 {B : Nat} {M : Nat → Nat → Nat} (hB : BB B) (h : MS B M) : M (B) 0 = B + 1 + 1 := by
  rw [h _ _ (by omega) (by omega) (by omega)]
  rcases hB with rfl | rfl
  · decide +kernel
  · decide +kernel
theorem mb_1 {B : Nat} {M : Nat → Nat → Nat} (hB : BB B) (h : MS B M) : M (B) 1 = B + 2 + 1 := by
  rw [h _ _ (by omega) (by omega) (by omega)]
  rcases hB with rfl | rfl
  · decide +kernel
  · decide +kernel
theorem mb_2 {B : Nat} {M : Nat → Nat → Nat} (hB : BB B) (h : MS B M) : M (B) 2 = B + 63 + 1 := by
  rw [h _ _ (by omega) (by omega) (by omega)]
  rcases hB with rfl | rfl
  · decide +kernel
  · decide +kernel
theorem mb_3 {B : Nat} {M : Nat → Nat → Nat} (hB : BB B) (h : MS B M) : M (B) 3 = B + 81 + 1 := by
  rw [h _ _ (by omega) (by omega) (by omega)]
  rcases hB with rfl | rfl
  · decide +kernel
  · decide +kernel
theorem mb_o {B : Nat} {M : Nat → Nat → Nat} (hB : BB B) (h : MS B M) : M (B + 63) 0 = B + 64 + 1 := by
  rw [h _ _ (by omega) (by omega) (by omega)]
  rcases hB with rfl | rfl
  · decide +kernel
  · decide +kernel
theorem mb_h {B : Nat} {M : Nat → Nat → Nat} (hB : BB B) (h : MS B M) : M (B + 81) 0 = B + 82 + 1 := by
  rw [h _ _ (by omega) (by omega) (by omega)]
  rcases hB with rfl | rfl
  · decide +kernel
  · decide +kernel
section COPYM
variable {M : Nat → Nat → Nat} {D E m : Nat} {d : Nat} {Q : Option Value → ai_H → Prop}
/-- a market's cells so far -/
def cm1 (I : Nat → Nat → Int32) (D E m i : Nat) : Nat → Nat → Int32 := fun a j => if (a = D + 4 + 10 * m ∧ j < 4) ∨ (D + 6 + 10 * m ≤ a ∧ a < D + 6 + 10 * m + i ∧ j < 4) then I (a + E - D) j else I a j
def cm2 (I : Nat → Nat → Int32) (D E m : Nat) : Nat → Nat → Int32 := fun a j => if (a = D + 4 + 10 * m ∧ j < 4) ∨ (D + 6 + 10 * m ≤ a ∧ a < D + 12 + 10 * m ∧ j < 4) ∨ (a = D + 12 + 10 * m ∧ j < 6) ∨ (a = D + 3 + 10 * m ∧ 4 ≤ j ∧ j < 13) then I (a + E - D) j else I a j
theorem c36_l {I : Nat → Nat → Int32} (hD : BB D) (hE : BB E) (hne : D ≠ E) (sD : MS D M) (sE : MS E M) (hm : m < 6) (kk : Q none (LK, cm2 I D E m, M)) :
    ∀ r i, r + i = 6 → Ev (d + 1) X0 36 16 [.ref (D + 3 + 10 * m), .ref (E + 3 + 10 * m), .int (nI i)] [] (LK, cm1 I D E m i, M) Q
  | 0, i, hi => by
    obtain rfl : i = 6 := by omega
    have hD' : D = 1 ∨ D = 114 := hD
    have hE' : E = 1 ∨ E = 114 := hE
    rw [H36_16]
    simp (disch := omega) only [K36_0, K36_1, e_aald, e_al0, e_al1, e_an0, e_an1, e_c3, e_const, e_getI, e_getR, e_goto, e_ii2, e_il2, e_is2, e_putI, e_ret, Option.toList_some, Option.toList_none, List.cons_append, List.nil_append, List.append_nil, List.length_cons, List.length_nil, Nat.reduceAdd, Nat.reduceLeDiff, Nat.zero_le, true_and, and_true, and_self, true_implies, forall_const, ai_rvs, ai_rv0, ai_b_0, Classical.not_not, not_true_eq_false, false_implies, not_false_eq_true, true_implies, and_true, true_and, if_true, if_false, Bool.false_eq_true, Int32.le_refl, kq_of (yb_mk hD hm), kq_of (yb_mk hE hm), mb_pd hD sD hm, mb_pd hE sE hm, e_cp (yb_pd hE hm) (yb_pd hD hm) (n := 6) (by omega) (by omega) (by omega), BO, true_or, ai_uo]
    refine Eq.mpr (congrArg (fun H => Q none (LK, H, M)) (?_ : _ = cm2 I D E m)) kk
    funext a j
    by_cases ha : a = D + 3 + 10 * m
    · subst ha
      by_cases hj : 4 ≤ j ∧ j < 13
      · rcases (by omega : j = 4 ∨ j = 5 ∨ j = 6 ∨ j = 7 ∨ j = 8 ∨ j = 9 ∨ j = 10 ∨ j = 11 ∨ j = 12) with rfl | rfl | rfl | rfl | rfl | rfl | rfl | rfl | rfl
        all_goals
          simp (disch := omega) only [ai_uo, ai_uh]
          unfold cm2 cpf cm1
          rw [if_neg (by omega), if_neg (by omega), if_pos (by omega)]
          congr 1
          omega
      · simp (disch := omega) only [ai_uo]
        unfold cm2 cpf cm1
        rw [if_neg (by omega), if_neg (by omega), if_neg (by omega)]
    · simp (disch := omega) only [ai_uo]
      unfold cm2 cpf cm1
      by_cases h1 : a = D + 12 + 10 * m ∧ j < 6
      · rw [if_pos h1, if_neg (by omega), if_pos (by omega)]
        congr 1
        omega
      · rw [if_neg h1]
        by_cases h2 : (a = D + 4 + 10 * m ∧ j < 4) ∨ (D + 6 + 10 * m ≤ a ∧ a < D + 6 + 10 * m + 6 ∧ j < 4)
        · rw [if_pos h2, if_pos (by omega)]
        · rw [if_neg h2, if_neg (by omega)]
  | r + 1, i, hi => by
    have ih := c36_l hD hE hne sD sE hm kk r (i + 1) (by omega)
    have hD' : D = 1 ∨ D = 114 := hD
    have hE' : E = 1 ∨ E = 114 := hE
    have e : cpf (cm1 I D E m i) (D + 6 + 10 * m + i) (E + 6 + 10 * m + i) 4 = cm1 I D E m (i + 1) := by
      funext a j
      unfold cpf cm1
      by_cases h1 : a = D + 6 + 10 * m + i ∧ j < 4
      · rw [if_pos h1, if_neg (by omega), if_pos (by omega)]
        congr 1
        omega
      · rw [if_neg h1]
        by_cases h2 : (a = D + 4 + 10 * m ∧ j < 4) ∨ (D + 6 + 10 * m ≤ a ∧ a < D + 6 + 10 * m + i ∧ j < 4)
        · rw [if_pos h2, if_pos (by omega)]
        · rw [if_neg h2, if_neg (by omega)]
    rw [H36_16]
    simp (disch := omega) only [K36_0, K36_1, e_aald, e_al0, e_al1, e_an0, e_an1, e_c3, e_const, e_getI, e_getR, e_goto, e_ii2, e_il2, e_is2, e_putI, e_ret, Option.toList_some, Option.toList_none, List.cons_append, List.nil_append, List.append_nil, List.length_cons, List.length_nil, Nat.reduceAdd, Nat.reduceLeDiff, Nat.zero_le, true_and, and_true, and_self, true_implies, forall_const, ai_rvs, ai_rv0, ai_b_0, Classical.not_not, not_true_eq_false, false_implies, not_false_eq_true, true_implies, and_true, true_and, if_true, if_false, Bool.false_eq_true, nIle, kq_of (yb_mk hD hm), kq_of (yb_mk hE hm), mb_hd hD sD hm, mb_hd hE sE hm, ar3_of (yb_hd hD hm), ar3_of (yb_hd hE hm), nIc, mb_ht hD sD hm, mb_ht hE sE hm, e_cp (yb_hr hE hm (t := i) (by omega)) (yb_hr hD hm (t := i) (by omega)) (n := 4) (by omega) (by omega) (by omega), nIa, e]
    exact ⟨fun g => absurd g (by omega), fun _ => ih⟩
/-- Market.copyFrom -/
theorem c36 {I : Nat → Nat → Int32} (hD : BB D) (hE : BB E) (hne : D ≠ E) (sD : MS D M) (sE : MS E M) (hm : m < 6) (kk : Q none (LK, cm2 I D E m, M)) : Cl (d + 1) 36 [.ref (D + 3 + 10 * m), .ref (E + 3 + 10 * m)] (LK, I, M) Q := by
  have hD' : D = 1 ∨ D = 114 := hD
  have hE' : E = 1 ∨ E = 114 := hE
  have e : cpf I (D + 4 + 10 * m) (E + 4 + 10 * m) 4 = cm1 I D E m 0 := by
    funext a j
    unfold cpf cm1
    by_cases h1 : a = D + 4 + 10 * m ∧ j < 4
    · rw [if_pos h1, if_pos (by omega)]
      congr 1
      omega
    · rw [if_neg h1, if_neg (by omega)]
  simp (disch := omega) only [E36, K36_0, K36_1, e_aald, e_al0, e_al1, e_an0, e_an1, e_c3, e_const, e_getI, e_getR, e_goto, e_ii2, e_il2, e_is2, e_putI, e_ret, Option.toList_some, Option.toList_none, List.cons_append, List.nil_append, List.append_nil, List.length_cons, List.length_nil, Nat.reduceAdd, Nat.reduceLeDiff, Nat.zero_le, true_and, and_true, and_self, true_implies, forall_const, ai_rvs, ai_rv0, ai_b_0, Classical.not_not, not_true_eq_false, false_implies, not_false_eq_true, true_implies, and_true, true_and, if_true, if_false, Bool.false_eq_true, kq_of (yb_mk hD hm), kq_of (yb_mk hE hm), mb_sh hD sD hm, mb_sh hE sE hm, e_cp (yb_sh hE hm) (yb_sh hD hm) (n := 4) (by omega) (by omega) (by omega), e]
  exact c36_l hD hE hne sD sE hm kk 6 0 (by omega)
end COPYM
