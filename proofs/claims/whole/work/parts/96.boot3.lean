/-! the constructor of an exchange -/
/-- the numbers of a fresh exchange at B -/
def IB (B a j : Nat) : Int32 := if B + 3 ≤ a ∧ a < B + 63 ∧ (a - (B + 3)) % 10 = 0 then mk0 (nI ((a - (B + 3)) / 10)) j else 0
/-- its references while its markets come -/
def MB (B m a j : Nat) : Nat := if a = B then (if j = 0 then B + 2 else if j = 1 then B + 3 else 0) else if a = B + 2 then (if j < m then B + 3 + 10 * j + 1 else 0) else M0b B a j
theorem m0_0 {B j : Nat} : M0b B B j = if j = 0 then B + 2 else if j = 1 then B + 3 else if j = 2 then B + 64 else if j = 3 then B + 82 else 0 := by
  unfold M0b
  dsimp only
  rw [if_pos (show B - B = 0 by omega)]
theorem m0_2 {B j : Nat} : M0b B (B + 2) j = if j < 6 then B + 3 + 10 * j + 1 else 0 := by
  unfold M0b
  dsimp only
  rw [if_neg (show ¬ B + 2 - B = 0 by omega), if_pos (show B + 2 - B = 2 by omega)]
theorem m0_63 {B j : Nat} : M0b B (B + 63) j = if j = 0 then B + 65 else 0 := by
  unfold M0b
  dsimp only
  rw [if_neg (show ¬ B + 63 - B = 0 by omega), if_neg (show ¬ B + 63 - B = 2 by omega), if_pos (show B + 63 - B = 63 by omega)]
theorem m0_81 {B j : Nat} : M0b B (B + 81) j = if j = 0 then B + 83 else 0 := by
  unfold M0b
  dsimp only
  rw [if_neg (show ¬ B + 81 - B = 0 by omega), if_neg (show ¬ B + 81 - B = 2 by omega), if_neg (show ¬ B + 81 - B = 63 by omega), if_pos (show B + 81 - B = 81 by omega)]
theorem m0_82 {B j : Nat} : M0b B (B + 82) j = if j < 30 then B + 83 + j + 1 else 0 := by
  unfold M0b
  dsimp only
  rw [if_neg (show ¬ B + 82 - B = 0 by omega), if_neg (show ¬ B + 82 - B = 2 by omega), if_neg (show ¬ B + 82 - B = 63 by omega), if_neg (show ¬ B + 82 - B = 81 by omega), if_pos (show B + 82 - B = 82 by omega)]
theorem m0_z {B a j : Nat} (h : a = B + 1 ∨ (B + 65 ≤ a ∧ a < B + 81) ∨ B + 83 ≤ a) : M0b B a j = 0 := by
  unfold M0b
  dsimp only
  rw [if_neg (show ¬ a - B = 0 by omega), if_neg (show ¬ a - B = 2 by omega), if_neg (show ¬ a - B = 63 by omega), if_neg (show ¬ a - B = 81 by omega), if_neg (show ¬ a - B = 82 by omega), if_neg (show ¬ (3 ≤ a - B ∧ a - B < 63) by omega)]
theorem m0_m {B m w j : Nat} (hm : m < 6) (hw : w < 10) : M0b B (B + 3 + 10 * m + w) j = if w = 0 then (if j = 1 then B + 3 + 10 * m + w + 2 else if j = 2 then B + 3 + 10 * m + w + 3 else if j = 3 then B + 3 + 10 * m + w + 10 else 0) else if w = 2 then (if j < 6 then B + 3 + 10 * m + w + 1 + j + 1 else 0) else 0 := by
  have f : (B + 3 + 10 * m + w - B - 3) % 10 = w := by omega
  unfold M0b
  dsimp only
  rw [if_neg (show ¬ B + 3 + 10 * m + w - B = 0 by omega), if_neg (show ¬ B + 3 + 10 * m + w - B = 2 by omega), if_neg (show ¬ B + 3 + 10 * m + w - B = 63 by omega), if_neg (show ¬ B + 3 + 10 * m + w - B = 81 by omega), if_neg (show ¬ B + 3 + 10 * m + w - B = 82 by omega), if_pos (show (3 ≤ B + 3 + 10 * m + w - B ∧ B + 3 + 10 * m + w - B < 63) by omega), f]
theorem ib_z {B a j : Nat} (h : ¬ (B + 3 ≤ a ∧ a < B + 63)) : IB B a j = 0 := by
  unfold IB
  rw [if_neg (fun g => h ⟨g.1, g.2.1⟩)]
theorem ib_m {B m w j : Nat} (hm : m < 6) (hw : w < 10) : IB B (B + 3 + 10 * m + w) j = if w = 0 then mk0 (nI m) j else 0 := by
  have f : (B + 3 + 10 * m + w - (B + 3)) % 10 = w := by omega
  have f2 : (B + 3 + 10 * m + w - (B + 3)) / 10 = m := by omega
  unfold IB
  rw [f, f2]
  by_cases g : w = 0
  · rw [if_pos g, if_pos ⟨by omega, by omega, g⟩]
  · rw [if_neg g, if_neg (fun h => g h.2.2)]
theorem mB_0 {B m j : Nat} : MB B m B j = if j = 0 then B + 2 else if j = 1 then B + 3 else 0 := by
  unfold MB
  rw [if_pos rfl]
theorem mB_2 {B m j : Nat} : MB B m (B + 2) j = if j < m then B + 3 + 10 * j + 1 else 0 := by
  unfold MB
  rw [if_neg (show ¬ B + 2 = B by omega), if_pos rfl]
theorem mB_x {B m a j : Nat} (h0 : a ≠ B) (h2 : a ≠ B + 2) : MB B m a j = M0b B a j := by
  unfold MB
  rw [if_neg h0, if_neg h2]
section BOOT3
variable {d q B n : Nat} {I : Nat → Nat → Int32} {M : Nat → Nat → Nat} {Q : Option Value → ai_H → Prop}
theorem b7_l (hX : LX B) (hB : B + 113 ≤ 233) {I0 : Nat → Nat → Int32} {M0 : Nat → Nat → Nat} (kk : ∀ I' M', (∀ a j, a < B → I' a j = I0 a j ∧ M' a j = M0 a j) → (∀ a j, B ≤ a → a < B + 63 → I' a j = IB B a j ∧ M' a j = MB B 6 a j) → Ev (d + 3) X0 7 49 [.ref B, .int (nI 6)] [] (LK.take (B + 63), I', M') Q) :
    ∀ r m I M, r + m = 6 → (∀ a j, a < B → I a j = I0 a j ∧ M a j = M0 a j) → (∀ a j, B ≤ a → a < B + 3 + 10 * m → I a j = IB B a j ∧ M a j = MB B m a j) → Ev (d + 3) X0 7 23 [.ref B, .int (nI m)] [] (LK.take (B + 3 + 10 * m), I, M) Q
  | 0, m, I, M, hm, ho, h1 => by
    obtain rfl : m = 6 := by omega
    have k3 := kk I M ho h1
    rw [H7_23]
    simp (disch := omega) only [k7_0, k7_1, k7_4, k7_5, k7_7, k7_9, k7_12, k7_13, k7_15, k7_18, k7_21, k7_22, k7_24, k7_26, k7_29, k7_30, k7_33, k7_34, k7_37, k7_38, k7_39, k7_42, k7_43, k7_46, k7_50, k7_53, k7_54, k7_57, k7_60, k7_61, k7_64, k7_65, k7_68, k7_71, ai_c1i, ai_c1n, ai_c1r, e_aast, e_al0, e_an0, e_c3, e_ci1, e_ci2, e_const, e_dupi, e_dupr, e_getR, e_goto, e_ii1, e_il1, e_is1, e_putR, e_ret, Option.toList_some, Option.toList_none, List.cons_append, List.nil_append, List.append_nil, List.length_cons, List.length_nil, Nat.reduceAdd, Nat.reduceLeDiff, Nat.zero_le, true_and, and_true, and_self, true_implies, forall_const, ai_rvs, ai_rv0, ai_b_0, Classical.not_not, not_true_eq_false, false_implies, not_false_eq_true, true_implies, and_true, true_and, if_true, if_false, Bool.false_eq_true, Int32.le_refl]
    exact k3
  | r + 1, m, I, M, hm, ho, h1 => by
    obtain ⟨x0, x1, x2, x3, -⟩ := id hX
    obtain ⟨y0, y1, y2, y3, y9⟩ := x3 m (by omega)
    have e1 : M B 1 = B + 2 + 1 := by
      rw [(h1 B 1 (by omega) (by omega)).2, mB_0]
      rfl
    have c0 : ai_kq (LK.take (B + 3 + 10 * m)) B = some 1 := tk_kq x0 (by omega)
    have c1 : ai_kq (LK.take (B + 3 + 10 * m + 10)) (B + 2) = some 10 := tk_kq x2 (by omega)
    have c2 : ai_kq (LK.take (B + 3 + 10 * m + 10)) (B + 3 + 10 * m) = some 3 := tk_kq y0 (by omega)
    have c3 : ai_ar3 (LK.take (B + 3 + 10 * m + 10)) (B + 2) (nI m) = true := tk_ar3 x2 (by omega) (by omega) (by omega) (by omega) (by omega)
    rw [H7_23]
    simp (disch := omega) only [k7_0, k7_1, k7_4, k7_5, k7_7, k7_9, k7_12, k7_13, k7_15, k7_18, k7_21, k7_22, k7_24, k7_26, k7_29, k7_30, k7_33, k7_34, k7_37, k7_38, k7_39, k7_42, k7_43, k7_46, k7_50, k7_53, k7_54, k7_57, k7_60, k7_61, k7_64, k7_65, k7_68, k7_71, ai_c1i, ai_c1n, ai_c1r, e_aast, e_al0, e_an0, e_c3, e_ci1, e_ci2, e_const, e_dupi, e_dupr, e_getR, e_goto, e_ii1, e_il1, e_is1, e_putR, e_ret, Option.toList_some, Option.toList_none, List.cons_append, List.nil_append, List.append_nil, List.length_cons, List.length_nil, Nat.reduceAdd, Nat.reduceLeDiff, Nat.zero_le, true_and, and_true, and_self, true_implies, forall_const, ai_rvs, ai_rv0, ai_b_0, Classical.not_not, not_true_eq_false, false_implies, not_false_eq_true, true_implies, and_true, true_and, if_true, if_false, Bool.false_eq_true, nIle, c0, e1, e_new y0]
    refine ⟨fun g => absurd g (by omega), fun _ => ?_⟩
    refine ⟨tk_kq y0 (by omega), ?_⟩
    refine b35 (d := d + 1) (by omega) y0 y1 y2 y3 y9 (fun j => az_h') (fun j => az_h) fun I1 M1 p1 p2 p3 => ?_
    simp (disch := omega) only [k7_0, k7_1, k7_4, k7_5, k7_7, k7_9, k7_12, k7_13, k7_15, k7_18, k7_21, k7_22, k7_24, k7_26, k7_29, k7_30, k7_33, k7_34, k7_37, k7_38, k7_39, k7_42, k7_43, k7_46, k7_50, k7_53, k7_54, k7_57, k7_60, k7_61, k7_64, k7_65, k7_68, k7_71, ai_c1i, ai_c1n, ai_c1r, e_aast, e_al0, e_an0, e_c3, e_ci1, e_ci2, e_const, e_dupi, e_dupr, e_getR, e_goto, e_ii1, e_il1, e_is1, e_putR, e_ret, Option.toList_some, Option.toList_none, List.cons_append, List.nil_append, List.append_nil, List.length_cons, List.length_nil, Nat.reduceAdd, Nat.reduceLeDiff, Nat.zero_le, true_and, and_true, and_self, true_implies, forall_const, ai_rvs, ai_rv0, ai_b_0, Classical.not_not, not_true_eq_false, false_implies, not_false_eq_true, true_implies, and_true, true_and, if_true, if_false, Bool.false_eq_true, c1, c2, c3, nIc, nIa, true_or]
    have ih := b7_l hX hB kk r (m + 1) I1 (ai_u M1 (B + 2) m (B + 3 + 10 * m + 1)) (by omega) (fun a j ha => ?_) (fun a j ha ha2 => ?_)
    · exact ih
    · rw [au_n (by omega), (p1 a j (by omega)).1, (p1 a j (by omega)).2, az_n (by omega), az_n' (by omega)]
      exact ho a j ha
    · by_cases g : a < B + 3 + 10 * m
      · have hpa := p1 a j g
        rw [az_n (by omega), az_n' (by omega)] at hpa
        have hh := h1 a j ha g
        refine ⟨hpa.1.trans hh.1, ?_⟩
        by_cases g2 : a = B + 2
        · subst g2
          rw [mB_2] at hh ⊢
          by_cases g3 : j = m
          · subst g3
            rw [au_h, if_pos (by omega)]
          · rw [au_n (by omega), hpa.2, hh.2]
            by_cases g4 : j < m
            · rw [if_pos g4, if_pos (by omega)]
            · rw [if_neg g4, if_neg (by omega)]
        · rw [au_n (by omega), hpa.2, hh.2]
          by_cases g3 : a = B
          · subst g3
            rw [mB_0, mB_0]
          · rw [mB_x g3 g2, mB_x g3 g2]
      · rw [au_n (by omega)]
        obtain ⟨w, hw, rfl⟩ : ∃ w, w < 10 ∧ a = B + 3 + 10 * m + w := ⟨a - (B + 3 + 10 * m), by omega, by omega⟩
        rw [mB_x (by omega) (by omega), m0_m (by omega) hw, ib_m (by omega) hw]
        by_cases g0 : w = 0
        · subst g0
          exact p2 j
        · have hp := p3 (B + 3 + 10 * m + w) j (by omega) (by omega)
          rw [if_neg g0, if_neg g0]
          refine ⟨hp.1, hp.2.trans ?_⟩
          by_cases g2 : w = 2
          · subst g2
            rw [if_pos rfl]
            by_cases g3 : j < 6
            · rw [if_pos ⟨rfl, g3⟩, if_pos g3]
            · rw [if_neg (fun h => g3 h.2), if_neg g3]
          · rw [if_neg g2, if_neg (fun h => g2 (by omega))]
theorem b7 (hX : LX B) (hB : B + 113 ≤ 233) (hI : ∀ j, I B j = 0) (hM : ∀ j, M B j = 0) (kk : ∀ I' M', (∀ a j, a < B → I' a j = I a j ∧ M' a j = M a j) → (∀ a j, B ≤ a → a < B + 113 → a ≠ B + 64 → I' a j = IB B a j ∧ M' a j = M0b B a j) → (∀ i, i < 16 → M' (B + 64) i = B + 65 + i + 1) → Q none (LK.take (B + 113), I', M')) : Cl (d + 3) 7 [.ref B] (LK.take (B + 1), I, M) Q := by
  obtain ⟨x0, x1, x2, x3, x4, x5, x6, x7, x8, x9⟩ := id hX
  have x2' : LK[B + 1 + 1]? = some (10, 6) := x2
  have c1 : ai_kq (LK.take (B + 1 + 1)) B = some 1 := tk_kq x0 (by omega)
  have c2 : ai_kq (LK.take (B + 1 + 1 + 1)) B = some 1 := tk_kq x0 (by omega)
  have c3 : ai_kq (LK.take (B + 63 + 18)) B = some 1 := tk_kq x0 (by omega)
  have c4 : ai_kq (LK.take (B + 81 + 32)) B = some 1 := tk_kq x0 (by omega)
  simp (disch := omega) only [E7, k7_0, k7_1, k7_4, k7_5, k7_7, k7_9, k7_12, k7_13, k7_15, k7_18, k7_21, k7_22, k7_24, k7_26, k7_29, k7_30, k7_33, k7_34, k7_37, k7_38, k7_39, k7_42, k7_43, k7_46, k7_50, k7_53, k7_54, k7_57, k7_60, k7_61, k7_64, k7_65, k7_68, k7_71, ai_c1i, ai_c1n, ai_c1r, e_aast, e_al0, e_an0, e_c3, e_ci1, e_ci2, e_const, e_dupi, e_dupr, e_getR, e_goto, e_ii1, e_il1, e_is1, e_putR, e_ret, Option.toList_some, Option.toList_none, List.cons_append, List.nil_append, List.append_nil, List.length_cons, List.length_nil, Nat.reduceAdd, Nat.reduceLeDiff, Nat.zero_le, true_and, and_true, and_self, true_implies, forall_const, ai_rvs, ai_rv0, ai_b_0, Classical.not_not, not_true_eq_false, false_implies, not_false_eq_true, true_implies, and_true, true_and, if_true, if_false, Bool.false_eq_true, e_obj, e_nar x1, c1, e_anr x2', c2]
  have l := b7_l (d := d) (Q := Q) hX hB (I0 := I) (M0 := M) (fun I1 M1 o1 h1 => ?_) 6 0 (ai_z (ai_z I (B + 1) 0) (B + 1 + 1) 0) (ai_u (ai_z (ai_u (ai_z M (B + 1) 0) B 0 (B + 1 + 1)) (B + 1 + 1) 0) B 1 (B + 1 + 1 + 1)) (by omega) (fun a j ha => ?_) (fun a j ha ha2 => ?_)
  · exact l
  · simp (disch := omega) only [K7, ai_c1i, ai_c1n, ai_c1r, e_aast, e_al0, e_an0, e_c3, e_ci1, e_ci2, e_const, e_dupi, e_dupr, e_getR, e_goto, e_ii1, e_il1, e_is1, e_putR, e_ret, Option.toList_some, Option.toList_none, List.cons_append, List.nil_append, List.append_nil, List.length_cons, List.length_nil, Nat.reduceAdd, Nat.reduceLeDiff, Nat.zero_le, true_and, and_true, and_self, true_implies, forall_const, ai_rvs, ai_rv0, ai_b_0, Classical.not_not, not_true_eq_false, false_implies, not_false_eq_true, true_implies, and_true, true_and, if_true, if_false, Bool.false_eq_true, e_new x4]
    refine ⟨tk_kq x4 (by omega), ?_⟩
    refine b0 (d := d) (by omega) x4 x5 x6 fun I2 M2 q1 q2 q3 q4 => ?_
    have x7' : LK[B + 63 + 18]? = some (2, 2) := x7
    simp (disch := omega) only [K7, ai_c1i, ai_c1n, ai_c1r, e_aast, e_al0, e_an0, e_c3, e_ci1, e_ci2, e_const, e_dupi, e_dupr, e_getR, e_goto, e_ii1, e_il1, e_is1, e_putR, e_ret, Option.toList_some, Option.toList_none, List.cons_append, List.nil_append, List.append_nil, List.length_cons, List.length_nil, Nat.reduceAdd, Nat.reduceLeDiff, Nat.zero_le, true_and, and_true, and_self, true_implies, forall_const, ai_rvs, ai_rv0, ai_b_0, Classical.not_not, not_true_eq_false, false_implies, not_false_eq_true, true_implies, and_true, true_and, if_true, if_false, Bool.false_eq_true, c3, e_new x7']
    refine ⟨tk_kq x7 (by omega), ?_⟩
    refine b30 (d := d + 1) (q := B + 81) (by omega) x7 x8 x9 fun I3 M3 s1 s2 s3 s4 s5 => ?_
    simp (disch := omega) only [K7, ai_c1i, ai_c1n, ai_c1r, e_aast, e_al0, e_an0, e_c3, e_ci1, e_ci2, e_const, e_dupi, e_dupr, e_getR, e_goto, e_ii1, e_il1, e_is1, e_putR, e_ret, Option.toList_some, Option.toList_none, List.cons_append, List.nil_append, List.append_nil, List.length_cons, List.length_nil, Nat.reduceAdd, Nat.reduceLeDiff, Nat.zero_le, true_and, and_true, and_self, true_implies, forall_const, ai_rvs, ai_rv0, ai_b_0, Classical.not_not, not_true_eq_false, false_implies, not_false_eq_true, true_implies, and_true, true_and, if_true, if_false, Bool.false_eq_true, c4]
    refine kk I3 (ai_u M3 B 3 (B + 81 + 1)) (fun a j ha => ?_) (fun a j ha ha2 hne => ?_) (fun i hi => ?_)
    · rw [au_n (by omega), (s1 a j (by omega)).1, (s1 a j (by omega)).2, az_n (by omega), az_n' (by omega), au_n (by omega), (q1 a j (by omega)).1, (q1 a j (by omega)).2, az_n (by omega), az_n' (by omega)]
      exact o1 a j ha
    · rcases (by omega : a = B ∨ (B < a ∧ a < B + 63) ∨ a = B + 63 ∨ (B + 65 ≤ a ∧ a < B + 81) ∨ a = B + 81 ∨ a = B + 82 ∨ B + 83 ≤ a) with rfl | g | rfl | g | rfl | rfl | g
      · refine ⟨?_, ?_⟩
        · rw [(s1 a j (by omega)).1, az_n' (by omega), (q1 a j (by omega)).1, az_n' (by omega)]
          exact (h1 a j (by omega) (by omega)).1
        · have hh := (h1 a j (by omega) (by omega)).2
          rw [mB_0] at hh
          rw [m0_0]
          by_cases g3 : j = 3
          · subst g3
            exact au_h
          · rw [au_n (by omega), (s1 a j (by omega)).2, az_n (by omega)]
            by_cases g2 : j = 2
            · subst g2
              exact au_h
            · rw [au_n (by omega), (q1 a j (by omega)).2, az_n (by omega), hh]
              by_cases g0 : j = 0
              · rw [if_pos g0, if_pos g0]
              · rw [if_neg g0, if_neg g0]
                by_cases g1 : j = 1
                · rw [if_pos g1, if_pos g1]
                · rw [if_neg g1, if_neg g1, if_neg g2, if_neg g3]
      · refine ⟨?_, ?_⟩
        · rw [(s1 a j (by omega)).1, az_n' (by omega), (q1 a j (by omega)).1, az_n' (by omega)]
          exact (h1 a j (by omega) (by omega)).1
        · rw [au_n (by omega), (s1 a j (by omega)).2, az_n (by omega), au_n (by omega), (q1 a j (by omega)).2, az_n (by omega), (h1 a j (by omega) (by omega)).2]
          by_cases g2 : a = B + 2
          · rw [g2, mB_2, m0_2]
          · rw [mB_x (by omega) g2]
      · refine ⟨?_, ?_⟩
        · rw [(s1 _ j (by omega)).1, az_n' (by omega), (q2 j).1, ib_z (by omega)]
          exact az_h'
        · rw [au_n (by omega), (s1 _ j (by omega)).2, az_n (by omega), au_n (by omega), (q2 j).2, m0_63]
          by_cases g0 : j = 0
          · rw [if_pos g0, if_pos g0]
          · rw [if_neg g0, if_neg g0]
            exact az_h
      · obtain ⟨i, hi, rfl⟩ : ∃ i, i < 16 ∧ a = B + 63 + 2 + i := ⟨a - (B + 65), by omega, by omega⟩
        obtain ⟨z1, z2⟩ := q4 i j hi
        refine ⟨?_, ?_⟩
        · rw [(s1 _ j (by omega)).1, az_n' (by omega), z1, ib_z (by omega)]
        · rw [au_n (by omega), (s1 _ j (by omega)).2, az_n (by omega), au_n (by omega), z2, m0_z (by omega)]
      · refine ⟨?_, ?_⟩
        · rw [(s2 j).1, ib_z (by omega)]
          exact az_h'
        · rw [au_n (by omega), (s2 j).2, m0_81]
          by_cases g0 : j = 0
          · rw [if_pos g0, if_pos g0]
          · rw [if_neg g0, if_neg g0, show B + 81 = B + 63 + 18 by omega]
            exact az_h
      · refine ⟨?_, ?_⟩
        · rw [s4 _ j (by omega), ib_z (by omega)]
        · rw [au_n (by omega), s3 j, m0_82]
      · refine ⟨?_, ?_⟩
        · rw [s4 _ j (by omega), ib_z (by omega)]
        · rw [au_n (by omega), s5 _ j (by omega), m0_z (by omega)]
    · rw [au_n (by omega), (s1 _ i (by omega)).2, az_n (by omega), au_n (by omega)]
      exact q3 i hi
  · rw [au_n (by omega), az_n (by omega), au_n (by omega), az_n (by omega), az_n' (by omega), az_n' (by omega)]
    exact ⟨rfl, rfl⟩
  · rcases (by omega : a = B ∨ a = B + 1 ∨ a = B + 1 + 1) with rfl | rfl | rfl
    · refine ⟨?_, ?_⟩
      · rw [az_n' (by omega), az_n' (by omega), hI j, ib_z (by omega)]
      · rw [mB_0]
        by_cases g1 : j = 1
        · subst g1
          exact au_h
        · rw [au_n (by omega), az_n (by omega)]
          by_cases g0 : j = 0
          · subst g0
            exact au_h
          · rw [au_n (by omega), az_n (by omega), hM j, if_neg g0, if_neg g1]
    · refine ⟨?_, ?_⟩
      · rw [az_n' (by omega), az_h', ib_z (by omega)]
      · rw [au_n (by omega), az_n (by omega), au_n (by omega), az_h, mB_x (by omega) (by omega), m0_z (by omega)]
    · refine ⟨?_, ?_⟩
      · rw [az_h', ib_z (by omega)]
      · rw [au_n (by omega), az_h, show B + 1 + 1 = B + 2 from rfl, mB_2, if_neg (by omega)]
end BOOT3
