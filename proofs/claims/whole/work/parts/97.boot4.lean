/-! the two objects of the law, at first -/
section BOOT4
variable {d : Nat} {X : ai_X} {I : Nat → Nat → Int32} {M : Nat → Nat → Nat} {Q : Option Value → ai_H → Prop}
theorem b54 (kk : Q none (LK.take 229, ai_z I 228 0, ai_u (ai_z M 228 0) 227 0 229)) : Cl (d + 1) 54 [.ref 227] (LK.take 228, I, M) Q := by
  have x8 : LK[228]? = some (8, 60) := y0_228
  have c1 : ai_kq (LK.take 229) 227 = some 5 := tk_kq y0_227 (by omega)
  simp (disch := omega) only [E54, K54, e_al0, e_an0, e_const, e_putR, e_ret, Option.toList_some, Option.toList_none, List.cons_append, List.nil_append, List.append_nil, List.length_cons, List.length_nil, Nat.reduceAdd, Nat.reduceLeDiff, Nat.zero_le, true_and, and_true, and_self, true_implies, forall_const, ai_rvs, ai_rv0, ai_b_0, Classical.not_not, not_true_eq_false, false_implies, not_false_eq_true, true_implies, and_true, true_and, if_true, if_false, Bool.false_eq_true, e_obj, e_nar x8, c1]
  exact kk
/-- a fresh class's rows -/
def FC0 (I : Nat → Nat → Int32) (M : Nat → Nat → Nat) : Prop := (∀ a j, 1 ≤ a → a < 114 → a ≠ 65 → I a j = IB 1 a j ∧ M a j = M0b 1 a j) ∧ (∀ i, i < 16 → M 65 i = 66 + i + 1) ∧ (∀ a j, 114 ≤ a → a < 227 → a ≠ 178 → I a j = IB 114 a j ∧ M a j = M0b 114 a j) ∧ (∀ i, i < 16 → M 178 i = 179 + i + 1) ∧ I 0 3 = 0 ∧ M 0 0 = 2 ∧ M 0 1 = 115 ∧ M 0 2 = 228 ∧ I 227 1 = 0 ∧ M 227 0 = 229
theorem b60 (hI : ∀ j, I 0 j = 0) (kk : ∀ I' M', FC0 I' M' → Q none (LK.take 229, I', M')) : Cl (d + 4) 60 [.ref 0] (LK.take 1, I, M) Q := by
  have x1 : LK[1]? = some (1, 6) := y0_1
  have x114 : LK[114]? = some (1, 6) := y0_114
  have x227 : LK[227]? = some (5, 7) := y0_227
  have c0 : ai_kq (LK.take 114) 0 = some 6 := tk_kq y0_0 (by omega)
  have c1 : ai_kq (LK.take 2) 1 = some 1 := tk_kq y0_1 (by omega)
  have c2 : ai_kq (LK.take 115) 114 = some 1 := tk_kq y0_114 (by omega)
  have c3 : ai_kq (LK.take 227) 0 = some 6 := tk_kq y0_0 (by omega)
  have c4 : ai_kq (LK.take 228) 227 = some 5 := tk_kq y0_227 (by omega)
  have c5 : ai_kq (LK.take 229) 0 = some 6 := tk_kq y0_0 (by omega)
  simp (disch := omega) only [E60, K60, ai_c1i, ai_c1n, ai_c1r, e_al0, e_an0, e_ci1, e_dupi, e_dupr, e_putR, e_ret, Option.toList_some, Option.toList_none, List.cons_append, List.nil_append, List.append_nil, List.length_cons, List.length_nil, Nat.reduceAdd, Nat.reduceLeDiff, Nat.zero_le, true_and, and_true, and_self, true_implies, forall_const, ai_rvs, ai_rv0, ai_b_0, Classical.not_not, not_true_eq_false, false_implies, not_false_eq_true, true_implies, and_true, true_and, if_true, if_false, Bool.false_eq_true, e_obj, e_new x1, c1]
  refine b7 (d := d) (B := 1) LX_1 (by omega) (fun j => az_h') (fun j => az_h) fun I1 M1 o1 f1 g1 => ?_
  simp (disch := omega) only [K60, ai_c1i, ai_c1n, ai_c1r, e_al0, e_an0, e_ci1, e_dupi, e_dupr, e_putR, e_ret, Option.toList_some, Option.toList_none, List.cons_append, List.nil_append, List.append_nil, List.length_cons, List.length_nil, Nat.reduceAdd, Nat.reduceLeDiff, Nat.zero_le, true_and, and_true, and_self, true_implies, forall_const, ai_rvs, ai_rv0, ai_b_0, Classical.not_not, not_true_eq_false, false_implies, not_false_eq_true, true_implies, and_true, true_and, if_true, if_false, Bool.false_eq_true, c0, e_new x114, c2]
  refine b7 (d := d) (B := 114) LX_114 (by omega) (fun j => az_h') (fun j => az_h) fun I2 M2 o2 f2 g2 => ?_
  simp (disch := omega) only [K60, ai_c1i, ai_c1n, ai_c1r, e_al0, e_an0, e_ci1, e_dupi, e_dupr, e_putR, e_ret, Option.toList_some, Option.toList_none, List.cons_append, List.nil_append, List.append_nil, List.length_cons, List.length_nil, Nat.reduceAdd, Nat.reduceLeDiff, Nat.zero_le, true_and, and_true, and_self, true_implies, forall_const, ai_rvs, ai_rv0, ai_b_0, Classical.not_not, not_true_eq_false, false_implies, not_false_eq_true, true_implies, and_true, true_and, if_true, if_false, Bool.false_eq_true, c3, e_new x227, c4]
  refine b54 (d := d + 2) ?_
  simp (disch := omega) only [K60, ai_c1i, ai_c1n, ai_c1r, e_al0, e_an0, e_ci1, e_dupi, e_dupr, e_putR, e_ret, Option.toList_some, Option.toList_none, List.cons_append, List.nil_append, List.append_nil, List.length_cons, List.length_nil, Nat.reduceAdd, Nat.reduceLeDiff, Nat.zero_le, true_and, and_true, and_self, true_implies, forall_const, ai_rvs, ai_rv0, ai_b_0, Classical.not_not, not_true_eq_false, false_implies, not_false_eq_true, true_implies, and_true, true_and, if_true, if_false, Bool.false_eq_true, c5]
  refine kk _ _ ⟨fun a j h1 h2 h3 => ?_, fun i hi => ?_, fun a j h1 h2 h3 => ?_, fun i hi => ?_, ?_, ?_, ?_, ?_, ?_, ?_⟩
  · rw [az_n' (by omega), az_n' (by omega), au_n (by omega), au_n (by omega), az_n (by omega), az_n (by omega), au_n (by omega), (o2 a j (by omega)).1, (o2 a j (by omega)).2, az_n' (by omega), az_n (by omega), au_n (by omega)]
    exact f1 a j h1 h2 h3
  · rw [au_n (by omega), au_n (by omega), az_n (by omega), az_n (by omega), au_n (by omega), (o2 65 i (by omega)).2, az_n (by omega), au_n (by omega)]
    exact g1 i hi
  · rw [az_n' (by omega), az_n' (by omega), au_n (by omega), au_n (by omega), az_n (by omega), az_n (by omega), au_n (by omega)]
    exact f2 a j h1 h2 h3
  · rw [au_n (by omega), au_n (by omega), az_n (by omega), az_n (by omega), au_n (by omega)]
    exact g2 i hi
  · rw [az_n' (by omega), az_n' (by omega), (o2 0 3 (by omega)).1, az_n' (by omega), (o1 0 3 (by omega)).1, az_n' (by omega)]
    exact hI 3
  · rw [au_n (by omega), au_n (by omega), az_n (by omega), az_n (by omega), au_n (by omega), (o2 0 0 (by omega)).2, az_n (by omega)]
    exact au_h
  · rw [au_n (by omega), au_n (by omega), az_n (by omega), az_n (by omega)]
    exact au_h
  · exact au_h
  · rw [az_n' (by omega)]
    exact az_h'
  · rw [au_n (by omega)]
    exact au_h
theorem b96 (kk : ∀ I' M', (∀ a j, a < 229 → I' a j = I a j ∧ M' a j = M a j) → (∀ j, I' 229 j = I 229 j) → RM M' → (∀ j, I' 230 j = 0) → Q none (LK, I', M')) : Cl (d + 1) 96 [.ref 229] (LK.take 230, I, M) Q := by
  have x0 : LK[230]? = some (9, 546) := y0_230
  have x1 : LK[231]? = some (9, 546) := y0_231
  have x2 : LK[232]? = some (9, 60) := y0_232
  have c0 : ai_kq (LK.take 231) 229 = some 7 := tk_kq y0_229 (by omega)
  have c1 : ai_kq (LK.take 232) 229 = some 7 := tk_kq y0_229 (by omega)
  have c2 : ai_kq (LK.take 233) 229 = some 7 := tk_kq y0_229 (by omega)
  simp (disch := omega) only [E96, K96, e_al0, e_an0, e_const, e_putR, e_ret, Option.toList_some, Option.toList_none, List.cons_append, List.nil_append, List.append_nil, List.length_cons, List.length_nil, Nat.reduceAdd, Nat.reduceLeDiff, Nat.zero_le, true_and, and_true, and_self, true_implies, forall_const, ai_rvs, ai_rv0, ai_b_0, Classical.not_not, not_true_eq_false, false_implies, not_false_eq_true, true_implies, and_true, true_and, if_true, if_false, Bool.false_eq_true, e_obj, e_nar x0, c0, e_nar x1, c1, e_nar x2, c2]
  have e : LK.take 233 = LK := List.take_of_length_le (by rw [show LK.length = 233 by decide +kernel]; exact Nat.le_refl _)
  rw [e]
  refine kk _ _ (fun a j ha => ?_) (fun j => ?_) ⟨?_, ?_, ?_⟩ (fun j => ?_)
  · rw [az_n' (by omega), az_n' (by omega), az_n' (by omega), au_n (by omega), az_n (by omega), au_n (by omega), az_n (by omega), au_n (by omega), az_n (by omega)]
    exact ⟨rfl, rfl⟩
  · rw [az_n' (by omega), az_n' (by omega), az_n' (by omega)]
  · rw [au_n (by omega), az_n (by omega), au_n (by omega), az_n (by omega)]
    exact au_h
  · rw [au_n (by omega), az_n (by omega)]
    exact au_h
  · exact au_h
  · rw [az_n' (by omega), az_n' (by omega)]
    exact az_h'
end BOOT4
/-- the state at first -/
def g0 (k : Nat) : Int32 := IB 1 (il 1 k).1 (il 1 k).2
def S0 : St := (g0, [], fun _ _ => 0)
theorem g0_114 {k : Nat} (hk : k < 270) : IB 114 (il 114 k).1 (il 114 k).2 = g0 k := co_dec (P := fun k => IB 114 (il 114 k).1 (il 114 k).2 = g0 k) (N := 270) (by decide +kernel) hk
theorem g0_z {k : Nat} (hk : k < 12) : g0 k = nI 0 := co_dec (P := fun k => g0 k = nI 0) (N := 12) (by decide +kernel) hk
theorem g0_bl {x : Nat} (hx : x < 258) : x % 43 = 0 ∨ 6 ≤ x % 43 → g0 (12 + 43 * (x / 43) + x % 43) = if x % 43 = 7 then -1 else nI 0 := co_dec (P := fun x => x % 43 = 0 ∨ 6 ≤ x % 43 → g0 (12 + 43 * (x / 43) + x % 43) = if x % 43 = 7 then -1 else nI 0) (N := 258) (by decide +kernel) hx
theorem INV_0 : INV S0 0 0 0 0 := by
  have e0 := fun k hk => g0_z (k := k) hk
  refine ⟨⟨⟨e0 1 (by omega), by omega, fun m hm => absurd hm (by omega)⟩, ⟨fun m hm => absurd hm (by omega), e0 3 (by omega), fun x hx => absurd hx (List.not_mem_nil), fun x hx => absurd hx (List.not_mem_nil)⟩, List.Pairwise.nil, e0 4 (by omega), Nat.zero_le _⟩, fun m hm => absurd hm (by omega), ⟨e0 2 (by omega), fun x hx => absurd hx (List.not_mem_nil)⟩, fun m hm => absurd hm (by omega), fun m hm => absurd hm (by omega), fun m hm => absurd hm (by omega), fun m hm => absurd hm (by omega), e0 0 (by omega), fun m w h1 h2 h3 h4 => ?_, fun m hm => absurd hm (by omega)⟩
  have h := g0_bl (x := 43 * m + w) (by omega)
  have f1 : (43 * m + w) % 43 = w := by omega
  have f2 : (43 * m + w) / 43 = m := by omega
  rw [f1, f2] at h
  exact h h4
section BOOT5
variable {I : Nat → Nat → Int32} {M : Nat → Nat → Nat}
theorem EX_0 {B : Nat} (hg : ∀ k, k < 270 → IB B (il B k).1 (il B k).2 = g0 k) (f1 : ∀ a j, B ≤ a → a < B + 113 → a ≠ B + 64 → I a j = IB B a j ∧ M a j = M0b B a j) (f2 : ∀ i, i < 16 → M (B + 64) i = B + 65 + i + 1) : EX B S0 (I, M) I M := by
  refine ⟨fun a _ => ⟨rfl, rfl⟩, fun a j h1 h2 h3 => (f1 a j h1 h2 h3).2, fun m hm => ?_, fun k hk _ => ?_, ⟨Nat.zero_le _, ?_, fun i => i, fun i hi => ⟨hi, f2 i hi⟩, fun i j _ _ h => h, fun i o h => by simp [S0] at h⟩, 0, ?_, by omega, fun i p _ h => absurd h (by omega)⟩
  · rw [(f1 _ 0 (by omega) (by omega) (by omega)).1]
    have := ib_m (B := B) (j := 0) hm (show 0 < 10 by omega)
    rw [if_pos rfl] at this
    exact this
  · have hr := il_rng (B := B) hk
    rw [(f1 _ _ (by omega) (by omega) (by omega)).1]
    exact hg k hk
  · rw [(f1 _ 1 (by omega) (by omega) (by omega)).1, ib_z (by omega)]
    rfl
  · rw [(f1 _ 1 (by omega) (by omega) (by omega)).1, ib_z (by omega)]
    rfl
theorem WD_0 (h : FC0 I M) : WD S0 S0 false (fun _ => 0) 0 I M := by
  obtain ⟨a1, a2, a3, a4, a5, a6, a7, a8, a9, a10⟩ := h
  exact ⟨EX_0 (B := 1) (fun k _ => rfl) a1 a2, EX_0 (B := 114) (fun k hk => g0_114 hk) a3 a4, ⟨a6, a7, a8, a10⟩, a5, Nat.zero_le _, a9, fun i hi => absurd hi (by omega)⟩
theorem RJ_0 {J : Nat → Int32} (h : ∀ j, J j = 0) : RJ J S0 0 := by
  refine ⟨g0_z (k := 1) (by omega), by omega, fun j hj _ => ?_, ⟨Nat.zero_le _, [], List.Perm.refl _, List.Pairwise.nil, fun i o h => by simp at h⟩, 0, g0_z (k := 4) (by omega), by omega, ?_, fun i p _ h => absurd h (by omega)⟩
  · rw [h j]
    exact (g0_z (by omega)).symm
  · rw [h 5]
    rfl
end BOOT5
