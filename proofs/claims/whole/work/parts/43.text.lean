/-! the text -/
def sA (st c : Int32) : Int32 := if st = nI 0 then (if nI 48 ≤ c ∧ c ≤ nI 53 then nI 1 else -1) else if st = nI 1 then (if c = nI 43 ∨ c = nI 45 then nI 2 else -1) else if st = nI 2 then (if nI 49 ≤ c ∧ c ≤ nI 57 then nI 3 else -1)
  else if st = nI 3 then (if nI 48 ≤ c ∧ c ≤ nI 57 then nI 4 else if c = nI 109 then nI 5 else -1) else if st = nI 4 then (if c = nI 109 then nI 5 else -1) else if st = nI 5 then (if nI 48 ≤ c ∧ c ≤ nI 53 then nI 6 else -1)
  else if st = nI 6 then (if c = nI 46 then nI 7 else -1) else if st = nI 7 then (if nI 48 ≤ c ∧ c ≤ nI 51 then nI 8 else -1) else if st = nI 8 then (if c = nI 59 then nI 0 else -1) else -1
def eo (tx : Nat → Int32) : Nat → Nat → Int32 → Int32
  | 0, i, st => if st = nI 8 then -1 else nI i
  | r + 1, i, st => if sA st (tx i) = -1 then nI i else eo tx r (i + 1) (sA st (tx i))
abbrev Rd : Type := Int32 × Int32 × Int32 × Int32 × Int32
def nt (st c : Int32) (R : Rd) : Rd := if st = nI 0 then (c - nI 48, R.2) else if st = nI 1 then (R.1, (if c = nI 45 then nI 1 else nI 0), R.2.2) else if st = nI 2 then (R.1, R.2.1, c - nI 48, R.2.2.2)
  else if st = nI 3 then (if c = nI 109 then R else (R.1, R.2.1, nI 10 * R.2.2.1 + (c - nI 48), R.2.2.2)) else if st = nI 5 then (R.1, R.2.1, R.2.2.1, c - nI 48, R.2.2.2.2) else if st = nI 7 then (R.1, R.2.1, R.2.2.1, R.2.2.2.1, c - nI 48) else R
def rt (tx : Nat → Int32) : Nat → Nat → Int32 → Rd → Nat × Rd
  | 0, i, _, R => (i, R)
  | r + 1, i, st, R => if sA st (tx i) = nI 0 then (i + 1, nt st (tx i) R) else rt tx r (i + 1) (sA st (tx i)) (nt st (tx i) R)
section TEXT
variable {I : Nat → Nat → Int32} {M : Nat → Nat → Nat} {d : Nat} {Q : Option Value → ai_H → Prop} {tx : Nat → Int32} {len : Nat}
theorem c57 {h : ai_H} {st c : Int32} : Cl (d + 1) 57 [.int st, .int c] h Q ↔ Q (some (.int (sA st c))) h := by
  refine Cl_one ?_
  rcases sw_cases st 9 with ⟨j, hj, rfl⟩ | hx
  · rcases (by omega : j = 0 ∨ j = 1 ∨ j = 2 ∨ j = 3 ∨ j = 4 ∨ j = 5 ∨ j = 6 ∨ j = 7 ∨ j = 8) with rfl | rfl | rfl | rfl | rfl | rfl | rfl | rfl | rfl
    all_goals
      simp (disch := omega) only [E57, K57_0, K57_1, ai_c1i, ai_c1n, ai_c1r, e_c0, e_c1, e_const, e_cs3, e_goto, e_il0, e_il1, e_reti, e_sw, e_z0, Option.toList_some, Option.toList_none, List.cons_append, List.nil_append, List.append_nil, List.length_cons, List.length_nil, Nat.reduceAdd, Nat.reduceLeDiff, Nat.zero_le, true_and, and_true, and_self, true_implies, forall_const, ai_rvs, ai_rv0, ai_b_0, Classical.not_not, not_true_eq_false, false_implies, not_false_eq_true, true_implies, and_true, true_and, if_true, if_false, Bool.false_eq_true, c95, sw_in, List.getElem?_cons_zero, List.getElem?_cons_succ, Option.getD_some, sA, nIeq, Nat.reduceEqDiff, Nat.one_ne_zero, Nat.zero_ne_one]
    all_goals grind
  · have e : ∀ j, j < 9 → (st = nI j) = False := fun j hj => eq_false (hx j hj)
    simp (disch := omega) only [E57, K57_0, K57_1, ai_c1i, ai_c1n, ai_c1r, e_c0, e_c1, e_const, e_cs3, e_goto, e_il0, e_il1, e_reti, e_sw, e_z0, Option.toList_some, Option.toList_none, List.cons_append, List.nil_append, List.append_nil, List.length_cons, List.length_nil, Nat.reduceAdd, Nat.reduceLeDiff, Nat.zero_le, true_and, and_true, and_self, true_implies, forall_const, ai_rvs, ai_rv0, ai_b_0, Classical.not_not, not_true_eq_false, false_implies, not_false_eq_true, true_implies, and_true, true_and, if_true, if_false, Bool.false_eq_true, sw_out (n := 9) (a := 202) (tb := [52, 69, 87, 104, 129, 141, 159, 172, 190]) rfl hx (by omega), sA, e]
/-- TradeText.errorOffset -/
theorem c56_l (hl : len ≤ 60) (h1 : I 227 1 = nI len) (hm : M 227 0 = 228 + 1) (ht : ∀ i, i < len → I 228 i = tx i) (kk : Q (some (.int (eo tx len 0 (nI 0)))) (LK, I, M)) :
    ∀ r i st, r + i = len → eo tx r i st = eo tx len 0 (nI 0) → Ev (d + 2) X0 56 4 [.ref 227, .int st, .int (nI i)] [] (LK, I, M) Q
  | 0, i, st, hi, he => by
    obtain rfl : i = len := by omega
    rw [← he, eo] at kk
    rw [H56_4]
    by_cases g : st = nI 8
    · rw [if_pos g] at kk
      simp (disch := omega) only [K56, ai_c1i, ai_c1n, ai_c1r, e_al0, e_an0, e_c1, e_c3, e_cald, e_const, e_cs2, e_getI, e_getR, e_goto, e_ii2, e_il1, e_il2, e_is1, e_is2, e_reti, Option.toList_some, Option.toList_none, List.cons_append, List.nil_append, List.append_nil, List.length_cons, List.length_nil, Nat.reduceAdd, Nat.reduceLeDiff, Nat.zero_le, true_and, and_true, and_self, true_implies, forall_const, ai_rvs, ai_rv0, ai_b_0, Classical.not_not, not_true_eq_false, false_implies, not_false_eq_true, true_implies, and_true, true_and, if_true, if_false, Bool.false_eq_true, q_227, h1, Int32.le_refl, g]
      exact kk
    · rw [if_neg g] at kk
      simp (disch := omega) only [K56, ai_c1i, ai_c1n, ai_c1r, e_al0, e_an0, e_c1, e_c3, e_cald, e_const, e_cs2, e_getI, e_getR, e_goto, e_ii2, e_il1, e_il2, e_is1, e_is2, e_reti, Option.toList_some, Option.toList_none, List.cons_append, List.nil_append, List.append_nil, List.length_cons, List.length_nil, Nat.reduceAdd, Nat.reduceLeDiff, Nat.zero_le, true_and, and_true, and_self, true_implies, forall_const, ai_rvs, ai_rv0, ai_b_0, Classical.not_not, not_true_eq_false, false_implies, not_false_eq_true, true_implies, and_true, true_and, if_true, if_false, Bool.false_eq_true, q_227, h1, Int32.le_refl, g]
      exact kk
  | r + 1, i, st, hi, he => by
    have ih := c56_l hl h1 hm ht kk r (i + 1)
    rw [eo] at he
    rw [H56_4]
    by_cases g : sA st (tx i) = -1
    · rw [if_pos g] at he
      rw [← he] at kk
      simp (disch := omega) only [K56, ai_c1i, ai_c1n, ai_c1r, e_al0, e_an0, e_c1, e_c3, e_cald, e_const, e_cs2, e_getI, e_getR, e_goto, e_ii2, e_il1, e_il2, e_is1, e_is2, e_reti, Option.toList_some, Option.toList_none, List.cons_append, List.nil_append, List.append_nil, List.length_cons, List.length_nil, Nat.reduceAdd, Nat.reduceLeDiff, Nat.zero_le, true_and, and_true, and_self, true_implies, forall_const, ai_rvs, ai_rv0, ai_b_0, Classical.not_not, not_true_eq_false, false_implies, not_false_eq_true, true_implies, and_true, true_and, if_true, if_false, Bool.false_eq_true, q_227, h1, nIle, hm, a_tx, nIc, ht, c57, g]
      exact ⟨fun g => absurd g (by omega), fun _ => kk⟩
    · rw [if_neg g] at he
      simp (disch := omega) only [K56, ai_c1i, ai_c1n, ai_c1r, e_al0, e_an0, e_c1, e_c3, e_cald, e_const, e_cs2, e_getI, e_getR, e_goto, e_ii2, e_il1, e_il2, e_is1, e_is2, e_reti, Option.toList_some, Option.toList_none, List.cons_append, List.nil_append, List.append_nil, List.length_cons, List.length_nil, Nat.reduceAdd, Nat.reduceLeDiff, Nat.zero_le, true_and, and_true, and_self, true_implies, forall_const, ai_rvs, ai_rv0, ai_b_0, Classical.not_not, not_true_eq_false, false_implies, not_false_eq_true, true_implies, and_true, true_and, if_true, if_false, Bool.false_eq_true, q_227, h1, nIle, hm, a_tx, nIc, ht, c57, g, nIa]
      exact ⟨fun g => absurd g (by omega), fun _ => ih _ (by omega) he⟩
theorem c56 (hl : len ≤ 60) (h1 : I 227 1 = nI len) (hm : M 227 0 = 228 + 1) (ht : ∀ i, i < len → I 228 i = tx i) : Cl (d + 2) 56 [.ref 227] (LK, I, M) Q ↔ Q (some (.int (eo tx len 0 (nI 0)))) (LK, I, M) := by
  refine Cl_one ?_
  simp (disch := omega) only [E56, K56, ai_c1i, ai_c1n, ai_c1r, e_al0, e_an0, e_c1, e_c3, e_cald, e_const, e_cs2, e_getI, e_getR, e_goto, e_ii2, e_il1, e_il2, e_is1, e_is2, e_reti, Option.toList_some, Option.toList_none, List.cons_append, List.nil_append, List.append_nil, List.length_cons, List.length_nil, Nat.reduceAdd, Nat.reduceLeDiff, Nat.zero_le, true_and, and_true, and_self, true_implies, forall_const, ai_rvs, ai_rv0, ai_b_0, Classical.not_not, not_true_eq_false, false_implies, not_false_eq_true, true_implies, and_true, true_and, if_true, if_false, Bool.false_eq_true]
  exact c56_l hl h1 hm ht ⟨rfl, rfl⟩ len 0 (nI 0) (by omega) rfl
def rdw (I : Nat → Nat → Int32) : Rd := (I 227 2, I 227 3, I 227 4, I 227 5, I 227 6)
/-- TradeText.note -/
theorem c59 {st c : Int32} (kk : ∀ I', (∀ a, a ≠ 227 → I' a = I a) → I' 227 1 = I 227 1 → rdw I' = nt st c (rdw I) → Q none (LK, I', M)) : Cl d 59 [.ref 227, .int st, .int c] (LK, I, M) Q := by
  have up : ∀ (j : Nat) (v : Int32), 2 ≤ j → (∀ a, a ≠ 227 → ai_u I 227 j v a = I a) ∧ ai_u I 227 j v 227 1 = I 227 1 := fun j v hj => ⟨fun a ha => ai_u_other _ _ _ _ ha, ai_uo (by omega)⟩
  have rw' : ∀ (v : Int32), rdw (ai_u I 227 2 v) = (v, (rdw I).2) ∧ rdw (ai_u I 227 3 v) = ((rdw I).1, v, (rdw I).2.2) ∧ rdw (ai_u I 227 4 v) = ((rdw I).1, (rdw I).2.1, v, (rdw I).2.2.2) ∧ rdw (ai_u I 227 5 v) = ((rdw I).1, (rdw I).2.1, (rdw I).2.2.1, v, (rdw I).2.2.2.2) ∧ rdw (ai_u I 227 6 v) = ((rdw I).1, (rdw I).2.1, (rdw I).2.2.1, (rdw I).2.2.2.1, v) := fun v => by
    unfold rdw
    simp (disch := omega) only [ai_uo, ai_uh, and_self]
  have kn : nt st c (rdw I) = rdw I → Q none (LK, I, M) := fun e => kk I (fun _ _ => rfl) rfl e.symm
  rcases sw_cases st 8 with ⟨j, hj, rfl⟩ | hx
  · rcases (by omega : j = 0 ∨ j = 1 ∨ j = 2 ∨ j = 3 ∨ j = 4 ∨ j = 5 ∨ j = 6 ∨ j = 7) with rfl | rfl | rfl | rfl | rfl | rfl | rfl | rfl
    all_goals
      simp (disch := omega) only [nt, nIeq, Nat.reduceEqDiff, Nat.one_ne_zero, Nat.zero_ne_one, if_true, if_false] at kk kn
      simp (disch := omega) only [E59, K59, e_al0, e_an0, e_b0, e_b1, e_b2, e_c0, e_c1, e_const, e_getI, e_goto, e_il1, e_il2, e_il3, e_is3, e_putI, e_ret, e_sw, Option.toList_some, Option.toList_none, List.cons_append, List.nil_append, List.append_nil, List.length_cons, List.length_nil, Nat.reduceAdd, Nat.reduceLeDiff, Nat.zero_le, true_and, and_true, and_self, true_implies, forall_const, ai_rvs, ai_rv0, ai_b_0, Classical.not_not, not_true_eq_false, false_implies, not_false_eq_true, true_implies, and_true, true_and, if_true, if_false, Bool.false_eq_true, q_227, sw_in, List.getElem?_cons_zero, List.getElem?_cons_succ, Option.getD_some, BO, true_or]
    · exact kk _ (up 2 _ (by omega)).1 (up 2 _ (by omega)).2 (rw' _).1
    · exact ⟨fun g => ⟨Or.inr (Or.inl rfl), kk _ (up 3 _ (by omega)).1 (up 3 _ (by omega)).2 (by rw [if_neg g]; exact (rw' _).2.1)⟩, fun g => ⟨Or.inr (Or.inr rfl), kk _ (up 3 _ (by omega)).1 (up 3 _ (by omega)).2 (by rw [if_pos g]; exact (rw' _).2.1)⟩⟩
    · exact kk _ (up 4 _ (by omega)).1 (up 4 _ (by omega)).2 (rw' _).2.2.1
    · exact ⟨fun g => kn (by rw [if_pos g]), fun g => kk _ (up 4 _ (by omega)).1 (up 4 _ (by omega)).2 (by rw [if_neg g]; exact (rw' _).2.2.1)⟩
    · exact kn trivial
    · exact kk _ (up 5 _ (by omega)).1 (up 5 _ (by omega)).2 (rw' _).2.2.2.1
    · exact kn trivial
    · exact kk _ (up 6 _ (by omega)).1 (up 6 _ (by omega)).2 (rw' _).2.2.2.2
  · have e : ∀ j, j < 8 → (st = nI j) = False := fun j hj => eq_false (hx j hj)
    simp (disch := omega) only [nt, e, if_false] at kn
    simp (disch := omega) only [E59, K59, e_al0, e_an0, e_b0, e_b1, e_b2, e_c0, e_c1, e_const, e_getI, e_goto, e_il1, e_il2, e_il3, e_is3, e_putI, e_ret, e_sw, Option.toList_some, Option.toList_none, List.cons_append, List.nil_append, List.append_nil, List.length_cons, List.length_nil, Nat.reduceAdd, Nat.reduceLeDiff, Nat.zero_le, true_and, and_true, and_self, true_implies, forall_const, ai_rvs, ai_rv0, ai_b_0, Classical.not_not, not_true_eq_false, false_implies, not_false_eq_true, true_implies, and_true, true_and, if_true, if_false, Bool.false_eq_true, q_227, sw_out (n := 8) (a := 124) (tb := [52, 60, 78, 86, 124, 108, 124, 116]) rfl hx (by omega)]
    exact kn trivial
/-- TradeText.readTrade -/
theorem c58_l {I0 : Nat → Nat → Int32} {R0 : Rd} {a1 : Value} {nx : Nat} (hl : len ≤ 60) (hm : M 227 0 = 228 + 1) (ht : ∀ i, i < len → I0 228 i = tx i) (kk : ∀ I', (∀ a, a ≠ 227 → I' a = I0 a) → I' 227 1 = nI len → rdw I' = (rt tx (len - nx) nx (nI 0) R0).2 → Q (some (.int (nI (rt tx (len - nx) nx (nI 0) R0).1))) (LK, I', M)) :
    ∀ r i st I, r + i = len → (∀ a, a ≠ 227 → I a = I0 a) → I 227 1 = nI len → rt tx r i st (rdw I) = rt tx (len - nx) nx (nI 0) R0 → Ev (d + 2) X0 58 8 [.ref 227, a1, .int st, .int (nI i)] [] (LK, I, M) Q
  | 0, i, st, I, hi, o, h1, he => by
    obtain rfl : i = len := by omega
    rw [← he, rt] at kk
    have k3 := kk I o h1 rfl
    rw [H58_8]
    simp (disch := omega) only [K58, ai_c1i, ai_c1n, ai_c1r, e_al0, e_an0, e_b0, e_c3, e_cald, e_const, e_cs2, e_cv3, e_getI, e_getR, e_goto, e_ii3, e_il1, e_il2, e_il3, e_is2, e_is3, e_reti, e_z1, Option.toList_some, Option.toList_none, List.cons_append, List.nil_append, List.append_nil, List.length_cons, List.length_nil, Nat.reduceAdd, Nat.reduceLeDiff, Nat.zero_le, true_and, and_true, and_self, true_implies, forall_const, ai_rvs, ai_rv0, ai_b_0, Classical.not_not, not_true_eq_false, false_implies, not_false_eq_true, true_implies, and_true, true_and, if_true, if_false, Bool.false_eq_true, q_227, h1, Int32.le_refl]
    exact k3
  | r + 1, i, st, I, hi, o, h1, he => by
    have e228 : ∀ i, i < len → I 228 i = tx i := fun i hi => by rw [o 228 (by omega)]; exact ht i hi
    rw [H58_8]
    simp (disch := omega) only [K58, ai_c1i, ai_c1n, ai_c1r, e_al0, e_an0, e_b0, e_c3, e_cald, e_const, e_cs2, e_cv3, e_getI, e_getR, e_goto, e_ii3, e_il1, e_il2, e_il3, e_is2, e_is3, e_reti, e_z1, Option.toList_some, Option.toList_none, List.cons_append, List.nil_append, List.append_nil, List.length_cons, List.length_nil, Nat.reduceAdd, Nat.reduceLeDiff, Nat.zero_le, true_and, and_true, and_self, true_implies, forall_const, ai_rvs, ai_rv0, ai_b_0, Classical.not_not, not_true_eq_false, false_implies, not_false_eq_true, true_implies, and_true, true_and, if_true, if_false, Bool.false_eq_true, q_227, h1, nIle, hm, a_tx, nIc, e228]
    refine ⟨fun g => absurd g (by omega), fun _ => ?_⟩
    refine c59 fun I1 o1 l1 r1 => ?_
    have o2 : ∀ a, a ≠ 227 → I1 a = I0 a := fun a ha => by rw [o1 a ha, o a ha]
    have e229 : ∀ i, i < len → I1 228 i = tx i := fun i hi => by rw [o1 228 (by omega)]; exact e228 i hi
    simp (disch := omega) only [K58, ai_c1i, ai_c1n, ai_c1r, e_al0, e_an0, e_b0, e_c3, e_cald, e_const, e_cs2, e_cv3, e_getI, e_getR, e_goto, e_ii3, e_il1, e_il2, e_il3, e_is2, e_is3, e_reti, e_z1, Option.toList_some, Option.toList_none, List.cons_append, List.nil_append, List.append_nil, List.length_cons, List.length_nil, Nat.reduceAdd, Nat.reduceLeDiff, Nat.zero_le, true_and, and_true, and_self, true_implies, forall_const, ai_rvs, ai_rv0, ai_b_0, Classical.not_not, not_true_eq_false, false_implies, not_false_eq_true, true_implies, and_true, true_and, if_true, if_false, Bool.false_eq_true, q_227, h1, nIle, hm, a_tx, nIc, e229, c57, nIa]
    rw [rt] at he
    by_cases g : sA st (tx i) = nI 0
    · rw [if_pos g] at he
      rw [← he] at kk
      simp only [g, not_true_eq_false, false_implies, not_false_eq_true, true_implies, and_true, true_and, if_true, if_false, Bool.false_eq_true]
      exact kk I1 o2 (l1.trans h1) r1
    · rw [if_neg g] at he
      simp only [g, not_true_eq_false, false_implies, not_false_eq_true, true_implies, and_true, true_and, if_true, if_false, Bool.false_eq_true]
      exact c58_l hl hm ht kk r (i + 1) _ I1 (by omega) o2 (l1.trans h1) (by rw [r1]; exact he)
theorem c58 {nx : Nat} (hl : len ≤ 60) (hn : nx ≤ len) (h1 : I 227 1 = nI len) (hm : M 227 0 = 228 + 1) (ht : ∀ i, i < len → I 228 i = tx i) (kk : ∀ I', (∀ a, a ≠ 227 → I' a = I a) → I' 227 1 = nI len → rdw I' = (rt tx (len - nx) nx (nI 0) (rdw I)).2 → Q (some (.int (nI (rt tx (len - nx) nx (nI 0) (rdw I)).1))) (LK, I', M)) : Cl (d + 2) 58 [.ref 227, .int (nI nx)] (LK, I, M) Q := by
  have e : m_max (nI nx) (nI 0) = nI nx := by
    unfold m_max
    rw [if_neg (by rw [nIlt (by omega) (by omega)]; omega)]
  simp (disch := omega) only [E58, K58, ai_c1i, ai_c1n, ai_c1r, e_al0, e_an0, e_b0, e_c3, e_cald, e_const, e_cs2, e_cv3, e_getI, e_getR, e_goto, e_ii3, e_il1, e_il2, e_il3, e_is2, e_is3, e_reti, e_z1, Option.toList_some, Option.toList_none, List.cons_append, List.nil_append, List.append_nil, List.length_cons, List.length_nil, Nat.reduceAdd, Nat.reduceLeDiff, Nat.zero_le, true_and, and_true, and_self, true_implies, forall_const, ai_rvs, ai_rv0, ai_b_0, Classical.not_not, not_true_eq_false, false_implies, not_false_eq_true, true_implies, and_true, true_and, if_true, if_false, Bool.false_eq_true, c160, e]
  exact c58_l hl hm ht kk (len - nx) nx (nI 0) I (by omega) (fun _ _ => rfl) h1 rfl
end TEXT
