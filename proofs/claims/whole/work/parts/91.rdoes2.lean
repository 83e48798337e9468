/-! the reference does one trade of the text -/
section RDOES2
variable {tx : Nat → Int32} {len p q m n o k T N tm : Nat} {I : Nat → Nat → Int32} {J : Nat → Int32} {M : Nat → Nat → Nat} {S : St} {d : Nat} {Q : Option Value → ai_H → Prop}
/-- costs are in range -/
theorem due_rng {c : Int32} {x : Nat} (h : MV S.1 k) (hm : m < k) (hn : S.1 (14 + 43 * m) = nI n) (hn4 : n ≤ 4) (ho : o < n) (hx : S.1 (21 + 43 * m + o) + c = nI x) (hx4 : x ≤ 400) : -960000000 ≤ (m_due S.1 m o c).toInt ∧ (m_due S.1 m o c).toInt ≤ 960000000 := by
  obtain ⟨n', b, s, h1, n2, n4, h2, b1, b2, h3⟩ := h m hm
  obtain rfl := (nIeq (by omega) (by omega)).mp (h1.symm.trans hn)
  unfold m_due
  rw [nN_of hn hn4, h2]
  have up : ∀ y, y < n' → ug (qs S.1 m) o (qs S.1 m o + c) y = nI (if y = o then x else s y) ∧ (if y = o then x else s y) ≤ 400 := fun y hy => by
    unfold ug
    by_cases e : y = o
    · subst e
      rw [if_pos rfl, if_pos rfl]
      exact ⟨hx, hx4⟩
    · rw [if_neg e, if_neg e]
      exact h3 y hy
  obtain ⟨X0, -, b01, b02, t0⟩ := lev_T (q := qs S.1 m) (s := s) (show 1 ≤ n' by omega) hn4 b1 b2 h3
  obtain ⟨X1, -, b11, b12, t1⟩ := lev_T (s := fun y => if y = o then x else s y) (show 1 ≤ n' by omega) hn4 b1 b2 up
  have h60 : 60 / b ≤ 60 := Nat.div_le_self 60 b
  have h6 : (0 : Int) ≤ ((60 / b : Nat) : Int) := Int.natCast_nonneg _
  have h7 : ((60 / b : Nat) : Int) ≤ 60 := Int.ofNat_le.mpr h60
  unfold m_cost
  generalize ((60 / b : Nat) : Int) = A at *
  have y01 := Int.mul_le_mul_of_nonneg_left b01 h6
  have y02 := Int.mul_le_mul_of_nonneg_left b02 h6
  have y11 := Int.mul_le_mul_of_nonneg_left b11 h6
  have y12 := Int.mul_le_mul_of_nonneg_left b12 h6
  rw [subT (by omega) (by omega)]
  omega
theorem buy_rng {t x y c : Int32} (h : INV S k T N tm) : (-1000000005 : Int32) ≤ (p_buy S t x y c).1 := by
  unfold p_buy
  split
  · rename_i g1
    obtain ⟨t, ht, rfl⟩ := tr_of g1
    split
    · rename_i g2
      rcases mW_c h.1.1 x y with ⟨m, n, o, hm, rfl, hn, n2, n4, ho, rfl, em⟩ | ⟨em, -⟩
      · rw [em]
        dsimp only
        split
        · split
          · rename_i g4
            split
            · exact of_decide_eq_true rfl
            · obtain ⟨z, hz, ez⟩ := nI_ofr (k := 401) g4.1 (Int32.lt_of_le_of_lt g4.2 (by decide)) (by omega)
              have := due_rng (c := c) h.1.2.1.1 hm hn n4 ho ez (by omega)
              dsimp only
              rw [Int32.le_iff_toInt_le, show (-1000000005 : Int32).toInt = -1000000005 by decide]
              omega
          · exact of_decide_eq_true rfl
        · exact of_decide_eq_true rfl
      · rw [em]
        exact of_decide_eq_true rfl
    · exact of_decide_eq_true rfl
  · exact of_decide_eq_true rfl
theorem sell_rng {t x y c : Int32} (h : INV S k T N tm) : (-1000000005 : Int32) ≤ (p_sell S t x y c).1 := by
  unfold p_sell
  split
  · rename_i g1
    obtain ⟨t, ht, rfl⟩ := tr_of g1
    rw [nIc (by omega)]
    split
    · rename_i g2
      obtain ⟨c, hc, rfl⟩ := nI_ofr (k := 51) (Int32.le_trans (by decide) g2.1) (Int32.lt_of_le_of_lt g2.2 (by decide)) (by omega)
      rcases mW_c h.1.1 x y with ⟨m, n, o, hm, rfl, hn, n2, n4, ho, rfl, em⟩ | ⟨em, -⟩
      · rw [em]
        dsimp only
        split
        · split
          · exact of_decide_eq_true rfl
          · rename_i g4
            obtain ⟨s0, y0, q1, q3, q4, q5⟩ := h.2.1.le hm ht (show o < 4 by omega)
            rw [show hq S.1 m t o = nI y0 from q3, nIlt (by omega) (by omega)] at g4
            have := due_rng (c := -(nI c)) (x := s0 - c) h.1.2.1.1 hm hn n4 ho (by rw [q1, add_neg_nI (by omega)]) (by omega)
            dsimp only
            rw [Int32.le_iff_toInt_le, show (-1000000005 : Int32).toInt = -1000000005 by decide, Int32.toInt_neg, Int.bmod_eq_of_le (by omega) (by omega)]
            omega
        · exact of_decide_eq_true rfl
      · rw [em]
        exact of_decide_eq_true rfl
    · exact of_decide_eq_true rfl
  · exact of_decide_eq_true rfl
theorem td_rng {R : Rd} (h : INV S k T N tm) : (-1000000005 : Int32) ≤ (td S R).1 := by
  unfold td
  split
  · exact buy_rng h
  · exact sell_rng h
theorem INV.td_ {R : Rd} (h : INV S k T N tm) : ∃ T', T ≤ T' ∧ T' ≤ T + 801 ∧ INV (td S R).2 k T' N tm := by
  unfold td
  split
  · exact h.buy
  · exact h.sell
theorem i_x0 {x : Int32} : nI 10 * nI 0 + x - nI 48 = x - nI 48 := by
  rw [show nI 10 * nI 0 = nI 0 by decide, nI_0, Int32.zero_add]
theorem i_x1 {c x : Int32} : nI 10 * c + x - nI 48 = nI 10 * c + (x - nI 48) := by
  rw [Int32.sub_eq_add_neg, Int32.sub_eq_add_neg, Int32.add_assoc]
theorem r155_x {cn : Int32} (hm : RM M) (hl : len ≤ 60) (ht : ∀ i, i < len → I 232 i = tx i) (htr : TRD tx p q) (hq : q + 4 ≤ len) (hcn : cn = tcn tx p q) (hinv : INV S k T N tm) (hj : RJ J S k) (hb : T < 999970000) (k1 : ∀ J', RJ J' (td S (trd tx p q)).2 k → ¬ ((-1000000005) ≤ (td S (trd tx p q)).1 ∧ (td S (trd tx p q)).1 ≤ (-1000000001)) → Q (some (.int (nI 1))) (LK, sr I J', M)) (k2 : ∀ J', RJ J' (td S (trd tx p q)).2 k → (-1000000005) ≤ (td S (trd tx p q)).1 ∧ (td S (trd tx p q)).1 ≤ (-1000000001) → Q (some (.int (nI 0))) (LK, sr I J', M)) {u1 u2 u3 : Value} : Ev (d + 10) X0 155 6 [.ref 229, .int (nI p), .int (nI q), .int cn, u1, u2, u3] [] (LK, sr I J, M) Q := by
  have hpq := htr.q
  obtain ⟨h1, h2, h3, h4, h5, h6, h7, h8⟩ := id htr
  have et : ∀ j, j < len → sr I J 232 j = tx j := fun j hj => by rw [sr_o (by omega)]; exact ht j hj
  have hrng := td_rng (R := trd tx p q) hinv
  have fin : ∀ J', RJ J' (td S (trd tx p q)).2 k → ((td S (trd tx p q)).1 ≤ (-1000000001) → Q (some (.int (nI 0))) (LK, sr I J', M)) ∧ (¬ (td S (trd tx p q)).1 ≤ (-1000000001) → Q (some (.int (nI 1))) (LK, sr I J', M)) := fun J' hj' => ⟨fun g => k2 J' hj' ⟨hrng, g⟩, fun g => k1 J' hj' fun h => g h.2⟩
  subst hcn
  rw [H155_6]
  rcases h2 with h2 | h2
  · have n43 : (nI 43 = nI 43) = True := eq_true rfl
    have e0 : td S (trd tx p q) = p_buy S (tx p - nI 48) (tx (q + 1) - nI 48) (tx (q + 3) - nI 48) (tcn tx p q) := by
      unfold td trd
      dsimp only
      rw [h2, if_pos (show (if nI 43 = nI 45 then nI 1 else nI 0) = nI 0 by decide)]
    rw [e0] at fin
    simp (disch := omega) only [K155_0, K155_1, ai_c1i, ai_c1n, ai_c1r, e_al0, e_an0, e_b0, e_b1, e_b2, e_c0, e_c1, e_c5, e_const, e_cv5, e_getR, e_goto, e_iald, e_ii2, e_il1, e_il2, e_il3, e_il4, e_il5, e_il6, e_is2, e_is3, e_is4, e_is5, e_is6, e_retb, Option.toList_some, Option.toList_none, List.cons_append, List.nil_append, List.append_nil, List.length_cons, List.length_nil, Nat.reduceAdd, Nat.reduceLeDiff, Nat.zero_le, true_and, and_true, and_self, true_implies, forall_const, ai_rvs, ai_rv0, ai_b_0, Classical.not_not, not_true_eq_false, false_implies, not_false_eq_true, true_implies, and_true, true_and, if_true, if_false, Bool.false_eq_true, q_229, a_nw, hm.2.2, a_rt, nIc, nIa, et, h5, h2]
    refine r118 (d := d) hm hj hinv.1 (by omega) fun J' hj' => ?_
    obtain ⟨f1, f2⟩ := fin J' hj'
    simp (disch := omega) only [K155_0, K155_1, ai_c1i, ai_c1n, ai_c1r, e_al0, e_an0, e_b0, e_b1, e_b2, e_c0, e_c1, e_c5, e_const, e_cv5, e_getR, e_goto, e_iald, e_ii2, e_il1, e_il2, e_il3, e_il4, e_il5, e_il6, e_is2, e_is3, e_is4, e_is5, e_is6, e_retb, Option.toList_some, Option.toList_none, List.cons_append, List.nil_append, List.append_nil, List.length_cons, List.length_nil, Nat.reduceAdd, Nat.reduceLeDiff, Nat.zero_le, true_and, and_true, and_self, true_implies, forall_const, ai_rvs, ai_rv0, ai_b_0, Classical.not_not, not_true_eq_false, false_implies, not_false_eq_true, true_implies, and_true, true_and, if_true, if_false, Bool.false_eq_true, q_229, a_nw]
    exact ⟨fun g => ⟨Or.inl rfl, f1 g⟩, fun g => ⟨Or.inr rfl, f2 g⟩⟩
  · have n43 : (nI 45 = nI 43) = False := eq_false (by decide)
    have e0 : td S (trd tx p q) = p_sell S (tx p - nI 48) (tx (q + 1) - nI 48) (tx (q + 3) - nI 48) (tcn tx p q) := by
      unfold td trd
      dsimp only
      rw [h2, if_pos rfl, if_neg (by decide)]
    rw [e0] at fin
    simp (disch := omega) only [K155_0, K155_1, ai_c1i, ai_c1n, ai_c1r, e_al0, e_an0, e_b0, e_b1, e_b2, e_c0, e_c1, e_c5, e_const, e_cv5, e_getR, e_goto, e_iald, e_ii2, e_il1, e_il2, e_il3, e_il4, e_il5, e_il6, e_is2, e_is3, e_is4, e_is5, e_is6, e_retb, Option.toList_some, Option.toList_none, List.cons_append, List.nil_append, List.append_nil, List.length_cons, List.length_nil, Nat.reduceAdd, Nat.reduceLeDiff, Nat.zero_le, true_and, and_true, and_self, true_implies, forall_const, ai_rvs, ai_rv0, ai_b_0, Classical.not_not, not_true_eq_false, false_implies, not_false_eq_true, true_implies, and_true, true_and, if_true, if_false, Bool.false_eq_true, q_229, a_nw, hm.2.2, a_rt, nIc, nIa, et, h5, h2, n43]
    refine r122 (d := d) hm hj hinv.1 hinv.2.1 (by omega) fun J' hj' => ?_
    obtain ⟨f1, f2⟩ := fin J' hj'
    simp (disch := omega) only [K155_0, K155_1, ai_c1i, ai_c1n, ai_c1r, e_al0, e_an0, e_b0, e_b1, e_b2, e_c0, e_c1, e_c5, e_const, e_cv5, e_getR, e_goto, e_iald, e_ii2, e_il1, e_il2, e_il3, e_il4, e_il5, e_il6, e_is2, e_is3, e_is4, e_is5, e_is6, e_retb, Option.toList_some, Option.toList_none, List.cons_append, List.nil_append, List.append_nil, List.length_cons, List.length_nil, Nat.reduceAdd, Nat.reduceLeDiff, Nat.zero_le, true_and, and_true, and_self, true_implies, forall_const, ai_rvs, ai_rv0, ai_b_0, Classical.not_not, not_true_eq_false, false_implies, not_false_eq_true, true_implies, and_true, true_and, if_true, if_false, Bool.false_eq_true, q_229, a_nw]
    exact ⟨fun g => ⟨Or.inl rfl, f1 g⟩, fun g => ⟨Or.inr rfl, f2 g⟩⟩
theorem r155 (hm : RM M) (hl : len ≤ 60) (ht : ∀ i, i < len → I 232 i = tx i) (htr : TRD tx p q) (hq : q + 4 ≤ len) (hinv : INV S k T N tm) (hj : RJ J S k) (hb : T < 999970000) (k1 : ∀ J', RJ J' (td S (trd tx p q)).2 k → ¬ ((-1000000005) ≤ (td S (trd tx p q)).1 ∧ (td S (trd tx p q)).1 ≤ (-1000000001)) → Q (some (.int (nI 1))) (LK, sr I J', M)) (k2 : ∀ J', RJ J' (td S (trd tx p q)).2 k → (-1000000005) ≤ (td S (trd tx p q)).1 ∧ (td S (trd tx p q)).1 ≤ (-1000000001) → Q (some (.int (nI 0))) (LK, sr I J', M)) : Cl (d + 10) 155 [.ref 229, .int (nI p)] (LK, sr I J, M) Q := by
  have hpq := htr.q
  obtain ⟨h1, h2, h3, h4, h5⟩ := id htr
  have et : ∀ j, j < len → sr I J 232 j = tx j := fun j hj => by rw [sr_o (by omega)]; exact ht j hj
  have n2 : (tx (p + 2) = nI 109) = False := eq_false (fun h => n_109 h ⟨Int32.le_trans (by decide) h3.1, h3.2⟩)
  simp (disch := omega) only [E155, K155_0, K155_1, ai_c1i, ai_c1n, ai_c1r, e_al0, e_an0, e_b0, e_b1, e_b2, e_c0, e_c1, e_c5, e_const, e_cv5, e_getR, e_goto, e_iald, e_ii2, e_il1, e_il2, e_il3, e_il4, e_il5, e_il6, e_is2, e_is3, e_is4, e_is5, e_is6, e_retb, Option.toList_some, Option.toList_none, List.cons_append, List.nil_append, List.append_nil, List.length_cons, List.length_nil, Nat.reduceAdd, Nat.reduceLeDiff, Nat.zero_le, true_and, and_true, and_self, true_implies, forall_const, ai_rvs, ai_rv0, ai_b_0, Classical.not_not, not_true_eq_false, false_implies, not_false_eq_true, true_implies, and_true, true_and, if_true, if_false, Bool.false_eq_true, q_229, a_nw, nIa]
  rw [H155_6]
  simp (disch := omega) only [K155_0, K155_1, ai_c1i, ai_c1n, ai_c1r, e_al0, e_an0, e_b0, e_b1, e_b2, e_c0, e_c1, e_c5, e_const, e_cv5, e_getR, e_goto, e_iald, e_ii2, e_il1, e_il2, e_il3, e_il4, e_il5, e_il6, e_is2, e_is3, e_is4, e_is5, e_is6, e_retb, Option.toList_some, Option.toList_none, List.cons_append, List.nil_append, List.append_nil, List.length_cons, List.length_nil, Nat.reduceAdd, Nat.reduceLeDiff, Nat.zero_le, true_and, and_true, and_self, true_implies, forall_const, ai_rvs, ai_rv0, ai_b_0, Classical.not_not, not_true_eq_false, false_implies, not_false_eq_true, true_implies, and_true, true_and, if_true, if_false, Bool.false_eq_true, q_229, a_nw, hm.2.2, a_rt, nIc, nIa, et, n2, i_x0]
  rcases h4 with rfl | ⟨rfl, h4⟩
  · exact r155_x hm hl ht htr hq (by unfold tcn; rw [if_pos rfl]) hinv hj hb k1 k2
  · have n3 : (tx (p + 3) = nI 109) = False := eq_false (fun h => n_109 h h4)
    rw [H155_6]
    simp (disch := omega) only [K155_0, K155_1, ai_c1i, ai_c1n, ai_c1r, e_al0, e_an0, e_b0, e_b1, e_b2, e_c0, e_c1, e_c5, e_const, e_cv5, e_getR, e_goto, e_iald, e_ii2, e_il1, e_il2, e_il3, e_il4, e_il5, e_il6, e_is2, e_is3, e_is4, e_is5, e_is6, e_retb, Option.toList_some, Option.toList_none, List.cons_append, List.nil_append, List.append_nil, List.length_cons, List.length_nil, Nat.reduceAdd, Nat.reduceLeDiff, Nat.zero_le, true_and, and_true, and_self, true_implies, forall_const, ai_rvs, ai_rv0, ai_b_0, Classical.not_not, not_true_eq_false, false_implies, not_false_eq_true, true_implies, and_true, true_and, if_true, if_false, Bool.false_eq_true, q_229, a_nw, hm.2.2, a_rt, nIc, nIa, et, n3, i_x1]
    exact r155_x hm hl ht htr hq (by unfold tcn; rw [if_neg (by omega)]) hinv hj hb k1 k2
end RDOES2
