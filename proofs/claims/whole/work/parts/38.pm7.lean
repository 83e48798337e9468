/-! searches -/
theorem nI_nn {x : Int32} (h : nI 0 ≤ x) : ∃ j, j < 2147483648 ∧ x = nI j := by
  have h1 := Int32.le_iff_toInt_le.mp h
  rw [show (nI 0).toInt = 0 by decide] at h1
  have h2 := Int32.toInt_lt x
  refine ⟨x.toInt.toNat, by omega, ?_⟩
  apply Int32.toInt_inj.mp
  rw [nI_toInt (by omega)]
  omega
section PM7
variable {S : St} {C : (Nat → Nat → Int32) × (Nat → Nat → Nat)} {I : Nat → Nat → Int32} {M : Nat → Nat → Nat} {m n o k T : Nat} {d : Nat} {Q : Option Value → ai_H → Prop}
theorem c78_l {u : Int32} (hm : m < 6) (hn : S.1 (14 + 43 * m) = nI n) (hn4 : n ≤ 4) (ho : o < 4) {a1 : Value} (kk : ∀ I', EX 1 S C I' M → Q (some (.int (sf (qs S.1 m) n (S.1 (13 + 43 * m)) o u 401 0))) (LK, I', M)) :
    ∀ r e, r + e = 401 → sf (qs S.1 m) n (S.1 (13 + 43 * m)) o u r e = sf (qs S.1 m) n (S.1 (13 + 43 * m)) o u 401 0 → ∀ I, EX 1 S C I M → Ev (d + 3) X0 78 36 [.ref 0, a1, .int (nI o), .int u, .ref (4 + 10 * m), .int (nI e)] [] (LK, I, M) Q
  | 0, e, he, hs, I, h => by
    have k3 := kk I h
    rw [← hs, sf] at k3
    rw [H78_36]
    simp (disch := omega) only [K78, ai_c1i, ai_c1n, ai_c1r, e_al0, e_al4, e_an0, e_an4, e_as4, e_az4, e_c2, e_c4, e_const, e_cs3, e_cv3, e_getR, e_goto, e_ii5, e_il1, e_il2, e_il3, e_il5, e_is5, e_reti, e_xn, e_xr, e_z0, e_z1, Option.toList_some, Option.toList_none, List.cons_append, List.nil_append, List.append_nil, List.length_cons, List.length_nil, Nat.reduceAdd, Nat.reduceLeDiff, Nat.zero_le, true_and, and_true, and_self, true_implies, forall_const, ai_rvs, ai_rv0, ai_b_0, Classical.not_not, q_0, q_1, q_64, q_65, q_82, q_mk, q_od, not_true_eq_false, false_implies, not_false_eq_true, true_implies, and_true, true_and, if_true, if_false, Bool.false_eq_true, nIlt]
    exact ⟨fun _ => k3, fun g => absurd (by omega) g⟩
  | r + 1, e, he, hs, I, h => by
    have ih := c78_l hm hn hn4 ho (a1 := a1) kk r (e + 1) (by omega)
    rw [H78_36]
    simp (disch := omega) only [K78, ai_c1i, ai_c1n, ai_c1r, e_al0, e_al4, e_an0, e_an4, e_as4, e_az4, e_c2, e_c4, e_const, e_cs3, e_cv3, e_getR, e_goto, e_ii5, e_il1, e_il2, e_il3, e_il5, e_is5, e_reti, e_xn, e_xr, e_z0, e_z1, Option.toList_some, Option.toList_none, List.cons_append, List.nil_append, List.append_nil, List.length_cons, List.length_nil, Nat.reduceAdd, Nat.reduceLeDiff, Nat.zero_le, true_and, and_true, and_self, true_implies, forall_const, ai_rvs, ai_rv0, ai_b_0, Classical.not_not, q_0, q_1, q_64, q_65, q_82, q_mk, q_od, not_true_eq_false, false_implies, not_false_eq_true, true_implies, and_true, true_and, if_true, if_false, Bool.false_eq_true, nIlt]
    refine ⟨fun g => absurd g (by omega), fun _ => ?_⟩
    rw [sf] at hs
    by_cases g1 : nI 0 ≤ qs S.1 m o + nI e ∧ qs S.1 m o + nI e ≤ nI 400
    · rw [if_pos g1] at hs
      simp (disch := omega) only [K78, ai_c1i, ai_c1n, ai_c1r, e_al0, e_al4, e_an0, e_an4, e_as4, e_az4, e_c2, e_c4, e_const, e_cs3, e_cv3, e_getR, e_goto, e_ii5, e_il1, e_il2, e_il3, e_il5, e_is5, e_reti, e_xn, e_xr, e_z0, e_z1, Option.toList_some, Option.toList_none, List.cons_append, List.nil_append, List.append_nil, List.length_cons, List.length_nil, Nat.reduceAdd, Nat.reduceLeDiff, Nat.zero_le, true_and, and_true, and_self, true_implies, forall_const, ai_rvs, ai_rv0, ai_b_0, Classical.not_not, q_0, q_1, q_64, q_65, q_82, q_mk, q_od, not_true_eq_false, false_implies, not_false_eq_true, true_implies, and_true, true_and, if_true, if_false, Bool.false_eq_true, c47 h, g1]
      refine c46 h hm hn hn4 ho fun I1 h1 => ?_
      by_cases g2 : u ≤ m_pr (ug (qs S.1 m) o (qs S.1 m o + nI e)) n (S.1 (13 + 43 * m)) o
      · rw [if_pos g2] at hs
        have k3 := kk I1 h1
        rw [← hs] at k3
        simp (disch := omega) only [K78, ai_c1i, ai_c1n, ai_c1r, e_al0, e_al4, e_an0, e_an4, e_as4, e_az4, e_c2, e_c4, e_const, e_cs3, e_cv3, e_getR, e_goto, e_ii5, e_il1, e_il2, e_il3, e_il5, e_is5, e_reti, e_xn, e_xr, e_z0, e_z1, Option.toList_some, Option.toList_none, List.cons_append, List.nil_append, List.append_nil, List.length_cons, List.length_nil, Nat.reduceAdd, Nat.reduceLeDiff, Nat.zero_le, true_and, and_true, and_self, true_implies, forall_const, ai_rvs, ai_rv0, ai_b_0, Classical.not_not, q_0, q_1, q_64, q_65, q_82, q_mk, q_od, not_true_eq_false, false_implies, not_false_eq_true, true_implies, and_true, true_and, if_true, if_false, Bool.false_eq_true, nIa, i_nlt.mpr g2]
        exact k3
      · rw [if_neg g2] at hs
        simp (disch := omega) only [K78, ai_c1i, ai_c1n, ai_c1r, e_al0, e_al4, e_an0, e_an4, e_as4, e_az4, e_c2, e_c4, e_const, e_cs3, e_cv3, e_getR, e_goto, e_ii5, e_il1, e_il2, e_il3, e_il5, e_is5, e_reti, e_xn, e_xr, e_z0, e_z1, Option.toList_some, Option.toList_none, List.cons_append, List.nil_append, List.append_nil, List.length_cons, List.length_nil, Nat.reduceAdd, Nat.reduceLeDiff, Nat.zero_le, true_and, and_true, and_self, true_implies, forall_const, ai_rvs, ai_rv0, ai_b_0, Classical.not_not, q_0, q_1, q_64, q_65, q_82, q_mk, q_od, not_true_eq_false, false_implies, not_false_eq_true, true_implies, and_true, true_and, if_true, if_false, Bool.false_eq_true, nIa, i_nle.mp g2]
        exact ih hs I1 h1
    · rw [if_neg g1] at hs
      have k3 := kk I h
      rw [← hs] at k3
      simp (disch := omega) only [K78, ai_c1i, ai_c1n, ai_c1r, e_al0, e_al4, e_an0, e_an4, e_as4, e_az4, e_c2, e_c4, e_const, e_cs3, e_cv3, e_getR, e_goto, e_ii5, e_il1, e_il2, e_il3, e_il5, e_is5, e_reti, e_xn, e_xr, e_z0, e_z1, Option.toList_some, Option.toList_none, List.cons_append, List.nil_append, List.append_nil, List.length_cons, List.length_nil, Nat.reduceAdd, Nat.reduceLeDiff, Nat.zero_le, true_and, and_true, and_self, true_implies, forall_const, ai_rvs, ai_rv0, ai_b_0, Classical.not_not, q_0, q_1, q_64, q_65, q_82, q_mk, q_od, not_true_eq_false, false_implies, not_false_eq_true, true_implies, and_true, true_and, if_true, if_false, Bool.false_eq_true, c47 h, g1]
      exact k3
theorem c78 (h : EX 1 S C I M) (hp : PC C) (hv : VB S.1 k) {x y u : Int32} (kk : ∀ I', EX 1 S C I' M → Q (some (.int (p_sf S x y u))) (LK, I', M)) : Cl (d + 3) 78 [.ref 0, .int x, .int y, .int u] (LK, I, M) Q := by
  have hk6 := hv.2.1
  unfold p_sf at kk
  simp (disch := omega) only [E78, K78, ai_c1i, ai_c1n, ai_c1r, e_al0, e_al4, e_an0, e_an4, e_as4, e_az4, e_c2, e_c4, e_const, e_cs3, e_cv3, e_getR, e_goto, e_ii5, e_il1, e_il2, e_il3, e_il5, e_is5, e_reti, e_xn, e_xr, e_z0, e_z1, Option.toList_some, Option.toList_none, List.cons_append, List.nil_append, List.append_nil, List.length_cons, List.length_nil, Nat.reduceAdd, Nat.reduceLeDiff, Nat.zero_le, true_and, and_true, and_self, true_implies, forall_const, ai_rvs, ai_rv0, ai_b_0, Classical.not_not, q_0, q_1, q_64, q_65, q_82, q_mk, q_od, not_true_eq_false, false_implies, not_false_eq_true, true_implies, and_true, true_and, if_true, if_false, Bool.false_eq_true, m_00 h hp]
  refine c10m h hv (fun m n o hm ex hn n2 n4 ho ey em => ?_) (fun em => ?_)
  · rw [em] at kk
    subst ex ey
    dsimp only at kk
    rw [nN_of hn n4] at kk
    by_cases g1 : nI 1 ≤ u ∧ u ≤ nI 2880
    · rw [if_pos g1] at kk
      simp (disch := omega) only [K78, ai_c1i, ai_c1n, ai_c1r, e_al0, e_al4, e_an0, e_an4, e_as4, e_az4, e_c2, e_c4, e_const, e_cs3, e_cv3, e_getR, e_goto, e_ii5, e_il1, e_il2, e_il3, e_il5, e_is5, e_reti, e_xn, e_xr, e_z0, e_z1, Option.toList_some, Option.toList_none, List.cons_append, List.nil_append, List.append_nil, List.length_cons, List.length_nil, Nat.reduceAdd, Nat.reduceLeDiff, Nat.zero_le, true_and, and_true, and_self, true_implies, forall_const, ai_rvs, ai_rv0, ai_b_0, Classical.not_not, q_0, q_1, q_64, q_65, q_82, q_mk, q_od, not_true_eq_false, false_implies, not_false_eq_true, true_implies, and_true, true_and, if_true, if_false, Bool.false_eq_true, c95, g1]
      exact c78_l (by omega) hn n4 (by omega) kk 401 0 (by omega) rfl I h
    · rw [if_neg g1] at kk
      simp (disch := omega) only [K78, ai_c1i, ai_c1n, ai_c1r, e_al0, e_al4, e_an0, e_an4, e_as4, e_az4, e_c2, e_c4, e_const, e_cs3, e_cv3, e_getR, e_goto, e_ii5, e_il1, e_il2, e_il3, e_il5, e_is5, e_reti, e_xn, e_xr, e_z0, e_z1, Option.toList_some, Option.toList_none, List.cons_append, List.nil_append, List.append_nil, List.length_cons, List.length_nil, Nat.reduceAdd, Nat.reduceLeDiff, Nat.zero_le, true_and, and_true, and_self, true_implies, forall_const, ai_rvs, ai_rv0, ai_b_0, Classical.not_not, q_0, q_1, q_64, q_65, q_82, q_mk, q_od, not_true_eq_false, false_implies, not_false_eq_true, true_implies, and_true, true_and, if_true, if_false, Bool.false_eq_true, c95, g1]
      exact kk I h
  · rw [em] at kk
    simp (disch := omega) only [K78, ai_c1i, ai_c1n, ai_c1r, e_al0, e_al4, e_an0, e_an4, e_as4, e_az4, e_c2, e_c4, e_const, e_cs3, e_cv3, e_getR, e_goto, e_ii5, e_il1, e_il2, e_il3, e_il5, e_is5, e_reti, e_xn, e_xr, e_z0, e_z1, Option.toList_some, Option.toList_none, List.cons_append, List.nil_append, List.append_nil, List.length_cons, List.length_nil, Nat.reduceAdd, Nat.reduceLeDiff, Nat.zero_le, true_and, and_true, and_self, true_implies, forall_const, ai_rvs, ai_rv0, ai_b_0, Classical.not_not, q_0, q_1, q_64, q_65, q_82, q_mk, q_od, not_true_eq_false, false_implies, not_false_eq_true, true_implies, and_true, true_and, if_true, if_false, Bool.false_eq_true]
    exact kk I h
theorem c84_l {bal : Int32} (hm : m < 6) (hn : S.1 (14 + 43 * m) = nI n) (hn4 : n ≤ 4) (ho : o < 4) {a1 a2 : Value} (kk : ∀ I', EX 1 S C I' M → Q (some (.int (af S.1 m o bal 50 1))) (LK, I', M)) :
    ∀ r i, r + i = 51 → 1 ≤ i → af S.1 m o bal r i = af S.1 m o bal 50 1 → ∀ I, EX 1 S C I M → Ev (d + 3) X0 84 40 [.ref 0, a1, a2, .int (nI o), .ref (4 + 10 * m), .int bal, .int (nI i)] [] (LK, I, M) Q
  | 0, i, hi, h1, hs, I, h => by
    have k3 := kk I h
    rw [← hs, af] at k3
    rw [H84_40]
    simp (disch := omega) only [K84, ai_c1i, ai_c1n, ai_c1r, e_al0, e_al4, e_an0, e_an4, e_as4, e_az4, e_b1, e_c4, e_c5, e_const, e_cs1, e_cv3, e_getR, e_goto, e_iald, e_ii6, e_il1, e_il2, e_il3, e_il5, e_il6, e_is5, e_is6, e_nn, e_nr, e_reti, e_z0, e_z1, Option.toList_some, Option.toList_none, List.cons_append, List.nil_append, List.append_nil, List.length_cons, List.length_nil, Nat.reduceAdd, Nat.reduceLeDiff, Nat.zero_le, true_and, and_true, and_self, true_implies, forall_const, ai_rvs, ai_rv0, ai_b_0, Classical.not_not, q_0, q_1, q_64, q_65, q_82, q_mk, q_od, not_true_eq_false, false_implies, not_false_eq_true, true_implies, and_true, true_and, if_true, if_false, Bool.false_eq_true, nIlt]
    exact ⟨fun _ => k3, fun g => absurd (by omega) g⟩
  | r + 1, i, hi, h1, hs, I, h => by
    have ih := c84_l hm hn hn4 ho (a1 := a1) (a2 := a2) kk r (i + 1) (by omega) (by omega)
    have em : nI i - nI 1 = nI (i - 1) := pk_sub h1
    rw [H84_40]
    simp (disch := omega) only [K84, ai_c1i, ai_c1n, ai_c1r, e_al0, e_al4, e_an0, e_an4, e_as4, e_az4, e_b1, e_c4, e_c5, e_const, e_cs1, e_cv3, e_getR, e_goto, e_iald, e_ii6, e_il1, e_il2, e_il3, e_il5, e_il6, e_is5, e_is6, e_nn, e_nr, e_reti, e_z0, e_z1, Option.toList_some, Option.toList_none, List.cons_append, List.nil_append, List.append_nil, List.length_cons, List.length_nil, Nat.reduceAdd, Nat.reduceLeDiff, Nat.zero_le, true_and, and_true, and_self, true_implies, forall_const, ai_rvs, ai_rv0, ai_b_0, Classical.not_not, q_0, q_1, q_64, q_65, q_82, q_mk, q_od, not_true_eq_false, false_implies, not_false_eq_true, true_implies, and_true, true_and, if_true, if_false, Bool.false_eq_true, nIlt]
    refine ⟨fun g => absurd g (by omega), fun _ => ?_⟩
    rw [af] at hs
    by_cases g1 : nI 0 ≤ qs S.1 m o + nI i ∧ qs S.1 m o + nI i ≤ nI 400
    · rw [if_pos g1] at hs
      simp (disch := omega) only [K84, ai_c1i, ai_c1n, ai_c1r, e_al0, e_al4, e_an0, e_an4, e_as4, e_az4, e_b1, e_c4, e_c5, e_const, e_cs1, e_cv3, e_getR, e_goto, e_iald, e_ii6, e_il1, e_il2, e_il3, e_il5, e_il6, e_is5, e_is6, e_nn, e_nr, e_reti, e_z0, e_z1, Option.toList_some, Option.toList_none, List.cons_append, List.nil_append, List.append_nil, List.length_cons, List.length_nil, Nat.reduceAdd, Nat.reduceLeDiff, Nat.zero_le, true_and, and_true, and_self, true_implies, forall_const, ai_rvs, ai_rv0, ai_b_0, Classical.not_not, q_0, q_1, q_64, q_65, q_82, q_mk, q_od, not_true_eq_false, false_implies, not_false_eq_true, true_implies, and_true, true_and, if_true, if_false, Bool.false_eq_true, c47 h, g1]
      refine c43 h hm hn hn4 ho fun I1 h1 => ?_
      have e0 : m_cost (qs S.1 m) n (S.1 (13 + 43 * m)) o (nI i) = m_due S.1 m o (nI i) := by rw [m_due, nN_of hn hn4]
      rw [e0]
      by_cases g2 : bal < m_due S.1 m o (nI i)
      · rw [if_pos g2] at hs
        have k3 := kk I1 h1
        rw [← hs] at k3
        simp (disch := omega) only [K84, ai_c1i, ai_c1n, ai_c1r, e_al0, e_al4, e_an0, e_an4, e_as4, e_az4, e_b1, e_c4, e_c5, e_const, e_cs1, e_cv3, e_getR, e_goto, e_iald, e_ii6, e_il1, e_il2, e_il3, e_il5, e_il6, e_is5, e_is6, e_nn, e_nr, e_reti, e_z0, e_z1, Option.toList_some, Option.toList_none, List.cons_append, List.nil_append, List.append_nil, List.length_cons, List.length_nil, Nat.reduceAdd, Nat.reduceLeDiff, Nat.zero_le, true_and, and_true, and_self, true_implies, forall_const, ai_rvs, ai_rv0, ai_b_0, Classical.not_not, q_0, q_1, q_64, q_65, q_82, q_mk, q_od, not_true_eq_false, false_implies, not_false_eq_true, true_implies, and_true, true_and, if_true, if_false, Bool.false_eq_true, nIa, i_nle.mpr g2, em]
        exact k3
      · rw [if_neg g2] at hs
        simp (disch := omega) only [K84, ai_c1i, ai_c1n, ai_c1r, e_al0, e_al4, e_an0, e_an4, e_as4, e_az4, e_b1, e_c4, e_c5, e_const, e_cs1, e_cv3, e_getR, e_goto, e_iald, e_ii6, e_il1, e_il2, e_il3, e_il5, e_il6, e_is5, e_is6, e_nn, e_nr, e_reti, e_z0, e_z1, Option.toList_some, Option.toList_none, List.cons_append, List.nil_append, List.append_nil, List.length_cons, List.length_nil, Nat.reduceAdd, Nat.reduceLeDiff, Nat.zero_le, true_and, and_true, and_self, true_implies, forall_const, ai_rvs, ai_rv0, ai_b_0, Classical.not_not, q_0, q_1, q_64, q_65, q_82, q_mk, q_od, not_true_eq_false, false_implies, not_false_eq_true, true_implies, and_true, true_and, if_true, if_false, Bool.false_eq_true, nIa, i_nlt.mp g2]
        exact ih hs I1 h1
    · rw [if_neg g1] at hs
      have k3 := kk I h
      rw [← hs] at k3
      simp (disch := omega) only [K84, ai_c1i, ai_c1n, ai_c1r, e_al0, e_al4, e_an0, e_an4, e_as4, e_az4, e_b1, e_c4, e_c5, e_const, e_cs1, e_cv3, e_getR, e_goto, e_iald, e_ii6, e_il1, e_il2, e_il3, e_il5, e_il6, e_is5, e_is6, e_nn, e_nr, e_reti, e_z0, e_z1, Option.toList_some, Option.toList_none, List.cons_append, List.nil_append, List.append_nil, List.length_cons, List.length_nil, Nat.reduceAdd, Nat.reduceLeDiff, Nat.zero_le, true_and, and_true, and_self, true_implies, forall_const, ai_rvs, ai_rv0, ai_b_0, Classical.not_not, q_0, q_1, q_64, q_65, q_82, q_mk, q_od, not_true_eq_false, false_implies, not_false_eq_true, true_implies, and_true, true_and, if_true, if_false, Bool.false_eq_true, c47 h, g1, em]
      exact k3
theorem c84 (h : EX 1 S C I M) (hp : PC C) (hv : VB S.1 k) {t x y : Int32} (kk : ∀ I', EX 1 S C I' M → Q (some (.int (p_aff S t x y))) (LK, I', M)) : Cl (d + 3) 84 [.ref 0, .int t, .int x, .int y] (LK, I, M) Q := by
  have hk6 := hv.2.1
  unfold p_aff at kk
  simp (disch := omega) only [E84, K84, ai_c1i, ai_c1n, ai_c1r, e_al0, e_al4, e_an0, e_an4, e_as4, e_az4, e_b1, e_c4, e_c5, e_const, e_cs1, e_cv3, e_getR, e_goto, e_iald, e_ii6, e_il1, e_il2, e_il3, e_il5, e_il6, e_is5, e_is6, e_nn, e_nr, e_reti, e_z0, e_z1, Option.toList_some, Option.toList_none, List.cons_append, List.nil_append, List.append_nil, List.length_cons, List.length_nil, Nat.reduceAdd, Nat.reduceLeDiff, Nat.zero_le, true_and, and_true, and_self, true_implies, forall_const, ai_rvs, ai_rv0, ai_b_0, Classical.not_not, q_0, q_1, q_64, q_65, q_82, q_mk, q_od, not_true_eq_false, false_implies, not_false_eq_true, true_implies, and_true, true_and, if_true, if_false, Bool.false_eq_true, m_00 h hp]
  refine c10m h hv (fun m n o hm ex hn n2 n4 ho ey em => ?_) (fun em => ?_)
  · rw [em] at kk
    subst ex ey
    dsimp only at kk
    by_cases g1 : nI 0 ≤ t ∧ t ≤ nI 5
    · rw [if_pos g1] at kk
      obtain ⟨t, ht, rfl⟩ := tr_of g1
      rw [nIc (by omega)] at kk
      simp (disch := omega) only [K84, ai_c1i, ai_c1n, ai_c1r, e_al0, e_al4, e_an0, e_an4, e_as4, e_az4, e_b1, e_c4, e_c5, e_const, e_cs1, e_cv3, e_getR, e_goto, e_iald, e_ii6, e_il1, e_il2, e_il3, e_il5, e_il6, e_is5, e_is6, e_nn, e_nr, e_reti, e_z0, e_z1, Option.toList_some, Option.toList_none, List.cons_append, List.nil_append, List.append_nil, List.length_cons, List.length_nil, Nat.reduceAdd, Nat.reduceLeDiff, Nat.zero_le, true_and, and_true, and_self, true_implies, forall_const, ai_rvs, ai_rv0, ai_b_0, Classical.not_not, q_0, q_1, q_64, q_65, q_82, q_mk, q_od, not_true_eq_false, false_implies, not_false_eq_true, true_implies, and_true, true_and, if_true, if_false, Bool.false_eq_true, c92, g1, m_00 h hp, m_10 h, a_bal, nIc, rd_bal h]
      exact c84_l (by omega) hn n4 (by omega) kk 50 1 (by omega) (by omega) rfl I h
    · rw [if_neg g1] at kk
      simp (disch := omega) only [K84, ai_c1i, ai_c1n, ai_c1r, e_al0, e_al4, e_an0, e_an4, e_as4, e_az4, e_b1, e_c4, e_c5, e_const, e_cs1, e_cv3, e_getR, e_goto, e_iald, e_ii6, e_il1, e_il2, e_il3, e_il5, e_il6, e_is5, e_is6, e_nn, e_nr, e_reti, e_z0, e_z1, Option.toList_some, Option.toList_none, List.cons_append, List.nil_append, List.append_nil, List.length_cons, List.length_nil, Nat.reduceAdd, Nat.reduceLeDiff, Nat.zero_le, true_and, and_true, and_self, true_implies, forall_const, ai_rvs, ai_rv0, ai_b_0, Classical.not_not, q_0, q_1, q_64, q_65, q_82, q_mk, q_od, not_true_eq_false, false_implies, not_false_eq_true, true_implies, and_true, true_and, if_true, if_false, Bool.false_eq_true, c92, g1]
      exact kk I h
  · rw [em] at kk
    simp (disch := omega) only [K84, ai_c1i, ai_c1n, ai_c1r, e_al0, e_al4, e_an0, e_an4, e_as4, e_az4, e_b1, e_c4, e_c5, e_const, e_cs1, e_cv3, e_getR, e_goto, e_iald, e_ii6, e_il1, e_il2, e_il3, e_il5, e_il6, e_is5, e_is6, e_nn, e_nr, e_reti, e_z0, e_z1, Option.toList_some, Option.toList_none, List.cons_append, List.nil_append, List.append_nil, List.length_cons, List.length_nil, Nat.reduceAdd, Nat.reduceLeDiff, Nat.zero_le, true_and, and_true, and_self, true_implies, forall_const, ai_rvs, ai_rv0, ai_b_0, Classical.not_not, q_0, q_1, q_64, q_65, q_82, q_mk, q_od, not_true_eq_false, false_implies, not_false_eq_true, true_implies, and_true, true_and, if_true, if_false, Bool.false_eq_true]
    exact kk I h
theorem c79_l {l : Int32} (h : EX 1 S C I M) (hp : PC C) (hv : VB S.1 k) {a1 : Value} (x0 : Int32) (kk : Q (some (.int (vr S.1 l 6 0 x0))) (LK, I, M)) :
    ∀ r p x y, r + p = 6 → vr S.1 l r p x = vr S.1 l 6 0 x0 → Ev (d + 1) X0 79 5 [.ref 0, a1, .int l, .int x, .int (nI p), y] [] (LK, I, M) Q
  | 0, p, x, y, hpp, hs => by
    rw [← hs, vr] at kk
    obtain rfl : p = 6 := by omega
    rw [H79_5]
    simp (disch := omega) only [K79, ai_c1i, ai_c1n, ai_c1r, e_al0, e_al5, e_an0, e_an5, e_as5, e_az5, e_c0, e_c1, e_c3, e_const, e_cv2, e_getI, e_getR, e_goto, e_ii4, e_il1, e_il2, e_il3, e_il4, e_is3, e_is4, e_nn, e_nr, e_reti, Option.toList_some, Option.toList_none, List.cons_append, List.nil_append, List.append_nil, List.length_cons, List.length_nil, Nat.reduceAdd, Nat.reduceLeDiff, Nat.zero_le, true_and, and_true, and_self, true_implies, forall_const, ai_rvs, ai_rv0, ai_b_0, Classical.not_not, q_0, q_1, q_64, q_65, q_82, q_mk, q_od, not_true_eq_false, false_implies, not_false_eq_true, true_implies, and_true, true_and, if_true, if_false, Bool.false_eq_true, Int32.le_refl]
    exact kk
  | r + 1, p, x, y, hpp, hs => by
    have hk6 := hv.2.1
    have ih := c79_l h hp hv (a1 := a1) x0 kk r (p + 1)
    rw [← hs] at kk
    rw [vr] at hs kk
    rw [H79_5]
    simp (disch := omega) only [K79, ai_c1i, ai_c1n, ai_c1r, e_al0, e_al5, e_an0, e_an5, e_as5, e_az5, e_c0, e_c1, e_c3, e_const, e_cv2, e_getI, e_getR, e_goto, e_ii4, e_il1, e_il2, e_il3, e_il4, e_is3, e_is4, e_nn, e_nr, e_reti, Option.toList_some, Option.toList_none, List.cons_append, List.nil_append, List.append_nil, List.length_cons, List.length_nil, Nat.reduceAdd, Nat.reduceLeDiff, Nat.zero_le, true_and, and_true, and_self, true_implies, forall_const, ai_rvs, ai_rv0, ai_b_0, Classical.not_not, q_0, q_1, q_64, q_65, q_82, q_mk, q_od, not_true_eq_false, false_implies, not_false_eq_true, true_implies, and_true, true_and, if_true, if_false, Bool.false_eq_true, nIle, m_00 h hp]
    refine ⟨fun g => absurd g (by omega), fun _ => ?_⟩
    refine c9m h hv (fun m hm ex em => ?_) (fun em => ?_)
    · rw [em] at kk hs
      dsimp only at kk hs
      by_cases g1 : S.1 (12 + 43 * m) = nI 3
      · rw [if_pos g1] at kk hs
        by_cases g2 : nI p = l
        · rw [if_pos g2] at kk hs
          simp (disch := omega) only [K79, ai_c1i, ai_c1n, ai_c1r, e_al0, e_al5, e_an0, e_an5, e_as5, e_az5, e_c0, e_c1, e_c3, e_const, e_cv2, e_getI, e_getR, e_goto, e_ii4, e_il1, e_il2, e_il3, e_il4, e_is3, e_is4, e_nn, e_nr, e_reti, Option.toList_some, Option.toList_none, List.cons_append, List.nil_append, List.append_nil, List.length_cons, List.length_nil, Nat.reduceAdd, Nat.reduceLeDiff, Nat.zero_le, true_and, and_true, and_self, true_implies, forall_const, ai_rvs, ai_rv0, ai_b_0, Classical.not_not, q_0, q_1, q_64, q_65, q_82, q_mk, q_od, not_true_eq_false, false_implies, not_false_eq_true, true_implies, and_true, true_and, if_true, if_false, Bool.false_eq_true, rd_st h, p_0, g1, g2, rd_rs h, p_8]
          exact kk
        · rw [if_neg g2] at kk hs
          by_cases g3 : S.1 (20 + 43 * m) = nI 3
          · rw [if_pos g3] at kk hs
            simp (disch := omega) only [K79, ai_c1i, ai_c1n, ai_c1r, e_al0, e_al5, e_an0, e_an5, e_as5, e_az5, e_c0, e_c1, e_c3, e_const, e_cv2, e_getI, e_getR, e_goto, e_ii4, e_il1, e_il2, e_il3, e_il4, e_is3, e_is4, e_nn, e_nr, e_reti, Option.toList_some, Option.toList_none, List.cons_append, List.nil_append, List.append_nil, List.length_cons, List.length_nil, Nat.reduceAdd, Nat.reduceLeDiff, Nat.zero_le, true_and, and_true, and_self, true_implies, forall_const, ai_rvs, ai_rv0, ai_b_0, Classical.not_not, q_0, q_1, q_64, q_65, q_82, q_mk, q_od, not_true_eq_false, false_implies, not_false_eq_true, true_implies, and_true, true_and, if_true, if_false, Bool.false_eq_true, rd_st h, p_0, g1, g2, rd_rs h, p_8, g3, rd_cm h, p_4, nIa]
            exact ih _ _ (by omega) hs
          · rw [if_neg g3] at kk hs
            simp (disch := omega) only [K79, ai_c1i, ai_c1n, ai_c1r, e_al0, e_al5, e_an0, e_an5, e_as5, e_az5, e_c0, e_c1, e_c3, e_const, e_cv2, e_getI, e_getR, e_goto, e_ii4, e_il1, e_il2, e_il3, e_il4, e_is3, e_is4, e_nn, e_nr, e_reti, Option.toList_some, Option.toList_none, List.cons_append, List.nil_append, List.append_nil, List.length_cons, List.length_nil, Nat.reduceAdd, Nat.reduceLeDiff, Nat.zero_le, true_and, and_true, and_self, true_implies, forall_const, ai_rvs, ai_rv0, ai_b_0, Classical.not_not, q_0, q_1, q_64, q_65, q_82, q_mk, q_od, not_true_eq_false, false_implies, not_false_eq_true, true_implies, and_true, true_and, if_true, if_false, Bool.false_eq_true, rd_st h, p_0, g1, g2, rd_rs h, p_8, g3]
            exact kk
      · rw [if_neg g1] at kk hs
        simp (disch := omega) only [K79, ai_c1i, ai_c1n, ai_c1r, e_al0, e_al5, e_an0, e_an5, e_as5, e_az5, e_c0, e_c1, e_c3, e_const, e_cv2, e_getI, e_getR, e_goto, e_ii4, e_il1, e_il2, e_il3, e_il4, e_is3, e_is4, e_nn, e_nr, e_reti, Option.toList_some, Option.toList_none, List.cons_append, List.nil_append, List.append_nil, List.length_cons, List.length_nil, Nat.reduceAdd, Nat.reduceLeDiff, Nat.zero_le, true_and, and_true, and_self, true_implies, forall_const, ai_rvs, ai_rv0, ai_b_0, Classical.not_not, q_0, q_1, q_64, q_65, q_82, q_mk, q_od, not_true_eq_false, false_implies, not_false_eq_true, true_implies, and_true, true_and, if_true, if_false, Bool.false_eq_true, rd_st h, p_0, g1]
        exact kk
    · rw [em] at kk
      simp (disch := omega) only [K79, ai_c1i, ai_c1n, ai_c1r, e_al0, e_al5, e_an0, e_an5, e_as5, e_az5, e_c0, e_c1, e_c3, e_const, e_cv2, e_getI, e_getR, e_goto, e_ii4, e_il1, e_il2, e_il3, e_il4, e_is3, e_is4, e_nn, e_nr, e_reti, Option.toList_some, Option.toList_none, List.cons_append, List.nil_append, List.append_nil, List.length_cons, List.length_nil, Nat.reduceAdd, Nat.reduceLeDiff, Nat.zero_le, true_and, and_true, and_self, true_implies, forall_const, ai_rvs, ai_rv0, ai_b_0, Classical.not_not, q_0, q_1, q_64, q_65, q_82, q_mk, q_od, not_true_eq_false, false_implies, not_false_eq_true, true_implies, and_true, true_and, if_true, if_false, Bool.false_eq_true]
      exact kk
theorem c79 (h : EX 1 S C I M) (hp : PC C) (hv : VB S.1 k) {x l : Int32} (kk : Q (some (.int (vr S.1 l 6 0 x))) (LK, I, M)) : Cl (d + 1) 79 [.ref 0, .int x, .int l] (LK, I, M) Q := by
  simp (disch := omega) only [E79, K79, ai_c1i, ai_c1n, ai_c1r, e_al0, e_al5, e_an0, e_an5, e_as5, e_az5, e_c0, e_c1, e_c3, e_const, e_cv2, e_getI, e_getR, e_goto, e_ii4, e_il1, e_il2, e_il3, e_il4, e_is3, e_is4, e_nn, e_nr, e_reti, Option.toList_some, Option.toList_none, List.cons_append, List.nil_append, List.append_nil, List.length_cons, List.length_nil, Nat.reduceAdd, Nat.reduceLeDiff, Nat.zero_le, true_and, and_true, and_self, true_implies, forall_const, ai_rvs, ai_rv0, ai_b_0, Classical.not_not, q_0, q_1, q_64, q_65, q_82, q_mk, q_od, not_true_eq_false, false_implies, not_false_eq_true, true_implies, and_true, true_and, if_true, if_false, Bool.false_eq_true]
  exact c79_l h hp hv x kk 6 0 x _ (by omega) rfl
theorem c72_l {x : Int32} {p' : Nat} (hp' : p' < 2147483648) (h : EX 1 S C I M) (hp : PC C) (kk : Q (some (.int (wt_l S.2.1 x p'))) (LK, I, M)) :
    ∀ r i c y, r + i = S.2.1.length → c ≤ i → c ≤ p' → wt_l (S.2.1.drop i) x (p' - c) = wt_l S.2.1 x p' → Ev d X0 72 23 [.ref 0, .int x, .int (nI p'), .int (nI c), .int (nI i), y] [] (LK, I, M) Q
  | 0, i, c, y, hi, hci, hc, hs => by
    obtain ⟨l1, l2, l3⟩ := h.len
    obtain rfl : i = S.2.1.length := by omega
    rw [List.drop_length] at hs
    rw [← hs] at kk
    rw [H72_23]
    simp (disch := omega) only [K72, ai_c1i, ai_c1n, ai_c1r, e_aald, e_al0, e_al5, e_an0, e_an5, e_as5, e_az5, e_c1, e_c3, e_const, e_cv2, e_getI, e_getR, e_goto, e_ii3, e_ii4, e_il1, e_il2, e_il3, e_il4, e_is3, e_is4, e_nn, e_nr, e_reti, e_z3, Option.toList_some, Option.toList_none, List.cons_append, List.nil_append, List.append_nil, List.length_cons, List.length_nil, Nat.reduceAdd, Nat.reduceLeDiff, Nat.zero_le, true_and, and_true, and_self, true_implies, forall_const, ai_rvs, ai_rv0, ai_b_0, Classical.not_not, q_0, q_1, q_64, q_65, q_82, q_mk, q_od, not_true_eq_false, false_implies, not_false_eq_true, true_implies, and_true, true_and, if_true, if_false, Bool.false_eq_true, m_00 h hp, m_12 h, l2, Int32.le_refl]
    exact kk
  | r + 1, i, c, y, hi, hci, hc, hs => by
    obtain ⟨l1, l2, l3⟩ := h.len
    obtain ⟨p, p0, p1, p2, p3⟩ := h.rows
    obtain ⟨o, ho⟩ := get_lt (L := S.2.1) (i := i) (by omega)
    have hpi := p0 i (by omega)
    have e := p3 i o ho
    have ih := c72_l hp' h hp kk r (i + 1)
    have h8 : i < S.2.1.length := by omega
    have hd : S.2.1.drop i = o :: S.2.1.drop (i + 1) := by
      rw [List.drop_eq_getElem_cons h8]
      congr 1
      exact (List.getElem?_eq_some_iff.mp ho).2
    rw [hd] at hs
    unfold wt_l at hs ih
    rw [H72_23]
    simp (disch := omega) only [K72, ai_c1i, ai_c1n, ai_c1r, e_aald, e_al0, e_al5, e_an0, e_an5, e_as5, e_az5, e_c1, e_c3, e_const, e_cv2, e_getI, e_getR, e_goto, e_ii3, e_ii4, e_il1, e_il2, e_il3, e_il4, e_is3, e_is4, e_nn, e_nr, e_reti, e_z3, Option.toList_some, Option.toList_none, List.cons_append, List.nil_append, List.append_nil, List.length_cons, List.length_nil, Nat.reduceAdd, Nat.reduceLeDiff, Nat.zero_le, true_and, and_true, and_self, true_implies, forall_const, ai_rvs, ai_rv0, ai_b_0, Classical.not_not, q_0, q_1, q_64, q_65, q_82, q_mk, q_od, not_true_eq_false, false_implies, not_false_eq_true, true_implies, and_true, true_and, if_true, if_false, Bool.false_eq_true, m_00 h hp, m_12 h, l2, nIle, nIc, m_bo h, a_od, p1, e.2.2.1]
    refine ⟨fun g => absurd g (by omega), fun _ => ?_⟩
    by_cases g1 : o.2.2.1 = x
    · rw [List.filter_cons_of_pos (p := fun o : Od => decide (o.2.2.1 = x)) (by simpa using g1)] at hs
      by_cases g2 : c = p'
      · subst g2
        rw [Nat.sub_self, List.getElem?_cons_zero] at hs
        unfold wt_l at kk
        rw [← hs] at kk
        simp (disch := omega) only [K72, ai_c1i, ai_c1n, ai_c1r, e_aald, e_al0, e_al5, e_an0, e_an5, e_as5, e_az5, e_c1, e_c3, e_const, e_cv2, e_getI, e_getR, e_goto, e_ii3, e_ii4, e_il1, e_il2, e_il3, e_il4, e_is3, e_is4, e_nn, e_nr, e_reti, e_z3, Option.toList_some, Option.toList_none, List.cons_append, List.nil_append, List.append_nil, List.length_cons, List.length_nil, Nat.reduceAdd, Nat.reduceLeDiff, Nat.zero_le, true_and, and_true, and_self, true_implies, forall_const, ai_rvs, ai_rv0, ai_b_0, Classical.not_not, q_0, q_1, q_64, q_65, q_82, q_mk, q_od, not_true_eq_false, false_implies, not_false_eq_true, true_implies, and_true, true_and, if_true, if_false, Bool.false_eq_true, g1, e.1]
        exact kk
      · rw [show p' - c = (p' - (c + 1)) + 1 by omega, List.getElem?_cons_succ] at hs
        simp (disch := omega) only [K72, ai_c1i, ai_c1n, ai_c1r, e_aald, e_al0, e_al5, e_an0, e_an5, e_as5, e_az5, e_c1, e_c3, e_const, e_cv2, e_getI, e_getR, e_goto, e_ii3, e_ii4, e_il1, e_il2, e_il3, e_il4, e_is3, e_is4, e_nn, e_nr, e_reti, e_z3, Option.toList_some, Option.toList_none, List.cons_append, List.nil_append, List.append_nil, List.length_cons, List.length_nil, Nat.reduceAdd, Nat.reduceLeDiff, Nat.zero_le, true_and, and_true, and_self, true_implies, forall_const, ai_rvs, ai_rv0, ai_b_0, Classical.not_not, q_0, q_1, q_64, q_65, q_82, q_mk, q_od, not_true_eq_false, false_implies, not_false_eq_true, true_implies, and_true, true_and, if_true, if_false, Bool.false_eq_true, g1, nIeq, g2, nIa]
        exact ih (c + 1) _ (by omega) (by omega) (by omega) hs
    · rw [List.filter_cons_of_neg (by simpa using g1)] at hs
      simp (disch := omega) only [K72, ai_c1i, ai_c1n, ai_c1r, e_aald, e_al0, e_al5, e_an0, e_an5, e_as5, e_az5, e_c1, e_c3, e_const, e_cv2, e_getI, e_getR, e_goto, e_ii3, e_ii4, e_il1, e_il2, e_il3, e_il4, e_is3, e_is4, e_nn, e_nr, e_reti, e_z3, Option.toList_some, Option.toList_none, List.cons_append, List.nil_append, List.append_nil, List.length_cons, List.length_nil, Nat.reduceAdd, Nat.reduceLeDiff, Nat.zero_le, true_and, and_true, and_self, true_implies, forall_const, ai_rvs, ai_rv0, ai_b_0, Classical.not_not, q_0, q_1, q_64, q_65, q_82, q_mk, q_od, not_true_eq_false, false_implies, not_false_eq_true, true_implies, and_true, true_and, if_true, if_false, Bool.false_eq_true, g1, nIa]
      exact ih c _ (by omega) (by omega) (by omega) hs
theorem c72 (h : EX 1 S C I M) (hp : PC C) (hv : VB S.1 k) {x p : Int32} (kk : Q (some (.int (p_wait S x p))) (LK, I, M)) : Cl (d + 1) 72 [.ref 0, .int x, .int p] (LK, I, M) Q := by
  unfold p_wait at kk
  simp (disch := omega) only [E72, K72, ai_c1i, ai_c1n, ai_c1r, e_aald, e_al0, e_al5, e_an0, e_an5, e_as5, e_az5, e_c1, e_c3, e_const, e_cv2, e_getI, e_getR, e_goto, e_ii3, e_ii4, e_il1, e_il2, e_il3, e_il4, e_is3, e_is4, e_nn, e_nr, e_reti, e_z3, Option.toList_some, Option.toList_none, List.cons_append, List.nil_append, List.append_nil, List.length_cons, List.length_nil, Nat.reduceAdd, Nat.reduceLeDiff, Nat.zero_le, true_and, and_true, and_self, true_implies, forall_const, ai_rvs, ai_rv0, ai_b_0, Classical.not_not, q_0, q_1, q_64, q_65, q_82, q_mk, q_od, not_true_eq_false, false_implies, not_false_eq_true, true_implies, and_true, true_and, if_true, if_false, Bool.false_eq_true, m_00 h hp]
  refine c9m h hv (fun m hm ex em => ?_) (fun em => ?_)
  · rw [em] at kk
    dsimp only at kk
    by_cases g1 : p < nI 0
    · rw [if_pos g1] at kk
      simp (disch := omega) only [K72, ai_c1i, ai_c1n, ai_c1r, e_aald, e_al0, e_al5, e_an0, e_an5, e_as5, e_az5, e_c1, e_c3, e_const, e_cv2, e_getI, e_getR, e_goto, e_ii3, e_ii4, e_il1, e_il2, e_il3, e_il4, e_is3, e_is4, e_nn, e_nr, e_reti, e_z3, Option.toList_some, Option.toList_none, List.cons_append, List.nil_append, List.append_nil, List.length_cons, List.length_nil, Nat.reduceAdd, Nat.reduceLeDiff, Nat.zero_le, true_and, and_true, and_self, true_implies, forall_const, ai_rvs, ai_rv0, ai_b_0, Classical.not_not, q_0, q_1, q_64, q_65, q_82, q_mk, q_od, not_true_eq_false, false_implies, not_false_eq_true, true_implies, and_true, true_and, if_true, if_false, Bool.false_eq_true, i_nle.mpr g1]
      exact kk
    · rw [if_neg g1] at kk
      simp (disch := omega) only [K72, ai_c1i, ai_c1n, ai_c1r, e_aald, e_al0, e_al5, e_an0, e_an5, e_as5, e_az5, e_c1, e_c3, e_const, e_cv2, e_getI, e_getR, e_goto, e_ii3, e_ii4, e_il1, e_il2, e_il3, e_il4, e_is3, e_is4, e_nn, e_nr, e_reti, e_z3, Option.toList_some, Option.toList_none, List.cons_append, List.nil_append, List.append_nil, List.length_cons, List.length_nil, Nat.reduceAdd, Nat.reduceLeDiff, Nat.zero_le, true_and, and_true, and_self, true_implies, forall_const, ai_rvs, ai_rv0, ai_b_0, Classical.not_not, q_0, q_1, q_64, q_65, q_82, q_mk, q_od, not_true_eq_false, false_implies, not_false_eq_true, true_implies, and_true, true_and, if_true, if_false, Bool.false_eq_true, i_nlt.mp g1]
      obtain ⟨j, hj, rfl⟩ := nI_nn (i_nlt.mp g1)
      rw [nIc hj] at kk
      exact c72_l hj h hp kk S.2.1.length 0 0 _ (by omega) (by omega) (by omega) rfl
  · rw [em] at kk
    simp (disch := omega) only [K72, ai_c1i, ai_c1n, ai_c1r, e_aald, e_al0, e_al5, e_an0, e_an5, e_as5, e_az5, e_c1, e_c3, e_const, e_cv2, e_getI, e_getR, e_goto, e_ii3, e_ii4, e_il1, e_il2, e_il3, e_il4, e_is3, e_is4, e_nn, e_nr, e_reti, e_z3, Option.toList_some, Option.toList_none, List.cons_append, List.nil_append, List.append_nil, List.length_cons, List.length_nil, Nat.reduceAdd, Nat.reduceLeDiff, Nat.zero_le, true_and, and_true, and_self, true_implies, forall_const, ai_rvs, ai_rv0, ai_b_0, Classical.not_not, q_0, q_1, q_64, q_65, q_82, q_mk, q_od, not_true_eq_false, false_implies, not_false_eq_true, true_implies, and_true, true_and, if_true, if_false, Bool.false_eq_true]
    exact kk
end PM7
