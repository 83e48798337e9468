/-! the maker's methods: coins, costs, buying and selling -/
theorem tr_of {x : Int32} (h : nI 0 ≤ x ∧ x ≤ nI 5) : ∃ t, t < 6 ∧ x = nI t := by
  refine nI_ofr h.1 ?_ (by omega)
  exact Int32.lt_of_le_of_lt h.2 ((nIlt (by omega) (by omega)).mpr (by omega))
theorem it_s {t : Nat} (h : t < 6) : (nI 0 ≤ nI t ∧ nI t ≤ nI 5) := ⟨nI_0le t (by omega), (nIle (by omega) (by omega)).mpr (by omega)⟩
def p_dep (S : St) (t c : Int32) : Int32 × St := if nI 0 ≤ t ∧ t ≤ nI 5 then (if nI 1 ≤ c ∧ c ≤ nI 500 then (if nI 5000000 < S.1 (6 + t.toNatClampNeg) + c * nI 2880 then (-1000000003, S) else
  (S.1 (6 + t.toNatClampNeg) + c * nI 2880, xa (S.1 1).toNatClampNeg (ug S.1 (6 + t.toNatClampNeg) (S.1 (6 + t.toNatClampNeg) + c * nI 2880), S.2))) else (-1000000002, S)) else (-1000000002, S)
def p_wd (S : St) (t c : Int32) : Int32 × St := if nI 0 ≤ t ∧ t ≤ nI 5 then (if nI 1 ≤ c ∧ c ≤ nI 5000000 then (if S.1 (6 + t.toNatClampNeg) < c then (-1000000005, S) else
  (S.1 (6 + t.toNatClampNeg) - c, (ug S.1 (6 + t.toNatClampNeg) (S.1 (6 + t.toNatClampNeg) - c), S.2))) else (-1000000002, S)) else (-1000000002, S)
def p_cost (S : St) (x y c : Int32) : Int32 := match mWith S.1 x y with
  | none => -1000000001
  | some (m, o) => if c = nI 0 then -1000000002 else if (-50) ≤ c ∧ c ≤ nI 50 then (if nI 0 ≤ qs S.1 m o + c ∧ qs S.1 m o + c ≤ nI 400 then m_due S.1 m o c else -1000000003) else -1000000002
def p_buy (S : St) (t x y c : Int32) : Int32 × St := if nI 0 ≤ t ∧ t ≤ nI 5 then (if nI 1 ≤ c ∧ c ≤ nI 50 then (match mWith S.1 x y with
  | none => (-1000000001, S)
  | some (m, o) => if S.1 (12 + 43 * m) = nI 0 then (if nI 0 ≤ qs S.1 m o + c ∧ qs S.1 m o + c ≤ nI 400 then (if S.1 (6 + t.toNatClampNeg) < m_due S.1 m o c then (-1000000005, S) else
      (m_due S.1 m o c, xo 800 m (tr S m t.toNatClampNeg o c (-1)))) else (-1000000003, S)) else (-1000000004, S)) else (-1000000002, S)) else (-1000000002, S)
def m_dus (g : Nat → Int32) (m : Nat) (s c : Int32) : Int32 := m_lev (qs (g_add g m s c (nN g m)) m) (nN g m) (g (13 + 43 * m)) - m_lev (qs g m) (nN g m) (g (13 + 43 * m))
def p_bs (S : St) (t x s c : Int32) : Int32 × St := if nI 0 ≤ t ∧ t ≤ nI 5 then (if nI 1 ≤ c ∧ c ≤ nI 50 then (match mAt S.1 x with
  | none => (-1000000001, S)
  | some m => if nI 1 ≤ s ∧ s ≤ nI 1 <<< (S.1 (14 + 43 * m) &&& 31) - nI 1 then (if S.1 (12 + 43 * m) = nI 0 then (if b_all (fun i => !b_in s i || decide (nI 0 ≤ qs S.1 m i + c ∧ qs S.1 m i + c ≤ nI 400)) (nN S.1 m) then
      (if S.1 (6 + t.toNatClampNeg) < m_dus S.1 m s c then (-1000000005, S) else (m_dus S.1 m s c, xo 800 m (trs m t.toNatClampNeg s c (nN S.1 m) S))) else (-1000000003, S)) else (-1000000004, S)) else (-1000000002, S)) else (-1000000002, S)) else (-1000000002, S)
def p_sell (S : St) (t x y c : Int32) : Int32 × St := if nI 0 ≤ t ∧ t ≤ nI 5 then (if nI 1 ≤ c ∧ c ≤ nI 50 then (match mWith S.1 x y with
  | none => (-1000000001, S)
  | some (m, o) => if S.1 (12 + 43 * m) = nI 0 then (if hq S.1 m t.toNatClampNeg o < c then (-1000000005, S) else
      (-(m_due S.1 m o (-c)), xo 800 m (tr S m t.toNatClampNeg o (-c) (-1)))) else (-1000000004, S)) else (-1000000002, S)) else (-1000000002, S)
section PM2
variable {S : St} {C : (Nat → Nat → Int32) × (Nat → Nat → Nat)} {I : Nat → Nat → Int32} {M : Nat → Nat → Nat} {m n o k T : Nat} {d : Nat} {Q : Option Value → ai_H → Prop}
theorem NV.of {g g' : Nat → Int32} {k : Nat} (h : NV g k) (e : ∀ m, g' (14 + 43 * m) = g (14 + 43 * m)) : NV g' k := fun m hm => by rw [e m]; exact h m hm
/-- PredictionMaker.deposit -/
theorem c63 (h : EX 1 S C I M) (hp : PC C) (hv : VB S.1 k) (hT : S.1 4 = nI T) (hb : T < 999980000) (ho : OV S.2.1) {t c : Int32} (kk : ∀ I' M', EX 1 (p_dep S t c).2 C I' M' → Q (some (.int (p_dep S t c).1)) (LK, I', M')) : Cl (d + 6) 63 [.ref 0, .int t, .int c] (LK, I, M) Q := by
  have hk6 := hv.2.1
  unfold p_dep at kk
  by_cases g1 : nI 0 ≤ t ∧ t ≤ nI 5
  · rw [if_pos g1] at kk
    obtain ⟨t, ht, rfl⟩ := tr_of g1
    rw [nIc (by omega)] at kk
    by_cases g2 : nI 1 ≤ c ∧ c ≤ nI 500
    · rw [if_pos g2] at kk
      by_cases g3 : nI 5000000 < S.1 (6 + t) + c * nI 2880
      · rw [if_pos g3] at kk
        simp (disch := omega) only [E63, K63, ai_c1i, ai_c1n, ai_c1r, e_al0, e_an0, e_b0, e_b2, e_c5, e_const, e_cs1, e_cs3, e_cv1, e_getR, e_iald, e_iast, e_il1, e_il2, e_il3, e_is3, e_reti, e_z0, e_z1, Option.toList_some, Option.toList_none, List.cons_append, List.nil_append, List.append_nil, List.length_cons, List.length_nil, Nat.reduceAdd, Nat.reduceLeDiff, Nat.zero_le, true_and, and_true, and_self, true_implies, forall_const, ai_rvs, ai_rv0, ai_b_0, Classical.not_not, q_0, q_1, q_64, q_65, q_82, q_mk, q_od, not_true_eq_false, false_implies, not_false_eq_true, true_implies, and_true, true_and, if_true, if_false, Bool.false_eq_true, c92, c95, g1, g2, m_00 h hp, m_10 h, a_bal, nIc, rd_bal h, i_nle.mpr g3]
        exact kk I M h
      · rw [if_neg g3] at kk
        have h1 := h.bal ht (S.1 (6 + t) + c * nI 2880)
        simp (disch := omega) only [E63, K63, ai_c1i, ai_c1n, ai_c1r, e_al0, e_an0, e_b0, e_b2, e_c5, e_const, e_cs1, e_cs3, e_cv1, e_getR, e_iald, e_iast, e_il1, e_il2, e_il3, e_is3, e_reti, e_z0, e_z1, Option.toList_some, Option.toList_none, List.cons_append, List.nil_append, List.append_nil, List.length_cons, List.length_nil, Nat.reduceAdd, Nat.reduceLeDiff, Nat.zero_le, true_and, and_true, and_self, true_implies, forall_const, ai_rvs, ai_rv0, ai_b_0, Classical.not_not, q_0, q_1, q_64, q_65, q_82, q_mk, q_od, not_true_eq_false, false_implies, not_false_eq_true, true_implies, and_true, true_and, if_true, if_false, Bool.false_eq_true, c92, c95, g1, g2, m_00 h hp, m_10 h, a_bal, nIc, rd_bal h, i_nlt.mp g3]
        refine c14 h1 (T := T) (k := k) ?_ hb ?_ hk6 ?_ ho fun I2 M2 h2 => ?_
        · dsimp only; rw [ug_n (by omega)]; exact hT
        · dsimp only; rw [ug_n (by omega)]; exact hv.1
        · exact hv.2.2.of fun m => ug_n (by omega)
        · simp (disch := omega) only [K63, ai_c1i, ai_c1n, ai_c1r, e_al0, e_an0, e_b0, e_b2, e_c5, e_const, e_cs1, e_cs3, e_cv1, e_getR, e_iald, e_iast, e_il1, e_il2, e_il3, e_is3, e_reti, e_z0, e_z1, Option.toList_some, Option.toList_none, List.cons_append, List.nil_append, List.append_nil, List.length_cons, List.length_nil, Nat.reduceAdd, Nat.reduceLeDiff, Nat.zero_le, true_and, and_true, and_self, true_implies, forall_const, ai_rvs, ai_rv0, ai_b_0, Classical.not_not, q_0, q_1, q_64, q_65, q_82, q_mk, q_od]
          rw [hv.1, nIc (by omega)] at kk
          exact kk I2 M2 h2
    · rw [if_neg g2] at kk
      simp (disch := omega) only [E63, K63, ai_c1i, ai_c1n, ai_c1r, e_al0, e_an0, e_b0, e_b2, e_c5, e_const, e_cs1, e_cs3, e_cv1, e_getR, e_iald, e_iast, e_il1, e_il2, e_il3, e_is3, e_reti, e_z0, e_z1, Option.toList_some, Option.toList_none, List.cons_append, List.nil_append, List.append_nil, List.length_cons, List.length_nil, Nat.reduceAdd, Nat.reduceLeDiff, Nat.zero_le, true_and, and_true, and_self, true_implies, forall_const, ai_rvs, ai_rv0, ai_b_0, Classical.not_not, q_0, q_1, q_64, q_65, q_82, q_mk, q_od, not_true_eq_false, false_implies, not_false_eq_true, true_implies, and_true, true_and, if_true, if_false, Bool.false_eq_true, c92, c95, g1, g2]
      exact kk I M h
  · rw [if_neg g1] at kk
    simp (disch := omega) only [E63, K63, ai_c1i, ai_c1n, ai_c1r, e_al0, e_an0, e_b0, e_b2, e_c5, e_const, e_cs1, e_cs3, e_cv1, e_getR, e_iald, e_iast, e_il1, e_il2, e_il3, e_is3, e_reti, e_z0, e_z1, Option.toList_some, Option.toList_none, List.cons_append, List.nil_append, List.append_nil, List.length_cons, List.length_nil, Nat.reduceAdd, Nat.reduceLeDiff, Nat.zero_le, true_and, and_true, and_self, true_implies, forall_const, ai_rvs, ai_rv0, ai_b_0, Classical.not_not, q_0, q_1, q_64, q_65, q_82, q_mk, q_od, not_true_eq_false, false_implies, not_false_eq_true, true_implies, and_true, true_and, if_true, if_false, Bool.false_eq_true, c92, g1]
    exact kk I M h
theorem c64 (h : EX 1 S C I M) (hp : PC C) {t c : Int32} (kk : ∀ I', EX 1 (p_wd S t c).2 C I' M → Q (some (.int (p_wd S t c).1)) (LK, I', M)) : Cl (d + 2) 64 [.ref 0, .int t, .int c] (LK, I, M) Q := by
  unfold p_wd at kk
  by_cases g1 : nI 0 ≤ t ∧ t ≤ nI 5
  · rw [if_pos g1] at kk
    obtain ⟨t, ht, rfl⟩ := tr_of g1
    rw [nIc (by omega)] at kk
    by_cases g2 : nI 1 ≤ c ∧ c ≤ nI 5000000
    · rw [if_pos g2] at kk
      by_cases g3 : S.1 (6 + t) < c
      · rw [if_pos g3] at kk
        simp (disch := omega) only [E64, K64, ai_c1i, ai_c1n, ai_c1r, e_al0, e_an0, e_b1, e_c3, e_const, e_cs1, e_cs3, e_dup2, e_getR, e_iald, e_iast, e_il1, e_il2, e_reti, e_z0, e_z1, Option.toList_some, Option.toList_none, List.cons_append, List.nil_append, List.append_nil, List.length_cons, List.length_nil, Nat.reduceAdd, Nat.reduceLeDiff, Nat.zero_le, true_and, and_true, and_self, true_implies, forall_const, ai_rvs, ai_rv0, ai_b_0, Classical.not_not, q_0, q_1, q_64, q_65, q_82, q_mk, q_od, not_true_eq_false, false_implies, not_false_eq_true, true_implies, and_true, true_and, if_true, if_false, Bool.false_eq_true, c92, c95, g1, g2, m_00 h hp, m_10 h, a_bal, nIc, rd_bal h, i_nle.mpr g3]
        exact kk I h
      · rw [if_neg g3] at kk
        have h1 := h.bal ht (S.1 (6 + t) - c)
        simp (disch := omega) only [E64, K64, ai_c1i, ai_c1n, ai_c1r, e_al0, e_an0, e_b1, e_c3, e_const, e_cs1, e_cs3, e_dup2, e_getR, e_iald, e_iast, e_il1, e_il2, e_reti, e_z0, e_z1, Option.toList_some, Option.toList_none, List.cons_append, List.nil_append, List.append_nil, List.length_cons, List.length_nil, Nat.reduceAdd, Nat.reduceLeDiff, Nat.zero_le, true_and, and_true, and_self, true_implies, forall_const, ai_rvs, ai_rv0, ai_b_0, Classical.not_not, q_0, q_1, q_64, q_65, q_82, q_mk, q_od, not_true_eq_false, false_implies, not_false_eq_true, true_implies, and_true, true_and, if_true, if_false, Bool.false_eq_true, c92, c95, g1, g2, m_00 h hp, m_10 h, a_bal, nIc, rd_bal h, i_nlt.mp g3, ai_uh]
        exact kk _ h1
    · rw [if_neg g2] at kk
      simp (disch := omega) only [E64, K64, ai_c1i, ai_c1n, ai_c1r, e_al0, e_an0, e_b1, e_c3, e_const, e_cs1, e_cs3, e_dup2, e_getR, e_iald, e_iast, e_il1, e_il2, e_reti, e_z0, e_z1, Option.toList_some, Option.toList_none, List.cons_append, List.nil_append, List.append_nil, List.length_cons, List.length_nil, Nat.reduceAdd, Nat.reduceLeDiff, Nat.zero_le, true_and, and_true, and_self, true_implies, forall_const, ai_rvs, ai_rv0, ai_b_0, Classical.not_not, q_0, q_1, q_64, q_65, q_82, q_mk, q_od, not_true_eq_false, false_implies, not_false_eq_true, true_implies, and_true, true_and, if_true, if_false, Bool.false_eq_true, c92, c95, g1, g2]
      exact kk I h
  · rw [if_neg g1] at kk
    simp (disch := omega) only [E64, K64, ai_c1i, ai_c1n, ai_c1r, e_al0, e_an0, e_b1, e_c3, e_const, e_cs1, e_cs3, e_dup2, e_getR, e_iald, e_iast, e_il1, e_il2, e_reti, e_z0, e_z1, Option.toList_some, Option.toList_none, List.cons_append, List.nil_append, List.append_nil, List.length_cons, List.length_nil, Nat.reduceAdd, Nat.reduceLeDiff, Nat.zero_le, true_and, and_true, and_self, true_implies, forall_const, ai_rvs, ai_rv0, ai_b_0, Classical.not_not, q_0, q_1, q_64, q_65, q_82, q_mk, q_od, not_true_eq_false, false_implies, not_false_eq_true, true_implies, and_true, true_and, if_true, if_false, Bool.false_eq_true, c92, g1]
    exact kk I h
theorem c65 (h : EX 1 S C I M) (hp : PC C) (hv : VB S.1 k) {x y c : Int32} (kk : ∀ I', EX 1 S C I' M → Q (some (.int (p_cost S x y c))) (LK, I', M)) : Cl (d + 3) 65 [.ref 0, .int x, .int y, .int c] (LK, I, M) Q := by
  have hk6 := hv.2.1
  unfold p_cost at kk
  simp (disch := omega) only [E65, K65, ai_c1i, ai_c1n, ai_c1r, e_al0, e_al4, e_an0, e_an4, e_as4, e_az4, e_const, e_cs3, e_cv3, e_getR, e_il1, e_il2, e_il3, e_reti, e_xn, e_xr, e_z0, e_z1, Option.toList_some, Option.toList_none, List.cons_append, List.nil_append, List.append_nil, List.length_cons, List.length_nil, Nat.reduceAdd, Nat.reduceLeDiff, Nat.zero_le, true_and, and_true, and_self, true_implies, forall_const, ai_rvs, ai_rv0, ai_b_0, Classical.not_not, q_0, q_1, q_64, q_65, q_82, q_mk, q_od, not_true_eq_false, false_implies, not_false_eq_true, true_implies, and_true, true_and, if_true, if_false, Bool.false_eq_true, m_00 h hp]
  refine c10m h hv (fun m n o hm ex hn n2 n4 ho ey em => ?_) (fun em => ?_)
  · rw [em] at kk
    dsimp only at kk
    subst ex ey
    by_cases g1 : c = nI 0
    · rw [if_pos g1] at kk
      simp (disch := omega) only [K65, ai_c1i, ai_c1n, ai_c1r, e_al0, e_al4, e_an0, e_an4, e_as4, e_az4, e_const, e_cs3, e_cv3, e_getR, e_il1, e_il2, e_il3, e_reti, e_xn, e_xr, e_z0, e_z1, Option.toList_some, Option.toList_none, List.cons_append, List.nil_append, List.append_nil, List.length_cons, List.length_nil, Nat.reduceAdd, Nat.reduceLeDiff, Nat.zero_le, true_and, and_true, and_self, true_implies, forall_const, ai_rvs, ai_rv0, ai_b_0, Classical.not_not, q_0, q_1, q_64, q_65, q_82, q_mk, q_od, not_true_eq_false, false_implies, not_false_eq_true, true_implies, and_true, true_and, if_true, if_false, Bool.false_eq_true, g1]
      exact kk I h
    · rw [if_neg g1] at kk
      by_cases g2 : (-50) ≤ c ∧ c ≤ nI 50
      · rw [if_pos g2] at kk
        by_cases g3 : nI 0 ≤ qs S.1 m o + c ∧ qs S.1 m o + c ≤ nI 400
        · rw [if_pos g3] at kk
          simp (disch := omega) only [K65, ai_c1i, ai_c1n, ai_c1r, e_al0, e_al4, e_an0, e_an4, e_as4, e_az4, e_const, e_cs3, e_cv3, e_getR, e_il1, e_il2, e_il3, e_reti, e_xn, e_xr, e_z0, e_z1, Option.toList_some, Option.toList_none, List.cons_append, List.nil_append, List.append_nil, List.length_cons, List.length_nil, Nat.reduceAdd, Nat.reduceLeDiff, Nat.zero_le, true_and, and_true, and_self, true_implies, forall_const, ai_rvs, ai_rv0, ai_b_0, Classical.not_not, q_0, q_1, q_64, q_65, q_82, q_mk, q_od, not_true_eq_false, false_implies, not_false_eq_true, true_implies, and_true, true_and, if_true, if_false, Bool.false_eq_true, g1, c95, g2, c47 h, g3]
          refine c43 h (by omega) hn n4 (by omega) fun I1 h1 => ?_
          simp (disch := omega) only [K65, ai_c1i, ai_c1n, ai_c1r, e_al0, e_al4, e_an0, e_an4, e_as4, e_az4, e_const, e_cs3, e_cv3, e_getR, e_il1, e_il2, e_il3, e_reti, e_xn, e_xr, e_z0, e_z1, Option.toList_some, Option.toList_none, List.cons_append, List.nil_append, List.append_nil, List.length_cons, List.length_nil, Nat.reduceAdd, Nat.reduceLeDiff, Nat.zero_le, true_and, and_true, and_self, true_implies, forall_const, ai_rvs, ai_rv0, ai_b_0, Classical.not_not, q_0, q_1, q_64, q_65, q_82, q_mk, q_od, not_true_eq_false, false_implies, not_false_eq_true, true_implies, and_true, true_and, if_true, if_false, Bool.false_eq_true]
          have k1 := kk I1 h1
          rw [m_due, nN_of hn n4] at k1
          exact k1
        · rw [if_neg g3] at kk
          simp (disch := omega) only [K65, ai_c1i, ai_c1n, ai_c1r, e_al0, e_al4, e_an0, e_an4, e_as4, e_az4, e_const, e_cs3, e_cv3, e_getR, e_il1, e_il2, e_il3, e_reti, e_xn, e_xr, e_z0, e_z1, Option.toList_some, Option.toList_none, List.cons_append, List.nil_append, List.append_nil, List.length_cons, List.length_nil, Nat.reduceAdd, Nat.reduceLeDiff, Nat.zero_le, true_and, and_true, and_self, true_implies, forall_const, ai_rvs, ai_rv0, ai_b_0, Classical.not_not, q_0, q_1, q_64, q_65, q_82, q_mk, q_od, not_true_eq_false, false_implies, not_false_eq_true, true_implies, and_true, true_and, if_true, if_false, Bool.false_eq_true, g1, c95, g2, c47 h, g3]
          exact kk I h
      · rw [if_neg g2] at kk
        simp (disch := omega) only [K65, ai_c1i, ai_c1n, ai_c1r, e_al0, e_al4, e_an0, e_an4, e_as4, e_az4, e_const, e_cs3, e_cv3, e_getR, e_il1, e_il2, e_il3, e_reti, e_xn, e_xr, e_z0, e_z1, Option.toList_some, Option.toList_none, List.cons_append, List.nil_append, List.append_nil, List.length_cons, List.length_nil, Nat.reduceAdd, Nat.reduceLeDiff, Nat.zero_le, true_and, and_true, and_self, true_implies, forall_const, ai_rvs, ai_rv0, ai_b_0, Classical.not_not, q_0, q_1, q_64, q_65, q_82, q_mk, q_od, not_true_eq_false, false_implies, not_false_eq_true, true_implies, and_true, true_and, if_true, if_false, Bool.false_eq_true, g1, c95, g2]
        exact kk I h
  · rw [em] at kk
    simp (disch := omega) only [K65, ai_c1i, ai_c1n, ai_c1r, e_al0, e_al4, e_an0, e_an4, e_as4, e_az4, e_const, e_cs3, e_cv3, e_getR, e_il1, e_il2, e_il3, e_reti, e_xn, e_xr, e_z0, e_z1, Option.toList_some, Option.toList_none, List.cons_append, List.nil_append, List.append_nil, List.length_cons, List.length_nil, Nat.reduceAdd, Nat.reduceLeDiff, Nat.zero_le, true_and, and_true, and_self, true_implies, forall_const, ai_rvs, ai_rv0, ai_b_0, Classical.not_not, q_0, q_1, q_64, q_65, q_82, q_mk, q_od, not_true_eq_false, false_implies, not_false_eq_true, true_implies, and_true, true_and, if_true, if_false, Bool.false_eq_true]
    exact kk I h
end PM2
