/-! what is told of orders, markets and traders -/
/-- the open orders' markets, outcomes and traders are there -/
def OMv (L : List Od) (g : Nat → Int32) (k : Nat) : Prop := ∀ x ∈ L, ∃ m n o t, m < k ∧ x.2.2.1 = nI m ∧ g (14 + 43 * m) = nI n ∧ n ≤ 4 ∧ o < n ∧ x.2.2.2.1 = nI o ∧ t < 6 ∧ x.2.1 = nI t
theorem OMv.ov {L : List Od} {g : Nat → Int32} {k : Nat} (h : OMv L g k) : OV L := fun x hx => by
  obtain ⟨m, n, o, t, _, _, _, n4, ho, eo, ht, et⟩ := h x hx
  exact ⟨t, o, ht, by omega, et, eo⟩
def p_mkt (S : St) (x w : Int32) : Int32 := match mAt S.1 x with
  | none => -1000000001
  | some m => m_prop S.1 m (nN S.1 m) w
def p_price (S : St) (x y : Int32) : Int32 := match mWith S.1 x y with
  | none => -1000000001
  | some (m, o) => m_pr (qs S.1 m) (nN S.1 m) (S.1 (13 + 43 * m)) o
def p_sh (S : St) (x y : Int32) : Int32 := match mWith S.1 x y with
  | none => -1000000001
  | some (m, o) => qs S.1 m o
def p_hold (S : St) (t x y : Int32) : Int32 := match mWith S.1 x y with
  | none => -1000000001
  | some (m, o) => if nI 0 ≤ t ∧ t ≤ nI 5 then hq S.1 m t.toNatClampNeg o else -1000000001
def p_trd (S : St) (t w : Int32) : Int32 := if nI 0 ≤ t ∧ t ≤ nI 5 then (if w = nI 0 then S.1 (6 + t.toNatClampNeg) else if w = nI 1 then s_wo S.1 t.toNatClampNeg (S.1 1).toNatClampNeg else if w = nI 2 then nI (S.2.1.countP (fun o => decide (o.2.1 = t))) else if w = nI 3 then s_mo S.1 t.toNatClampNeg (S.1 1).toNatClampNeg else -1000000002) else -1000000002
def p_paid (S : St) (t x : Int32) : Int32 := match mAt S.1 x with
  | none => -1000000001
  | some m => if nI 0 ≤ t ∧ t ≤ nI 5 then S.1 (49 + 43 * m + t.toNatClampNeg) else -1000000001
def p_hist (S : St) (i w : Int32) : Int32 := if nI 0 ≤ i ∧ i < S.1 4 ∧ i < nI 30 then (if nI 0 ≤ w ∧ w ≤ nI 5 then S.2.2 i.toNatClampNeg w.toNatClampNeg else -1000000002) else -1000000001
def p_cnt (S : St) (len w : Int32) : Int32 := if w = nI 0 then S.1 1 else if w = nI 1 then s_op S.1 (S.1 1).toNatClampNeg else if w = nI 2 then nI S.2.1.length else if w = nI 3 then S.1 0 else if w = nI 4 then S.1 4 else if w = nI 5 then len else if w = nI 6 then bx_sum (fun t => S.1 (6 + t)) 6 else if w = nI 7 then bx_sum (fun m => S.1 (18 + 43 * m)) (S.1 1).toNatClampNeg else -1000000002
section PM5
variable {S : St} {C : (Nat → Nat → Int32) × (Nat → Nat → Nat)} {I : Nat → Nat → Int32} {M : Nat → Nat → Nat} {m n o k T : Nat} {d : Nat} {Q : Option Value → ai_H → Prop}
theorem c76 (h : EX 1 S C I M) (hp : PC C) (hv : VB S.1 k) {x w : Int32} (kk : ∀ I', EX 1 S C I' M → Q (some (.int (p_mkt S x w))) (LK, I', M)) : Cl (d + 3) 76 [.ref 0, .int x, .int w] (LK, I, M) Q := by
  have hk6 := hv.2.1
  unfold p_mkt at kk
  simp (disch := omega) only [E76, K76, ai_c1i, ai_c1n, ai_c1r, e_al0, e_al3, e_an0, e_an3, e_as3, e_az3, e_const, e_cv2, e_getR, e_il1, e_il2, e_reti, e_xn, e_xr, Option.toList_some, Option.toList_none, List.cons_append, List.nil_append, List.append_nil, List.length_cons, List.length_nil, Nat.reduceAdd, Nat.reduceLeDiff, Nat.zero_le, true_and, and_true, and_self, true_implies, forall_const, ai_rvs, ai_rv0, ai_b_0, Classical.not_not, q_0, q_1, q_64, q_65, q_82, q_mk, q_od, not_true_eq_false, false_implies, not_false_eq_true, true_implies, and_true, true_and, if_true, if_false, Bool.false_eq_true, m_00 h hp]
  refine c9m h hv (fun m hm ex em => ?_) (fun em => ?_)
  · rw [em] at kk
    obtain ⟨n, hn, n2, n4⟩ := hv.2.2 m hm
    dsimp only at kk
    rw [nN_of hn n4] at kk
    simp (disch := omega) only [K76, ai_c1i, ai_c1n, ai_c1r, e_al0, e_al3, e_an0, e_an3, e_as3, e_az3, e_const, e_cv2, e_getR, e_il1, e_il2, e_reti, e_xn, e_xr, Option.toList_some, Option.toList_none, List.cons_append, List.nil_append, List.append_nil, List.length_cons, List.length_nil, Nat.reduceAdd, Nat.reduceLeDiff, Nat.zero_le, true_and, and_true, and_self, true_implies, forall_const, ai_rvs, ai_rv0, ai_b_0, Classical.not_not, q_0, q_1, q_64, q_65, q_82, q_mk, q_od, not_true_eq_false, false_implies, not_false_eq_true, true_implies, and_true, true_and, if_true, if_false, Bool.false_eq_true]
    refine c38 h (by omega) hn (Or.inr n2) n4 fun I1 h1 => ?_
    simp (disch := omega) only [K76, ai_c1i, ai_c1n, ai_c1r, e_al0, e_al3, e_an0, e_an3, e_as3, e_az3, e_const, e_cv2, e_getR, e_il1, e_il2, e_reti, e_xn, e_xr, Option.toList_some, Option.toList_none, List.cons_append, List.nil_append, List.append_nil, List.length_cons, List.length_nil, Nat.reduceAdd, Nat.reduceLeDiff, Nat.zero_le, true_and, and_true, and_self, true_implies, forall_const, ai_rvs, ai_rv0, ai_b_0, Classical.not_not, q_0, q_1, q_64, q_65, q_82, q_mk, q_od, not_true_eq_false, false_implies, not_false_eq_true, true_implies, and_true, true_and, if_true, if_false, Bool.false_eq_true]
    exact kk I1 h1
  · rw [em] at kk
    simp (disch := omega) only [K76, ai_c1i, ai_c1n, ai_c1r, e_al0, e_al3, e_an0, e_an3, e_as3, e_az3, e_const, e_cv2, e_getR, e_il1, e_il2, e_reti, e_xn, e_xr, Option.toList_some, Option.toList_none, List.cons_append, List.nil_append, List.append_nil, List.length_cons, List.length_nil, Nat.reduceAdd, Nat.reduceLeDiff, Nat.zero_le, true_and, and_true, and_self, true_implies, forall_const, ai_rvs, ai_rv0, ai_b_0, Classical.not_not, q_0, q_1, q_64, q_65, q_82, q_mk, q_od, not_true_eq_false, false_implies, not_false_eq_true, true_implies, and_true, true_and, if_true, if_false, Bool.false_eq_true]
    exact kk I h
theorem c77 (h : EX 1 S C I M) (hp : PC C) (hv : VB S.1 k) {x y : Int32} (kk : ∀ I', EX 1 S C I' M → Q (some (.int (p_price S x y))) (LK, I', M)) : Cl (d + 2) 77 [.ref 0, .int x, .int y] (LK, I, M) Q := by
  have hk6 := hv.2.1
  unfold p_price at kk
  simp (disch := omega) only [E77, K77, ai_c1i, ai_c1n, ai_c1r, e_al0, e_al3, e_an0, e_an3, e_as3, e_az3, e_const, e_cv3, e_getR, e_il1, e_il2, e_reti, e_xn, e_xr, Option.toList_some, Option.toList_none, List.cons_append, List.nil_append, List.append_nil, List.length_cons, List.length_nil, Nat.reduceAdd, Nat.reduceLeDiff, Nat.zero_le, true_and, and_true, and_self, true_implies, forall_const, ai_rvs, ai_rv0, ai_b_0, Classical.not_not, q_0, q_1, q_64, q_65, q_82, q_mk, q_od, not_true_eq_false, false_implies, not_false_eq_true, true_implies, and_true, true_and, if_true, if_false, Bool.false_eq_true, m_00 h hp]
  refine c10m h hv (fun m n o hm ex hn n2 n4 ho ey em => ?_) (fun em => ?_)
  · rw [em] at kk
    subst ex ey
    dsimp only at kk
    rw [nN_of hn n4] at kk
    simp (disch := omega) only [K77, ai_c1i, ai_c1n, ai_c1r, e_al0, e_al3, e_an0, e_an3, e_as3, e_az3, e_const, e_cv3, e_getR, e_il1, e_il2, e_reti, e_xn, e_xr, Option.toList_some, Option.toList_none, List.cons_append, List.nil_append, List.append_nil, List.length_cons, List.length_nil, Nat.reduceAdd, Nat.reduceLeDiff, Nat.zero_le, true_and, and_true, and_self, true_implies, forall_const, ai_rvs, ai_rv0, ai_b_0, Classical.not_not, q_0, q_1, q_64, q_65, q_82, q_mk, q_od, not_true_eq_false, false_implies, not_false_eq_true, true_implies, and_true, true_and, if_true, if_false, Bool.false_eq_true]
    refine c46 h (by omega) hn n4 (by omega) fun I1 h1 => ?_
    simp (disch := omega) only [K77, ai_c1i, ai_c1n, ai_c1r, e_al0, e_al3, e_an0, e_an3, e_as3, e_az3, e_const, e_cv3, e_getR, e_il1, e_il2, e_reti, e_xn, e_xr, Option.toList_some, Option.toList_none, List.cons_append, List.nil_append, List.append_nil, List.length_cons, List.length_nil, Nat.reduceAdd, Nat.reduceLeDiff, Nat.zero_le, true_and, and_true, and_self, true_implies, forall_const, ai_rvs, ai_rv0, ai_b_0, Classical.not_not, q_0, q_1, q_64, q_65, q_82, q_mk, q_od, not_true_eq_false, false_implies, not_false_eq_true, true_implies, and_true, true_and, if_true, if_false, Bool.false_eq_true, i_add0, ug_id]
    exact kk I1 h1
  · rw [em] at kk
    simp (disch := omega) only [K77, ai_c1i, ai_c1n, ai_c1r, e_al0, e_al3, e_an0, e_an3, e_as3, e_az3, e_const, e_cv3, e_getR, e_il1, e_il2, e_reti, e_xn, e_xr, Option.toList_some, Option.toList_none, List.cons_append, List.nil_append, List.append_nil, List.length_cons, List.length_nil, Nat.reduceAdd, Nat.reduceLeDiff, Nat.zero_le, true_and, and_true, and_self, true_implies, forall_const, ai_rvs, ai_rv0, ai_b_0, Classical.not_not, q_0, q_1, q_64, q_65, q_82, q_mk, q_od, not_true_eq_false, false_implies, not_false_eq_true, true_implies, and_true, true_and, if_true, if_false, Bool.false_eq_true]
    exact kk I h
theorem c80 (h : EX 1 S C I M) (hp : PC C) (hv : VB S.1 k) {x y : Int32} (kk : Q (some (.int (p_sh S x y))) (LK, I, M)) : Cl (d + 2) 80 [.ref 0, .int x, .int y] (LK, I, M) Q := by
  have hk6 := hv.2.1
  unfold p_sh at kk
  simp (disch := omega) only [E80, K80, ai_c1i, ai_c1n, ai_c1r, e_al0, e_al3, e_an0, e_an3, e_as3, e_az3, e_const, e_cv3, e_getR, e_iald, e_il1, e_il2, e_reti, e_xn, e_xr, Option.toList_some, Option.toList_none, List.cons_append, List.nil_append, List.append_nil, List.length_cons, List.length_nil, Nat.reduceAdd, Nat.reduceLeDiff, Nat.zero_le, true_and, and_true, and_self, true_implies, forall_const, ai_rvs, ai_rv0, ai_b_0, Classical.not_not, q_0, q_1, q_64, q_65, q_82, q_mk, q_od, not_true_eq_false, false_implies, not_false_eq_true, true_implies, and_true, true_and, if_true, if_false, Bool.false_eq_true, m_00 h hp]
  refine c10m h hv (fun m n o hm ex hn n2 n4 ho ey em => ?_) (fun em => ?_)
  · rw [em] at kk
    subst ex ey
    simp (disch := omega) only [K80, ai_c1i, ai_c1n, ai_c1r, e_al0, e_al3, e_an0, e_an3, e_as3, e_az3, e_const, e_cv3, e_getR, e_iald, e_il1, e_il2, e_reti, e_xn, e_xr, Option.toList_some, Option.toList_none, List.cons_append, List.nil_append, List.append_nil, List.length_cons, List.length_nil, Nat.reduceAdd, Nat.reduceLeDiff, Nat.zero_le, true_and, and_true, and_self, true_implies, forall_const, ai_rvs, ai_rv0, ai_b_0, Classical.not_not, q_0, q_1, q_64, q_65, q_82, q_mk, q_od, not_true_eq_false, false_implies, not_false_eq_true, true_implies, and_true, true_and, if_true, if_false, Bool.false_eq_true, m_sh h, a_sh, nIc, rd_sh h]
    exact kk
  · rw [em] at kk
    simp (disch := omega) only [K80, ai_c1i, ai_c1n, ai_c1r, e_al0, e_al3, e_an0, e_an3, e_as3, e_az3, e_const, e_cv3, e_getR, e_iald, e_il1, e_il2, e_reti, e_xn, e_xr, Option.toList_some, Option.toList_none, List.cons_append, List.nil_append, List.append_nil, List.length_cons, List.length_nil, Nat.reduceAdd, Nat.reduceLeDiff, Nat.zero_le, true_and, and_true, and_self, true_implies, forall_const, ai_rvs, ai_rv0, ai_b_0, Classical.not_not, q_0, q_1, q_64, q_65, q_82, q_mk, q_od, not_true_eq_false, false_implies, not_false_eq_true, true_implies, and_true, true_and, if_true, if_false, Bool.false_eq_true]
    exact kk
theorem c81 (h : EX 1 S C I M) (hp : PC C) (hv : VB S.1 k) {t x y : Int32} (kk : Q (some (.int (p_hold S t x y))) (LK, I, M)) : Cl (d + 2) 81 [.ref 0, .int t, .int x, .int y] (LK, I, M) Q := by
  have hk6 := hv.2.1
  unfold p_hold at kk
  simp (disch := omega) only [E81, K81, ai_c1i, ai_c1n, ai_c1r, e_aald, e_al0, e_al4, e_an0, e_an4, e_as4, e_az4, e_const, e_cs1, e_cv3, e_getR, e_iald, e_il1, e_il2, e_il3, e_nn, e_nr, e_reti, e_z1, Option.toList_some, Option.toList_none, List.cons_append, List.nil_append, List.append_nil, List.length_cons, List.length_nil, Nat.reduceAdd, Nat.reduceLeDiff, Nat.zero_le, true_and, and_true, and_self, true_implies, forall_const, ai_rvs, ai_rv0, ai_b_0, Classical.not_not, q_0, q_1, q_64, q_65, q_82, q_mk, q_od, not_true_eq_false, false_implies, not_false_eq_true, true_implies, and_true, true_and, if_true, if_false, Bool.false_eq_true, m_00 h hp]
  refine c10m h hv (fun m n o hm ex hn n2 n4 ho ey em => ?_) (fun em => ?_)
  · rw [em] at kk
    subst ex ey
    dsimp only at kk
    by_cases g1 : nI 0 ≤ t ∧ t ≤ nI 5
    · rw [if_pos g1] at kk
      obtain ⟨t, ht, rfl⟩ := tr_of g1
      rw [nIc (by omega)] at kk
      simp (disch := omega) only [K81, ai_c1i, ai_c1n, ai_c1r, e_aald, e_al0, e_al4, e_an0, e_an4, e_as4, e_az4, e_const, e_cs1, e_cv3, e_getR, e_iald, e_il1, e_il2, e_il3, e_nn, e_nr, e_reti, e_z1, Option.toList_some, Option.toList_none, List.cons_append, List.nil_append, List.append_nil, List.length_cons, List.length_nil, Nat.reduceAdd, Nat.reduceLeDiff, Nat.zero_le, true_and, and_true, and_self, true_implies, forall_const, ai_rvs, ai_rv0, ai_b_0, Classical.not_not, q_0, q_1, q_64, q_65, q_82, q_mk, q_od, not_true_eq_false, false_implies, not_false_eq_true, true_implies, and_true, true_and, if_true, if_false, Bool.false_eq_true, c92, g1, m_hd h, a_hd, m_ht h, a_hr, nIc, rd_hd h]
      exact kk
    · rw [if_neg g1] at kk
      simp (disch := omega) only [K81, ai_c1i, ai_c1n, ai_c1r, e_aald, e_al0, e_al4, e_an0, e_an4, e_as4, e_az4, e_const, e_cs1, e_cv3, e_getR, e_iald, e_il1, e_il2, e_il3, e_nn, e_nr, e_reti, e_z1, Option.toList_some, Option.toList_none, List.cons_append, List.nil_append, List.append_nil, List.length_cons, List.length_nil, Nat.reduceAdd, Nat.reduceLeDiff, Nat.zero_le, true_and, and_true, and_self, true_implies, forall_const, ai_rvs, ai_rv0, ai_b_0, Classical.not_not, q_0, q_1, q_64, q_65, q_82, q_mk, q_od, not_true_eq_false, false_implies, not_false_eq_true, true_implies, and_true, true_and, if_true, if_false, Bool.false_eq_true, c92, g1]
      exact kk
  · rw [em] at kk
    simp (disch := omega) only [K81, ai_c1i, ai_c1n, ai_c1r, e_aald, e_al0, e_al4, e_an0, e_an4, e_as4, e_az4, e_const, e_cs1, e_cv3, e_getR, e_iald, e_il1, e_il2, e_il3, e_nn, e_nr, e_reti, e_z1, Option.toList_some, Option.toList_none, List.cons_append, List.nil_append, List.append_nil, List.length_cons, List.length_nil, Nat.reduceAdd, Nat.reduceLeDiff, Nat.zero_le, true_and, and_true, and_self, true_implies, forall_const, ai_rvs, ai_rv0, ai_b_0, Classical.not_not, q_0, q_1, q_64, q_65, q_82, q_mk, q_od, not_true_eq_false, false_implies, not_false_eq_true, true_implies, and_true, true_and, if_true, if_false, Bool.false_eq_true]
    exact kk
theorem c83 (h : EX 1 S C I M) (hp : PC C) (hv : VB S.1 k) {t x : Int32} (kk : Q (some (.int (p_paid S t x))) (LK, I, M)) : Cl (d + 2) 83 [.ref 0, .int t, .int x] (LK, I, M) Q := by
  have hk6 := hv.2.1
  unfold p_paid at kk
  simp (disch := omega) only [E83, K83, ai_c1i, ai_c1n, ai_c1r, e_al0, e_al3, e_an0, e_an3, e_as3, e_az3, e_const, e_cs1, e_cv2, e_getR, e_iald, e_il1, e_il2, e_nn, e_nr, e_reti, e_z1, Option.toList_some, Option.toList_none, List.cons_append, List.nil_append, List.append_nil, List.length_cons, List.length_nil, Nat.reduceAdd, Nat.reduceLeDiff, Nat.zero_le, true_and, and_true, and_self, true_implies, forall_const, ai_rvs, ai_rv0, ai_b_0, Classical.not_not, q_0, q_1, q_64, q_65, q_82, q_mk, q_od, not_true_eq_false, false_implies, not_false_eq_true, true_implies, and_true, true_and, if_true, if_false, Bool.false_eq_true, m_00 h hp]
  refine c9m h hv (fun m hm ex em => ?_) (fun em => ?_)
  · rw [em] at kk
    subst ex
    dsimp only at kk
    by_cases g1 : nI 0 ≤ t ∧ t ≤ nI 5
    · rw [if_pos g1] at kk
      obtain ⟨t, ht, rfl⟩ := tr_of g1
      rw [nIc (by omega)] at kk
      simp (disch := omega) only [K83, ai_c1i, ai_c1n, ai_c1r, e_al0, e_al3, e_an0, e_an3, e_as3, e_az3, e_const, e_cs1, e_cv2, e_getR, e_iald, e_il1, e_il2, e_nn, e_nr, e_reti, e_z1, Option.toList_some, Option.toList_none, List.cons_append, List.nil_append, List.append_nil, List.length_cons, List.length_nil, Nat.reduceAdd, Nat.reduceLeDiff, Nat.zero_le, true_and, and_true, and_self, true_implies, forall_const, ai_rvs, ai_rv0, ai_b_0, Classical.not_not, q_0, q_1, q_64, q_65, q_82, q_mk, q_od, not_true_eq_false, false_implies, not_false_eq_true, true_implies, and_true, true_and, if_true, if_false, Bool.false_eq_true, c92, g1, m_pd h, a_pd, nIc, rd_pd h]
      exact kk
    · rw [if_neg g1] at kk
      simp (disch := omega) only [K83, ai_c1i, ai_c1n, ai_c1r, e_al0, e_al3, e_an0, e_an3, e_as3, e_az3, e_const, e_cs1, e_cv2, e_getR, e_iald, e_il1, e_il2, e_nn, e_nr, e_reti, e_z1, Option.toList_some, Option.toList_none, List.cons_append, List.nil_append, List.append_nil, List.length_cons, List.length_nil, Nat.reduceAdd, Nat.reduceLeDiff, Nat.zero_le, true_and, and_true, and_self, true_implies, forall_const, ai_rvs, ai_rv0, ai_b_0, Classical.not_not, q_0, q_1, q_64, q_65, q_82, q_mk, q_od, not_true_eq_false, false_implies, not_false_eq_true, true_implies, and_true, true_and, if_true, if_false, Bool.false_eq_true, c92, g1]
      exact kk
  · rw [em] at kk
    simp (disch := omega) only [K83, ai_c1i, ai_c1n, ai_c1r, e_al0, e_al3, e_an0, e_an3, e_as3, e_az3, e_const, e_cs1, e_cv2, e_getR, e_iald, e_il1, e_il2, e_nn, e_nr, e_reti, e_z1, Option.toList_some, Option.toList_none, List.cons_append, List.nil_append, List.append_nil, List.length_cons, List.length_nil, Nat.reduceAdd, Nat.reduceLeDiff, Nat.zero_le, true_and, and_true, and_self, true_implies, forall_const, ai_rvs, ai_rv0, ai_b_0, Classical.not_not, q_0, q_1, q_64, q_65, q_82, q_mk, q_od, not_true_eq_false, false_implies, not_false_eq_true, true_implies, and_true, true_and, if_true, if_false, Bool.false_eq_true]
    exact kk
theorem c82 (h : EX 1 S C I M) (hp : PC C) (hv : VB S.1 k) {t w : Int32} (kk : ∀ I', EX 1 S C I' M → Q (some (.int (p_trd S t w))) (LK, I', M)) : Cl (d + 4) 82 [.ref 0, .int t, .int w] (LK, I, M) Q := by
  have hk6 := hv.2.1
  have hk := hv.1
  unfold p_trd at kk
  by_cases g1 : nI 0 ≤ t ∧ t ≤ nI 5
  · rw [if_pos g1] at kk
    obtain ⟨t, ht, rfl⟩ := tr_of g1
    rw [nIc (by omega), hk, nIc (by omega)] at kk
    rcases sw_cases w 4 with ⟨j, hj, rfl⟩ | hx
    · rcases (by omega : j = 0 ∨ j = 1 ∨ j = 2 ∨ j = 3) with rfl | rfl | rfl | rfl
      all_goals simp (disch := omega) only [nIeq, Nat.reduceEqDiff, Nat.one_ne_zero, Nat.zero_ne_one, if_true, if_false] at kk
      · simp (disch := omega) only [E82, K82, ai_c1i, ai_c1n, ai_c1r, e_al0, e_an0, e_const, e_cs1, e_cv2, e_getR, e_iald, e_il1, e_il2, e_reti, e_sw, e_z1, Option.toList_some, Option.toList_none, List.cons_append, List.nil_append, List.append_nil, List.length_cons, List.length_nil, Nat.reduceAdd, Nat.reduceLeDiff, Nat.zero_le, true_and, and_true, and_self, true_implies, forall_const, ai_rvs, ai_rv0, ai_b_0, Classical.not_not, q_0, q_1, q_64, q_65, q_82, q_mk, q_od, not_true_eq_false, false_implies, not_false_eq_true, true_implies, and_true, true_and, if_true, if_false, Bool.false_eq_true, c92, g1, sw_in, List.getElem?_cons_zero, List.getElem?_cons_succ, Option.getD_some, m_00 h hp, m_10 h, a_bal, nIc, rd_bal h]
        exact kk I h
      · simp (disch := omega) only [E82, K82, ai_c1i, ai_c1n, ai_c1r, e_al0, e_an0, e_const, e_cs1, e_cv2, e_getR, e_iald, e_il1, e_il2, e_reti, e_sw, e_z1, Option.toList_some, Option.toList_none, List.cons_append, List.nil_append, List.append_nil, List.length_cons, List.length_nil, Nat.reduceAdd, Nat.reduceLeDiff, Nat.zero_le, true_and, and_true, and_self, true_implies, forall_const, ai_rvs, ai_rv0, ai_b_0, Classical.not_not, q_0, q_1, q_64, q_65, q_82, q_mk, q_od, not_true_eq_false, false_implies, not_false_eq_true, true_implies, and_true, true_and, if_true, if_false, Bool.false_eq_true, c92, g1, sw_in, List.getElem?_cons_zero, List.getElem?_cons_succ, Option.getD_some, m_00 h hp]
        refine c25 h hk hk6 hv.2.2 ht fun I1 h1 => ?_
        simp (disch := omega) only [K82, ai_c1i, ai_c1n, ai_c1r, e_al0, e_an0, e_const, e_cs1, e_cv2, e_getR, e_iald, e_il1, e_il2, e_reti, e_sw, e_z1, Option.toList_some, Option.toList_none, List.cons_append, List.nil_append, List.append_nil, List.length_cons, List.length_nil, Nat.reduceAdd, Nat.reduceLeDiff, Nat.zero_le, true_and, and_true, and_self, true_implies, forall_const, ai_rvs, ai_rv0, ai_b_0, Classical.not_not, q_0, q_1, q_64, q_65, q_82, q_mk, q_od, not_true_eq_false, false_implies, not_false_eq_true, true_implies, and_true, true_and, if_true, if_false, Bool.false_eq_true]
        exact kk I1 h1
      · simp (disch := omega) only [E82, K82, ai_c1i, ai_c1n, ai_c1r, e_al0, e_an0, e_const, e_cs1, e_cv2, e_getR, e_iald, e_il1, e_il2, e_reti, e_sw, e_z1, Option.toList_some, Option.toList_none, List.cons_append, List.nil_append, List.append_nil, List.length_cons, List.length_nil, Nat.reduceAdd, Nat.reduceLeDiff, Nat.zero_le, true_and, and_true, and_self, true_implies, forall_const, ai_rvs, ai_rv0, ai_b_0, Classical.not_not, q_0, q_1, q_64, q_65, q_82, q_mk, q_od, not_true_eq_false, false_implies, not_false_eq_true, true_implies, and_true, true_and, if_true, if_false, Bool.false_eq_true, c92, g1, sw_in, List.getElem?_cons_zero, List.getElem?_cons_succ, Option.getD_some, m_00 h hp, m_12 h, c6 h]
        exact kk I h
      · simp (disch := omega) only [E82, K82, ai_c1i, ai_c1n, ai_c1r, e_al0, e_an0, e_const, e_cs1, e_cv2, e_getR, e_iald, e_il1, e_il2, e_reti, e_sw, e_z1, Option.toList_some, Option.toList_none, List.cons_append, List.nil_append, List.append_nil, List.length_cons, List.length_nil, Nat.reduceAdd, Nat.reduceLeDiff, Nat.zero_le, true_and, and_true, and_self, true_implies, forall_const, ai_rvs, ai_rv0, ai_b_0, Classical.not_not, q_0, q_1, q_64, q_65, q_82, q_mk, q_od, not_true_eq_false, false_implies, not_false_eq_true, true_implies, and_true, true_and, if_true, if_false, Bool.false_eq_true, c92, g1, sw_in, List.getElem?_cons_zero, List.getElem?_cons_succ, Option.getD_some, m_00 h hp, c26 h hk hk6 hv.2.2 ht]
        exact kk I h
    · have e : ∀ j, j < 4 → (w = nI j) = False := fun j hj => eq_false (hx j hj)
      simp (disch := omega) only [e, if_false] at kk
      simp (disch := omega) only [E82, K82, ai_c1i, ai_c1n, ai_c1r, e_al0, e_an0, e_const, e_cs1, e_cv2, e_getR, e_iald, e_il1, e_il2, e_reti, e_sw, e_z1, Option.toList_some, Option.toList_none, List.cons_append, List.nil_append, List.append_nil, List.length_cons, List.length_nil, Nat.reduceAdd, Nat.reduceLeDiff, Nat.zero_le, true_and, and_true, and_self, true_implies, forall_const, ai_rvs, ai_rv0, ai_b_0, Classical.not_not, q_0, q_1, q_64, q_65, q_82, q_mk, q_od, not_true_eq_false, false_implies, not_false_eq_true, true_implies, and_true, true_and, if_true, if_false, Bool.false_eq_true, c92, g1, sw_out (n := 4) (a := 80) (tb := [40, 50, 59, 71]) rfl hx (by omega)]
      exact kk I h
  · rw [if_neg g1] at kk
    simp (disch := omega) only [E82, K82, ai_c1i, ai_c1n, ai_c1r, e_al0, e_an0, e_const, e_cs1, e_cv2, e_getR, e_iald, e_il1, e_il2, e_reti, e_sw, e_z1, Option.toList_some, Option.toList_none, List.cons_append, List.nil_append, List.append_nil, List.length_cons, List.length_nil, Nat.reduceAdd, Nat.reduceLeDiff, Nat.zero_le, true_and, and_true, and_self, true_implies, forall_const, ai_rvs, ai_rv0, ai_b_0, Classical.not_not, q_0, q_1, q_64, q_65, q_82, q_mk, q_od, not_true_eq_false, false_implies, not_false_eq_true, true_implies, and_true, true_and, if_true, if_false, Bool.false_eq_true, c92, g1]
    exact kk I h
theorem c85 (h : EX 1 S C I M) (hp : PC C) {i w : Int32} (kk : Q (some (.int (p_hist S i w))) (LK, I, M)) : Cl (d + 2) 85 [.ref 0, .int i, .int w] (LK, I, M) Q := by
  unfold p_hist at kk
  obtain ⟨T, t1, t2, t3⟩ := h.tot
  by_cases g1 : nI 0 ≤ i ∧ i < S.1 4 ∧ i < nI 30
  · rw [if_pos g1] at kk
    by_cases g2 : nI 0 ≤ w ∧ w ≤ nI 5
    · rw [if_pos g2] at kk
      obtain ⟨j, hj, rfl⟩ := nI_ofr g1.1 g1.2.2 (by omega)
      obtain ⟨p, hp6, rfl⟩ := tr_of g2
      have hjT : j < T := (nIlt (by omega) (by omega)).mp (by rw [← t2]; exact g1.2.1)
      rw [nIc (by omega), nIc (by omega)] at kk
      simp (disch := omega) only [E85, K85, ai_c1i, ai_c1n, ai_c1r, e_al0, e_an0, e_const, e_cs3, e_cv2, e_cv3, e_getR, e_il1, e_il2, e_reti, e_z1, Option.toList_some, Option.toList_none, List.cons_append, List.nil_append, List.append_nil, List.length_cons, List.length_nil, Nat.reduceAdd, Nat.reduceLeDiff, Nat.zero_le, true_and, and_true, and_self, true_implies, forall_const, ai_rvs, ai_rv0, ai_b_0, Classical.not_not, q_0, q_1, q_64, q_65, q_82, q_mk, q_od, not_true_eq_false, false_implies, not_false_eq_true, true_implies, and_true, true_and, if_true, if_false, Bool.false_eq_true, m_00 h hp, m_13 h, c33 h, g1, c95, g2, c34 h t2 hj hjT t3 hp6]
      exact kk
    · rw [if_neg g2] at kk
      simp (disch := omega) only [E85, K85, ai_c1i, ai_c1n, ai_c1r, e_al0, e_an0, e_const, e_cs3, e_cv2, e_cv3, e_getR, e_il1, e_il2, e_reti, e_z1, Option.toList_some, Option.toList_none, List.cons_append, List.nil_append, List.append_nil, List.length_cons, List.length_nil, Nat.reduceAdd, Nat.reduceLeDiff, Nat.zero_le, true_and, and_true, and_self, true_implies, forall_const, ai_rvs, ai_rv0, ai_b_0, Classical.not_not, q_0, q_1, q_64, q_65, q_82, q_mk, q_od, not_true_eq_false, false_implies, not_false_eq_true, true_implies, and_true, true_and, if_true, if_false, Bool.false_eq_true, m_00 h hp, m_13 h, c33 h, g1, c95, g2]
      exact kk
  · rw [if_neg g1] at kk
    simp (disch := omega) only [E85, K85, ai_c1i, ai_c1n, ai_c1r, e_al0, e_an0, e_const, e_cs3, e_cv2, e_cv3, e_getR, e_il1, e_il2, e_reti, e_z1, Option.toList_some, Option.toList_none, List.cons_append, List.nil_append, List.append_nil, List.length_cons, List.length_nil, Nat.reduceAdd, Nat.reduceLeDiff, Nat.zero_le, true_and, and_true, and_self, true_implies, forall_const, ai_rvs, ai_rv0, ai_b_0, Classical.not_not, q_0, q_1, q_64, q_65, q_82, q_mk, q_od, not_true_eq_false, false_implies, not_false_eq_true, true_implies, and_true, true_and, if_true, if_false, Bool.false_eq_true, m_00 h hp, m_13 h, c33 h, g1]
    exact kk
theorem c86 (h : EX 1 S C I M) (hp : PC C) (hv : VB S.1 k) {w : Int32} (kk : Q (some (.int (p_cnt S (C.1 227 1) w))) (LK, I, M)) : Cl (d + 2) 86 [.ref 0, .int w] (LK, I, M) Q := by
  have hk6 := hv.2.1
  have hk := hv.1
  have e5 : I 227 1 = C.1 227 1 := by rw [(h.1 227 (by omega)).1]
  obtain ⟨l1, l2, l3⟩ := h.len
  unfold p_cnt at kk
  rw [hk, nIc (by omega)] at kk
  rcases sw_cases w 8 with ⟨j, hj, rfl⟩ | hx
  · rcases (by omega : j = 0 ∨ j = 1 ∨ j = 2 ∨ j = 3 ∨ j = 4 ∨ j = 5 ∨ j = 6 ∨ j = 7) with rfl | rfl | rfl | rfl | rfl | rfl | rfl | rfl
    all_goals
      simp (disch := omega) only [nIeq, Nat.reduceEqDiff, Nat.one_ne_zero, Nat.zero_ne_one, if_true, if_false] at kk
      simp (disch := omega) only [E86, K86, ai_c1i, ai_c1n, ai_c1r, e_al0, e_an0, e_const, e_cv1, e_getI, e_getR, e_il1, e_reti, e_sw, Option.toList_some, Option.toList_none, List.cons_append, List.nil_append, List.append_nil, List.length_cons, List.length_nil, Nat.reduceAdd, Nat.reduceLeDiff, Nat.zero_le, true_and, and_true, and_self, true_implies, forall_const, ai_rvs, ai_rv0, ai_b_0, Classical.not_not, q_0, q_1, q_64, q_65, q_82, q_mk, q_od, not_true_eq_false, false_implies, not_false_eq_true, true_implies, and_true, true_and, if_true, if_false, Bool.false_eq_true, q_227, sw_in, List.getElem?_cons_zero, List.getElem?_cons_succ, Option.getD_some, m_00 h hp, m_02 h hp, m_12 h, m_13 h, rd_mc h, hk, c27 h hk hk6, l2, rd_time h, rd_tc h, e5, c28 h, c29 h hk hk6]
      exact kk
  · have e : ∀ j, j < 8 → (w = nI j) = False := fun j hj => eq_false (hx j hj)
    simp (disch := omega) only [e, if_false] at kk
    simp (disch := omega) only [E86, K86, ai_c1i, ai_c1n, ai_c1r, e_al0, e_an0, e_const, e_cv1, e_getI, e_getR, e_il1, e_reti, e_sw, Option.toList_some, Option.toList_none, List.cons_append, List.nil_append, List.append_nil, List.length_cons, List.length_nil, Nat.reduceAdd, Nat.reduceLeDiff, Nat.zero_le, true_and, and_true, and_self, true_implies, forall_const, ai_rvs, ai_rv0, ai_b_0, Classical.not_not, q_0, q_1, q_64, q_65, q_82, q_mk, q_od, not_true_eq_false, false_implies, not_false_eq_true, true_implies, and_true, true_and, if_true, if_false, Bool.false_eq_true, sw_out (n := 8) (a := 118) (tb := [48, 56, 64, 75, 83, 94, 102, 110]) rfl hx (by omega)]
    exact kk
end PM5
