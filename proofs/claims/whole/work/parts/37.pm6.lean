/-! orders told, ticks, settling, searches -/
def wt_l (L : List Od) (x : Int32) (p : Nat) : Int32 := match (L.filter (fun o => decide (o.2.2.1 = x)))[p]? with
  | none => -1000000001
  | some o => o.1
def p_wait (S : St) (x p : Int32) : Int32 := match mAt S.1 x with
  | none => -1000000001
  | some _ => if p < nI 0 then -1000000001 else wt_l S.2.1 x p.toNatClampNeg
def ptn (k : Nat) : Nat → St → St
  | 0, S => S
  | i + 1, S => ptk k (ptn k i S)
def p_tick (S : St) (c : Int32) : Int32 × St := if nI 1 ≤ c ∧ c ≤ nI 100 then ((ptn (S.1 1).toNatClampNeg c.toNatClampNeg S).1 0, ptn (S.1 1).toNatClampNeg c.toNatClampNeg S) else (-1000000002, S)
def p_set (S : St) (x y : Int32) : Int32 × St := match mWith S.1 x y with
  | none => (-1000000001, S)
  | some (m, o) => if S.1 (12 + 43 * m) = nI 1 then (if m_wt S.1 m = nI 0 then (pw_s S.1 m o 6, (vf (S.1 1).toNatClampNeg (pw S.1 m o, S.2)).1) else (-1000000004, S)) else (-1000000004, S)
def p_cm (S : St) (x : Int32) : Int32 × St := match mAt S.1 x with
  | none => (-1000000001, S)
  | some m => if S.1 (12 + 43 * m) = nI 0 ∨ S.1 (12 + 43 * m) = nI 1 then (nI 1 + nI (vf (S.1 1).toNatClampNeg (mv S m (nI 1))).2, (vf (S.1 1).toNatClampNeg (mv S m (nI 1))).1) else (-1000000004, S)
def sf (q : Nat → Int32) (n : Nat) (b : Int32) (o : Nat) (u : Int32) : Nat → Nat → Int32
  | 0, _ => -1000000003
  | r + 1, e => if nI 0 ≤ q o + nI e ∧ q o + nI e ≤ nI 400 then (if u ≤ m_pr (ug q o (q o + nI e)) n b o then nI e else sf q n b o u r (e + 1)) else -1000000003
def p_sf (S : St) (x y u : Int32) : Int32 := match mWith S.1 x y with
  | none => -1000000001
  | some (m, o) => if nI 1 ≤ u ∧ u ≤ nI 2880 then sf (qs S.1 m) (nN S.1 m) (S.1 (13 + 43 * m)) o u 401 0 else -1000000002
def vr (g : Nat → Int32) (l : Int32) : Nat → Nat → Int32 → Int32
  | 0, _, _ => -1000000001
  | r + 1, p, x => match mAt g x with
    | none => -1000000001
    | some m => if g (12 + 43 * m) = nI 3 then (if nI p = l then g (20 + 43 * m) else if g (20 + 43 * m) = nI 3 then vr g l r (p + 1) (g (16 + 43 * m)) else -1000000001) else -1000000001
def af (g : Nat → Int32) (m o : Nat) (bal : Int32) : Nat → Nat → Int32
  | 0, _ => nI 50
  | r + 1, i => if nI 0 ≤ qs g m o + nI i ∧ qs g m o + nI i ≤ nI 400 then (if bal < m_due g m o (nI i) then nI (i - 1) else af g m o bal r (i + 1)) else nI (i - 1)
def p_aff (S : St) (t x y : Int32) : Int32 := match mWith S.1 x y with
  | none => -1000000001
  | some (m, o) => if nI 0 ≤ t ∧ t ≤ nI 5 then af S.1 m o (S.1 (6 + t.toNatClampNeg)) 50 1 else -1000000001
theorem pw_g_o {g : Nat → Int32} {m o j : Nat} (h1 : ∀ t, t < 6 → j ≠ 6 + t) : ∀ i, i ≤ 6 → pw_g g m o i j = g j
  | 0, _ => rfl
  | i + 1, hi => by
    rw [pw_g, ug_n (h1 i (by omega))]
    exact pw_g_o h1 i (by omega)
theorem pw_K {g : Nat → Int32} {m o j : Nat} (h : cfv j) (h2 : j ≠ 19 + 43 * m) : pw g m o j = g j := by
  obtain ⟨h1, h3, h4⟩ := h
  unfold pw
  rw [ug_n h2, ug_n (h4 m).2.1, ug_n (h4 m).1, pw_g_o h3 6 (Nat.le_refl _)]
theorem ptk_K {S : St} {k j : Nat} (h : cfv j) (h0 : j ≠ 0) : (ptk k S).1 j = S.1 j := by
  unfold ptk
  rw [pt2_K h, pt1_K h]
  exact ug_n h0
theorem ptn_K {S : St} {k j : Nat} (h : cfv j) (h0 : j ≠ 0) : ∀ i, (ptn k i S).1 j = S.1 j
  | 0 => rfl
  | i + 1 => (ptk_K h h0).trans (ptn_K h h0 i)
section PM6
variable {S : St} {C : (Nat → Nat → Int32) × (Nat → Nat → Nat)} {I : Nat → Nat → Int32} {M : Nat → Nat → Nat} {m n o k T : Nat} {d : Nat} {Q : Option Value → ai_H → Prop}
theorem c73_l {c : Nat} (hc100 : c ≤ 100) (hp : PC C) (hk : S.1 1 = nI k) (hk6 : k ≤ 6) (hc : CV S.1 k) (kk : ∀ I' M', EX 1 (ptn k c S) C I' M' → Q (some (.int ((ptn k c S).1 0))) (LK, I', M')) :
    ∀ r i, r + i = c → ∀ I M, EX 1 (ptn k i S) C I M → Ev (d + 5) X0 73 15 [.ref 0, .int (nI c), .int (nI i)] [] (LK, I, M) Q
  | 0, i, hi, I, M, h => by
    obtain rfl : i = c := by omega
    have k3 := kk I M h
    rw [H73_15]
    simp (disch := omega) only [K73, ai_c1i, ai_c1n, ai_c1r, e_al0, e_an0, e_c3, e_const, e_cs3, e_cv1, e_getI, e_getR, e_goto, e_ii2, e_il1, e_il2, e_is2, e_reti, e_z1, Option.toList_some, Option.toList_none, List.cons_append, List.nil_append, List.append_nil, List.length_cons, List.length_nil, Nat.reduceAdd, Nat.reduceLeDiff, Nat.zero_le, true_and, and_true, and_self, true_implies, forall_const, ai_rvs, ai_rv0, ai_b_0, Classical.not_not, q_0, q_1, q_64, q_65, q_82, q_mk, q_od, not_true_eq_false, false_implies, not_false_eq_true, true_implies, and_true, true_and, if_true, if_false, Bool.false_eq_true, Int32.le_refl, m_00 h hp, rd_time h]
    exact k3
  | r + 1, i, hi, I, M, h => by
    have ih := c73_l hc100 hp hk hk6 hc kk r (i + 1) (by omega)
    rw [H73_15]
    simp (disch := omega) only [K73, ai_c1i, ai_c1n, ai_c1r, e_al0, e_an0, e_c3, e_const, e_cs3, e_cv1, e_getI, e_getR, e_goto, e_ii2, e_il1, e_il2, e_is2, e_reti, e_z1, Option.toList_some, Option.toList_none, List.cons_append, List.nil_append, List.append_nil, List.length_cons, List.length_nil, Nat.reduceAdd, Nat.reduceLeDiff, Nat.zero_le, true_and, and_true, and_self, true_implies, forall_const, ai_rvs, ai_rv0, ai_b_0, Classical.not_not, q_0, q_1, q_64, q_65, q_82, q_mk, q_od, not_true_eq_false, false_implies, not_false_eq_true, true_implies, and_true, true_and, if_true, if_false, Bool.false_eq_true, nIle, m_00 h hp]
    refine ⟨fun g => absurd g (by omega), fun _ => ?_⟩
    refine c19 h ((ptn_K cfv_1 (by omega) i).trans hk) hk6 (hc.of fun m => ptn_K cfv_16 (by omega) i) fun I1 M1 h1 => ?_
    simp (disch := omega) only [K73, ai_c1i, ai_c1n, ai_c1r, e_al0, e_an0, e_c3, e_const, e_cs3, e_cv1, e_getI, e_getR, e_goto, e_ii2, e_il1, e_il2, e_is2, e_reti, e_z1, Option.toList_some, Option.toList_none, List.cons_append, List.nil_append, List.append_nil, List.length_cons, List.length_nil, Nat.reduceAdd, Nat.reduceLeDiff, Nat.zero_le, true_and, and_true, and_self, true_implies, forall_const, ai_rvs, ai_rv0, ai_b_0, Classical.not_not, q_0, q_1, q_64, q_65, q_82, q_mk, q_od, nIa]
    exact ih I1 M1 h1
theorem c73 (h : EX 1 S C I M) (hp : PC C) (hv : VB S.1 k) (hc : CV S.1 k) {c : Int32} (kk : ∀ I' M', EX 1 (p_tick S c).2 C I' M' → Q (some (.int (p_tick S c).1)) (LK, I', M')) : Cl (d + 5) 73 [.ref 0, .int c] (LK, I, M) Q := by
  have hk6 := hv.2.1
  unfold p_tick at kk
  by_cases g1 : nI 1 ≤ c ∧ c ≤ nI 100
  · rw [if_pos g1] at kk
    obtain ⟨j, hj, rfl⟩ := nI_ofr (k := 101) (Int32.le_trans (nI_0le 1 (by omega)) g1.1) (Int32.lt_of_le_of_lt g1.2 ((nIlt (by omega) (by omega)).mpr (by omega))) (by omega)
    rw [hv.1, nIc (by omega), nIc (by omega)] at kk
    simp (disch := omega) only [E73, K73, ai_c1i, ai_c1n, ai_c1r, e_al0, e_an0, e_c3, e_const, e_cs3, e_cv1, e_getI, e_getR, e_goto, e_ii2, e_il1, e_il2, e_is2, e_reti, e_z1, Option.toList_some, Option.toList_none, List.cons_append, List.nil_append, List.append_nil, List.length_cons, List.length_nil, Nat.reduceAdd, Nat.reduceLeDiff, Nat.zero_le, true_and, and_true, and_self, true_implies, forall_const, ai_rvs, ai_rv0, ai_b_0, Classical.not_not, q_0, q_1, q_64, q_65, q_82, q_mk, q_od, not_true_eq_false, false_implies, not_false_eq_true, true_implies, and_true, true_and, if_true, if_false, Bool.false_eq_true, c95, g1]
    exact c73_l (by omega) hp hv.1 hk6 hc kk j 0 (by omega) I M h
  · rw [if_neg g1] at kk
    simp (disch := omega) only [E73, K73, ai_c1i, ai_c1n, ai_c1r, e_al0, e_an0, e_c3, e_const, e_cs3, e_cv1, e_getI, e_getR, e_goto, e_ii2, e_il1, e_il2, e_is2, e_reti, e_z1, Option.toList_some, Option.toList_none, List.cons_append, List.nil_append, List.append_nil, List.length_cons, List.length_nil, Nat.reduceAdd, Nat.reduceLeDiff, Nat.zero_le, true_and, and_true, and_self, true_implies, forall_const, ai_rvs, ai_rv0, ai_b_0, Classical.not_not, q_0, q_1, q_64, q_65, q_82, q_mk, q_od, not_true_eq_false, false_implies, not_false_eq_true, true_implies, and_true, true_and, if_true, if_false, Bool.false_eq_true, c95, g1]
    exact kk I M h
theorem c74 (h : EX 1 S C I M) (hp : PC C) (hv : VB S.1 k) (hc : CV S.1 k) {x y : Int32} (kk : ∀ I' M', EX 1 (p_set S x y).2 C I' M' → Q (some (.int (p_set S x y).1)) (LK, I', M')) : Cl (d + 4) 74 [.ref 0, .int x, .int y] (LK, I, M) Q := by
  have hk6 := hv.2.1
  unfold p_set at kk
  simp (disch := omega) only [E74, K74, ai_c1i, ai_c1n, ai_c1r, e_al0, e_al3, e_an0, e_an3, e_as3, e_az3, e_c1, e_const, e_cv1, e_cv2, e_cv3, e_getI, e_getR, e_il1, e_il2, e_il4, e_is4, e_popi, e_popr, e_reti, e_xn, e_xr, e_z0, Option.toList_some, Option.toList_none, List.cons_append, List.nil_append, List.append_nil, List.length_cons, List.length_nil, Nat.reduceAdd, Nat.reduceLeDiff, Nat.zero_le, true_and, and_true, and_self, true_implies, forall_const, ai_rvs, ai_rv0, ai_b_0, Classical.not_not, q_0, q_1, q_64, q_65, q_82, q_mk, q_od, not_true_eq_false, false_implies, not_false_eq_true, true_implies, and_true, true_and, if_true, if_false, Bool.false_eq_true, m_00 h hp]
  refine c10m h hv (fun m n o hm ex hn n2 n4 ho ey em => ?_) (fun em => ?_)
  · rw [em] at kk
    subst ex ey
    dsimp only at kk
    by_cases g1 : S.1 (12 + 43 * m) = nI 1
    · rw [if_pos g1] at kk
      by_cases g2 : m_wt S.1 m = nI 0
      · rw [if_pos g2, hv.1, nIc (by omega)] at kk
        simp (disch := omega) only [K74, ai_c1i, ai_c1n, ai_c1r, e_al0, e_al3, e_an0, e_an3, e_as3, e_az3, e_c1, e_const, e_cv1, e_cv2, e_cv3, e_getI, e_getR, e_il1, e_il2, e_il4, e_is4, e_popi, e_popr, e_reti, e_xn, e_xr, e_z0, Option.toList_some, Option.toList_none, List.cons_append, List.nil_append, List.append_nil, List.length_cons, List.length_nil, Nat.reduceAdd, Nat.reduceLeDiff, Nat.zero_le, true_and, and_true, and_self, true_implies, forall_const, ai_rvs, ai_rv0, ai_b_0, Classical.not_not, q_0, q_1, q_64, q_65, q_82, q_mk, q_od, not_true_eq_false, false_implies, not_false_eq_true, true_implies, and_true, true_and, if_true, if_false, Bool.false_eq_true, rd_st h, p_0, g1, m_00 h hp, c20 h hv.1 hk6 hc hm, g2]
        refine c21 h (by omega) (by omega) fun I1 h1 => ?_
        simp (disch := omega) only [K74, ai_c1i, ai_c1n, ai_c1r, e_al0, e_al3, e_an0, e_an3, e_as3, e_az3, e_c1, e_const, e_cv1, e_cv2, e_cv3, e_getI, e_getR, e_il1, e_il2, e_il4, e_is4, e_popi, e_popr, e_reti, e_xn, e_xr, e_z0, Option.toList_some, Option.toList_none, List.cons_append, List.nil_append, List.append_nil, List.length_cons, List.length_nil, Nat.reduceAdd, Nat.reduceLeDiff, Nat.zero_le, true_and, and_true, and_self, true_implies, forall_const, ai_rvs, ai_rv0, ai_b_0, Classical.not_not, q_0, q_1, q_64, q_65, q_82, q_mk, q_od, not_true_eq_false, false_implies, not_false_eq_true, true_implies, and_true, true_and, if_true, if_false, Bool.false_eq_true, m_00 h1 hp]
        refine c23 h1 ((pw_K cfv_1 (by omega)).trans hv.1) hk6 (hc.of fun m' => pw_K cfv_16 (by omega)) fun I2 M2 h2 => ?_
        simp (disch := omega) only [K74, ai_c1i, ai_c1n, ai_c1r, e_al0, e_al3, e_an0, e_an3, e_as3, e_az3, e_c1, e_const, e_cv1, e_cv2, e_cv3, e_getI, e_getR, e_il1, e_il2, e_il4, e_is4, e_popi, e_popr, e_reti, e_xn, e_xr, e_z0, Option.toList_some, Option.toList_none, List.cons_append, List.nil_append, List.append_nil, List.length_cons, List.length_nil, Nat.reduceAdd, Nat.reduceLeDiff, Nat.zero_le, true_and, and_true, and_self, true_implies, forall_const, ai_rvs, ai_rv0, ai_b_0, Classical.not_not, q_0, q_1, q_64, q_65, q_82, q_mk, q_od, not_true_eq_false, false_implies, not_false_eq_true, true_implies, and_true, true_and, if_true, if_false, Bool.false_eq_true]
        exact kk I2 M2 h2
      · rw [if_neg g2] at kk
        simp (disch := omega) only [K74, ai_c1i, ai_c1n, ai_c1r, e_al0, e_al3, e_an0, e_an3, e_as3, e_az3, e_c1, e_const, e_cv1, e_cv2, e_cv3, e_getI, e_getR, e_il1, e_il2, e_il4, e_is4, e_popi, e_popr, e_reti, e_xn, e_xr, e_z0, Option.toList_some, Option.toList_none, List.cons_append, List.nil_append, List.append_nil, List.length_cons, List.length_nil, Nat.reduceAdd, Nat.reduceLeDiff, Nat.zero_le, true_and, and_true, and_self, true_implies, forall_const, ai_rvs, ai_rv0, ai_b_0, Classical.not_not, q_0, q_1, q_64, q_65, q_82, q_mk, q_od, not_true_eq_false, false_implies, not_false_eq_true, true_implies, and_true, true_and, if_true, if_false, Bool.false_eq_true, rd_st h, p_0, g1, m_00 h hp, c20 h hv.1 hk6 hc hm, g2]
        exact kk I M h
    · rw [if_neg g1] at kk
      simp (disch := omega) only [K74, ai_c1i, ai_c1n, ai_c1r, e_al0, e_al3, e_an0, e_an3, e_as3, e_az3, e_c1, e_const, e_cv1, e_cv2, e_cv3, e_getI, e_getR, e_il1, e_il2, e_il4, e_is4, e_popi, e_popr, e_reti, e_xn, e_xr, e_z0, Option.toList_some, Option.toList_none, List.cons_append, List.nil_append, List.append_nil, List.length_cons, List.length_nil, Nat.reduceAdd, Nat.reduceLeDiff, Nat.zero_le, true_and, and_true, and_self, true_implies, forall_const, ai_rvs, ai_rv0, ai_b_0, Classical.not_not, q_0, q_1, q_64, q_65, q_82, q_mk, q_od, not_true_eq_false, false_implies, not_false_eq_true, true_implies, and_true, true_and, if_true, if_false, Bool.false_eq_true, rd_st h, p_0, g1]
      exact kk I M h
  · rw [em] at kk
    simp (disch := omega) only [K74, ai_c1i, ai_c1n, ai_c1r, e_al0, e_al3, e_an0, e_an3, e_as3, e_az3, e_c1, e_const, e_cv1, e_cv2, e_cv3, e_getI, e_getR, e_il1, e_il2, e_il4, e_is4, e_popi, e_popr, e_reti, e_xn, e_xr, e_z0, Option.toList_some, Option.toList_none, List.cons_append, List.nil_append, List.append_nil, List.length_cons, List.length_nil, Nat.reduceAdd, Nat.reduceLeDiff, Nat.zero_le, true_and, and_true, and_self, true_implies, forall_const, ai_rvs, ai_rv0, ai_b_0, Classical.not_not, q_0, q_1, q_64, q_65, q_82, q_mk, q_od, not_true_eq_false, false_implies, not_false_eq_true, true_implies, and_true, true_and, if_true, if_false, Bool.false_eq_true]
    exact kk I M h
theorem c75 (h : EX 1 S C I M) (hp : PC C) (hv : VB S.1 k) (hc : CV S.1 k) {x : Int32} (kk : ∀ I' M', EX 1 (p_cm S x).2 C I' M' → Q (some (.int (p_cm S x).1)) (LK, I', M')) : Cl (d + 4) 75 [.ref 0, .int x] (LK, I, M) Q := by
  have hk6 := hv.2.1
  unfold p_cm at kk
  simp (disch := omega) only [E75, K75, ai_c1i, ai_c1n, ai_c1r, e_al0, e_al2, e_an0, e_an2, e_as2, e_az2, e_b0, e_const, e_cv1, e_cv2, e_cv3, e_getR, e_il1, e_reti, e_xn, e_xr, e_z1, Option.toList_some, Option.toList_none, List.cons_append, List.nil_append, List.append_nil, List.length_cons, List.length_nil, Nat.reduceAdd, Nat.reduceLeDiff, Nat.zero_le, true_and, and_true, and_self, true_implies, forall_const, ai_rvs, ai_rv0, ai_b_0, Classical.not_not, q_0, q_1, q_64, q_65, q_82, q_mk, q_od, not_true_eq_false, false_implies, not_false_eq_true, true_implies, and_true, true_and, if_true, if_false, Bool.false_eq_true, m_00 h hp]
  refine c9m h hv (fun m hm ex em => ?_) (fun em => ?_)
  · rw [em] at kk
    subst ex
    dsimp only at kk
    by_cases g1 : S.1 (12 + 43 * m) = nI 0 ∨ S.1 (12 + 43 * m) = nI 1
    · rw [if_pos g1, hv.1, nIc (by omega)] at kk
      simp (disch := omega) only [K75, ai_c1i, ai_c1n, ai_c1r, e_al0, e_al2, e_an0, e_an2, e_as2, e_az2, e_b0, e_const, e_cv1, e_cv2, e_cv3, e_getR, e_il1, e_reti, e_xn, e_xr, e_z1, Option.toList_some, Option.toList_none, List.cons_append, List.nil_append, List.append_nil, List.length_cons, List.length_nil, Nat.reduceAdd, Nat.reduceLeDiff, Nat.zero_le, true_and, and_true, and_self, true_implies, forall_const, ai_rvs, ai_rv0, ai_b_0, Classical.not_not, q_0, q_1, q_64, q_65, q_82, q_mk, q_od, not_true_eq_false, false_implies, not_false_eq_true, true_implies, and_true, true_and, if_true, if_false, Bool.false_eq_true, c37 h, g1, m_00 h hp]
      refine c22 h (by omega) fun I1 M1 h1 => ?_
      simp (disch := omega) only [K75, ai_c1i, ai_c1n, ai_c1r, e_al0, e_al2, e_an0, e_an2, e_as2, e_az2, e_b0, e_const, e_cv1, e_cv2, e_cv3, e_getR, e_il1, e_reti, e_xn, e_xr, e_z1, Option.toList_some, Option.toList_none, List.cons_append, List.nil_append, List.append_nil, List.length_cons, List.length_nil, Nat.reduceAdd, Nat.reduceLeDiff, Nat.zero_le, true_and, and_true, and_self, true_implies, forall_const, ai_rvs, ai_rv0, ai_b_0, Classical.not_not, q_0, q_1, q_64, q_65, q_82, q_mk, q_od, not_true_eq_false, false_implies, not_false_eq_true, true_implies, and_true, true_and, if_true, if_false, Bool.false_eq_true, m_00 h1 hp]
      refine c23 h1 ((mv_K cfv_1).trans hv.1) hk6 (hc.of fun m' => mv_K cfv_16) fun I2 M2 h2 => ?_
      simp (disch := omega) only [K75, ai_c1i, ai_c1n, ai_c1r, e_al0, e_al2, e_an0, e_an2, e_as2, e_az2, e_b0, e_const, e_cv1, e_cv2, e_cv3, e_getR, e_il1, e_reti, e_xn, e_xr, e_z1, Option.toList_some, Option.toList_none, List.cons_append, List.nil_append, List.append_nil, List.length_cons, List.length_nil, Nat.reduceAdd, Nat.reduceLeDiff, Nat.zero_le, true_and, and_true, and_self, true_implies, forall_const, ai_rvs, ai_rv0, ai_b_0, Classical.not_not, q_0, q_1, q_64, q_65, q_82, q_mk, q_od, not_true_eq_false, false_implies, not_false_eq_true, true_implies, and_true, true_and, if_true, if_false, Bool.false_eq_true]
      exact kk I2 M2 h2
    · rw [if_neg g1] at kk
      simp (disch := omega) only [K75, ai_c1i, ai_c1n, ai_c1r, e_al0, e_al2, e_an0, e_an2, e_as2, e_az2, e_b0, e_const, e_cv1, e_cv2, e_cv3, e_getR, e_il1, e_reti, e_xn, e_xr, e_z1, Option.toList_some, Option.toList_none, List.cons_append, List.nil_append, List.append_nil, List.length_cons, List.length_nil, Nat.reduceAdd, Nat.reduceLeDiff, Nat.zero_le, true_and, and_true, and_self, true_implies, forall_const, ai_rvs, ai_rv0, ai_b_0, Classical.not_not, q_0, q_1, q_64, q_65, q_82, q_mk, q_od, not_true_eq_false, false_implies, not_false_eq_true, true_implies, and_true, true_and, if_true, if_false, Bool.false_eq_true, c37 h, g1]
      exact kk I M h
  · rw [em] at kk
    simp (disch := omega) only [K75, ai_c1i, ai_c1n, ai_c1r, e_al0, e_al2, e_an0, e_an2, e_as2, e_az2, e_b0, e_const, e_cv1, e_cv2, e_cv3, e_getR, e_il1, e_reti, e_xn, e_xr, e_z1, Option.toList_some, Option.toList_none, List.cons_append, List.nil_append, List.append_nil, List.length_cons, List.length_nil, Nat.reduceAdd, Nat.reduceLeDiff, Nat.zero_le, true_and, and_true, and_self, true_implies, forall_const, ai_rvs, ai_rv0, ai_b_0, Classical.not_not, q_0, q_1, q_64, q_65, q_82, q_mk, q_od, not_true_eq_false, false_implies, not_false_eq_true, true_implies, and_true, true_and, if_true, if_false, Bool.false_eq_true]
    exact kk I M h
theorem c71 (h : EX 1 S C I M) (hp : PC C) (hv : VB S.1 k) (hu : UN S.2.1) (ho : OMv S.2.1 S.1 k) {x w : Int32} (kk : ∀ I', EX 1 S C I' M → Q (some (.int (p_ord S x w))) (LK, I', M)) : Cl (d + 4) 71 [.ref 0, .int x, .int w] (LK, I, M) Q := by
  unfold p_ord at kk
  obtain ⟨l1, l2, l3⟩ := h.len
  obtain ⟨p, p0, p1, p2, p3⟩ := h.rows
  simp (disch := omega) only [E71, K71, ai_c1i, ai_c1n, ai_c1r, e_aald, e_al0, e_al4, e_an0, e_an4, e_as4, e_az4, e_c1, e_const, e_cv2, e_getI, e_getR, e_il1, e_il2, e_il3, e_is3, e_reti, e_sw, Option.toList_some, Option.toList_none, List.cons_append, List.nil_append, List.append_nil, List.length_cons, List.length_nil, Nat.reduceAdd, Nat.reduceLeDiff, Nat.zero_le, true_and, and_true, and_self, true_implies, forall_const, ai_rvs, ai_rv0, ai_b_0, Classical.not_not, q_0, q_1, q_64, q_65, q_82, q_mk, q_od, not_true_eq_false, false_implies, not_false_eq_true, true_implies, and_true, true_and, if_true, if_false, Bool.false_eq_true, m_00 h hp, m_12 h]
  refine c3 h (fun i o hi e => ?_) (fun hno => ?_)
  · obtain ⟨f1, f2⟩ := un_find hu hi e
    have h8 : i < S.2.1.length := (List.getElem?_eq_some_iff.mp hi).1
    have hpi := p0 i (by omega)
    have r := p3 i o hi
    have ne : (nI i = -1) = False := eq_false (nI_ne_m1 (by omega))
    rw [f1] at kk
    dsimp only at kk
    rcases sw_cases w 6 with ⟨j, hj, rfl⟩ | hx
    · rcases (by omega : (j = 0 ∨ j = 1 ∨ j = 2 ∨ j = 3 ∨ j = 4) ∨ j = 5) with (rfl | rfl | rfl | rfl | rfl) | rfl
      any_goals
        simp (disch := omega) only [nIeq, Nat.reduceEqDiff, Nat.one_ne_zero, Nat.zero_ne_one, if_true, if_false] at kk
        simp (disch := omega) only [K71, ai_c1i, ai_c1n, ai_c1r, e_aald, e_al0, e_al4, e_an0, e_an4, e_as4, e_az4, e_c1, e_const, e_cv2, e_getI, e_getR, e_il1, e_il2, e_il3, e_is3, e_reti, e_sw, Option.toList_some, Option.toList_none, List.cons_append, List.nil_append, List.append_nil, List.length_cons, List.length_nil, Nat.reduceAdd, Nat.reduceLeDiff, Nat.zero_le, true_and, and_true, and_self, true_implies, forall_const, ai_rvs, ai_rv0, ai_b_0, Classical.not_not, q_0, q_1, q_64, q_65, q_82, q_mk, q_od, not_true_eq_false, false_implies, not_false_eq_true, true_implies, and_true, true_and, if_true, if_false, Bool.false_eq_true, ne, m_00 h hp, m_12 h, m_bo h, a_od, nIc, p1, sw_in, List.getElem?_cons_zero, List.getElem?_cons_succ, Option.getD_some, r.2.1, r.2.2.1, r.2.2.2.1, r.2.2.2.2.1, r.2.2.2.2.2]
        exact kk I h
      simp (disch := omega) only [nIeq, Nat.reduceEqDiff, Nat.one_ne_zero, Nat.zero_ne_one, if_true, if_false] at kk
      simp (disch := omega) only [K71, ai_c1i, ai_c1n, ai_c1r, e_aald, e_al0, e_al4, e_an0, e_an4, e_as4, e_az4, e_c1, e_const, e_cv2, e_getI, e_getR, e_il1, e_il2, e_il3, e_is3, e_reti, e_sw, Option.toList_some, Option.toList_none, List.cons_append, List.nil_append, List.append_nil, List.length_cons, List.length_nil, Nat.reduceAdd, Nat.reduceLeDiff, Nat.zero_le, true_and, and_true, and_self, true_implies, forall_const, ai_rvs, ai_rv0, ai_b_0, Classical.not_not, q_0, q_1, q_64, q_65, q_82, q_mk, q_od, not_true_eq_false, false_implies, not_false_eq_true, true_implies, and_true, true_and, if_true, if_false, Bool.false_eq_true, ne, m_00 h hp, m_12 h, m_bo h, a_od, nIc, p1, sw_in, List.getElem?_cons_zero, List.getElem?_cons_succ, Option.getD_some]
      obtain ⟨m, n, oo, t, hm, em, en, n4, hoo, eo, ht, et⟩ := ho o (List.mem_of_getElem? hi)
      refine c17 h hv.1 hv.2.1 hv.2.2 hi (p1 i (by omega)) hm em en n4 hoo eo ht et fun I1 h1 => ?_
      simp (disch := omega) only [K71, ai_c1i, ai_c1n, ai_c1r, e_aald, e_al0, e_al4, e_an0, e_an4, e_as4, e_az4, e_c1, e_const, e_cv2, e_getI, e_getR, e_il1, e_il2, e_il3, e_is3, e_reti, e_sw, Option.toList_some, Option.toList_none, List.cons_append, List.nil_append, List.append_nil, List.length_cons, List.length_nil, Nat.reduceAdd, Nat.reduceLeDiff, Nat.zero_le, true_and, and_true, and_self, true_implies, forall_const, ai_rvs, ai_rv0, ai_b_0, Classical.not_not, q_0, q_1, q_64, q_65, q_82, q_mk, q_od, not_true_eq_false, false_implies, not_false_eq_true, true_implies, and_true, true_and, if_true, if_false, Bool.false_eq_true]
      exact kk I1 h1
    · have e : ∀ j, j < 6 → (w = nI j) = False := fun j hj => eq_false (hx j hj)
      simp (disch := omega) only [e, if_false] at kk
      simp (disch := omega) only [K71, ai_c1i, ai_c1n, ai_c1r, e_aald, e_al0, e_al4, e_an0, e_an4, e_as4, e_az4, e_c1, e_const, e_cv2, e_getI, e_getR, e_il1, e_il2, e_il3, e_is3, e_reti, e_sw, Option.toList_some, Option.toList_none, List.cons_append, List.nil_append, List.append_nil, List.length_cons, List.length_nil, Nat.reduceAdd, Nat.reduceLeDiff, Nat.zero_le, true_and, and_true, and_self, true_implies, forall_const, ai_rvs, ai_rv0, ai_b_0, Classical.not_not, q_0, q_1, q_64, q_65, q_82, q_mk, q_od, not_true_eq_false, false_implies, not_false_eq_true, true_implies, and_true, true_and, if_true, if_false, Bool.false_eq_true, ne, m_00 h hp, m_12 h, m_bo h, a_od, nIc, p1, sw_out (n := 6) (a := 112) (tb := [72, 78, 84, 90, 96, 102]) rfl hx (by omega)]
      exact kk I h
  · rw [no_find hno] at kk
    simp (disch := omega) only [K71, ai_c1i, ai_c1n, ai_c1r, e_aald, e_al0, e_al4, e_an0, e_an4, e_as4, e_az4, e_c1, e_const, e_cv2, e_getI, e_getR, e_il1, e_il2, e_il3, e_is3, e_reti, e_sw, Option.toList_some, Option.toList_none, List.cons_append, List.nil_append, List.append_nil, List.length_cons, List.length_nil, Nat.reduceAdd, Nat.reduceLeDiff, Nat.zero_le, true_and, and_true, and_self, true_implies, forall_const, ai_rvs, ai_rv0, ai_b_0, Classical.not_not, q_0, q_1, q_64, q_65, q_82, q_mk, q_od, not_true_eq_false, false_implies, not_false_eq_true, true_implies, and_true, true_and, if_true, if_false, Bool.false_eq_true]
    exact kk I h
end PM6
