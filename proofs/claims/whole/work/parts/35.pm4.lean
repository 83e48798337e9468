/-! orders, ticks, settling -/
/-- numbers of orders are their own -/
def UN (L : List Od) : Prop := L.Pairwise (fun a b => a.1 ≠ b.1)
/-- limits don't rise along the orders -/
def PWL (L : List Od) : Prop := L.Pairwise (fun x y => y.2.2.2.2.2 ≤ x.2.2.2.2.2)
def nq (x : Int32) (o : Od) : Bool := decide (o.1 = x)
theorem un_find {x : Int32} : ∀ {L : List Od} {i : Nat} {o : Od}, UN L → L[i]? = some o → o.1 = x → L.find? (nq x) = some o ∧ L.filter (fun o => !nq x o) = L.eraseIdx i
  | [], i, o, _, h, _ => by simp at h
  | a :: L, 0, o, hu, h, e => by
    cases h
    have hq : nq x a = true := decide_eq_true e
    rw [UN, List.pairwise_cons] at hu
    refine ⟨by rw [List.find?_cons_of_pos hq], ?_⟩
    rw [List.filter_cons_of_neg (by rw [hq]; exact Bool.false_ne_true), List.eraseIdx_zero]
    exact List.filter_eq_self.mpr fun b hb => by
      have : nq x b = false := decide_eq_false fun e2 => hu.1 b hb (e.trans e2.symm)
      rw [this]; rfl
  | a :: L, i + 1, o, hu, h, e => by
    rw [UN, List.pairwise_cons] at hu
    have h' : L[i]? = some o := h
    have hq : nq x a = false := decide_eq_false fun e2 => hu.1 o (List.mem_of_getElem? h') (e2.trans e.symm)
    obtain ⟨h1, h2⟩ := un_find hu.2 h' e
    refine ⟨by rw [List.find?_cons_of_neg (by rw [hq]; exact Bool.false_ne_true), h1], ?_⟩
    rw [List.filter_cons_of_pos (by rw [hq]; rfl), h2]
    rfl
theorem no_find {x : Int32} {L : List Od} (h : ∀ (i : Nat) (o : Od), L[i]? = some o → o.1 ≠ x) : L.find? (nq x) = none := by
  rw [List.find?_eq_none]
  intro o ho
  obtain ⟨i, hi, rfl⟩ := List.mem_iff_getElem.mp ho
  have := h i _ (List.getElem?_eq_getElem hi)
  unfold nq
  rw [decide_eq_false this]
  exact Bool.false_ne_true
def ins (S : St) (x : Od) : St := (ug (ug S.1 3 (nI (S.2.1.length + 1))) 2 (S.1 2 + nI 1), l_in x S.2.1, S.2.2)
def rmv (S : St) (x : Int32) : St := (ug S.1 3 (nI (S.2.1.filter (fun o => !nq x o)).length), S.2.1.filter (fun o => !nq x o), S.2.2)
def p_place (S : St) (t x y c lim : Int32) : Int32 × St := if nI 0 ≤ t ∧ t ≤ nI 5 then (if nI 1 ≤ c ∧ c ≤ nI 50 then (if nI 1 ≤ lim ∧ lim ≤ nI 2880 then (match mWith S.1 x y with
  | none => (-1000000001, S)
  | some (m, _) => if S.1 (12 + 43 * m) = nI 0 then (if S.2.1.length = 16 then (-1000000003, S) else (S.1 2, xo 800 m (ins S (S.1 2, t, x, y, c, lim)))) else (-1000000004, S)) else (-1000000002, S)) else (-1000000002, S)) else (-1000000002, S)
def p_canc (S : St) (x : Int32) : Int32 × St := match S.2.1.find? (nq x) with
  | none => (-1000000001, S)
  | some o => (o.2.2.2.2.1, rmv S x)
def p_ord (S : St) (x w : Int32) : Int32 := match S.2.1.find? (nq x) with
  | none => -1000000001
  | some o => if w = nI 0 then o.2.1 else if w = nI 1 then o.2.2.1 else if w = nI 2 then o.2.2.2.1 else if w = nI 3 then o.2.2.2.2.1 else if w = nI 4 then o.2.2.2.2.2 else if w = nI 5 then m_oo S.1 o else -1000000002
theorem l_in_mem {o x : Od} : ∀ {L : List Od}, x ∈ l_in o L → x = o ∨ x ∈ L
  | [], h => by
    rw [l_in, List.mem_singleton] at h
    exact Or.inl h
  | y :: L, h => by
    rw [l_in] at h
    split at h
    · exact List.mem_cons.mp h
    · rcases List.mem_cons.mp h with rfl | h
      · exact Or.inr (List.mem_cons_self ..)
      · exact (l_in_mem h).imp id (List.mem_cons_of_mem _)
section PM4
variable {S : St} {C : (Nat → Nat → Int32) × (Nat → Nat → Nat)} {I : Nat → Nat → Int32} {M : Nat → Nat → Nat} {m n o k T : Nat} {d : Nat} {Q : Option Value → ai_H → Prop}
theorem nI_ne_full {N : Nat} (h : N < 2147483648) : nI N ≠ -1000000003 := fun e => by
  have h1 := congrArg Int32.toInt e
  rw [nI_toInt h, show (-1000000003 : Int32).toInt = -1000000003 by decide] at h1
  omega
theorem c69 {N : Nat} (h : EX 1 S C I M) (hp : PC C) (hv : VB S.1 k) (hT : S.1 4 = nI T) (hb : T < 999980000) (hov : OV S.2.1) (hpw : PWL S.2.1) (hN : S.1 2 = nI N) (hN2 : N < 2147483648) {t x y c lim : Int32} (kk : ∀ I' M', EX 1 (p_place S t x y c lim).2 C I' M' → Q (some (.int (p_place S t x y c lim).1)) (LK, I', M')) : Cl (d + 5) 69 [.ref 0, .int t, .int x, .int y, .int c, .int lim] (LK, I, M) Q := by
  have hk6 := hv.2.1
  unfold p_place at kk
  by_cases g1 : nI 0 ≤ t ∧ t ≤ nI 5
  · rw [if_pos g1] at kk
    obtain ⟨t, ht, rfl⟩ := tr_of g1
    by_cases g2 : nI 1 ≤ c ∧ c ≤ nI 50
    · rw [if_pos g2] at kk
      by_cases g6 : nI 1 ≤ lim ∧ lim ≤ nI 2880
      · rw [if_pos g6] at kk
        simp (disch := omega) only [E69, K69, ai_c1i, ai_c1n, ai_c1r, e_al0, e_al6, e_an0, e_an6, e_as6, e_az6, e_c0, e_const, e_cs1, e_cs3, e_cv2, e_cv3, e_cv6, e_getI, e_getR, e_il1, e_il2, e_il3, e_il4, e_il5, e_il7, e_is7, e_reti, e_xn, e_xr, e_z0, e_z1, Option.toList_some, Option.toList_none, List.cons_append, List.nil_append, List.append_nil, List.length_cons, List.length_nil, Nat.reduceAdd, Nat.reduceLeDiff, Nat.zero_le, true_and, and_true, and_self, true_implies, forall_const, ai_rvs, ai_rv0, ai_b_0, Classical.not_not, q_0, q_1, q_64, q_65, q_82, q_mk, q_od, not_true_eq_false, false_implies, not_false_eq_true, true_implies, and_true, true_and, if_true, if_false, Bool.false_eq_true, c92, c95, g1, g2, g6, m_00 h hp]
        refine c10m h hv (fun m n o hm ex hn n2 n4 ho ey em => ?_) (fun em => ?_)
        · rw [em] at kk
          dsimp only at kk
          subst ex ey
          by_cases g3 : S.1 (12 + 43 * m) = nI 0
          · rw [if_pos g3] at kk
            simp (disch := omega) only [K69, ai_c1i, ai_c1n, ai_c1r, e_al0, e_al6, e_an0, e_an6, e_as6, e_az6, e_c0, e_const, e_cs1, e_cs3, e_cv2, e_cv3, e_cv6, e_getI, e_getR, e_il1, e_il2, e_il3, e_il4, e_il5, e_il7, e_is7, e_reti, e_xn, e_xr, e_z0, e_z1, Option.toList_some, Option.toList_none, List.cons_append, List.nil_append, List.append_nil, List.length_cons, List.length_nil, Nat.reduceAdd, Nat.reduceLeDiff, Nat.zero_le, true_and, and_true, and_self, true_implies, forall_const, ai_rvs, ai_rv0, ai_b_0, Classical.not_not, q_0, q_1, q_64, q_65, q_82, q_mk, q_od, not_true_eq_false, false_implies, not_false_eq_true, true_implies, and_true, true_and, if_true, if_false, Bool.false_eq_true, rd_st h, p_0, g3, m_00 h hp, m_12 h]
            refine c2 h (fun hf => ?_) (fun hf j I1 M1 hj g8 g9 h1 => ?_)
            · rw [if_pos hf] at kk
              simp (disch := omega) only [K69, ai_c1i, ai_c1n, ai_c1r, e_al0, e_al6, e_an0, e_an6, e_as6, e_az6, e_c0, e_const, e_cs1, e_cs3, e_cv2, e_cv3, e_cv6, e_getI, e_getR, e_il1, e_il2, e_il3, e_il4, e_il5, e_il7, e_is7, e_reti, e_xn, e_xr, e_z0, e_z1, Option.toList_some, Option.toList_none, List.cons_append, List.nil_append, List.append_nil, List.length_cons, List.length_nil, Nat.reduceAdd, Nat.reduceLeDiff, Nat.zero_le, true_and, and_true, and_self, true_implies, forall_const, ai_rvs, ai_rv0, ai_b_0, Classical.not_not, q_0, q_1, q_64, q_65, q_82, q_mk, q_od, not_true_eq_false, false_implies, not_false_eq_true, true_implies, and_true, true_and, if_true, if_false, Bool.false_eq_true]
              exact kk I M h
            · rw [if_neg (by omega)] at kk
              rw [l_in_at hpw hj g8 g9] at h1
              have ne : (S.1 2 = -1000000003) = False := eq_false (by rw [hN]; exact nI_ne_full hN2)
              simp (disch := omega) only [K69, ai_c1i, ai_c1n, ai_c1r, e_al0, e_al6, e_an0, e_an6, e_as6, e_az6, e_c0, e_const, e_cs1, e_cs3, e_cv2, e_cv3, e_cv6, e_getI, e_getR, e_il1, e_il2, e_il3, e_il4, e_il5, e_il7, e_is7, e_reti, e_xn, e_xr, e_z0, e_z1, Option.toList_some, Option.toList_none, List.cons_append, List.nil_append, List.append_nil, List.length_cons, List.length_nil, Nat.reduceAdd, Nat.reduceLeDiff, Nat.zero_le, true_and, and_true, and_self, true_implies, forall_const, ai_rvs, ai_rv0, ai_b_0, Classical.not_not, q_0, q_1, q_64, q_65, q_82, q_mk, q_od, not_true_eq_false, false_implies, not_false_eq_true, true_implies, and_true, true_and, if_true, if_false, Bool.false_eq_true, ne, m_00 h1 hp]
              refine c15 (T := T) h1 (by dsimp only; rw [ug_n (by omega), ug_n (by omega)]; exact hT) (by omega) (by omega) (by dsimp only; rw [ug_n (by omega), ug_n (by omega)]; exact hn) n4 ?_ fun I3 M3 h3 => ?_
              · intro z hz
                rcases l_in_mem hz with rfl | hz
                · exact ⟨t, o, ht, by omega, rfl, rfl⟩
                · exact hov z hz
              · simp (disch := omega) only [K69, ai_c1i, ai_c1n, ai_c1r, e_al0, e_al6, e_an0, e_an6, e_as6, e_az6, e_c0, e_const, e_cs1, e_cs3, e_cv2, e_cv3, e_cv6, e_getI, e_getR, e_il1, e_il2, e_il3, e_il4, e_il5, e_il7, e_is7, e_reti, e_xn, e_xr, e_z0, e_z1, Option.toList_some, Option.toList_none, List.cons_append, List.nil_append, List.append_nil, List.length_cons, List.length_nil, Nat.reduceAdd, Nat.reduceLeDiff, Nat.zero_le, true_and, and_true, and_self, true_implies, forall_const, ai_rvs, ai_rv0, ai_b_0, Classical.not_not, q_0, q_1, q_64, q_65, q_82, q_mk, q_od, not_true_eq_false, false_implies, not_false_eq_true, true_implies, and_true, true_and, if_true, if_false, Bool.false_eq_true]
                exact kk I3 M3 h3
          · rw [if_neg g3] at kk
            simp (disch := omega) only [K69, ai_c1i, ai_c1n, ai_c1r, e_al0, e_al6, e_an0, e_an6, e_as6, e_az6, e_c0, e_const, e_cs1, e_cs3, e_cv2, e_cv3, e_cv6, e_getI, e_getR, e_il1, e_il2, e_il3, e_il4, e_il5, e_il7, e_is7, e_reti, e_xn, e_xr, e_z0, e_z1, Option.toList_some, Option.toList_none, List.cons_append, List.nil_append, List.append_nil, List.length_cons, List.length_nil, Nat.reduceAdd, Nat.reduceLeDiff, Nat.zero_le, true_and, and_true, and_self, true_implies, forall_const, ai_rvs, ai_rv0, ai_b_0, Classical.not_not, q_0, q_1, q_64, q_65, q_82, q_mk, q_od, not_true_eq_false, false_implies, not_false_eq_true, true_implies, and_true, true_and, if_true, if_false, Bool.false_eq_true, rd_st h, p_0, g3]
            exact kk I M h
        · rw [em] at kk
          simp (disch := omega) only [K69, ai_c1i, ai_c1n, ai_c1r, e_al0, e_al6, e_an0, e_an6, e_as6, e_az6, e_c0, e_const, e_cs1, e_cs3, e_cv2, e_cv3, e_cv6, e_getI, e_getR, e_il1, e_il2, e_il3, e_il4, e_il5, e_il7, e_is7, e_reti, e_xn, e_xr, e_z0, e_z1, Option.toList_some, Option.toList_none, List.cons_append, List.nil_append, List.append_nil, List.length_cons, List.length_nil, Nat.reduceAdd, Nat.reduceLeDiff, Nat.zero_le, true_and, and_true, and_self, true_implies, forall_const, ai_rvs, ai_rv0, ai_b_0, Classical.not_not, q_0, q_1, q_64, q_65, q_82, q_mk, q_od, not_true_eq_false, false_implies, not_false_eq_true, true_implies, and_true, true_and, if_true, if_false, Bool.false_eq_true]
          exact kk I M h
      · rw [if_neg g6] at kk
        simp (disch := omega) only [E69, K69, ai_c1i, ai_c1n, ai_c1r, e_al0, e_al6, e_an0, e_an6, e_as6, e_az6, e_c0, e_const, e_cs1, e_cs3, e_cv2, e_cv3, e_cv6, e_getI, e_getR, e_il1, e_il2, e_il3, e_il4, e_il5, e_il7, e_is7, e_reti, e_xn, e_xr, e_z0, e_z1, Option.toList_some, Option.toList_none, List.cons_append, List.nil_append, List.append_nil, List.length_cons, List.length_nil, Nat.reduceAdd, Nat.reduceLeDiff, Nat.zero_le, true_and, and_true, and_self, true_implies, forall_const, ai_rvs, ai_rv0, ai_b_0, Classical.not_not, q_0, q_1, q_64, q_65, q_82, q_mk, q_od, not_true_eq_false, false_implies, not_false_eq_true, true_implies, and_true, true_and, if_true, if_false, Bool.false_eq_true, c92, c95, g1, g2, g6]
        exact kk I M h
    · rw [if_neg g2] at kk
      simp (disch := omega) only [E69, K69, ai_c1i, ai_c1n, ai_c1r, e_al0, e_al6, e_an0, e_an6, e_as6, e_az6, e_c0, e_const, e_cs1, e_cs3, e_cv2, e_cv3, e_cv6, e_getI, e_getR, e_il1, e_il2, e_il3, e_il4, e_il5, e_il7, e_is7, e_reti, e_xn, e_xr, e_z0, e_z1, Option.toList_some, Option.toList_none, List.cons_append, List.nil_append, List.append_nil, List.length_cons, List.length_nil, Nat.reduceAdd, Nat.reduceLeDiff, Nat.zero_le, true_and, and_true, and_self, true_implies, forall_const, ai_rvs, ai_rv0, ai_b_0, Classical.not_not, q_0, q_1, q_64, q_65, q_82, q_mk, q_od, not_true_eq_false, false_implies, not_false_eq_true, true_implies, and_true, true_and, if_true, if_false, Bool.false_eq_true, c92, c95, g1, g2]
      exact kk I M h
  · rw [if_neg g1] at kk
    simp (disch := omega) only [E69, K69, ai_c1i, ai_c1n, ai_c1r, e_al0, e_al6, e_an0, e_an6, e_as6, e_az6, e_c0, e_const, e_cs1, e_cs3, e_cv2, e_cv3, e_cv6, e_getI, e_getR, e_il1, e_il2, e_il3, e_il4, e_il5, e_il7, e_is7, e_reti, e_xn, e_xr, e_z0, e_z1, Option.toList_some, Option.toList_none, List.cons_append, List.nil_append, List.append_nil, List.length_cons, List.length_nil, Nat.reduceAdd, Nat.reduceLeDiff, Nat.zero_le, true_and, and_true, and_self, true_implies, forall_const, ai_rvs, ai_rv0, ai_b_0, Classical.not_not, q_0, q_1, q_64, q_65, q_82, q_mk, q_od, not_true_eq_false, false_implies, not_false_eq_true, true_implies, and_true, true_and, if_true, if_false, Bool.false_eq_true, c92, g1]
    exact kk I M h
theorem c70 (h : EX 1 S C I M) (hp : PC C) (hu : UN S.2.1) {x : Int32} (kk : ∀ I' M', EX 1 (p_canc S x).2 C I' M' → Q (some (.int (p_canc S x).1)) (LK, I', M')) : Cl (d + 1) 70 [.ref 0, .int x] (LK, I, M) Q := by
  unfold p_canc at kk
  obtain ⟨l1, l2, l3⟩ := h.len
  obtain ⟨p, p0, p1, p2, p3⟩ := h.rows
  simp (disch := omega) only [E70, K70, ai_c1i, ai_c1n, ai_c1r, e_aald, e_al0, e_an0, e_c1, e_const, e_cv2, e_getI, e_getR, e_il1, e_il2, e_il3, e_is2, e_is3, e_reti, Option.toList_some, Option.toList_none, List.cons_append, List.nil_append, List.append_nil, List.length_cons, List.length_nil, Nat.reduceAdd, Nat.reduceLeDiff, Nat.zero_le, true_and, and_true, and_self, true_implies, forall_const, ai_rvs, ai_rv0, ai_b_0, Classical.not_not, q_0, q_1, q_64, q_65, q_82, q_mk, q_od, not_true_eq_false, false_implies, not_false_eq_true, true_implies, and_true, true_and, if_true, if_false, Bool.false_eq_true, m_00 h hp, m_12 h]
  refine c3 h (fun i o hi e => ?_) (fun hno => ?_)
  · obtain ⟨f1, f2⟩ := un_find hu hi e
    have h8 : i < S.2.1.length := (List.getElem?_eq_some_iff.mp hi).1
    have hpi := p0 i (by omega)
    have ne : (nI i = -1) = False := eq_false (nI_ne_m1 (by omega))
    rw [f1] at kk
    dsimp only [rmv] at kk
    rw [f2] at kk
    simp (disch := omega) only [K70, ai_c1i, ai_c1n, ai_c1r, e_aald, e_al0, e_an0, e_c1, e_const, e_cv2, e_getI, e_getR, e_il1, e_il2, e_il3, e_is2, e_is3, e_reti, Option.toList_some, Option.toList_none, List.cons_append, List.nil_append, List.append_nil, List.length_cons, List.length_nil, Nat.reduceAdd, Nat.reduceLeDiff, Nat.zero_le, true_and, and_true, and_self, true_implies, forall_const, ai_rvs, ai_rv0, ai_b_0, Classical.not_not, q_0, q_1, q_64, q_65, q_82, q_mk, q_od, not_true_eq_false, false_implies, not_false_eq_true, true_implies, and_true, true_and, if_true, if_false, Bool.false_eq_true, ne, m_00 h hp, m_12 h, m_bo h, a_od, nIc, p1, (p3 i o hi).2.2.2.2.1]
    refine c4 h h8 fun I1 M1 h1 => ?_
    simp (disch := omega) only [K70, ai_c1i, ai_c1n, ai_c1r, e_aald, e_al0, e_an0, e_c1, e_const, e_cv2, e_getI, e_getR, e_il1, e_il2, e_il3, e_is2, e_is3, e_reti, Option.toList_some, Option.toList_none, List.cons_append, List.nil_append, List.append_nil, List.length_cons, List.length_nil, Nat.reduceAdd, Nat.reduceLeDiff, Nat.zero_le, true_and, and_true, and_self, true_implies, forall_const, ai_rvs, ai_rv0, ai_b_0, Classical.not_not, q_0, q_1, q_64, q_65, q_82, q_mk, q_od, not_true_eq_false, false_implies, not_false_eq_true, true_implies, and_true, true_and, if_true, if_false, Bool.false_eq_true]
    exact kk I1 M1 h1
  · rw [no_find hno] at kk
    simp (disch := omega) only [K70, ai_c1i, ai_c1n, ai_c1r, e_aald, e_al0, e_an0, e_c1, e_const, e_cv2, e_getI, e_getR, e_il1, e_il2, e_il3, e_is2, e_is3, e_reti, Option.toList_some, Option.toList_none, List.cons_append, List.nil_append, List.append_nil, List.length_cons, List.length_nil, Nat.reduceAdd, Nat.reduceLeDiff, Nat.zero_le, true_and, and_true, and_self, true_implies, forall_const, ai_rvs, ai_rv0, ai_b_0, Classical.not_not, q_0, q_1, q_64, q_65, q_82, q_mk, q_od, not_true_eq_false, false_implies, not_false_eq_true, true_implies, and_true, true_and, if_true, if_false, Bool.false_eq_true]
    exact kk I M h
end PM4
