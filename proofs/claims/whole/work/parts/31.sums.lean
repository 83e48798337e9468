/-! sums over markets and traders -/
def s_wo (g : Nat → Int32) (t k : Nat) : Int32 := bx_sum (fun m => if decide (g (12 + 43 * m) = nI 0) || decide (g (12 + 43 * m) = nI 1) then m_wo (qs g m) (hq g m t) (nN g m) (g (13 + 43 * m)) (nN g m) else nI 0) k
def s_mo (g : Nat → Int32) (t k : Nat) : Int32 := bx_sum (fun m => if decide (g (12 + 43 * m) = nI 0) || decide (g (12 + 43 * m) = nI 1) then m_mx (hq g m t) (nN g m) else nI 0) k
def s_op (g : Nat → Int32) (k : Nat) : Int32 := bx_sum (fun m => if g (12 + 43 * m) = nI 0 then nI 1 else nI 0) k
section SUMS
variable {S : St} {C : (Nat → Nat → Int32) × (Nat → Nat → Nat)} {I : Nat → Nat → Int32} {M : Nat → Nat → Nat} {m n o t k : Nat} {d : Nat} {Q : Option Value → ai_H → Prop}
theorem c25_l (hk : S.1 1 = nI k) (hk6 : k ≤ 6) (hN : NV S.1 k) (ht : t < 6) (kk : ∀ I', EX 1 S C I' M → Q (some (.int (s_wo S.1 t k))) (LK, I', M)) :
    ∀ r i, r + i = k → ∀ I, EX 1 S C I M → Ev (d + 3) X0 25 4 [.ref 1, .int (nI t), .int (s_wo S.1 t i), .int (nI i)] [] (LK, I, M) Q
  | 0, i, hi, I, h => by
    obtain rfl : i = k := by omega
    have k3 := kk I h
    rw [H25_4]
    simp (disch := omega) only [K25, ai_c1i, ai_c1n, ai_c1r, e_aald, e_al0, e_an0, e_b0, e_c3, e_const, e_cv1, e_cv2, e_getI, e_getR, e_goto, e_ii3, e_il1, e_il2, e_il3, e_is2, e_is3, e_reti, e_z0, Option.toList_some, Option.toList_none, List.cons_append, List.nil_append, List.append_nil, List.length_cons, List.length_nil, Nat.reduceAdd, Nat.reduceLeDiff, Nat.zero_le, true_and, and_true, and_self, true_implies, forall_const, ai_rvs, ai_rv0, ai_b_0, Classical.not_not, q_0, q_1, q_64, q_65, q_82, q_mk, q_od, rd_mc h, hk, Int32.le_refl, not_true_eq_false, false_implies]
    exact k3
  | r + 1, i, hi, I, h => by
    obtain ⟨n, n1, n2, n3⟩ := hN i (by omega)
    have ih := c25_l hk hk6 hN ht kk r (i + 1) (by omega)
    unfold s_wo at ih
    rw [bx_s, nN_of n1 n3] at ih
    rw [H25_4]
    simp (disch := omega) only [K25, ai_c1i, ai_c1n, ai_c1r, e_aald, e_al0, e_an0, e_b0, e_c3, e_const, e_cv1, e_cv2, e_getI, e_getR, e_goto, e_ii3, e_il1, e_il2, e_il3, e_is2, e_is3, e_reti, e_z0, Option.toList_some, Option.toList_none, List.cons_append, List.nil_append, List.append_nil, List.length_cons, List.length_nil, Nat.reduceAdd, Nat.reduceLeDiff, Nat.zero_le, true_and, and_true, and_self, true_implies, forall_const, ai_rvs, ai_rv0, ai_b_0, Classical.not_not, q_0, q_1, q_64, q_65, q_82, q_mk, q_od, rd_mc h, hk, nIle, m_11 h, a_mk, nIc, m_mk h, c37 h]
    refine ⟨fun g => absurd g (by omega), fun _ => ⟨fun g => ?_, fun g => ?_⟩⟩
    · rw [if_neg (by simp only [Bool.or_eq_true, decide_eq_true_eq]; exact g), i_add0] at ih
      simp (disch := omega) only [nIa]
      exact ih I h
    · rw [if_pos (by simp only [Bool.or_eq_true, decide_eq_true_eq]; exact g)] at ih
      refine c50 h ht (by omega) n1 n3 fun I1 h1 => ?_
      simp (disch := omega) only [K25, ai_c1i, ai_c1n, ai_c1r, e_aald, e_al0, e_an0, e_b0, e_c3, e_const, e_cv1, e_cv2, e_getI, e_getR, e_goto, e_ii3, e_il1, e_il2, e_il3, e_is2, e_is3, e_reti, e_z0, Option.toList_some, Option.toList_none, List.cons_append, List.nil_append, List.append_nil, List.length_cons, List.length_nil, Nat.reduceAdd, Nat.reduceLeDiff, Nat.zero_le, true_and, and_true, and_self, true_implies, forall_const, ai_rvs, ai_rv0, ai_b_0, Classical.not_not, q_0, q_1, q_64, q_65, q_82, q_mk, q_od, nIa]
      exact ih I1 h1
theorem c25 (h : EX 1 S C I M) (hk : S.1 1 = nI k) (hk6 : k ≤ 6) (hN : NV S.1 k) (ht : t < 6) (kk : ∀ I', EX 1 S C I' M → Q (some (.int (s_wo S.1 t k))) (LK, I', M)) : Cl (d + 3) 25 [.ref 1, .int (nI t)] (LK, I, M) Q := by
  simp (disch := omega) only [E25, K25, ai_c1i, ai_c1n, ai_c1r, e_aald, e_al0, e_an0, e_b0, e_c3, e_const, e_cv1, e_cv2, e_getI, e_getR, e_goto, e_ii3, e_il1, e_il2, e_il3, e_is2, e_is3, e_reti, e_z0, Option.toList_some, Option.toList_none, List.cons_append, List.nil_append, List.append_nil, List.length_cons, List.length_nil, Nat.reduceAdd, Nat.reduceLeDiff, Nat.zero_le, true_and, and_true, and_self, true_implies, forall_const, ai_rvs, ai_rv0, ai_b_0, Classical.not_not, q_0, q_1, q_64, q_65, q_82, q_mk, q_od]
  exact c25_l hk hk6 hN ht kk k 0 (by omega) I h
theorem c26_l (h : EX 1 S C I M) (hk : S.1 1 = nI k) (hk6 : k ≤ 6) (hN : NV S.1 k) (ht : t < 6) (kk : Q (some (.int (s_mo S.1 t k))) (LK, I, M)) :
    ∀ r i, r + i = k → Ev (d + 2) X0 26 4 [.ref 1, .int (nI t), .int (s_mo S.1 t i), .int (nI i)] [] (LK, I, M) Q
  | 0, i, hi => by
    obtain rfl : i = k := by omega
    rw [H26_4]
    simp (disch := omega) only [K26, ai_c1i, ai_c1n, ai_c1r, e_aald, e_al0, e_an0, e_b0, e_c3, e_const, e_cv1, e_cv2, e_getI, e_getR, e_goto, e_ii3, e_il1, e_il2, e_il3, e_is2, e_is3, e_reti, e_z0, Option.toList_some, Option.toList_none, List.cons_append, List.nil_append, List.append_nil, List.length_cons, List.length_nil, Nat.reduceAdd, Nat.reduceLeDiff, Nat.zero_le, true_and, and_true, and_self, true_implies, forall_const, ai_rvs, ai_rv0, ai_b_0, Classical.not_not, q_0, q_1, q_64, q_65, q_82, q_mk, q_od, rd_mc h, hk, Int32.le_refl, not_true_eq_false, false_implies]
    exact kk
  | r + 1, i, hi => by
    obtain ⟨n, n1, n2, n3⟩ := hN i (by omega)
    have ih := c26_l h hk hk6 hN ht kk r (i + 1) (by omega)
    unfold s_mo at ih
    rw [bx_s, nN_of n1 n3] at ih
    rw [H26_4]
    simp (disch := omega) only [K26, ai_c1i, ai_c1n, ai_c1r, e_aald, e_al0, e_an0, e_b0, e_c3, e_const, e_cv1, e_cv2, e_getI, e_getR, e_goto, e_ii3, e_il1, e_il2, e_il3, e_is2, e_is3, e_reti, e_z0, Option.toList_some, Option.toList_none, List.cons_append, List.nil_append, List.append_nil, List.length_cons, List.length_nil, Nat.reduceAdd, Nat.reduceLeDiff, Nat.zero_le, true_and, and_true, and_self, true_implies, forall_const, ai_rvs, ai_rv0, ai_b_0, Classical.not_not, q_0, q_1, q_64, q_65, q_82, q_mk, q_od, rd_mc h, hk, nIle, m_11 h, a_mk, nIc, m_mk h, c37 h]
    refine ⟨fun g => absurd g (by omega), fun _ => ⟨fun g => ?_, fun g => ?_⟩⟩
    · rw [if_neg (by simp only [Bool.or_eq_true, decide_eq_true_eq]; exact g), i_add0] at ih
      simp (disch := omega) only [nIa]
      exact ih
    · rw [if_pos (by simp only [Bool.or_eq_true, decide_eq_true_eq]; exact g)] at ih
      rw [c51 h ht (by omega) n1 n3]
      simp (disch := omega) only [K26, ai_c1i, ai_c1n, ai_c1r, e_aald, e_al0, e_an0, e_b0, e_c3, e_const, e_cv1, e_cv2, e_getI, e_getR, e_goto, e_ii3, e_il1, e_il2, e_il3, e_is2, e_is3, e_reti, e_z0, Option.toList_some, Option.toList_none, List.cons_append, List.nil_append, List.append_nil, List.length_cons, List.length_nil, Nat.reduceAdd, Nat.reduceLeDiff, Nat.zero_le, true_and, and_true, and_self, true_implies, forall_const, ai_rvs, ai_rv0, ai_b_0, Classical.not_not, q_0, q_1, q_64, q_65, q_82, q_mk, q_od, nIa]
      exact ih
theorem c26 (h : EX 1 S C I M) (hk : S.1 1 = nI k) (hk6 : k ≤ 6) (hN : NV S.1 k) (ht : t < 6) : Cl (d + 2) 26 [.ref 1, .int (nI t)] (LK, I, M) Q ↔ Q (some (.int (s_mo S.1 t k))) (LK, I, M) := by
  refine Cl_one ?_
  simp (disch := omega) only [E26, K26, ai_c1i, ai_c1n, ai_c1r, e_aald, e_al0, e_an0, e_b0, e_c3, e_const, e_cv1, e_cv2, e_getI, e_getR, e_goto, e_ii3, e_il1, e_il2, e_il3, e_is2, e_is3, e_reti, e_z0, Option.toList_some, Option.toList_none, List.cons_append, List.nil_append, List.append_nil, List.length_cons, List.length_nil, Nat.reduceAdd, Nat.reduceLeDiff, Nat.zero_le, true_and, and_true, and_self, true_implies, forall_const, ai_rvs, ai_rv0, ai_b_0, Classical.not_not, q_0, q_1, q_64, q_65, q_82, q_mk, q_od]
  exact c26_l h hk hk6 hN ht ⟨rfl, rfl⟩ k 0 (by omega)
theorem c27_l (h : EX 1 S C I M) (hk : S.1 1 = nI k) (hk6 : k ≤ 6) (kk : Q (some (.int (s_op S.1 k))) (LK, I, M)) :
    ∀ r i, r + i = k → Ev d X0 27 4 [.ref 1, .int (s_op S.1 i), .int (nI i)] [] (LK, I, M) Q
  | 0, i, hi => by
    obtain rfl : i = k := by omega
    rw [H27_4]
    simp (disch := omega) only [K27, e_aald, e_al0, e_an0, e_c3, e_const, e_getI, e_getR, e_goto, e_ii1, e_ii2, e_il1, e_il2, e_is1, e_is2, e_reti, e_z1, Option.toList_some, Option.toList_none, List.cons_append, List.nil_append, List.append_nil, List.length_cons, List.length_nil, Nat.reduceAdd, Nat.reduceLeDiff, Nat.zero_le, true_and, and_true, and_self, true_implies, forall_const, ai_rvs, ai_rv0, ai_b_0, Classical.not_not, q_0, q_1, q_64, q_65, q_82, q_mk, q_od, rd_mc h, hk, Int32.le_refl, not_true_eq_false, false_implies]
    exact kk
  | r + 1, i, hi => by
    have ih := c27_l h hk hk6 kk r (i + 1) (by omega)
    unfold s_op at ih
    rw [bx_s] at ih
    rw [H27_4]
    simp (disch := omega) only [K27, e_aald, e_al0, e_an0, e_c3, e_const, e_getI, e_getR, e_goto, e_ii1, e_ii2, e_il1, e_il2, e_is1, e_is2, e_reti, e_z1, Option.toList_some, Option.toList_none, List.cons_append, List.nil_append, List.append_nil, List.length_cons, List.length_nil, Nat.reduceAdd, Nat.reduceLeDiff, Nat.zero_le, true_and, and_true, and_self, true_implies, forall_const, ai_rvs, ai_rv0, ai_b_0, Classical.not_not, q_0, q_1, q_64, q_65, q_82, q_mk, q_od, rd_mc h, hk, nIle, m_11 h, a_mk, nIc, m_mk h, rd_st h, p_0, nIa]
    refine ⟨fun g => absurd g (by omega), fun _ => ⟨fun g => ?_, fun g => ?_⟩⟩
    · rw [if_neg g, i_add0] at ih
      exact ih
    · rw [if_pos g] at ih
      exact ih
theorem c27 (h : EX 1 S C I M) (hk : S.1 1 = nI k) (hk6 : k ≤ 6) : Cl d 27 [.ref 1] (LK, I, M) Q ↔ Q (some (.int (s_op S.1 k))) (LK, I, M) := by
  refine Cl_one ?_
  simp (disch := omega) only [E27, K27, e_aald, e_al0, e_an0, e_c3, e_const, e_getI, e_getR, e_goto, e_ii1, e_ii2, e_il1, e_il2, e_is1, e_is2, e_reti, e_z1, Option.toList_some, Option.toList_none, List.cons_append, List.nil_append, List.append_nil, List.length_cons, List.length_nil, Nat.reduceAdd, Nat.reduceLeDiff, Nat.zero_le, true_and, and_true, and_self, true_implies, forall_const, ai_rvs, ai_rv0, ai_b_0, Classical.not_not, q_0, q_1, q_64, q_65, q_82, q_mk, q_od]
  exact c27_l h hk hk6 ⟨rfl, rfl⟩ k 0 (by omega)
theorem c28_l (h : EX 1 S C I M) (kk : Q (some (.int (bx_sum (fun t => S.1 (6 + t)) 6))) (LK, I, M)) :
    ∀ r i, r + i = 6 → Ev d X0 28 4 [.ref 1, .int (bx_sum (fun t => S.1 (6 + t)) i), .int (nI i)] [] (LK, I, M) Q
  | 0, i, hi => by
    obtain rfl : i = 6 := by omega
    rw [H28_4]
    simp (disch := omega) only [K28, e_al0, e_an0, e_b0, e_c3, e_const, e_getR, e_goto, e_iald, e_ii2, e_il1, e_il2, e_is1, e_is2, e_reti, Option.toList_some, Option.toList_none, List.cons_append, List.nil_append, List.append_nil, List.length_cons, List.length_nil, Nat.reduceAdd, Nat.reduceLeDiff, Nat.zero_le, true_and, and_true, and_self, true_implies, forall_const, ai_rvs, ai_rv0, ai_b_0, Classical.not_not, q_0, q_1, q_64, q_65, q_82, q_mk, q_od, Int32.le_refl, not_true_eq_false, false_implies]
    exact kk
  | r + 1, i, hi => by
    have ih := c28_l h kk r (i + 1) (by omega)
    rw [bx_s] at ih
    rw [H28_4]
    simp (disch := omega) only [K28, e_al0, e_an0, e_b0, e_c3, e_const, e_getR, e_goto, e_iald, e_ii2, e_il1, e_il2, e_is1, e_is2, e_reti, Option.toList_some, Option.toList_none, List.cons_append, List.nil_append, List.append_nil, List.length_cons, List.length_nil, Nat.reduceAdd, Nat.reduceLeDiff, Nat.zero_le, true_and, and_true, and_self, true_implies, forall_const, ai_rvs, ai_rv0, ai_b_0, Classical.not_not, q_0, q_1, q_64, q_65, q_82, q_mk, q_od, nIle, m_10 h, a_bal, nIc, rd_bal h, nIa]
    exact ⟨fun g => absurd g (by omega), fun _ => ih⟩
theorem c28 (h : EX 1 S C I M) : Cl d 28 [.ref 1] (LK, I, M) Q ↔ Q (some (.int (bx_sum (fun t => S.1 (6 + t)) 6))) (LK, I, M) := by
  refine Cl_one ?_
  simp (disch := omega) only [E28, K28, e_al0, e_an0, e_b0, e_c3, e_const, e_getR, e_goto, e_iald, e_ii2, e_il1, e_il2, e_is1, e_is2, e_reti, Option.toList_some, Option.toList_none, List.cons_append, List.nil_append, List.append_nil, List.length_cons, List.length_nil, Nat.reduceAdd, Nat.reduceLeDiff, Nat.zero_le, true_and, and_true, and_self, true_implies, forall_const, ai_rvs, ai_rv0, ai_b_0, Classical.not_not, q_0, q_1, q_64, q_65, q_82, q_mk, q_od]
  exact c28_l h ⟨rfl, rfl⟩ 6 0 (by omega)
theorem c29_l (h : EX 1 S C I M) (hk : S.1 1 = nI k) (hk6 : k ≤ 6) (kk : Q (some (.int (bx_sum (fun m => S.1 (18 + 43 * m)) k))) (LK, I, M)) :
    ∀ r i, r + i = k → Ev d X0 29 4 [.ref 1, .int (bx_sum (fun m => S.1 (18 + 43 * m)) i), .int (nI i)] [] (LK, I, M) Q
  | 0, i, hi => by
    obtain rfl : i = k := by omega
    rw [H29_4]
    simp (disch := omega) only [K29, e_aald, e_al0, e_an0, e_b0, e_c3, e_const, e_getI, e_getR, e_goto, e_ii2, e_il1, e_il2, e_is1, e_is2, e_reti, Option.toList_some, Option.toList_none, List.cons_append, List.nil_append, List.append_nil, List.length_cons, List.length_nil, Nat.reduceAdd, Nat.reduceLeDiff, Nat.zero_le, true_and, and_true, and_self, true_implies, forall_const, ai_rvs, ai_rv0, ai_b_0, Classical.not_not, q_0, q_1, q_64, q_65, q_82, q_mk, q_od, rd_mc h, hk, Int32.le_refl, not_true_eq_false, false_implies]
    exact kk
  | r + 1, i, hi => by
    have ih := c29_l h hk hk6 kk r (i + 1) (by omega)
    rw [bx_s] at ih
    rw [H29_4]
    simp (disch := omega) only [K29, e_aald, e_al0, e_an0, e_b0, e_c3, e_const, e_getI, e_getR, e_goto, e_ii2, e_il1, e_il2, e_is1, e_is2, e_reti, Option.toList_some, Option.toList_none, List.cons_append, List.nil_append, List.append_nil, List.length_cons, List.length_nil, Nat.reduceAdd, Nat.reduceLeDiff, Nat.zero_le, true_and, and_true, and_self, true_implies, forall_const, ai_rvs, ai_rv0, ai_b_0, Classical.not_not, q_0, q_1, q_64, q_65, q_82, q_mk, q_od, rd_mc h, hk, nIle, m_11 h, a_mk, nIc, m_mk h, rd_ac h, p_6, nIa]
    exact ⟨fun g => absurd g (by omega), fun _ => ih⟩
theorem c29 (h : EX 1 S C I M) (hk : S.1 1 = nI k) (hk6 : k ≤ 6) : Cl d 29 [.ref 1] (LK, I, M) Q ↔ Q (some (.int (bx_sum (fun m => S.1 (18 + 43 * m)) k))) (LK, I, M) := by
  refine Cl_one ?_
  simp (disch := omega) only [E29, K29, e_aald, e_al0, e_an0, e_b0, e_c3, e_const, e_getI, e_getR, e_goto, e_ii2, e_il1, e_il2, e_is1, e_is2, e_reti, Option.toList_some, Option.toList_none, List.cons_append, List.nil_append, List.append_nil, List.length_cons, List.length_nil, Nat.reduceAdd, Nat.reduceLeDiff, Nat.zero_le, true_and, and_true, and_self, true_implies, forall_const, ai_rvs, ai_rv0, ai_b_0, Classical.not_not, q_0, q_1, q_64, q_65, q_82, q_mk, q_od]
  exact c29_l h hk hk6 ⟨rfl, rfl⟩ k 0 (by omega)
end SUMS
