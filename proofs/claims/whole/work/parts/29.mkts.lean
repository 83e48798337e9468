/-! markets are opened, settled, made void -/
def add_g (g : Nat → Int32) (k : Nat) (b n e cm co : Int32) : Nat → Int32 := ug (ug (ug (ug (ug (ug g (13 + 43 * k) b) (14 + 43 * k) n) (15 + 43 * k) e) (16 + 43 * k) cm) (17 + 43 * k) co) 1 (nI (k + 1))
/-- a market's condition, if it has one, has a lower number -/
def CV (g : Nat → Int32) (k : Nat) : Prop := ∀ m, m < k → g (16 + 43 * m) = -1 ∨ ∃ c, c < m ∧ g (16 + 43 * m) = nI c
def m_wt (g : Nat → Int32) (m : Nat) : Int32 := if g (16 + 43 * m) = -1 then nI 0 else if g (12 + 43 * (g (16 + 43 * m)).toNatClampNeg) = nI 2 then nI 0 else nI 1
def m_rz (g : Nat → Int32) (m : Nat) : Int32 := if g (16 + 43 * m) = -1 then nI 0 else if g (12 + 43 * (g (16 + 43 * m)).toNatClampNeg) = nI 3 then nI 3 else
  if g (12 + 43 * (g (16 + 43 * m)).toNatClampNeg) = nI 2 ∧ g (19 + 43 * (g (16 + 43 * m)).toNatClampNeg) ≠ g (17 + 43 * m) then nI 4 else nI 0
section MKTS
variable {S : St} {C : (Nat → Nat → Int32) × (Nat → Nat → Nat)} {I : Nat → Nat → Int32} {M : Nat → Nat → Nat} {m n o t k : Nat} {d : Nat} {Q : Option Value → ai_H → Prop}
theorem EX.mkt (h : EX 1 S C I M) (hm : m < 6) {w : Nat} (hw : w < 9) (v : Nat) (hv : v = if w = 0 then 9 else if w = 1 then 4 else if w = 2 then 5 else if w = 3 then 6 else if w = 4 then 7 else if w = 5 then 8 else if w = 6 then 12 else if w = 7 then 10 else 11) {y : Nat} (hy : y = 12 + 43 * m + w) (x : Int32) : EX 1 (ug S.1 y x, S.2) C (ai_u I (4 + 10 * m) v x) M := by
  subst hy
  exact h.upd (Or.inl rfl) (by omega) (by omega) (by omega) (by omega) (il_mk hw v hv) x
theorem EX.mc (h : EX 1 S C I M) (x : Int32) : EX 1 (ug S.1 1 x, S.2) C (ai_u I 1 4 x) M := h.upd (Or.inl rfl) (by omega) (by omega) (by omega) (by omega) rfl x
theorem EX.tm (h : EX 1 S C I M) (x : Int32) : EX 1 (ug S.1 0 x, S.2) C (ai_u I 1 5 x) M := h.upd (Or.inl rfl) (by omega) (by omega) (by omega) (by omega) rfl x
theorem EX.bal (h : EX 1 S C I M) (ht : t < 6) (x : Int32) : EX 1 (ug S.1 (6 + t) x, S.2) C (ai_u I 2 t x) M := h.upd (Or.inl rfl) (by omega) (by omega) (by omega) (by omega) (il_bal ht) x
/-- Exchange.addMarket -/
theorem c11 (h : EX 1 S C I M) (hk : S.1 1 = nI k) (hk6 : k ≤ 6) {b n e cm co : Int32} (k1 : k = 6 → Q (some (.int (-1000000003))) (LK, I, M)) (k2 : k < 6 → ∀ I', EX 1 (add_g S.1 k b n e cm co, S.2) C I' M → Q (some (.int (nI k))) (LK, I', M)) : Cl d 11 [.ref 1, .int b, .int n, .int e, .int cm, .int co] (LK, I, M) Q := by
  by_cases hf : k = 6
  · subst hf
    have k3 := k1 rfl
    simp (disch := omega) only [E11, K11, e_aald, e_al0, e_al6, e_an0, e_an6, e_as6, e_az6, e_b0, e_c2, e_const, e_dupi, e_dupr, e_getI, e_getR, e_il1, e_il2, e_il3, e_il4, e_il5, e_putI, e_reti, Option.toList_some, Option.toList_none, List.cons_append, List.nil_append, List.append_nil, List.length_cons, List.length_nil, Nat.reduceAdd, Nat.reduceLeDiff, Nat.zero_le, true_and, and_true, and_self, true_implies, forall_const, ai_rvs, ai_rv0, ai_b_0, Classical.not_not, q_0, q_1, q_64, q_65, q_82, q_mk, q_od, rd_mc h, hk, nIlt, Nat.lt_irrefl, not_false_eq_true, false_implies]
    exact k3
  · have hk' : k < 6 := by omega
    have k3 := k2 hk'
    have h6 := ((((((h.mkt hk' (w := 1) (by omega) 4 rfl (y := 13 + 43 * k) (by omega) b).mkt hk' (w := 2) (by omega) 5 rfl (y := 14 + 43 * k) (by omega) n).mkt hk' (w := 3) (by omega) 6 rfl (y := 15 + 43 * k) (by omega) e).mkt hk' (w := 4) (by omega) 7 rfl (y := 16 + 43 * k) (by omega) cm).mkt hk' (w := 5) (by omega) 8 rfl (y := 17 + 43 * k) (by omega) co).mc (nI (k + 1)))
    have k4 := k3 _ h6
    simp (disch := omega) only [E11, K11, e_aald, e_al0, e_al6, e_an0, e_an6, e_as6, e_az6, e_b0, e_c2, e_const, e_dupi, e_dupr, e_getI, e_getR, e_il1, e_il2, e_il3, e_il4, e_il5, e_putI, e_reti, Option.toList_some, Option.toList_none, List.cons_append, List.nil_append, List.append_nil, List.length_cons, List.length_nil, Nat.reduceAdd, Nat.reduceLeDiff, Nat.zero_le, true_and, and_true, and_self, true_implies, forall_const, ai_rvs, ai_rv0, ai_b_0, Classical.not_not, q_0, q_1, q_64, q_65, q_82, q_mk, q_od, rd_mc h, hk, nIlt, nIle, m_11 h, a_mk, nIc, m_mk h, BO, true_or, ai_uo, nIa, rd_no h]
    first
    | exact ⟨fun _ => k4, fun g => absurd hk' g⟩
    | exact ⟨fun g => absurd g (by omega), fun _ => k4⟩
/-- Exchange.waitsForCondition -/
theorem c20 (h : EX 1 S C I M) (hk : S.1 1 = nI k) (hk6 : k ≤ 6) (hc : CV S.1 k) (hm : m < k) : Cl (d + 1) 20 [.ref 1, .ref (4 + 10 * m)] (LK, I, M) Q ↔ Q (some (.int (m_wt S.1 m))) (LK, I, M) := by
  refine Cl_one ?_
  simp (disch := omega) only [E20, K20, ai_c1i, ai_c1n, ai_c1r, e_al0, e_al1, e_al2, e_an0, e_an1, e_an2, e_as2, e_az2, e_c0, e_const, e_cv2, e_getI, e_goto, e_nn, e_nr, e_retb, Option.toList_some, Option.toList_none, List.cons_append, List.nil_append, List.append_nil, List.length_cons, List.length_nil, Nat.reduceAdd, Nat.reduceLeDiff, Nat.zero_le, true_and, and_true, and_self, true_implies, forall_const, ai_rvs, ai_rv0, ai_b_0, Classical.not_not, q_0, q_1, q_64, q_65, q_82, q_mk, q_od, rd_cm h, p_4]
  refine c9 h hk hk6 (fun c hck e => ?_) (fun hno => ?_)
  · simp (disch := omega) only [K20, ai_c1i, ai_c1n, ai_c1r, e_al0, e_al1, e_al2, e_an0, e_an1, e_an2, e_as2, e_az2, e_c0, e_const, e_cv2, e_getI, e_goto, e_nn, e_nr, e_retb, Option.toList_some, Option.toList_none, List.cons_append, List.nil_append, List.append_nil, List.length_cons, List.length_nil, Nat.reduceAdd, Nat.reduceLeDiff, Nat.zero_le, true_and, and_true, and_self, true_implies, forall_const, ai_rvs, ai_rv0, ai_b_0, Classical.not_not, q_0, q_1, q_64, q_65, q_82, q_mk, q_od, rd_st h, p_0]
    unfold m_wt
    rw [e, nIc (by omega), if_neg (nI_ne_m1 (by omega))]
    refine ⟨fun g => ⟨Or.inl rfl, by rw [if_pos g]⟩, fun g => ⟨Or.inr rfl, by rw [if_neg g]⟩⟩
  · simp (disch := omega) only [K20, ai_c1i, ai_c1n, ai_c1r, e_al0, e_al1, e_al2, e_an0, e_an1, e_an2, e_as2, e_az2, e_c0, e_const, e_cv2, e_getI, e_goto, e_nn, e_nr, e_retb, Option.toList_some, Option.toList_none, List.cons_append, List.nil_append, List.append_nil, List.length_cons, List.length_nil, Nat.reduceAdd, Nat.reduceLeDiff, Nat.zero_le, true_and, and_true, and_self, true_implies, forall_const, ai_rvs, ai_rv0, ai_b_0, Classical.not_not, q_0, q_1, q_64, q_65, q_82, q_mk, q_od]
    refine ⟨Or.inl rfl, ?_⟩
    rcases hc m hm with e | ⟨c, hcm, e⟩
    · unfold m_wt
      rw [if_pos e]
    · exact (hno c (by omega) e).elim
/-- Exchange.reasonByCondition -/
theorem c24 (h : EX 1 S C I M) (hk : S.1 1 = nI k) (hk6 : k ≤ 6) (hc : CV S.1 k) (hm : m < k) : Cl (d + 1) 24 [.ref 1, .ref (4 + 10 * m)] (LK, I, M) Q ↔ Q (some (.int (m_rz S.1 m))) (LK, I, M) := by
  refine Cl_one ?_
  simp (disch := omega) only [E24, K24, ai_c1i, ai_c1n, ai_c1r, e_al0, e_al1, e_al2, e_an0, e_an1, e_an2, e_as2, e_az2, e_c0, e_c1, e_const, e_cv2, e_getI, e_reti, e_xn, e_xr, Option.toList_some, Option.toList_none, List.cons_append, List.nil_append, List.append_nil, List.length_cons, List.length_nil, Nat.reduceAdd, Nat.reduceLeDiff, Nat.zero_le, true_and, and_true, and_self, true_implies, forall_const, ai_rvs, ai_rv0, ai_b_0, Classical.not_not, q_0, q_1, q_64, q_65, q_82, q_mk, q_od, rd_cm h, p_4]
  refine c9 h hk hk6 (fun c hck e => ?_) (fun hno => ?_)
  · simp (disch := omega) only [K24, ai_c1i, ai_c1n, ai_c1r, e_al0, e_al1, e_al2, e_an0, e_an1, e_an2, e_as2, e_az2, e_c0, e_c1, e_const, e_cv2, e_getI, e_reti, e_xn, e_xr, Option.toList_some, Option.toList_none, List.cons_append, List.nil_append, List.append_nil, List.length_cons, List.length_nil, Nat.reduceAdd, Nat.reduceLeDiff, Nat.zero_le, true_and, and_true, and_self, true_implies, forall_const, ai_rvs, ai_rv0, ai_b_0, Classical.not_not, q_0, q_1, q_64, q_65, q_82, q_mk, q_od, rd_st h, p_0, rd_wn h, p_7, rd_co h, p_5]
    unfold m_rz
    rw [e, nIc (by omega), if_neg (nI_ne_m1 (by omega))]
    refine ⟨fun g => ⟨fun g2 => ?_, fun g2 => ⟨fun g3 => ?_, fun g3 => ?_⟩⟩, fun g => ?_⟩
    · rw [if_neg g, if_neg (fun g4 => g2 g4.1)]
    · rw [if_neg g, if_neg (fun g4 => g4.2 g3)]
    · rw [if_neg g, if_pos ⟨g2, g3⟩]
    · rw [if_pos g]
  · simp (disch := omega) only [K24, ai_c1i, ai_c1n, ai_c1r, e_al0, e_al1, e_al2, e_an0, e_an1, e_an2, e_as2, e_az2, e_c0, e_c1, e_const, e_cv2, e_getI, e_reti, e_xn, e_xr, Option.toList_some, Option.toList_none, List.cons_append, List.nil_append, List.append_nil, List.length_cons, List.length_nil, Nat.reduceAdd, Nat.reduceLeDiff, Nat.zero_le, true_and, and_true, and_self, true_implies, forall_const, ai_rvs, ai_rv0, ai_b_0, Classical.not_not, q_0, q_1, q_64, q_65, q_82, q_mk, q_od]
    rcases hc m hm with e | ⟨c, hcm, e⟩
    · unfold m_rz
      rw [if_pos e]
    · exact (hno c (by omega) e).elim
/-- paying back -/
def mv_p (g : Nat → Int32) (m : Nat) : Nat → Nat → Int32
  | 0 => g
  | i + 1 => ug (ug (mv_p g m i) (6 + i) (mv_p g m i (6 + i) + mv_p g m i (49 + 43 * m + i))) (18 + 43 * m) (mv_p g m i (18 + 43 * m) - mv_p g m i (49 + 43 * m + i))
/-- the orders that stay when a market's go -/
def fl (m : Nat) (L : List Od) : List Od := L.filter (fun o => decide (¬ o.2.2.1 = nI m))
def mv (S : St) (m : Nat) (r : Int32) : St := (ug (ug (mv_p (ug S.1 3 (nI (fl m S.2.1).length)) m 6) (12 + 43 * m) (nI 3)) (20 + 43 * m) r, fl m S.2.1, S.2.2)
theorem c22_l {r : Int32} (hm : m < 6) (kk : ∀ I', EX 1 (ug (ug (mv_p S.1 m 6) (12 + 43 * m) (nI 3)) (20 + 43 * m) r, S.2) C I' M → Q none (LK, I', M)) : ∀ k i, k + i = 6 → ∀ I, EX 1 (mv_p S.1 m i, S.2) C I M → Ev (d + 2) X0 22 13 [.ref 1, .ref (4 + 10 * m), .int r, .int (nI i)] [] (LK, I, M) Q
  | 0, i, hi, I, h => by
    obtain rfl : i = 6 := by omega
    have h2 := (h.mkt hm (w := 0) (by omega) 9 rfl (y := 12 + 43 * m) (by omega) (nI 3)).mkt hm (w := 8) (by omega) 11 rfl (y := 20 + 43 * m) (by omega) r
    rw [H22_13]
    simp (disch := omega) only [K22, ai_c1i, ai_c1n, ai_c1r, e_al0, e_al1, e_an0, e_an1, e_b0, e_b1, e_c3, e_const, e_cv2, e_dup2, e_dupi, e_dupr, e_getI, e_getR, e_goto, e_iald, e_iast, e_ii3, e_il2, e_il3, e_is3, e_putI, e_ret, Option.toList_some, Option.toList_none, List.cons_append, List.nil_append, List.append_nil, List.length_cons, List.length_nil, Nat.reduceAdd, Nat.reduceLeDiff, Nat.zero_le, true_and, and_true, and_self, true_implies, forall_const, ai_rvs, ai_rv0, ai_b_0, Classical.not_not, q_0, q_1, q_64, q_65, q_82, q_mk, q_od, BO, true_or, Int32.le_refl, not_true_eq_false, false_implies]
    exact kk _ h2
  | k + 1, i, hi, I, h => by
    have h2 := (h.bal (t := i) (by omega) (mv_p S.1 m i (6 + i) + mv_p S.1 m i (49 + 43 * m + i))).mkt hm (w := 6) (by omega) 12 rfl (y := 18 + 43 * m) (by omega) (mv_p S.1 m i (18 + 43 * m) - mv_p S.1 m i (49 + 43 * m + i))
    have ih := c22_l hm kk k (i + 1) (by omega) _ h2
    rw [H22_13]
    simp (disch := omega) only [K22, ai_c1i, ai_c1n, ai_c1r, e_al0, e_al1, e_an0, e_an1, e_b0, e_b1, e_c3, e_const, e_cv2, e_dup2, e_dupi, e_dupr, e_getI, e_getR, e_goto, e_iald, e_iast, e_ii3, e_il2, e_il3, e_is3, e_putI, e_ret, Option.toList_some, Option.toList_none, List.cons_append, List.nil_append, List.append_nil, List.length_cons, List.length_nil, Nat.reduceAdd, Nat.reduceLeDiff, Nat.zero_le, true_and, and_true, and_self, true_implies, forall_const, ai_rvs, ai_rv0, ai_b_0, Classical.not_not, q_0, q_1, q_64, q_65, q_82, q_mk, q_od, nIle, BO, true_or, m_10 h, a_bal, nIc, m_pd h, a_pd, rd_pd h, rd_bal h, ai_uo, rd_ac h, p_6, nIa]
    exact ⟨fun g => absurd g (by omega), fun _ => ih⟩
/-- Exchange.makeVoid -/
theorem c22 (h : EX 1 S C I M) (hm : m < 6) {r : Int32} (kk : ∀ I' M', EX 1 (mv S m r) C I' M' → Q none (LK, I', M')) : Cl (d + 2) 22 [.ref 1, .ref (4 + 10 * m), .int r] (LK, I, M) Q := by
  simp (disch := omega) only [E22, K22, ai_c1i, ai_c1n, ai_c1r, e_al0, e_al1, e_an0, e_an1, e_b0, e_b1, e_c3, e_const, e_cv2, e_dup2, e_dupi, e_dupr, e_getI, e_getR, e_goto, e_iald, e_iast, e_ii3, e_il2, e_il3, e_is3, e_putI, e_ret, Option.toList_some, Option.toList_none, List.cons_append, List.nil_append, List.append_nil, List.length_cons, List.length_nil, Nat.reduceAdd, Nat.reduceLeDiff, Nat.zero_le, true_and, and_true, and_self, true_implies, forall_const, ai_rvs, ai_rv0, ai_b_0, Classical.not_not, q_0, q_1, q_64, q_65, q_82, q_mk, q_od, m_12 h, rd_no h]
  refine c5 h fun I1 M1 h1 => ?_
  simp (disch := omega) only [K22, ai_c1i, ai_c1n, ai_c1r, e_al0, e_al1, e_an0, e_an1, e_b0, e_b1, e_c3, e_const, e_cv2, e_dup2, e_dupi, e_dupr, e_getI, e_getR, e_goto, e_iald, e_iast, e_ii3, e_il2, e_il3, e_is3, e_putI, e_ret, Option.toList_some, Option.toList_none, List.cons_append, List.nil_append, List.append_nil, List.length_cons, List.length_nil, Nat.reduceAdd, Nat.reduceLeDiff, Nat.zero_le, true_and, and_true, and_self, true_implies, forall_const, ai_rvs, ai_rv0, ai_b_0, Classical.not_not, q_0, q_1, q_64, q_65, q_82, q_mk, q_od]
  unfold mv at kk
  have h2 : EX 1 (ug S.1 3 (nI (fl m S.2.1).length), fl m S.2.1, S.2.2) C I1 M1 := h1
  exact c22_l (S := (ug S.1 3 (nI (fl m S.2.1).length), fl m S.2.1, S.2.2)) hm (fun I' h' => kk I' M1 h') 6 0 (by omega) I1 h2
/-- paying the winners -/
def pw_g (g : Nat → Int32) (m o : Nat) : Nat → Nat → Int32
  | 0 => g
  | i + 1 => ug (pw_g g m o i) (6 + i) (pw_g g m o i (6 + i) + nI 2880 * pw_g g m o i (25 + 43 * m + 4 * i + o))
def pw_s (g : Nat → Int32) (m o : Nat) : Nat → Int32
  | 0 => nI 0
  | i + 1 => pw_s g m o i + nI 2880 * pw_g g m o i (25 + 43 * m + 4 * i + o)
def pw (g : Nat → Int32) (m o : Nat) : Nat → Int32 := ug (ug (ug (pw_g g m o 6) (18 + 43 * m) (pw_g g m o 6 (18 + 43 * m) - pw_s g m o 6)) (12 + 43 * m) (nI 2)) (19 + 43 * m) (nI o)
theorem c21_l (hm : m < 6) (ho : o < 4) (kk : ∀ I', EX 1 (pw S.1 m o, S.2) C I' M → Q (some (.int (pw_s S.1 m o 6))) (LK, I', M)) : ∀ k i, k + i = 6 → ∀ I x, EX 1 (pw_g S.1 m o i, S.2) C I M → Ev d X0 21 5 [.ref 1, .ref (4 + 10 * m), .int (nI o), .int (pw_s S.1 m o i), .int (nI i), x] [] (LK, I, M) Q
  | 0, i, hi, I, x, h => by
    obtain rfl : i = 6 := by omega
    have h2 := ((h.mkt hm (w := 6) (by omega) 12 rfl (y := 18 + 43 * m) (by omega) (pw_g S.1 m o 6 (18 + 43 * m) - pw_s S.1 m o 6)).mkt hm (w := 0) (by omega) 9 rfl (y := 12 + 43 * m) (by omega) (nI 2)).mkt hm (w := 7) (by omega) 10 rfl (y := 19 + 43 * m) (by omega) (nI o)
    rw [H21_5]
    simp (disch := omega) only [K21, e_aald, e_al0, e_al1, e_an0, e_an1, e_b0, e_b1, e_b2, e_c3, e_const, e_dup2, e_dupi, e_dupr, e_getI, e_getR, e_goto, e_iald, e_iast, e_ii4, e_il2, e_il3, e_il4, e_il5, e_is3, e_is4, e_is5, e_putI, e_reti, Option.toList_some, Option.toList_none, List.cons_append, List.nil_append, List.append_nil, List.length_cons, List.length_nil, Nat.reduceAdd, Nat.reduceLeDiff, Nat.zero_le, true_and, and_true, and_self, true_implies, forall_const, ai_rvs, ai_rv0, ai_b_0, Classical.not_not, q_0, q_1, q_64, q_65, q_82, q_mk, q_od, BO, true_or, Int32.le_refl, not_true_eq_false, false_implies, rd_ac h, p_6]
    exact kk _ h2
  | k + 1, i, hi, I, x, h => by
    have h2 := h.bal (t := i) (by omega) (pw_g S.1 m o i (6 + i) + nI 2880 * pw_g S.1 m o i (25 + 43 * m + 4 * i + o))
    have ih := c21_l hm ho kk k (i + 1) (by omega) _ (.int (nI 2880 * pw_g S.1 m o i (25 + 43 * m + 4 * i + o))) h2
    rw [H21_5]
    simp (disch := omega) only [K21, e_aald, e_al0, e_al1, e_an0, e_an1, e_b0, e_b1, e_b2, e_c3, e_const, e_dup2, e_dupi, e_dupr, e_getI, e_getR, e_goto, e_iald, e_iast, e_ii4, e_il2, e_il3, e_il4, e_il5, e_is3, e_is4, e_is5, e_putI, e_reti, Option.toList_some, Option.toList_none, List.cons_append, List.nil_append, List.append_nil, List.length_cons, List.length_nil, Nat.reduceAdd, Nat.reduceLeDiff, Nat.zero_le, true_and, and_true, and_self, true_implies, forall_const, ai_rvs, ai_rv0, ai_b_0, Classical.not_not, q_0, q_1, q_64, q_65, q_82, q_mk, q_od, nIle, m_10 h, a_bal, nIc, m_hd h, a_hd, m_ht h, a_hr, rd_hd h, rd_bal h, nIa]
    exact ⟨fun g => absurd g (by omega), fun _ => ih⟩
/-- Exchange.payWinners -/
theorem c21 (h : EX 1 S C I M) (hm : m < 6) (ho : o < 4) (kk : ∀ I', EX 1 (pw S.1 m o, S.2) C I' M → Q (some (.int (pw_s S.1 m o 6))) (LK, I', M)) : Cl d 21 [.ref 1, .ref (4 + 10 * m), .int (nI o)] (LK, I, M) Q := by
  simp (disch := omega) only [E21, K21, e_aald, e_al0, e_al1, e_an0, e_an1, e_b0, e_b1, e_b2, e_c3, e_const, e_dup2, e_dupi, e_dupr, e_getI, e_getR, e_goto, e_iald, e_iast, e_ii4, e_il2, e_il3, e_il4, e_il5, e_is3, e_is4, e_is5, e_putI, e_reti, Option.toList_some, Option.toList_none, List.cons_append, List.nil_append, List.append_nil, List.length_cons, List.length_nil, Nat.reduceAdd, Nat.reduceLeDiff, Nat.zero_le, true_and, and_true, and_self, true_implies, forall_const, ai_rvs, ai_rv0, ai_b_0, Classical.not_not, q_0, q_1, q_64, q_65, q_82, q_mk, q_od]
  exact c21_l hm ho kk 6 0 (by omega) I _ h
end MKTS
