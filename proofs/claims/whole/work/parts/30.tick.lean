/-! followers, ticks, sums -/
theorem mv_p_o {g : Nat → Int32} {m j : Nat} (h1 : ∀ t, t < 6 → j ≠ 6 + t) (h2 : j ≠ 18 + 43 * m) : ∀ i, i ≤ 6 → mv_p g m i j = g j
  | 0, _ => rfl
  | i + 1, hi => by
    rw [mv_p, ug_n h2, ug_n (h1 i (by omega))]
    exact mv_p_o h1 h2 i (by omega)
/-- numbers that neither paying back nor expiring changes -/
def cfv (j : Nat) : Prop := j ≠ 3 ∧ (∀ t, t < 6 → j ≠ 6 + t) ∧ ∀ m, j ≠ 18 + 43 * m ∧ j ≠ 12 + 43 * m ∧ j ≠ 20 + 43 * m
theorem mv_K {S : St} {m j : Nat} {r : Int32} (h : cfv j) : (mv S m r).1 j = S.1 j := by
  obtain ⟨h1, h2, h3⟩ := h
  unfold mv
  dsimp only
  rw [ug_n (h3 m).2.2, ug_n (h3 m).2.1, mv_p_o h2 (h3 m).1 6 (Nat.le_refl _), ug_n h1]
theorem cfv_1 : cfv 1 := ⟨by omega, fun t _ => by omega, fun m => ⟨by omega, by omega, by omega⟩⟩
theorem cfv_0 : cfv 0 := ⟨by omega, fun t _ => by omega, fun m => ⟨by omega, by omega, by omega⟩⟩
theorem cfv_4 : cfv 4 := ⟨by omega, fun t _ => by omega, fun m => ⟨by omega, by omega, by omega⟩⟩
theorem cfv_w {m w : Nat} (hw : 1 ≤ w) (hw2 : w < 6) : cfv (12 + 43 * m + w) := ⟨by omega, fun t _ => by omega, fun m' => ⟨by omega, by omega, by omega⟩⟩
theorem cfv_13 {m : Nat} : cfv (13 + 43 * m) := by rw [← p_1]; exact cfv_w (by omega) (by omega)
theorem cfv_14 {m : Nat} : cfv (14 + 43 * m) := by rw [← p_2]; exact cfv_w (by omega) (by omega)
theorem cfv_15 {m : Nat} : cfv (15 + 43 * m) := by rw [← p_3]; exact cfv_w (by omega) (by omega)
theorem cfv_16 {m : Nat} : cfv (16 + 43 * m) := by rw [← p_4]; exact cfv_w (by omega) (by omega)
theorem cfv_17 {m : Nat} : cfv (17 + 43 * m) := by rw [← p_5]; exact cfv_w (by omega) (by omega)
theorem fl_ov {m : Nat} {L : List Od} (h : OV L) : OV (fl m L) := fun x hx => h x (List.mem_filter.mp hx).1
def m_lv (g : Nat → Int32) (m : Nat) : Prop := g (12 + 43 * m) = nI 0 ∨ g (12 + 43 * m) = nI 1
/-- one pass over the markets: those whose condition cannot hold become void -/
def vf : Nat → St → St × Nat
  | 0, S => (S, 0)
  | i + 1, S => if (decide ((vf i S).1.1 (12 + 43 * i) = nI 0) || decide ((vf i S).1.1 (12 + 43 * i) = nI 1)) && !decide (m_rz (vf i S).1.1 i = nI 0) then (mv (vf i S).1 i (m_rz (vf i S).1.1 i), (vf i S).2 + 1) else vf i S
theorem vf_K {S : St} {j : Nat} (h : cfv j) : ∀ i, (vf i S).1.1 j = S.1 j
  | 0 => rfl
  | i + 1 => by
    rw [vf]
    split
    · exact (mv_K h).trans (vf_K h i)
    · exact vf_K h i
theorem vf_ov {S : St} (h : OV S.2.1) : ∀ i, OV (vf i S).1.2.1
  | 0 => h
  | i + 1 => by
    rw [vf]
    split
    · exact fl_ov (vf_ov h i)
    · exact vf_ov h i
theorem CV.of {g g' : Nat → Int32} {k : Nat} (h : CV g k) (e : ∀ m, g' (16 + 43 * m) = g (16 + 43 * m)) : CV g' k := fun m hm => by rw [e m]; exact h m hm
section TICK
variable {S : St} {C : (Nat → Nat → Int32) × (Nat → Nat → Nat)} {I : Nat → Nat → Int32} {M : Nat → Nat → Nat} {m n o t k : Nat} {d : Nat} {Q : Option Value → ai_H → Prop}
/-- Exchange.voidFollowers -/
theorem c23_l (hk : S.1 1 = nI k) (hk6 : k ≤ 6) (hc : CV S.1 k) (kk : ∀ I' M', EX 1 (vf k S).1 C I' M' → Q (some (.int (nI (vf k S).2))) (LK, I', M')) :
    ∀ r i, r + i = k → ∀ I M x y, EX 1 (vf i S).1 C I M → Ev (d + 3) X0 23 4 [.ref 1, .int (nI (vf i S).2), .int (nI i), x, y] [] (LK, I, M) Q
  | 0, i, hi, I, M, x, y, h => by
    obtain rfl : i = k := by omega
    have e1 := (vf_K (S := S) cfv_1 i).trans hk
    have k3 := kk I M h
    rw [H23_4]
    simp (disch := omega) only [K23, ai_c1i, ai_c1n, ai_c1r, e_aald, e_al0, e_al3, e_an0, e_an3, e_as3, e_az3, e_c3, e_const, e_cv1, e_cv2, e_cv3, e_getI, e_getR, e_goto, e_ii1, e_ii2, e_il1, e_il2, e_il4, e_is1, e_is2, e_is4, e_reti, e_z0, Option.toList_some, Option.toList_none, List.cons_append, List.nil_append, List.append_nil, List.length_cons, List.length_nil, Nat.reduceAdd, Nat.reduceLeDiff, Nat.zero_le, true_and, and_true, and_self, true_implies, forall_const, ai_rvs, ai_rv0, ai_b_0, Classical.not_not, q_0, q_1, q_64, q_65, q_82, q_mk, q_od, rd_mc h, e1, Int32.le_refl, not_true_eq_false, false_implies]
    exact k3
  | r + 1, i, hi, I, M, x, y, h => by
    have e1 := (vf_K (S := S) cfv_1 i).trans hk
    have hc' : CV (vf i S).1.1 k := hc.of fun m => vf_K cfv_16 i
    have ih := c23_l hk hk6 hc kk r (i + 1) (by omega)
    rw [vf] at ih
    rw [H23_4]
    simp (disch := omega) only [K23, ai_c1i, ai_c1n, ai_c1r, e_aald, e_al0, e_al3, e_an0, e_an3, e_as3, e_az3, e_c3, e_const, e_cv1, e_cv2, e_cv3, e_getI, e_getR, e_goto, e_ii1, e_ii2, e_il1, e_il2, e_il4, e_is1, e_is2, e_is4, e_reti, e_z0, Option.toList_some, Option.toList_none, List.cons_append, List.nil_append, List.append_nil, List.length_cons, List.length_nil, Nat.reduceAdd, Nat.reduceLeDiff, Nat.zero_le, true_and, and_true, and_self, true_implies, forall_const, ai_rvs, ai_rv0, ai_b_0, Classical.not_not, q_0, q_1, q_64, q_65, q_82, q_mk, q_od, rd_mc h, e1, nIle, m_11 h, a_mk, nIc, m_mk h, c37 h]
    refine ⟨fun g => absurd g (by omega), fun _ => ⟨fun g => ?_, fun g => ?_⟩⟩
    · rw [if_neg (by simp only [Bool.and_eq_true, Bool.or_eq_true, decide_eq_true_eq]; exact fun g2 => g g2.1)] at ih
      simp (disch := omega) only [nIa, not_true_eq_false, false_implies]
      exact ⟨ih I M _ _ h, trivial⟩
    · rw [c24 h e1 hk6 hc' (by omega)]
      simp (disch := omega) only [K23, ai_c1i, ai_c1n, ai_c1r, e_aald, e_al0, e_al3, e_an0, e_an3, e_as3, e_az3, e_c3, e_const, e_cv1, e_cv2, e_cv3, e_getI, e_getR, e_goto, e_ii1, e_ii2, e_il1, e_il2, e_il4, e_is1, e_is2, e_is4, e_reti, e_z0, Option.toList_some, Option.toList_none, List.cons_append, List.nil_append, List.append_nil, List.length_cons, List.length_nil, Nat.reduceAdd, Nat.reduceLeDiff, Nat.zero_le, true_and, and_true, and_self, true_implies, forall_const, ai_rvs, ai_rv0, ai_b_0, Classical.not_not, q_0, q_1, q_64, q_65, q_82, q_mk, q_od, nIa]
      refine ⟨fun g1 => ?_, fun g1 => ?_⟩
      · rw [if_neg (by simp only [Bool.and_eq_true, Bool.not_eq_true', decide_eq_false_iff_not]; exact fun g2 => g2.2 g1)] at ih
        exact ih I M _ _ h
      · rw [if_pos (by simp only [Bool.and_eq_true, Bool.or_eq_true, Bool.not_eq_true', decide_eq_true_eq, decide_eq_false_iff_not]; exact ⟨g, g1⟩)] at ih
        refine c22 h (by omega) fun I1 M1 h1 => ?_
        simp (disch := omega) only [K23, ai_c1i, ai_c1n, ai_c1r, e_aald, e_al0, e_al3, e_an0, e_an3, e_as3, e_az3, e_c3, e_const, e_cv1, e_cv2, e_cv3, e_getI, e_getR, e_goto, e_ii1, e_ii2, e_il1, e_il2, e_il4, e_is1, e_is2, e_is4, e_reti, e_z0, Option.toList_some, Option.toList_none, List.cons_append, List.nil_append, List.append_nil, List.length_cons, List.length_nil, Nat.reduceAdd, Nat.reduceLeDiff, Nat.zero_le, true_and, and_true, and_self, true_implies, forall_const, ai_rvs, ai_rv0, ai_b_0, Classical.not_not, q_0, q_1, q_64, q_65, q_82, q_mk, q_od, nIa]
        exact ih I1 M1 _ _ h1
theorem c23 (h : EX 1 S C I M) (hk : S.1 1 = nI k) (hk6 : k ≤ 6) (hc : CV S.1 k) (kk : ∀ I' M', EX 1 (vf k S).1 C I' M' → Q (some (.int (nI (vf k S).2))) (LK, I', M')) : Cl (d + 3) 23 [.ref 1] (LK, I, M) Q := by
  simp (disch := omega) only [E23, K23, ai_c1i, ai_c1n, ai_c1r, e_aald, e_al0, e_al3, e_an0, e_an3, e_as3, e_az3, e_c3, e_const, e_cv1, e_cv2, e_cv3, e_getI, e_getR, e_goto, e_ii1, e_ii2, e_il1, e_il2, e_il4, e_is1, e_is2, e_is4, e_reti, e_z0, Option.toList_some, Option.toList_none, List.cons_append, List.nil_append, List.append_nil, List.length_cons, List.length_nil, Nat.reduceAdd, Nat.reduceLeDiff, Nat.zero_le, true_and, and_true, and_self, true_implies, forall_const, ai_rvs, ai_rv0, ai_b_0, Classical.not_not, q_0, q_1, q_64, q_65, q_82, q_mk, q_od]
  exact c23_l hk hk6 hc kk k 0 (by omega) I M _ _ h
/-! a tick -/
def xpd (P : St) (m : Nat) : St := (ug (ug P.1 (12 + 43 * m) (nI 1)) 3 (nI (fl m P.2.1).length), fl m P.2.1, P.2.2)
def pt1 : Nat → St → St
  | 0, S => S
  | i + 1, S => if decide ((pt1 i S).1 (12 + 43 * i) = nI 0) && decide ((pt1 i S).1 (15 + 43 * i) ≤ (pt1 i S).1 0) then xpd (pt1 i S) i else pt1 i S
def pt2 (k : Nat) : Nat → St → St
  | 0, S => S
  | i + 1, S => if decide ((pt2 k i S).1 (12 + 43 * i) = nI 1) && decide ((pt2 k i S).1 (15 + 43 * i) + nI 10 ≤ (pt2 k i S).1 0) then (vf k (mv (pt2 k i S) i (nI 2))).1 else pt2 k i S
def ptk (k : Nat) (S : St) : St := pt2 k k (pt1 k (ug S.1 0 (S.1 0 + nI 1), S.2))
theorem pt1_K {S : St} {j : Nat} (h : cfv j) : ∀ i, (pt1 i S).1 j = S.1 j
  | 0 => rfl
  | i + 1 => by
    obtain ⟨h1, h2, h3⟩ := h
    rw [pt1]
    split
    · unfold xpd
      dsimp only
      rw [ug_n h1, ug_n (h3 i).2.1]
      exact pt1_K ⟨h1, h2, h3⟩ i
    · exact pt1_K ⟨h1, h2, h3⟩ i
theorem pt2_K {S : St} {k j : Nat} (h : cfv j) : ∀ i, (pt2 k i S).1 j = S.1 j
  | 0 => rfl
  | i + 1 => by
    rw [pt2]
    split
    · exact (vf_K h k).trans ((mv_K h).trans (pt2_K h i))
    · exact pt2_K h i
theorem pt1_ov {S : St} (h : OV S.2.1) : ∀ i, OV (pt1 i S).2.1
  | 0 => h
  | i + 1 => by
    rw [pt1]
    split
    · exact fl_ov (pt1_ov h i)
    · exact pt1_ov h i
theorem pt2_ov {S : St} {k : Nat} (h : OV S.2.1) : ∀ i, OV (pt2 k i S).2.1
  | 0 => h
  | i + 1 => by
    rw [pt2]
    split
    · exact vf_ov (S := mv (pt2 k i S) i (nI 2)) (fl_ov (pt2_ov h i)) k
    · exact pt2_ov h i
theorem c19_1 (hk : S.1 1 = nI k) (hk6 : k ≤ 6) (kk : ∀ I' M' x, EX 1 (pt1 k S) C I' M' → Ev (d + 4) X0 19 66 [.ref 1, .int (nI 0), x] [] (LK, I', M') Q) :
    ∀ r i, r + i = k → ∀ I M x, EX 1 (pt1 i S) C I M → Ev (d + 4) X0 19 12 [.ref 1, .int (nI i), x] [] (LK, I, M) Q
  | 0, i, hi, I, M, x, h => by
    obtain rfl : i = k := by omega
    have e1 := (pt1_K (S := S) cfv_1 i).trans hk
    have k3 := kk I M x h
    rw [H19_12]
    simp (disch := omega) only [K19_0, K19_1, ai_c1i, ai_c1n, ai_c1r, e_aald, e_al0, e_al2, e_an0, e_an2, e_as2, e_az2, e_b0, e_c1, e_c3, e_c4, e_const, e_cv1, e_cv2, e_cv3, e_dupi, e_dupr, e_getI, e_getR, e_goto, e_ii1, e_il1, e_is1, e_popi, e_popr, e_putI, e_ret, e_z1, Option.toList_some, Option.toList_none, List.cons_append, List.nil_append, List.append_nil, List.length_cons, List.length_nil, Nat.reduceAdd, Nat.reduceLeDiff, Nat.zero_le, true_and, and_true, and_self, true_implies, forall_const, ai_rvs, ai_rv0, ai_b_0, Classical.not_not, q_0, q_1, q_64, q_65, q_82, q_mk, q_od, rd_mc h, e1, Int32.le_refl, not_true_eq_false, false_implies]
    exact k3
  | r + 1, i, hi, I, M, x, h => by
    have e1 := (pt1_K (S := S) cfv_1 i).trans hk
    have ih := c19_1 hk hk6 kk r (i + 1) (by omega)
    rw [pt1] at ih
    rw [H19_12]
    simp (disch := omega) only [K19_0, K19_1, ai_c1i, ai_c1n, ai_c1r, e_aald, e_al0, e_al2, e_an0, e_an2, e_as2, e_az2, e_b0, e_c1, e_c3, e_c4, e_const, e_cv1, e_cv2, e_cv3, e_dupi, e_dupr, e_getI, e_getR, e_goto, e_ii1, e_il1, e_is1, e_popi, e_popr, e_putI, e_ret, e_z1, Option.toList_some, Option.toList_none, List.cons_append, List.nil_append, List.append_nil, List.length_cons, List.length_nil, Nat.reduceAdd, Nat.reduceLeDiff, Nat.zero_le, true_and, and_true, and_self, true_implies, forall_const, ai_rvs, ai_rv0, ai_b_0, Classical.not_not, q_0, q_1, q_64, q_65, q_82, q_mk, q_od, rd_mc h, e1, nIle, m_11 h, a_mk, nIc, m_mk h, rd_st h, p_0, rd_xp h, p_3, rd_time h, BO, true_or, m_12 h, nIa]
    refine ⟨fun g => absurd g (by omega), fun _ => ⟨fun g => ?_, fun g => ⟨fun g1 => ?_, fun g1 => ?_⟩⟩⟩
    · rw [if_neg (by simp only [Bool.and_eq_true, decide_eq_true_eq]; exact fun g2 => g g2.1)] at ih
      exact ih I M _ h
    · rw [if_neg (by simp only [Bool.and_eq_true, decide_eq_true_eq]; exact fun g2 => i_nle.mpr g1 g2.2)] at ih
      exact ih I M _ h
    · rw [if_pos (by simp only [Bool.and_eq_true, decide_eq_true_eq]; exact ⟨g, i_nlt.mp g1⟩)] at ih
      have h1 := h.mkt (m := i) (by omega) (w := 0) (by omega) 9 rfl (y := 12 + 43 * i) (by omega) (nI 1)
      refine c5 h1 fun I1 M1 h2 => ?_
      exact ih I1 M1 _ h2
theorem c19_2 (hk : S.1 1 = nI k) (hk6 : k ≤ 6) (hc : CV S.1 k) (kk : ∀ I' M', EX 1 (pt2 k k S) C I' M' → Q none (LK, I', M')) :
    ∀ r i, r + i = k → ∀ I M x, EX 1 (pt2 k i S) C I M → Ev (d + 4) X0 19 66 [.ref 1, .int (nI i), x] [] (LK, I, M) Q
  | 0, i, hi, I, M, x, h => by
    obtain rfl : i = k := by omega
    have e1 := (pt2_K (S := S) (k := i) cfv_1 i).trans hk
    have k3 := kk I M h
    rw [H19_66]
    simp (disch := omega) only [K19_0, K19_1, ai_c1i, ai_c1n, ai_c1r, e_aald, e_al0, e_al2, e_an0, e_an2, e_as2, e_az2, e_b0, e_c1, e_c3, e_c4, e_const, e_cv1, e_cv2, e_cv3, e_dupi, e_dupr, e_getI, e_getR, e_goto, e_ii1, e_il1, e_is1, e_popi, e_popr, e_putI, e_ret, e_z1, Option.toList_some, Option.toList_none, List.cons_append, List.nil_append, List.append_nil, List.length_cons, List.length_nil, Nat.reduceAdd, Nat.reduceLeDiff, Nat.zero_le, true_and, and_true, and_self, true_implies, forall_const, ai_rvs, ai_rv0, ai_b_0, Classical.not_not, q_0, q_1, q_64, q_65, q_82, q_mk, q_od, rd_mc h, e1, Int32.le_refl, not_true_eq_false, false_implies]
    exact k3
  | r + 1, i, hi, I, M, x, h => by
    have e1 := (pt2_K (S := S) (k := k) cfv_1 i).trans hk
    have hc' : CV (pt2 k i S).1 k := hc.of fun m => pt2_K cfv_16 i
    have ih := c19_2 hk hk6 hc kk r (i + 1) (by omega)
    rw [pt2] at ih
    rw [H19_66]
    simp (disch := omega) only [K19_0, K19_1, ai_c1i, ai_c1n, ai_c1r, e_aald, e_al0, e_al2, e_an0, e_an2, e_as2, e_az2, e_b0, e_c1, e_c3, e_c4, e_const, e_cv1, e_cv2, e_cv3, e_dupi, e_dupr, e_getI, e_getR, e_goto, e_ii1, e_il1, e_is1, e_popi, e_popr, e_putI, e_ret, e_z1, Option.toList_some, Option.toList_none, List.cons_append, List.nil_append, List.append_nil, List.length_cons, List.length_nil, Nat.reduceAdd, Nat.reduceLeDiff, Nat.zero_le, true_and, and_true, and_self, true_implies, forall_const, ai_rvs, ai_rv0, ai_b_0, Classical.not_not, q_0, q_1, q_64, q_65, q_82, q_mk, q_od, rd_mc h, e1, nIle, nIeq, m_11 h, a_mk, nIc, m_mk h, rd_st h, p_0, rd_xp h, p_3, rd_time h, BO, true_or, m_12 h, nIa]
    refine ⟨fun g => absurd g (by omega), fun _ => ⟨fun g => ?_, fun g => ⟨fun g1 => ?_, fun g1 => ?_⟩⟩⟩
    · rw [if_neg (by simp only [Bool.and_eq_true, decide_eq_true_eq]; exact fun g2 => g g2.1)] at ih
      exact ih I M _ h
    · rw [if_neg (by simp only [Bool.and_eq_true, decide_eq_true_eq]; exact fun g2 => i_nle.mpr g1 g2.2)] at ih
      exact ih I M _ h
    · rw [if_pos (by simp only [Bool.and_eq_true, decide_eq_true_eq]; exact ⟨g, i_nlt.mp g1⟩)] at ih
      refine c22 h (by omega) fun I1 M1 h1 => ?_
      simp (disch := omega) only [K19_0, K19_1, ai_c1i, ai_c1n, ai_c1r, e_aald, e_al0, e_al2, e_an0, e_an2, e_as2, e_az2, e_b0, e_c1, e_c3, e_c4, e_const, e_cv1, e_cv2, e_cv3, e_dupi, e_dupr, e_getI, e_getR, e_goto, e_ii1, e_il1, e_is1, e_popi, e_popr, e_putI, e_ret, e_z1, Option.toList_some, Option.toList_none, List.cons_append, List.nil_append, List.append_nil, List.length_cons, List.length_nil, Nat.reduceAdd, Nat.reduceLeDiff, Nat.zero_le, true_and, and_true, and_self, true_implies, forall_const, ai_rvs, ai_rv0, ai_b_0, Classical.not_not, q_0, q_1, q_64, q_65, q_82, q_mk, q_od]
      refine c23 h1 ((mv_K cfv_1).trans e1) hk6 (hc'.of fun m => mv_K cfv_16) fun I2 M2 h2 => ?_
      simp (disch := omega) only [K19_0, K19_1, ai_c1i, ai_c1n, ai_c1r, e_aald, e_al0, e_al2, e_an0, e_an2, e_as2, e_az2, e_b0, e_c1, e_c3, e_c4, e_const, e_cv1, e_cv2, e_cv3, e_dupi, e_dupr, e_getI, e_getR, e_goto, e_ii1, e_il1, e_is1, e_popi, e_popr, e_putI, e_ret, e_z1, Option.toList_some, Option.toList_none, List.cons_append, List.nil_append, List.append_nil, List.length_cons, List.length_nil, Nat.reduceAdd, Nat.reduceLeDiff, Nat.zero_le, true_and, and_true, and_self, true_implies, forall_const, ai_rvs, ai_rv0, ai_b_0, Classical.not_not, q_0, q_1, q_64, q_65, q_82, q_mk, q_od, nIa]
      exact ih I2 M2 _ h2
/-- Exchange.passTick -/
theorem c19 (h : EX 1 S C I M) (hk : S.1 1 = nI k) (hk6 : k ≤ 6) (hc : CV S.1 k) (kk : ∀ I' M', EX 1 (ptk k S) C I' M' → Q none (LK, I', M')) : Cl (d + 4) 19 [.ref 1] (LK, I, M) Q := by
  have h1 := h.tm (S.1 0 + nI 1)
  have u1 : (ug S.1 0 (S.1 0 + nI 1)) 1 = nI k := by rw [ug_n (by omega)]; exact hk
  simp (disch := omega) only [E19, K19_0, K19_1, ai_c1i, ai_c1n, ai_c1r, e_aald, e_al0, e_al2, e_an0, e_an2, e_as2, e_az2, e_b0, e_c1, e_c3, e_c4, e_const, e_cv1, e_cv2, e_cv3, e_dupi, e_dupr, e_getI, e_getR, e_goto, e_ii1, e_il1, e_is1, e_popi, e_popr, e_putI, e_ret, e_z1, Option.toList_some, Option.toList_none, List.cons_append, List.nil_append, List.append_nil, List.length_cons, List.length_nil, Nat.reduceAdd, Nat.reduceLeDiff, Nat.zero_le, true_and, and_true, and_self, true_implies, forall_const, ai_rvs, ai_rv0, ai_b_0, Classical.not_not, q_0, q_1, q_64, q_65, q_82, q_mk, q_od, rd_time h, BO, true_or]
  refine c19_1 (S := (ug S.1 0 (S.1 0 + nI 1), S.2)) u1 hk6 (fun I2 M2 x h2 => ?_) k 0 (by omega) _ _ _ h1
  exact c19_2 (S := pt1 k (ug S.1 0 (S.1 0 + nI 1), S.2)) ((pt1_K cfv_1 k).trans u1) hk6 (CV.of hc fun m => (pt1_K cfv_16 k).trans (ug_n (by omega))) kk k 0 (by omega) I2 M2 x h2
end TICK
