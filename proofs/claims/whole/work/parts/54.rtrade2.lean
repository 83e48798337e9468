/-! the reference's trades, whole -/
theorem bx_congr {f g : Nat → Int32} : ∀ n, (∀ j, j < n → f j = g j) → bx_sum f n = bx_sum g n
  | 0, _ => rfl
  | n + 1, h => by rw [bx_s, bx_s, bx_congr n fun j hj => h j (by omega), h n (by omega)]
theorem abv_congr {q q' : Nat → Int32} {n i : Nat} (h : ∀ j, j < n → q j = q' j) (hi : i < n) : m_abv q n i = m_abv q' n i := by
  unfold m_abv
  refine bx_congr n fun j hj => ?_
  rw [h i hi, h j hj]
theorem act_congr {q q' : Nat → Int32} {n i : Nat} {b : Int32} (h : ∀ j, j < n → q j = q' j) (hi : i < n) : m_act q n b i = m_act q' n b i := by
  unfold m_act
  rw [abv_congr h hi]
theorem krs_congr {q q' : Nat → Int32} {n : Nat} {b : Int32} (h : ∀ j, j < n → q j = q' j) : m_k q n b n = m_k q' n b n ∧ m_s q n b n = m_s q' n b n ∧ m_r q n b n = m_r q' n b n := by
  refine ⟨bx_congr n fun j hj => ?_, bx_congr n fun j hj => ?_, bx_congr n fun j hj => ?_⟩
  · rw [act_congr h hj]
  · rw [act_congr h hj, h j hj]
  · rw [act_congr h hj, h j hj]
theorem lev_congr {q q' : Nat → Int32} {n : Nat} {b : Int32} (h : ∀ j, j < n → q j = q' j) : m_lev q n b = m_lev q' n b := by
  obtain ⟨h1, h2, h3⟩ := krs_congr (b := b) h
  unfold m_lev
  rw [h1, h2, h3]
theorem pr_congr {q q' : Nat → Int32} {n o : Nat} {b : Int32} (h : ∀ j, j < n → q j = q' j) (ho : o < n) : m_pr q n b o = m_pr q' n b o := by
  obtain ⟨h1, h2, h3⟩ := krs_congr (b := b) h
  unfold m_pr
  rw [h1, h2, h o ho]
theorem cost_congr {q q' : Nat → Int32} {n o : Nat} {b c : Int32} (h : ∀ j, j < n → q j = q' j) (ho : o < n) : m_cost q n b o c = m_cost q' n b o c := by
  unfold m_cost
  rw [lev_congr h]
  congr 1
  refine lev_congr fun j hj => ?_
  unfold ug
  by_cases e : j = o
  · rw [if_pos e, if_pos e, h o ho]
  · rw [if_neg e, if_neg e, h j hj]
section RTRADE2
variable {I : Nat → Nat → Int32} {J : Nat → Int32} {M : Nat → Nat → Nat} {S : St} {m n b o k t T : Nat} {s : Nat → Nat} {d : Nat} {Q : Option Value → ai_H → Prop}
theorem RJ.due {c : Int32} (h : RJ J S k) (hmk : m < k) (hr : RK J m n b s) (ho : o < n) : m_cost (qs J m) n (nI b) o c = m_due S.1 m o c := by
  obtain ⟨r1, r2, r3, r4⟩ := h
  obtain ⟨h1, h2, h3, h4, h5, h6⟩ := hr
  have e2 : S.1 (14 + 43 * m) = nI n := by rw [← r3 _ (by omega) (by omega), ← p_2]; exact h3
  have e1 : S.1 (13 + 43 * m) = nI b := by rw [← r3 _ (by omega) (by omega), ← p_1]; exact h4
  unfold m_due
  rw [nN_of e2 h2, e1]
  refine cost_congr (fun j hj => ?_) ho
  unfold qs
  exact r3 _ (by omega) (by omega)
theorem r117 {c ord : Int32} {x : Nat} (hm : RM M) (h : RJ J S k) (hmk : m < k) (hT : S.1 4 = nI T) (hb : T < 999999999) (hr : RK J m n b s) (hn : 1 ≤ n) (hb1 : 1 ≤ b) (ht : t < 6) (ho : o < n) (hc : J (21 + 43 * m + o) + c = nI x) (hx : x < 1000)
    (kk : ∀ J', (∀ j, 270 ≤ j → j < 366 → J' j = J j) → RJ J' (tr S m t o c ord) k → Q (some (.int (m_due S.1 m o c))) (LK, sr I J', M)) : Cl (d + 7) 117 [.ref 229, .int (nI t), .int (nI m), .int (nI o), .int c, .int ord] (LK, sr I J, M) Q := by
  have hn4 := hr.2.1
  have hk6 := h.2.1
  have ed := h.due (c := c) hmk hr ho
  simp (disch := omega) only [E117, k117_0, k117_1, k117_2, k117_3, k117_5, k117_8, k117_10, k117_11, k117_14, k117_15, k117_18, k117_20, k117_21, k117_22, k117_23, k117_24, k117_25, k117_27, k117_28, k117_29, k117_30, k117_33, k117_34, k117_37, k117_39, k117_40, k117_41, k117_42, k117_43, k117_44, k117_45, k117_46, k117_47, k117_48, k117_50, k117_51, k117_52, k117_53, k117_56, k117_57, k117_60, k117_62, k117_63, k117_64, k117_65, k117_66, k117_67, k117_69, k117_70, k117_71, k117_72, k117_75, k117_76, k117_79, k117_81, k117_82, k117_83, k117_84, k117_86, k117_87, k117_88, k117_89, k117_92, k117_94, k117_95, k117_96, k117_97, k117_98, k117_100, k117_101, k117_102, k117_109, k117_111, k117_114, k117_115, k117_118, k117_121, k117_123, k117_124, k117_125, k117_128, k117_131, k117_133, k117_134, k117_136, k117_137, k117_138, k117_139, k117_142, k117_145, k117_146, k117_149, k117_152, k117_153, k117_154, k117_155, k117_158, k117_161, k117_162, k117_163, k117_164, k117_167, k117_170, k117_171, k117_172, k117_173, k117_176, k117_179, k117_181, k117_182, k117_183, k117_186, k117_189, k117_191, k117_192, k117_193, k117_196, k117_199, k117_201, k117_202, k117_203, k117_206, k117_207, k117_208, k117_209, k117_210, k117_211, k117_212, k117_213, k117_216, k117_217, k117_219, k117_220, k117_223, k117_224, k117_225, k117_226, k117_227, k117_230, k117_231, k117_233, ai_c1i, ai_c1n, ai_c1r, e_al0, e_an0, e_b0, e_b1, e_b2, e_c2, e_const, e_cs1, e_cs2, e_cv4, e_dup2, e_getR, e_goto, e_iald, e_iast, e_ii7, e_il1, e_il2, e_il3, e_il4, e_il5, e_il6, e_il7, e_is6, e_is7, e_reti, Option.toList_some, Option.toList_none, List.cons_append, List.nil_append, List.append_nil, List.length_cons, List.length_nil, Nat.reduceAdd, Nat.reduceLeDiff, Nat.zero_le, true_and, and_true, and_self, true_implies, forall_const, ai_rvs, ai_rv0, ai_b_0, Classical.not_not, not_true_eq_false, false_implies, not_false_eq_true, true_implies, and_true, true_and, if_true, if_false, Bool.false_eq_true, q_229, a_nw, r109 hm hr hn hb1 ho hc hx, ed]
  generalize hdue : m_due S.1 m o c = due at kk ⊢
  have rd : ∀ j, j < 12 + 43 * k → j ≠ 5 → S.1 j = J j := fun j hj h5 => (h.2.2.1 j hj h5).symm
  have hJ : RJ (ug (ug (ug (ug (ug J (21 + 43 * m + o) (J (21 + 43 * m + o) + c)) (25 + 43 * m + 4 * t + o) (J (25 + 43 * m + 4 * t + o) + c)) (49 + 43 * m + t) (J (49 + 43 * m + t) + due)) (18 + 43 * m) (J (18 + 43 * m) + due)) (6 + t) (J (6 + t) - due)) (tr_g S.1 m t o c due, S.2) k := by
    rw [tr_g_alt ht (by omega), rd (21 + 43 * m + o) (by omega) (by omega), rd (25 + 43 * m + 4 * t + o) (by omega) (by omega), rd (49 + 43 * m + t) (by omega) (by omega), rd (18 + 43 * m) (by omega) (by omega), rd (6 + t) (by omega) (by omega)]
    exact ((((h.upd (by omega) (by omega) (by omega) (by omega) _).upd (by omega) (by omega) (by omega) (by omega) _).upd (by omega) (by omega) (by omega) (by omega) _).upd (by omega) (by omega) (by omega) (by omega) _).upd (by omega) (by omega) (by omega) (by omega) _
  have a1 : 12 + 43 * m + 9 + o = 21 + 43 * m + o := by omega
  have a2 : 12 + 43 * m + 13 + 4 * t + o = 25 + 43 * m + 4 * t + o := by omega
  have a3 : 12 + 43 * m + 37 + t = 49 + 43 * m + t := by omega
  simp (disch := omega) only [k117_0, k117_1, k117_2, k117_3, k117_5, k117_8, k117_10, k117_11, k117_14, k117_15, k117_18, k117_20, k117_21, k117_22, k117_23, k117_24, k117_25, k117_27, k117_28, k117_29, k117_30, k117_33, k117_34, k117_37, k117_39, k117_40, k117_41, k117_42, k117_43, k117_44, k117_45, k117_46, k117_47, k117_48, k117_50, k117_51, k117_52, k117_53, k117_56, k117_57, k117_60, k117_62, k117_63, k117_64, k117_65, k117_66, k117_67, k117_69, k117_70, k117_71, k117_72, k117_75, k117_76, k117_79, k117_81, k117_82, k117_83, k117_84, k117_86, k117_87, k117_88, k117_89, k117_92, k117_94, k117_95, k117_96, k117_97, k117_98, k117_100, k117_101, k117_102, k117_109, k117_111, k117_114, k117_115, k117_118, k117_121, k117_123, k117_124, k117_125, k117_128, k117_131, k117_133, k117_134, k117_136, k117_137, k117_138, k117_139, k117_142, k117_145, k117_146, k117_149, k117_152, k117_153, k117_154, k117_155, k117_158, k117_161, k117_162, k117_163, k117_164, k117_167, k117_170, k117_171, k117_172, k117_173, k117_176, k117_179, k117_181, k117_182, k117_183, k117_186, k117_189, k117_191, k117_192, k117_193, k117_196, k117_199, k117_201, k117_202, k117_203, k117_206, k117_207, k117_208, k117_209, k117_210, k117_211, k117_212, k117_213, k117_216, k117_217, k117_219, k117_220, k117_223, k117_224, k117_225, k117_226, k117_227, k117_230, k117_231, k117_233, ai_c1i, ai_c1n, ai_c1r, e_al0, e_an0, e_b0, e_b1, e_b2, e_c2, e_const, e_cs1, e_cs2, e_cv4, e_dup2, e_getR, e_goto, e_iald, e_iast, e_ii7, e_il1, e_il2, e_il3, e_il4, e_il5, e_il6, e_il7, e_is6, e_is7, e_reti, Option.toList_some, Option.toList_none, List.cons_append, List.nil_append, List.append_nil, List.length_cons, List.length_nil, Nat.reduceAdd, Nat.reduceLeDiff, Nat.zero_le, true_and, and_true, and_self, true_implies, forall_const, ai_rvs, ai_rv0, ai_b_0, Classical.not_not, not_true_eq_false, false_implies, not_false_eq_true, true_implies, and_true, true_and, if_true, if_false, Bool.false_eq_true, q_229, a_nw, hm.1, c98, nIm, nIa, nIc, a1, a2, a3, p_6, sr_r, sr_u, ug_n]
  have ho9 : ∀ j, 270 ≤ j → j < 366 → (ug (ug (ug (ug (ug J (21 + 43 * m + o) (J (21 + 43 * m + o) + c)) (25 + 43 * m + 4 * t + o) (J (25 + 43 * m + 4 * t + o) + c)) (49 + 43 * m + t) (J (49 + 43 * m + t) + due)) (18 + 43 * m) (J (18 + 43 * m) + due)) (6 + t) (J (6 + t) - due)) j = J j := fun j hj1 hj2 => by
    simp (disch := omega) only [ug_n]
  generalize (ug (ug (ug (ug (ug J (21 + 43 * m + o) (J (21 + 43 * m + o) + c)) (25 + 43 * m + 4 * t + o) (J (25 + 43 * m + 4 * t + o) + c)) (49 + 43 * m + t) (J (49 + 43 * m + t) + due)) (18 + 43 * m) (J (18 + 43 * m) + due)) (6 + t) (J (6 + t) - due)) = Jc at hJ ho9 ⊢
  have hT' : tr_g S.1 m t o c due 4 = nI T := by rw [tr_k (by omega) (by omega) (by omega) (by omega) (by omega)]; exact hT
  obtain ⟨j1, j2, j3, j4, T', t1, t2, t3, t4⟩ := id hJ
  obtain rfl := (nIeq (by omega) (by omega)).mp (t1.symm.trans hT')
  have j44 : Jc 4 = nI T' := by rw [j3 4 (by omega) (by omega)]; exact hT'
  have l := r117_l (d := d + 7) (Q := Q) (I := I) (M := M) (J0 := Jc) (a1 := .int (nI t)) (a2 := .int (nI m)) (a3 := .int (nI o)) (a4 := .int c) (a5 := .int ord) (a6 := .int due) hm ?_ 174 (by omega)
  · rw [show 174 + 5 = 179 by omega, shf_0] at l
    simp (disch := omega) only [K117_0, K117_1, K117_2, ai_c1i, ai_c1n, ai_c1r, e_al0, e_an0, e_b0, e_b1, e_b2, e_c2, e_const, e_cs1, e_cs2, e_cv4, e_dup2, e_getR, e_goto, e_iald, e_iast, e_ii7, e_il1, e_il2, e_il3, e_il4, e_il5, e_il6, e_il7, e_is6, e_is7, e_reti, Option.toList_some, Option.toList_none, List.cons_append, List.nil_append, List.append_nil, List.length_cons, List.length_nil, Nat.reduceAdd, Nat.reduceLeDiff, Nat.zero_le, true_and, and_true, and_self, true_implies, forall_const, ai_rvs, ai_rv0, ai_b_0, Classical.not_not, not_true_eq_false, false_implies, not_false_eq_true, true_implies, and_true, true_and, if_true, if_false, Bool.false_eq_true]
    exact l
  · have s4 : shf Jc 5 4 = nI T' := by unfold shf; rw [if_neg (by omega)]; exact j44
    have s5 : shf Jc 5 5 = nI (min 30 T') := by unfold shf; rw [if_neg (by omega)]; exact t3
    simp (disch := omega) only [K117_0, K117_1, K117_2, ai_c1i, ai_c1n, ai_c1r, e_al0, e_an0, e_b0, e_b1, e_b2, e_c2, e_const, e_cs1, e_cs2, e_cv4, e_dup2, e_getR, e_goto, e_iald, e_iast, e_ii7, e_il1, e_il2, e_il3, e_il4, e_il5, e_il6, e_il7, e_is6, e_is7, e_reti, Option.toList_some, Option.toList_none, List.cons_append, List.nil_append, List.append_nil, List.length_cons, List.length_nil, Nat.reduceAdd, Nat.reduceLeDiff, Nat.zero_le, true_and, and_true, and_self, true_implies, forall_const, ai_rvs, ai_rv0, ai_b_0, Classical.not_not, not_true_eq_false, false_implies, not_false_eq_true, true_implies, and_true, true_and, if_true, if_false, Bool.false_eq_true, q_229, a_nw, hm.1, nIc, sr_r, sr_u, ug_n, s4, s5, nIa, r161]
    refine kk _ (fun j hj1 hj2 => ?_) ?_
    · simp (disch := omega) only [ug_n]
      unfold shf
      rw [if_neg (by omega)]
      exact ho9 j hj1 hj2
    unfold tr
    rw [hdue, hT, nIa]
    refine hJ.hadd (T := T') hT' (by omega) (fun j hj h4 h5 => ?_) ?_ ?_ (fun y hy => ?_) (fun y hy hy2 => ?_)
    · simp (disch := omega) only [ug_n]
      unfold shf
      rw [if_neg (by omega)]
    · rw [ug_n (by omega), ug_s]
    · rw [ug_s]
      congr 1
      omega
    · rcases (by omega : y = 0 ∨ y = 1 ∨ y = 2 ∨ y = 3 ∨ y = 4 ∨ y = 5) with rfl | rfl | rfl | rfl | rfl | rfl
      all_goals
        simp (disch := omega) only [ug_n, ug_s, Nat.reduceAdd]
        rfl
    · simp (disch := omega) only [ug_n]
      unfold shf
      rw [if_pos (by omega)]
      congr 1
      omega
end RTRADE2
