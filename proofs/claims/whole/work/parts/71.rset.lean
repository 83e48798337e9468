/-! the reference buys sets -/
theorem b_all_c {f : Nat → Bool} : ∀ n, b_all f n = true ↔ ∀ i, i < n → f i = true
  | 0 => ⟨fun _ i hi => absurd hi (by omega), fun _ => rfl⟩
  | n + 1 => by
    rw [b_all, Bool.and_eq_true, b_all_c n]
    refine ⟨fun h i hi => ?_, fun h => ⟨fun i hi => h i (by omega), h n (by omega)⟩⟩
    by_cases e : i = n
    · subst e
      exact h.2
    · exact h.1 i (by omega)
theorem ga_o {g : Nat → Int32} {m j : Nat} {s c : Int32} : ∀ i, (∀ o, o < i → j ≠ 21 + 43 * m + o) → g_add g m s c i j = g j
  | 0, _ => rfl
  | i + 1, h => by
    rw [g_add]
    split
    · rw [ug_n (h i (by omega))]
      exact ga_o i fun o ho => h o (by omega)
    · exact ga_o i fun o ho => h o (by omega)
theorem ga_v {g : Nat → Int32} {m o : Nat} {s c : Int32} : ∀ i, g_add g m s c i (21 + 43 * m + o) = if o < i ∧ b_in s o = true then g (21 + 43 * m + o) + c else g (21 + 43 * m + o)
  | 0 => by rw [if_neg (by omega)]; rfl
  | i + 1 => by
    have ih := ga_v (g := g) (m := m) (o := o) (s := s) (c := c) i
    rw [g_add]
    by_cases e : o = i
    · subst e
      rw [if_neg (by omega)] at ih
      by_cases hb : b_in s o = true
      · rw [if_pos hb, if_pos ⟨by omega, hb⟩, ug_s, ih]
      · rw [if_neg hb, if_neg (fun h => hb h.2), ih]
    · have e2 : (if b_in s i = true then ug (g_add g m s c i) (21 + 43 * m + i) (g_add g m s c i (21 + 43 * m + i) + c) else g_add g m s c i) (21 + 43 * m + o) = g_add g m s c i (21 + 43 * m + o) := by
        split
        · rw [ug_n (by omega)]
        · rfl
      rw [e2, ih]
      by_cases hb : o < i ∧ b_in s o = true
      · rw [if_pos hb, if_pos ⟨by omega, hb.2⟩]
      · rw [if_neg hb, if_neg (fun h => hb ⟨by omega, h.2⟩)]
theorem ga_back {g : Nat → Int32} {m n : Nat} {s c : Int32} : g_add (g_add g m s c n) m s (-c) n = g := by
  funext j
  by_cases h : ∃ o, o < n ∧ j = 21 + 43 * m + o
  · obtain ⟨o, ho, rfl⟩ := h
    rw [ga_v, ga_v]
    by_cases hb : o < n ∧ b_in s o = true
    · rw [if_pos hb, if_pos hb, Int32.add_assoc, Int32.add_right_neg, Int32.add_zero]
    · rw [if_neg hb, if_neg hb]
  · rw [ga_o n fun o ho e => h ⟨o, ho, e⟩, ga_o n fun o ho e => h ⟨o, ho, e⟩]
section RSET
variable {I : Nat → Nat → Int32} {J : Nat → Int32} {M : Nat → Nat → Nat} {S : St} {m n k T : Nat} {d : Nat} {Q : Option Value → ai_H → Prop}
theorem r119 {s : Int32} {o : Nat} {h : ai_H} : Cl d 119 [.ref 229, .int s, .int (nI o)] h Q ↔ Q (some (.int (ai_b (b_in s o = true)))) h := by
  refine Cl_one ?_
  simp (disch := omega) only [E119, K119, e_b3, e_b5, e_c1, e_const, e_goto, e_il1, e_il2, e_retb, Option.toList_some, Option.toList_none, List.cons_append, List.nil_append, List.append_nil, List.length_cons, List.length_nil, Nat.reduceAdd, Nat.reduceLeDiff, Nat.zero_le, true_and, and_true, and_self, true_implies, forall_const, ai_rvs, ai_rv0, ai_b_0, Classical.not_not, not_true_eq_false, false_implies, not_false_eq_true, true_implies, and_true, true_and, if_true, if_false, Bool.false_eq_true, q_229, a_nw]
  unfold b_in
  by_cases g : (s >>> (nI o &&& 31)) &&& nI 1 = nI 1
  · rw [decide_eq_true g, ai_b_t rfl]
    exact ⟨fun h => absurd g h, fun _ => ⟨Or.inr rfl, rfl⟩⟩
  · rw [decide_eq_false g, ai_b_f Bool.false_ne_true]
    exact ⟨fun _ => ⟨Or.inl rfl, rfl⟩, fun h => absurd h g⟩
theorem r120_l {s c : Int32} (hm : RM M) (hmk : m < k) (hn : S.1 (14 + 43 * m) = nI n) (hn4 : n ≤ 4) (kk : ∀ J', RJ J' (g_add S.1 m s c n, S.2) k → Q none (LK, sr I J', M)) :
    ∀ r i, r + i = n → ∀ J, RJ J (g_add S.1 m s c i, S.2) k → Ev (d + 2) X0 120 3 [.ref 229, .int (nI m), .int s, .int c, .int (nI i)] [] (LK, sr I J, M) Q
  | 0, i, hi, J, hj => by
    obtain rfl : i = n := by omega
    have hk6 := hj.2.1
    have e2 : J (12 + 43 * m + 2) = nI i := by rw [hj.2.2.1 _ (by omega) (by omega)]; dsimp only; rw [ga_o i fun o ho => by omega, p_2]; exact hn
    have k3 := kk J hj
    rw [H120_3]
    simp (disch := omega) only [K120, ai_c1i, ai_c1n, ai_c1r, e_al0, e_an0, e_b0, e_c3, e_const, e_cs1, e_cv3, e_dup2, e_getR, e_goto, e_iald, e_iast, e_ii4, e_il1, e_il2, e_il3, e_il4, e_is4, e_ret, e_z0, Option.toList_some, Option.toList_none, List.cons_append, List.nil_append, List.append_nil, List.length_cons, List.length_nil, Nat.reduceAdd, Nat.reduceLeDiff, Nat.zero_le, true_and, and_true, and_self, true_implies, forall_const, ai_rvs, ai_rv0, ai_b_0, Classical.not_not, not_true_eq_false, false_implies, not_false_eq_true, true_implies, and_true, true_and, if_true, if_false, Bool.false_eq_true, q_229, a_nw, r100 hm, sr_r, e2, Int32.le_refl]
    exact k3
  | r + 1, i, hi, J, hj => by
    have hk6 := hj.2.1
    have e2 : J (12 + 43 * m + 2) = nI n := by rw [hj.2.2.1 _ (by omega) (by omega)]; dsimp only; rw [ga_o i fun o ho => by omega, p_2]; exact hn
    have ih := r120_l hm hmk hn hn4 kk r (i + 1) (by omega)
    have es : J (21 + 43 * m + i) = g_add S.1 m s c i (21 + 43 * m + i) := hj.2.2.1 _ (by omega) (by omega)
    have ea : 12 + 43 * m + 9 + i = 21 + 43 * m + i := by omega
    have n10 : (nI 1 = nI 0) = False := eq_false (by decide)
    rw [g_add] at ih
    rw [H120_3]
    by_cases hb : b_in s i = true
    · have hb' : ai_b (b_in s i = true) = nI 1 := ai_b_t hb
      rw [if_pos hb] at ih
      have h2 := ih _ (hj.upd (j := 21 + 43 * m + i) (by omega) (by omega) (by omega) (by omega) (g_add S.1 m s c i (21 + 43 * m + i) + c))
      simp (disch := omega) only [K120, ai_c1i, ai_c1n, ai_c1r, e_al0, e_an0, e_b0, e_c3, e_const, e_cs1, e_cv3, e_dup2, e_getR, e_goto, e_iald, e_iast, e_ii4, e_il1, e_il2, e_il3, e_il4, e_is4, e_ret, e_z0, Option.toList_some, Option.toList_none, List.cons_append, List.nil_append, List.append_nil, List.length_cons, List.length_nil, Nat.reduceAdd, Nat.reduceLeDiff, Nat.zero_le, true_and, and_true, and_self, true_implies, forall_const, ai_rvs, ai_rv0, ai_b_0, Classical.not_not, not_true_eq_false, false_implies, not_false_eq_true, true_implies, and_true, true_and, if_true, if_false, Bool.false_eq_true, q_229, a_nw, r100 hm, sr_r, e2, nIle, r119, hb', n10, hm.1, c98, nIm, nIa, nIc, ea, es, sr_u]
      exact ⟨fun g => absurd g (by omega), fun _ => h2⟩
    · have hb' : ai_b (b_in s i = true) = nI 0 := ai_b_f hb
      rw [if_neg hb] at ih
      have h2 := ih _ hj
      simp (disch := omega) only [K120, ai_c1i, ai_c1n, ai_c1r, e_al0, e_an0, e_b0, e_c3, e_const, e_cs1, e_cv3, e_dup2, e_getR, e_goto, e_iald, e_iast, e_ii4, e_il1, e_il2, e_il3, e_il4, e_is4, e_ret, e_z0, Option.toList_some, Option.toList_none, List.cons_append, List.nil_append, List.append_nil, List.length_cons, List.length_nil, Nat.reduceAdd, Nat.reduceLeDiff, Nat.zero_le, true_and, and_true, and_self, true_implies, forall_const, ai_rvs, ai_rv0, ai_b_0, Classical.not_not, not_true_eq_false, false_implies, not_false_eq_true, true_implies, and_true, true_and, if_true, if_false, Bool.false_eq_true, q_229, a_nw, r100 hm, sr_r, e2, nIle, r119, hb', nIa]
      exact ⟨fun g => absurd g (by omega), fun _ => h2⟩
theorem r120 {s c : Int32} (hm : RM M) (hmk : m < k) (hj : RJ J S k) (hn : S.1 (14 + 43 * m) = nI n) (hn4 : n ≤ 4) (kk : ∀ J', RJ J' (g_add S.1 m s c n, S.2) k → Q none (LK, sr I J', M)) : Cl (d + 2) 120 [.ref 229, .int (nI m), .int s, .int c] (LK, sr I J, M) Q := by
  simp (disch := omega) only [E120, K120, ai_c1i, ai_c1n, ai_c1r, e_al0, e_an0, e_b0, e_c3, e_const, e_cs1, e_cv3, e_dup2, e_getR, e_goto, e_iald, e_iast, e_ii4, e_il1, e_il2, e_il3, e_il4, e_is4, e_ret, e_z0, Option.toList_some, Option.toList_none, List.cons_append, List.nil_append, List.append_nil, List.length_cons, List.length_nil, Nat.reduceAdd, Nat.reduceLeDiff, Nat.zero_le, true_and, and_true, and_self, true_implies, forall_const, ai_rvs, ai_rv0, ai_b_0, Classical.not_not, not_true_eq_false, false_implies, not_false_eq_true, true_implies, and_true, true_and, if_true, if_false, Bool.false_eq_true]
  exact r120_l hm hmk hn hn4 kk n 0 (by omega) J hj
/-- whether all the outcomes of the set have room -/
theorem r121_f {s t : Int32} {u : Value} {c : Nat} {sh : Nat → Nat} (hm : RM M) (hmk : m < k) (hj : RJ J S k) (hc : c ≤ 50) (hn : S.1 (14 + 43 * m) = nI n) (hn4 : n ≤ 4) (hs : ∀ o, o < n → S.1 (21 + 43 * m + o) = nI (sh o) ∧ sh o ≤ 400) (k1 : (∀ i, i < n → b_in s i = true → sh i + c ≤ 400) → Ev (d + 5) X0 121 117 [.ref 229, .int t, .int (nI m), .int s, .int (nI c), .int (nI n), u] [] (LK, sr I J, M) Q) (k2 : ∀ i, i < n → b_in s i = true → ¬ sh i + c ≤ 400 → Q (some (.int (-1000000003))) (LK, sr I J, M)) :
    ∀ r i, r + i = n → (∀ j, j < i → b_in s j = true → sh j + c ≤ 400) → Ev (d + 5) X0 121 68 [.ref 229, .int t, .int (nI m), .int s, .int (nI c), .int (nI i), u] [] (LK, sr I J, M) Q
  | 0, i, hi, ha => by
    obtain rfl : i = n := by omega
    have hk6 := hj.2.1
    have e2 : J (12 + 43 * m + 2) = nI i := by rw [hj.2.2.1 _ (by omega) (by omega), p_2]; exact hn
    have k3 := k1 ha
    rw [H121_68]
    simp (disch := omega) only [k121_0, k121_1, k121_4, k121_7, k121_9, k121_10, k121_12, k121_15, k121_18, k121_20, k121_21, k121_22, k121_23, k121_26, k121_29, k121_31, k121_32, k121_33, k121_34, k121_35, k121_36, k121_37, k121_38, k121_41, k121_42, k121_43, k121_44, k121_47, k121_50, k121_52, k121_53, k121_54, k121_55, k121_56, k121_59, k121_62, k121_64, k121_65, k121_66, k121_70, k121_71, k121_72, k121_73, k121_76, k121_79, k121_80, k121_81, k121_83, k121_86, k121_89, k121_90, k121_91, k121_93, k121_95, k121_96, k121_99, k121_101, k121_102, k121_105, k121_108, k121_110, k121_111, k121_114, k121_118, k121_119, k121_122, k121_123, k121_125, k121_126, k121_127, k121_128, k121_130, k121_133, k121_135, k121_136, k121_137, k121_140, k121_141, k121_143, k121_144, k121_145, k121_146, k121_148, k121_149, k121_152, k121_154, k121_155, k121_158, k121_160, k121_161, k121_162, k121_163, k121_166, k121_168, k121_169, k121_170, k121_174, k121_175, k121_176, k121_177, k121_180, k121_183, k121_184, k121_185, k121_187, k121_190, k121_193, k121_194, k121_195, k121_196, k121_198, k121_200, k121_201, k121_204, k121_205, k121_208, k121_211, k121_212, k121_213, k121_216, k121_218, ai_c1i, ai_c1n, ai_c1r, e_al0, e_an0, e_b0, e_b1, e_b4, e_c3, e_c5, e_const, e_cs1, e_cs3, e_cv2, e_cv3, e_cv4, e_cv6, e_getR, e_goto, e_iald, e_ii5, e_ii6, e_il1, e_il2, e_il3, e_il4, e_il5, e_il6, e_is5, e_is6, e_neg, e_popi, e_popr, e_reti, e_z0, e_z1, Option.toList_some, Option.toList_none, List.cons_append, List.nil_append, List.append_nil, List.length_cons, List.length_nil, Nat.reduceAdd, Nat.reduceLeDiff, Nat.zero_le, true_and, and_true, and_self, true_implies, forall_const, ai_rvs, ai_rv0, ai_b_0, Classical.not_not, not_true_eq_false, false_implies, not_false_eq_true, true_implies, and_true, true_and, if_true, if_false, Bool.false_eq_true, q_229, a_nw, r100 hm, sr_r, e2, Int32.le_refl]
    exact k3
  | r + 1, i, hi, ha => by
    have hk6 := hj.2.1
    have e2 : J (12 + 43 * m + 2) = nI n := by rw [hj.2.2.1 _ (by omega) (by omega), p_2]; exact hn
    have ih := fun h => r121_f (t := t) (u := u) hm hmk hj hc hn hn4 hs k1 k2 r (i + 1) (by omega) h
    obtain ⟨q1, q2⟩ := hs i (by omega)
    have es : J (12 + 43 * m + (9 + i)) = nI (sh i) := by rw [show 12 + 43 * m + (9 + i) = 21 + 43 * m + i by omega, hj.2.2.1 _ (by omega) (by omega)]; exact q1
    have n10 : (nI 1 = nI 0) = False := eq_false (by decide)
    rw [H121_68]
    by_cases hb : b_in s i = true
    · have hb' : ai_b (b_in s i = true) = nI 1 := ai_b_t hb
      by_cases hf : sh i + c ≤ 400
      · have h2 := ih fun j hj' hb2 => by
          by_cases e : j = i
          · subst e
            exact hf
          · exact ha j (by omega) hb2
        simp (disch := omega) only [k121_0, k121_1, k121_4, k121_7, k121_9, k121_10, k121_12, k121_15, k121_18, k121_20, k121_21, k121_22, k121_23, k121_26, k121_29, k121_31, k121_32, k121_33, k121_34, k121_35, k121_36, k121_37, k121_38, k121_41, k121_42, k121_43, k121_44, k121_47, k121_50, k121_52, k121_53, k121_54, k121_55, k121_56, k121_59, k121_62, k121_64, k121_65, k121_66, k121_70, k121_71, k121_72, k121_73, k121_76, k121_79, k121_80, k121_81, k121_83, k121_86, k121_89, k121_90, k121_91, k121_93, k121_95, k121_96, k121_99, k121_101, k121_102, k121_105, k121_108, k121_110, k121_111, k121_114, k121_118, k121_119, k121_122, k121_123, k121_125, k121_126, k121_127, k121_128, k121_130, k121_133, k121_135, k121_136, k121_137, k121_140, k121_141, k121_143, k121_144, k121_145, k121_146, k121_148, k121_149, k121_152, k121_154, k121_155, k121_158, k121_160, k121_161, k121_162, k121_163, k121_166, k121_168, k121_169, k121_170, k121_174, k121_175, k121_176, k121_177, k121_180, k121_183, k121_184, k121_185, k121_187, k121_190, k121_193, k121_194, k121_195, k121_196, k121_198, k121_200, k121_201, k121_204, k121_205, k121_208, k121_211, k121_212, k121_213, k121_216, k121_218, ai_c1i, ai_c1n, ai_c1r, e_al0, e_an0, e_b0, e_b1, e_b4, e_c3, e_c5, e_const, e_cs1, e_cs3, e_cv2, e_cv3, e_cv4, e_cv6, e_getR, e_goto, e_iald, e_ii5, e_ii6, e_il1, e_il2, e_il3, e_il4, e_il5, e_il6, e_is5, e_is6, e_neg, e_popi, e_popr, e_reti, e_z0, e_z1, Option.toList_some, Option.toList_none, List.cons_append, List.nil_append, List.append_nil, List.length_cons, List.length_nil, Nat.reduceAdd, Nat.reduceLeDiff, Nat.zero_le, true_and, and_true, and_self, true_implies, forall_const, ai_rvs, ai_rv0, ai_b_0, Classical.not_not, not_true_eq_false, false_implies, not_false_eq_true, true_implies, and_true, true_and, if_true, if_false, Bool.false_eq_true, q_229, a_nw, r100 hm, sr_r, e2, nIle, r119, hb', n10, nIa, es, hf]
        exact ⟨fun g => absurd g (by omega), fun _ => h2⟩
      · have h2 := k2 i (by omega) hb hf
        simp (disch := omega) only [k121_0, k121_1, k121_4, k121_7, k121_9, k121_10, k121_12, k121_15, k121_18, k121_20, k121_21, k121_22, k121_23, k121_26, k121_29, k121_31, k121_32, k121_33, k121_34, k121_35, k121_36, k121_37, k121_38, k121_41, k121_42, k121_43, k121_44, k121_47, k121_50, k121_52, k121_53, k121_54, k121_55, k121_56, k121_59, k121_62, k121_64, k121_65, k121_66, k121_70, k121_71, k121_72, k121_73, k121_76, k121_79, k121_80, k121_81, k121_83, k121_86, k121_89, k121_90, k121_91, k121_93, k121_95, k121_96, k121_99, k121_101, k121_102, k121_105, k121_108, k121_110, k121_111, k121_114, k121_118, k121_119, k121_122, k121_123, k121_125, k121_126, k121_127, k121_128, k121_130, k121_133, k121_135, k121_136, k121_137, k121_140, k121_141, k121_143, k121_144, k121_145, k121_146, k121_148, k121_149, k121_152, k121_154, k121_155, k121_158, k121_160, k121_161, k121_162, k121_163, k121_166, k121_168, k121_169, k121_170, k121_174, k121_175, k121_176, k121_177, k121_180, k121_183, k121_184, k121_185, k121_187, k121_190, k121_193, k121_194, k121_195, k121_196, k121_198, k121_200, k121_201, k121_204, k121_205, k121_208, k121_211, k121_212, k121_213, k121_216, k121_218, ai_c1i, ai_c1n, ai_c1r, e_al0, e_an0, e_b0, e_b1, e_b4, e_c3, e_c5, e_const, e_cs1, e_cs3, e_cv2, e_cv3, e_cv4, e_cv6, e_getR, e_goto, e_iald, e_ii5, e_ii6, e_il1, e_il2, e_il3, e_il4, e_il5, e_il6, e_is5, e_is6, e_neg, e_popi, e_popr, e_reti, e_z0, e_z1, Option.toList_some, Option.toList_none, List.cons_append, List.nil_append, List.append_nil, List.length_cons, List.length_nil, Nat.reduceAdd, Nat.reduceLeDiff, Nat.zero_le, true_and, and_true, and_self, true_implies, forall_const, ai_rvs, ai_rv0, ai_b_0, Classical.not_not, not_true_eq_false, false_implies, not_false_eq_true, true_implies, and_true, true_and, if_true, if_false, Bool.false_eq_true, q_229, a_nw, r100 hm, sr_r, e2, nIle, r119, hb', n10, nIa, es, hf]
        exact ⟨fun g => absurd g (by omega), fun _ => h2⟩
    · have hb' : ai_b (b_in s i = true) = nI 0 := ai_b_f hb
      have h2 := ih fun j hj' hb2 => by
        by_cases e : j = i
        · subst e
          exact absurd hb2 hb
        · exact ha j (by omega) hb2
      simp (disch := omega) only [k121_0, k121_1, k121_4, k121_7, k121_9, k121_10, k121_12, k121_15, k121_18, k121_20, k121_21, k121_22, k121_23, k121_26, k121_29, k121_31, k121_32, k121_33, k121_34, k121_35, k121_36, k121_37, k121_38, k121_41, k121_42, k121_43, k121_44, k121_47, k121_50, k121_52, k121_53, k121_54, k121_55, k121_56, k121_59, k121_62, k121_64, k121_65, k121_66, k121_70, k121_71, k121_72, k121_73, k121_76, k121_79, k121_80, k121_81, k121_83, k121_86, k121_89, k121_90, k121_91, k121_93, k121_95, k121_96, k121_99, k121_101, k121_102, k121_105, k121_108, k121_110, k121_111, k121_114, k121_118, k121_119, k121_122, k121_123, k121_125, k121_126, k121_127, k121_128, k121_130, k121_133, k121_135, k121_136, k121_137, k121_140, k121_141, k121_143, k121_144, k121_145, k121_146, k121_148, k121_149, k121_152, k121_154, k121_155, k121_158, k121_160, k121_161, k121_162, k121_163, k121_166, k121_168, k121_169, k121_170, k121_174, k121_175, k121_176, k121_177, k121_180, k121_183, k121_184, k121_185, k121_187, k121_190, k121_193, k121_194, k121_195, k121_196, k121_198, k121_200, k121_201, k121_204, k121_205, k121_208, k121_211, k121_212, k121_213, k121_216, k121_218, ai_c1i, ai_c1n, ai_c1r, e_al0, e_an0, e_b0, e_b1, e_b4, e_c3, e_c5, e_const, e_cs1, e_cs3, e_cv2, e_cv3, e_cv4, e_cv6, e_getR, e_goto, e_iald, e_ii5, e_ii6, e_il1, e_il2, e_il3, e_il4, e_il5, e_il6, e_is5, e_is6, e_neg, e_popi, e_popr, e_reti, e_z0, e_z1, Option.toList_some, Option.toList_none, List.cons_append, List.nil_append, List.append_nil, List.length_cons, List.length_nil, Nat.reduceAdd, Nat.reduceLeDiff, Nat.zero_le, true_and, and_true, and_self, true_implies, forall_const, ai_rvs, ai_rv0, ai_b_0, Classical.not_not, not_true_eq_false, false_implies, not_false_eq_true, true_implies, and_true, true_and, if_true, if_false, Bool.false_eq_true, q_229, a_nw, r100 hm, sr_r, e2, nIle, r119, hb', nIa]
      exact ⟨fun g => absurd g (by omega), fun _ => h2⟩
theorem trs_sh {t o : Nat} {s c : Int32} (ht : t < 6) (hm : m < 6) : ∀ i, i ≤ 4 → i ≤ o → o < 4 → (trs m t s c i S).1 (21 + 43 * m + o) = S.1 (21 + 43 * m + o)
  | 0, _, _, _ => rfl
  | i + 1, hi, hio, ho => by
    have ih := trs_sh (o := o) (s := s) (c := c) ht hm i (by omega) (by omega) ho
    rw [trs]
    split
    · rw [← ih]
      unfold tr tr_g
      dsimp only
      rw [ug_n (by omega), ug_n (by omega), ug_n (by omega), ug_n (by omega), ug_n (by omega), ug_n (by omega)]
    · exact ih
theorem EW.trsn {t c : Nat} {s : Int32} {sh : Nat → Nat} (h : EW S k T) (hmk : m < k) (ht : t < 6) (hn4 : n ≤ 4) (hs : ∀ o, o < n → S.1 (21 + 43 * m + o) = nI (sh o) ∧ sh o ≤ 400) (ha : ∀ i, i < n → b_in s i = true → sh i + c ≤ 400) : ∀ i, i ≤ n → ∃ T', T ≤ T' ∧ T' ≤ T + i ∧ EW (trs m t s (nI c) i S) k T'
  | 0, _ => ⟨T, by omega, by omega, h⟩
  | i + 1, hi => by
    obtain ⟨T', h1, h2, h3⟩ := EW.trsn h hmk ht hn4 hs ha i (by omega)
    have hk6 := h.1.2.1
    rw [trs]
    by_cases hb : b_in s i = true
    · rw [if_pos hb]
      refine ⟨T' + 1, by omega, by omega, h3.trd ht (by omega) (x := sh i + c) ?_ (ha i (by omega) hb)⟩
      rw [trs_sh ht (by omega) i (by omega) (by omega) (by omega), (hs i (by omega)).1, nIa]
    · rw [if_neg hb]
      exact ⟨T', by omega, by omega, h3⟩
theorem r121_t {t c : Nat} {s v : Int32} {sh : Nat → Nat} (hm : RM M) (h : EW S k T) (hb : T < 999980000) (hmk : m < k) (ht : t < 6) (hn : S.1 (14 + 43 * m) = nI n) (hn4 : n ≤ 4) (hs : ∀ o, o < n → S.1 (21 + 43 * m + o) = nI (sh o) ∧ sh o ≤ 400) (ha : ∀ i, i < n → b_in s i = true → sh i + c ≤ 400) (kk : ∀ J', RJ J' (trs m t s (nI c) n S) k → Ev (d + 9) X0 121 211 [.ref 229, .int (nI t), .int (nI m), .int s, .int (nI c), .int v, .int (nI n)] [] (LK, sr I J', M) Q) :
    ∀ r i, r + i = n → ∀ J, RJ J (trs m t s (nI c) i S) k → Ev (d + 9) X0 121 172 [.ref 229, .int (nI t), .int (nI m), .int s, .int (nI c), .int v, .int (nI i)] [] (LK, sr I J, M) Q
  | 0, i, hi, J, hj => by
    obtain rfl : i = n := by omega
    have hk6 := hj.2.1
    obtain ⟨e1, -⟩ := trs_p (s := s) (c := nI c) ht (cfg_n (m := m) (m' := m)) h.2.2.2.1 i hn4
    have e2 : J (12 + 43 * m + 2) = nI i := by rw [hj.2.2.1 _ (by omega) (by omega), p_2, e1]; exact hn
    have k3 := kk J hj
    rw [H121_172]
    simp (disch := omega) only [k121_0, k121_1, k121_4, k121_7, k121_9, k121_10, k121_12, k121_15, k121_18, k121_20, k121_21, k121_22, k121_23, k121_26, k121_29, k121_31, k121_32, k121_33, k121_34, k121_35, k121_36, k121_37, k121_38, k121_41, k121_42, k121_43, k121_44, k121_47, k121_50, k121_52, k121_53, k121_54, k121_55, k121_56, k121_59, k121_62, k121_64, k121_65, k121_66, k121_70, k121_71, k121_72, k121_73, k121_76, k121_79, k121_80, k121_81, k121_83, k121_86, k121_89, k121_90, k121_91, k121_93, k121_95, k121_96, k121_99, k121_101, k121_102, k121_105, k121_108, k121_110, k121_111, k121_114, k121_117, k121_118, k121_119, k121_122, k121_123, k121_125, k121_126, k121_127, k121_128, k121_130, k121_133, k121_135, k121_136, k121_137, k121_140, k121_141, k121_143, k121_144, k121_145, k121_146, k121_148, k121_149, k121_152, k121_154, k121_155, k121_158, k121_160, k121_161, k121_162, k121_163, k121_166, k121_168, k121_169, k121_170, k121_174, k121_175, k121_176, k121_177, k121_180, k121_183, k121_184, k121_185, k121_187, k121_190, k121_193, k121_194, k121_195, k121_196, k121_198, k121_200, k121_201, k121_204, k121_205, k121_208, k121_212, k121_213, k121_216, k121_218, ai_c1i, ai_c1n, ai_c1r, e_al0, e_an0, e_b0, e_b1, e_b4, e_c3, e_c5, e_const, e_cs1, e_cs3, e_cv2, e_cv3, e_cv4, e_cv6, e_getR, e_goto, e_iald, e_ii5, e_ii6, e_il1, e_il2, e_il3, e_il4, e_il5, e_il6, e_is5, e_is6, e_neg, e_popi, e_popr, e_reti, e_z0, e_z1, Option.toList_some, Option.toList_none, List.cons_append, List.nil_append, List.append_nil, List.length_cons, List.length_nil, Nat.reduceAdd, Nat.reduceLeDiff, Nat.zero_le, true_and, and_true, and_self, true_implies, forall_const, ai_rvs, ai_rv0, ai_b_0, Classical.not_not, not_true_eq_false, false_implies, not_false_eq_true, true_implies, and_true, true_and, if_true, if_false, Bool.false_eq_true, q_229, a_nw, r100 hm, sr_r, e2, Int32.le_refl]
    exact k3
  | r + 1, i, hi, J, hj => by
    have hk6 := hj.2.1
    obtain ⟨e1, -⟩ := trs_p (s := s) (c := nI c) ht (cfg_n (m := m) (m' := m)) h.2.2.2.1 i (by omega)
    have e2 : J (12 + 43 * m + 2) = nI n := by rw [hj.2.2.1 _ (by omega) (by omega), p_2, e1]; exact hn
    have ih := r121_t (v := v) hm h hb hmk ht hn hn4 hs ha kk r (i + 1) (by omega)
    rw [trs] at ih
    have n10 : (nI 1 = nI 0) = False := eq_false (by decide)
    rw [H121_172]
    by_cases hb1 : b_in s i = true
    · have hb' : ai_b (b_in s i = true) = nI 1 := ai_b_t hb1
      rw [if_pos hb1] at ih
      obtain ⟨T', h1, h2, h3⟩ := EW.trsn h hmk ht hn4 hs ha i (by omega)
      obtain ⟨n', b, s', g1, n2', n4', g2, b1, b2, g3⟩ := h3.2.1.1 m hmk
      rw [e1, hn] at g1
      obtain rfl := (nIeq (by omega) (by omega)).mp g1
      have hr : RK J m n b s' := RK.of hmk hk6 hj.2.2.1 (e1.trans hn) hn4 g2 b2 g3
      have hsx : J (21 + 43 * m + i) + nI c = nI (sh i + c) := by
        rw [hj.2.2.1 _ (by omega) (by omega), trs_sh ht (by omega) i (by omega) (by omega) (by omega), (hs i (by omega)).1, nIa]
      have hac := ha i (by omega) hb1
      simp (disch := omega) only [k121_0, k121_1, k121_4, k121_7, k121_9, k121_10, k121_12, k121_15, k121_18, k121_20, k121_21, k121_22, k121_23, k121_26, k121_29, k121_31, k121_32, k121_33, k121_34, k121_35, k121_36, k121_37, k121_38, k121_41, k121_42, k121_43, k121_44, k121_47, k121_50, k121_52, k121_53, k121_54, k121_55, k121_56, k121_59, k121_62, k121_64, k121_65, k121_66, k121_70, k121_71, k121_72, k121_73, k121_76, k121_79, k121_80, k121_81, k121_83, k121_86, k121_89, k121_90, k121_91, k121_93, k121_95, k121_96, k121_99, k121_101, k121_102, k121_105, k121_108, k121_110, k121_111, k121_114, k121_117, k121_118, k121_119, k121_122, k121_123, k121_125, k121_126, k121_127, k121_128, k121_130, k121_133, k121_135, k121_136, k121_137, k121_140, k121_141, k121_143, k121_144, k121_145, k121_146, k121_148, k121_149, k121_152, k121_154, k121_155, k121_158, k121_160, k121_161, k121_162, k121_163, k121_166, k121_168, k121_169, k121_170, k121_174, k121_175, k121_176, k121_177, k121_180, k121_183, k121_184, k121_185, k121_187, k121_190, k121_193, k121_194, k121_195, k121_196, k121_198, k121_200, k121_201, k121_204, k121_205, k121_208, k121_212, k121_213, k121_216, k121_218, ai_c1i, ai_c1n, ai_c1r, e_al0, e_an0, e_b0, e_b1, e_b4, e_c3, e_c5, e_const, e_cs1, e_cs3, e_cv2, e_cv3, e_cv4, e_cv6, e_getR, e_goto, e_iald, e_ii5, e_ii6, e_il1, e_il2, e_il3, e_il4, e_il5, e_il6, e_is5, e_is6, e_neg, e_popi, e_popr, e_reti, e_z0, e_z1, Option.toList_some, Option.toList_none, List.cons_append, List.nil_append, List.append_nil, List.length_cons, List.length_nil, Nat.reduceAdd, Nat.reduceLeDiff, Nat.zero_le, true_and, and_true, and_self, true_implies, forall_const, ai_rvs, ai_rv0, ai_b_0, Classical.not_not, not_true_eq_false, false_implies, not_false_eq_true, true_implies, and_true, true_and, if_true, if_false, Bool.false_eq_true, q_229, a_nw, r100 hm, sr_r, e2, nIle, r119, hb', n10]
      refine ⟨fun g => absurd g (by omega), fun _ => ?_⟩
      refine r117 (d := d + 1) hm hj hmk h3.2.2.2.1 (by omega) hr (by omega) b1 ht (show i < n by omega) hsx (by omega) fun J1 hc1 hj1 => ?_
      simp (disch := omega) only [k121_0, k121_1, k121_4, k121_7, k121_9, k121_10, k121_12, k121_15, k121_18, k121_20, k121_21, k121_22, k121_23, k121_26, k121_29, k121_31, k121_32, k121_33, k121_34, k121_35, k121_36, k121_37, k121_38, k121_41, k121_42, k121_43, k121_44, k121_47, k121_50, k121_52, k121_53, k121_54, k121_55, k121_56, k121_59, k121_62, k121_64, k121_65, k121_66, k121_70, k121_71, k121_72, k121_73, k121_76, k121_79, k121_80, k121_81, k121_83, k121_86, k121_89, k121_90, k121_91, k121_93, k121_95, k121_96, k121_99, k121_101, k121_102, k121_105, k121_108, k121_110, k121_111, k121_114, k121_117, k121_118, k121_119, k121_122, k121_123, k121_125, k121_126, k121_127, k121_128, k121_130, k121_133, k121_135, k121_136, k121_137, k121_140, k121_141, k121_143, k121_144, k121_145, k121_146, k121_148, k121_149, k121_152, k121_154, k121_155, k121_158, k121_160, k121_161, k121_162, k121_163, k121_166, k121_168, k121_169, k121_170, k121_174, k121_175, k121_176, k121_177, k121_180, k121_183, k121_184, k121_185, k121_187, k121_190, k121_193, k121_194, k121_195, k121_196, k121_198, k121_200, k121_201, k121_204, k121_205, k121_208, k121_212, k121_213, k121_216, k121_218, ai_c1i, ai_c1n, ai_c1r, e_al0, e_an0, e_b0, e_b1, e_b4, e_c3, e_c5, e_const, e_cs1, e_cs3, e_cv2, e_cv3, e_cv4, e_cv6, e_getR, e_goto, e_iald, e_ii5, e_ii6, e_il1, e_il2, e_il3, e_il4, e_il5, e_il6, e_is5, e_is6, e_neg, e_popi, e_popr, e_reti, e_z0, e_z1, Option.toList_some, Option.toList_none, List.cons_append, List.nil_append, List.append_nil, List.length_cons, List.length_nil, Nat.reduceAdd, Nat.reduceLeDiff, Nat.zero_le, true_and, and_true, and_self, true_implies, forall_const, ai_rvs, ai_rv0, ai_b_0, Classical.not_not, not_true_eq_false, false_implies, not_false_eq_true, true_implies, and_true, true_and, if_true, if_false, Bool.false_eq_true, q_229, a_nw, nIa]
      exact ih J1 hj1
    · have hb' : ai_b (b_in s i = true) = nI 0 := ai_b_f hb1
      rw [if_neg hb1] at ih
      have h2 := ih J hj
      simp (disch := omega) only [k121_0, k121_1, k121_4, k121_7, k121_9, k121_10, k121_12, k121_15, k121_18, k121_20, k121_21, k121_22, k121_23, k121_26, k121_29, k121_31, k121_32, k121_33, k121_34, k121_35, k121_36, k121_37, k121_38, k121_41, k121_42, k121_43, k121_44, k121_47, k121_50, k121_52, k121_53, k121_54, k121_55, k121_56, k121_59, k121_62, k121_64, k121_65, k121_66, k121_70, k121_71, k121_72, k121_73, k121_76, k121_79, k121_80, k121_81, k121_83, k121_86, k121_89, k121_90, k121_91, k121_93, k121_95, k121_96, k121_99, k121_101, k121_102, k121_105, k121_108, k121_110, k121_111, k121_114, k121_117, k121_118, k121_119, k121_122, k121_123, k121_125, k121_126, k121_127, k121_128, k121_130, k121_133, k121_135, k121_136, k121_137, k121_140, k121_141, k121_143, k121_144, k121_145, k121_146, k121_148, k121_149, k121_152, k121_154, k121_155, k121_158, k121_160, k121_161, k121_162, k121_163, k121_166, k121_168, k121_169, k121_170, k121_174, k121_175, k121_176, k121_177, k121_180, k121_183, k121_184, k121_185, k121_187, k121_190, k121_193, k121_194, k121_195, k121_196, k121_198, k121_200, k121_201, k121_204, k121_205, k121_208, k121_212, k121_213, k121_216, k121_218, ai_c1i, ai_c1n, ai_c1r, e_al0, e_an0, e_b0, e_b1, e_b4, e_c3, e_c5, e_const, e_cs1, e_cs3, e_cv2, e_cv3, e_cv4, e_cv6, e_getR, e_goto, e_iald, e_ii5, e_ii6, e_il1, e_il2, e_il3, e_il4, e_il5, e_il6, e_is5, e_is6, e_neg, e_popi, e_popr, e_reti, e_z0, e_z1, Option.toList_some, Option.toList_none, List.cons_append, List.nil_append, List.append_nil, List.length_cons, List.length_nil, Nat.reduceAdd, Nat.reduceLeDiff, Nat.zero_le, true_and, and_true, and_self, true_implies, forall_const, ai_rvs, ai_rv0, ai_b_0, Classical.not_not, not_true_eq_false, false_implies, not_false_eq_true, true_implies, and_true, true_and, if_true, if_false, Bool.false_eq_true, q_229, a_nw, r100 hm, sr_r, e2, nIle, r119, hb', nIa]
      exact ⟨fun g => absurd g (by omega), fun _ => h2⟩
theorem r121 (hm : RM M) (hj : RJ J S k) (h : EW S k T) (hb : T < 999980000) {t x s c : Int32} (kk : ∀ J', RJ J' (p_bs S t x s c).2 k → Q (some (.int (p_bs S t x s c).1)) (LK, sr I J', M)) : Cl (d + 10) 121 [.ref 229, .int t, .int x, .int s, .int c] (LK, sr I J, M) Q := by
  obtain ⟨w1, w2, w3, w4, w5⟩ := id h
  obtain ⟨v1, v2, v3, v4⟩ := id w2
  have hk6 := hj.2.1
  have rd := hj.2.2.1
  have hjr : RJ ((sr I J) 230) S k := hj
  have n10 : (nI 1 = nI 0) = False := eq_false (by decide)
  unfold p_bs at kk
  by_cases g1 : nI 0 ≤ t ∧ t ≤ nI 5
  · rw [if_pos g1] at kk
    obtain ⟨t, ht, rfl⟩ := tr_of g1
    rw [nIc (by omega)] at kk
    by_cases g2 : nI 1 ≤ c ∧ c ≤ nI 50
    · rw [if_pos g2] at kk
      simp (disch := omega) only [E121, k121_0, k121_1, k121_4, k121_7, k121_9, k121_10, k121_12, k121_15, k121_18, k121_20, k121_21, k121_22, k121_23, k121_26, k121_29, k121_31, k121_32, k121_33, k121_34, k121_35, k121_36, k121_37, k121_38, k121_41, k121_42, k121_43, k121_44, k121_47, k121_50, k121_52, k121_53, k121_54, k121_55, k121_56, k121_59, k121_62, k121_64, k121_65, k121_66, k121_70, k121_71, k121_72, k121_73, k121_76, k121_79, k121_80, k121_81, k121_83, k121_86, k121_89, k121_90, k121_91, k121_93, k121_95, k121_96, k121_99, k121_101, k121_102, k121_105, k121_108, k121_110, k121_111, k121_114, k121_118, k121_119, k121_122, k121_123, k121_125, k121_126, k121_127, k121_128, k121_130, k121_133, k121_135, k121_136, k121_137, k121_140, k121_141, k121_143, k121_144, k121_145, k121_146, k121_148, k121_149, k121_152, k121_154, k121_155, k121_158, k121_160, k121_161, k121_162, k121_163, k121_166, k121_168, k121_169, k121_170, k121_174, k121_175, k121_176, k121_177, k121_180, k121_183, k121_184, k121_185, k121_187, k121_190, k121_193, k121_194, k121_195, k121_196, k121_198, k121_200, k121_201, k121_204, k121_205, k121_208, k121_211, k121_212, k121_213, k121_216, k121_218, ai_c1i, ai_c1n, ai_c1r, e_al0, e_an0, e_b0, e_b1, e_b4, e_c3, e_c5, e_const, e_cs1, e_cs3, e_cv2, e_cv3, e_cv4, e_cv6, e_getR, e_goto, e_iald, e_ii5, e_ii6, e_il1, e_il2, e_il3, e_il4, e_il5, e_il6, e_is5, e_is6, e_neg, e_popi, e_popr, e_reti, e_z0, e_z1, Option.toList_some, Option.toList_none, List.cons_append, List.nil_append, List.append_nil, List.length_cons, List.length_nil, Nat.reduceAdd, Nat.reduceLeDiff, Nat.zero_le, true_and, and_true, and_self, true_implies, forall_const, ai_rvs, ai_rv0, ai_b_0, Classical.not_not, not_true_eq_false, false_implies, not_false_eq_true, true_implies, and_true, true_and, if_true, if_false, Bool.false_eq_true, q_229, a_nw, r103, c97, g1, g2, n10]
      refine r101 hm w1 hjr (fun m hmk ex em => ?_) (fun em => ?_)
      · rw [em] at kk
        dsimp only at kk
        subst ex
        obtain ⟨n, b, sh, h1, n2, n4, h2, b1, b2, h3⟩ := v1 m hmk
        have rn : J (12 + 43 * m + 2) = nI n := by rw [rd _ (by omega) (by omega), p_2]; exact h1
        have rst : J (12 + 43 * m + 0) = S.1 (12 + 43 * m) := rd _ (by omega) (by omega)
        by_cases g6 : nI 1 ≤ s ∧ s ≤ nI 1 <<< (nI n &&& 31) - nI 1
        · rw [h1, if_pos g6] at kk
          by_cases g3 : S.1 (12 + 43 * m) = nI 0
          · rw [if_pos g3, nN_of h1 n4] at kk
            obtain ⟨c, hc, rfl⟩ := nI_ofr (k := 51) (Int32.le_trans (by decide) g2.1) (Int32.lt_of_le_of_lt g2.2 (by decide)) (by omega)
            have bc : b_all (fun i => !b_in s i || decide (nI 0 ≤ qs S.1 m i + nI c ∧ qs S.1 m i + nI c ≤ nI 400)) n = true ↔ ∀ i, i < n → b_in s i = true → sh i + c ≤ 400 := by
              rw [b_all_c]
              have e : ∀ i, i < n → ((nI 0 ≤ qs S.1 m i + nI c ∧ qs S.1 m i + nI c ≤ nI 400) ↔ sh i + c ≤ 400) := fun i hi => by
                obtain ⟨q1, q2⟩ := h3 i hi
                rw [show qs S.1 m i = nI (sh i) from q1, nIa, nIle (by omega) (by omega), nIle (by omega) (by omega)]
                omega
              refine ⟨fun h i hi hb => ?_, fun h i hi => ?_⟩
              · have := h i hi
                rw [hb, Bool.not_true, Bool.false_or, decide_eq_true_eq, e i hi] at this
                exact this
              · by_cases hb : b_in s i = true
                · rw [hb, Bool.not_true, Bool.false_or, decide_eq_true_eq, e i hi]
                  exact h i hi hb
                · rw [Bool.not_eq_true] at hb
                  rw [hb]
                  rfl
            simp (disch := omega) only [k121_0, k121_1, k121_4, k121_7, k121_9, k121_10, k121_12, k121_15, k121_18, k121_20, k121_21, k121_22, k121_23, k121_26, k121_29, k121_31, k121_32, k121_33, k121_34, k121_35, k121_36, k121_37, k121_38, k121_41, k121_42, k121_43, k121_44, k121_47, k121_50, k121_52, k121_53, k121_54, k121_55, k121_56, k121_59, k121_62, k121_64, k121_65, k121_66, k121_70, k121_71, k121_72, k121_73, k121_76, k121_79, k121_80, k121_81, k121_83, k121_86, k121_89, k121_90, k121_91, k121_93, k121_95, k121_96, k121_99, k121_101, k121_102, k121_105, k121_108, k121_110, k121_111, k121_114, k121_118, k121_119, k121_122, k121_123, k121_125, k121_126, k121_127, k121_128, k121_130, k121_133, k121_135, k121_136, k121_137, k121_140, k121_141, k121_143, k121_144, k121_145, k121_146, k121_148, k121_149, k121_152, k121_154, k121_155, k121_158, k121_160, k121_161, k121_162, k121_163, k121_166, k121_168, k121_169, k121_170, k121_174, k121_175, k121_176, k121_177, k121_180, k121_183, k121_184, k121_185, k121_187, k121_190, k121_193, k121_194, k121_195, k121_196, k121_198, k121_200, k121_201, k121_204, k121_205, k121_208, k121_211, k121_212, k121_213, k121_216, k121_218, ai_c1i, ai_c1n, ai_c1r, e_al0, e_an0, e_b0, e_b1, e_b4, e_c3, e_c5, e_const, e_cs1, e_cs3, e_cv2, e_cv3, e_cv4, e_cv6, e_getR, e_goto, e_iald, e_ii5, e_ii6, e_il1, e_il2, e_il3, e_il4, e_il5, e_il6, e_is5, e_is6, e_neg, e_popi, e_popr, e_reti, e_z0, e_z1, Option.toList_some, Option.toList_none, List.cons_append, List.nil_append, List.append_nil, List.length_cons, List.length_nil, Nat.reduceAdd, Nat.reduceLeDiff, Nat.zero_le, true_and, and_true, and_self, true_implies, forall_const, ai_rvs, ai_rv0, ai_b_0, Classical.not_not, not_true_eq_false, false_implies, not_false_eq_true, true_implies, and_true, true_and, if_true, if_false, Bool.false_eq_true, q_229, a_nw, n10, r100 hm, sr_r, rn, c97, g6, rst, g3]
            refine r121_f (d := d + 5) (c := c) hm hmk hj (by rw [nIle (by omega) (by omega), nIle (by omega) (by omega)] at g2; omega) h1 n4 h3 (fun ha => ?_) (fun i hi hb1 hf => ?_) n 0 (by omega) (fun j hj' => by omega)
            · rw [if_pos (bc.mpr ha)] at kk
              have hr : RK ((sr I J) 230) m n b sh := RK.of hmk hk6 rd h1 n4 h2 b2 h3
              simp (disch := omega) only [K121_0, K121_1, K121_2, ai_c1i, ai_c1n, ai_c1r, e_al0, e_an0, e_b0, e_b1, e_b4, e_c3, e_c5, e_const, e_cs1, e_cs3, e_cv2, e_cv3, e_cv4, e_cv6, e_getR, e_goto, e_iald, e_ii5, e_ii6, e_il1, e_il2, e_il3, e_il4, e_il5, e_il6, e_is5, e_is6, e_neg, e_popi, e_popr, e_reti, e_z0, e_z1, Option.toList_some, Option.toList_none, List.cons_append, List.nil_append, List.append_nil, List.length_cons, List.length_nil, Nat.reduceAdd, Nat.reduceLeDiff, Nat.zero_le, true_and, and_true, and_self, true_implies, forall_const, ai_rvs, ai_rv0, ai_b_0, Classical.not_not, not_true_eq_false, false_implies, not_false_eq_true, true_implies, and_true, true_and, if_true, if_false, Bool.false_eq_true, q_229, a_nw, R107 hm hr (by omega) b1]
              have eL : m_lev (fun o => sr I J 230 (21 + 43 * m + o)) n (nI b) = m_lev (qs S.1 m) n (S.1 (13 + 43 * m)) := by
                rw [h2]
                exact lev_congr fun j hj' => rd _ (by omega) (by omega)
              rw [eL]
              refine r120 hm hmk hj h1 n4 fun J1 hj1 => ?_
              have rd1 := hj1.2.2.1
              have hr1 : RK ((sr I J1) 230) m n b (fun o => if b_in s o = true then sh o + c else sh o) := by
                refine ⟨by omega, n4, ?_, ?_, b2, fun o ho => ?_⟩
                · rw [sr_r, rd1 _ (by omega) (by omega)]; dsimp only; rw [ga_o n fun o ho => by omega, p_2]; exact h1
                · rw [sr_r, rd1 _ (by omega) (by omega)]; dsimp only; rw [ga_o n fun o ho => by omega, p_1]; exact h2
                · rw [show 12 + 43 * m + (9 + o) = 21 + 43 * m + o by omega, sr_r, rd1 _ (by omega) (by omega)]
                  dsimp only
                  rw [ga_v, (h3 o ho).1]
                  have := (h3 o ho).2
                  by_cases hb1 : b_in s o = true
                  · rw [if_pos ⟨ho, hb1⟩, if_pos hb1, nIa]
                    exact ⟨rfl, by have := ha o ho hb1; omega⟩
                  · rw [if_neg (fun h => hb1 h.2), if_neg hb1]
                    exact ⟨rfl, by omega⟩
              simp (disch := omega) only [K121_0, K121_1, K121_2, ai_c1i, ai_c1n, ai_c1r, e_al0, e_an0, e_b0, e_b1, e_b4, e_c3, e_c5, e_const, e_cs1, e_cs3, e_cv2, e_cv3, e_cv4, e_cv6, e_getR, e_goto, e_iald, e_ii5, e_ii6, e_il1, e_il2, e_il3, e_il4, e_il5, e_il6, e_is5, e_is6, e_neg, e_popi, e_popr, e_reti, e_z0, e_z1, Option.toList_some, Option.toList_none, List.cons_append, List.nil_append, List.append_nil, List.length_cons, List.length_nil, Nat.reduceAdd, Nat.reduceLeDiff, Nat.zero_le, true_and, and_true, and_self, true_implies, forall_const, ai_rvs, ai_rv0, ai_b_0, Classical.not_not, not_true_eq_false, false_implies, not_false_eq_true, true_implies, and_true, true_and, if_true, if_false, Bool.false_eq_true, q_229, a_nw, R107 hm hr1 (by omega) b1]
              have eL1 : m_lev (fun o => sr I J1 230 (21 + 43 * m + o)) n (nI b) = m_lev (qs (g_add S.1 m s (nI c) n) m) n (S.1 (13 + 43 * m)) := by
                rw [h2]
                exact lev_congr fun j hj' => rd1 _ (by omega) (by omega)
              have e0 : -(m_lev (qs S.1 m) n (S.1 (13 + 43 * m))) + m_lev (qs (g_add S.1 m s (nI c) n) m) n (S.1 (13 + 43 * m)) = m_dus S.1 m s (nI c) := by
                rw [m_dus, nN_of h1 n4, Int32.add_comm, ← Int32.sub_eq_add_neg]
              rw [eL1, e0]
              refine r120 hm hmk hj1 (by dsimp only; rw [ga_o n fun o ho => by omega]; exact h1) n4 fun J2 hj2 => ?_
              dsimp only at hj2
              rw [ga_back] at hj2
              have hj2' : RJ J2 S k := hj2
              have rbl : J2 (6 + t) = S.1 (6 + t) := hj2'.2.2.1 _ (by omega) (by omega)
              by_cases g5 : S.1 (6 + t) < m_dus S.1 m s (nI c)
              · rw [if_pos g5] at kk
                simp (disch := omega) only [K121_0, K121_1, K121_2, ai_c1i, ai_c1n, ai_c1r, e_al0, e_an0, e_b0, e_b1, e_b4, e_c3, e_c5, e_const, e_cs1, e_cs3, e_cv2, e_cv3, e_cv4, e_cv6, e_getR, e_goto, e_iald, e_ii5, e_ii6, e_il1, e_il2, e_il3, e_il4, e_il5, e_il6, e_is5, e_is6, e_neg, e_popi, e_popr, e_reti, e_z0, e_z1, Option.toList_some, Option.toList_none, List.cons_append, List.nil_append, List.append_nil, List.length_cons, List.length_nil, Nat.reduceAdd, Nat.reduceLeDiff, Nat.zero_le, true_and, and_true, and_self, true_implies, forall_const, ai_rvs, ai_rv0, ai_b_0, Classical.not_not, not_true_eq_false, false_implies, not_false_eq_true, true_implies, and_true, true_and, if_true, if_false, Bool.false_eq_true, q_229, a_nw, hm.1, nIa, nIc, sr_r, rbl, i_nle.mpr g5]
                exact kk J2 hj2'
              · rw [if_neg g5] at kk
                simp (disch := omega) only [K121_0, K121_1, K121_2, ai_c1i, ai_c1n, ai_c1r, e_al0, e_an0, e_b0, e_b1, e_b4, e_c3, e_c5, e_const, e_cs1, e_cs3, e_cv2, e_cv3, e_cv4, e_cv6, e_getR, e_goto, e_iald, e_ii5, e_ii6, e_il1, e_il2, e_il3, e_il4, e_il5, e_il6, e_is5, e_is6, e_neg, e_popi, e_popr, e_reti, e_z0, e_z1, Option.toList_some, Option.toList_none, List.cons_append, List.nil_append, List.append_nil, List.length_cons, List.length_nil, Nat.reduceAdd, Nat.reduceLeDiff, Nat.zero_le, true_and, and_true, and_self, true_implies, forall_const, ai_rvs, ai_rv0, ai_b_0, Classical.not_not, not_true_eq_false, false_implies, not_false_eq_true, true_implies, and_true, true_and, if_true, if_false, Bool.false_eq_true, q_229, a_nw, hm.1, nIa, nIc, sr_r, rbl, i_nlt.mp g5]
                refine r121_t hm h hb hmk ht h1 n4 h3 ha (fun J3 hj3 => ?_) n 0 (by omega) J2 hj2'
                obtain ⟨T', t1, t2, t3⟩ := h.trsn hmk ht n4 h3 ha n (Nat.le_refl _)
                simp (disch := omega) only [K121_0, K121_1, K121_2, ai_c1i, ai_c1n, ai_c1r, e_al0, e_an0, e_b0, e_b1, e_b4, e_c3, e_c5, e_const, e_cs1, e_cs3, e_cv2, e_cv3, e_cv4, e_cv6, e_getR, e_goto, e_iald, e_ii5, e_ii6, e_il1, e_il2, e_il3, e_il4, e_il5, e_il6, e_is5, e_is6, e_neg, e_popi, e_popr, e_reti, e_z0, e_z1, Option.toList_some, Option.toList_none, List.cons_append, List.nil_append, List.append_nil, List.length_cons, List.length_nil, Nat.reduceAdd, Nat.reduceLeDiff, Nat.zero_le, true_and, and_true, and_self, true_implies, forall_const, ai_rvs, ai_rv0, ai_b_0, Classical.not_not, not_true_eq_false, false_implies, not_false_eq_true, true_implies, and_true, true_and, if_true, if_false, Bool.false_eq_true, q_229, a_nw]
                refine r126' hm hmk t3 hj3 (by omega) fun J4 hj4 => ?_
                simp (disch := omega) only [K121_0, K121_1, K121_2, ai_c1i, ai_c1n, ai_c1r, e_al0, e_an0, e_b0, e_b1, e_b4, e_c3, e_c5, e_const, e_cs1, e_cs3, e_cv2, e_cv3, e_cv4, e_cv6, e_getR, e_goto, e_iald, e_ii5, e_ii6, e_il1, e_il2, e_il3, e_il4, e_il5, e_il6, e_is5, e_is6, e_neg, e_popi, e_popr, e_reti, e_z0, e_z1, Option.toList_some, Option.toList_none, List.cons_append, List.nil_append, List.append_nil, List.length_cons, List.length_nil, Nat.reduceAdd, Nat.reduceLeDiff, Nat.zero_le, true_and, and_true, and_self, true_implies, forall_const, ai_rvs, ai_rv0, ai_b_0, Classical.not_not, not_true_eq_false, false_implies, not_false_eq_true, true_implies, and_true, true_and, if_true, if_false, Bool.false_eq_true, q_229, a_nw]
                exact kk J4 hj4
            · rw [if_neg (fun g => hf (bc.mp g i hi hb1))] at kk
              exact kk J hj
          · rw [if_neg g3] at kk
            simp (disch := omega) only [k121_0, k121_1, k121_4, k121_7, k121_9, k121_10, k121_12, k121_15, k121_18, k121_20, k121_21, k121_22, k121_23, k121_26, k121_29, k121_31, k121_32, k121_33, k121_34, k121_35, k121_36, k121_37, k121_38, k121_41, k121_42, k121_43, k121_44, k121_47, k121_50, k121_52, k121_53, k121_54, k121_55, k121_56, k121_59, k121_62, k121_64, k121_65, k121_66, k121_70, k121_71, k121_72, k121_73, k121_76, k121_79, k121_80, k121_81, k121_83, k121_86, k121_89, k121_90, k121_91, k121_93, k121_95, k121_96, k121_99, k121_101, k121_102, k121_105, k121_108, k121_110, k121_111, k121_114, k121_118, k121_119, k121_122, k121_123, k121_125, k121_126, k121_127, k121_128, k121_130, k121_133, k121_135, k121_136, k121_137, k121_140, k121_141, k121_143, k121_144, k121_145, k121_146, k121_148, k121_149, k121_152, k121_154, k121_155, k121_158, k121_160, k121_161, k121_162, k121_163, k121_166, k121_168, k121_169, k121_170, k121_174, k121_175, k121_176, k121_177, k121_180, k121_183, k121_184, k121_185, k121_187, k121_190, k121_193, k121_194, k121_195, k121_196, k121_198, k121_200, k121_201, k121_204, k121_205, k121_208, k121_211, k121_212, k121_213, k121_216, k121_218, ai_c1i, ai_c1n, ai_c1r, e_al0, e_an0, e_b0, e_b1, e_b4, e_c3, e_c5, e_const, e_cs1, e_cs3, e_cv2, e_cv3, e_cv4, e_cv6, e_getR, e_goto, e_iald, e_ii5, e_ii6, e_il1, e_il2, e_il3, e_il4, e_il5, e_il6, e_is5, e_is6, e_neg, e_popi, e_popr, e_reti, e_z0, e_z1, Option.toList_some, Option.toList_none, List.cons_append, List.nil_append, List.append_nil, List.length_cons, List.length_nil, Nat.reduceAdd, Nat.reduceLeDiff, Nat.zero_le, true_and, and_true, and_self, true_implies, forall_const, ai_rvs, ai_rv0, ai_b_0, Classical.not_not, not_true_eq_false, false_implies, not_false_eq_true, true_implies, and_true, true_and, if_true, if_false, Bool.false_eq_true, q_229, a_nw, n10, r100 hm, sr_r, rn, c97, g6, rst, g3]
            exact kk J hj
        · rw [h1, if_neg g6] at kk
          simp (disch := omega) only [k121_0, k121_1, k121_4, k121_7, k121_9, k121_10, k121_12, k121_15, k121_18, k121_20, k121_21, k121_22, k121_23, k121_26, k121_29, k121_31, k121_32, k121_33, k121_34, k121_35, k121_36, k121_37, k121_38, k121_41, k121_42, k121_43, k121_44, k121_47, k121_50, k121_52, k121_53, k121_54, k121_55, k121_56, k121_59, k121_62, k121_64, k121_65, k121_66, k121_70, k121_71, k121_72, k121_73, k121_76, k121_79, k121_80, k121_81, k121_83, k121_86, k121_89, k121_90, k121_91, k121_93, k121_95, k121_96, k121_99, k121_101, k121_102, k121_105, k121_108, k121_110, k121_111, k121_114, k121_118, k121_119, k121_122, k121_123, k121_125, k121_126, k121_127, k121_128, k121_130, k121_133, k121_135, k121_136, k121_137, k121_140, k121_141, k121_143, k121_144, k121_145, k121_146, k121_148, k121_149, k121_152, k121_154, k121_155, k121_158, k121_160, k121_161, k121_162, k121_163, k121_166, k121_168, k121_169, k121_170, k121_174, k121_175, k121_176, k121_177, k121_180, k121_183, k121_184, k121_185, k121_187, k121_190, k121_193, k121_194, k121_195, k121_196, k121_198, k121_200, k121_201, k121_204, k121_205, k121_208, k121_211, k121_212, k121_213, k121_216, k121_218, ai_c1i, ai_c1n, ai_c1r, e_al0, e_an0, e_b0, e_b1, e_b4, e_c3, e_c5, e_const, e_cs1, e_cs3, e_cv2, e_cv3, e_cv4, e_cv6, e_getR, e_goto, e_iald, e_ii5, e_ii6, e_il1, e_il2, e_il3, e_il4, e_il5, e_il6, e_is5, e_is6, e_neg, e_popi, e_popr, e_reti, e_z0, e_z1, Option.toList_some, Option.toList_none, List.cons_append, List.nil_append, List.append_nil, List.length_cons, List.length_nil, Nat.reduceAdd, Nat.reduceLeDiff, Nat.zero_le, true_and, and_true, and_self, true_implies, forall_const, ai_rvs, ai_rv0, ai_b_0, Classical.not_not, not_true_eq_false, false_implies, not_false_eq_true, true_implies, and_true, true_and, if_true, if_false, Bool.false_eq_true, q_229, a_nw, n10, r100 hm, sr_r, rn, c97, g6]
          exact kk J hj
      · rw [em] at kk
        simp (disch := omega) only [k121_0, k121_1, k121_4, k121_7, k121_9, k121_10, k121_12, k121_15, k121_18, k121_20, k121_21, k121_22, k121_23, k121_26, k121_29, k121_31, k121_32, k121_33, k121_34, k121_35, k121_36, k121_37, k121_38, k121_41, k121_42, k121_43, k121_44, k121_47, k121_50, k121_52, k121_53, k121_54, k121_55, k121_56, k121_59, k121_62, k121_64, k121_65, k121_66, k121_70, k121_71, k121_72, k121_73, k121_76, k121_79, k121_80, k121_81, k121_83, k121_86, k121_89, k121_90, k121_91, k121_93, k121_95, k121_96, k121_99, k121_101, k121_102, k121_105, k121_108, k121_110, k121_111, k121_114, k121_118, k121_119, k121_122, k121_123, k121_125, k121_126, k121_127, k121_128, k121_130, k121_133, k121_135, k121_136, k121_137, k121_140, k121_141, k121_143, k121_144, k121_145, k121_146, k121_148, k121_149, k121_152, k121_154, k121_155, k121_158, k121_160, k121_161, k121_162, k121_163, k121_166, k121_168, k121_169, k121_170, k121_174, k121_175, k121_176, k121_177, k121_180, k121_183, k121_184, k121_185, k121_187, k121_190, k121_193, k121_194, k121_195, k121_196, k121_198, k121_200, k121_201, k121_204, k121_205, k121_208, k121_211, k121_212, k121_213, k121_216, k121_218, ai_c1i, ai_c1n, ai_c1r, e_al0, e_an0, e_b0, e_b1, e_b4, e_c3, e_c5, e_const, e_cs1, e_cs3, e_cv2, e_cv3, e_cv4, e_cv6, e_getR, e_goto, e_iald, e_ii5, e_ii6, e_il1, e_il2, e_il3, e_il4, e_il5, e_il6, e_is5, e_is6, e_neg, e_popi, e_popr, e_reti, e_z0, e_z1, Option.toList_some, Option.toList_none, List.cons_append, List.nil_append, List.append_nil, List.length_cons, List.length_nil, Nat.reduceAdd, Nat.reduceLeDiff, Nat.zero_le, true_and, and_true, and_self, true_implies, forall_const, ai_rvs, ai_rv0, ai_b_0, Classical.not_not, not_true_eq_false, false_implies, not_false_eq_true, true_implies, and_true, true_and, if_true, if_false, Bool.false_eq_true, q_229, a_nw]
        exact kk J hj
    · rw [if_neg g2] at kk
      simp (disch := omega) only [E121, k121_0, k121_1, k121_4, k121_7, k121_9, k121_10, k121_12, k121_15, k121_18, k121_20, k121_21, k121_22, k121_23, k121_26, k121_29, k121_31, k121_32, k121_33, k121_34, k121_35, k121_36, k121_37, k121_38, k121_41, k121_42, k121_43, k121_44, k121_47, k121_50, k121_52, k121_53, k121_54, k121_55, k121_56, k121_59, k121_62, k121_64, k121_65, k121_66, k121_70, k121_71, k121_72, k121_73, k121_76, k121_79, k121_80, k121_81, k121_83, k121_86, k121_89, k121_90, k121_91, k121_93, k121_95, k121_96, k121_99, k121_101, k121_102, k121_105, k121_108, k121_110, k121_111, k121_114, k121_118, k121_119, k121_122, k121_123, k121_125, k121_126, k121_127, k121_128, k121_130, k121_133, k121_135, k121_136, k121_137, k121_140, k121_141, k121_143, k121_144, k121_145, k121_146, k121_148, k121_149, k121_152, k121_154, k121_155, k121_158, k121_160, k121_161, k121_162, k121_163, k121_166, k121_168, k121_169, k121_170, k121_174, k121_175, k121_176, k121_177, k121_180, k121_183, k121_184, k121_185, k121_187, k121_190, k121_193, k121_194, k121_195, k121_196, k121_198, k121_200, k121_201, k121_204, k121_205, k121_208, k121_211, k121_212, k121_213, k121_216, k121_218, ai_c1i, ai_c1n, ai_c1r, e_al0, e_an0, e_b0, e_b1, e_b4, e_c3, e_c5, e_const, e_cs1, e_cs3, e_cv2, e_cv3, e_cv4, e_cv6, e_getR, e_goto, e_iald, e_ii5, e_ii6, e_il1, e_il2, e_il3, e_il4, e_il5, e_il6, e_is5, e_is6, e_neg, e_popi, e_popr, e_reti, e_z0, e_z1, Option.toList_some, Option.toList_none, List.cons_append, List.nil_append, List.append_nil, List.length_cons, List.length_nil, Nat.reduceAdd, Nat.reduceLeDiff, Nat.zero_le, true_and, and_true, and_self, true_implies, forall_const, ai_rvs, ai_rv0, ai_b_0, Classical.not_not, not_true_eq_false, false_implies, not_false_eq_true, true_implies, and_true, true_and, if_true, if_false, Bool.false_eq_true, q_229, a_nw, r103, c97, g1, g2, n10]
      exact kk J hj
  · rw [if_neg g1] at kk
    simp (disch := omega) only [E121, k121_0, k121_1, k121_4, k121_7, k121_9, k121_10, k121_12, k121_15, k121_18, k121_20, k121_21, k121_22, k121_23, k121_26, k121_29, k121_31, k121_32, k121_33, k121_34, k121_35, k121_36, k121_37, k121_38, k121_41, k121_42, k121_43, k121_44, k121_47, k121_50, k121_52, k121_53, k121_54, k121_55, k121_56, k121_59, k121_62, k121_64, k121_65, k121_66, k121_70, k121_71, k121_72, k121_73, k121_76, k121_79, k121_80, k121_81, k121_83, k121_86, k121_89, k121_90, k121_91, k121_93, k121_95, k121_96, k121_99, k121_101, k121_102, k121_105, k121_108, k121_110, k121_111, k121_114, k121_118, k121_119, k121_122, k121_123, k121_125, k121_126, k121_127, k121_128, k121_130, k121_133, k121_135, k121_136, k121_137, k121_140, k121_141, k121_143, k121_144, k121_145, k121_146, k121_148, k121_149, k121_152, k121_154, k121_155, k121_158, k121_160, k121_161, k121_162, k121_163, k121_166, k121_168, k121_169, k121_170, k121_174, k121_175, k121_176, k121_177, k121_180, k121_183, k121_184, k121_185, k121_187, k121_190, k121_193, k121_194, k121_195, k121_196, k121_198, k121_200, k121_201, k121_204, k121_205, k121_208, k121_211, k121_212, k121_213, k121_216, k121_218, ai_c1i, ai_c1n, ai_c1r, e_al0, e_an0, e_b0, e_b1, e_b4, e_c3, e_c5, e_const, e_cs1, e_cs3, e_cv2, e_cv3, e_cv4, e_cv6, e_getR, e_goto, e_iald, e_ii5, e_ii6, e_il1, e_il2, e_il3, e_il4, e_il5, e_il6, e_is5, e_is6, e_neg, e_popi, e_popr, e_reti, e_z0, e_z1, Option.toList_some, Option.toList_none, List.cons_append, List.nil_append, List.append_nil, List.length_cons, List.length_nil, Nat.reduceAdd, Nat.reduceLeDiff, Nat.zero_le, true_and, and_true, and_self, true_implies, forall_const, ai_rvs, ai_rv0, ai_b_0, Classical.not_not, not_true_eq_false, false_implies, not_false_eq_true, true_implies, and_true, true_and, if_true, if_false, Bool.false_eq_true, q_229, a_nw, r103, g1]
    exact kk J hj
end RSET
