/-! the reference takes deposits and withdrawals, tells costs -/
/-- a property of the state that executions keep -/
theorem xo_P {P : St → Prop} {m : Nat} (hs : ∀ S q x, P S → S.2.1[q]? = some x → xq S.1 m x = true → P (xs1 S m q x)) : ∀ f S, P S → P (xo f m S)
  | 0, S, h => h
  | f + 1, S, h => by
    rw [xo]
    cases hq : S.2.1.findIdx? (xq S.1 m) with
    | none => exact h
    | some i =>
      dsimp only
      cases hx : S.2.1[i]? with
      | none => exact h
      | some x =>
        dsimp only
        refine xo_P hs f _ (hs S i x h hx ?_)
        obtain ⟨h8, h9, -⟩ := List.findIdx?_eq_some_iff_getElem.mp hq
        obtain ⟨h8', e⟩ := List.getElem?_eq_some_iff.mp hx
        rw [e] at h9
        exact h9
theorem xs1_c {S : St} {m q : Nat} {x : Od} {k : Nat} (hev : EV S k) (hk6 : k ≤ 6) (hmk : m < k) (hx : S.2.1[q]? = some x) (hq : xq S.1 m x = true) : ∃ t o s, t < 6 ∧ o < 4 ∧ x.2.1 = nI t ∧ x.2.2.2.1 = nI o ∧ S.1 (21 + 43 * m + o) = nI s ∧ s < 400 ∧ xs1 S m q x = (ug (tr S m t o (nI 1) x.1).1 3 (nI (xl S.2.1 q x).length), xl S.2.1 q x, (tr S m t o (nI 1) x.1).2.2) := by
  obtain ⟨v1, v2, v3, v4⟩ := hev
  obtain ⟨m', n', o, t, hm', em', en', n4', ho, eo, ht, et⟩ := v3 x (List.mem_of_getElem? hx)
  obtain ⟨n, b, s, h1, n2, n4, h2, b1, b2, h3⟩ := v1 m hmk
  unfold xq at hq
  rw [Bool.and_eq_true, decide_eq_true_eq, decide_eq_true_eq, eo, nIc (by omega)] at hq
  obtain ⟨q1, q2⟩ := hq
  obtain rfl := (nIeq (by omega) (by omega)).mp (q1.symm.trans em')
  obtain rfl := (nIeq (by omega) (by omega)).mp (h1.symm.trans en')
  obtain ⟨g1, g2⟩ := h3 o ho
  have q3 := (ob_0 q2).2.2
  rw [g1, nIlt (by omega) (by omega)] at q3
  refine ⟨t, o, s o, ht, by omega, et, eo, g1, q3, ?_⟩
  unfold xs1
  rw [et, eo, nIc (by omega), nIc (by omega)]
theorem xl_len {L : List Od} {q : Nat} {x : Od} : (xl L q x).length ≤ L.length := by
  rw [xl_def]
  split
  · rw [List.length_eraseIdx]
    split <;> omega
  · rw [List.length_set]
    exact Nat.le_refl _
theorem EW.xs {S : St} {m q k T : Nat} {x : Od} (h : EW S k T) (hmk : m < k) (hx : S.2.1[q]? = some x) (hq : xq S.1 m x = true) : EW (xs1 S m q x) k (T + 1) := by
  obtain ⟨w1, w2, w3, w4, w5⟩ := h
  have hk6 := w1.2.1
  obtain ⟨t, o, s, ht, ho, et, eo, es, hs, exs⟩ := xs1_c w2 hk6 hmk hx hq
  refine ⟨?_, xs1_ev w2 hmk hk6 hx hq, w3.exl hx, by rw [xs1_4, w4, nIa], ?_⟩
  · have cf : ∀ j, cfg m j → (tr S m t o (nI 1) x.1).1 j = S.1 j := fun j hj => by
      obtain ⟨k1, k2, k3, k4⟩ := hj
      obtain ⟨g1, g2, g3, g4⟩ := k4 t o ht ho
      exact tr_K k2 g1 k3 g2 g3 g4
    rw [exs]
    refine w1.of ?_ fun m' => ?_
    · dsimp only
      rw [ug_n (by omega)]
      exact cf 1 cfg_1
    · dsimp only
      rw [ug_n (by omega)]
      exact cf _ cfg_n
  · rw [exs]
    exact Nat.le_trans xl_len w5
theorem EW.exo {m k : Nat} (hmk : m < k) : ∀ (f : Nat) {S : St} {T : Nat}, EW S k T → ∃ T', T ≤ T' ∧ T' ≤ T + f ∧ EW (xo f m S) k T'
  | 0, S, T, h => ⟨T, by omega, by omega, h⟩
  | f + 1, S, T, h => by
    rw [xo]
    cases hq : S.2.1.findIdx? (xq S.1 m) with
    | none => exact ⟨T, by omega, by omega, h⟩
    | some i =>
      dsimp only
      cases hx : S.2.1[i]? with
      | none => exact ⟨T, by omega, by omega, h⟩
      | some x =>
        dsimp only
        have hq' : xq S.1 m x = true := by
          obtain ⟨h8, h9, -⟩ := List.findIdx?_eq_some_iff_getElem.mp hq
          obtain ⟨h8', e⟩ := List.getElem?_eq_some_iff.mp hx
          rw [e] at h9
          exact h9
        obtain ⟨T', h1, h2, h3⟩ := EW.exo hmk f (h.xs hmk hx hq')
        exact ⟨T', by omega, by omega, h3⟩
theorem EW.exa {k : Nat} {S : St} {T : Nat} (h : EW S k T) : ∀ i, i ≤ k → ∃ T', T ≤ T' ∧ T' ≤ T + 800 * i ∧ EW (xa i S) k T'
  | 0, _ => ⟨T, by omega, by omega, h⟩
  | i + 1, hi => by
    obtain ⟨T1, h1, h2, h3⟩ := EW.exa h i (by omega)
    obtain ⟨T2, g1, g2, g3⟩ := EW.exo (m := i) (by omega) 800 h3
    have hm8 : 800 * (i + 1) = 800 * i + 800 := Nat.mul_succ 800 i
    rw [xa, hm8, ← Nat.add_assoc]
    exact ⟨T2, Nat.le_trans h1 g1, Nat.le_trans g2 (Nat.add_le_add_right h2 800), g3⟩
theorem EW.bal {S : St} {k T t : Nat} (h : EW S k T) (ht : t < 6) (v : Int32) : EW (ug S.1 (6 + t) v, S.2) k T := by
  obtain ⟨w1, ⟨v1, v2, v3, v4⟩, w3, w4, w5⟩ := h
  refine ⟨w1.of (by dsimp only; rw [ug_n (by omega)]) fun m => by dsimp only; rw [ug_n (by omega)], ⟨fun m hm => ?_, by dsimp only; rw [ug_n (by omega)]; exact v2, fun y hy => ?_, v4⟩, w3, by dsimp only; rw [ug_n (by omega)]; exact w4, w5⟩
  · obtain ⟨n, b, s, h1, n2, n4, h2, b1, b2, h3⟩ := v1 m hm
    exact ⟨n, b, s, by dsimp only; rw [ug_n (by omega)]; exact h1, n2, n4, by dsimp only; rw [ug_n (by omega)]; exact h2, b1, b2, fun o ho => by dsimp only; rw [ug_n (by omega)]; exact h3 o ho⟩
  · obtain ⟨m1, n1, o1, t1, a1, a2, a3, a4⟩ := v3 y hy
    exact ⟨m1, n1, o1, t1, a1, a2, by dsimp only; rw [ug_n (by omega)]; exact a3, a4⟩
section RDEP
variable {I : Nat → Nat → Int32} {J : Nat → Int32} {M : Nat → Nat → Nat} {S : St} {m k T : Nat} {d : Nat} {Q : Option Value → ai_H → Prop}
theorem r126' (hm : RM M) (hmk : m < k) (h : EW S k T) (hj : RJ J S k) (hb : T < 999990000) (kk : ∀ J', RJ J' (xo 800 m S) k → Q none (LK, sr I J', M)) : Cl (d + 8) 126 [.ref 229, .int (nI m)] (LK, sr I J, M) Q :=
  r126 hm hmk h.2.1 h.2.2.1 hj h.2.2.2.1 (by omega) h.tot kk
theorem r114_l (hm : RM M) {S : St} (h : EW S k T) (hb : T < 999980000) {a1 a2 a3 : Value} (kk : ∀ J', RJ J' (xa k S) k → Ev (d + 9) X0 114 97 [.ref 229, a1, a2, a3, .int (nI k)] [] (LK, sr I J', M) Q) :
    ∀ r i, r + i = k → ∀ J, RJ J (xa i S) k → Ev (d + 9) X0 114 74 [.ref 229, a1, a2, a3, .int (nI i)] [] (LK, sr I J, M) Q
  | 0, i, hi, J, hj => by
    obtain rfl : i = k := by omega
    have hk6 := hj.2.1
    have e1 : J 1 = nI i := by rw [hj.2.2.1 1 (by omega) (by omega)]; exact hj.1
    have k3 := kk J hj
    rw [H114_74]
    simp (disch := omega) only [k114_0, k114_1, k114_4, k114_7, k114_8, k114_9, k114_12, k114_15, k114_18, k114_20, k114_21, k114_22, k114_25, k114_27, k114_28, k114_29, k114_30, k114_33, k114_34, k114_35, k114_36, k114_38, k114_41, k114_43, k114_44, k114_45, k114_48, k114_50, k114_51, k114_52, k114_53, k114_54, k114_57, k114_58, k114_59, k114_60, k114_61, k114_62, k114_65, k114_67, k114_68, k114_69, k114_70, k114_71, k114_72, k114_76, k114_77, k114_80, k114_81, k114_82, k114_85, k114_86, k114_88, k114_91, k114_94, k114_98, ai_c1i, ai_c1n, ai_c1r, e_al0, e_an0, e_b0, e_b2, e_c3, e_c5, e_const, e_cs1, e_cs3, e_cv2, e_dup2, e_getR, e_goto, e_iald, e_iast, e_ii4, e_il1, e_il2, e_il3, e_il4, e_is3, e_is4, e_reti, e_z0, e_z1, Option.toList_some, Option.toList_none, List.cons_append, List.nil_append, List.append_nil, List.length_cons, List.length_nil, Nat.reduceAdd, Nat.reduceLeDiff, Nat.zero_le, true_and, and_true, and_self, true_implies, forall_const, ai_rvs, ai_rv0, ai_b_0, Classical.not_not, not_true_eq_false, false_implies, not_false_eq_true, true_implies, and_true, true_and, if_true, if_false, Bool.false_eq_true, q_229, a_nw, hm.1, nIc, sr_r, e1, Int32.le_refl]
    exact k3
  | r + 1, i, hi, J, hj => by
    have hk6 := hj.2.1
    have e1 : J 1 = nI k := by rw [hj.2.2.1 1 (by omega) (by omega)]; exact hj.1
    obtain ⟨T', h1, h2, h3⟩ := EW.exa h i (by omega)
    rw [H114_74]
    simp (disch := omega) only [k114_0, k114_1, k114_4, k114_7, k114_8, k114_9, k114_12, k114_15, k114_18, k114_20, k114_21, k114_22, k114_25, k114_27, k114_28, k114_29, k114_30, k114_33, k114_34, k114_35, k114_36, k114_38, k114_41, k114_43, k114_44, k114_45, k114_48, k114_50, k114_51, k114_52, k114_53, k114_54, k114_57, k114_58, k114_59, k114_60, k114_61, k114_62, k114_65, k114_67, k114_68, k114_69, k114_70, k114_71, k114_72, k114_76, k114_77, k114_80, k114_81, k114_82, k114_85, k114_86, k114_88, k114_91, k114_94, k114_98, ai_c1i, ai_c1n, ai_c1r, e_al0, e_an0, e_b0, e_b2, e_c3, e_c5, e_const, e_cs1, e_cs3, e_cv2, e_dup2, e_getR, e_goto, e_iald, e_iast, e_ii4, e_il1, e_il2, e_il3, e_il4, e_is3, e_is4, e_reti, e_z0, e_z1, Option.toList_some, Option.toList_none, List.cons_append, List.nil_append, List.append_nil, List.length_cons, List.length_nil, Nat.reduceAdd, Nat.reduceLeDiff, Nat.zero_le, true_and, and_true, and_self, true_implies, forall_const, ai_rvs, ai_rv0, ai_b_0, Classical.not_not, not_true_eq_false, false_implies, not_false_eq_true, true_implies, and_true, true_and, if_true, if_false, Bool.false_eq_true, q_229, a_nw, hm.1, nIc, sr_r, e1, nIle]
    refine ⟨fun g => absurd g (by omega), fun _ => ?_⟩
    refine r126' hm (by omega) h3 hj (by omega) fun J' hj' => ?_
    simp (disch := omega) only [k114_0, k114_1, k114_4, k114_7, k114_8, k114_9, k114_12, k114_15, k114_18, k114_20, k114_21, k114_22, k114_25, k114_27, k114_28, k114_29, k114_30, k114_33, k114_34, k114_35, k114_36, k114_38, k114_41, k114_43, k114_44, k114_45, k114_48, k114_50, k114_51, k114_52, k114_53, k114_54, k114_57, k114_58, k114_59, k114_60, k114_61, k114_62, k114_65, k114_67, k114_68, k114_69, k114_70, k114_71, k114_72, k114_76, k114_77, k114_80, k114_81, k114_82, k114_85, k114_86, k114_88, k114_91, k114_94, k114_98, ai_c1i, ai_c1n, ai_c1r, e_al0, e_an0, e_b0, e_b2, e_c3, e_c5, e_const, e_cs1, e_cs3, e_cv2, e_dup2, e_getR, e_goto, e_iald, e_iast, e_ii4, e_il1, e_il2, e_il3, e_il4, e_is3, e_is4, e_reti, e_z0, e_z1, Option.toList_some, Option.toList_none, List.cons_append, List.nil_append, List.append_nil, List.length_cons, List.length_nil, Nat.reduceAdd, Nat.reduceLeDiff, Nat.zero_le, true_and, and_true, and_self, true_implies, forall_const, ai_rvs, ai_rv0, ai_b_0, Classical.not_not, not_true_eq_false, false_implies, not_false_eq_true, true_implies, and_true, true_and, if_true, if_false, Bool.false_eq_true, q_229, a_nw, nIa]
    exact r114_l hm h hb kk r (i + 1) (by omega) J' hj'
theorem r114 (hm : RM M) (hj : RJ J S k) (h : EW S k T) (hb : T < 999980000) {t c : Int32} (kk : ∀ J', RJ J' (p_dep S t c).2 k → Q (some (.int (p_dep S t c).1)) (LK, sr I J', M)) : Cl (d + 9) 114 [.ref 229, .int t, .int c] (LK, sr I J, M) Q := by
  have hk6 := hj.2.1
  have rd := hj.2.2.1
  have n10 : (nI 1 = nI 0) = False := eq_false (by decide)
  unfold p_dep at kk
  by_cases g1 : nI 0 ≤ t ∧ t ≤ nI 5
  · rw [if_pos g1] at kk
    obtain ⟨t, ht, rfl⟩ := tr_of g1
    rw [nIc (by omega)] at kk
    have rb : J (6 + t) = S.1 (6 + t) := rd _ (by omega) (by omega)
    have ea : S.1 (6 + t) + nI 2880 * c = S.1 (6 + t) + c * nI 2880 := by rw [Int32.mul_comm]
    by_cases g2 : nI 1 ≤ c ∧ c ≤ nI 500
    · rw [if_pos g2] at kk
      by_cases g3 : nI 5000000 < S.1 (6 + t) + c * nI 2880
      · rw [if_pos g3] at kk
        simp (disch := omega) only [E114, k114_0, k114_1, k114_4, k114_7, k114_8, k114_9, k114_12, k114_15, k114_18, k114_20, k114_21, k114_22, k114_25, k114_27, k114_28, k114_29, k114_30, k114_33, k114_34, k114_35, k114_36, k114_38, k114_41, k114_43, k114_44, k114_45, k114_48, k114_50, k114_51, k114_52, k114_53, k114_54, k114_57, k114_58, k114_59, k114_60, k114_61, k114_62, k114_65, k114_67, k114_68, k114_69, k114_70, k114_71, k114_72, k114_76, k114_77, k114_80, k114_81, k114_82, k114_85, k114_86, k114_88, k114_91, k114_94, k114_98, ai_c1i, ai_c1n, ai_c1r, e_al0, e_an0, e_b0, e_b2, e_c3, e_c5, e_const, e_cs1, e_cs3, e_cv2, e_dup2, e_getR, e_goto, e_iald, e_iast, e_ii4, e_il1, e_il2, e_il3, e_il4, e_is3, e_is4, e_reti, e_z0, e_z1, Option.toList_some, Option.toList_none, List.cons_append, List.nil_append, List.append_nil, List.length_cons, List.length_nil, Nat.reduceAdd, Nat.reduceLeDiff, Nat.zero_le, true_and, and_true, and_self, true_implies, forall_const, ai_rvs, ai_rv0, ai_b_0, Classical.not_not, not_true_eq_false, false_implies, not_false_eq_true, true_implies, and_true, true_and, if_true, if_false, Bool.false_eq_true, q_229, a_nw, r103, c97, g1, g2, n10, hm.1, nIa, nIc, sr_r, rb, ea, i_nle.mpr g3]
        exact kk J hj
      · rw [if_neg g3] at kk
        have h1 := hj.upd (j := 6 + t) (by omega) (by omega) (by omega) (by omega) (S.1 (6 + t) + c * nI 2880)
        have w1 := h.bal ht (S.1 (6 + t) + c * nI 2880)
        simp (disch := omega) only [E114, k114_0, k114_1, k114_4, k114_7, k114_8, k114_9, k114_12, k114_15, k114_18, k114_20, k114_21, k114_22, k114_25, k114_27, k114_28, k114_29, k114_30, k114_33, k114_34, k114_35, k114_36, k114_38, k114_41, k114_43, k114_44, k114_45, k114_48, k114_50, k114_51, k114_52, k114_53, k114_54, k114_57, k114_58, k114_59, k114_60, k114_61, k114_62, k114_65, k114_67, k114_68, k114_69, k114_70, k114_71, k114_72, k114_76, k114_77, k114_80, k114_81, k114_82, k114_85, k114_86, k114_88, k114_91, k114_94, k114_98, ai_c1i, ai_c1n, ai_c1r, e_al0, e_an0, e_b0, e_b2, e_c3, e_c5, e_const, e_cs1, e_cs3, e_cv2, e_dup2, e_getR, e_goto, e_iald, e_iast, e_ii4, e_il1, e_il2, e_il3, e_il4, e_is3, e_is4, e_reti, e_z0, e_z1, Option.toList_some, Option.toList_none, List.cons_append, List.nil_append, List.append_nil, List.length_cons, List.length_nil, Nat.reduceAdd, Nat.reduceLeDiff, Nat.zero_le, true_and, and_true, and_self, true_implies, forall_const, ai_rvs, ai_rv0, ai_b_0, Classical.not_not, not_true_eq_false, false_implies, not_false_eq_true, true_implies, and_true, true_and, if_true, if_false, Bool.false_eq_true, q_229, a_nw, r103, c97, g1, g2, n10, hm.1, nIa, nIc, sr_r, sr_u, ug_s, rb, ea, i_nlt.mp g3]
        refine r114_l hm w1 hb (fun J' hj' => ?_) k 0 (by omega) _ h1
        simp (disch := omega) only [K114, ai_c1i, ai_c1n, ai_c1r, e_al0, e_an0, e_b0, e_b2, e_c3, e_c5, e_const, e_cs1, e_cs3, e_cv2, e_dup2, e_getR, e_goto, e_iald, e_iast, e_ii4, e_il1, e_il2, e_il3, e_il4, e_is3, e_is4, e_reti, e_z0, e_z1, Option.toList_some, Option.toList_none, List.cons_append, List.nil_append, List.append_nil, List.length_cons, List.length_nil, Nat.reduceAdd, Nat.reduceLeDiff, Nat.zero_le, true_and, and_true, and_self, true_implies, forall_const, ai_rvs, ai_rv0, ai_b_0, Classical.not_not, not_true_eq_false, false_implies, not_false_eq_true, true_implies, and_true, true_and, if_true, if_false, Bool.false_eq_true, q_229, a_nw]
        rw [hj.1, nIc (by omega)] at kk
        exact kk J' hj'
    · rw [if_neg g2] at kk
      simp (disch := omega) only [E114, k114_0, k114_1, k114_4, k114_7, k114_8, k114_9, k114_12, k114_15, k114_18, k114_20, k114_21, k114_22, k114_25, k114_27, k114_28, k114_29, k114_30, k114_33, k114_34, k114_35, k114_36, k114_38, k114_41, k114_43, k114_44, k114_45, k114_48, k114_50, k114_51, k114_52, k114_53, k114_54, k114_57, k114_58, k114_59, k114_60, k114_61, k114_62, k114_65, k114_67, k114_68, k114_69, k114_70, k114_71, k114_72, k114_76, k114_77, k114_80, k114_81, k114_82, k114_85, k114_86, k114_88, k114_91, k114_94, k114_98, ai_c1i, ai_c1n, ai_c1r, e_al0, e_an0, e_b0, e_b2, e_c3, e_c5, e_const, e_cs1, e_cs3, e_cv2, e_dup2, e_getR, e_goto, e_iald, e_iast, e_ii4, e_il1, e_il2, e_il3, e_il4, e_is3, e_is4, e_reti, e_z0, e_z1, Option.toList_some, Option.toList_none, List.cons_append, List.nil_append, List.append_nil, List.length_cons, List.length_nil, Nat.reduceAdd, Nat.reduceLeDiff, Nat.zero_le, true_and, and_true, and_self, true_implies, forall_const, ai_rvs, ai_rv0, ai_b_0, Classical.not_not, not_true_eq_false, false_implies, not_false_eq_true, true_implies, and_true, true_and, if_true, if_false, Bool.false_eq_true, q_229, a_nw, r103, c97, g1, g2, n10]
      exact kk J hj
  · rw [if_neg g1] at kk
    simp (disch := omega) only [E114, k114_0, k114_1, k114_4, k114_7, k114_8, k114_9, k114_12, k114_15, k114_18, k114_20, k114_21, k114_22, k114_25, k114_27, k114_28, k114_29, k114_30, k114_33, k114_34, k114_35, k114_36, k114_38, k114_41, k114_43, k114_44, k114_45, k114_48, k114_50, k114_51, k114_52, k114_53, k114_54, k114_57, k114_58, k114_59, k114_60, k114_61, k114_62, k114_65, k114_67, k114_68, k114_69, k114_70, k114_71, k114_72, k114_76, k114_77, k114_80, k114_81, k114_82, k114_85, k114_86, k114_88, k114_91, k114_94, k114_98, ai_c1i, ai_c1n, ai_c1r, e_al0, e_an0, e_b0, e_b2, e_c3, e_c5, e_const, e_cs1, e_cs3, e_cv2, e_dup2, e_getR, e_goto, e_iald, e_iast, e_ii4, e_il1, e_il2, e_il3, e_il4, e_is3, e_is4, e_reti, e_z0, e_z1, Option.toList_some, Option.toList_none, List.cons_append, List.nil_append, List.append_nil, List.length_cons, List.length_nil, Nat.reduceAdd, Nat.reduceLeDiff, Nat.zero_le, true_and, and_true, and_self, true_implies, forall_const, ai_rvs, ai_rv0, ai_b_0, Classical.not_not, not_true_eq_false, false_implies, not_false_eq_true, true_implies, and_true, true_and, if_true, if_false, Bool.false_eq_true, q_229, a_nw, r103, g1]
    exact kk J hj
theorem r115 (hm : RM M) (hj : RJ J S k) {t c : Int32} (kk : ∀ J', RJ J' (p_wd S t c).2 k → Q (some (.int (p_wd S t c).1)) (LK, sr I J', M)) : Cl (d + 2) 115 [.ref 229, .int t, .int c] (LK, sr I J, M) Q := by
  have hk6 := hj.2.1
  have rd := hj.2.2.1
  have n10 : (nI 1 = nI 0) = False := eq_false (by decide)
  unfold p_wd at kk
  by_cases g1 : nI 0 ≤ t ∧ t ≤ nI 5
  · rw [if_pos g1] at kk
    obtain ⟨t, ht, rfl⟩ := tr_of g1
    rw [nIc (by omega)] at kk
    have rb : J (6 + t) = S.1 (6 + t) := rd _ (by omega) (by omega)
    by_cases g2 : nI 1 ≤ c ∧ c ≤ nI 5000000
    · rw [if_pos g2] at kk
      by_cases g3 : S.1 (6 + t) < c
      · rw [if_pos g3] at kk
        simp (disch := omega) only [E115, K115, ai_c1i, ai_c1n, ai_c1r, e_al0, e_an0, e_b0, e_b1, e_c3, e_const, e_cs1, e_cs3, e_dup2, e_getR, e_iald, e_iast, e_il1, e_il2, e_reti, e_z0, e_z1, Option.toList_some, Option.toList_none, List.cons_append, List.nil_append, List.append_nil, List.length_cons, List.length_nil, Nat.reduceAdd, Nat.reduceLeDiff, Nat.zero_le, true_and, and_true, and_self, true_implies, forall_const, ai_rvs, ai_rv0, ai_b_0, Classical.not_not, not_true_eq_false, false_implies, not_false_eq_true, true_implies, and_true, true_and, if_true, if_false, Bool.false_eq_true, q_229, a_nw, r103, c97, g1, g2, n10, hm.1, nIa, nIc, sr_r, rb, i_nle.mpr g3]
        exact kk J hj
      · rw [if_neg g3] at kk
        have h1 := hj.upd (j := 6 + t) (by omega) (by omega) (by omega) (by omega) (S.1 (6 + t) - c)
        simp (disch := omega) only [E115, K115, ai_c1i, ai_c1n, ai_c1r, e_al0, e_an0, e_b0, e_b1, e_c3, e_const, e_cs1, e_cs3, e_dup2, e_getR, e_iald, e_iast, e_il1, e_il2, e_reti, e_z0, e_z1, Option.toList_some, Option.toList_none, List.cons_append, List.nil_append, List.append_nil, List.length_cons, List.length_nil, Nat.reduceAdd, Nat.reduceLeDiff, Nat.zero_le, true_and, and_true, and_self, true_implies, forall_const, ai_rvs, ai_rv0, ai_b_0, Classical.not_not, not_true_eq_false, false_implies, not_false_eq_true, true_implies, and_true, true_and, if_true, if_false, Bool.false_eq_true, q_229, a_nw, r103, c97, g1, g2, n10, hm.1, nIa, nIc, sr_r, sr_u, ug_s, rb, i_nlt.mp g3]
        exact kk _ h1
    · rw [if_neg g2] at kk
      simp (disch := omega) only [E115, K115, ai_c1i, ai_c1n, ai_c1r, e_al0, e_an0, e_b0, e_b1, e_c3, e_const, e_cs1, e_cs3, e_dup2, e_getR, e_iald, e_iast, e_il1, e_il2, e_reti, e_z0, e_z1, Option.toList_some, Option.toList_none, List.cons_append, List.nil_append, List.append_nil, List.length_cons, List.length_nil, Nat.reduceAdd, Nat.reduceLeDiff, Nat.zero_le, true_and, and_true, and_self, true_implies, forall_const, ai_rvs, ai_rv0, ai_b_0, Classical.not_not, not_true_eq_false, false_implies, not_false_eq_true, true_implies, and_true, true_and, if_true, if_false, Bool.false_eq_true, q_229, a_nw, r103, c97, g1, g2, n10]
      exact kk J hj
  · rw [if_neg g1] at kk
    simp (disch := omega) only [E115, K115, ai_c1i, ai_c1n, ai_c1r, e_al0, e_an0, e_b0, e_b1, e_c3, e_const, e_cs1, e_cs3, e_dup2, e_getR, e_iald, e_iast, e_il1, e_il2, e_reti, e_z0, e_z1, Option.toList_some, Option.toList_none, List.cons_append, List.nil_append, List.append_nil, List.length_cons, List.length_nil, Nat.reduceAdd, Nat.reduceLeDiff, Nat.zero_le, true_and, and_true, and_self, true_implies, forall_const, ai_rvs, ai_rv0, ai_b_0, Classical.not_not, not_true_eq_false, false_implies, not_false_eq_true, true_implies, and_true, true_and, if_true, if_false, Bool.false_eq_true, q_229, a_nw, r103, g1]
    exact kk J hj
theorem r116 (hm : RM M) (hj : RJ J S k) (hv : VB S.1 k) (hmv : MV S.1 k) {x y c : Int32} (kk : Q (some (.int (p_cost S x y c))) (LK, sr I J, M)) : Cl (d + 7) 116 [.ref 229, .int x, .int y, .int c] (LK, sr I J, M) Q := by
  have hk6 := hj.2.1
  have rd := hj.2.2.1
  have hjr : RJ ((sr I J) 230) S k := hj
  have n10 : (nI 1 = nI 0) = False := eq_false (by decide)
  unfold p_cost at kk
  simp (disch := omega) only [E116, K116, ai_c1i, ai_c1n, ai_c1r, e_al0, e_an0, e_b0, e_const, e_cs3, e_cv3, e_cv4, e_goto, e_il1, e_il2, e_il3, e_reti, e_z0, e_z1, Option.toList_some, Option.toList_none, List.cons_append, List.nil_append, List.append_nil, List.length_cons, List.length_nil, Nat.reduceAdd, Nat.reduceLeDiff, Nat.zero_le, true_and, and_true, and_self, true_implies, forall_const, ai_rvs, ai_rv0, ai_b_0, Classical.not_not, not_true_eq_false, false_implies, not_false_eq_true, true_implies, and_true, true_and, if_true, if_false, Bool.false_eq_true, q_229, a_nw]
  refine r102 hm hv hjr (fun m n o hmk ex hn n2 n4 ho ey em => ?_) (fun em => ?_)
  · rw [em] at kk
    subst ex ey
    dsimp only at kk
    obtain ⟨n', b, s, h1, n2', n4', h2, b1, b2, h3⟩ := hmv m hmk
    obtain rfl := (nIeq (by omega) (by omega)).mp (h1.symm.trans hn)
    obtain ⟨q1, q2⟩ := h3 o ho
    have hr : RK J m n' b s := RK.of hmk hk6 rd h1 n4 h2 b2 h3
    have rsh : J (12 + 43 * m + (9 + o)) = qs S.1 m o := by rw [show 12 + 43 * m + (9 + o) = 21 + 43 * m + o by omega, rd _ (by omega) (by omega)]; rfl
    by_cases g1 : c = nI 0
    · rw [if_pos g1] at kk
      simp (disch := omega) only [K116, ai_c1i, ai_c1n, ai_c1r, e_al0, e_an0, e_b0, e_const, e_cs3, e_cv3, e_cv4, e_goto, e_il1, e_il2, e_il3, e_reti, e_z0, e_z1, Option.toList_some, Option.toList_none, List.cons_append, List.nil_append, List.append_nil, List.length_cons, List.length_nil, Nat.reduceAdd, Nat.reduceLeDiff, Nat.zero_le, true_and, and_true, and_self, true_implies, forall_const, ai_rvs, ai_rv0, ai_b_0, Classical.not_not, not_true_eq_false, false_implies, not_false_eq_true, true_implies, and_true, true_and, if_true, if_false, Bool.false_eq_true, q_229, a_nw, n10, g1]
      exact kk
    · rw [if_neg g1] at kk
      by_cases g2 : (-50) ≤ c ∧ c ≤ nI 50
      · rw [if_pos g2] at kk
        by_cases g3 : nI 0 ≤ qs S.1 m o + c ∧ qs S.1 m o + c ≤ nI 400
        · rw [if_pos g3] at kk
          obtain ⟨z, hz, ez⟩ := nI_ofr (k := 401) g3.1 (Int32.lt_of_le_of_lt g3.2 (by decide)) (by omega)
          have hsx : J (21 + 43 * m + o) + c = nI z := by rw [rd _ (by omega) (by omega)]; exact ez
          have hdue := hj.due (c := c) hmk hr ho
          simp (disch := omega) only [K116, ai_c1i, ai_c1n, ai_c1r, e_al0, e_an0, e_b0, e_const, e_cs3, e_cv3, e_cv4, e_goto, e_il1, e_il2, e_il3, e_reti, e_z0, e_z1, Option.toList_some, Option.toList_none, List.cons_append, List.nil_append, List.append_nil, List.length_cons, List.length_nil, Nat.reduceAdd, Nat.reduceLeDiff, Nat.zero_le, true_and, and_true, and_self, true_implies, forall_const, ai_rvs, ai_rv0, ai_b_0, Classical.not_not, not_true_eq_false, false_implies, not_false_eq_true, true_implies, and_true, true_and, if_true, if_false, Bool.false_eq_true, q_229, a_nw, n10, g1, c97, g2, r100 hm, nIa, sr_r, rsh, g3, r109 hm hr (by omega) b1 ho hsx (by omega), hdue]
          exact kk
        · rw [if_neg g3] at kk
          simp (disch := omega) only [K116, ai_c1i, ai_c1n, ai_c1r, e_al0, e_an0, e_b0, e_const, e_cs3, e_cv3, e_cv4, e_goto, e_il1, e_il2, e_il3, e_reti, e_z0, e_z1, Option.toList_some, Option.toList_none, List.cons_append, List.nil_append, List.append_nil, List.length_cons, List.length_nil, Nat.reduceAdd, Nat.reduceLeDiff, Nat.zero_le, true_and, and_true, and_self, true_implies, forall_const, ai_rvs, ai_rv0, ai_b_0, Classical.not_not, not_true_eq_false, false_implies, not_false_eq_true, true_implies, and_true, true_and, if_true, if_false, Bool.false_eq_true, q_229, a_nw, n10, g1, c97, g2, r100 hm, nIa, sr_r, rsh, g3]
          exact kk
      · rw [if_neg g2] at kk
        simp (disch := omega) only [K116, ai_c1i, ai_c1n, ai_c1r, e_al0, e_an0, e_b0, e_const, e_cs3, e_cv3, e_cv4, e_goto, e_il1, e_il2, e_il3, e_reti, e_z0, e_z1, Option.toList_some, Option.toList_none, List.cons_append, List.nil_append, List.append_nil, List.length_cons, List.length_nil, Nat.reduceAdd, Nat.reduceLeDiff, Nat.zero_le, true_and, and_true, and_self, true_implies, forall_const, ai_rvs, ai_rv0, ai_b_0, Classical.not_not, not_true_eq_false, false_implies, not_false_eq_true, true_implies, and_true, true_and, if_true, if_false, Bool.false_eq_true, q_229, a_nw, n10, g1, c97, g2]
        exact kk
  · rw [em] at kk
    simp (disch := omega) only [K116, ai_c1i, ai_c1n, ai_c1r, e_al0, e_an0, e_b0, e_const, e_cs3, e_cv3, e_cv4, e_goto, e_il1, e_il2, e_il3, e_reti, e_z0, e_z1, Option.toList_some, Option.toList_none, List.cons_append, List.nil_append, List.append_nil, List.length_cons, List.length_nil, Nat.reduceAdd, Nat.reduceLeDiff, Nat.zero_le, true_and, and_true, and_self, true_implies, forall_const, ai_rvs, ai_rv0, ai_b_0, Classical.not_not, not_true_eq_false, false_implies, not_false_eq_true, true_implies, and_true, true_and, if_true, if_false, Bool.false_eq_true, q_229, a_nw]
    exact kk
end RDEP
