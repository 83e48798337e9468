/-! the reference's trades -/
theorem r161 {a b : Nat} (ha : a < 1000000000) (hb : b < 1000000000) {d : Nat} {h : ai_H} {Q : Option Value → ai_H → Prop} : Cl d 161 [.int (nI a), .int (nI b)] h Q ↔ Q (some (.int (nI (min a b)))) h := by
  refine Cl_one ?_
  simp (disch := omega) only [E161, K161, e_c4, e_goto, e_il0, e_il1, e_reti, Option.toList_some, Option.toList_none, List.cons_append, List.nil_append, List.append_nil, List.length_cons, List.length_nil, Nat.reduceAdd, Nat.reduceLeDiff, Nat.zero_le, true_and, and_true, and_self, true_implies, forall_const, ai_rvs, ai_rv0, ai_b_0, Classical.not_not, not_true_eq_false, false_implies, not_false_eq_true, true_implies, and_true, true_and, if_true, if_false, Bool.false_eq_true, nIlt, nIle]
  by_cases g : a ≤ b
  · rw [Nat.min_eq_left g]
    grind
  · rw [Nat.min_eq_right (by omega)]
    grind
theorem tr_g_alt {g : Nat → Int32} {m t o : Nat} {c due : Int32} (ht : t < 6) (ho : o < 4) : tr_g g m t o c due = ug (ug (ug (ug (ug g (21 + 43 * m + o) (g (21 + 43 * m + o) + c)) (25 + 43 * m + 4 * t + o) (g (25 + 43 * m + 4 * t + o) + c)) (49 + 43 * m + t) (g (49 + 43 * m + t) + due)) (18 + 43 * m) (g (18 + 43 * m) + due)) (6 + t) (g (6 + t) - due) := by
  funext j
  unfold tr_g ug
  (repeat' split) <;> first | rfl | (exfalso; omega)
section RTRADE
variable {I : Nat → Nat → Int32} {J : Nat → Int32} {M : Nat → Nat → Nat} {S : St} {m n b o k : Nat} {s : Nat → Nat} {d : Nat} {Q : Option Value → ai_H → Prop}
theorem RJ.upd (h : RJ J S k) {j : Nat} (hj : j < 12 + 43 * k) (h1 : j ≠ 1) (h4 : j ≠ 4) (h5 : j ≠ 5) (v : Int32) : RJ (ug J j v) (ug S.1 j v, S.2) k := by
  obtain ⟨r1, r2, r3, ⟨l1, os, o1, o2, o3⟩, T, t1, t2, t3, t4⟩ := h
  refine ⟨by dsimp only; rw [ug_n (by omega)]; exact r1, r2, fun i hi h5' => ?_, ⟨l1, os, o1, o2, fun i o hi x hx => ?_⟩, T, by dsimp only; rw [ug_n (by omega)]; exact t1, t2, by rw [ug_n (by omega)]; exact t3, fun i p hi hiT hp => ?_⟩
  · by_cases e : i = j
    · subst e
      dsimp only
      rw [ug_s, ug_s]
    · dsimp only
      rw [ug_n e, ug_n e]
      exact r3 i hi h5'
  · rw [ug_n (by omega)]
    exact o3 i o hi x hx
  · rw [ug_n (by omega)]
    exact t4 i p hi hiT hp
theorem RJ.hadd (h : RJ J S k) {T : Nat} (hT : S.1 4 = nI T) (hb : T < 999999999) {J' : Nat → Int32} {x0 x1 x2 x3 x4 x5 : Int32} (e1 : ∀ j, j < 366 → j ≠ 4 → j ≠ 5 → J' j = J j) (e4 : J' 4 = nI (T + 1)) (e5 : J' 5 = nI (min 30 (T + 1))) (en : ∀ y, y < 6 → J' (366 + y) = hs_c x0 x1 x2 x3 x4 x5 S.2.2 0 y) (eo : ∀ y, 6 ≤ y → y < 180 → J' (366 + y) = J (366 + (y - 6))) : RJ J' (ug S.1 4 (nI (T + 1)), S.2.1, hs_c x0 x1 x2 x3 x4 x5 S.2.2) k := by
  obtain ⟨r1, r2, r3, ⟨l1, os, o1, o2, o3⟩, T', t1, t2, t3, t4⟩ := h
  obtain rfl := (nIeq (by omega) (by omega)).mp (t1.symm.trans hT)
  refine ⟨by dsimp only; rw [ug_n (by omega)]; exact r1, r2, fun i hi h5' => ?_, ⟨l1, os, o1, o2, fun i o hi x hx => ?_⟩, T' + 1, by dsimp only; rw [ug_s], by omega, e5, fun i p hi hiT hp => ?_⟩
  · dsimp only
    by_cases e : i = 4
    · subst e
      rw [ug_s, e4]
    · rw [ug_n e, e1 i (by omega) e h5']
      exact r3 i hi h5'
  · have h8 : i < os.length := (List.getElem?_eq_some_iff.mp hi).1
    have h9 := o1.length_eq
    rw [e1 _ (by omega) (by omega) (by omega)]
    exact o3 i o hi x hx
  · dsimp only
    by_cases hi0 : i = 0
    · subst hi0
      exact en p hp
    · rw [show 366 + 6 * i + p = 366 + (6 * i + p) by omega, eo _ (by omega) (by omega), show 366 + (6 * i + p - 6) = 366 + 6 * (i - 1) + p by omega, t4 (i - 1) p (by omega) (by omega) hp]
      unfold hs_c
      rw [if_neg hi0]
/-- the trades move down by one -/
def shf (J : Nat → Int32) (x : Nat) : Nat → Int32 := fun j => if 366 + x < j ∧ j < 546 then J (j - 6) else J j
theorem shf_s {J : Nat → Int32} {x : Nat} (hx : x < 179) : ug (shf J (x + 1)) (366 + (x + 1)) (shf J (x + 1) (366 + (x + 1) - 6)) = shf J x := by
  funext j
  unfold shf ug
  by_cases h : j = 366 + (x + 1)
  · subst h
    rw [if_pos rfl, if_neg (by omega), if_pos (by omega)]
  · rw [if_neg h]
    dsimp only
    by_cases h2 : 366 + (x + 1) < j ∧ j < 546
    · rw [if_pos h2, if_pos (by omega)]
    · rw [if_neg h2, if_neg (by omega)]
theorem shf_0 {J : Nat → Int32} : shf J 179 = J := by
  funext j
  unfold shf
  rw [if_neg (by omega)]
theorem r117_l {J0 : Nat → Int32} {a1 a2 a3 a4 a5 a6 : Value} (hm : RM M) (kk : Ev d X0 117 145 [.ref 229, a1, a2, a3, a4, a5, a6, .int (nI 5)] [] (LK, sr I (shf J0 5), M) Q) :
    ∀ r, r ≤ 174 → Ev d X0 117 107 [.ref 229, a1, a2, a3, a4, a5, a6, .int (nI (r + 5))] [] (LK, sr I (shf J0 (r + 5)), M) Q
  | 0, _ => by
    rw [H117_107]
    simp (disch := omega) only [k117_0, k117_1, k117_2, k117_3, k117_5, k117_8, k117_10, k117_11, k117_14, k117_15, k117_18, k117_20, k117_21, k117_22, k117_23, k117_24, k117_25, k117_27, k117_28, k117_29, k117_30, k117_33, k117_34, k117_37, k117_39, k117_40, k117_41, k117_42, k117_43, k117_44, k117_45, k117_46, k117_47, k117_48, k117_50, k117_51, k117_52, k117_53, k117_56, k117_57, k117_60, k117_62, k117_63, k117_64, k117_65, k117_66, k117_67, k117_69, k117_70, k117_71, k117_72, k117_75, k117_76, k117_79, k117_81, k117_82, k117_83, k117_84, k117_86, k117_87, k117_88, k117_89, k117_92, k117_94, k117_95, k117_96, k117_97, k117_98, k117_100, k117_101, k117_102, k117_105, k117_109, k117_111, k117_114, k117_115, k117_118, k117_121, k117_123, k117_124, k117_125, k117_128, k117_131, k117_133, k117_134, k117_136, k117_137, k117_138, k117_139, k117_142, k117_146, k117_149, k117_152, k117_153, k117_154, k117_155, k117_158, k117_161, k117_162, k117_163, k117_164, k117_167, k117_170, k117_171, k117_172, k117_173, k117_176, k117_179, k117_181, k117_182, k117_183, k117_186, k117_189, k117_191, k117_192, k117_193, k117_196, k117_199, k117_201, k117_202, k117_203, k117_206, k117_207, k117_208, k117_209, k117_210, k117_211, k117_212, k117_213, k117_216, k117_217, k117_219, k117_220, k117_223, k117_224, k117_225, k117_226, k117_227, k117_230, k117_231, k117_233, ai_c1i, ai_c1n, ai_c1r, e_al0, e_an0, e_b0, e_b1, e_b2, e_c2, e_const, e_cs1, e_cs2, e_cv4, e_dup2, e_getR, e_goto, e_iald, e_iast, e_ii7, e_il1, e_il2, e_il3, e_il4, e_il5, e_il6, e_il7, e_is6, e_is7, e_reti, Option.toList_some, Option.toList_none, List.cons_append, List.nil_append, List.append_nil, List.length_cons, List.length_nil, Nat.reduceAdd, Nat.reduceLeDiff, Nat.zero_le, true_and, and_true, and_self, true_implies, forall_const, ai_rvs, ai_rv0, ai_b_0, Classical.not_not, not_true_eq_false, false_implies, not_false_eq_true, true_implies, and_true, true_and, if_true, if_false, Bool.false_eq_true, nIlt, Nat.zero_add]
    exact ⟨fun _ => kk, fun g => absurd (by omega) g⟩
  | r + 1, hr => by
    have ih := r117_l (J0 := J0) (a1 := a1) (a2 := a2) (a3 := a3) (a4 := a4) (a5 := a5) (a6 := a6) hm kk r (by omega)
    have em : nI (366 + (r + 1 + 5)) - nI 6 = nI (366 + (r + 1 + 5) - 6) := pk_sub (by omega)
    have e1 : nI (r + 1 + 5) + (-1) = nI (r + 5) := by rw [show r + 1 + 5 = (r + 5) + 1 by omega]; exact pk_m1 (r + 5)
    have es := shf_s (J := J0) (x := r + 5) (by omega)
    rw [show r + 5 + 1 = r + 1 + 5 by omega] at es
    rw [H117_107]
    simp (disch := omega) only [k117_0, k117_1, k117_2, k117_3, k117_5, k117_8, k117_10, k117_11, k117_14, k117_15, k117_18, k117_20, k117_21, k117_22, k117_23, k117_24, k117_25, k117_27, k117_28, k117_29, k117_30, k117_33, k117_34, k117_37, k117_39, k117_40, k117_41, k117_42, k117_43, k117_44, k117_45, k117_46, k117_47, k117_48, k117_50, k117_51, k117_52, k117_53, k117_56, k117_57, k117_60, k117_62, k117_63, k117_64, k117_65, k117_66, k117_67, k117_69, k117_70, k117_71, k117_72, k117_75, k117_76, k117_79, k117_81, k117_82, k117_83, k117_84, k117_86, k117_87, k117_88, k117_89, k117_92, k117_94, k117_95, k117_96, k117_97, k117_98, k117_100, k117_101, k117_102, k117_105, k117_109, k117_111, k117_114, k117_115, k117_118, k117_121, k117_123, k117_124, k117_125, k117_128, k117_131, k117_133, k117_134, k117_136, k117_137, k117_138, k117_139, k117_142, k117_146, k117_149, k117_152, k117_153, k117_154, k117_155, k117_158, k117_161, k117_162, k117_163, k117_164, k117_167, k117_170, k117_171, k117_172, k117_173, k117_176, k117_179, k117_181, k117_182, k117_183, k117_186, k117_189, k117_191, k117_192, k117_193, k117_196, k117_199, k117_201, k117_202, k117_203, k117_206, k117_207, k117_208, k117_209, k117_210, k117_211, k117_212, k117_213, k117_216, k117_217, k117_219, k117_220, k117_223, k117_224, k117_225, k117_226, k117_227, k117_230, k117_231, k117_233, ai_c1i, ai_c1n, ai_c1r, e_al0, e_an0, e_b0, e_b1, e_b2, e_c2, e_const, e_cs1, e_cs2, e_cv4, e_dup2, e_getR, e_goto, e_iald, e_iast, e_ii7, e_il1, e_il2, e_il3, e_il4, e_il5, e_il6, e_il7, e_is6, e_is7, e_reti, Option.toList_some, Option.toList_none, List.cons_append, List.nil_append, List.append_nil, List.length_cons, List.length_nil, Nat.reduceAdd, Nat.reduceLeDiff, Nat.zero_le, true_and, and_true, and_self, true_implies, forall_const, ai_rvs, ai_rv0, ai_b_0, Classical.not_not, not_true_eq_false, false_implies, not_false_eq_true, true_implies, and_true, true_and, if_true, if_false, Bool.false_eq_true, q_229, a_nw, nIlt, hm.1, nIa, em, nIc, sr_r, sr_u, e1, es]
    exact ⟨fun g => absurd g (by omega), fun _ => ih⟩
end RTRADE
