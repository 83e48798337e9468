/-! the reference: waiting orders, affordable shares -/
theorem ofb_ir {x : Od} : ofb x x = false := by
  cases h : ofb x x with
  | false => rfl
  | true => exact absurd h fun h => ofb_as h h
theorem pw_ofb : ∀ {l : List Od} {p : Nat} {x : Od}, SRT l → l[p]? = some x → l.countP (fun y => ofb y x) = p
  | [], p, x, _, h => by simp at h
  | a :: l, 0, x, hp, h => by
    cases h
    rw [SRT, List.pairwise_cons] at hp
    rw [List.countP_cons_of_neg (by rw [ofb_ir]; exact Bool.false_ne_true), List.countP_eq_zero]
    intro b hb h2
    exact ofb_as (hp.1 b hb) h2
  | a :: l, p + 1, x, hp, h => by
    rw [SRT, List.pairwise_cons] at hp
    have h' : l[p]? = some x := h
    rw [List.countP_cons_of_pos (p := fun y => ofb y x) (hp.1 x (List.mem_of_getElem? h')), pw_ofb hp.2 h']
section RWAIT
variable {I : Nat → Nat → Int32} {J : Nat → Int32} {M : Nat → Nat → Nat} {S : St} {m n b k T : Nat} {s : Nat → Nat} {L os : List Od} {d : Nat} {Q : Option Value → ai_H → Prop}
/-- how many orders of its market are ahead of one -/
def ahn (x : Int32) (L : List Od) (o : Od) : Nat := L.countP (fun y => decide (y.2.2.1 = x) && ofb y o)
theorem ahn_f {x : Int32} {o : Od} (hs : SRT L) {p : Nat} (h : (L.filter (fun y => decide (y.2.2.1 = x)))[p]? = some o) : ahn x L o = p := by
  have h1 := pw_ofb (hs.sublist (List.filter_sublist (p := fun y => decide (y.2.2.1 = x)))) h
  rw [List.countP_filter] at h1
  unfold ahn
  rw [← h1]
  congr 1
  funext y
  exact Bool.and_comm _ _
theorem r131_in {x p : Int32} {i : Nat} {o : Od} (hm : RM M) (hro : RO J L os) (h3 : J 3 = nI L.length) (hod : ∀ x ∈ L, OD x) (hi : os[i]? = some o) (hx : o.2.2.1 = x) (kk : Ev (d + 2) X0 131 99 [.ref 229, .int x, .int p, .int (nI i), .int (nI (ahn x os o)), .int (nI os.length)] [] (LK, sr I J, M) Q) :
    ∀ r j, r + j = os.length → Ev (d + 2) X0 131 47 [.ref 229, .int x, .int p, .int (nI i), .int (nI (ahn x (os.take j) o)), .int (nI j)] [] (LK, sr I J, M) Q
  | 0, j, hj => by
    obtain rfl : j = os.length := by omega
    obtain ⟨l1, l2⟩ := hro.len
    rw [List.take_length, H131_47]
    simp (disch := omega) only [k131_0, k131_1, k131_2, k131_5, k131_8, k131_10, k131_11, k131_12, k131_14, k131_15, k131_18, k131_19, k131_20, k131_23, k131_24, k131_27, k131_28, k131_31, k131_32, k131_33, k131_34, k131_35, k131_38, k131_41, k131_42, k131_44, k131_45, k131_49, k131_50, k131_53, k131_54, k131_55, k131_58, k131_59, k131_62, k131_64, k131_67, k131_68, k131_69, k131_70, k131_71, k131_74, k131_76, k131_77, k131_80, k131_81, k131_83, k131_84, k131_87, k131_90, k131_93, k131_96, k131_101, k131_102, k131_105, k131_106, k131_109, k131_110, k131_113, k131_114, k131_115, k131_118, k131_121, k131_123, ai_c1i, ai_c1n, ai_c1r, e_al0, e_an0, e_b0, e_c0, e_c1, e_c3, e_const, e_cs1, e_cv2, e_cv3, e_getR, e_goto, e_iald, e_ii3, e_ii4, e_ii5, e_il1, e_il2, e_il3, e_il4, e_il5, e_is3, e_is4, e_is5, e_reti, e_z0, e_z1, Option.toList_some, Option.toList_none, List.cons_append, List.nil_append, List.append_nil, List.length_cons, List.length_nil, Nat.reduceAdd, Nat.reduceLeDiff, Nat.zero_le, true_and, and_true, and_self, true_implies, forall_const, ai_rvs, ai_rv0, ai_b_0, Classical.not_not, not_true_eq_false, false_implies, not_false_eq_true, true_implies, and_true, true_and, if_true, if_false, Bool.false_eq_true, q_229, a_nw, hm.1, nIc, sr_r, h3, l1, Int32.le_refl]
    rw [l1] at kk
    exact kk
  | r + 1, j, hj => by
    obtain ⟨l1, l2⟩ := hro.len
    have hi8 : i < os.length := (List.getElem?_eq_some_iff.mp hi).1
    obtain ⟨y, hy⟩ := get_lt (L := os) (i := j) (by omega)
    have e2 := (hro.f hy).2.2.1
    have ih := r131_in hm hro h3 hod hi hx kk r (j + 1) (by omega)
    have sp : ahn x (os.take (j + 1)) o = ahn x (os.take j) o + if (decide (y.2.2.1 = x) && ofb y o) = true then 1 else 0 := by
      unfold ahn
      rw [List.take_succ, hy, Option.toList_some, List.countP_append, List.countP_cons, List.countP_nil, Nat.zero_add]
    rw [sp] at ih
    rw [H131_47]
    simp (disch := omega) only [k131_0, k131_1, k131_2, k131_5, k131_8, k131_10, k131_11, k131_12, k131_14, k131_15, k131_18, k131_19, k131_20, k131_23, k131_24, k131_27, k131_28, k131_31, k131_32, k131_33, k131_34, k131_35, k131_38, k131_41, k131_42, k131_44, k131_45, k131_49, k131_50, k131_53, k131_54, k131_55, k131_58, k131_59, k131_62, k131_64, k131_67, k131_68, k131_69, k131_70, k131_71, k131_74, k131_76, k131_77, k131_80, k131_81, k131_83, k131_84, k131_87, k131_90, k131_93, k131_96, k131_101, k131_102, k131_105, k131_106, k131_109, k131_110, k131_113, k131_114, k131_115, k131_118, k131_121, k131_123, ai_c1i, ai_c1n, ai_c1r, e_al0, e_an0, e_b0, e_c0, e_c1, e_c3, e_const, e_cs1, e_cv2, e_cv3, e_getR, e_goto, e_iald, e_ii3, e_ii4, e_ii5, e_il1, e_il2, e_il3, e_il4, e_il5, e_is3, e_is4, e_is5, e_reti, e_z0, e_z1, Option.toList_some, Option.toList_none, List.cons_append, List.nil_append, List.append_nil, List.length_cons, List.length_nil, Nat.reduceAdd, Nat.reduceLeDiff, Nat.zero_le, true_and, and_true, and_self, true_implies, forall_const, ai_rvs, ai_rv0, ai_b_0, Classical.not_not, not_true_eq_false, false_implies, not_false_eq_true, true_implies, and_true, true_and, if_true, if_false, Bool.false_eq_true, q_229, a_nw, hm.1, c99, nIm, nIa, nIc, sr_r, h3, nIle, e2]
    refine ⟨fun g => absurd g (by omega), fun _ => ⟨fun g1 => ?_, fun g1 => ⟨fun g2 => ?_, fun g2 => ?_⟩⟩⟩
    · rw [if_neg (by rw [decide_eq_false g1]; exact Bool.false_ne_true), Nat.add_zero] at ih
      exact ih
    · have hji : j = i := (nIeq (by omega) (by omega)).mp g2
      subst hji
      rw [hi] at hy
      cases hy
      rw [ofb_ir, Bool.and_false, if_neg Bool.false_ne_true, Nat.add_zero] at ih
      exact ih
    · rw [r124 hm hro hod hy hi]
      by_cases g3 : ofb y o = true
      · rw [if_pos (by rw [decide_eq_true g1, g3]; rfl)] at ih
        have n10 : (nI 1 = nI 0) = False := eq_false (by decide)
        simp (disch := omega) only [k131_0, k131_1, k131_2, k131_5, k131_8, k131_10, k131_11, k131_12, k131_14, k131_15, k131_18, k131_19, k131_20, k131_23, k131_24, k131_27, k131_28, k131_31, k131_32, k131_33, k131_34, k131_35, k131_38, k131_41, k131_42, k131_44, k131_45, k131_49, k131_50, k131_53, k131_54, k131_55, k131_58, k131_59, k131_62, k131_64, k131_67, k131_68, k131_69, k131_70, k131_71, k131_74, k131_76, k131_77, k131_80, k131_81, k131_83, k131_84, k131_87, k131_90, k131_93, k131_96, k131_101, k131_102, k131_105, k131_106, k131_109, k131_110, k131_113, k131_114, k131_115, k131_118, k131_121, k131_123, ai_c1i, ai_c1n, ai_c1r, e_al0, e_an0, e_b0, e_c0, e_c1, e_c3, e_const, e_cs1, e_cv2, e_cv3, e_getR, e_goto, e_iald, e_ii3, e_ii4, e_ii5, e_il1, e_il2, e_il3, e_il4, e_il5, e_is3, e_is4, e_is5, e_reti, e_z0, e_z1, Option.toList_some, Option.toList_none, List.cons_append, List.nil_append, List.append_nil, List.length_cons, List.length_nil, Nat.reduceAdd, Nat.reduceLeDiff, Nat.zero_le, true_and, and_true, and_self, true_implies, forall_const, ai_rvs, ai_rv0, ai_b_0, Classical.not_not, not_true_eq_false, false_implies, not_false_eq_true, true_implies, and_true, true_and, if_true, if_false, Bool.false_eq_true, q_229, a_nw, ai_b_t g3, n10, nIa]
        exact ih
      · rw [if_neg (by rw [Bool.and_eq_true]; exact fun h => g3 h.2), Nat.add_zero] at ih
        simp (disch := omega) only [k131_0, k131_1, k131_2, k131_5, k131_8, k131_10, k131_11, k131_12, k131_14, k131_15, k131_18, k131_19, k131_20, k131_23, k131_24, k131_27, k131_28, k131_31, k131_32, k131_33, k131_34, k131_35, k131_38, k131_41, k131_42, k131_44, k131_45, k131_49, k131_50, k131_53, k131_54, k131_55, k131_58, k131_59, k131_62, k131_64, k131_67, k131_68, k131_69, k131_70, k131_71, k131_74, k131_76, k131_77, k131_80, k131_81, k131_83, k131_84, k131_87, k131_90, k131_93, k131_96, k131_101, k131_102, k131_105, k131_106, k131_109, k131_110, k131_113, k131_114, k131_115, k131_118, k131_121, k131_123, ai_c1i, ai_c1n, ai_c1r, e_al0, e_an0, e_b0, e_c0, e_c1, e_c3, e_const, e_cs1, e_cv2, e_cv3, e_getR, e_goto, e_iald, e_ii3, e_ii4, e_ii5, e_il1, e_il2, e_il3, e_il4, e_il5, e_is3, e_is4, e_is5, e_reti, e_z0, e_z1, Option.toList_some, Option.toList_none, List.cons_append, List.nil_append, List.append_nil, List.length_cons, List.length_nil, Nat.reduceAdd, Nat.reduceLeDiff, Nat.zero_le, true_and, and_true, and_self, true_implies, forall_const, ai_rvs, ai_rv0, ai_b_0, Classical.not_not, not_true_eq_false, false_implies, not_false_eq_true, true_implies, and_true, true_and, if_true, if_false, Bool.false_eq_true, q_229, a_nw, ai_b_f g3, nIa]
        exact ih
theorem r131_l {x p : Int32} (hm : RM M) (hro : RO J L os) (h3 : J 3 = nI L.length) (hod : ∀ x ∈ L, OD x) (k1 : ∀ (i : Nat) (o : Od), os[i]? = some o → o.2.2.1 = x → nI (ahn x os o) = p → Q (some (.int o.1)) (LK, sr I J, M)) (k2 : (∀ (i : Nat) (o : Od), os[i]? = some o → o.2.2.1 = x → nI (ahn x os o) ≠ p) → Q (some (.int (-1000000001))) (LK, sr I J, M)) :
    ∀ r i u v, r + i = os.length → (∀ (j : Nat) (o : Od), j < i → os[j]? = some o → o.2.2.1 = x → nI (ahn x os o) ≠ p) → Ev (d + 2) X0 131 13 [.ref 229, .int x, .int p, .int (nI i), u, v] [] (LK, sr I J, M) Q
  | 0, i, u, v, hi, hno => by
    obtain rfl : i = os.length := by omega
    obtain ⟨l1, l2⟩ := hro.len
    have k3 := k2 fun j o ho => hno j o (by have := (List.getElem?_eq_some_iff.mp ho).1; omega) ho
    rw [H131_13]
    simp (disch := omega) only [K131_0, K131_1, ai_c1i, ai_c1n, ai_c1r, e_al0, e_an0, e_b0, e_c0, e_c1, e_c3, e_const, e_cs1, e_cv2, e_cv3, e_getR, e_goto, e_iald, e_ii3, e_ii4, e_ii5, e_il1, e_il2, e_il3, e_il4, e_il5, e_is3, e_is4, e_is5, e_reti, e_z0, e_z1, Option.toList_some, Option.toList_none, List.cons_append, List.nil_append, List.append_nil, List.length_cons, List.length_nil, Nat.reduceAdd, Nat.reduceLeDiff, Nat.zero_le, true_and, and_true, and_self, true_implies, forall_const, ai_rvs, ai_rv0, ai_b_0, Classical.not_not, not_true_eq_false, false_implies, not_false_eq_true, true_implies, and_true, true_and, if_true, if_false, Bool.false_eq_true, q_229, a_nw, hm.1, nIc, sr_r, h3, l1, Int32.le_refl]
    exact k3
  | r + 1, i, u, v, hi, hno => by
    obtain ⟨l1, l2⟩ := hro.len
    obtain ⟨o, ho⟩ := get_lt (L := os) (i := i) (by omega)
    have e0 := (hro.f ho).1
    have e2 := (hro.f ho).2.2.1
    have ih := fun u v => r131_l hm hro h3 hod k1 k2 r (i + 1) u v (by omega)
    have ext : (o.2.2.1 = x → nI (ahn x os o) ≠ p) → ∀ (j : Nat) (o : Od), j < i + 1 → os[j]? = some o → o.2.2.1 = x → nI (ahn x os o) ≠ p := fun h j o' hj ho' => by
      by_cases e : j = i
      · subst e
        rw [ho] at ho'
        cases ho'
        exact h
      · exact hno j o' (by omega) ho'
    rw [H131_13]
    simp (disch := omega) only [k131_0, k131_1, k131_2, k131_5, k131_8, k131_10, k131_11, k131_12, k131_14, k131_15, k131_18, k131_19, k131_20, k131_23, k131_24, k131_27, k131_28, k131_31, k131_32, k131_33, k131_34, k131_35, k131_38, k131_41, k131_42, k131_44, k131_45, k131_49, k131_50, k131_53, k131_54, k131_55, k131_58, k131_59, k131_62, k131_64, k131_67, k131_68, k131_69, k131_70, k131_71, k131_74, k131_76, k131_77, k131_80, k131_81, k131_83, k131_84, k131_87, k131_90, k131_93, k131_96, k131_101, k131_102, k131_105, k131_106, k131_109, k131_110, k131_113, k131_114, k131_115, k131_118, k131_121, k131_123, ai_c1i, ai_c1n, ai_c1r, e_al0, e_an0, e_b0, e_c0, e_c1, e_c3, e_const, e_cs1, e_cv2, e_cv3, e_getR, e_goto, e_iald, e_ii3, e_ii4, e_ii5, e_il1, e_il2, e_il3, e_il4, e_il5, e_is3, e_is4, e_is5, e_reti, e_z0, e_z1, Option.toList_some, Option.toList_none, List.cons_append, List.nil_append, List.append_nil, List.length_cons, List.length_nil, Nat.reduceAdd, Nat.reduceLeDiff, Nat.zero_le, true_and, and_true, and_self, true_implies, forall_const, ai_rvs, ai_rv0, ai_b_0, Classical.not_not, not_true_eq_false, false_implies, not_false_eq_true, true_implies, and_true, true_and, if_true, if_false, Bool.false_eq_true, q_229, a_nw, hm.1, c99, nIm, nIa, nIc, sr_r, h3, nIle, e2]
    refine ⟨fun g => absurd g (by omega), fun _ => ⟨fun g1 => ?_, fun g1 => ?_⟩⟩
    · have l := r131_in (d := d) (p := p) (I := I) (Q := Q) hm hro h3 hod ho g1 ?_ os.length 0 (by omega)
      · exact l
      · simp (disch := omega) only [K131_0, K131_1, ai_c1i, ai_c1n, ai_c1r, e_al0, e_an0, e_b0, e_c0, e_c1, e_c3, e_const, e_cs1, e_cv2, e_cv3, e_getR, e_goto, e_iald, e_ii3, e_ii4, e_ii5, e_il1, e_il2, e_il3, e_il4, e_il5, e_is3, e_is4, e_is5, e_reti, e_z0, e_z1, Option.toList_some, Option.toList_none, List.cons_append, List.nil_append, List.append_nil, List.length_cons, List.length_nil, Nat.reduceAdd, Nat.reduceLeDiff, Nat.zero_le, true_and, and_true, and_self, true_implies, forall_const, ai_rvs, ai_rv0, ai_b_0, Classical.not_not, not_true_eq_false, false_implies, not_false_eq_true, true_implies, and_true, true_and, if_true, if_false, Bool.false_eq_true, q_229, a_nw, hm.1, c99, nIm, nIa, nIc, sr_r, e0]
        refine ⟨fun g2 => ?_, fun g2 => ?_⟩
        · exact ih _ _ (ext fun _ => g2)
        · exact k1 i o ho g1 g2
    · exact ih _ _ (ext fun h => absurd h g1)
theorem r131 (hm : RM M) (hj : RJ J S k) (hv : VB S.1 k) (hev : EV S k) (hs : SRT S.2.1) {x p : Int32} (kk : Q (some (.int (p_wait S x p))) (LK, sr I J, M)) : Cl (d + 2) 131 [.ref 229, .int x, .int p] (LK, sr I J, M) Q := by
  have hjr : RJ ((sr I J) 230) S k := hj
  have hk6 := hj.2.1
  have n10 : (nI 1 = nI 0) = False := eq_false (by decide)
  obtain ⟨os, hro⟩ := hj.ro
  obtain ⟨l1, l2⟩ := hro.len
  have h3 : J 3 = nI S.2.1.length := (hj.2.2.1 3 (by omega) (by omega)).trans hev.2.1
  have ha : ∀ o, ahn x os o = ahn x S.2.1 o := fun o => hro.2.1.countP_eq _
  have hlt : ∀ o, ahn x S.2.1 o ≤ 16 := fun o => Nat.le_trans List.countP_le_length hro.1
  unfold p_wait at kk
  simp (disch := omega) only [E131, k131_0, k131_1, k131_2, k131_5, k131_8, k131_10, k131_11, k131_12, k131_14, k131_15, k131_18, k131_19, k131_20, k131_23, k131_24, k131_27, k131_28, k131_31, k131_32, k131_33, k131_34, k131_35, k131_38, k131_41, k131_42, k131_44, k131_45, k131_49, k131_50, k131_53, k131_54, k131_55, k131_58, k131_59, k131_62, k131_64, k131_67, k131_68, k131_69, k131_70, k131_71, k131_74, k131_76, k131_77, k131_80, k131_81, k131_83, k131_84, k131_87, k131_90, k131_93, k131_96, k131_101, k131_102, k131_105, k131_106, k131_109, k131_110, k131_113, k131_114, k131_115, k131_118, k131_121, k131_123, ai_c1i, ai_c1n, ai_c1r, e_al0, e_an0, e_b0, e_c0, e_c1, e_c3, e_const, e_cs1, e_cv2, e_cv3, e_getR, e_goto, e_iald, e_ii3, e_ii4, e_ii5, e_il1, e_il2, e_il3, e_il4, e_il5, e_is3, e_is4, e_is5, e_reti, e_z0, e_z1, Option.toList_some, Option.toList_none, List.cons_append, List.nil_append, List.append_nil, List.length_cons, List.length_nil, Nat.reduceAdd, Nat.reduceLeDiff, Nat.zero_le, true_and, and_true, and_self, true_implies, forall_const, ai_rvs, ai_rv0, ai_b_0, Classical.not_not, not_true_eq_false, false_implies, not_false_eq_true, true_implies, and_true, true_and, if_true, if_false, Bool.false_eq_true, q_229, a_nw]
  refine r101 hm hv hjr (fun m hmk ex em => ?_) (fun em => ?_)
  · rw [em] at kk
    dsimp only at kk
    simp (disch := omega) only [k131_0, k131_1, k131_2, k131_5, k131_8, k131_10, k131_11, k131_12, k131_14, k131_15, k131_18, k131_19, k131_20, k131_23, k131_24, k131_27, k131_28, k131_31, k131_32, k131_33, k131_34, k131_35, k131_38, k131_41, k131_42, k131_44, k131_45, k131_49, k131_50, k131_53, k131_54, k131_55, k131_58, k131_59, k131_62, k131_64, k131_67, k131_68, k131_69, k131_70, k131_71, k131_74, k131_76, k131_77, k131_80, k131_81, k131_83, k131_84, k131_87, k131_90, k131_93, k131_96, k131_101, k131_102, k131_105, k131_106, k131_109, k131_110, k131_113, k131_114, k131_115, k131_118, k131_121, k131_123, ai_c1i, ai_c1n, ai_c1r, e_al0, e_an0, e_b0, e_c0, e_c1, e_c3, e_const, e_cs1, e_cv2, e_cv3, e_getR, e_goto, e_iald, e_ii3, e_ii4, e_ii5, e_il1, e_il2, e_il3, e_il4, e_il5, e_is3, e_is4, e_is5, e_reti, e_z0, e_z1, Option.toList_some, Option.toList_none, List.cons_append, List.nil_append, List.append_nil, List.length_cons, List.length_nil, Nat.reduceAdd, Nat.reduceLeDiff, Nat.zero_le, true_and, and_true, and_self, true_implies, forall_const, ai_rvs, ai_rv0, ai_b_0, Classical.not_not, not_true_eq_false, false_implies, not_false_eq_true, true_implies, and_true, true_and, if_true, if_false, Bool.false_eq_true, q_229, a_nw, n10]
    refine r131_l (d := d) hm hro h3 hev.2.2.2 (fun i o ho hx hp => ?_) (fun hno => ?_) os.length 0 _ _ (by omega) (fun j o hj => absurd hj (by omega))
    · rw [← hp, ha] at kk
      have := hlt o
      rw [if_neg (by rw [nIlt (by omega) (by omega)]; omega), nIc (by omega)] at kk
      have hmem : o ∈ S.2.1.filter (fun y => decide (y.2.2.1 = x)) := List.mem_filter.mpr ⟨hro.mem ho, by rw [decide_eq_true_eq]; exact hx⟩
      obtain ⟨q, hq, eq⟩ := List.mem_iff_getElem.mp hmem
      have hq' : (S.2.1.filter (fun y => decide (y.2.2.1 = x)))[q]? = some o := by rw [List.getElem?_eq_getElem hq, eq]
      have := ahn_f hs hq'
      unfold wt_l at kk
      rw [this, hq'] at kk
      exact kk
    · have key : (if p < nI 0 then (-1000000001 : Int32) else wt_l S.2.1 x p.toNatClampNeg) = -1000000001 := by
        by_cases g : p < nI 0
        · rw [if_pos g]
        · rw [if_neg g]
          obtain ⟨j, hj31, rfl⟩ := nI_nn (i_nlt.mp g)
          rw [nIc hj31]
          unfold wt_l
          cases h : (S.2.1.filter (fun o => decide (o.2.2.1 = x)))[j]? with
          | none => rfl
          | some o =>
            exfalso
            have hmem := List.mem_filter.mp (List.mem_of_getElem? h)
            obtain ⟨i, hi, ei⟩ := List.mem_iff_getElem.mp (hro.2.1.mem_iff.mpr hmem.1)
            refine hno i o (by rw [List.getElem?_eq_getElem hi, ei]) (by have := hmem.2; rw [decide_eq_true_eq] at this; exact this) ?_
            rw [ha, ahn_f hs h]
      rw [key] at kk
      exact kk
  · rw [em] at kk
    simp (disch := omega) only [k131_0, k131_1, k131_2, k131_5, k131_8, k131_10, k131_11, k131_12, k131_14, k131_15, k131_18, k131_19, k131_20, k131_23, k131_24, k131_27, k131_28, k131_31, k131_32, k131_33, k131_34, k131_35, k131_38, k131_41, k131_42, k131_44, k131_45, k131_49, k131_50, k131_53, k131_54, k131_55, k131_58, k131_59, k131_62, k131_64, k131_67, k131_68, k131_69, k131_70, k131_71, k131_74, k131_76, k131_77, k131_80, k131_81, k131_83, k131_84, k131_87, k131_90, k131_93, k131_96, k131_101, k131_102, k131_105, k131_106, k131_109, k131_110, k131_113, k131_114, k131_115, k131_118, k131_121, k131_123, ai_c1i, ai_c1n, ai_c1r, e_al0, e_an0, e_b0, e_c0, e_c1, e_c3, e_const, e_cs1, e_cv2, e_cv3, e_getR, e_goto, e_iald, e_ii3, e_ii4, e_ii5, e_il1, e_il2, e_il3, e_il4, e_il5, e_is3, e_is4, e_is5, e_reti, e_z0, e_z1, Option.toList_some, Option.toList_none, List.cons_append, List.nil_append, List.append_nil, List.length_cons, List.length_nil, Nat.reduceAdd, Nat.reduceLeDiff, Nat.zero_le, true_and, and_true, and_self, true_implies, forall_const, ai_rvs, ai_rv0, ai_b_0, Classical.not_not, not_true_eq_false, false_implies, not_false_eq_true, true_implies, and_true, true_and, if_true, if_false, Bool.false_eq_true, q_229, a_nw]
    exact kk
/-- affordable -/
theorem af_le {g : Nat → Int32} {o : Nat} (h1 : g (14 + 43 * m) = nI n) (n2 : 2 ≤ n) (n4 : n ≤ 4) (h2 : g (13 + 43 * m) = nI b) (b1 : 1 ≤ b) (b2 : b ≤ 60) (h3 : ∀ o, o < n → g (21 + 43 * m + o) = nI (s o) ∧ s o ≤ 400) (ho : o < n) {i : Nat} (hi : s o + i + 1 ≤ 400) : m_due g m o (nI i) ≤ m_due g m o (nI (i + 1)) := by
  unfold m_due
  rw [nN_of h1 n4, h2]
  exact cost_mono (s := s) (by omega) n4 b1 b2 h3 ho hi
theorem r149_l {t o : Nat} (hm : RM M) (hj : RJ J S k) (hmk : m < k) (ht : t < 6) (h1 : S.1 (14 + 43 * m) = nI n) (n2 : 2 ≤ n) (n4 : n ≤ 4) (h2 : S.1 (13 + 43 * m) = nI b) (b1 : 1 ≤ b) (b2 : b ≤ 60) (h3 : ∀ o, o < n → S.1 (21 + 43 * m + o) = nI (s o) ∧ s o ≤ 400) (ho : o < n) (kk : Q (some (.int (af S.1 m o (S.1 (6 + t)) 50 1))) (LK, sr I J, M)) :
    ∀ r i mo, r + i = 51 → 1 ≤ i → (mo = nI (i - 1) ∧ af S.1 m o (S.1 (6 + t)) r i = af S.1 m o (S.1 (6 + t)) 50 1 ∨ mo = af S.1 m o (S.1 (6 + t)) 50 1 ∧ (s o + i ≤ 400 → S.1 (6 + t) < m_due S.1 m o (nI i))) → Ev (d + 7) X0 149 25 [.ref 229, .int (nI t), .int (nI m), .int (nI o), .int mo, .int (nI i)] [] (LK, sr I J, M) Q
  | 0, i, mo, hi, h0, hs => by
    obtain rfl : i = 51 := by omega
    have k3 : Q (some (.int mo)) (LK, sr I J, M) := by
      rcases hs with ⟨e1, e2⟩ | ⟨e1, -⟩
      · rw [← e2, af] at kk
        rw [e1]
        exact kk
      · rw [e1]
        exact kk
    rw [H149_25]
    simp (disch := omega) only [K149, ai_c1i, ai_c1n, ai_c1r, e_al0, e_an0, e_b0, e_c4, e_const, e_cs1, e_cv3, e_cv4, e_getR, e_goto, e_iald, e_ii5, e_il1, e_il2, e_il3, e_il4, e_il5, e_is4, e_is5, e_reti, e_z0, e_z1, Option.toList_some, Option.toList_none, List.cons_append, List.nil_append, List.append_nil, List.length_cons, List.length_nil, Nat.reduceAdd, Nat.reduceLeDiff, Nat.zero_le, true_and, and_true, and_self, true_implies, forall_const, ai_rvs, ai_rv0, ai_b_0, Classical.not_not, not_true_eq_false, false_implies, not_false_eq_true, true_implies, and_true, true_and, if_true, if_false, Bool.false_eq_true, q_229, a_nw, nIlt, show (50 < 51) = True from eq_true (by omega)]
    exact k3
  | r + 1, i, mo, hi, h0, hs => by
    have hk6 := hj.2.1
    have rd := hj.2.2.1
    obtain ⟨q1, q2⟩ := h3 o ho
    have hr : RK J m n b s := RK.of hmk hk6 rd h1 n4 h2 b2 h3
    have rsh : J (12 + 43 * m + (9 + o)) = nI (s o) := by rw [show 12 + 43 * m + (9 + o) = 21 + 43 * m + o by omega, rd _ (by omega) (by omega)]; exact q1
    have rbl : J (6 + t) = S.1 (6 + t) := rd _ (by omega) (by omega)
    have ih := fun mo => r149_l hm hj hmk ht h1 n2 n4 h2 b1 b2 h3 ho kk r (i + 1) mo (by omega) (by omega)
    have g50 : (50 < i) = False := eq_false (by omega)
    have ec : (nI 0 ≤ qs S.1 m o + nI i ∧ qs S.1 m o + nI i ≤ nI 400) ↔ s o + i ≤ 400 := by
      rw [show qs S.1 m o = nI (s o) from q1, nIa, nIle (by omega) (by omega), nIle (by omega) (by omega)]
      omega
    rw [H149_25]
    by_cases g : s o + i ≤ 400
    · have hsx : J (21 + 43 * m + o) + nI i = nI (s o + i) := by rw [rd _ (by omega) (by omega), q1, nIa]
      have hdue := hj.due (c := nI i) hmk hr ho
      have nxt : S.1 (6 + t) < m_due S.1 m o (nI i) → s o + (i + 1) ≤ 400 → S.1 (6 + t) < m_due S.1 m o (nI (i + 1)) := fun h hle => by
        have h9 := af_le (m := m) (s := s) h1 n2 n4 h2 b1 b2 h3 ho (i := i) (by omega)
        rw [Int32.lt_iff_toInt_lt] at h ⊢
        rw [Int32.le_iff_toInt_le] at h9
        omega
      have g4 : (400 < s o + i) = False := eq_false (by omega)
      simp (disch := omega) only [K149, ai_c1i, ai_c1n, ai_c1r, e_al0, e_an0, e_b0, e_c4, e_const, e_cs1, e_cv3, e_cv4, e_getR, e_goto, e_iald, e_ii5, e_il1, e_il2, e_il3, e_il4, e_il5, e_is4, e_is5, e_reti, e_z0, e_z1, Option.toList_some, Option.toList_none, List.cons_append, List.nil_append, List.append_nil, List.length_cons, List.length_nil, Nat.reduceAdd, Nat.reduceLeDiff, Nat.zero_le, true_and, and_true, and_self, true_implies, forall_const, ai_rvs, ai_rv0, ai_b_0, Classical.not_not, not_true_eq_false, false_implies, not_false_eq_true, true_implies, and_true, true_and, if_true, if_false, Bool.false_eq_true, q_229, a_nw, nIlt, g50, r100 hm, nIa, sr_r, rsh, g4, r109 hm hr (show 1 ≤ n by omega) b1 ho hsx (by omega), hdue, hm.1, nIc, rbl]
      refine ⟨fun g2 => ih mo ?_, fun g2 => ih (nI i) ?_⟩
      · have g2' : S.1 (6 + t) < m_due S.1 m o (nI i) := g2
        refine Or.inr ⟨?_, nxt g2'⟩
        rcases hs with ⟨e1, e2⟩ | ⟨e1, -⟩
        · rw [e1, ← e2, af, if_pos (ec.mpr g), if_pos g2']
        · exact e1
      · have g2' : ¬ S.1 (6 + t) < m_due S.1 m o (nI i) := g2
        rcases hs with ⟨e1, e2⟩ | ⟨e1, e2⟩
        · refine Or.inl ⟨by rw [show i + 1 - 1 = i by omega], ?_⟩
          rw [← e2, af.eq_2, if_pos (ec.mpr g), if_neg g2']
        · exact absurd (e2 g) g2'
    · have k3 : Q (some (.int mo)) (LK, sr I J, M) := by
        rcases hs with ⟨e1, e2⟩ | ⟨e1, -⟩
        · rw [← e2, af, if_neg (fun h => g (ec.mp h))] at kk
          rw [e1]
          exact kk
        · rw [e1]
          exact kk
      have g4 : (400 < s o + i) = True := eq_true (by omega)
      simp (disch := omega) only [K149, ai_c1i, ai_c1n, ai_c1r, e_al0, e_an0, e_b0, e_c4, e_const, e_cs1, e_cv3, e_cv4, e_getR, e_goto, e_iald, e_ii5, e_il1, e_il2, e_il3, e_il4, e_il5, e_is4, e_is5, e_reti, e_z0, e_z1, Option.toList_some, Option.toList_none, List.cons_append, List.nil_append, List.append_nil, List.length_cons, List.length_nil, Nat.reduceAdd, Nat.reduceLeDiff, Nat.zero_le, true_and, and_true, and_self, true_implies, forall_const, ai_rvs, ai_rv0, ai_b_0, Classical.not_not, not_true_eq_false, false_implies, not_false_eq_true, true_implies, and_true, true_and, if_true, if_false, Bool.false_eq_true, q_229, a_nw, nIlt, g50, r100 hm, nIa, sr_r, rsh, g4]
      exact k3
theorem r149 (hm : RM M) (hj : RJ J S k) (hv : VB S.1 k) (hmv : MV S.1 k) {t x y : Int32} (kk : Q (some (.int (p_aff S t x y))) (LK, sr I J, M)) : Cl (d + 7) 149 [.ref 229, .int t, .int x, .int y] (LK, sr I J, M) Q := by
  have hk6 := hj.2.1
  have hjr : RJ ((sr I J) 230) S k := hj
  have n10 : (nI 1 = nI 0) = False := eq_false (by decide)
  unfold p_aff at kk
  by_cases g1 : nI 0 ≤ t ∧ t ≤ nI 5
  · obtain ⟨t, ht, rfl⟩ := tr_of g1
    simp (disch := omega) only [E149, K149, ai_c1i, ai_c1n, ai_c1r, e_al0, e_an0, e_b0, e_c4, e_const, e_cs1, e_cv3, e_cv4, e_getR, e_goto, e_iald, e_ii5, e_il1, e_il2, e_il3, e_il4, e_il5, e_is4, e_is5, e_reti, e_z0, e_z1, Option.toList_some, Option.toList_none, List.cons_append, List.nil_append, List.append_nil, List.length_cons, List.length_nil, Nat.reduceAdd, Nat.reduceLeDiff, Nat.zero_le, true_and, and_true, and_self, true_implies, forall_const, ai_rvs, ai_rv0, ai_b_0, Classical.not_not, not_true_eq_false, false_implies, not_false_eq_true, true_implies, and_true, true_and, if_true, if_false, Bool.false_eq_true, q_229, a_nw, r103, g1, n10]
    refine r102 hm hv hjr (fun m n o hmk ex hn n2 n4 ho ey em => ?_) (fun em => ?_)
    · rw [em] at kk
      subst ex ey
      dsimp only at kk
      rw [if_pos g1, nIc (by omega)] at kk
      obtain ⟨n', b, s, h1, n2', n4', h2, b1, b2, h3⟩ := hmv m hmk
      obtain rfl := (nIeq (by omega) (by omega)).mp (h1.symm.trans hn)
      simp (disch := omega) only [K149, ai_c1i, ai_c1n, ai_c1r, e_al0, e_an0, e_b0, e_c4, e_const, e_cs1, e_cv3, e_cv4, e_getR, e_goto, e_iald, e_ii5, e_il1, e_il2, e_il3, e_il4, e_il5, e_is4, e_is5, e_reti, e_z0, e_z1, Option.toList_some, Option.toList_none, List.cons_append, List.nil_append, List.append_nil, List.length_cons, List.length_nil, Nat.reduceAdd, Nat.reduceLeDiff, Nat.zero_le, true_and, and_true, and_self, true_implies, forall_const, ai_rvs, ai_rv0, ai_b_0, Classical.not_not, not_true_eq_false, false_implies, not_false_eq_true, true_implies, and_true, true_and, if_true, if_false, Bool.false_eq_true, q_229, a_nw, n10]
      exact r149_l (d := d) hm hj hmk ht h1 n2 n4 h2 b1 b2 h3 ho kk 50 1 _ (by omega) (by omega) (Or.inl ⟨rfl, rfl⟩)
    · rw [em] at kk
      simp (disch := omega) only [K149, ai_c1i, ai_c1n, ai_c1r, e_al0, e_an0, e_b0, e_c4, e_const, e_cs1, e_cv3, e_cv4, e_getR, e_goto, e_iald, e_ii5, e_il1, e_il2, e_il3, e_il4, e_il5, e_is4, e_is5, e_reti, e_z0, e_z1, Option.toList_some, Option.toList_none, List.cons_append, List.nil_append, List.append_nil, List.length_cons, List.length_nil, Nat.reduceAdd, Nat.reduceLeDiff, Nat.zero_le, true_and, and_true, and_self, true_implies, forall_const, ai_rvs, ai_rv0, ai_b_0, Classical.not_not, not_true_eq_false, false_implies, not_false_eq_true, true_implies, and_true, true_and, if_true, if_false, Bool.false_eq_true, q_229, a_nw]
      exact kk
  · have kk' : Q (some (.int (-1000000001))) (LK, sr I J, M) := by
      cases h : mWith S.1 x y with
      | none => rw [h] at kk; exact kk
      | some p =>
        obtain ⟨m, o⟩ := p
        rw [h] at kk
        dsimp only at kk
        rw [if_neg g1] at kk
        exact kk
    simp (disch := omega) only [E149, K149, ai_c1i, ai_c1n, ai_c1r, e_al0, e_an0, e_b0, e_c4, e_const, e_cs1, e_cv3, e_cv4, e_getR, e_goto, e_iald, e_ii5, e_il1, e_il2, e_il3, e_il4, e_il5, e_is4, e_is5, e_reti, e_z0, e_z1, Option.toList_some, Option.toList_none, List.cons_append, List.nil_append, List.append_nil, List.length_cons, List.length_nil, Nat.reduceAdd, Nat.reduceLeDiff, Nat.zero_le, true_and, and_true, and_self, true_implies, forall_const, ai_rvs, ai_rv0, ai_b_0, Classical.not_not, not_true_eq_false, false_implies, not_false_eq_true, true_implies, and_true, true_and, if_true, if_false, Bool.false_eq_true, q_229, a_nw, r103, g1]
    exact kk'
end RWAIT
