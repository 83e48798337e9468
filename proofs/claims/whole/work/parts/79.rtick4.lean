/-! the reference ticks so many times -/
section RTICK4
variable {I : Nat → Nat → Int32} {J : Nat → Int32} {M : Nat → Nat → Nat} {S : St} {m k tm : Nat} {d : Nat} {Q : Option Value → ai_H → Prop}
theorem pt1_no : ∀ i e, e < i → (pt1 i S).1 (12 + 43 * e) = nI 0 → (pt1 i S).1 (15 + 43 * e) ≤ S.1 0 → False
  | 0, _, he => absurd he (by omega)
  | i + 1, e, he => by
    intro h1 h2
    rw [pt1_K cfv_15] at h2
    rw [pt1] at h1
    by_cases g : e = i
    · subst g
      split at h1
      · unfold xpd at h1
        dsimp only at h1
        rw [ug_n (by omega), ug_s] at h1
        exact absurd h1 (by decide)
      · rename_i g
        rw [Bool.and_eq_true, decide_eq_true_eq, decide_eq_true_eq, pt1_K cfv_15, pt1_K cfv_0] at g
        exact g ⟨h1, h2⟩
    · refine pt1_no i e (by omega) ?_ (by rw [pt1_K cfv_15]; exact h2)
      split at h1
      · unfold xpd at h1
        dsimp only at h1
        rw [ug_n (by omega), ug_n (by omega)] at h1
        exact h1
      · exact h1
theorem pt2_no (h : TI S k) (hk6 : k ≤ 6) : ∀ i e, e < i → (pt2 k i S).1 (12 + 43 * e) = nI 1 → (pt2 k i S).1 (15 + 43 * e) + nI 10 ≤ S.1 0 → False
  | 0, _, he => absurd he (by omega)
  | i + 1, e, he => by
    intro h1 h2
    rw [pt2_K cfv_15] at h2
    rw [pt2] at h1
    by_cases g : e = i
    · subst g
      split at h1
      · obtain ⟨ds, p1, p2, p3, p4⟩ := vf_rn (S := mv (pt2 k e S) e (nI 2)) hk6 (pt2_ti h hk6 e).2.1.mv_ k (Nat.le_refl _)
        rw [p2, rn_3 ds _ mv_st] at h1
        exact absurd h1 (by decide)
      · rename_i g
        rw [Bool.and_eq_true, decide_eq_true_eq, decide_eq_true_eq, pt2_K cfv_15, pt2_K cfv_0] at g
        exact g ⟨h1, h2⟩
    · refine pt2_no h hk6 i e (by omega) ?_ (by rw [pt2_K cfv_15]; exact h2)
      split at h1
      · rcases vfm_s (b := i) (e := e) (r := nI 2) (pt2_ti h hk6 i).2.1 hk6 with g2 | g2
        · rw [h1] at g2
          exact absurd g2 (by decide)
        · rw [← g2]
          exact h1
      · exact h1
theorem ptk_ti (h : TI S k) (hk6 : k ≤ 6) : TI (ptk k S) k := by
  unfold ptk
  exact pt2_ti (pt1_ti (h.time hk6) hk6 k) hk6 k
theorem ptk_0 : (ptk k S).1 0 = S.1 0 + nI 1 := by
  unfold ptk
  rw [pt2_K cfv_0, pt1_K cfv_0]
  dsimp only
  rw [ug_s]
theorem ptk_xp (h : TI S k) (hk6 : k ≤ 6) (hx : XP S.1 k tm) (ht : S.1 0 = nI tm) (htm : tm < 1000000) : XP (ptk k S).1 k (tm + 1) := fun e he => by
  obtain ⟨x, x1, x2, x3, x4⟩ := hx e he
  have h1 : TI (ug S.1 0 (S.1 0 + nI 1), S.2) k := h.time hk6
  have t1 : (ug S.1 0 (S.1 0 + nI 1), S.2).1 0 = nI (tm + 1) := by dsimp only; rw [ug_s, ht, nIa]
  have s1 : (ug S.1 0 (S.1 0 + nI 1), S.2).1 (12 + 43 * e) = S.1 (12 + 43 * e) := by dsimp only; rw [ug_n (by omega)]
  have y1 : (ug S.1 0 (S.1 0 + nI 1), S.2).1 (15 + 43 * e) = nI x := by dsimp only; rw [ug_n (by omega)]; exact x1
  unfold ptk
  generalize (ug S.1 0 (S.1 0 + nI 1), S.2) = S1 at h1 t1 s1 y1 ⊢
  have hp1 := pt1_ti h1 hk6 k
  have z1 : (pt1 k S1).1 (15 + 43 * e) = nI x := by rw [pt1_K cfv_15]; exact y1
  have z0 : (pt1 k S1).1 0 = nI (tm + 1) := by rw [pt1_K cfv_0]; exact t1
  have w1 : (pt2 k k (pt1 k S1)).1 (15 + 43 * e) = nI x := by rw [pt2_K cfv_15]; exact z1
  have n1 := pt1_no (S := S1) k e he
  have n2 := pt2_no hp1 hk6 k e he
  rw [z1, t1, nIle (by omega) (by omega)] at n1
  rw [w1, z0, nIa, nIle (by omega) (by omega)] at n2
  refine ⟨x, w1, x2, fun g => ?_, fun g => ?_⟩
  · rcases pt2_s hp1 hk6 k e with a | a
    · rw [g] at a
      exact absurd a (by decide)
    · exact Nat.lt_of_not_le (n1 (by rw [← a]; exact g))
  · refine ⟨?_, ?_⟩
    · rcases pt2_s hp1 hk6 k e with a | a
      · rw [g] at a
        exact absurd a (by decide)
      · rw [g] at a
        rcases pt1_s (S := S1) k e with b | b
        · have := x4 (by rw [← s1, ← b, ← a])
          omega
        · have := b.2.2
          rw [y1, t1, nIle (by omega) (by omega)] at this
          exact this
    · exact Nat.lt_of_not_le (n2 g)
theorem ptn_inv (h : TI S k) (hk6 : k ≤ 6) (hx : XP S.1 k tm) (ht : S.1 0 = nI tm) (htm : tm < 900000) : ∀ i, i ≤ 100 → TI (ptn k i S) k ∧ XP (ptn k i S).1 k (tm + i) ∧ (ptn k i S).1 0 = nI (tm + i)
  | 0, _ => ⟨h, hx, ht⟩
  | i + 1, hi => by
    obtain ⟨a, b, c⟩ := ptn_inv h hk6 hx ht htm i (by omega)
    rw [ptn]
    exact ⟨ptk_ti a hk6, ptk_xp (tm := tm + i) a hk6 b c (show tm + i < 1000000 by omega), by rw [ptk_0, c, nIa]; rfl⟩
theorem r136_l {c : Nat} (hm : RM M) (hk6 : k ≤ 6) (h : TI S k) (hx : XP S.1 k tm) (ht : S.1 0 = nI tm) (htm : tm < 900000) (hc : c ≤ 100) (kk : ∀ J' w, RJ J' (ptn k c S) k → Q (some (.int ((ptn k c S).1 0))) (LK, sr (ai_u I 229 6 w) J', M)) :
    ∀ r i, r + i = c → ∀ J w, RJ J (ptn k i S) k → Ev (d + 11) X0 136 15 [.ref 229, .int (nI c), .int (nI i)] [] (LK, sr (ai_u I 229 6 w) J, M) Q
  | 0, i, hi, J, w, hj => by
    obtain rfl : i = c := by omega
    have k3 := kk J w hj
    have e0 : J 0 = (ptn k i S).1 0 := hj.2.2.1 0 (by omega) (by omega)
    rw [H136_15]
    simp (disch := omega) only [K136, ai_c1i, ai_c1n, ai_c1r, e_al0, e_an0, e_c3, e_const, e_cs3, e_cv1, e_getR, e_goto, e_iald, e_ii2, e_il1, e_il2, e_is2, e_reti, e_z1, Option.toList_some, Option.toList_none, List.cons_append, List.nil_append, List.append_nil, List.length_cons, List.length_nil, Nat.reduceAdd, Nat.reduceLeDiff, Nat.zero_le, true_and, and_true, and_self, true_implies, forall_const, ai_rvs, ai_rv0, ai_b_0, Classical.not_not, not_true_eq_false, false_implies, not_false_eq_true, true_implies, and_true, true_and, if_true, if_false, Bool.false_eq_true, q_229, a_nw, hm.1, nIc, sr_r, e0, Int32.le_refl]
    exact k3
  | r + 1, i, hi, J, w, hj => by
    obtain ⟨a, b, c'⟩ := ptn_inv h hk6 hx ht htm i (by omega)
    rw [H136_15]
    simp (disch := omega) only [K136, ai_c1i, ai_c1n, ai_c1r, e_al0, e_an0, e_c3, e_const, e_cs3, e_cv1, e_getR, e_goto, e_iald, e_ii2, e_il1, e_il2, e_is2, e_reti, e_z1, Option.toList_some, Option.toList_none, List.cons_append, List.nil_append, List.append_nil, List.length_cons, List.length_nil, Nat.reduceAdd, Nat.reduceLeDiff, Nat.zero_le, true_and, and_true, and_self, true_implies, forall_const, ai_rvs, ai_rv0, ai_b_0, Classical.not_not, not_true_eq_false, false_implies, not_false_eq_true, true_implies, and_true, true_and, if_true, if_false, Bool.false_eq_true, q_229, a_nw, nIle]
    refine ⟨fun g => absurd g (by omega), fun _ => ?_⟩
    refine r135 (d := d) hm hj a b c' (by omega) fun J2 w2 hj2 => ?_
    rw [ai_u_add]
    simp (disch := omega) only [K136, ai_c1i, ai_c1n, ai_c1r, e_al0, e_an0, e_c3, e_const, e_cs3, e_cv1, e_getR, e_goto, e_iald, e_ii2, e_il1, e_il2, e_is2, e_reti, e_z1, Option.toList_some, Option.toList_none, List.cons_append, List.nil_append, List.append_nil, List.length_cons, List.length_nil, Nat.reduceAdd, Nat.reduceLeDiff, Nat.zero_le, true_and, and_true, and_self, true_implies, forall_const, ai_rvs, ai_rv0, ai_b_0, Classical.not_not, not_true_eq_false, false_implies, not_false_eq_true, true_implies, and_true, true_and, if_true, if_false, Bool.false_eq_true, q_229, a_nw, nIa]
    exact r136_l hm hk6 h hx ht htm hc kk r (i + 1) (by omega) J2 w2 hj2
theorem ai_u_id {I : Nat → Nat → Int32} {a b : Nat} : ai_u I a b (I a b) = I := by
  funext x y
  unfold ai_u
  split
  · rename_i h; rw [h.1, h.2]
  · rfl
theorem r136 (hm : RM M) (hj : RJ J S k) (h : TI S k) (hx : XP S.1 k tm) (ht : S.1 0 = nI tm) (htm : tm < 900000) {c : Int32} (kk : ∀ J' w, RJ J' (p_tick S c).2 k → Q (some (.int (p_tick S c).1)) (LK, sr (ai_u I 229 6 w) J', M)) : Cl (d + 11) 136 [.ref 229, .int c] (LK, sr I J, M) Q := by
  have hk6 := hj.2.1
  have n10 : (nI 1 = nI 0) = False := eq_false (by decide)
  have k0 := fun h => kk J (I 229 6) h
  rw [ai_u_id] at k0
  unfold p_tick at kk k0
  by_cases g : nI 1 ≤ c ∧ c ≤ nI 100
  · rw [if_pos g, hj.1, nIc (by omega)] at kk
    obtain ⟨c, hc, rfl⟩ := nI_ofr (k := 101) (Int32.le_trans (by decide) g.1) (Int32.lt_of_le_of_lt g.2 (by decide)) (by omega)
    rw [nIc (by omega)] at kk
    simp (disch := omega) only [E136, K136, ai_c1i, ai_c1n, ai_c1r, e_al0, e_an0, e_c3, e_const, e_cs3, e_cv1, e_getR, e_goto, e_iald, e_ii2, e_il1, e_il2, e_is2, e_reti, e_z1, Option.toList_some, Option.toList_none, List.cons_append, List.nil_append, List.append_nil, List.length_cons, List.length_nil, Nat.reduceAdd, Nat.reduceLeDiff, Nat.zero_le, true_and, and_true, and_self, true_implies, forall_const, ai_rvs, ai_rv0, ai_b_0, Classical.not_not, not_true_eq_false, false_implies, not_false_eq_true, true_implies, and_true, true_and, if_true, if_false, Bool.false_eq_true, q_229, a_nw, c97, g, n10]
    have l := r136_l (d := d) (I := I) (Q := Q) hm hk6 h hx ht htm (show c ≤ 100 by omega) kk c 0 (by omega) J (I 229 6) hj
    rw [ai_u_id] at l
    exact l
  · rw [if_neg g] at k0
    simp (disch := omega) only [E136, K136, ai_c1i, ai_c1n, ai_c1r, e_al0, e_an0, e_c3, e_const, e_cs3, e_cv1, e_getR, e_goto, e_iald, e_ii2, e_il1, e_il2, e_is2, e_reti, e_z1, Option.toList_some, Option.toList_none, List.cons_append, List.nil_append, List.append_nil, List.length_cons, List.length_nil, Nat.reduceAdd, Nat.reduceLeDiff, Nat.zero_le, true_and, and_true, and_self, true_implies, forall_const, ai_rvs, ai_rv0, ai_b_0, Classical.not_not, not_true_eq_false, false_implies, not_false_eq_true, true_implies, and_true, true_and, if_true, if_false, Bool.false_eq_true, q_229, a_nw, c97, g]
    exact k0 hj
end RTICK4
