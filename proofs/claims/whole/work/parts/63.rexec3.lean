/-! the reference executes a market's orders -/
def totL (L : List Od) : Nat := (L.map (fun x => x.2.2.2.2.1.toNatClampNeg)).sum
theorem totL_mem {L : List Od} {q l : Nat} {x : Od} (hx : L[q]? = some x) (hl : x.2.2.2.2.1 = nI l) (h1 : 1 ≤ l) (h50 : l ≤ 50) : totL (xl L q x) + 1 = totL L := by
  have e1 := (pm_er hx).map (fun x : Od => x.2.2.2.2.1.toNatClampNeg)
  have e2 := e1.sum_nat
  rw [List.map_cons, List.sum_cons, hl, nIc (by omega)] at e2
  unfold totL
  rw [xl_def, hl, pk_sub h1]
  split
  · rename_i g
    have := (nIeq (by omega) (by omega)).mp g
    omega
  · have e3 := ((pm_st (y := lv x (nI (l - 1))) hx).map (fun x : Od => x.2.2.2.2.1.toNatClampNeg)).sum_nat
    rw [List.map_cons, List.sum_cons] at e3
    have e4 : (lv x (nI (l - 1))).2.2.2.2.1.toNatClampNeg = l - 1 := nIc (by omega)
    rw [e4] at e3
    omega
section REXEC3
variable {I : Nat → Nat → Int32} {M : Nat → Nat → Nat} {m k : Nat} {d : Nat} {Q : Option Value → ai_H → Prop}
theorem r126_l (hm : RM M) (hmk : m < k) : ∀ (f : Nat) (S : St) (J : Nat → Int32) (T : Nat) (u v : Value), EV S k → SRT S.2.1 → RJ J S k → S.1 4 = nI T → T + f < 999999999 → totL S.2.1 ≤ f → (∀ J', RJ J' (xo f m S) k → Q none (LK, sr I J', M)) → Ev (d + 8) X0 126 2 [.ref 229, .int (nI m), .int (nI 1), u, v] [] (LK, sr I J, M) Q := by
  intro f
  induction f with
  | zero =>
    intro S J T u v hev hs hj hT hb ht kk
    obtain ⟨j1, j2, j3, ⟨l16, os, o1, o2, o3⟩, j5⟩ := id hj
    have hro : RO J S.2.1 os := ⟨l16, o1, o2, o3⟩
    have n10 : (nI 1 = nI 0) = False := eq_false (by decide)
    have z00 : ((-1 : Int32) < nI 0) = True := eq_true (by decide)
    rw [H126_2]
    simp (disch := omega) only [K126_0, K126_1, ai_c1i, ai_c1n, ai_c1r, e_al0, e_an0, e_b0, e_b1, e_c1, e_c3, e_const, e_cs1, e_cv2, e_cv3, e_cv6, e_dup2, e_getR, e_goto, e_iald, e_iast, e_ii4, e_il1, e_il2, e_il3, e_il4, e_is2, e_is3, e_is4, e_popi, e_popr, e_ret, e_z0, e_z1, e_z2, Option.toList_some, Option.toList_none, List.cons_append, List.nil_append, List.append_nil, List.length_cons, List.length_nil, Nat.reduceAdd, Nat.reduceLeDiff, Nat.zero_le, true_and, and_true, and_self, true_implies, forall_const, ai_rvs, ai_rv0, ai_b_0, Classical.not_not, not_true_eq_false, false_implies, not_false_eq_true, true_implies, and_true, true_and, if_true, if_false, Bool.false_eq_true, n10]
    refine r126_in hm hro hmk hj hev (fun v hv => ?_) os.length 0 (-1) (by omega) (Or.inl ⟨rfl, fun j y hj => by omega⟩)
    rcases hv with ⟨rfl, hno⟩ | ⟨p, x, hp, rfl, hx, fx, hall⟩
    · have k3 := kk J hj
      simp (disch := omega) only [K126_0, K126_1, ai_c1i, ai_c1n, ai_c1r, e_al0, e_an0, e_b0, e_b1, e_c1, e_c3, e_const, e_cs1, e_cv2, e_cv3, e_cv6, e_dup2, e_getR, e_goto, e_iald, e_iast, e_ii4, e_il1, e_il2, e_il3, e_il4, e_is2, e_is3, e_is4, e_popi, e_popr, e_ret, e_z0, e_z1, e_z2, Option.toList_some, Option.toList_none, List.cons_append, List.nil_append, List.append_nil, List.length_cons, List.length_nil, Nat.reduceAdd, Nat.reduceLeDiff, Nat.zero_le, true_and, and_true, and_self, true_implies, forall_const, ai_rvs, ai_rv0, ai_b_0, Classical.not_not, not_true_eq_false, false_implies, not_false_eq_true, true_implies, and_true, true_and, if_true, if_false, Bool.false_eq_true, z00]
      rw [H126_2]
      simp (disch := omega) only [K126_0, K126_1, ai_c1i, ai_c1n, ai_c1r, e_al0, e_an0, e_b0, e_b1, e_c1, e_c3, e_const, e_cs1, e_cv2, e_cv3, e_cv6, e_dup2, e_getR, e_goto, e_iald, e_iast, e_ii4, e_il1, e_il2, e_il3, e_il4, e_is2, e_is3, e_is4, e_popi, e_popr, e_ret, e_z0, e_z1, e_z2, Option.toList_some, Option.toList_none, List.cons_append, List.nil_append, List.append_nil, List.length_cons, List.length_nil, Nat.reduceAdd, Nat.reduceLeDiff, Nat.zero_le, true_and, and_true, and_self, true_implies, forall_const, ai_rvs, ai_rv0, ai_b_0, Classical.not_not, not_true_eq_false, false_implies, not_false_eq_true, true_implies, and_true, true_and, if_true, if_false, Bool.false_eq_true]
      exact k3
    · exfalso
      obtain ⟨q, hq8, hq⟩ := List.mem_iff_getElem.mp (hro.mem hx)
      obtain ⟨N, l, li, hN, eN, l1', l50, el, hl1, hl2, eli⟩ := hev.2.2.2 x (hro.mem hx)
      have := totL_mem (q := q) (by rw [List.getElem?_eq_getElem hq8, hq]) el l1' l50
      omega
  | succ f ih =>
    intro S J T u v hev hs hj hT hb ht kk
    obtain ⟨j1, j2, j3, ⟨l16, os, o1, o2, o3⟩, j5⟩ := id hj
    have hro : RO J S.2.1 os := ⟨l16, o1, o2, o3⟩
    obtain ⟨l1, l2⟩ := hro.len
    have n10 : (nI 1 = nI 0) = False := eq_false (by decide)
    have z00 : ((-1 : Int32) < nI 0) = True := eq_true (by decide)
    rw [H126_2]
    simp (disch := omega) only [K126_0, K126_1, ai_c1i, ai_c1n, ai_c1r, e_al0, e_an0, e_b0, e_b1, e_c1, e_c3, e_const, e_cs1, e_cv2, e_cv3, e_cv6, e_dup2, e_getR, e_goto, e_iald, e_iast, e_ii4, e_il1, e_il2, e_il3, e_il4, e_is2, e_is3, e_is4, e_popi, e_popr, e_ret, e_z0, e_z1, e_z2, Option.toList_some, Option.toList_none, List.cons_append, List.nil_append, List.append_nil, List.length_cons, List.length_nil, Nat.reduceAdd, Nat.reduceLeDiff, Nat.zero_le, true_and, and_true, and_self, true_implies, forall_const, ai_rvs, ai_rv0, ai_b_0, Classical.not_not, not_true_eq_false, false_implies, not_false_eq_true, true_implies, and_true, true_and, if_true, if_false, Bool.false_eq_true, n10]
    refine r126_in hm hro hmk hj hev (fun v hv => ?_) os.length 0 (-1) (by omega) (Or.inl ⟨rfl, fun j y hj => by omega⟩)
    rcases hv with ⟨rfl, hno⟩ | ⟨p, x, hp, rfl, hx, fx, hall⟩
    · have hnone : S.2.1.findIdx? (xq S.1 m) = none := List.findIdx?_eq_none_iff.mpr fun y hy => by
        obtain ⟨j, hj8, e⟩ := List.mem_iff_getElem.mp (o1.mem_iff.mpr hy)
        exact hno j y hj8 (by rw [List.getElem?_eq_getElem hj8, e])
      rw [xo, hnone] at kk
      have k3 := kk J hj
      simp (disch := omega) only [K126_0, K126_1, ai_c1i, ai_c1n, ai_c1r, e_al0, e_an0, e_b0, e_b1, e_c1, e_c3, e_const, e_cs1, e_cv2, e_cv3, e_cv6, e_dup2, e_getR, e_goto, e_iald, e_iast, e_ii4, e_il1, e_il2, e_il3, e_il4, e_is2, e_is3, e_is4, e_popi, e_popr, e_ret, e_z0, e_z1, e_z2, Option.toList_some, Option.toList_none, List.cons_append, List.nil_append, List.append_nil, List.length_cons, List.length_nil, Nat.reduceAdd, Nat.reduceLeDiff, Nat.zero_le, true_and, and_true, and_self, true_implies, forall_const, ai_rvs, ai_rv0, ai_b_0, Classical.not_not, not_true_eq_false, false_implies, not_false_eq_true, true_implies, and_true, true_and, if_true, if_false, Bool.false_eq_true, z00]
      rw [H126_2]
      simp (disch := omega) only [K126_0, K126_1, ai_c1i, ai_c1n, ai_c1r, e_al0, e_an0, e_b0, e_b1, e_c1, e_c3, e_const, e_cs1, e_cv2, e_cv3, e_cv6, e_dup2, e_getR, e_goto, e_iald, e_iast, e_ii4, e_il1, e_il2, e_il3, e_il4, e_is2, e_is3, e_is4, e_popi, e_popr, e_ret, e_z0, e_z1, e_z2, Option.toList_some, Option.toList_none, List.cons_append, List.nil_append, List.append_nil, List.length_cons, List.length_nil, Nat.reduceAdd, Nat.reduceLeDiff, Nat.zero_le, true_and, and_true, and_self, true_implies, forall_const, ai_rvs, ai_rv0, ai_b_0, Classical.not_not, not_true_eq_false, false_implies, not_false_eq_true, true_implies, and_true, true_and, if_true, if_false, Bool.false_eq_true]
      exact k3
    · obtain ⟨q, hq, hxq⟩ := pick hs (hro.mem hx) fx (fun y hy fy hne => by
        obtain ⟨j, hj8, e⟩ := List.mem_iff_getElem.mp (o1.mem_iff.mpr hy)
        refine hall j y hj8 (by rw [List.getElem?_eq_getElem hj8, e]) fy fun e2 => ?_
        subst e2
        rw [List.getElem?_eq_getElem hj8, e] at hx
        exact hne (Option.some.inj hx))
      rw [xo, hq] at kk
      dsimp only at kk
      rw [hxq] at kk
      have ng : (nI p < nI 0) = False := eq_false (by rw [nIlt (by omega) (by omega)]; omega)
      obtain ⟨f0, f1, f2, f3, f4, f5⟩ := hro.f hx
      simp (disch := omega) only [K126_0, K126_1, ai_c1i, ai_c1n, ai_c1r, e_al0, e_an0, e_b0, e_b1, e_c1, e_c3, e_const, e_cs1, e_cv2, e_cv3, e_cv6, e_dup2, e_getR, e_goto, e_iald, e_iast, e_ii4, e_il1, e_il2, e_il3, e_il4, e_is2, e_is3, e_is4, e_popi, e_popr, e_ret, e_z0, e_z1, e_z2, Option.toList_some, Option.toList_none, List.cons_append, List.nil_append, List.append_nil, List.length_cons, List.length_nil, Nat.reduceAdd, Nat.reduceLeDiff, Nat.zero_le, true_and, and_true, and_self, true_implies, forall_const, ai_rvs, ai_rv0, ai_b_0, Classical.not_not, not_true_eq_false, false_implies, not_false_eq_true, true_implies, and_true, true_and, if_true, if_false, Bool.false_eq_true, q_229, a_nw, ng, n10, hm.1, c99, nIm, nIa, nIc, sr_r, f0, f1, f3]
      dsimp only at kk
      obtain ⟨v1, v2, v3, v4⟩ := id hev
      obtain ⟨m', n', o, t, hm', em', en', n4', ho, eo, ht', et⟩ := v3 x (hro.mem hx)
      obtain ⟨n, b, s, h1, n2, n4, h2, b1, b2, h3⟩ := v1 m hmk
      have fq := fx
      unfold xq at fq
      rw [Bool.and_eq_true, decide_eq_true_eq, decide_eq_true_eq, eo, nIc (by omega)] at fq
      obtain rfl := (nIeq (by omega) (by omega)).mp (fq.1.symm.trans em')
      obtain rfl := (nIeq (by omega) (by omega)).mp (h1.symm.trans en')
      obtain ⟨g1, g2⟩ := h3 o ho
      have hr : RK J m n b s := RK.of hmk j2 j3 h1 n4 h2 b2 h3
      have hsx : J (21 + 43 * m + o) + nI 1 = nI (s o + 1) := by rw [j3 _ (by omega) (by omega), g1, nIa]
      obtain ⟨N, l, li, hN, eN, l1', l50, el, hl1, hl2, eli⟩ := v4 x (hro.mem hx)
      have htot := totL_mem hxq el l1' l50
      rw [et, eo]
      refine r117 hm hj hmk hT (by omega) hr (by omega) b1 ht' ho hsx (by omega) fun J' hc hj' => ?_
      have exs : xs1 S m q x = (ug (tr S m t o (nI 1) x.1).1 3 (nI (xl S.2.1 q x).length), xl S.2.1 q x, (tr S m t o (nI 1) x.1).2.2) := by
        unfold xs1
        rw [et, eo, nIc (by omega), nIc (by omega)]
      have hro' : RO J' S.2.1 os := ⟨l16, o1, o2, fun i y hi j hj => by
        have := (List.getElem?_eq_some_iff.mp hi).1
        rw [hc _ (by omega) (by omega)]
        exact o3 i y hi j hj⟩
      have e4 := (hro'.f hx).2.2.2.2.1
      have l3 : (tr S m t o (nI 1) x.1).1 3 = nI S.2.1.length := by rw [tr_K (by omega) (by omega) (by omega) (by omega) (by omega) (by omega)]; exact v2
      have hev' := xs1_ev hev hmk j2 hxq fx
      have hs' : SRT (xs1 S m q x).2.1 := hs.exl hxq
      have hT' : (xs1 S m q x).1 4 = nI (T + 1) := by rw [xs1_4, hT, nIa]
      have nxt := fun J' hj' u v => ih (xs1 S m q x) J' (T + 1) u v hev' hs' hj' hT' (by omega) (by rw [xs1_L]; omega) kk
      have hsu : RO (ug J' (270 + 6 * p + 4) (x.2.2.2.2.1 - nI 1)) (S.2.1.set q (lv x (x.2.2.2.2.1 - nI 1))) (os.set p (lv x (x.2.2.2.2.1 - nI 1))) := by
        refine ⟨by rw [List.length_set]; exact l16, perm_st o1 hx hxq, ?_, fun i y hi j hj => ?_⟩
        · rw [List.pairwise_iff_getElem] at o2 ⊢
          intro i j hi hj hij
          rw [List.length_set] at hi hj
          have h0 := o2 i j hi hj hij
          obtain ⟨p8, ep⟩ := List.getElem?_eq_some_iff.mp hx
          by_cases e1 : i = p
          · subst e1
            rw [List.getElem_set_self, List.getElem_set_ne (by omega)]
            rw [ep] at h0
            exact h0
          · by_cases e2 : j = p
            · subst e2
              rw [List.getElem_set_ne (by omega), List.getElem_set_self]
              rw [ep] at h0
              exact h0
            · rw [List.getElem_set_ne (by omega), List.getElem_set_ne (by omega)]
              exact h0
        · by_cases e1 : i = p
          · subst e1
            rw [List.getElem?_set_self (by omega)] at hi
            cases hi
            by_cases e2 : j = 4
            · subst e2
              rw [ug_s]
              rfl
            · rw [ug_n (by omega), hro'.2.2.2 i x hx j hj]
              unfold o_f lv
              rcases (by omega : j = 0 ∨ j = 1 ∨ j = 2 ∨ j = 3 ∨ j = 5) with rfl | rfl | rfl | rfl | rfl <;> rfl
          · rw [List.getElem?_set_ne (by omega)] at hi
            rw [ug_n (by omega)]
            exact hro'.2.2.2 i y hi j hj
      obtain ⟨r1, r2, r3, r4, T9, r5, r6, r7, r8⟩ := id hj'
      simp (disch := omega) only [K126_0, K126_1, ai_c1i, ai_c1n, ai_c1r, e_al0, e_an0, e_b0, e_b1, e_c1, e_c3, e_const, e_cs1, e_cv2, e_cv3, e_cv6, e_dup2, e_getR, e_goto, e_iald, e_iast, e_ii4, e_il1, e_il2, e_il3, e_il4, e_is2, e_is3, e_is4, e_popi, e_popr, e_ret, e_z0, e_z1, e_z2, Option.toList_some, Option.toList_none, List.cons_append, List.nil_append, List.append_nil, List.length_cons, List.length_nil, Nat.reduceAdd, Nat.reduceLeDiff, Nat.zero_le, true_and, and_true, and_self, true_implies, forall_const, ai_rvs, ai_rv0, ai_b_0, Classical.not_not, not_true_eq_false, false_implies, not_false_eq_true, true_implies, and_true, true_and, if_true, if_false, Bool.false_eq_true, q_229, a_nw, hm.1, c99, nIm, nIa, nIc, sr_r, sr_u, e4, ug_s]
      refine ⟨fun g => nxt _ ?_ _ _, fun g => ?_⟩
      · have exl : xl S.2.1 q x = S.2.1.set q (lv x (x.2.2.2.2.1 - nI 1)) := by rw [xl_def, if_neg g]
        rw [exs, exl, List.length_set, ← l3, ug_id]
        refine ⟨r1, r2, fun j hj h5 => by rw [ug_n (by omega)]; exact r3 j hj h5, ⟨hsu.1, _, hsu.2.1, hsu.2.2.1, hsu.2.2.2⟩, T9, r5, r6, by rw [ug_n (by omega)]; exact r7, fun i y h1 h2 h3 => by rw [ug_n (by omega)]; exact r8 i y h1 h2 h3⟩
      · have exl : xl S.2.1 q x = S.2.1.eraseIdx q := by rw [xl_def, if_pos g]
        have lens : (S.2.1.set q (lv x (x.2.2.2.2.1 - nI 1))).length = S.2.1.length := List.length_set
        have q8 : q < S.2.1.length := (List.getElem?_eq_some_iff.mp hxq).1
        refine r125 hm hsu (by rw [ug_n (by omega), lens, r3 3 (by omega) (by omega)]; exact l3) (by rw [List.length_set]; exact (List.getElem?_eq_some_iff.mp hx).1) fun J2 a1 a2 a3 => ?_
        simp (disch := omega) only [K126_0, K126_1, ai_c1i, ai_c1n, ai_c1r, e_al0, e_an0, e_b0, e_b1, e_c1, e_c3, e_const, e_cs1, e_cv2, e_cv3, e_cv6, e_dup2, e_getR, e_goto, e_iald, e_iast, e_ii4, e_il1, e_il2, e_il3, e_il4, e_is2, e_is3, e_is4, e_popi, e_popr, e_ret, e_z0, e_z1, e_z2, Option.toList_some, Option.toList_none, List.cons_append, List.nil_append, List.append_nil, List.length_cons, List.length_nil, Nat.reduceAdd, Nat.reduceLeDiff, Nat.zero_le, true_and, and_true, and_self, true_implies, forall_const, ai_rvs, ai_rv0, ai_b_0, Classical.not_not, not_true_eq_false, false_implies, not_false_eq_true, true_implies, and_true, true_and, if_true, if_false, Bool.false_eq_true]
        refine nxt _ ?_ _ _
        rw [lens] at a2
        rw [erase_set] at a3
        have le : (S.2.1.eraseIdx q).length = S.2.1.length - 1 := List.length_eraseIdx_of_lt q8
        rw [exs, exl, le]
        refine ⟨by dsimp only; rw [ug_n (by omega)]; exact r1, r2, fun j hj h5 => ?_, ⟨by rw [le]; omega, os.eraseIdx p, perm_er o1 hx hxq, List.Pairwise.sublist (List.eraseIdx_sublist os p) o2, a3⟩, T9, by dsimp only; rw [ug_n (by omega)]; exact r5, r6, ?_, fun i y h1 h2 h3 => ?_⟩
        · dsimp only
          by_cases e3 : j = 3
          · subst e3
            rw [ug_s, a2]
          · rw [ug_n e3, a1 j (by omega) e3, ug_n (by omega)]
            exact r3 j hj h5
        · rw [a1 5 (by omega) (by omega), ug_n (by omega)]
          exact r7
        · rw [a1 _ (by omega) (by omega), ug_n (by omega)]
          exact r8 i y h1 h2 h3
/-- the reference's executes -/
theorem r126 {S : St} {J : Nat → Int32} {T : Nat} (hm : RM M) (hmk : m < k) (hev : EV S k) (hs : SRT S.2.1) (hj : RJ J S k) (hT : S.1 4 = nI T) (hb : T < 999990000) (ht : totL S.2.1 ≤ 800) (kk : ∀ J', RJ J' (xo 800 m S) k → Q none (LK, sr I J', M)) : Cl (d + 8) 126 [.ref 229, .int (nI m)] (LK, sr I J, M) Q := by
  simp (disch := omega) only [E126, K126_0, K126_1, ai_c1i, ai_c1n, ai_c1r, e_al0, e_an0, e_b0, e_b1, e_c1, e_c3, e_const, e_cs1, e_cv2, e_cv3, e_cv6, e_dup2, e_getR, e_goto, e_iald, e_iast, e_ii4, e_il1, e_il2, e_il3, e_il4, e_is2, e_is3, e_is4, e_popi, e_popr, e_ret, e_z0, e_z1, e_z2, Option.toList_some, Option.toList_none, List.cons_append, List.nil_append, List.append_nil, List.length_cons, List.length_nil, Nat.reduceAdd, Nat.reduceLeDiff, Nat.zero_le, true_and, and_true, and_self, true_implies, forall_const, ai_rvs, ai_rv0, ai_b_0, Classical.not_not, not_true_eq_false, false_implies, not_false_eq_true, true_implies, and_true, true_and, if_true, if_false, Bool.false_eq_true]
  exact r126_l hm hmk 800 S J T _ _ hev hs hj hT (by omega) ht kk
end REXEC3
