/-! trading the text -/
theorem VB.of {g g' : Nat → Int32} {k : Nat} (h : VB g k) (e1 : g' 1 = g 1) (e : ∀ m, g' (14 + 43 * m) = g (14 + 43 * m)) : VB g' k := ⟨e1.trans h.1, h.2.1, h.2.2.of e⟩
def IV (S : St) (k T : Nat) : Prop := VB S.1 k ∧ OV S.2.1 ∧ S.1 4 = nI T
theorem IV.trd {S : St} {k T m t o : Nat} {c ord : Int32} (h : IV S k T) (ht : t < 6) (ho : o < 4) : IV (tr S m t o c ord) k (T + 1) := by
  obtain ⟨h1, h2, h3⟩ := h
  have cf : ∀ j, cfg m j → (tr S m t o c ord).1 j = S.1 j := fun j hj => by
    obtain ⟨k1, k2, k3, k4⟩ := hj
    obtain ⟨g1, g2, g3, g4⟩ := k4 t o ht ho
    exact tr_K k2 g1 k3 g2 g3 g4
  exact ⟨h1.of (cf 1 cfg_1) fun m' => cf _ cfg_n, h2, by rw [tr_4, h3, nIa]⟩
theorem IV.xod {S : St} {k T m f : Nat} (h : IV S k T) : ∃ T', IV (xo f m S) k T' ∧ T' ≤ T + f := by
  obtain ⟨h1, h2, h3⟩ := h
  obtain ⟨T', t1, t2, t3⟩ := xo_4 (m := m) f S T h3
  exact ⟨T', ⟨h1.of (xo_K cfg_1 f S h2).2 fun m' => (xo_K cfg_n f S h2).2, xo_ov h2, t1⟩, t3⟩
theorem IV.buy {S : St} {k T : Nat} {t x y c : Int32} (h : IV S k T) : ∃ T', IV (p_buy S t x y c).2 k T' ∧ T' ≤ T + 801 := by
  have h0 : ∃ T', IV S k T' ∧ T' ≤ T + 801 := ⟨T, h, by omega⟩
  unfold p_buy
  split
  · rename_i g1
    obtain ⟨t, ht, rfl⟩ := tr_of g1
    split
    · rcases mW_c h.1 x y with ⟨m, n, o, hm, ex, hn, n2, n4, ho, ey, em⟩ | ⟨em, _⟩
      · rw [em]
        dsimp only
        rw [nIc (by omega)]
        split
        · split
          · split
            · exact h0
            · obtain ⟨T', t1, t2⟩ := (h.trd (m := m) (c := c) (ord := -1) ht (by omega : o < 4)).xod (m := m) (f := 800)
              exact ⟨T', t1, by omega⟩
          · exact h0
        · exact h0
      · rw [em]
        exact h0
    · exact h0
  · exact h0
theorem IV.sell {S : St} {k T : Nat} {t x y c : Int32} (h : IV S k T) : ∃ T', IV (p_sell S t x y c).2 k T' ∧ T' ≤ T + 801 := by
  have h0 : ∃ T', IV S k T' ∧ T' ≤ T + 801 := ⟨T, h, by omega⟩
  unfold p_sell
  split
  · rename_i g1
    obtain ⟨t, ht, rfl⟩ := tr_of g1
    split
    · rcases mW_c h.1 x y with ⟨m, n, o, hm, ex, hn, n2, n4, ho, ey, em⟩ | ⟨em, _⟩
      · rw [em]
        dsimp only
        rw [nIc (by omega)]
        split
        · split
          · exact h0
          · obtain ⟨T', t1, t2⟩ := (h.trd (m := m) (c := -c) (ord := -1) ht (by omega : o < 4)).xod (m := m) (f := 800)
            exact ⟨T', t1, by omega⟩
        · exact h0
      · rw [em]
        exact h0
    · exact h0
  · exact h0
theorem rt_le {tx : Nat → Int32} : ∀ (r i : Nat) (st : Int32) (R : Rd), (rt tx r i st R).1 ≤ i + r
  | 0, i, _, _ => Nat.le_refl _
  | r + 1, i, st, R => by
    rw [rt]
    split
    · show i + 1 ≤ _
      omega
    · have := rt_le (tx := tx) r (i + 1) (sA st (tx i)) (nt st (tx i) R)
      omega
/-- one trade of the text -/
def td (S : St) (R : Rd) : Int32 × St := if R.2.1 = nI 0 then p_buy S R.1 R.2.2.2.1 R.2.2.2.2 R.2.2.1 else p_sell S R.1 R.2.2.2.1 R.2.2.2.2 R.2.2.1
def tl (tx : Nat → Int32) (len : Nat) : Nat → Nat → Nat → Rd → St → Nat × St
  | 0, _, dn, _, S => (dn, S)
  | r + 1, nx, dn, R, S => if nx < len then
      (if (-1000000005) ≤ (td S (rt tx (len - nx) nx (nI 0) R).2).1 ∧ (td S (rt tx (len - nx) nx (nI 0) R).2).1 ≤ (-1000000001) then (dn, (td S (rt tx (len - nx) nx (nI 0) R).2).2)
       else tl tx len r (rt tx (len - nx) nx (nI 0) R).1 (dn + 1) (rt tx (len - nx) nx (nI 0) R).2 (td S (rt tx (len - nx) nx (nI 0) R).2).2)
    else (dn, S)
def p_td (S : St) (tx : Nat → Int32) (len : Nat) (R : Rd) : Int32 × St := if eo tx len 0 (nI 0) = -1 then (nI (tl tx len 60 0 0 R S).1, (tl tx len 60 0 0 R S).2) else (-2000 - eo tx len 0 (nI 0), S)
section TRADE2
variable {S S' : St} {s : Bool} {tx : Nat → Int32} {len : Nat} {I : Nat → Nat → Int32} {M : Nat → Nat → Nat} {d k T : Nat} {Q : Option Value → ai_H → Prop}
theorem WD.t {I' : Nat → Nat → Int32} {len' : Nat} (h : WD S S' s tx len I M) (o : ∀ a, a ≠ 227 → I' a = I a) (hl : len' ≤ len) (l : I' 227 1 = nI len') : WD S S' s tx len' I' M := by
  obtain ⟨w1, w2, w3, w4, w5, w6, w7⟩ := h
  refine ⟨w1.fr fun x x1 x2 => ⟨o x (by omega), rfl⟩, w2.fr fun x x1 x2 => ⟨o x (by omega), rfl⟩, w3, ?_, by omega, l, fun i hi => ?_⟩
  · rw [o 0 (by omega)]; exact w4
  · rw [o 228 (by omega)]; exact w7 i (by omega)
theorem td_iv {R : Rd} (h : IV S k T) : ∃ T', IV (td S R).2 k T' ∧ T' ≤ T + 801 := by
  unfold td
  split
  · exact h.buy
  · exact h.sell
theorem c88_l {I0 : Nat → Nat → Int32} {M0 : Nat → Nat → Nat} {R0 : Rd} {S0 : St} (kk : ∀ I' M', (∀ a, 229 ≤ a → I' a = I0 a ∧ M' a = M0 a) → WD (tl tx len 60 0 0 R0 S0).2 S' s tx 0 I' M' → Q (some (.int (nI (tl tx len 60 0 0 R0 S0).1))) (LK, I', M')) :
    ∀ r nx dn S I M T y, r + dn = 60 → nx ≤ len → WD S S' s tx len I M → IV S k T → T + 801 * r < 999970000 → (∀ a, 229 ≤ a → I a = I0 a ∧ M a = M0 a) → tl tx len r nx dn (rdw I) S = tl tx len 60 0 0 R0 S0 → Ev (d + 6) X0 88 30 [.ref 0, .int (-1), .int (nI len), .int (nI nx), .int (nI dn), y] [] (LK, I, M) Q
  | 0, nx, dn, S, I, M, T, y, hr, hn, h, hi, hT, o, he => by
    have h02 : M 0 2 = 227 + 1 := h.2.2.1.2.2.1
    have hl := h.2.2.2.2.1
    rw [← he, tl] at kk
    have k3 := kk (ai_u I 227 1 (nI 0)) M (fun a ha => ⟨by rw [ai_u_other _ _ _ _ (by omega)]; exact (o a ha).1, (o a ha).2⟩) (h.t (fun a ha => ai_u_other _ _ _ _ ha) (by omega) ai_uh)
    obtain rfl : dn = 60 := by omega
    rw [H88_30]
    simp (disch := omega) only [K88_0, K88_1, ai_c1i, ai_c1n, ai_c1r, e_al0, e_an0, e_b1, e_c1, e_c3, e_const, e_cs1, e_cv1, e_cv2, e_cv5, e_getI, e_getR, e_goto, e_ii4, e_il1, e_il2, e_il3, e_il4, e_il5, e_is1, e_is2, e_is3, e_is4, e_is5, e_putI, e_reti, e_z0, Option.toList_some, Option.toList_none, List.cons_append, List.nil_append, List.append_nil, List.length_cons, List.length_nil, Nat.reduceAdd, Nat.reduceLeDiff, Nat.zero_le, true_and, and_true, and_self, true_implies, forall_const, ai_rvs, ai_rv0, ai_b_0, Classical.not_not, not_true_eq_false, false_implies, not_false_eq_true, true_implies, and_true, true_and, if_true, if_false, Bool.false_eq_true, h02, q_0, q_227, BO, true_or, nIle, Int32.le_refl]
    exact ⟨fun _ => k3, fun _ => k3⟩
  | r + 1, nx, dn, S, I, M, T, y, hr, hn, h, hi, hT, o, he => by
    have h02 : M 0 2 = 227 + 1 := h.2.2.1.2.2.1
    have hmt : M 227 0 = 228 + 1 := h.2.2.1.2.2.2
    have hl := h.2.2.2.2.1
    rw [tl] at he
    by_cases hnx : nx < len
    · rw [if_pos hnx] at he
      rw [H88_30]
      simp (disch := omega) only [K88_0, K88_1, ai_c1i, ai_c1n, ai_c1r, e_al0, e_an0, e_b1, e_c1, e_c3, e_const, e_cs1, e_cv1, e_cv2, e_cv5, e_getI, e_getR, e_goto, e_ii4, e_il1, e_il2, e_il3, e_il4, e_il5, e_is1, e_is2, e_is3, e_is4, e_is5, e_putI, e_reti, e_z0, Option.toList_some, Option.toList_none, List.cons_append, List.nil_append, List.append_nil, List.length_cons, List.length_nil, Nat.reduceAdd, Nat.reduceLeDiff, Nat.zero_le, true_and, and_true, and_self, true_implies, forall_const, ai_rvs, ai_rv0, ai_b_0, Classical.not_not, not_true_eq_false, false_implies, not_false_eq_true, true_implies, and_true, true_and, if_true, if_false, Bool.false_eq_true, h02, q_0, q_227, nIle]
      refine ⟨fun g => absurd g (by omega), fun _ => ⟨fun g => absurd g (by omega), fun _ => ?_⟩⟩
      refine c58 hl hn h.2.2.2.2.2.1 hmt h.2.2.2.2.2.2 fun I1 o1 l1 r1 => ?_
      have h1 := h.t o1 (Nat.le_refl _) l1
      have hle := rt_le (tx := tx) (len - nx) nx (nI 0) (rdw I)
      generalize hP : rt tx (len - nx) nx (nI 0) (rdw I) = P at he r1 hle
      obtain ⟨T', t1, t2⟩ := td_iv (R := P.2) hi
      have e2 : I1 227 2 = P.2.1 := by rw [← r1]; rfl
      have e3 : I1 227 3 = P.2.2.1 := by rw [← r1]; rfl
      have e4 : I1 227 4 = P.2.2.2.1 := by rw [← r1]; rfl
      have e5 : I1 227 5 = P.2.2.2.2.1 := by rw [← r1]; rfl
      have e6 : I1 227 6 = P.2.2.2.2.2 := by rw [← r1]; rfl
      have fin : ∀ I2 M2, EX 1 (td S P.2).2 (I1, M) I2 M2 → (∀ a, 229 ≤ a → I2 a = I0 a ∧ M2 a = M0 a) ∧ WD (td S P.2).2 S' s tx len I2 M2 ∧ rdw I2 = P.2 := fun I2 M2 h2 => by
        refine ⟨fun a ha => ?_, h1.step h2, ?_⟩
        · obtain ⟨f1, f2⟩ := h2.1 a (by omega)
          rw [f1, f2]
          dsimp only
          rw [o1 a (by omega)]
          exact o a ha
        · rw [← r1]
          unfold rdw
          rw [(h2.1 227 (by omega)).1]
      have nxt : ∀ I2 M2 y, EX 1 (td S P.2).2 (I1, M) I2 M2 → ((-1000000005) ≤ (td S P.2).1 ∧ (td S P.2).1 ≤ (-1000000001) → Q (some (.int (nI dn))) (LK, ai_u I2 227 1 (nI 0), M2)) ∧ (¬ ((-1000000005) ≤ (td S P.2).1 ∧ (td S P.2).1 ≤ (-1000000001)) → Ev (d + 6) X0 88 30 [.ref 0, .int (-1), .int (nI len), .int (nI P.1), .int (nI (dn + 1)), y] [] (LK, I2, M2) Q) := fun I2 M2 y h2 => by
        obtain ⟨f1, f2, f3⟩ := fin I2 M2 h2
        refine ⟨fun g => ?_, fun g => ?_⟩
        · rw [if_pos g] at he
          rw [← he] at kk
          exact kk _ M2 (fun a ha => ⟨by rw [ai_u_other _ _ _ _ (by omega)]; exact (f1 a ha).1, (f1 a ha).2⟩) (f2.t (fun a ha => ai_u_other _ _ _ _ ha) (by omega) ai_uh)
        · rw [if_neg g] at he
          exact c88_l kk r P.1 (dn + 1) _ I2 M2 T' y (by omega) (by omega) f2 t1 (by omega) f1 (by rw [f3]; exact he)
      by_cases g3 : P.2.2.1 = nI 0
      · simp (disch := omega) only [K88_0, K88_1, ai_c1i, ai_c1n, ai_c1r, e_al0, e_an0, e_b1, e_c1, e_c3, e_const, e_cs1, e_cv1, e_cv2, e_cv5, e_getI, e_getR, e_goto, e_ii4, e_il1, e_il2, e_il3, e_il4, e_il5, e_is1, e_is2, e_is3, e_is4, e_is5, e_putI, e_reti, e_z0, Option.toList_some, Option.toList_none, List.cons_append, List.nil_append, List.append_nil, List.length_cons, List.length_nil, Nat.reduceAdd, Nat.reduceLeDiff, Nat.zero_le, true_and, and_true, and_self, true_implies, forall_const, ai_rvs, ai_rv0, ai_b_0, Classical.not_not, not_true_eq_false, false_implies, not_false_eq_true, true_implies, and_true, true_and, if_true, if_false, Bool.false_eq_true, h02, q_0, q_227, e2, e3, e4, e5, e6, g3]
        have et : td S P.2 = p_buy S P.2.1 P.2.2.2.2.1 P.2.2.2.2.2 P.2.2.2.1 := by unfold td; rw [if_pos g3]
        rw [et] at nxt
        refine c66 h1.1 h1.2.2.1 hi.1 hi.2.2 (by omega) hi.2.1 fun I2 M2 h2 => ?_
        have h02' : M2 0 2 = 227 + 1 := by rw [(h2.1 0 (by omega)).2]; exact h02
        obtain ⟨n1, n2⟩ := nxt I2 M2 (.int (p_buy S P.2.1 P.2.2.2.2.1 P.2.2.2.2.2 P.2.2.2.1).1) h2
        simp (disch := omega) only [K88_0, K88_1, ai_c1i, ai_c1n, ai_c1r, e_al0, e_an0, e_b1, e_c1, e_c3, e_const, e_cs1, e_cv1, e_cv2, e_cv5, e_getI, e_getR, e_goto, e_ii4, e_il1, e_il2, e_il3, e_il4, e_il5, e_is1, e_is2, e_is3, e_is4, e_is5, e_putI, e_reti, e_z0, Option.toList_some, Option.toList_none, List.cons_append, List.nil_append, List.append_nil, List.length_cons, List.length_nil, Nat.reduceAdd, Nat.reduceLeDiff, Nat.zero_le, true_and, and_true, and_self, true_implies, forall_const, ai_rvs, ai_rv0, ai_b_0, Classical.not_not, not_true_eq_false, false_implies, not_false_eq_true, true_implies, and_true, true_and, if_true, if_false, Bool.false_eq_true, h02', q_0, q_227, c93, BO, true_or, nIa]
        exact ⟨n2, n1⟩
      · simp (disch := omega) only [K88_0, K88_1, ai_c1i, ai_c1n, ai_c1r, e_al0, e_an0, e_b1, e_c1, e_c3, e_const, e_cs1, e_cv1, e_cv2, e_cv5, e_getI, e_getR, e_goto, e_ii4, e_il1, e_il2, e_il3, e_il4, e_il5, e_is1, e_is2, e_is3, e_is4, e_is5, e_putI, e_reti, e_z0, Option.toList_some, Option.toList_none, List.cons_append, List.nil_append, List.append_nil, List.length_cons, List.length_nil, Nat.reduceAdd, Nat.reduceLeDiff, Nat.zero_le, true_and, and_true, and_self, true_implies, forall_const, ai_rvs, ai_rv0, ai_b_0, Classical.not_not, not_true_eq_false, false_implies, not_false_eq_true, true_implies, and_true, true_and, if_true, if_false, Bool.false_eq_true, h02, q_0, q_227, e2, e3, e4, e5, e6, g3]
        have et : td S P.2 = p_sell S P.2.1 P.2.2.2.2.1 P.2.2.2.2.2 P.2.2.2.1 := by unfold td; rw [if_neg g3]
        rw [et] at nxt
        refine c68 h1.1 h1.2.2.1 hi.1 hi.2.2 (by omega) hi.2.1 fun I2 M2 h2 => ?_
        have h02' : M2 0 2 = 227 + 1 := by rw [(h2.1 0 (by omega)).2]; exact h02
        obtain ⟨n1, n2⟩ := nxt I2 M2 (.int (p_sell S P.2.1 P.2.2.2.2.1 P.2.2.2.2.2 P.2.2.2.1).1) h2
        simp (disch := omega) only [K88_0, K88_1, ai_c1i, ai_c1n, ai_c1r, e_al0, e_an0, e_b1, e_c1, e_c3, e_const, e_cs1, e_cv1, e_cv2, e_cv5, e_getI, e_getR, e_goto, e_ii4, e_il1, e_il2, e_il3, e_il4, e_il5, e_is1, e_is2, e_is3, e_is4, e_is5, e_putI, e_reti, e_z0, Option.toList_some, Option.toList_none, List.cons_append, List.nil_append, List.append_nil, List.length_cons, List.length_nil, Nat.reduceAdd, Nat.reduceLeDiff, Nat.zero_le, true_and, and_true, and_self, true_implies, forall_const, ai_rvs, ai_rv0, ai_b_0, Classical.not_not, not_true_eq_false, false_implies, not_false_eq_true, true_implies, and_true, true_and, if_true, if_false, Bool.false_eq_true, h02', q_0, q_227, c93, BO, true_or, nIa]
        exact ⟨n2, n1⟩
    · rw [if_neg hnx] at he
      rw [← he] at kk
      have k3 := kk (ai_u I 227 1 (nI 0)) M (fun a ha => ⟨by rw [ai_u_other _ _ _ _ (by omega)]; exact (o a ha).1, (o a ha).2⟩) (h.t (fun a ha => ai_u_other _ _ _ _ ha) (by omega) ai_uh)
      rw [H88_30]
      simp (disch := omega) only [K88_0, K88_1, ai_c1i, ai_c1n, ai_c1r, e_al0, e_an0, e_b1, e_c1, e_c3, e_const, e_cs1, e_cv1, e_cv2, e_cv5, e_getI, e_getR, e_goto, e_ii4, e_il1, e_il2, e_il3, e_il4, e_il5, e_is1, e_is2, e_is3, e_is4, e_is5, e_putI, e_reti, e_z0, Option.toList_some, Option.toList_none, List.cons_append, List.nil_append, List.append_nil, List.length_cons, List.length_nil, Nat.reduceAdd, Nat.reduceLeDiff, Nat.zero_le, true_and, and_true, and_self, true_implies, forall_const, ai_rvs, ai_rv0, ai_b_0, Classical.not_not, not_true_eq_false, false_implies, not_false_eq_true, true_implies, and_true, true_and, if_true, if_false, Bool.false_eq_true, h02, q_0, q_227, BO, true_or, nIle]
      exact ⟨fun _ => k3, fun g => absurd (by omega) g⟩
/-- PredictionMaker.trade -/
theorem c88 (h : WD S S' s tx len I M) (hi : IV S k T) (hT : T < 999900000) (kk : ∀ I' M', (∀ a, 229 ≤ a → I' a = I a ∧ M' a = M a) → WD (p_td S tx len (rdw I)).2 S' s tx 0 I' M' → Q (some (.int (p_td S tx len (rdw I)).1)) (LK, I', M')) : Cl (d + 6) 88 [.ref 0] (LK, I, M) Q := by
  have h02 : M 0 2 = 227 + 1 := h.2.2.1.2.2.1
  have hmt : M 227 0 = 228 + 1 := h.2.2.1.2.2.2
  unfold p_td at kk
  simp (disch := omega) only [E88, K88_0, K88_1, ai_c1i, ai_c1n, ai_c1r, e_al0, e_an0, e_b1, e_c1, e_c3, e_const, e_cs1, e_cv1, e_cv2, e_cv5, e_getI, e_getR, e_goto, e_ii4, e_il1, e_il2, e_il3, e_il4, e_il5, e_is1, e_is2, e_is3, e_is4, e_is5, e_putI, e_reti, e_z0, Option.toList_some, Option.toList_none, List.cons_append, List.nil_append, List.append_nil, List.length_cons, List.length_nil, Nat.reduceAdd, Nat.reduceLeDiff, Nat.zero_le, true_and, and_true, and_self, true_implies, forall_const, ai_rvs, ai_rv0, ai_b_0, Classical.not_not, not_true_eq_false, false_implies, not_false_eq_true, true_implies, and_true, true_and, if_true, if_false, Bool.false_eq_true, h02, q_0, q_227, c56 h.2.2.2.2.1 h.2.2.2.2.2.1 hmt h.2.2.2.2.2.2, h.2.2.2.2.2.1]
  by_cases g : eo tx len 0 (nI 0) = -1
  · rw [if_pos g] at kk
    simp only [g, not_true_eq_false, false_implies, not_false_eq_true, true_implies, and_true, true_and, if_true, if_false, Bool.false_eq_true]
    exact c88_l kk 60 0 0 S I M T _ (by omega) (by omega) h hi (by omega) (fun _ _ => ⟨rfl, rfl⟩) rfl
  · rw [if_neg g] at kk
    simp only [g, not_true_eq_false, false_implies, not_false_eq_true, true_implies, and_true, true_and, if_true, if_false, Bool.false_eq_true]
    have k3 := kk (ai_u I 227 1 (nI 0)) M (fun a ha => ⟨ai_u_other _ _ _ _ (by omega), rfl⟩) (h.t (fun a ha => ai_u_other _ _ _ _ ha) (by omega) ai_uh)
    rw [H88_30]
    simp (disch := omega) only [K88_0, K88_1, ai_c1i, ai_c1n, ai_c1r, e_al0, e_an0, e_b1, e_c1, e_c3, e_const, e_cs1, e_cv1, e_cv2, e_cv5, e_getI, e_getR, e_goto, e_ii4, e_il1, e_il2, e_il3, e_il4, e_il5, e_is1, e_is2, e_is3, e_is4, e_is5, e_putI, e_reti, e_z0, Option.toList_some, Option.toList_none, List.cons_append, List.nil_append, List.append_nil, List.length_cons, List.length_nil, Nat.reduceAdd, Nat.reduceLeDiff, Nat.zero_le, true_and, and_true, and_self, true_implies, forall_const, ai_rvs, ai_rv0, ai_b_0, Classical.not_not, not_true_eq_false, false_implies, not_false_eq_true, true_implies, and_true, true_and, if_true, if_false, Bool.false_eq_true, h02, q_0, q_227, BO, true_or, g, Int32.le_refl]
    exact k3
end TRADE2
