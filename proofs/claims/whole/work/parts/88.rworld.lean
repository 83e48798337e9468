/-! the reference's world: text, snapshots -/
/-- all that the reference holds -/
def RW (S : St) (k : Nat) (S' : St) (k' : Nat) (s : Bool) (tx : Nat → Int32) (len : Nat) (I : Nat → Nat → Int32) (M : Nat → Nat → Nat) : Prop :=
  RM M ∧ RJ (I 230) S k ∧ (s = true → RJ (I 231) S' k') ∧ I 229 2 = (if s then nI 1 else nI 0) ∧ len ≤ 60 ∧ I 229 4 = nI len ∧ ∀ i, i < len → I 232 i = tx i
theorem RJ.cong {J J' : Nat → Int32} {S : St} {k : Nat} (h : RJ J S k) (e : ∀ j, j < 546 → J' j = J j) : RJ J' S k := by
  obtain ⟨r1, r2, r3, ⟨l1, os, o1, o2, o3⟩, T, t1, t2, t3, t4⟩ := h
  refine ⟨r1, r2, fun j hj h5 => by rw [e j (by omega)]; exact r3 j hj h5, ⟨l1, os, o1, o2, fun i o hi j hj => ?_⟩, T, t1, t2, by rw [e 5 (by omega)]; exact t3, fun i p hi hiT hp => by rw [e _ (by omega)]; exact t4 i p hi hiT hp⟩
  have h8 : i < os.length := (List.getElem?_eq_some_iff.mp hi).1
  have h9 := o1.length_eq
  rw [e _ (by omega)]
  exact o3 i o hi j hj
section RWORLD
variable {S S' : St} {k k' : Nat} {s : Bool} {tx : Nat → Int32} {len : Nat} {I : Nat → Nat → Int32} {M : Nat → Nat → Nat} {d : Nat} {Q : Option Value → ai_H → Prop}
theorem RW.fr {I' : Nat → Nat → Int32} {M' : Nat → Nat → Nat} (h : RW S k S' k' s tx len I M) (e : ∀ a, 229 ≤ a → I' a = I a ∧ M' a = M a) : RW S k S' k' s tx len I' M' := by
  obtain ⟨⟨a1, a2, a3⟩, b, c, d, e1, f, g⟩ := h
  refine ⟨⟨by rw [(e 229 (by omega)).2]; exact a1, by rw [(e 229 (by omega)).2]; exact a2, by rw [(e 229 (by omega)).2]; exact a3⟩, by rw [(e 230 (by omega)).1]; exact b, by rw [(e 231 (by omega)).1]; exact c, by rw [(e 229 (by omega)).1]; exact d, e1, by rw [(e 229 (by omega)).1]; exact f, by rw [(e 232 (by omega)).1]; exact g⟩
theorem RW.j {T : St} {k2 : Nat} {J' : Nat → Int32} (h : RW S k S' k' s tx len I M) (hj : RJ J' T k2) : RW T k2 S' k' s tx len (sr I J') M := by
  obtain ⟨a, b, c, d, e1, f, g⟩ := h
  exact ⟨a, hj, by rw [sr_o (by omega)]; exact c, by rw [sr_o (by omega)]; exact d, e1, by rw [sr_o (by omega)]; exact f, by rw [sr_o (by omega)]; exact g⟩
theorem RW.v {j : Nat} {w : Int32} (h : RW S k S' k' s tx len I M) (hj : j = 5 ∨ j = 6) : RW S k S' k' s tx len (ai_u I 229 j w) M := by
  obtain ⟨a, b, c, d, e1, f, g⟩ := h
  refine ⟨a, ?_, ?_, by rw [ai_uo (by omega)]; exact d, e1, by rw [ai_uo (by omega)]; exact f, fun i hi => by rw [ai_uo (by omega)]; exact g i hi⟩
  · rw [ai_u_other _ _ _ _ (by omega)]; exact b
  · rw [ai_u_other _ _ _ _ (by omega)]; exact c
theorem r152_l {I0 : Nat → Nat → Int32} {a b : Nat} (hlb : len + b ≤ 60) (hm : RM M) (kk : ∀ I', (∀ x, x ≠ 229 → x ≠ 232 → I' x = I0 x) → (∀ j, j ≠ 4 → I' 229 j = I0 229 j) → I' 229 4 = nI (len + b) → (∀ j, j < len + b → I' 232 j = tx_a tx len (nI a) j) → Q (some (.int (nI (len + b)))) (LK, I', M)) :
    ∀ r i I, r + i = b → (∀ x, x ≠ 229 → x ≠ 232 → I x = I0 x) → (∀ j, j ≠ 4 → I 229 j = I0 229 j) → I 229 4 = nI (len + i) → (∀ j, j < len + i → I 232 j = tx_a tx len (nI a) j) → Ev d X0 152 39 [.ref 229, .int (nI a), .int (nI b), .int (nI i)] [] (LK, I, M) Q
  | 0, i, I, hi, o, o2, h1, h2 => by
    obtain rfl : i = b := by omega
    have k3 := kk I o o2 h1 h2
    rw [H152_39]
    simp (disch := omega) only [K152, ai_c1i, ai_c1n, ai_c1r, e_al0, e_an0, e_b0, e_c3, e_c5, e_const, e_cs3, e_dupi, e_dupr, e_dx1, e_getI, e_getR, e_goto, e_iast, e_ii3, e_il1, e_il2, e_il3, e_is3, e_putI, e_reti, e_z0, e_z1, Option.toList_some, Option.toList_none, List.cons_append, List.nil_append, List.append_nil, List.length_cons, List.length_nil, Nat.reduceAdd, Nat.reduceLeDiff, Nat.zero_le, true_and, and_true, and_self, true_implies, forall_const, ai_rvs, ai_rv0, ai_b_0, Classical.not_not, not_true_eq_false, false_implies, not_false_eq_true, true_implies, and_true, true_and, if_true, if_false, Bool.false_eq_true, q_229, a_nw, h1, Int32.le_refl]
    exact k3
  | r + 1, i, I, hi, o, o2, h1, h2 => by
    rw [H152_39]
    simp (disch := omega) only [K152, ai_c1i, ai_c1n, ai_c1r, e_al0, e_an0, e_b0, e_c3, e_c5, e_const, e_cs3, e_dupi, e_dupr, e_dx1, e_getI, e_getR, e_goto, e_iast, e_ii3, e_il1, e_il2, e_il3, e_is3, e_putI, e_reti, e_z0, e_z1, Option.toList_some, Option.toList_none, List.cons_append, List.nil_append, List.append_nil, List.length_cons, List.length_nil, Nat.reduceAdd, Nat.reduceLeDiff, Nat.zero_le, true_and, and_true, and_self, true_implies, forall_const, ai_rvs, ai_rv0, ai_b_0, Classical.not_not, not_true_eq_false, false_implies, not_false_eq_true, true_implies, and_true, true_and, if_true, if_false, Bool.false_eq_true, q_229, a_nw, h1, nIle, hm.2.2, a_rt, nIc, BO, true_or, ai_uo, nIa]
    refine ⟨fun g => absurd g (by omega), fun _ => ?_⟩
    refine r152_l hlb hm kk r (i + 1) _ (by omega) (fun x x1 x2 => ?_) (fun j hj => ?_) ?_ (fun j hj => ?_)
    · rw [ai_u_other _ _ _ _ x2, ai_u_other _ _ _ _ x1]
      exact o x x1 x2
    · rw [ai_uo (by omega), ai_uo (by omega)]
      exact o2 j hj
    · rw [ai_uo (by omega), ai_uh]; rfl
    · by_cases hji : j = len + i
      · subst hji
        rw [ai_uh]
        unfold tx_a
        rw [if_neg (by omega)]
      · rw [ai_uo (by omega), ai_uo (by omega)]
        exact h2 j (by omega)
theorem r152 (h : RW S k S' k' s tx len I M) {c x : Int32} (k1 : ¬ ((nI 0 ≤ c ∧ c ≤ nI 127) ∧ nI 1 ≤ x ∧ x ≤ nI 60) → Q (some (.int (-1000000002))) (LK, I, M)) (k2 : ∀ a b, c = nI a → a < 128 → x = nI b → 1 ≤ b → b ≤ 60 → 60 < len + b → Q (some (.int (-1000000003))) (LK, I, M))
    (k3 : ∀ a b, c = nI a → a < 128 → x = nI b → 1 ≤ b → b ≤ 60 → len + b ≤ 60 → ∀ I', (∀ x, x < 229 → I' x = I x) → RW S k S' k' s (tx_a tx len (nI a)) (len + b) I' M → Q (some (.int (nI (len + b)))) (LK, I', M)) : Cl (d + 1) 152 [.ref 229, .int c, .int x] (LK, I, M) Q := by
  obtain ⟨w1, w2, w3, w4, w5, w6, w7⟩ := h
  have n10 : (nI 1 = nI 0) = False := eq_false (by decide)
  by_cases g1 : nI 0 ≤ c ∧ c ≤ nI 127
  · by_cases g2 : nI 1 ≤ x ∧ x ≤ nI 60
    · obtain ⟨a, ha, rfl⟩ := nI_ofr (k := 128) g1.1 (Int32.lt_of_le_of_lt g1.2 (by decide)) (by omega)
      obtain ⟨b, hb, rfl⟩ := nI_ofr (k := 61) (Int32.le_trans (by decide) g2.1) (Int32.lt_of_le_of_lt g2.2 (by decide)) (by omega)
      have hb1 : 1 ≤ b := (nIle (by omega) (by omega)).mp g2.1
      have k2' := k2 a b rfl ha rfl hb1 (by omega)
      have k3' := k3 a b rfl ha rfl hb1 (by omega)
      by_cases g3 : 60 < len + b
      · have k4 := k2' g3
        have g4 : ¬ len + b ≤ 60 := by omega
        simp (disch := omega) only [E152, K152, ai_c1i, ai_c1n, ai_c1r, e_al0, e_an0, e_b0, e_c3, e_c5, e_const, e_cs3, e_dupi, e_dupr, e_dx1, e_getI, e_getR, e_goto, e_iast, e_ii3, e_il1, e_il2, e_il3, e_is3, e_putI, e_reti, e_z0, e_z1, Option.toList_some, Option.toList_none, List.cons_append, List.nil_append, List.append_nil, List.length_cons, List.length_nil, Nat.reduceAdd, Nat.reduceLeDiff, Nat.zero_le, true_and, and_true, and_self, true_implies, forall_const, ai_rvs, ai_rv0, ai_b_0, Classical.not_not, not_true_eq_false, false_implies, not_false_eq_true, true_implies, and_true, true_and, if_true, if_false, Bool.false_eq_true, q_229, a_nw, c97, g1, g2, n10, w6, nIa, nIle, g4]
        exact k4
      · have k4 := k3' (by omega)
        have g4 : len + b ≤ 60 := by omega
        simp (disch := omega) only [E152, K152, ai_c1i, ai_c1n, ai_c1r, e_al0, e_an0, e_b0, e_c3, e_c5, e_const, e_cs3, e_dupi, e_dupr, e_dx1, e_getI, e_getR, e_goto, e_iast, e_ii3, e_il1, e_il2, e_il3, e_is3, e_putI, e_reti, e_z0, e_z1, Option.toList_some, Option.toList_none, List.cons_append, List.nil_append, List.append_nil, List.length_cons, List.length_nil, Nat.reduceAdd, Nat.reduceLeDiff, Nat.zero_le, true_and, and_true, and_self, true_implies, forall_const, ai_rvs, ai_rv0, ai_b_0, Classical.not_not, not_true_eq_false, false_implies, not_false_eq_true, true_implies, and_true, true_and, if_true, if_false, Bool.false_eq_true, q_229, a_nw, c97, g1, g2, n10, w6, nIa, nIle, g4]
        refine r152_l (I0 := I) (len := len) (tx := tx) (by omega) w1 (fun I1 o o2 l1 t1 => ?_) b 0 I (by omega) (fun _ _ _ => rfl) (fun _ _ => rfl) w6 (fun j hj => ?_)
        · refine k4 I1 (fun x hx => o x (by omega) (by omega)) ⟨w1, ?_, ?_, by rw [o2 2 (by omega)]; exact w4, by omega, l1, t1⟩
          · rw [o 230 (by omega) (by omega)]; exact w2
          · rw [o 231 (by omega) (by omega)]; exact w3
        · unfold tx_a
          rw [if_pos (by omega)]
          exact w7 j (by omega)
    · have k4 := k1 (fun g => g2 g.2)
      simp (disch := omega) only [E152, K152, ai_c1i, ai_c1n, ai_c1r, e_al0, e_an0, e_b0, e_c3, e_c5, e_const, e_cs3, e_dupi, e_dupr, e_dx1, e_getI, e_getR, e_goto, e_iast, e_ii3, e_il1, e_il2, e_il3, e_is3, e_putI, e_reti, e_z0, e_z1, Option.toList_some, Option.toList_none, List.cons_append, List.nil_append, List.append_nil, List.length_cons, List.length_nil, Nat.reduceAdd, Nat.reduceLeDiff, Nat.zero_le, true_and, and_true, and_self, true_implies, forall_const, ai_rvs, ai_rv0, ai_b_0, Classical.not_not, not_true_eq_false, false_implies, not_false_eq_true, true_implies, and_true, true_and, if_true, if_false, Bool.false_eq_true, q_229, a_nw, c97, g1, g2, n10]
      exact k4
  · have k4 := k1 (fun g => g1 g.1)
    simp (disch := omega) only [E152, K152, ai_c1i, ai_c1n, ai_c1r, e_al0, e_an0, e_b0, e_c3, e_c5, e_const, e_cs3, e_dupi, e_dupr, e_dx1, e_getI, e_getR, e_goto, e_iast, e_ii3, e_il1, e_il2, e_il3, e_is3, e_putI, e_reti, e_z0, e_z1, Option.toList_some, Option.toList_none, List.cons_append, List.nil_append, List.append_nil, List.length_cons, List.length_nil, Nat.reduceAdd, Nat.reduceLeDiff, Nat.zero_le, true_and, and_true, and_self, true_implies, forall_const, ai_rvs, ai_rv0, ai_b_0, Classical.not_not, not_true_eq_false, false_implies, not_false_eq_true, true_implies, and_true, true_and, if_true, if_false, Bool.false_eq_true, q_229, a_nw, c97, g1]
    exact k4
theorem r157_l {I0 : Nat → Nat → Int32} (hm : RM M) (kk : ∀ I', (∀ x, x ≠ 231 → I' x = I0 x) → (∀ j, j < 546 → I' 231 j = I0 230 j) → Q (some (.int (I0 230 1))) (LK, I', M)) :
    ∀ r i I, r + i = 546 → (∀ x, x ≠ 231 → I x = I0 x) → (∀ j, j < i → I 231 j = I0 230 j) → Ev d X0 157 7 [.ref 229, .int (nI i)] [] (LK, I, M) Q
  | 0, i, I, hi, o, h => by
    obtain rfl : i = 546 := by omega
    have k3 := kk I o h
    have e1 : I 230 1 = I0 230 1 := by rw [o 230 (by omega)]
    rw [H157_7]
    simp (disch := omega) only [K157, e_al0, e_an0, e_c3, e_const, e_getR, e_goto, e_iald, e_iast, e_ii1, e_il1, e_is1, e_putI, e_reti, Option.toList_some, Option.toList_none, List.cons_append, List.nil_append, List.append_nil, List.length_cons, List.length_nil, Nat.reduceAdd, Nat.reduceLeDiff, Nat.zero_le, true_and, and_true, and_self, true_implies, forall_const, ai_rvs, ai_rv0, ai_b_0, Classical.not_not, not_true_eq_false, false_implies, not_false_eq_true, true_implies, and_true, true_and, if_true, if_false, Bool.false_eq_true, q_229, a_nw, hm.1, nIc, Int32.le_refl, e1]
    exact k3
  | r + 1, i, I, hi, o, h => by
    rw [H157_7]
    simp (disch := omega) only [K157, e_al0, e_an0, e_c3, e_const, e_getR, e_goto, e_iald, e_iast, e_ii1, e_il1, e_is1, e_putI, e_reti, Option.toList_some, Option.toList_none, List.cons_append, List.nil_append, List.append_nil, List.length_cons, List.length_nil, Nat.reduceAdd, Nat.reduceLeDiff, Nat.zero_le, true_and, and_true, and_self, true_implies, forall_const, ai_rvs, ai_rv0, ai_b_0, Classical.not_not, not_true_eq_false, false_implies, not_false_eq_true, true_implies, and_true, true_and, if_true, if_false, Bool.false_eq_true, q_229, a_nw, hm.1, hm.2.1, nIc, nIle, nIa, a_sv]
    refine ⟨fun g => absurd g (by omega), fun _ => ?_⟩
    refine r157_l hm kk r (i + 1) _ (by omega) (fun x hx => ?_) (fun j hj => ?_)
    · rw [ai_u_other _ _ _ _ hx]
      exact o x hx
    · by_cases e : j = i
      · subst e
        rw [ai_uh, o 230 (by omega)]
      · rw [ai_uo (by omega)]
        exact h j (by omega)
theorem b_72 : ai_bool 7 2 = true := by decide +kernel
theorem r157 (h : RW S k S' k' s tx len I M) (kk : ∀ I', (∀ x, x < 229 → I' x = I x) → RW S k S k true tx len I' M → Q (some (.int (S.1 1))) (LK, I', M)) : Cl d 157 [.ref 229] (LK, I, M) Q := by
  obtain ⟨w1, w2, w3, w4, w5, w6, w7⟩ := h
  simp (disch := omega) only [E157, K157, e_al0, e_an0, e_c3, e_const, e_getR, e_goto, e_iald, e_iast, e_ii1, e_il1, e_is1, e_putI, e_reti, Option.toList_some, Option.toList_none, List.cons_append, List.nil_append, List.append_nil, List.length_cons, List.length_nil, Nat.reduceAdd, Nat.reduceLeDiff, Nat.zero_le, true_and, and_true, and_self, true_implies, forall_const, ai_rvs, ai_rv0, ai_b_0, Classical.not_not, not_true_eq_false, false_implies, not_false_eq_true, true_implies, and_true, true_and, if_true, if_false, Bool.false_eq_true, q_229, a_nw]
  refine ⟨Or.inr (Or.inr rfl), ?_⟩
  refine r157_l (I0 := ai_u I 229 2 (nI 1)) w1 (fun I1 o h => ?_) 546 0 _ (by omega) (fun _ _ => rfl) (fun j hj => absurd hj (by omega))
  have e1 : ai_u I 229 2 (nI 1) 230 = I 230 := ai_u_other _ _ _ _ (by omega)
  rw [e1, w2.2.2.1 1 (by omega) (by omega)]
  refine kk I1 (fun x hx => by rw [o x (by omega), ai_u_other _ _ _ _ (by omega)]) ⟨w1, ?_, fun _ => ?_, ?_, w5, ?_, fun i hi => ?_⟩
  · rw [o 230 (by omega), e1]; exact w2
  · refine w2.cong fun j hj => ?_
    rw [h j hj, e1]
  · rw [o 229 (by omega), ai_uh]; rfl
  · rw [o 229 (by omega), ai_uo (by omega)]; exact w6
  · rw [o 232 (by omega), ai_uo (by omega)]; exact w7 i hi
theorem r158_l {I0 : Nat → Nat → Int32} (hm : RM M) (kk : ∀ I', (∀ x, x ≠ 230 → I' x = I0 x) → (∀ j, j < 546 → I' 230 j = I0 231 j) → Q (some (.int (I' 230 1))) (LK, I', M)) :
    ∀ r i I, r + i = 546 → (∀ x, x ≠ 230 → I x = I0 x) → (∀ j, j < i → I 230 j = I0 231 j) → Ev d X0 158 12 [.ref 229, .int (nI i)] [] (LK, I, M) Q
  | 0, i, I, hi, o, h => by
    obtain rfl : i = 546 := by omega
    have k3 := kk I o h
    rw [H158_12]
    simp (disch := omega) only [K158, e_al0, e_an0, e_c3, e_const, e_getI, e_getR, e_goto, e_iald, e_iast, e_ii1, e_il1, e_is1, e_reti, e_z1, Option.toList_some, Option.toList_none, List.cons_append, List.nil_append, List.append_nil, List.length_cons, List.length_nil, Nat.reduceAdd, Nat.reduceLeDiff, Nat.zero_le, true_and, and_true, and_self, true_implies, forall_const, ai_rvs, ai_rv0, ai_b_0, Classical.not_not, not_true_eq_false, false_implies, not_false_eq_true, true_implies, and_true, true_and, if_true, if_false, Bool.false_eq_true, q_229, a_nw, hm.1, nIc, Int32.le_refl]
    exact k3
  | r + 1, i, I, hi, o, h => by
    rw [H158_12]
    simp (disch := omega) only [K158, e_al0, e_an0, e_c3, e_const, e_getI, e_getR, e_goto, e_iald, e_iast, e_ii1, e_il1, e_is1, e_reti, e_z1, Option.toList_some, Option.toList_none, List.cons_append, List.nil_append, List.append_nil, List.length_cons, List.length_nil, Nat.reduceAdd, Nat.reduceLeDiff, Nat.zero_le, true_and, and_true, and_self, true_implies, forall_const, ai_rvs, ai_rv0, ai_b_0, Classical.not_not, not_true_eq_false, false_implies, not_false_eq_true, true_implies, and_true, true_and, if_true, if_false, Bool.false_eq_true, q_229, a_nw, hm.1, hm.2.1, nIc, nIle, nIa, a_sv]
    refine ⟨fun g => absurd g (by omega), fun _ => ?_⟩
    refine r158_l hm kk r (i + 1) _ (by omega) (fun x hx => ?_) (fun j hj => ?_)
    · rw [ai_u_other _ _ _ _ hx]
      exact o x hx
    · by_cases e : j = i
      · subst e
        rw [ai_uh, o 231 (by omega)]
      · rw [ai_uo (by omega)]
        exact h j (by omega)
theorem r158 (h : RW S k S' k' s tx len I M) (k1 : s = false → Q (some (.int (-1000000001))) (LK, I, M)) (k2 : s = true → ∀ I', (∀ x, x < 229 → I' x = I x) → RW S' k' S' k' s tx len I' M → Q (some (.int (S'.1 1))) (LK, I', M)) : Cl d 158 [.ref 229] (LK, I, M) Q := by
  obtain ⟨w1, w2, w3, w4, w5, w6, w7⟩ := h
  have n10 : (nI 1 = nI 0) = False := eq_false (by decide)
  cases s with
  | false =>
    have k3 := k1 rfl
    simp only [Bool.false_eq_true, if_false] at w4
    simp (disch := omega) only [E158, K158, e_al0, e_an0, e_c3, e_const, e_getI, e_getR, e_goto, e_iald, e_iast, e_ii1, e_il1, e_is1, e_reti, e_z1, Option.toList_some, Option.toList_none, List.cons_append, List.nil_append, List.append_nil, List.length_cons, List.length_nil, Nat.reduceAdd, Nat.reduceLeDiff, Nat.zero_le, true_and, and_true, and_self, true_implies, forall_const, ai_rvs, ai_rv0, ai_b_0, Classical.not_not, not_true_eq_false, false_implies, not_false_eq_true, true_implies, and_true, true_and, if_true, if_false, Bool.false_eq_true, q_229, a_nw, w4]
    exact k3
  | true =>
    have k3 := k2 rfl
    simp only [if_true] at w4
    simp (disch := omega) only [E158, K158, e_al0, e_an0, e_c3, e_const, e_getI, e_getR, e_goto, e_iald, e_iast, e_ii1, e_il1, e_is1, e_reti, e_z1, Option.toList_some, Option.toList_none, List.cons_append, List.nil_append, List.append_nil, List.length_cons, List.length_nil, Nat.reduceAdd, Nat.reduceLeDiff, Nat.zero_le, true_and, and_true, and_self, true_implies, forall_const, ai_rvs, ai_rv0, ai_b_0, Classical.not_not, not_true_eq_false, false_implies, not_false_eq_true, true_implies, and_true, true_and, if_true, if_false, Bool.false_eq_true, q_229, a_nw, w4, n10]
    refine r158_l (I0 := I) w1 (fun I1 o h => ?_) 546 0 _ (by omega) (fun _ _ => rfl) (fun j hj => absurd hj (by omega))
    have hj' : RJ (I1 230) S' k' := (w3 rfl).cong fun j hj => h j hj
    rw [hj'.2.2.1 1 (by omega) (by omega)]
    refine k3 I1 (fun x hx => o x (by omega)) ⟨w1, hj', fun _ => ?_, ?_, w5, ?_, fun i hi => ?_⟩
    · rw [o 231 (by omega)]; exact w3 rfl
    · rw [o 229 (by omega), w4]; rfl
    · rw [o 229 (by omega)]; exact w6
    · rw [o 232 (by omega)]; exact w7 i hi
end RWORLD
