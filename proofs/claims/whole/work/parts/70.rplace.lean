/-! the reference places, cancels and tells orders -/
theorem ug_comm {g : Nat → Int32} {a b : Nat} {v w : Int32} (h : a ≠ b) : ug (ug g a v) b w = ug (ug g b w) a v := by
  funext j
  unfold ug
  by_cases e : j = a
  · subst e
    simp [h]
  · simp [e]
theorem l_in_pm {x : Od} : ∀ {L : List Od}, (l_in x L).Perm (x :: L)
  | [] => List.Perm.refl _
  | y :: L => by
    rw [l_in]
    split
    · exact List.Perm.refl _
    · exact ((l_in_pm (x := x) (L := L)).cons y).trans (List.Perm.swap _ _ _)
theorem l_in_srt {x : Od} : ∀ {L : List Od}, SRT L → (∀ y ∈ L, y.1 < x.1) → SRT (l_in x L)
  | [], _, _ => List.pairwise_singleton _ _
  | y :: L, h, hn => by
    rw [SRT, List.pairwise_cons] at h
    rw [l_in]
    split
    · rename_i g
      rw [SRT, List.pairwise_cons, List.pairwise_cons]
      refine ⟨fun z hz => ?_, h⟩
      have gy : ofb x y = true := ofb_c.mpr (Or.inl g)
      rcases List.mem_cons.mp hz with rfl | hz
      · exact gy
      · exact ofb_tr gy (h.1 z hz)
    · rename_i g
      rw [SRT, List.pairwise_cons]
      refine ⟨fun z hz => ?_, l_in_srt h.2 fun z hz => hn z (List.mem_cons_of_mem _ hz)⟩
      rcases l_in_mem hz with rfl | hz
      · rw [ofb_c]
        have n1 := hn y (List.mem_cons_self ..)
        by_cases e : y.2.2.2.2.2 = z.2.2.2.2.2
        · exact Or.inr ⟨e, n1⟩
        · refine Or.inl ?_
          rw [Int32.lt_iff_toInt_lt] at g ⊢
          have : y.2.2.2.2.2.toInt ≠ z.2.2.2.2.2.toInt := fun h => e (Int32.toInt_inj.mp h)
          omega
      · exact h.1 z hz
/-- the numbers of the orders are below the next one's -/
def NB (S : St) (N : Nat) : Prop := S.1 2 = nI N ∧ ∀ x ∈ S.2.1, ∃ a, a < N ∧ x.1 = nI a
section RPLACE
variable {I : Nat → Nat → Int32} {J : Nat → Int32} {M : Nat → Nat → Nat} {S : St} {m k T N : Nat} {d : Nat} {Q : Option Value → ai_H → Prop} {os : List Od}
theorem RJ.ro (h : RJ J S k) : ∃ os, RO J S.2.1 os := by
  obtain ⟨r1, r2, r3, ⟨l1, os, o1, o2, o3⟩, r5⟩ := h
  exact ⟨os, l1, o1, o2, o3⟩
theorem RO.un {L os : List Od} (h : RO J L os) : UN L := by
  have h2 : os.Pairwise (fun a b => a.1 ≠ b.1) := h.2.2.1.imp fun {a b} hab e => by
    rw [e] at hab
    exact Int32.lt_irrefl hab
  exact (h.2.1.pairwise_iff (fun {a b} hab e => hab e.symm)).mp h2
/-- the open orders change -/
theorem RJ.ord {J' : Nat → Int32} {L' os' : List Od} (h : RJ J S k) (a1 : ∀ j, j < 270 ∨ 366 ≤ j → j ≠ 3 → J' j = J j) (a2 : J' 3 = nI L'.length) (l16 : L'.length ≤ 16) (o1 : os'.Perm L') (o2 : os'.Pairwise (fun a b => a.1 < b.1)) (a3 : ∀ (i : Nat) (o : Od), os'[i]? = some o → ∀ j, j < 6 → J' (270 + 6 * i + j) = o_f o j) : RJ J' (ug S.1 3 (nI L'.length), L', S.2.2) k := by
  obtain ⟨r1, r2, r3, r4, T9, r5, r6, r7, r8⟩ := id h
  refine ⟨by dsimp only; rw [ug_n (by omega)]; exact r1, r2, fun j hj h5 => ?_, ⟨l16, os', o1, o2, a3⟩, T9, by dsimp only; rw [ug_n (by omega)]; exact r5, r6, ?_, fun i y h1 h2 h3 => ?_⟩
  · dsimp only
    by_cases e3 : j = 3
    · subst e3
      rw [ug_s, a2]
    · rw [ug_n e3, a1 j (by omega) e3]
      exact r3 j hj h5
  · rw [a1 5 (by omega) (by omega)]
    exact r7
  · rw [a1 _ (by omega) (by omega)]
    exact r8 i y h1 h2 h3
theorem EW.inn {S : St} {m n o t c li : Nat} (h : EW S k T) (hnb : NB S N) (hN : N < 900000000) (hl : S.2.1.length ≠ 16) (hm : m < k) (hn : S.1 (14 + 43 * m) = nI n) (hn4 : n ≤ 4) (ho : o < n) (ht : t < 6) (hc : 1 ≤ c ∧ c ≤ 50) (hli : 1 ≤ li ∧ li ≤ 2880) : EW (ins S (S.1 2, nI t, nI m, nI o, nI c, nI li)) k T ∧ NB (ins S (S.1 2, nI t, nI m, nI o, nI c, nI li)) (N + 1) := by
  obtain ⟨w1, ⟨v1, v2, v3, v4⟩, w3, w4, w5⟩ := h
  obtain ⟨nb1, nb2⟩ := hnb
  have hlen := (l_in_pm (x := (S.1 2, nI t, nI m, nI o, nI c, nI li)) (L := S.2.1)).length_eq
  rw [List.length_cons] at hlen
  have e : ins S (S.1 2, nI t, nI m, nI o, nI c, nI li) = (ug (ug S.1 3 (nI (S.2.1.length + 1))) 2 (S.1 2 + nI 1), l_in (S.1 2, nI t, nI m, nI o, nI c, nI li) S.2.1, S.2.2) := rfl
  rw [e]
  refine ⟨⟨w1.of ?_ fun m' => ?_, ⟨fun m' hm' => ?_, ?_, fun y hy => ?_, fun y hy => ?_⟩, l_in_srt w3 fun y hy => ?_, ?_, ?_⟩, ?_, fun y hy => ?_⟩
  · dsimp only; rw [ug_n (by omega), ug_n (by omega)]
  · dsimp only; rw [ug_n (by omega), ug_n (by omega)]
  · obtain ⟨n, b, s, h1, n2, n4, h2, b1, b2, h3⟩ := v1 m' hm'
    exact ⟨n, b, s, by dsimp only; rw [ug_n (by omega), ug_n (by omega)]; exact h1, n2, n4, by dsimp only; rw [ug_n (by omega), ug_n (by omega)]; exact h2, b1, b2, fun o ho => by dsimp only; rw [ug_n (by omega), ug_n (by omega)]; exact h3 o ho⟩
  · dsimp only; rw [ug_n (by omega), ug_s, hlen]
  · rcases l_in_mem hy with rfl | hy
    · refine ⟨m, n, o, t, hm, rfl, ?_, hn4, ho, rfl, ht, rfl⟩
      dsimp only; rw [ug_n (by omega), ug_n (by omega)]; exact hn
    · obtain ⟨m1, n1, o1, t1, a1, a2, a3, a4⟩ := v3 y hy
      exact ⟨m1, n1, o1, t1, a1, a2, by dsimp only; rw [ug_n (by omega), ug_n (by omega)]; exact a3, a4⟩
  · rcases l_in_mem hy with rfl | hy
    · exact ⟨N, c, li, by omega, nb1, hc.1, hc.2, rfl, hli.1, hli.2, rfl⟩
    · exact v4 y hy
  · obtain ⟨a, ha, ea⟩ := nb2 y hy
    dsimp only
    rw [ea, nb1, nIlt (by omega) (by omega)]
    exact ha
  · dsimp only; rw [ug_n (by omega), ug_n (by omega)]; exact w4
  · dsimp only; omega
  · dsimp only; rw [ug_s, nb1, nIa]
  · rcases l_in_mem hy with rfl | hy
    · exact ⟨N, by omega, nb1⟩
    · obtain ⟨a, ha, ea⟩ := nb2 y hy
      exact ⟨a, by omega, ea⟩
theorem RJ.inn {x : Od} (h : RJ J S k) (hnb : NB S N) (hN : N < 900000000) (hx : x.1 = S.1 2) (hl : S.2.1.length ≠ 16) : RJ (ug (ug (ug (ug (ug (ug (ug (ug J 3 (nI (S.2.1.length + 1))) 2 (S.1 2 + nI 1)) (270 + 6 * S.2.1.length) x.1) (270 + 6 * S.2.1.length + 1) x.2.1) (270 + 6 * S.2.1.length + 2) x.2.2.1) (270 + 6 * S.2.1.length + 3) x.2.2.2.1) (270 + 6 * S.2.1.length + 4) x.2.2.2.2.1) (270 + 6 * S.2.1.length + 5) x.2.2.2.2.2) (ins S x) k := by
  obtain ⟨r1, r2, r3, ⟨l1, os, o1, o2, o3⟩, r5⟩ := id h
  have hlen := (l_in_pm (x := x) (L := S.2.1)).length_eq
  rw [List.length_cons] at hlen
  have hol := o1.length_eq
  have h2 := h.upd (j := 2) (by omega) (by omega) (by omega) (by omega) (S.1 2 + nI 1)
  have h3 := h2.ord (L' := l_in x S.2.1) (os' := os ++ [x]) (J' := ug (ug (ug (ug (ug (ug (ug (ug J 3 (nI (S.2.1.length + 1))) 2 (S.1 2 + nI 1)) (270 + 6 * S.2.1.length) x.1) (270 + 6 * S.2.1.length + 1) x.2.1) (270 + 6 * S.2.1.length + 2) x.2.2.1) (270 + 6 * S.2.1.length + 3) x.2.2.2.1) (270 + 6 * S.2.1.length + 4) x.2.2.2.2.1) (270 + 6 * S.2.1.length + 5) x.2.2.2.2.2) (fun j hj hj3 => ?_) ?_ (by omega) ?_ ?_ (fun i o hi j hj => ?_)
  · unfold ins
    rw [hlen] at h3
    rw [ug_comm (g := S.1) (a := 3) (b := 2) (by omega)]
    exact h3
  · simp (disch := omega) only [ug_n]
    by_cases e2 : j = 2
    · subst e2
      rw [ug_s, ug_s]
    · rw [ug_n e2, ug_n e2, ug_n hj3]
  · rw [hlen]
    simp (disch := omega) only [ug_n, ug_s]
  · exact (List.perm_append_comm.trans ((o1.cons x))).trans l_in_pm.symm
  · rw [List.pairwise_append]
    refine ⟨o2, List.pairwise_singleton _ _, fun a ha b hb => ?_⟩
    rw [List.mem_singleton] at hb
    subst hb
    obtain ⟨a', ha', ea⟩ := hnb.2 a (o1.mem_iff.mp ha)
    rw [hx, hnb.1, ea, nIlt (by omega) (by omega)]
    exact ha'
  · by_cases e : i < os.length
    · rw [List.getElem?_append_left e] at hi
      simp (disch := omega) only [ug_n]
      exact o3 i o hi j hj
    · rw [List.getElem?_append_right (by omega)] at hi
      have ei : i - os.length = 0 := by
        apply Classical.byContradiction
        intro h
        rw [List.getElem?_eq_none (by rw [List.length_singleton]; omega)] at hi
        exact absurd hi (by simp)
      rw [ei] at hi
      cases hi
      have ei2 : i = S.2.1.length := by omega
      subst ei2
      unfold o_f
      rcases (by omega : j = 0 ∨ j = 1 ∨ j = 2 ∨ j = 3 ∨ j = 4 ∨ j = 5) with rfl | rfl | rfl | rfl | rfl | rfl <;> simp (disch := omega) only [ug_n, ug_s, Nat.add_zero] <;> rfl
theorem r127 (hm : RM M) (hj : RJ J S k) (h : EW S k T) (hnb : NB S N) (hN : N < 900000000) (hb : T < 999980000) {t x y c lim : Int32} (kk : ∀ J', RJ J' (p_place S t x y c lim).2 k → Q (some (.int (p_place S t x y c lim).1)) (LK, sr I J', M)) : Cl (d + 9) 127 [.ref 229, .int t, .int x, .int y, .int c, .int lim] (LK, sr I J, M) Q := by
  obtain ⟨w1, w2, w3, w4, w5⟩ := id h
  obtain ⟨v1, v2, v3, v4⟩ := id w2
  have hk6 := hj.2.1
  have rd := hj.2.2.1
  have hjr : RJ ((sr I J) 230) S k := hj
  have n10 : (nI 1 = nI 0) = False := eq_false (by decide)
  unfold p_place at kk
  by_cases g1 : nI 0 ≤ t ∧ t ≤ nI 5
  · rw [if_pos g1] at kk
    obtain ⟨t, ht, rfl⟩ := tr_of g1
    by_cases g2 : nI 1 ≤ c ∧ c ≤ nI 50
    · rw [if_pos g2] at kk
      by_cases g6 : nI 1 ≤ lim ∧ lim ≤ nI 2880
      · rw [if_pos g6] at kk
        simp (disch := omega) only [E127, K127_0, K127_1, ai_c1i, ai_c1n, ai_c1r, e_al0, e_an0, e_b0, e_c1, e_const, e_cs1, e_cs3, e_cv2, e_cv3, e_dup2, e_dx2, e_getR, e_iald, e_iast, e_il1, e_il2, e_il3, e_il4, e_il5, e_il6, e_il7, e_is6, e_is7, e_reti, e_z0, e_z1, Option.toList_some, Option.toList_none, List.cons_append, List.nil_append, List.append_nil, List.length_cons, List.length_nil, Nat.reduceAdd, Nat.reduceLeDiff, Nat.zero_le, true_and, and_true, and_self, true_implies, forall_const, ai_rvs, ai_rv0, ai_b_0, Classical.not_not, not_true_eq_false, false_implies, not_false_eq_true, true_implies, and_true, true_and, if_true, if_false, Bool.false_eq_true, q_229, a_nw, r103, c97, g1, g2, g6, n10]
        refine r102 hm w1 hjr (fun m n o hmk ex hn n2 n4 ho ey em => ?_) (fun em => ?_)
        · rw [em] at kk
          dsimp only at kk
          subst ex ey
          obtain ⟨c, hc, rfl⟩ := nI_ofr (k := 51) (Int32.le_trans (by decide) g2.1) (Int32.lt_of_le_of_lt g2.2 (by decide)) (by omega)
          obtain ⟨li, hli, rfl⟩ := nI_ofr (k := 2881) (Int32.le_trans (by decide) g6.1) (Int32.lt_of_le_of_lt g6.2 (by decide)) (by omega)
          rw [nIle (by omega) (by omega), nIle (by omega) (by omega)] at g2 g6
          have rst : J (12 + 43 * m + 0) = S.1 (12 + 43 * m) := rd _ (by omega) (by omega)
          have r3 : J 3 = nI S.2.1.length := (rd 3 (by omega) (by omega)).trans v2
          have r2 : J 2 = S.1 2 := rd 2 (by omega) (by omega)
          by_cases g3 : S.1 (12 + 43 * m) = nI 0
          · rw [if_pos g3] at kk
            by_cases g4 : S.2.1.length = 16
            · rw [if_pos g4] at kk
              simp (disch := omega) only [K127_0, K127_1, ai_c1i, ai_c1n, ai_c1r, e_al0, e_an0, e_b0, e_c1, e_const, e_cs1, e_cs3, e_cv2, e_cv3, e_dup2, e_dx2, e_getR, e_iald, e_iast, e_il1, e_il2, e_il3, e_il4, e_il5, e_il6, e_il7, e_is6, e_is7, e_reti, e_z0, e_z1, Option.toList_some, Option.toList_none, List.cons_append, List.nil_append, List.append_nil, List.length_cons, List.length_nil, Nat.reduceAdd, Nat.reduceLeDiff, Nat.zero_le, true_and, and_true, and_self, true_implies, forall_const, ai_rvs, ai_rv0, ai_b_0, Classical.not_not, not_true_eq_false, false_implies, not_false_eq_true, true_implies, and_true, true_and, if_true, if_false, Bool.false_eq_true, q_229, a_nw, n10, r100 hm, sr_r, rst, g3, r3, g4, hm.1, nIc]
              exact kk J hj
            · rw [if_neg g4] at kk
              have g4' : (nI S.2.1.length = nI 16) = False := eq_false (fun e => g4 ((nIeq (by omega) (by omega)).mp e))
              have hji := hj.inn (x := (S.1 2, nI t, nI m, nI o, nI c, nI li)) hnb hN rfl g4
              obtain ⟨hwi, hni⟩ := h.inn hnb hN g4 hmk hn n4 ho ht (c := c) (li := li) ⟨by omega, by omega⟩ ⟨by omega, by omega⟩
              simp (disch := omega) only [K127_0, K127_1, ai_c1i, ai_c1n, ai_c1r, e_al0, e_an0, e_b0, e_c1, e_const, e_cs1, e_cs3, e_cv2, e_cv3, e_dup2, e_dx2, e_getR, e_iald, e_iast, e_il1, e_il2, e_il3, e_il4, e_il5, e_il6, e_il7, e_is6, e_is7, e_reti, e_z0, e_z1, Option.toList_some, Option.toList_none, List.cons_append, List.nil_append, List.append_nil, List.length_cons, List.length_nil, Nat.reduceAdd, Nat.reduceLeDiff, Nat.zero_le, true_and, and_true, and_self, true_implies, forall_const, ai_rvs, ai_rv0, ai_b_0, Classical.not_not, not_true_eq_false, false_implies, not_false_eq_true, true_implies, and_true, true_and, if_true, if_false, Bool.false_eq_true, q_229, a_nw, n10, r100 hm, sr_r, sr_u, ug_n, rst, g3, r3, r2, g4', hm.1, nIc, nIa, nIm, c99]
              dsimp only at hji
              refine r126' hm hmk hwi hji (by omega) fun J2 hj2 => ?_
              simp (disch := omega) only [K127_0, K127_1, ai_c1i, ai_c1n, ai_c1r, e_al0, e_an0, e_b0, e_c1, e_const, e_cs1, e_cs3, e_cv2, e_cv3, e_dup2, e_dx2, e_getR, e_iald, e_iast, e_il1, e_il2, e_il3, e_il4, e_il5, e_il6, e_il7, e_is6, e_is7, e_reti, e_z0, e_z1, Option.toList_some, Option.toList_none, List.cons_append, List.nil_append, List.append_nil, List.length_cons, List.length_nil, Nat.reduceAdd, Nat.reduceLeDiff, Nat.zero_le, true_and, and_true, and_self, true_implies, forall_const, ai_rvs, ai_rv0, ai_b_0, Classical.not_not, not_true_eq_false, false_implies, not_false_eq_true, true_implies, and_true, true_and, if_true, if_false, Bool.false_eq_true, q_229, a_nw]
              exact kk J2 hj2
          · rw [if_neg g3] at kk
            simp (disch := omega) only [K127_0, K127_1, ai_c1i, ai_c1n, ai_c1r, e_al0, e_an0, e_b0, e_c1, e_const, e_cs1, e_cs3, e_cv2, e_cv3, e_dup2, e_dx2, e_getR, e_iald, e_iast, e_il1, e_il2, e_il3, e_il4, e_il5, e_il6, e_il7, e_is6, e_is7, e_reti, e_z0, e_z1, Option.toList_some, Option.toList_none, List.cons_append, List.nil_append, List.append_nil, List.length_cons, List.length_nil, Nat.reduceAdd, Nat.reduceLeDiff, Nat.zero_le, true_and, and_true, and_self, true_implies, forall_const, ai_rvs, ai_rv0, ai_b_0, Classical.not_not, not_true_eq_false, false_implies, not_false_eq_true, true_implies, and_true, true_and, if_true, if_false, Bool.false_eq_true, q_229, a_nw, n10, r100 hm, sr_r, rst, g3]
            exact kk J hj
        · rw [em] at kk
          simp (disch := omega) only [K127_0, K127_1, ai_c1i, ai_c1n, ai_c1r, e_al0, e_an0, e_b0, e_c1, e_const, e_cs1, e_cs3, e_cv2, e_cv3, e_dup2, e_dx2, e_getR, e_iald, e_iast, e_il1, e_il2, e_il3, e_il4, e_il5, e_il6, e_il7, e_is6, e_is7, e_reti, e_z0, e_z1, Option.toList_some, Option.toList_none, List.cons_append, List.nil_append, List.append_nil, List.length_cons, List.length_nil, Nat.reduceAdd, Nat.reduceLeDiff, Nat.zero_le, true_and, and_true, and_self, true_implies, forall_const, ai_rvs, ai_rv0, ai_b_0, Classical.not_not, not_true_eq_false, false_implies, not_false_eq_true, true_implies, and_true, true_and, if_true, if_false, Bool.false_eq_true, q_229, a_nw]
          exact kk J hj
      · rw [if_neg g6] at kk
        simp (disch := omega) only [E127, K127_0, K127_1, ai_c1i, ai_c1n, ai_c1r, e_al0, e_an0, e_b0, e_c1, e_const, e_cs1, e_cs3, e_cv2, e_cv3, e_dup2, e_dx2, e_getR, e_iald, e_iast, e_il1, e_il2, e_il3, e_il4, e_il5, e_il6, e_il7, e_is6, e_is7, e_reti, e_z0, e_z1, Option.toList_some, Option.toList_none, List.cons_append, List.nil_append, List.append_nil, List.length_cons, List.length_nil, Nat.reduceAdd, Nat.reduceLeDiff, Nat.zero_le, true_and, and_true, and_self, true_implies, forall_const, ai_rvs, ai_rv0, ai_b_0, Classical.not_not, not_true_eq_false, false_implies, not_false_eq_true, true_implies, and_true, true_and, if_true, if_false, Bool.false_eq_true, q_229, a_nw, r103, c97, g1, g2, g6, n10]
        exact kk J hj
    · rw [if_neg g2] at kk
      simp (disch := omega) only [E127, K127_0, K127_1, ai_c1i, ai_c1n, ai_c1r, e_al0, e_an0, e_b0, e_c1, e_const, e_cs1, e_cs3, e_cv2, e_cv3, e_dup2, e_dx2, e_getR, e_iald, e_iast, e_il1, e_il2, e_il3, e_il4, e_il5, e_il6, e_il7, e_is6, e_is7, e_reti, e_z0, e_z1, Option.toList_some, Option.toList_none, List.cons_append, List.nil_append, List.append_nil, List.length_cons, List.length_nil, Nat.reduceAdd, Nat.reduceLeDiff, Nat.zero_le, true_and, and_true, and_self, true_implies, forall_const, ai_rvs, ai_rv0, ai_b_0, Classical.not_not, not_true_eq_false, false_implies, not_false_eq_true, true_implies, and_true, true_and, if_true, if_false, Bool.false_eq_true, q_229, a_nw, r103, c97, g1, g2, n10]
      exact kk J hj
  · rw [if_neg g1] at kk
    simp (disch := omega) only [E127, K127_0, K127_1, ai_c1i, ai_c1n, ai_c1r, e_al0, e_an0, e_b0, e_c1, e_const, e_cs1, e_cs3, e_cv2, e_cv3, e_dup2, e_dx2, e_getR, e_iald, e_iast, e_il1, e_il2, e_il3, e_il4, e_il5, e_il6, e_il7, e_is6, e_is7, e_reti, e_z0, e_z1, Option.toList_some, Option.toList_none, List.cons_append, List.nil_append, List.append_nil, List.length_cons, List.length_nil, Nat.reduceAdd, Nat.reduceLeDiff, Nat.zero_le, true_and, and_true, and_self, true_implies, forall_const, ai_rvs, ai_rv0, ai_b_0, Classical.not_not, not_true_eq_false, false_implies, not_false_eq_true, true_implies, and_true, true_and, if_true, if_false, Bool.false_eq_true, q_229, a_nw, r103, g1, n10]
    exact kk J hj
theorem r129 (hm : RM M) (hj : RJ J S k) (hev : EV S k) {x : Int32} (kk : ∀ J', RJ J' (p_canc S x).2 k → Q (some (.int (p_canc S x).1)) (LK, sr I J', M)) : Cl (d + 2) 129 [.ref 229, .int x] (LK, sr I J, M) Q := by
  obtain ⟨os, hro⟩ := hj.ro
  obtain ⟨l1, l2⟩ := hro.len
  have h3 : J 3 = nI S.2.1.length := (hj.2.2.1 3 (by omega) (by omega)).trans hev.2.1
  have z00 : (nI 0 ≤ (-1 : Int32)) = False := eq_false (by decide)
  unfold p_canc at kk
  simp (disch := omega) only [E129, K129, ai_c1i, ai_c1n, ai_c1r, e_al0, e_an0, e_b0, e_const, e_cs1, e_cv2, e_getR, e_iald, e_il1, e_il2, e_il3, e_is2, e_is3, e_reti, e_z3, Option.toList_some, Option.toList_none, List.cons_append, List.nil_append, List.append_nil, List.length_cons, List.length_nil, Nat.reduceAdd, Nat.reduceLeDiff, Nat.zero_le, true_and, and_true, and_self, true_implies, forall_const, ai_rvs, ai_rv0, ai_b_0, Classical.not_not, not_true_eq_false, false_implies, not_false_eq_true, true_implies, and_true, true_and, if_true, if_false, Bool.false_eq_true, q_229, a_nw]
  refine r128 hm hro h3 (fun i o ho e => ?_) (fun hno => ?_)
  · have hi8 : i < os.length := (List.getElem?_eq_some_iff.mp ho).1
    obtain ⟨q, hq8, hq⟩ := List.mem_iff_getElem.mp (hro.mem ho)
    have hq' : S.2.1[q]? = some o := by rw [List.getElem?_eq_getElem hq8, hq]
    obtain ⟨u1, u2⟩ := un_find hro.un hq' e
    rw [u1] at kk
    have e4 := (hro.f ho).2.2.2.2.1
    have z0 : (nI 0 ≤ nI i) = True := eq_true (nI_0le i (by omega))
    dsimp only at kk
    simp (disch := omega) only [K129, ai_c1i, ai_c1n, ai_c1r, e_al0, e_an0, e_b0, e_const, e_cs1, e_cv2, e_getR, e_iald, e_il1, e_il2, e_il3, e_is2, e_is3, e_reti, e_z3, Option.toList_some, Option.toList_none, List.cons_append, List.nil_append, List.append_nil, List.length_cons, List.length_nil, Nat.reduceAdd, Nat.reduceLeDiff, Nat.zero_le, true_and, and_true, and_self, true_implies, forall_const, ai_rvs, ai_rv0, ai_b_0, Classical.not_not, not_true_eq_false, false_implies, not_false_eq_true, true_implies, and_true, true_and, if_true, if_false, Bool.false_eq_true, q_229, a_nw, z0, hm.1, c99, nIm, nIa, nIc, sr_r, e4]
    refine r125 hm hro h3 hi8 fun J' a1 a2 a3 => ?_
    simp (disch := omega) only [K129, ai_c1i, ai_c1n, ai_c1r, e_al0, e_an0, e_b0, e_const, e_cs1, e_cv2, e_getR, e_iald, e_il1, e_il2, e_il3, e_is2, e_is3, e_reti, e_z3, Option.toList_some, Option.toList_none, List.cons_append, List.nil_append, List.append_nil, List.length_cons, List.length_nil, Nat.reduceAdd, Nat.reduceLeDiff, Nat.zero_le, true_and, and_true, and_self, true_implies, forall_const, ai_rvs, ai_rv0, ai_b_0, Classical.not_not, not_true_eq_false, false_implies, not_false_eq_true, true_implies, and_true, true_and, if_true, if_false, Bool.false_eq_true, q_229, a_nw]
    refine kk J' ?_
    have le : (S.2.1.eraseIdx q).length = S.2.1.length - 1 := List.length_eraseIdx_of_lt hq8
    unfold rmv
    rw [u2]
    exact hj.ord a1 (by rw [le]; exact a2) (by rw [le]; omega) (perm_er hro.2.1 ho hq') (List.Pairwise.sublist (List.eraseIdx_sublist os i) hro.2.2.1) a3
  · rw [no_find (fun i o ho => by
      obtain ⟨p, hp8, ep⟩ := List.mem_iff_getElem.mp (hro.2.1.mem_iff.mpr (List.mem_of_getElem? ho))
      exact hno p o (by rw [List.getElem?_eq_getElem hp8, ep]))] at kk
    dsimp only at kk
    simp (disch := omega) only [K129, ai_c1i, ai_c1n, ai_c1r, e_al0, e_an0, e_b0, e_const, e_cs1, e_cv2, e_getR, e_iald, e_il1, e_il2, e_il3, e_is2, e_is3, e_reti, e_z3, Option.toList_some, Option.toList_none, List.cons_append, List.nil_append, List.append_nil, List.length_cons, List.length_nil, Nat.reduceAdd, Nat.reduceLeDiff, Nat.zero_le, true_and, and_true, and_self, true_implies, forall_const, ai_rvs, ai_rv0, ai_b_0, Classical.not_not, not_true_eq_false, false_implies, not_false_eq_true, true_implies, and_true, true_and, if_true, if_false, Bool.false_eq_true, q_229, a_nw, z00]
    exact kk J hj
theorem r130 (hm : RM M) (hj : RJ J S k) (hev : EV S k) {x w : Int32} (kk : Q (some (.int (p_ord S x w))) (LK, sr I J, M)) : Cl (d + 8) 130 [.ref 229, .int x, .int w] (LK, sr I J, M) Q := by
  obtain ⟨os, hro⟩ := hj.ro
  obtain ⟨l1, l2⟩ := hro.len
  have hk6 := hj.2.1
  have h3 : J 3 = nI S.2.1.length := (hj.2.2.1 3 (by omega) (by omega)).trans hev.2.1
  have z00 : (nI 0 ≤ (-1 : Int32)) = False := eq_false (by decide)
  have n10 : (nI 1 = nI 0) = False := eq_false (by decide)
  unfold p_ord at kk
  simp (disch := omega) only [E130, K130, ai_c1i, ai_c1n, ai_c1r, e_al0, e_an0, e_b0, e_c1, e_const, e_cs1, e_cs3, e_cv2, e_getR, e_goto, e_iald, e_il1, e_il2, e_il3, e_is3, e_reti, e_z1, e_z3, Option.toList_some, Option.toList_none, List.cons_append, List.nil_append, List.append_nil, List.length_cons, List.length_nil, Nat.reduceAdd, Nat.reduceLeDiff, Nat.zero_le, true_and, and_true, and_self, true_implies, forall_const, ai_rvs, ai_rv0, ai_b_0, Classical.not_not, not_true_eq_false, false_implies, not_false_eq_true, true_implies, and_true, true_and, if_true, if_false, Bool.false_eq_true, q_229, a_nw]
  refine r128 hm hro h3 (fun i o ho e => ?_) (fun hno => ?_)
  · have hi8 : i < os.length := (List.getElem?_eq_some_iff.mp ho).1
    obtain ⟨q, hq8, hq⟩ := List.mem_iff_getElem.mp (hro.mem ho)
    have hq' : S.2.1[q]? = some o := by rw [List.getElem?_eq_getElem hq8, hq]
    obtain ⟨u1, u2⟩ := un_find hro.un hq' e
    rw [u1] at kk
    have z0 : (nI 0 ≤ nI i) = True := eq_true (nI_0le i (by omega))
    dsimp only at kk
    by_cases g : nI 0 ≤ w ∧ w ≤ nI 5
    · obtain ⟨j, hj6, rfl⟩ := tr_of g
      by_cases g5 : j = 5
      · subst g5
        rw [if_neg (by decide), if_neg (by decide), if_neg (by decide), if_neg (by decide), if_neg (by decide), if_pos rfl] at kk
        simp (disch := omega) only [K130, ai_c1i, ai_c1n, ai_c1r, e_al0, e_an0, e_b0, e_c1, e_const, e_cs1, e_cs3, e_cv2, e_getR, e_goto, e_iald, e_il1, e_il2, e_il3, e_is3, e_reti, e_z1, e_z3, Option.toList_some, Option.toList_none, List.cons_append, List.nil_append, List.append_nil, List.length_cons, List.length_nil, Nat.reduceAdd, Nat.reduceLeDiff, Nat.zero_le, true_and, and_true, and_self, true_implies, forall_const, ai_rvs, ai_rv0, ai_b_0, Classical.not_not, not_true_eq_false, false_implies, not_false_eq_true, true_implies, and_true, true_and, if_true, if_false, Bool.false_eq_true, q_229, a_nw, z0, c97, g, n10]
        obtain ⟨v1, v2, v3, v4⟩ := id hev
        obtain ⟨m, n', o', t, hm', em', en', n4', ho', eo, ht, et⟩ := v3 o (hro.mem ho)
        obtain ⟨n, b, s, h1, n2, n4, h2, b1, b2, hs3⟩ := v1 m hm'
        obtain rfl := (nIeq (by omega) (by omega)).mp (h1.symm.trans en')
        rw [r123 hm hro hm' hj h1 n2 n4 h2 b1 b2 hs3 ho em' ho' eo ht et]
        simp (disch := omega) only [K130, ai_c1i, ai_c1n, ai_c1r, e_al0, e_an0, e_b0, e_c1, e_const, e_cs1, e_cs3, e_cv2, e_getR, e_goto, e_iald, e_il1, e_il2, e_il3, e_is3, e_reti, e_z1, e_z3, Option.toList_some, Option.toList_none, List.cons_append, List.nil_append, List.append_nil, List.length_cons, List.length_nil, Nat.reduceAdd, Nat.reduceLeDiff, Nat.zero_le, true_and, and_true, and_self, true_implies, forall_const, ai_rvs, ai_rv0, ai_b_0, Classical.not_not, not_true_eq_false, false_implies, not_false_eq_true, true_implies, and_true, true_and, if_true, if_false, Bool.false_eq_true, q_229, a_nw]
        unfold m_oo at kk
        rw [em', eo, et, nIc (by omega), nIc (by omega), nIc (by omega)] at kk
        exact kk
      · have g5' : (nI j = nI 5) = False := eq_false (fun e => g5 ((nIeq (by omega) (by omega)).mp e))
        have ef := hro.2.2.2 i o ho (1 + j) (by omega)
        simp (disch := omega) only [K130, ai_c1i, ai_c1n, ai_c1r, e_al0, e_an0, e_b0, e_c1, e_const, e_cs1, e_cs3, e_cv2, e_getR, e_goto, e_iald, e_il1, e_il2, e_il3, e_is3, e_reti, e_z1, e_z3, Option.toList_some, Option.toList_none, List.cons_append, List.nil_append, List.append_nil, List.length_cons, List.length_nil, Nat.reduceAdd, Nat.reduceLeDiff, Nat.zero_le, true_and, and_true, and_self, true_implies, forall_const, ai_rvs, ai_rv0, ai_b_0, Classical.not_not, not_true_eq_false, false_implies, not_false_eq_true, true_implies, and_true, true_and, if_true, if_false, Bool.false_eq_true, q_229, a_nw, z0, c97, g, n10, g5', hm.1, c99, nIm, nIa, nIc, sr_r]
        rw [show 270 + 6 * i + 1 + j = 270 + 6 * i + (1 + j) by omega, ef]
        rcases (by omega : j = 0 ∨ j = 1 ∨ j = 2 ∨ j = 3 ∨ j = 4) with rfl | rfl | rfl | rfl | rfl <;> exact kk
    · have nw : ∀ j, j < 6 → w ≠ nI j := fun j hj6 e => g (by rw [e]; exact it_s hj6)
      rw [if_neg (nw 0 (by omega)), if_neg (nw 1 (by omega)), if_neg (nw 2 (by omega)), if_neg (nw 3 (by omega)), if_neg (nw 4 (by omega)), if_neg (nw 5 (by omega))] at kk
      simp (disch := omega) only [K130, ai_c1i, ai_c1n, ai_c1r, e_al0, e_an0, e_b0, e_c1, e_const, e_cs1, e_cs3, e_cv2, e_getR, e_goto, e_iald, e_il1, e_il2, e_il3, e_is3, e_reti, e_z1, e_z3, Option.toList_some, Option.toList_none, List.cons_append, List.nil_append, List.append_nil, List.length_cons, List.length_nil, Nat.reduceAdd, Nat.reduceLeDiff, Nat.zero_le, true_and, and_true, and_self, true_implies, forall_const, ai_rvs, ai_rv0, ai_b_0, Classical.not_not, not_true_eq_false, false_implies, not_false_eq_true, true_implies, and_true, true_and, if_true, if_false, Bool.false_eq_true, q_229, a_nw, z0, c97, g, n10]
      exact kk
  · rw [no_find (fun i o ho => by
      obtain ⟨p, hp8, ep⟩ := List.mem_iff_getElem.mp (hro.2.1.mem_iff.mpr (List.mem_of_getElem? ho))
      exact hno p o (by rw [List.getElem?_eq_getElem hp8, ep]))] at kk
    simp (disch := omega) only [K130, ai_c1i, ai_c1n, ai_c1r, e_al0, e_an0, e_b0, e_c1, e_const, e_cs1, e_cs3, e_cv2, e_getR, e_goto, e_iald, e_il1, e_il2, e_il3, e_is3, e_reti, e_z1, e_z3, Option.toList_some, Option.toList_none, List.cons_append, List.nil_append, List.append_nil, List.length_cons, List.length_nil, Nat.reduceAdd, Nat.reduceLeDiff, Nat.zero_le, true_and, and_true, and_self, true_implies, forall_const, ai_rvs, ai_rv0, ai_b_0, Classical.not_not, not_true_eq_false, false_implies, not_false_eq_true, true_implies, and_true, true_and, if_true, if_false, Bool.false_eq_true, q_229, a_nw, z00]
    exact kk
end RPLACE
