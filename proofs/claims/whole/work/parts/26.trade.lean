/-! the exchange: trades, the order that is next -/
def nN (g : Nat → Int32) (m : Nat) : Nat := (g (14 + 43 * m)).toNatClampNeg
theorem nN_of {g : Nat → Int32} {m n : Nat} (h : g (14 + 43 * m) = nI n) (hn : n ≤ 4) : nN g m = n := by
  unfold nN
  rw [h, nIc (by omega)]
def m_due (g : Nat → Int32) (m o : Nat) (c : Int32) : Int32 := m_cost (qs g m) (nN g m) (g (13 + 43 * m)) o c
def tr_g (g : Nat → Int32) (m t o : Nat) (c due : Int32) : Nat → Int32 :=
  ug (ug (ug (ug (ug g (6 + t) (g (6 + t) - due)) (18 + 43 * m) (g (18 + 43 * m) + due)) (49 + 43 * m + t) (g (49 + 43 * m + t) + due)) (25 + 43 * m + 4 * t + o) (g (25 + 43 * m + 4 * t + o) + c)) (21 + 43 * m + o) (g (21 + 43 * m + o) + c)
/-- a trade -/
def tr (S : St) (m t o : Nat) (c ord : Int32) : St :=
  (ug (tr_g S.1 m t o c (m_due S.1 m o c)) 4 (S.1 4 + nI 1), S.2.1, hs_c (nI t) (nI m) (nI o) c (m_due S.1 m o c) ord S.2.2)
section TRADE
variable {S : St} {C : (Nat → Nat → Int32) × (Nat → Nat → Nat)} {I : Nat → Nat → Int32} {M : Nat → Nat → Nat} {m n o t : Nat} {d : Nat} {Q : Option Value → ai_H → Prop}
theorem EX.trd (h : EX 1 S C I M) (hm : m < 6) (ht : t < 6) (ho : o < 4) (c due : Int32) : EX 1 (tr_g S.1 m t o c due, S.2) C
    (ai_u (ai_u (ai_u (ai_u (ai_u I 2 t (S.1 (6 + t) - due)) (4 + 10 * m) 12 (S.1 (18 + 43 * m) + due)) (13 + 10 * m) t (S.1 (49 + 43 * m + t) + due)) (7 + 10 * m + t) o (S.1 (25 + 43 * m + 4 * t + o) + c)) (5 + 10 * m) o (S.1 (21 + 43 * m + o) + c)) M := by
  have h1 := h.upd (Or.inl rfl) (k := 6 + t) (by omega) (by omega) (by omega) (by omega) (il_bal ht) (S.1 (6 + t) - due)
  have e2 : il 1 (18 + 43 * m) = (4 + 10 * m, 12) := by rw [show 18 + 43 * m = 12 + 43 * m + 6 by omega]; exact il_mk (by omega) 12 rfl
  have h2 := h1.upd (Or.inl rfl) (by omega) (by omega) (by omega) (by omega) e2 (S.1 (18 + 43 * m) + due)
  have h3 := h2.upd (Or.inl rfl) (k := 49 + 43 * m + t) (by omega) (by omega) (by omega) (by omega) (il_pd ht) (S.1 (49 + 43 * m + t) + due)
  have h4 := h3.upd (Or.inl rfl) (k := 25 + 43 * m + 4 * t + o) (by omega) (by omega) (by omega) (by omega) (il_hd ht ho) (S.1 (25 + 43 * m + 4 * t + o) + c)
  exact h4.upd (Or.inl rfl) (k := 21 + 43 * m + o) (by omega) (by omega) (by omega) (by omega) (il_sh ho) (S.1 (21 + 43 * m + o) + c)
/-- Exchange.exchange -/
theorem c12 {T : Nat} (h : EX 1 S C I M) (hT : S.1 4 = nI T) (hb : T < 999999999) (hm : m < 6) (hn : S.1 (14 + 43 * m) = nI n) (hn4 : n ≤ 4) (ht : t < 6) (ho : o < 4) {c ord : Int32} (kk : ∀ I', EX 1 (tr S m t o c ord) C I' M → Q (some (.int (m_due S.1 m o c))) (LK, I', M)) : Cl (d + 3) 12 [.ref 1, .ref (4 + 10 * m), .int (nI t), .int (nI o), .int c, .int ord] (LK, I, M) Q := by
  simp (disch := omega) only [E12, K12, ai_c1i, ai_c1n, ai_c1r, e_aald, e_al0, e_al1, e_an0, e_an1, e_b0, e_b1, e_cv3, e_cv7, e_dup2, e_dupi, e_dupr, e_getI, e_getR, e_iald, e_iast, e_il2, e_il3, e_il4, e_il5, e_il6, e_is6, e_putI, e_reti, Option.toList_some, Option.toList_none, List.cons_append, List.nil_append, List.append_nil, List.length_cons, List.length_nil, Nat.reduceAdd, Nat.reduceLeDiff, Nat.zero_le, true_and, and_true, and_self, true_implies, forall_const, ai_rvs, ai_rv0, ai_b_0, Classical.not_not, q_1, q_mk]
  refine c43 h hm hn hn4 ho fun I1 h1 => ?_
  have e0 : m_cost (qs S.1 m) n (S.1 (13 + 43 * m)) o c = m_due S.1 m o c := by rw [m_due, nN_of hn hn4]
  rw [e0]
  have h2 := h1.trd hm ht ho c (m_due S.1 m o c)
  simp (disch := omega) only [K12, ai_c1i, ai_c1n, ai_c1r, e_aald, e_al0, e_al1, e_an0, e_an1, e_b0, e_b1, e_cv3, e_cv7, e_dup2, e_dupi, e_dupr, e_getI, e_getR, e_iald, e_iast, e_il2, e_il3, e_il4, e_il5, e_il6, e_is6, e_putI, e_reti, Option.toList_some, Option.toList_none, List.cons_append, List.nil_append, List.append_nil, List.length_cons, List.length_nil, Nat.reduceAdd, Nat.reduceLeDiff, Nat.zero_le, true_and, and_true, and_self, true_implies, forall_const, ai_rvs, ai_rv0, ai_b_0, Classical.not_not, q_0, q_1, q_64, q_65, q_82, q_mk, q_od, m_10 h1, m_13 h1, a_bal, nIc, rd_bal h1, ai_uo, rd_ac h1, p_6, BO, true_or, m_pd h1, a_pd, rd_pd h1, m_hd h1, m_ht h1, a_hd, a_hr, rd_hd h1, m_sh h1, a_sh, rd_sh h1, rd_no h1]
  refine c32 h2 (T := T) ?_ hb fun I3 h3 => ?_
  · dsimp only [tr_g]
    simp (disch := omega) only [ug_n]
    exact hT
  · simp (disch := omega) only [K12, ai_c1i, ai_c1n, ai_c1r, e_aald, e_al0, e_al1, e_an0, e_an1, e_b0, e_b1, e_cv3, e_cv7, e_dup2, e_dupi, e_dupr, e_getI, e_getR, e_iald, e_iast, e_il2, e_il3, e_il4, e_il5, e_il6, e_is6, e_putI, e_reti, Option.toList_some, Option.toList_none, List.cons_append, List.nil_append, List.append_nil, List.length_cons, List.length_nil, Nat.reduceAdd, Nat.reduceLeDiff, Nat.zero_le, true_and, and_true, and_self, true_implies, forall_const, ai_rvs, ai_rv0, ai_b_0, Classical.not_not]
    refine kk I3 ?_
    unfold tr
    rw [hT, nIa]
    exact h3
/-- a row of the book at its place -/
theorem EX.row (h : EX 1 S C I M) {i a : Nat} {x : Od} (hi : S.2.1[i]? = some x) (e : M 65 i = 66 + a + 1) : a < 16 ∧ oat I (66 + a) = x := by
  have h8 : i < S.2.1.length := (List.getElem?_eq_some_iff.mp hi).1
  obtain ⟨l1, l2, l3⟩ := h.len
  obtain ⟨p, p0, p1, p2, p3⟩ := h.rows
  have e1 := p1 i (by omega)
  have hpa : p i = a := by omega
  subst hpa
  have g := p3 i x hi
  refine ⟨p0 i (by omega), ?_⟩
  unfold oat
  rw [g.1, g.2.1, g.2.2.1, g.2.2.2.1, g.2.2.2.2.1, g.2.2.2.2.2]
/-- whether an order is executable in a market -/
def xq (g : Nat → Int32) (m : Nat) (x : Od) : Bool := decide (x.2.2.1 = nI m) && decide (m_ob x.2.2.2.2.2 (m_due g m x.2.2.2.1.toNatClampNeg (nI 1)) (g (6 + x.2.1.toNatClampNeg)) (g (21 + 43 * m + x.2.2.2.1.toNatClampNeg)) = nI 0)
/-- the traders and outcomes of the open orders are there -/
def OV (L : List Od) : Prop := ∀ x ∈ L, ∃ t o, t < 6 ∧ o < 4 ∧ x.2.1 = nI t ∧ x.2.2.2.1 = nI o
theorem c16_l (hm : m < 6) (hn : S.1 (14 + 43 * m) = nI n) (hn4 : n ≤ 4) (hv : OV S.2.1) (k1 : ∀ I' i, EX 1 S C I' M → S.2.1.findIdx? (xq S.1 m) = some i → Q (some (.int (nI i))) (LK, I', M)) (k2 : ∀ I', EX 1 S C I' M → S.2.1.findIdx? (xq S.1 m) = none → Q (some (.int (-1))) (LK, I', M)) :
    ∀ k i, k + i = S.2.1.length → (∀ (j : Nat) (x : Od), j < i → S.2.1[j]? = some x → xq S.1 m x = false) → ∀ I, EX 1 S C I M → ∀ x y, Ev (d + 3) X0 16 2 [.ref 1, .ref (4 + 10 * m), .int (nI i), x, y] [] (LK, I, M) Q
  | 0, i, hi, hno, I, h, _, _ => by
    obtain ⟨l1, l2, l3⟩ := h.len
    obtain rfl : i = S.2.1.length := by omega
    have k3 := k2 I h (List.findIdx?_eq_none_iff.mpr fun x hx => by
      obtain ⟨j, hj, rfl⟩ := List.mem_iff_getElem.mp hx
      exact hno j _ hj (List.getElem?_eq_getElem hj))
    rw [H16_2]
    simp (disch := omega) only [K16, ai_c1i, ai_c1n, ai_c1r, e_aald, e_al0, e_al1, e_al3, e_an0, e_an1, e_an3, e_as3, e_az3, e_c1, e_c3, e_const, e_cv3, e_cv4, e_getI, e_getR, e_goto, e_iald, e_ii2, e_il2, e_il4, e_is2, e_is4, e_reti, e_z1, Option.toList_some, Option.toList_none, List.cons_append, List.nil_append, List.append_nil, List.length_cons, List.length_nil, Nat.reduceAdd, Nat.reduceLeDiff, Nat.zero_le, true_and, and_true, and_self, true_implies, forall_const, ai_rvs, ai_rv0, ai_b_0, Classical.not_not, q_0, q_1, q_64, q_65, q_82, q_mk, q_od, m_12 h, l2, Int32.le_refl, not_true_eq_false, false_implies]
    exact k3
  | k + 1, i, hi, hno, I, h, _, _ => by
    obtain ⟨l1, l2, l3⟩ := h.len
    obtain ⟨p, p0, p1, p2, p3⟩ := h.rows
    obtain ⟨x, hx⟩ := get_lt (L := S.2.1) (i := i) (by omega)
    have hp := p0 i (by omega)
    have e := p3 i x hx
    obtain ⟨t, o, ht, ho, et, eo⟩ := hv x (List.mem_of_getElem? hx)
    have next : xq S.1 m x = false → ∀ I, EX 1 S C I M → ∀ x y, Ev (d + 3) X0 16 2 [.ref 1, .ref (4 + 10 * m), .int (nI (i + 1)), x, y] [] (LK, I, M) Q := fun hf =>
      c16_l hm hn hn4 hv k1 k2 k (i + 1) (by omega) (fun j x' hj hx' => by
        by_cases hji : j = i
        · subst hji
          rw [hx] at hx'
          cases hx'
          exact hf
        · exact hno j x' (by omega) hx')
    rw [H16_2]
    simp (disch := omega) only [K16, ai_c1i, ai_c1n, ai_c1r, e_aald, e_al0, e_al1, e_al3, e_an0, e_an1, e_an3, e_as3, e_az3, e_c1, e_c3, e_const, e_cv3, e_cv4, e_getI, e_getR, e_goto, e_iald, e_ii2, e_il2, e_il4, e_is2, e_is4, e_reti, e_z1, Option.toList_some, Option.toList_none, List.cons_append, List.nil_append, List.append_nil, List.length_cons, List.length_nil, Nat.reduceAdd, Nat.reduceLeDiff, Nat.zero_le, true_and, and_true, and_self, true_implies, forall_const, ai_rvs, ai_rv0, ai_b_0, Classical.not_not, q_0, q_1, q_64, q_65, q_82, q_mk, q_od, m_12 h, l2, nIle, nIa, nIc, m_bo h, a_od, p1, e.2.2.1, rd_no h]
    refine ⟨fun g => absurd g (by omega), fun _ => ⟨fun g => next ?_ I h _ _, fun g => ?_⟩⟩
    · unfold xq
      rw [decide_eq_false g]
      rfl
    · rw [e.2.2.2.1, eo]
      refine c43 h hm hn hn4 ho fun I1 h1 => ?_
      have hr := h1.row hx (p1 i (by omega))
      have r3 : I1 (66 + p i) 3 = nI o := by rw [← eo, ← hr.2]; rfl
      simp (disch := omega) only [K16, ai_c1i, ai_c1n, ai_c1r, e_aald, e_al0, e_al1, e_al3, e_an0, e_an1, e_an3, e_as3, e_az3, e_c1, e_c3, e_const, e_cv3, e_cv4, e_getI, e_getR, e_goto, e_iald, e_ii2, e_il2, e_il4, e_is2, e_is4, e_reti, e_z1, Option.toList_some, Option.toList_none, List.cons_append, List.nil_append, List.append_nil, List.length_cons, List.length_nil, Nat.reduceAdd, Nat.reduceLeDiff, Nat.zero_le, true_and, and_true, and_self, true_implies, forall_const, ai_rvs, ai_rv0, ai_b_0, Classical.not_not, q_0, q_1, q_64, q_65, q_82, q_mk, q_od, m_12 h1, m_sh h1, a_sh, nIc, rd_sh h1, r3, c18 h1 hr.1 hr.2 ht et, nIa]
      have e0 : m_cost (qs S.1 m) n (S.1 (13 + 43 * m)) o (nI 1) = m_due S.1 m o (nI 1) := by rw [m_due, nN_of hn hn4]
      rw [e0]
      have exq : xq S.1 m x = decide (m_ob x.2.2.2.2.2 (m_due S.1 m o (nI 1)) (S.1 (6 + t)) (S.1 (21 + 43 * m + o)) = nI 0) := by
        unfold xq
        rw [et, eo, nIc (by omega), nIc (by omega), decide_eq_true g]
        rfl
      refine ⟨fun g1 => next ?_ I1 h1 _ _, fun g1 => k1 I1 i h1 ?_⟩
      · rw [exq]
        exact decide_eq_false g1
      · rw [List.findIdx?_eq_some_iff_getElem]
        obtain ⟨h8, h9⟩ := List.getElem?_eq_some_iff.mp hx
        refine ⟨h8, ?_, fun j hj => ?_⟩
        · rw [h9, exq]
          exact decide_eq_true g1
        · rw [hno j _ hj (List.getElem?_eq_getElem (by omega))]
          exact Bool.false_ne_true
/-- Exchange.firstExecutable -/
theorem c16 (h : EX 1 S C I M) (hm : m < 6) (hn : S.1 (14 + 43 * m) = nI n) (hn4 : n ≤ 4) (hv : OV S.2.1) (k1 : ∀ I' i, EX 1 S C I' M → S.2.1.findIdx? (xq S.1 m) = some i → Q (some (.int (nI i))) (LK, I', M)) (k2 : ∀ I', EX 1 S C I' M → S.2.1.findIdx? (xq S.1 m) = none → Q (some (.int (-1))) (LK, I', M)) : Cl (d + 3) 16 [.ref 1, .ref (4 + 10 * m)] (LK, I, M) Q := by
  simp (disch := omega) only [E16, K16, ai_c1i, ai_c1n, ai_c1r, e_aald, e_al0, e_al1, e_al3, e_an0, e_an1, e_an3, e_as3, e_az3, e_c1, e_c3, e_const, e_cv3, e_cv4, e_getI, e_getR, e_goto, e_iald, e_ii2, e_il2, e_il4, e_is2, e_is4, e_reti, e_z1, Option.toList_some, Option.toList_none, List.cons_append, List.nil_append, List.append_nil, List.length_cons, List.length_nil, Nat.reduceAdd, Nat.reduceLeDiff, Nat.zero_le, true_and, and_true, and_self, true_implies, forall_const, ai_rvs, ai_rv0, ai_b_0, Classical.not_not]
  exact c16_l hm hn hn4 hv k1 k2 S.2.1.length 0 (by omega) (fun j x hj => by omega) I h _ _
end TRADE
