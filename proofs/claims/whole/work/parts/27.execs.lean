/-! orders are executed -/
def lv (x : Od) (v : Int32) : Od := (x.1, x.2.1, x.2.2.1, x.2.2.2.1, v, x.2.2.2.2.2)
def xl (L : List Od) (i : Nat) (x : Od) : List Od := if x.2.2.2.2.1 - nI 1 = nI 0 then L.eraseIdx i else L.set i (lv x (x.2.2.2.2.1 - nI 1))
/-- an order is executed once -/
def xs1 (S : St) (m i : Nat) (x : Od) : St :=
  (ug (tr S m x.2.1.toNatClampNeg x.2.2.2.1.toNatClampNeg (nI 1) x.1).1 3 (nI (xl S.2.1 i x).length), xl S.2.1 i x, (tr S m x.2.1.toNatClampNeg x.2.2.2.1.toNatClampNeg (nI 1) x.1).2.2)
/-- the executable orders of a market are executed, at most so many times -/
def xo : Nat → Nat → St → St
  | 0, _, S => S
  | f + 1, m, S => match S.2.1.findIdx? (xq S.1 m) with
    | none => S
    | some i => match S.2.1[i]? with
      | none => S
      | some x => xo f m (xs1 S m i x)
theorem tr_k {g : Nat → Int32} {m t o : Nat} {c due : Int32} {k : Nat} (h1 : k ≠ 6 + t) (h2 : k ≠ 18 + 43 * m) (h3 : k ≠ 49 + 43 * m + t) (h4 : k ≠ 25 + 43 * m + 4 * t + o) (h5 : k ≠ 21 + 43 * m + o) : tr_g g m t o c due k = g k := by
  unfold tr_g
  rw [ug_n h5, ug_n h4, ug_n h3, ug_n h2, ug_n h1]
theorem tr_K {S : St} {m t o : Nat} {c ord : Int32} {k : Nat} (h0 : k ≠ 4) (h1 : k ≠ 6 + t) (h2 : k ≠ 18 + 43 * m) (h3 : k ≠ 49 + 43 * m + t) (h4 : k ≠ 25 + 43 * m + 4 * t + o) (h5 : k ≠ 21 + 43 * m + o) : (tr S m t o c ord).1 k = S.1 k := by
  show ug _ 4 _ k = _
  rw [ug_n h0, tr_k h1 h2 h3 h4 h5]
theorem tr_4 {S : St} {m t o : Nat} {c ord : Int32} : (tr S m t o c ord).1 4 = S.1 4 + nI 1 := by
  unfold tr
  dsimp only
  rw [ug_s]
theorem nI_ne_m1 {k : Nat} (h : k < 2147483648) : nI k ≠ -1 := fun e => by
  have h1 := congrArg Int32.toInt e
  rw [nI_toInt h, show (-1 : Int32).toInt = -1 by decide] at h1
  omega
theorem xl_ov {L : List Od} {i : Nat} {x : Od} (h : OV L) (hx : L[i]? = some x) : OV (xl L i x) := by
  intro y hy
  unfold xl at hy
  split at hy
  · exact h y (List.mem_of_mem_eraseIdx hy)
  · rcases List.mem_or_eq_of_mem_set hy with hy | rfl
    · exact h y hy
    · exact h x (List.mem_of_getElem? hx)
section EXECS
variable {S : St} {C : (Nat → Nat → Int32) × (Nat → Nat → Nat)} {I : Nat → Nat → Int32} {M : Nat → Nat → Nat} {m n o t : Nat} {d : Nat} {Q : Option Value → ai_H → Prop}
/-- a row's shares that are left change -/
theorem EX.left (h : EX 1 S C I M) {i a : Nat} {x : Od} (hi : S.2.1[i]? = some x) (e : M 65 i = 66 + a + 1) (v : Int32) : EX 1 (S.1, S.2.1.set i (lv x v), S.2.2) C (ai_u I (66 + a) 4 v) M := by
  have h8 : i < S.2.1.length := (List.getElem?_eq_some_iff.mp hi).1
  obtain ⟨l1, l2, l3⟩ := h.len
  obtain ⟨p, p0, p1, p2, p3⟩ := h.rows
  have hpa : p i = a := by have := p1 i (by omega); omega
  subst hpa
  have hp := p0 i (by omega)
  have hb := h.bk (I' := ai_u I (66 + p i) 4 v) (M' := M) (L' := S.2.1.set i (lv x v)) (fun a ha => rfl) (fun a j g1 g2 => by simp (disch := omega) only [ai_uo])
    ⟨by rw [List.length_set]; omega, by rw [List.length_set]; simp (disch := omega) only [ai_uo]; exact l2, p, fun j hj => ⟨p0 j hj, by rw [p1 j hj]⟩, p2, fun j y hy => ?_⟩
  · rw [List.length_set, ← l3, ug_id] at hb
    exact hb
  · unfold oat
    rw [show 1 + 65 + p j = 66 + p j by omega]
    have hj8 : j < S.2.1.length := by have := (List.getElem?_eq_some_iff.mp hy).1; rwa [List.length_set] at this
    by_cases hji : j = i
    · subst hji
      rw [List.getElem?_set_self h8] at hy
      cases hy
      have g := p3 j x hi
      simp (disch := omega) only [ai_uo, ai_uh, g.1, g.2.1, g.2.2.1, g.2.2.2.1, g.2.2.2.2.2]
      rfl
    · rw [List.getElem?_set_ne (by omega)] at hy
      have g := p3 j y hy
      have hne : p j ≠ p i := fun e9 => hji (p2 j i (by omega) (by omega) e9)
      simp (disch := omega) only [ai_uo, g.1, g.2.1, g.2.2.1, g.2.2.2.1, g.2.2.2.2.1, g.2.2.2.2.2]
theorem erase_set {α : Type} {L : List α} {i : Nat} {x : α} : (L.set i x).eraseIdx i = L.eraseIdx i := by
  induction L generalizing i with
  | nil => rfl
  | cons y ys ih =>
    cases i with
    | zero => rfl
    | succ i =>
      show y :: (ys.set i x).eraseIdx i = y :: ys.eraseIdx i
      rw [ih]
/-- Exchange.executeOrders -/
theorem c15_l (hm : m < 6) (hn4 : n ≤ 4) : ∀ f i, f + i = 800 → ∀ (S : St) (T : Nat) (I : Nat → Nat → Int32) (M : Nat → Nat → Nat) (u v : Value), EX 1 S C I M → S.1 4 = nI T → T + f < 999999999 → S.1 (14 + 43 * m) = nI n → OV S.2.1 →
    (∀ I' M', EX 1 (xo f m S) C I' M' → Q none (LK, I', M')) → Ev (d + 4) X0 15 2 [.ref 1, .ref (4 + 10 * m), .int (nI i), u, v] [] (LK, I, M) Q
  | 0, i, hi, S, T, I, M, u, v, h, hT, hb, hn, hv, kk => by
    obtain rfl : i = 800 := by omega
    have k3 := kk I M h
    rw [H15_2]
    simp (disch := omega) only [K15, ai_c1i, ai_c1n, ai_c1r, e_aald, e_al0, e_al1, e_al4, e_an0, e_an1, e_an4, e_as4, e_az4, e_b1, e_c1, e_c3, e_const, e_cv2, e_cv6, e_dupi, e_dupr, e_getI, e_getR, e_goto, e_ii2, e_il2, e_il3, e_is2, e_is3, e_popi, e_popr, e_putI, e_ret, e_z1, Option.toList_some, Option.toList_none, List.cons_append, List.nil_append, List.append_nil, List.length_cons, List.length_nil, Nat.reduceAdd, Nat.reduceLeDiff, Nat.zero_le, true_and, and_true, and_self, true_implies, forall_const, ai_rvs, ai_rv0, ai_b_0, Classical.not_not, Int32.le_refl, not_true_eq_false, false_implies]
    exact k3
  | f + 1, i, hi, S, T, I, M, u, v, h, hT, hb, hn, hv, kk => by
    rw [H15_2]
    simp (disch := omega) only [K15, ai_c1i, ai_c1n, ai_c1r, e_aald, e_al0, e_al1, e_al4, e_an0, e_an1, e_an4, e_as4, e_az4, e_b1, e_c1, e_c3, e_const, e_cv2, e_cv6, e_dupi, e_dupr, e_getI, e_getR, e_goto, e_ii2, e_il2, e_il3, e_is2, e_is3, e_popi, e_popr, e_putI, e_ret, e_z1, Option.toList_some, Option.toList_none, List.cons_append, List.nil_append, List.append_nil, List.length_cons, List.length_nil, Nat.reduceAdd, Nat.reduceLeDiff, Nat.zero_le, true_and, and_true, and_self, true_implies, forall_const, ai_rvs, ai_rv0, ai_b_0, Classical.not_not, q_0, q_1, q_64, q_65, q_82, q_mk, q_od, nIle]
    refine ⟨fun g => absurd g (by omega), fun _ => ?_⟩
    refine c16 h hm hn hn4 hv (fun I1 i1 h1 hf => ?_) (fun I1 h1 hf => ?_)
    · obtain ⟨g8, g9, g10⟩ := List.findIdx?_eq_some_iff_getElem.mp hf
      obtain ⟨x, hx⟩ := get_lt g8
      obtain ⟨l1, l2, l3⟩ := h1.len
      obtain ⟨p, p0, p1, p2, p3⟩ := h1.rows
      have hp := p0 i1 (by omega)
      have e := p3 i1 x hx
      obtain ⟨t, o, ht, ho, et, eo⟩ := hv x (List.mem_of_getElem? hx)
      have ne : (nI i1 = -1) = False := eq_false (nI_ne_m1 (by omega))
      simp (disch := omega) only [K15, ai_c1i, ai_c1n, ai_c1r, e_aald, e_al0, e_al1, e_al4, e_an0, e_an1, e_an4, e_as4, e_az4, e_b1, e_c1, e_c3, e_const, e_cv2, e_cv6, e_dupi, e_dupr, e_getI, e_getR, e_goto, e_ii2, e_il2, e_il3, e_is2, e_is3, e_popi, e_popr, e_putI, e_ret, e_z1, Option.toList_some, Option.toList_none, List.cons_append, List.nil_append, List.append_nil, List.length_cons, List.length_nil, Nat.reduceAdd, Nat.reduceLeDiff, Nat.zero_le, true_and, and_true, and_self, true_implies, forall_const, ai_rvs, ai_rv0, ai_b_0, Classical.not_not, q_0, q_1, q_64, q_65, q_82, q_mk, q_od, ne, m_12 h1, m_bo h1, a_od, nIc, p1, e.1, e.2.1, e.2.2.2.1, et, eo, not_false_eq_true, false_implies]
      refine c12 h1 hT (by omega) hm hn hn4 ht ho fun I2 h2 => ?_
      have r2 := h2.row (x := x) hx (p1 i1 (by omega))
      have e4 : I2 (66 + p i1) 4 = x.2.2.2.2.1 := congrArg (fun y : Od => y.2.2.2.2.1) r2.2
      have h3 := h2.left (x := x) hx (p1 i1 (by omega)) (x.2.2.2.2.1 - nI 1)
      have hT' : (tr S m t o (nI 1) x.1).1 4 = nI (T + 1) := by rw [tr_4, hT, nIa]
      have hn' : (tr S m t o (nI 1) x.1).1 (14 + 43 * m) = nI n := by rw [tr_K (by omega) (by omega) (by omega) (by omega) (by omega) (by omega)]; exact hn
      have exs : xs1 S m i1 x = (ug (tr S m t o (nI 1) x.1).1 3 (nI (xl S.2.1 i1 x).length), xl S.2.1 i1 x, (tr S m t o (nI 1) x.1).2.2) := by
        unfold xs1
        rw [et, eo, nIc (by omega), nIc (by omega)]
      have exo : xo (f + 1) m S = xo f m (xs1 S m i1 x) := by rw [xo, hf]; dsimp only; rw [hx]
      rw [exo, exs] at kk
      have ih := fun I M u v h kk => c15_l hm hn4 f (i + 1) (by omega) (ug (tr S m t o (nI 1) x.1).1 3 (nI (xl S.2.1 i1 x).length), xl S.2.1 i1 x, (tr S m t o (nI 1) x.1).2.2) (T + 1) I M u v h (by dsimp only; rw [ug_n (by omega)]; exact hT') (by omega) (by dsimp only; rw [ug_n (by omega)]; exact hn') (xl_ov hv hx) kk
      simp (disch := omega) only [K15, ai_c1i, ai_c1n, ai_c1r, e_aald, e_al0, e_al1, e_al4, e_an0, e_an1, e_an4, e_as4, e_az4, e_b1, e_c1, e_c3, e_const, e_cv2, e_cv6, e_dupi, e_dupr, e_getI, e_getR, e_goto, e_ii2, e_il2, e_il3, e_is2, e_is3, e_popi, e_popr, e_putI, e_ret, e_z1, Option.toList_some, Option.toList_none, List.cons_append, List.nil_append, List.append_nil, List.length_cons, List.length_nil, Nat.reduceAdd, Nat.reduceLeDiff, Nat.zero_le, true_and, and_true, and_self, true_implies, forall_const, ai_rvs, ai_rv0, ai_b_0, Classical.not_not, q_0, q_1, q_64, q_65, q_82, q_mk, q_od, e4, BO, true_or, ai_uh, nIa]
      have l4 := (tr_K (S := S) (m := m) (t := t) (o := o) (c := nI 1) (ord := x.1) (k := 3) (by omega) (by omega) (by omega) (by omega) (by omega) (by omega)).trans l3
      refine ⟨fun g => ih _ _ _ _ ?_ kk, fun g => ?_⟩
      · have exl : xl S.2.1 i1 x = S.2.1.set i1 (lv x (x.2.2.2.2.1 - nI 1)) := by unfold xl; rw [if_neg g]
        rw [exl, List.length_set, ← l4, ug_id]
        exact h3
      · have exl : xl S.2.1 i1 x = S.2.1.eraseIdx i1 := by unfold xl; rw [if_pos g]
        simp (disch := omega) only [K15, ai_c1i, ai_c1n, ai_c1r, e_aald, e_al0, e_al1, e_al4, e_an0, e_an1, e_an4, e_as4, e_az4, e_b1, e_c1, e_c3, e_const, e_cv2, e_cv6, e_dupi, e_dupr, e_getI, e_getR, e_goto, e_ii2, e_il2, e_il3, e_is2, e_is3, e_popi, e_popr, e_putI, e_ret, e_z1, m_12 h3, q_0, q_1, q_64, q_65, q_82, q_mk, q_od, Option.toList_some, Option.toList_none, List.cons_append, List.nil_append, List.append_nil, List.length_cons, List.length_nil, Nat.reduceAdd, Nat.reduceLeDiff, Nat.zero_le, true_and, and_true, and_self, true_implies, forall_const, ai_rvs, ai_rv0, ai_b_0, Classical.not_not]
        refine c4 h3 (by dsimp only; rw [List.length_set]; exact g8) fun I4 M4 h4 => ?_
        simp (disch := omega) only [K15, ai_c1i, ai_c1n, ai_c1r, e_aald, e_al0, e_al1, e_al4, e_an0, e_an1, e_an4, e_as4, e_az4, e_b1, e_c1, e_c3, e_const, e_cv2, e_cv6, e_dupi, e_dupr, e_getI, e_getR, e_goto, e_ii2, e_il2, e_il3, e_is2, e_is3, e_popi, e_popr, e_putI, e_ret, e_z1, Option.toList_some, Option.toList_none, List.cons_append, List.nil_append, List.append_nil, List.length_cons, List.length_nil, Nat.reduceAdd, Nat.reduceLeDiff, Nat.zero_le, true_and, and_true, and_self, true_implies, forall_const, ai_rvs, ai_rv0, ai_b_0, Classical.not_not, nIa]
        refine ih _ _ _ _ ?_ kk
        dsimp only at h4
        rw [erase_set] at h4
        rw [exl]
        exact h4
    · have k3 := kk I1 M (by rw [xo, hf]; exact h1)
      simp (disch := omega) only [K15, ai_c1i, ai_c1n, ai_c1r, e_aald, e_al0, e_al1, e_al4, e_an0, e_an1, e_an4, e_as4, e_az4, e_b1, e_c1, e_c3, e_const, e_cv2, e_cv6, e_dupi, e_dupr, e_getI, e_getR, e_goto, e_ii2, e_il2, e_il3, e_is2, e_is3, e_popi, e_popr, e_putI, e_ret, e_z1, Option.toList_some, Option.toList_none, List.cons_append, List.nil_append, List.append_nil, List.length_cons, List.length_nil, Nat.reduceAdd, Nat.reduceLeDiff, Nat.zero_le, true_and, and_true, and_self, true_implies, forall_const, ai_rvs, ai_rv0, ai_b_0, Classical.not_not]
      exact ⟨fun g => absurd trivial g, k3⟩
theorem c15 {T : Nat} (h : EX 1 S C I M) (hT : S.1 4 = nI T) (hb : T < 999990000) (hm : m < 6) (hn : S.1 (14 + 43 * m) = nI n) (hn4 : n ≤ 4) (hv : OV S.2.1) (kk : ∀ I' M', EX 1 (xo 800 m S) C I' M' → Q none (LK, I', M')) : Cl (d + 4) 15 [.ref 1, .ref (4 + 10 * m)] (LK, I, M) Q := by
  simp (disch := omega) only [E15, K15, ai_c1i, ai_c1n, ai_c1r, e_aald, e_al0, e_al1, e_al4, e_an0, e_an1, e_an4, e_as4, e_az4, e_b1, e_c1, e_c3, e_const, e_cv2, e_cv6, e_dupi, e_dupr, e_getI, e_getR, e_goto, e_ii2, e_il2, e_il3, e_is2, e_is3, e_popi, e_popr, e_putI, e_ret, e_z1, Option.toList_some, Option.toList_none, List.cons_append, List.nil_append, List.append_nil, List.length_cons, List.length_nil, Nat.reduceAdd, Nat.reduceLeDiff, Nat.zero_le, true_and, and_true, and_self, true_implies, forall_const, ai_rvs, ai_rv0, ai_b_0, Classical.not_not]
  exact c15_l hm hn4 800 0 (by omega) S T I M _ _ h hT (by omega) hn hv kk
end EXECS
