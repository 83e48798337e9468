/-! all orders; sets; an order's obstacle; a market more -/
def cfg (m k : Nat) : Prop := k ≠ 3 ∧ k ≠ 4 ∧ k ≠ 18 + 43 * m ∧ ∀ t o, t < 6 → o < 4 → k ≠ 6 + t ∧ k ≠ 49 + 43 * m + t ∧ k ≠ 25 + 43 * m + 4 * t + o ∧ k ≠ 21 + 43 * m + o
theorem xs1_K {S : St} {m i k : Nat} {x : Od} (hv : OV S.2.1) (hx : S.2.1[i]? = some x) (hk : cfg m k) : (xs1 S m i x).1 k = S.1 k := by
  obtain ⟨t, o, ht, ho, et, eo⟩ := hv x (List.mem_of_getElem? hx)
  unfold xs1
  rw [et, eo, nIc (by omega), nIc (by omega)]
  dsimp only
  obtain ⟨h1, h2, h3, h4⟩ := hk
  obtain ⟨g1, g2, g3, g4⟩ := h4 t o ht ho
  rw [ug_n h1, tr_K h2 g1 h3 g2 g3 g4]
theorem xs1_4 {S : St} {m i : Nat} {x : Od} : (xs1 S m i x).1 4 = S.1 4 + nI 1 := by
  unfold xs1
  dsimp only
  rw [ug_n (by omega), tr_4]
theorem xs1_L {S : St} {m i : Nat} {x : Od} : (xs1 S m i x).2.1 = xl S.2.1 i x := rfl
theorem xo_K {m k : Nat} (hk : cfg m k) : ∀ (f : Nat) (S : St), OV S.2.1 → OV (xo f m S).2.1 ∧ (xo f m S).1 k = S.1 k
  | 0, S, hv => ⟨hv, rfl⟩
  | f + 1, S, hv => by
    rw [xo]
    split
    · exact ⟨hv, rfl⟩
    · split
      · exact ⟨hv, rfl⟩
      · rename_i i _ _ x hx
        have ih := xo_K hk f (xs1 S m i x) (by rw [xs1_L]; exact xl_ov hv hx)
        exact ⟨ih.1, ih.2.trans (xs1_K hv hx hk)⟩
theorem xo_4 {m : Nat} : ∀ (f : Nat) (S : St) (T : Nat), S.1 4 = nI T → ∃ T', (xo f m S).1 4 = nI T' ∧ T ≤ T' ∧ T' ≤ T + f
  | 0, S, T, h => ⟨T, h, Nat.le_refl _, Nat.le_refl _⟩
  | f + 1, S, T, h => by
    rw [xo]
    split
    · exact ⟨T, h, by omega, by omega⟩
    · split
      · exact ⟨T, h, by omega, by omega⟩
      · rename_i i _ _ x hx
        obtain ⟨T', h1, h2, h3⟩ := xo_4 (m := m) f (xs1 S m i x) (T + 1) (by rw [xs1_4, h, nIa])
        exact ⟨T', h1, by omega, by omega⟩
theorem xo_ov {m f : Nat} {S : St} (hv : OV S.2.1) : OV (xo f m S).2.1 := (xo_K (k := 0) ⟨by omega, by omega, by omega, fun t o _ _ => ⟨by omega, by omega, by omega, by omega⟩⟩ f S hv).1
theorem cfg_1 {m : Nat} : cfg m 1 := ⟨by omega, by omega, by omega, fun t o _ _ => ⟨by omega, by omega, by omega, by omega⟩⟩
theorem cfg_w {m m' w : Nat} (hw : w < 9) (hw6 : w ≠ 6) : cfg m (12 + 43 * m' + w) := by
  refine ⟨by omega, by omega, by omega, fun t o _ _ => ?_⟩
  rcases Nat.lt_trichotomy m m' with h | h | h
  · exact ⟨by omega, by omega, by omega, by omega⟩
  · exact ⟨by omega, by omega, by omega, by omega⟩
  · exact ⟨by omega, by omega, by omega, by omega⟩
theorem cfg_n {m m' : Nat} : cfg m (14 + 43 * m') := by
  rw [← p_2]
  exact cfg_w (by omega) (by omega)
def xa : Nat → St → St
  | 0, S => S
  | k + 1, S => xo 800 k (xa k S)
theorem xa_p {k j : Nat} (hj : ∀ m, cfg m j) (S : St) (T : Nat) (hv : OV S.2.1) (hT : S.1 4 = nI T) : OV (xa k S).2.1 ∧ (xa k S).1 j = S.1 j ∧ ∃ T', (xa k S).1 4 = nI T' ∧ T ≤ T' ∧ T' ≤ T + 800 * k := by
  induction k with
  | zero => exact ⟨hv, rfl, T, hT, Nat.le_refl _, Nat.le_refl _⟩
  | succ k ih =>
    obtain ⟨h1, h2, T1, h3, h4, h5⟩ := ih
    obtain ⟨T2, g3, g4, g5⟩ := xo_4 (m := k) 800 (xa k S) T1 h3
    rw [xa]
    have g1 := xo_ov (m := k) (f := 800) h1
    have g2 := (xo_K (hj k) 800 _ h1).2.trans h2
    refine ⟨g1, g2, T2, g3, Nat.le_trans h4 g4, ?_⟩
    rw [Nat.mul_succ, ← Nat.add_assoc]
    exact Nat.le_trans g5 (Nat.add_le_add_right h5 800)
section EXECA
variable {S : St} {C : (Nat → Nat → Int32) × (Nat → Nat → Nat)} {I : Nat → Nat → Int32} {M : Nat → Nat → Nat} {m n o t : Nat} {d : Nat} {Q : Option Value → ai_H → Prop}
/-- the markets' outcomes are a few -/
def NV (g : Nat → Int32) (k : Nat) : Prop := ∀ m, m < k → ∃ n, g (14 + 43 * m) = nI n ∧ 2 ≤ n ∧ n ≤ 4
/-- Exchange.executeAllOrders -/
theorem c14_l {k : Nat} {T : Nat} (hT : S.1 4 = nI T) (hb : T < 999980000) (hk : S.1 1 = nI k) (hk6 : k ≤ 6) (hn : NV S.1 k) (hv : OV S.2.1) (kk : ∀ I' M', EX 1 (xa k S) C I' M' → Q none (LK, I', M')) :
    ∀ r i, r + i = k → ∀ I M, EX 1 (xa i S) C I M → Ev (d + 5) X0 14 2 [.ref 1, .int (nI i)] [] (LK, I, M) Q
  | 0, i, hi, I, M, h => by
    obtain rfl : i = k := by omega
    obtain ⟨-, e1, -⟩ := xa_p (k := i) (fun m => cfg_1) S T hv hT
    have k3 := kk I M h
    rw [H14_2]
    simp (disch := omega) only [K14, ai_c1i, ai_c1n, ai_c1r, e_aald, e_al0, e_an0, e_c3, e_const, e_cv2, e_getI, e_getR, e_goto, e_ii1, e_il1, e_is1, e_ret, Option.toList_some, Option.toList_none, List.cons_append, List.nil_append, List.append_nil, List.length_cons, List.length_nil, Nat.reduceAdd, Nat.reduceLeDiff, Nat.zero_le, true_and, and_true, and_self, true_implies, forall_const, ai_rvs, ai_rv0, ai_b_0, Classical.not_not, q_0, q_1, q_64, q_65, q_82, q_mk, q_od, rd_mc h, e1, hk, Int32.le_refl, not_true_eq_false, false_implies]
    exact k3
  | r + 1, i, hi, I, M, h => by
    obtain ⟨v1, e1, T1, t1, t2, t3⟩ := xa_p (k := i) (fun m => cfg_1) S T hv hT
    obtain ⟨n, n1, n2, n3⟩ := hn i (by omega)
    have n4 := (xa_p (k := i) (fun m => cfg_n (m' := i)) S T hv hT).2.1.trans n1
    rw [H14_2]
    simp (disch := omega) only [K14, ai_c1i, ai_c1n, ai_c1r, e_aald, e_al0, e_an0, e_c3, e_const, e_cv2, e_getI, e_getR, e_goto, e_ii1, e_il1, e_is1, e_ret, Option.toList_some, Option.toList_none, List.cons_append, List.nil_append, List.append_nil, List.length_cons, List.length_nil, Nat.reduceAdd, Nat.reduceLeDiff, Nat.zero_le, true_and, and_true, and_self, true_implies, forall_const, ai_rvs, ai_rv0, ai_b_0, Classical.not_not, q_0, q_1, q_64, q_65, q_82, q_mk, q_od, rd_mc h, e1, hk, nIle, m_11 h, a_mk, nIc, m_mk h]
    refine ⟨fun g => absurd g (by omega), fun _ => ?_⟩
    refine c15 h t1 (by omega) (by omega) n4 n3 v1 fun I1 M1 h1 => ?_
    simp (disch := omega) only [K14, ai_c1i, ai_c1n, ai_c1r, e_aald, e_al0, e_an0, e_c3, e_const, e_cv2, e_getI, e_getR, e_goto, e_ii1, e_il1, e_is1, e_ret, Option.toList_some, Option.toList_none, List.cons_append, List.nil_append, List.append_nil, List.length_cons, List.length_nil, Nat.reduceAdd, Nat.reduceLeDiff, Nat.zero_le, true_and, and_true, and_self, true_implies, forall_const, ai_rvs, ai_rv0, ai_b_0, Classical.not_not, nIa]
    exact c14_l hT hb hk hk6 hn hv kk r (i + 1) (by omega) I1 M1 h1
theorem c14 {k : Nat} {T : Nat} (h : EX 1 S C I M) (hT : S.1 4 = nI T) (hb : T < 999980000) (hk : S.1 1 = nI k) (hk6 : k ≤ 6) (hn : NV S.1 k) (hv : OV S.2.1) (kk : ∀ I' M', EX 1 (xa k S) C I' M' → Q none (LK, I', M')) : Cl (d + 5) 14 [.ref 1] (LK, I, M) Q := by
  simp (disch := omega) only [E14, K14, ai_c1i, ai_c1n, ai_c1r, e_aald, e_al0, e_an0, e_c3, e_const, e_cv2, e_getI, e_getR, e_goto, e_ii1, e_il1, e_is1, e_ret, Option.toList_some, Option.toList_none, List.cons_append, List.nil_append, List.append_nil, List.length_cons, List.length_nil, Nat.reduceAdd, Nat.reduceLeDiff, Nat.zero_le, true_and, and_true, and_self, true_implies, forall_const, ai_rvs, ai_rv0, ai_b_0, Classical.not_not]
  exact c14_l hT hb hk hk6 hn hv kk k 0 (by omega) I M h
/-- Exchange.exchangeSet -/
def trs (m t : Nat) (s c : Int32) : Nat → St → St
  | 0, S => S
  | i + 1, S => if b_in s i then tr (trs m t s c i S) m t i c (-1) else trs m t s c i S
theorem trs_p {s c : Int32} {k T : Nat} (ht : t < 6) (hk : cfg m k) (hT : S.1 4 = nI T) : ∀ i, i ≤ 4 → (trs m t s c i S).1 k = S.1 k ∧ (trs m t s c i S).2.1 = S.2.1 ∧ ∃ T', (trs m t s c i S).1 4 = nI T' ∧ T ≤ T' ∧ T' ≤ T + i
  | 0, _ => ⟨rfl, rfl, T, hT, Nat.le_refl _, Nat.le_refl _⟩
  | i + 1, hi => by
    obtain ⟨h1, h2, T1, h3, h4, h5⟩ := trs_p (s := s) (c := c) ht hk hT i (by omega)
    rw [trs]
    split
    · obtain ⟨k1, k2, k3, k4⟩ := hk
      obtain ⟨g1, g2, g3, g4⟩ := k4 t i ht (by omega)
      exact ⟨(tr_K k2 g1 k3 g2 g3 g4).trans h1, h2, T1 + 1, by rw [tr_4, h3, nIa], by omega, by omega⟩
    · exact ⟨h1, h2, T1, h3, by omega, by omega⟩
theorem c13_l {s c : Int32} {T : Nat} (hT : S.1 4 = nI T) (hb : T < 999990000) (hm : m < 6) (hn : S.1 (14 + 43 * m) = nI n) (hn4 : n ≤ 4) (ht : t < 6) (kk : ∀ I', EX 1 (trs m t s c n S) C I' M → Q none (LK, I', M)) :
    ∀ r i, r + i = n → ∀ I, EX 1 (trs m t s c i S) C I M → Ev (d + 4) X0 13 3 [.ref 1, .ref (4 + 10 * m), .int (nI t), .int s, .int c, .int (nI i)] [] (LK, I, M) Q
  | 0, i, hi, I, h => by
    obtain rfl : i = n := by omega
    have e1 := (trs_p (s := s) (c := c) ht (cfg_n (m := m) (m' := m)) hT i hn4).1.trans hn
    have k3 := kk I h
    rw [H13_3]
    simp (disch := omega) only [K13, ai_c1i, ai_c1n, ai_c1r, e_al0, e_al1, e_an0, e_an1, e_c3, e_const, e_cs2, e_cv6, e_getI, e_goto, e_ii5, e_il2, e_il3, e_il4, e_il5, e_is5, e_popi, e_popr, e_ret, e_z0, Option.toList_some, Option.toList_none, List.cons_append, List.nil_append, List.append_nil, List.length_cons, List.length_nil, Nat.reduceAdd, Nat.reduceLeDiff, Nat.zero_le, true_and, and_true, and_self, true_implies, forall_const, ai_rvs, ai_rv0, ai_b_0, Classical.not_not, q_0, q_1, q_64, q_65, q_82, q_mk, q_od, rd_nO h, p_2, e1, Int32.le_refl, not_true_eq_false, false_implies]
    exact k3
  | r + 1, i, hi, I, h => by
    obtain ⟨e1, e2, T1, t1, t2, t3⟩ := trs_p (s := s) (c := c) ht (cfg_n (m := m) (m' := m)) hT i (by omega)
    have ih := c13_l hT hb hm hn hn4 ht kk r (i + 1) (by omega)
    rw [trs] at ih
    rw [H13_3]
    simp (disch := omega) only [K13, ai_c1i, ai_c1n, ai_c1r, e_al0, e_al1, e_an0, e_an1, e_c3, e_const, e_cs2, e_cv6, e_getI, e_goto, e_ii5, e_il2, e_il3, e_il4, e_il5, e_is5, e_popi, e_popr, e_ret, e_z0, Option.toList_some, Option.toList_none, List.cons_append, List.nil_append, List.append_nil, List.length_cons, List.length_nil, Nat.reduceAdd, Nat.reduceLeDiff, Nat.zero_le, true_and, and_true, and_self, true_implies, forall_const, ai_rvs, ai_rv0, ai_b_0, Classical.not_not, q_0, q_1, q_64, q_65, q_82, q_mk, q_od, rd_nO h, p_2, e1, hn, nIle, c94]
    refine ⟨fun g => absurd g (by omega), fun _ => ⟨fun g => ?_, fun g => ?_⟩⟩
    · have hf : b_in s i = false := decide_eq_false g
      rw [hf] at ih
      simp (disch := omega) only [nIa]
      exact ih I h
    · have hf : b_in s i = true := decide_eq_true g
      rw [hf] at ih
      refine c12 h t1 (by omega) hm (e1.trans hn) hn4 ht (by omega) fun I1 h1 => ?_
      simp (disch := omega) only [K13, ai_c1i, ai_c1n, ai_c1r, e_al0, e_al1, e_an0, e_an1, e_c3, e_const, e_cs2, e_cv6, e_getI, e_goto, e_ii5, e_il2, e_il3, e_il4, e_il5, e_is5, e_popi, e_popr, e_ret, e_z0, Option.toList_some, Option.toList_none, List.cons_append, List.nil_append, List.append_nil, List.length_cons, List.length_nil, Nat.reduceAdd, Nat.reduceLeDiff, Nat.zero_le, true_and, and_true, and_self, true_implies, forall_const, ai_rvs, ai_rv0, ai_b_0, Classical.not_not, nIa]
      exact ih I1 h1
theorem c13 {s c : Int32} {T : Nat} (h : EX 1 S C I M) (hT : S.1 4 = nI T) (hb : T < 999990000) (hm : m < 6) (hn : S.1 (14 + 43 * m) = nI n) (hn4 : n ≤ 4) (ht : t < 6) (kk : ∀ I', EX 1 (trs m t s c n S) C I' M → Q none (LK, I', M)) : Cl (d + 4) 13 [.ref 1, .ref (4 + 10 * m), .int (nI t), .int s, .int c] (LK, I, M) Q := by
  simp (disch := omega) only [E13, K13, ai_c1i, ai_c1n, ai_c1r, e_al0, e_al1, e_an0, e_an1, e_c3, e_const, e_cs2, e_cv6, e_getI, e_goto, e_ii5, e_il2, e_il3, e_il4, e_il5, e_is5, e_popi, e_popr, e_ret, e_z0, Option.toList_some, Option.toList_none, List.cons_append, List.nil_append, List.append_nil, List.length_cons, List.length_nil, Nat.reduceAdd, Nat.reduceLeDiff, Nat.zero_le, true_and, and_true, and_self, true_implies, forall_const, ai_rvs, ai_rv0, ai_b_0, Classical.not_not]
  exact c13_l hT hb hm hn hn4 ht kk n 0 (by omega) I h
/-- Exchange.obstacleOf, of an order of a market that is there -/
def m_oo (g : Nat → Int32) (x : Od) : Int32 := m_ob x.2.2.2.2.2 (m_due g x.2.2.1.toNatClampNeg x.2.2.2.1.toNatClampNeg (nI 1)) (g (6 + x.2.1.toNatClampNeg)) (g (21 + 43 * x.2.2.1.toNatClampNeg + x.2.2.2.1.toNatClampNeg))
theorem c17 {k : Nat} (h : EX 1 S C I M) (hk : S.1 1 = nI k) (hk6 : k ≤ 6) (hN : NV S.1 k) {i a : Nat} {x : Od} (hx : S.2.1[i]? = some x) (ea : M 65 i = 66 + a + 1) (hm : m < k) (em : x.2.2.1 = nI m) (hn : S.1 (14 + 43 * m) = nI n) (hn4 : n ≤ 4) (ho : o < n) (eo : x.2.2.2.1 = nI o) (ht : t < 6) (et : x.2.1 = nI t) (kk : ∀ I', EX 1 S C I' M → Q (some (.int (m_oo S.1 x))) (LK, I', M)) : Cl (d + 3) 17 [.ref 1, .ref (66 + a)] (LK, I, M) Q := by
  have hr := h.row hx ea
  have r2 : I (66 + a) 2 = nI m := by rw [← em, ← hr.2]; rfl
  have r3 : I (66 + a) 3 = nI o := by rw [← eo, ← hr.2]; rfl
  have ha := hr.1
  simp (disch := omega) only [E17, K17, ai_c1i, ai_c1n, ai_c1r, e_al0, e_al1, e_al2, e_an0, e_an1, e_an2, e_as2, e_az2, e_const, e_cv3, e_cv4, e_getI, e_getR, e_iald, e_il3, e_is3, e_reti, e_xn, e_xr, Option.toList_some, Option.toList_none, List.cons_append, List.nil_append, List.append_nil, List.length_cons, List.length_nil, Nat.reduceAdd, Nat.reduceLeDiff, Nat.zero_le, true_and, and_true, and_self, true_implies, forall_const, ai_rvs, ai_rv0, ai_b_0, Classical.not_not, q_0, q_1, q_64, q_65, q_82, q_mk, q_od, r2, r3]
  refine c10 h hk hk6 (fun m' hm' => (hN m' hm').imp fun _ g => ⟨g.1, g.2.2⟩) (fun m' n' o' hm' hn' hn4' ho' e1 e2 => ?_) (fun hno => (hno m n o hm hn ho hn4 rfl rfl).elim)
  obtain rfl := (nIeq (by omega) (by omega)).mp e1
  simp (disch := omega) only [K17, ai_c1i, ai_c1n, ai_c1r, e_al0, e_al1, e_al2, e_an0, e_an1, e_an2, e_as2, e_az2, e_const, e_cv3, e_cv4, e_getI, e_getR, e_iald, e_il3, e_is3, e_reti, e_xn, e_xr, Option.toList_some, Option.toList_none, List.cons_append, List.nil_append, List.append_nil, List.length_cons, List.length_nil, Nat.reduceAdd, Nat.reduceLeDiff, Nat.zero_le, true_and, and_true, and_self, true_implies, forall_const, ai_rvs, ai_rv0, ai_b_0, Classical.not_not, q_0, q_1, q_64, q_65, q_82, q_mk, q_od, r3]
  refine c43 h (by omega) hn hn4 (by omega) fun I1 h1 => ?_
  have hr1 := h1.row hx ea
  have r13 : I1 (66 + a) 3 = nI o := by rw [← eo, ← hr1.2]; rfl
  have k1 := kk I1 h1
  simp (disch := omega) only [K17, ai_c1i, ai_c1n, ai_c1r, e_al0, e_al1, e_al2, e_an0, e_an1, e_an2, e_as2, e_az2, e_const, e_cv3, e_cv4, e_getI, e_getR, e_iald, e_il3, e_is3, e_reti, e_xn, e_xr, Option.toList_some, Option.toList_none, List.cons_append, List.nil_append, List.append_nil, List.length_cons, List.length_nil, Nat.reduceAdd, Nat.reduceLeDiff, Nat.zero_le, true_and, and_true, and_self, true_implies, forall_const, ai_rvs, ai_rv0, ai_b_0, Classical.not_not, q_0, q_1, q_64, q_65, q_82, q_mk, q_od, r13, m_sh h1, a_sh, nIc, rd_sh h1, c18 h1 hr1.1 hr1.2 ht et]
  unfold m_oo at k1
  rw [em, eo, et, nIc (by omega), nIc (by omega), nIc (by omega), m_due, nN_of hn hn4] at k1
  exact k1
end EXECA
