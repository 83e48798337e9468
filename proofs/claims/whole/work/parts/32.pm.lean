/-! the maker's methods -/
def mAt (g : Nat → Int32) (x : Int32) : Option Nat := if nI 0 ≤ x ∧ x < g 1 then some x.toNatClampNeg else none
def mWith (g : Nat → Int32) (x y : Int32) : Option (Nat × Nat) := match mAt g x with
  | none => none
  | some m => if nI 0 ≤ y ∧ y < g (14 + 43 * m) then some (m, y.toNatClampNeg) else none
theorem nI_ofr {x : Int32} {k : Nat} (h0 : nI 0 ≤ x) (hk : x < nI k) (h : k < 2147483648) : ∃ j, j < k ∧ x = nI j := by
  rcases sw_cases x k with g | g
  · exact g
  · have h1 : ¬ x.toInt < 0 := by
      have h2 := Int32.le_iff_toInt_le.mp h0
      rw [show (nI 0).toInt = 0 by decide] at h2
      omega
    have h3 := Int32.lt_iff_toInt_lt.mp hk
    rw [nI_toInt h] at h3
    refine absurd ?_ (g x.toInt.toNat (by omega))
    apply Int32.toInt_inj.mp
    rw [nI_toInt (by omega)]
    omega
theorem nI_0le (k : Nat) (h : k < 2147483648) : nI 0 ≤ nI k := (nIle (by omega) h).mpr (by omega)
/-- numbers of markets, of outcomes -/
def VB (g : Nat → Int32) (k : Nat) : Prop := g 1 = nI k ∧ k ≤ 6 ∧ NV g k
theorem mAt_s {g : Nat → Int32} {k m : Nat} (h : VB g k) (hm : m < k) : mAt g (nI m) = some m := by
  obtain ⟨h1, h2, h3⟩ := h
  unfold mAt
  rw [h1, if_pos ⟨nI_0le m (by omega), (nIlt (by omega) (by omega)).mpr hm⟩, nIc (by omega)]
theorem mAt_c {g : Nat → Int32} {k : Nat} (h : VB g k) (x : Int32) : (∃ m, m < k ∧ x = nI m ∧ mAt g x = some m) ∨ (mAt g x = none ∧ ∀ m, m < k → x ≠ nI m) := by
  rcases sw_cases x k with ⟨m, hm, rfl⟩ | hx
  · exact Or.inl ⟨m, hm, rfl, mAt_s h hm⟩
  · refine Or.inr ⟨?_, hx⟩
    obtain ⟨h1, h2, h3⟩ := h
    unfold mAt
    rw [h1, if_neg]
    rintro ⟨g1, g2⟩
    obtain ⟨j, hj, rfl⟩ := nI_ofr g1 g2 (by omega)
    exact hx j hj rfl
theorem mW_c {g : Nat → Int32} {k : Nat} (h : VB g k) (x y : Int32) : (∃ m n o, m < k ∧ x = nI m ∧ g (14 + 43 * m) = nI n ∧ 2 ≤ n ∧ n ≤ 4 ∧ o < n ∧ y = nI o ∧ mWith g x y = some (m, o)) ∨ (mWith g x y = none ∧ ∀ m n o, m < k → g (14 + 43 * m) = nI n → o < n → n ≤ 4 → x = nI m → y = nI o → False) := by
  rcases mAt_c h x with ⟨m, hm, rfl, e⟩ | ⟨e, hx⟩
  · obtain ⟨h1, h2, h3⟩ := h
    obtain ⟨n, n1, n2, n3⟩ := h3 m hm
    rcases sw_cases y n with ⟨o, ho, rfl⟩ | hy
    · refine Or.inl ⟨m, n, o, hm, rfl, n1, n2, n3, ho, rfl, ?_⟩
      unfold mWith
      rw [e]
      dsimp only
      rw [n1, if_pos ⟨nI_0le o (by omega), (nIlt (by omega) (by omega)).mpr ho⟩, nIc (by omega)]
    · refine Or.inr ⟨?_, fun m' n' o' hm' hn' ho' hn4 e1 e2 => ?_⟩
      · unfold mWith
        rw [e]
        dsimp only
        rw [n1, if_neg]
        rintro ⟨g1, g2⟩
        obtain ⟨j, hj, rfl⟩ := nI_ofr g1 g2 (by omega)
        exact hy j hj rfl
      · obtain rfl := (nIeq (by omega) (by omega)).mp e1
        obtain rfl := (nIeq (by omega) (by omega)).mp (hn'.symm.trans n1)
        exact hy o' ho' e2
  · refine Or.inr ⟨?_, fun m n o hm _ _ _ e1 _ => hx m hm e1⟩
    unfold mWith
    rw [e]
/-- what lies around the exchange -/
def PC (C : (Nat → Nat → Int32) × (Nat → Nat → Nat)) : Prop := C.2 0 0 = 1 + 1 ∧ C.2 0 1 = 114 + 1 ∧ C.2 0 2 = 227 + 1 ∧ C.2 227 0 = 228 + 1
section PM
variable {S : St} {C : (Nat → Nat → Int32) × (Nat → Nat → Nat)} {I : Nat → Nat → Int32} {M : Nat → Nat → Nat} {m n o t k : Nat} {d : Nat} {Q : Option Value → ai_H → Prop}
theorem m_00 (h : EX 1 S C I M) (hp : PC C) : M 0 0 = 1 + 1 := by rw [(h.1 0 (by omega)).2]; exact hp.1
theorem m_01 (h : EX 1 S C I M) (hp : PC C) : M 0 1 = 114 + 1 := by rw [(h.1 0 (by omega)).2]; exact hp.2.1
theorem m_02 (h : EX 1 S C I M) (hp : PC C) : M 0 2 = 227 + 1 := by rw [(h.1 0 (by omega)).2]; exact hp.2.2.1
theorem m_tx (h : EX 1 S C I M) (hp : PC C) : M 227 0 = 228 + 1 := by rw [(h.1 227 (by omega)).2]; exact hp.2.2.2
/-- finding a market: the two ways on -/
theorem c9m (h : EX 1 S C I M) (hv : VB S.1 k) {x : Int32} (k1 : ∀ m, m < k → x = nI m → mAt S.1 x = some m → Q (some (.ref (4 + 10 * m))) (LK, I, M)) (k2 : mAt S.1 x = none → Q (some .null) (LK, I, M)) : Cl d 9 [.ref 1, .int x] (LK, I, M) Q := by
  refine c9 h hv.1 hv.2.1 (fun m hm e => k1 m hm e (by rw [e]; exact mAt_s hv hm)) (fun hx => k2 ?_)
  rcases mAt_c hv x with ⟨m, hm, e, -⟩ | ⟨e, -⟩
  · exact (hx m hm e).elim
  · exact e
theorem c10m (h : EX 1 S C I M) (hv : VB S.1 k) {x y : Int32} (k1 : ∀ m n o, m < k → x = nI m → S.1 (14 + 43 * m) = nI n → 2 ≤ n → n ≤ 4 → o < n → y = nI o → mWith S.1 x y = some (m, o) → Q (some (.ref (4 + 10 * m))) (LK, I, M)) (k2 : mWith S.1 x y = none → Q (some .null) (LK, I, M)) : Cl (d + 1) 10 [.ref 1, .int x, .int y] (LK, I, M) Q := by
  refine c10 h hv.1 hv.2.1 (fun m hm => (hv.2.2 m hm).imp fun _ g => ⟨g.1, g.2.2⟩) (fun m n o hm hn hn4 ho e1 e2 => ?_) (fun hno => k2 ?_)
  · rcases mW_c hv x y with ⟨m', n', o', g1, g2, g3, g4, g5, g6, g7, g8⟩ | ⟨e, hx⟩
    · have hmm := (nIeq (by have := hv.2.1; omega) (by have := hv.2.1; omega)).mp (e1.symm.trans g2)
      subst hmm
      exact k1 m n' o' g1 g2 g3 g4 g5 g6 g7 g8
    · exact (hx m n o hm hn ho hn4 e1 e2).elim
  · rcases mW_c hv x y with ⟨m', n', o', g1, g2, g3, g4, g5, g6, g7, g8⟩ | ⟨e, hx⟩
    · exact (hno m' n' o' g1 g3 g6 g5 g2 g7).elim
    · exact e
def p_can (g : Nat → Int32) (b n e : Int32) : Bool := decide (nI 1 ≤ b ∧ b ≤ nI 60) && decide (nI 60 - nI 60 / b * b = nI 0) && decide (nI 2 ≤ n ∧ n ≤ nI 4) && decide (g 0 + nI 1 ≤ e ∧ e ≤ nI 999)
theorem c91 (h : EX 1 S C I M) (hp : PC C) {b n e : Int32} : Cl (d + 1) 91 [.ref 0, .int b, .int n, .int e] (LK, I, M) Q ↔ Q (some (.int (ai_b (p_can S.1 b n e = true)))) (LK, I, M) := by
  refine Cl_one ?_
  simp (disch := omega) only [E91, K91, ai_c1i, ai_c1n, ai_c1r, e_al0, e_an0, e_b0, e_const, e_cs3, e_getI, e_getR, e_goto, e_il1, e_il2, e_il3, e_rem, e_retb, e_z0, e_z1, Option.toList_some, Option.toList_none, List.cons_append, List.nil_append, List.append_nil, List.length_cons, List.length_nil, Nat.reduceAdd, Nat.reduceLeDiff, Nat.zero_le, true_and, and_true, and_self, true_implies, forall_const, ai_rvs, ai_rv0, ai_b_0, Classical.not_not, q_0, q_1, q_64, q_65, q_82, q_mk, q_od, c95, m_00 h hp, rd_time h]
  have hf : p_can S.1 b n e = false → nI 0 = ai_b (p_can S.1 b n e = true) := fun e => by rw [e, ai_b_f Bool.false_ne_true]
  refine ⟨fun g => ⟨Or.inl rfl, ?_⟩, fun g => ⟨fun e0 => ?_, fun g1 => ⟨Or.inl rfl, ?_⟩, fun g1 => ⟨fun g2 => ⟨Or.inl rfl, ?_⟩, fun g2 => ⟨fun g3 => ⟨Or.inl rfl, ?_⟩, fun g3 => ⟨Or.inr rfl, ?_⟩⟩⟩⟩⟩
  · rw [hf (by unfold p_can; rw [decide_eq_false g]; rfl)]
  · rw [e0] at g
    exact absurd g (by decide)
  · rw [hf (by unfold p_can; rw [decide_eq_false g1, Bool.and_false]; rfl)]
  · rw [hf (by unfold p_can; rw [decide_eq_false g2, Bool.and_false]; rfl)]
  · rw [hf (by unfold p_can; rw [decide_eq_false g3, Bool.and_false])]
  · rw [ai_b_t]
    unfold p_can
    rw [decide_eq_true g, decide_eq_true g1, decide_eq_true g2, decide_eq_true g3]
    rfl
/-! openMarket, openLinked -/
def p_addM (S : St) (b n e cm co : Int32) : Int32 × St := if S.1 1 = nI 6 then (-1000000003, S) else (S.1 1, (add_g S.1 (S.1 1).toNatClampNeg b n e cm co, S.2))
def p_open (S : St) (b n e : Int32) : Int32 × St := if p_can S.1 b n e then p_addM S b n e (-1) (-1) else (-1000000002, S)
def p_link (S : St) (b n e x y : Int32) : Int32 × St := if p_can S.1 b n e then (match mWith S.1 x y with
  | none => (-1000000001, S)
  | some (m, _) => if S.1 (12 + 43 * m) = nI 0 ∨ S.1 (12 + 43 * m) = nI 1 then p_addM S b n e x y else (-1000000004, S)) else (-1000000002, S)
theorem c11p (h : EX 1 S C I M) (hv : VB S.1 k) {b n e cm co : Int32} (kk : ∀ I', EX 1 (p_addM S b n e cm co).2 C I' M → Q (some (.int (p_addM S b n e cm co).1)) (LK, I', M)) : Cl d 11 [.ref 1, .int b, .int n, .int e, .int cm, .int co] (LK, I, M) Q := by
  refine c11 h hv.1 hv.2.1 (fun hk => ?_) (fun hk I' h' => ?_)
  · unfold p_addM at kk
    rw [hv.1, hk, if_pos rfl] at kk
    exact kk I h
  · unfold p_addM at kk
    rw [hv.1, if_neg (by rw [nIeq (by omega) (by omega)]; omega), nIc (by omega)] at kk
    exact kk I' h'
theorem c61 (h : EX 1 S C I M) (hp : PC C) (hv : VB S.1 k) {b n e : Int32} (kk : ∀ I', EX 1 (p_open S b n e).2 C I' M → Q (some (.int (p_open S b n e).1)) (LK, I', M)) : Cl (d + 2) 61 [.ref 0, .int b, .int n, .int e] (LK, I, M) Q := by
  unfold p_open at kk
  by_cases g : p_can S.1 b n e = true
  · rw [if_pos g] at kk
    simp (disch := omega) only [E61, K61, ai_c1i, ai_c1n, ai_c1r, e_al0, e_an0, e_const, e_cv4, e_cv6, e_getR, e_il1, e_il2, e_il3, e_reti, e_z1, Option.toList_some, Option.toList_none, List.cons_append, List.nil_append, List.append_nil, List.length_cons, List.length_nil, Nat.reduceAdd, Nat.reduceLeDiff, Nat.zero_le, true_and, and_true, and_self, true_implies, forall_const, ai_rvs, ai_rv0, ai_b_0, Classical.not_not, q_0, q_1, q_64, q_65, q_82, q_mk, q_od, not_true_eq_false, false_implies, not_false_eq_true, true_implies, and_true, true_and, if_true, if_false, Bool.false_eq_true, c91 h hp, g, m_00 h hp]
    refine c11p h hv fun I1 h1 => ?_
    simp (disch := omega) only [K61, ai_c1i, ai_c1n, ai_c1r, e_al0, e_an0, e_const, e_cv4, e_cv6, e_getR, e_il1, e_il2, e_il3, e_reti, e_z1, Option.toList_some, Option.toList_none, List.cons_append, List.nil_append, List.append_nil, List.length_cons, List.length_nil, Nat.reduceAdd, Nat.reduceLeDiff, Nat.zero_le, true_and, and_true, and_self, true_implies, forall_const, ai_rvs, ai_rv0, ai_b_0, Classical.not_not, q_0, q_1, q_64, q_65, q_82, q_mk, q_od]
    exact kk I1 h1
  · rw [if_neg g] at kk
    simp (disch := omega) only [E61, K61, ai_c1i, ai_c1n, ai_c1r, e_al0, e_an0, e_const, e_cv4, e_cv6, e_getR, e_il1, e_il2, e_il3, e_reti, e_z1, Option.toList_some, Option.toList_none, List.cons_append, List.nil_append, List.append_nil, List.length_cons, List.length_nil, Nat.reduceAdd, Nat.reduceLeDiff, Nat.zero_le, true_and, and_true, and_self, true_implies, forall_const, ai_rvs, ai_rv0, ai_b_0, Classical.not_not, q_0, q_1, q_64, q_65, q_82, q_mk, q_od, not_true_eq_false, false_implies, not_false_eq_true, true_implies, and_true, true_and, if_true, if_false, Bool.false_eq_true, c91 h hp, g, m_00 h hp]
    exact kk I h
theorem c62 (h : EX 1 S C I M) (hp : PC C) (hv : VB S.1 k) {b n e x y : Int32} (kk : ∀ I', EX 1 (p_link S b n e x y).2 C I' M → Q (some (.int (p_link S b n e x y).1)) (LK, I', M)) : Cl (d + 2) 62 [.ref 0, .int b, .int n, .int e, .int x, .int y] (LK, I, M) Q := by
  unfold p_link at kk
  by_cases g : p_can S.1 b n e = true
  · rw [if_pos g] at kk
    simp (disch := omega) only [E62, K62, ai_c1i, ai_c1n, ai_c1r, e_al0, e_al6, e_an0, e_an6, e_as6, e_az6, e_const, e_cv1, e_cv3, e_cv4, e_cv6, e_getR, e_il1, e_il2, e_il3, e_il4, e_il5, e_reti, e_xn, e_xr, e_z1, Option.toList_some, Option.toList_none, List.cons_append, List.nil_append, List.append_nil, List.length_cons, List.length_nil, Nat.reduceAdd, Nat.reduceLeDiff, Nat.zero_le, true_and, and_true, and_self, true_implies, forall_const, ai_rvs, ai_rv0, ai_b_0, Classical.not_not, q_0, q_1, q_64, q_65, q_82, q_mk, q_od, not_true_eq_false, false_implies, not_false_eq_true, true_implies, and_true, true_and, if_true, if_false, Bool.false_eq_true, c91 h hp, g, m_00 h hp]
    refine c10m h hv (fun m n' o hm ex en n2 n4 ho ey em => ?_) (fun em => ?_)
    · have hk6 := hv.2.1
      rw [em] at kk
      dsimp only at kk
      by_cases g2 : S.1 (12 + 43 * m) = nI 0 ∨ S.1 (12 + 43 * m) = nI 1
      · rw [if_pos g2] at kk
        simp (disch := omega) only [K62, ai_c1i, ai_c1n, ai_c1r, e_al0, e_al6, e_an0, e_an6, e_as6, e_az6, e_const, e_cv1, e_cv3, e_cv4, e_cv6, e_getR, e_il1, e_il2, e_il3, e_il4, e_il5, e_reti, e_xn, e_xr, e_z1, Option.toList_some, Option.toList_none, List.cons_append, List.nil_append, List.append_nil, List.length_cons, List.length_nil, Nat.reduceAdd, Nat.reduceLeDiff, Nat.zero_le, true_and, and_true, and_self, true_implies, forall_const, ai_rvs, ai_rv0, ai_b_0, Classical.not_not, q_0, q_1, q_64, q_65, q_82, q_mk, q_od, not_true_eq_false, false_implies, not_false_eq_true, true_implies, and_true, true_and, if_true, if_false, Bool.false_eq_true, c37 h, g2, m_00 h hp]
        refine c11p h hv fun I1 h1 => ?_
        simp (disch := omega) only [K62, ai_c1i, ai_c1n, ai_c1r, e_al0, e_al6, e_an0, e_an6, e_as6, e_az6, e_const, e_cv1, e_cv3, e_cv4, e_cv6, e_getR, e_il1, e_il2, e_il3, e_il4, e_il5, e_reti, e_xn, e_xr, e_z1, Option.toList_some, Option.toList_none, List.cons_append, List.nil_append, List.append_nil, List.length_cons, List.length_nil, Nat.reduceAdd, Nat.reduceLeDiff, Nat.zero_le, true_and, and_true, and_self, true_implies, forall_const, ai_rvs, ai_rv0, ai_b_0, Classical.not_not, q_0, q_1, q_64, q_65, q_82, q_mk, q_od]
        exact kk I1 h1
      · rw [if_neg g2] at kk
        simp (disch := omega) only [K62, ai_c1i, ai_c1n, ai_c1r, e_al0, e_al6, e_an0, e_an6, e_as6, e_az6, e_const, e_cv1, e_cv3, e_cv4, e_cv6, e_getR, e_il1, e_il2, e_il3, e_il4, e_il5, e_reti, e_xn, e_xr, e_z1, Option.toList_some, Option.toList_none, List.cons_append, List.nil_append, List.append_nil, List.length_cons, List.length_nil, Nat.reduceAdd, Nat.reduceLeDiff, Nat.zero_le, true_and, and_true, and_self, true_implies, forall_const, ai_rvs, ai_rv0, ai_b_0, Classical.not_not, q_0, q_1, q_64, q_65, q_82, q_mk, q_od, not_true_eq_false, false_implies, not_false_eq_true, true_implies, and_true, true_and, if_true, if_false, Bool.false_eq_true, c37 h, g2, m_00 h hp]
        exact kk I h
    · rw [em] at kk
      simp (disch := omega) only [K62, ai_c1i, ai_c1n, ai_c1r, e_al0, e_al6, e_an0, e_an6, e_as6, e_az6, e_const, e_cv1, e_cv3, e_cv4, e_cv6, e_getR, e_il1, e_il2, e_il3, e_il4, e_il5, e_reti, e_xn, e_xr, e_z1, Option.toList_some, Option.toList_none, List.cons_append, List.nil_append, List.append_nil, List.length_cons, List.length_nil, Nat.reduceAdd, Nat.reduceLeDiff, Nat.zero_le, true_and, and_true, and_self, true_implies, forall_const, ai_rvs, ai_rv0, ai_b_0, Classical.not_not, q_0, q_1, q_64, q_65, q_82, q_mk, q_od, not_true_eq_false, false_implies, not_false_eq_true, true_implies, and_true, true_and, if_true, if_false, Bool.false_eq_true]
      exact kk I h
  · rw [if_neg g] at kk
    simp (disch := omega) only [E62, K62, ai_c1i, ai_c1n, ai_c1r, e_al0, e_al6, e_an0, e_an6, e_as6, e_az6, e_const, e_cv1, e_cv3, e_cv4, e_cv6, e_getR, e_il1, e_il2, e_il3, e_il4, e_il5, e_reti, e_xn, e_xr, e_z1, Option.toList_some, Option.toList_none, List.cons_append, List.nil_append, List.append_nil, List.length_cons, List.length_nil, Nat.reduceAdd, Nat.reduceLeDiff, Nat.zero_le, true_and, and_true, and_self, true_implies, forall_const, ai_rvs, ai_rv0, ai_b_0, Classical.not_not, q_0, q_1, q_64, q_65, q_82, q_mk, q_od, not_true_eq_false, false_implies, not_false_eq_true, true_implies, and_true, true_and, if_true, if_false, Bool.false_eq_true, c91 h hp, g, m_00 h hp]
    exact kk I h
end PM
