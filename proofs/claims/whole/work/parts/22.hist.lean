/-! the ring of trades -/
theorem nXor (a b : Nat) : nI a ^^^ nI b = nI (a ^^^ b) := by
  apply Int32.toBitVec_inj.mp
  show (nI a).toBitVec ^^^ (nI b).toBitVec = (nI (a ^^^ b)).toBitVec
  apply BitVec.eq_of_toNat_eq
  show ((BitVec.ofNat 32 a) ^^^ (BitVec.ofNat 32 b)).toNat = (BitVec.ofNat 32 (a ^^^ b)).toNat
  rw [BitVec.toNat_xor, BitVec.toNat_ofNat, BitVec.toNat_ofNat, BitVec.toNat_ofNat, Nat.xor_mod_two_pow]
theorem c159 {d : Nat} {h : ai_H} {Q : Option Value → ai_H → Prop} {T : Nat} (hT : T < 2147483648) : Cl d 159 [.int (nI T), .int (nI 30)] h Q ↔ Q (some (.int (nI (T % 30)))) h := by
  refine Cl_one ?_
  have e : nI T - nI T / nI 30 * nI 30 = nI (T % 30) := pk_rem (by omega) (by omega) (by omega)
  have hx : T ^^^ 30 < 2147483648 := Nat.xor_lt_two_pow (n := 31) hT (by omega)
  simp (disch := omega) only [E159, K159, e_b0, e_b6, e_il0, e_il1, e_il2, e_is2, e_rem, e_reti, e_z0, e_z3, Option.toList_some, Option.toList_none, List.cons_append, List.nil_append, List.append_nil, List.length_cons, List.length_nil, Nat.reduceAdd, Nat.reduceLeDiff, Nat.zero_le, true_and, and_true, and_self, true_implies, forall_const, ai_rvs, ai_rv0, ai_b_0, Classical.not_not, e, nXor, nIle, nIeq]
  exact ⟨by omega, fun h1 => absurd trivial h1⟩
/-- the trades with a new one ahead -/
def hs_c (x0 x1 x2 x3 x4 x5 : Int32) (hs : Nat → Nat → Int32) : Nat → Nat → Int32 := fun i p => if i = 0 then (if p = 0 then x0 else if p = 1 then x1 else if p = 2 then x2 else if p = 3 then x3 else if p = 4 then x4 else x5) else hs (i - 1) p
section HIST
variable {S : St} {C : (Nat → Nat → Int32) × (Nat → Nat → Nat)} {I : Nat → Nat → Int32} {M : Nat → Nat → Nat} {d : Nat} {Q : Option Value → ai_H → Prop}
theorem EX.tot (h : EX 1 S C I M) : ∃ T, I 82 1 = nI T ∧ S.1 4 = nI T ∧ T < 1000000000 := by
  have h4 := rd_tc h
  obtain ⟨-, -, -, -, -, T, h1, h2, -⟩ := h
  exact ⟨T, h1, by rw [← h4]; exact h1, h2⟩
theorem EX.hadd (h : EX 1 S C I M) {T : Nat} (hT : S.1 4 = nI T) (hb : T < 999999999) (x0 x1 x2 x3 x4 x5 : Int32) :
    EX 1 (ug S.1 4 (nI (T + 1)), S.2.1, hs_c x0 x1 x2 x3 x4 x5 S.2.2) C (ai_u (ai_u (ai_u (ai_u (ai_u (ai_u (ai_u I (84 + T % 30) 0 x0) (84 + T % 30) 1 x1) (84 + T % 30) 2 x2) (84 + T % 30) 3 x3) (84 + T % 30) 4 x4) (84 + T % 30) 5 x5) 82 1 (nI (T + 1))) M := by
  have h4 := rd_tc h
  obtain ⟨h1, h2, hn, hg, hbk, T', ht1, ht2, ht3⟩ := h
  have hTT : T' = T := by
    have e : nI T' = nI T := by rw [← ht1, ← hT]; exact h4
    exact (nIeq (by omega) (by omega)).mp e
  subst hTT
  have hm : T' % 30 < 30 := Nat.mod_lt _ (by omega)
  generalize hr : 84 + T' % 30 = r
  have hrr : 84 ≤ r ∧ r < 114 := by omega
  generalize hI : ai_u (ai_u (ai_u (ai_u (ai_u (ai_u (ai_u I r 0 x0) r 1 x1) r 2 x2) r 3 x3) r 4 x4) r 5 x5) 82 1 (nI (T' + 1)) = I'
  have ho : ∀ a, a ≠ r → a ≠ 82 → I' a = I a := fun a ha hb => by
    rw [← hI, ai_u_other _ _ _ _ hb, ai_u_other _ _ _ _ ha, ai_u_other _ _ _ _ ha, ai_u_other _ _ _ _ ha, ai_u_other _ _ _ _ ha, ai_u_other _ _ _ _ ha, ai_u_other _ _ _ _ ha]
  have hrow : ∀ p, p < 6 → I' r p = hs_c x0 x1 x2 x3 x4 x5 S.2.2 0 p := fun p hp => by
    rw [← hI, ai_uo (by omega)]
    unfold hs_c
    rw [if_pos rfl]
    rcases (by omega : p = 0 ∨ p = 1 ∨ p = 2 ∨ p = 3 ∨ p = 4 ∨ p = 5) with rfl | rfl | rfl | rfl | rfl | rfl
    · simp (disch := omega) only [ai_uo, ai_uh, if_true]
    · simp (disch := omega) only [ai_uo, ai_uh]; rfl
    · simp (disch := omega) only [ai_uo, ai_uh]; rfl
    · simp (disch := omega) only [ai_uo, ai_uh]; rfl
    · simp (disch := omega) only [ai_uo, ai_uh]; rfl
    · simp (disch := omega) only [ai_uo, ai_uh]; rfl
  have htot : I' 82 1 = nI (T' + 1) := by rw [← hI, ai_uh]
  have h82 : ∀ j, j ≠ 1 → I' 82 j = I 82 j := fun j hj => by
    rw [← hI]
    simp (disch := omega) only [ai_uo]
  refine ⟨fun a ha => ?_, h2, fun m hm => ?_, fun k hk hk5 => ?_, ⟨hbk.1, ?_, ?_⟩, T' + 1, htot, by omega, fun i p hi hiT hp => ?_⟩
  · rw [ho a (by omega) (by omega)]
    exact h1 a ha
  · rw [ho _ (by omega) (by omega)]
    exact hn m hm
  · by_cases hk4 : k = 4
    · subst hk4
      dsimp only
      rw [ug_s]
      exact htot
    · have hr := il_rng (B := 1) hk
      have e4 : il 1 4 = (82, 1) := rfl
      have hne : (il 1 k).1 ≠ 82 := fun e9 => by
        have hli := li_il1 k hk
        rw [e9] at hli
        exact hk4 (by rw [← hli]; rfl)
      dsimp only
      rw [ho _ (by omega) hne, ug_n hk4]
      exact hg k hk hk5
  · rw [ho _ (by omega) (by omega)]
    exact hbk.2.1
  · obtain ⟨p, p1, p2, p3⟩ := hbk.2.2
    refine ⟨p, p1, p2, fun i o hi => ?_⟩
    have h8 : i < S.2.1.length := (List.getElem?_eq_some_iff.mp hi).1
    have := hbk.1
    have h9 := (p1 i (by omega)).1
    have e : oat I' (1 + 65 + p i) = oat I (1 + 65 + p i) := by
      unfold oat
      rw [ho _ (by omega) (by omega)]
    rw [e]
    exact p3 i o hi
  · dsimp only
    by_cases hi0 : i = 0
    · subst hi0
      have e : 1 + 83 + (T' + 1 - 1 - 0) % 30 = r := by rw [← hr]; simp
      rw [e]
      exact hrow p hp
    · have e : (T' + 1 - 1 - i) % 30 = (T' - 1 - (i - 1)) % 30 := by congr 1; omega
      rw [e, ho _ (by omega) (by omega)]
      rw [ht3 (i - 1) p (by omega) (by omega) hp]
      unfold hs_c
      rw [if_neg hi0]
/-- History.add -/
theorem c32 (h : EX 1 S C I M) {T : Nat} (hT : S.1 4 = nI T) (hb : T < 999999999) {x0 x1 x2 x3 x4 x5 : Int32} (kk : ∀ I', EX 1 (ug S.1 4 (nI (T + 1)), S.2.1, hs_c x0 x1 x2 x3 x4 x5 S.2.2) C I' M → Q none (LK, I', M)) : Cl (d + 1) 32 [.ref 82, .int x0, .int x1, .int x2, .int x3, .int x4, .int x5] (LK, I, M) Q := by
  have hm : T % 30 < 30 := Nat.mod_lt _ (by omega)
  have e : 83 + 1 = 84 := rfl
  simp (disch := omega) only [E32, K32, ai_c1i, ai_c1n, ai_c1r, e_aald, e_al0, e_al7, e_an0, e_an7, e_as7, e_az7, e_b0, e_const, e_cs2, e_dupi, e_dupr, e_getI, e_getR, e_iast, e_il1, e_il2, e_il3, e_il4, e_il5, e_il6, e_putI, e_ret, Option.toList_some, Option.toList_none, List.cons_append, List.nil_append, List.append_nil, List.length_cons, List.length_nil, Nat.reduceAdd, Nat.reduceLeDiff, Nat.zero_le, true_and, and_true, and_self, true_implies, forall_const, ai_rvs, ai_rv0, ai_b_0, Classical.not_not, BO, true_or, q_82, m_hr h, rd_tc h, hT, c159, a_hs, nIc, m_hs h, a_hp, ai_uo, nIa]
  exact kk _ (h.hadd hT hb x0 x1 x2 x3 x4 x5)
theorem c33 (h : EX 1 S C I M) {x : Int32} : Cl d 33 [.ref 82, .int x] (LK, I, M) Q ↔ Q (some (.int (ai_b (nI 0 ≤ x ∧ x < S.1 4 ∧ x < nI 30)))) (LK, I, M) := by
  refine Cl_one ?_
  simp (disch := omega) only [E33, K33, e_al0, e_an0, e_c3, e_const, e_getI, e_goto, e_il1, e_retb, e_z2, Option.toList_some, Option.toList_none, List.cons_append, List.nil_append, List.append_nil, List.length_cons, List.length_nil, Nat.reduceAdd, Nat.reduceLeDiff, Nat.zero_le, true_and, and_true, and_self, true_implies, forall_const, ai_rvs, ai_rv0, ai_b_0, Classical.not_not, q_82, rd_tc h]
  refine ⟨fun h1 => ⟨Or.inl rfl, ?_⟩, fun h1 => ⟨fun h2 => ⟨Or.inl rfl, ?_⟩, fun h2 => ⟨fun h3 => ⟨Or.inl rfl, ?_⟩, fun h3 => ⟨Or.inr rfl, ?_⟩⟩⟩⟩
  · rw [ai_b_f (fun g => i_nlt.mpr g.1 h1)]
  · rw [ai_b_f (fun g => i_nle.mpr g.2.1 h2)]
  · rw [ai_b_f (fun g => i_nle.mpr g.2.2 h3)]
  · rw [ai_b_t ⟨i_nlt.mp h1, i_nle.mp h2, i_nle.mp h3⟩]
theorem c34 (h : EX 1 S C I M) {T i p : Nat} (hT : S.1 4 = nI T) (hi : i < 30) (hiT : i < T) (hT2 : T < 1000000000) (hp : p < 6) : Cl (d + 1) 34 [.ref 82, .int (nI i), .int (nI p)] (LK, I, M) Q ↔ Q (some (.int (S.2.2 i p))) (LK, I, M) := by
  refine Cl_one ?_
  have hm : (T - 1 - i) % 30 < 30 := Nat.mod_lt _ (by omega)
  have e1 : nI T - nI 1 = nI (T - 1) := pk_sub (by omega)
  have e2 : nI (T - 1) - nI i = nI (T - 1 - i) := pk_sub (by omega)
  have e3 : I (84 + (T - 1 - i) % 30) p = S.2.2 i p := by
    have h4 := rd_tc h
    obtain ⟨-, -, -, -, -, T', ht1, ht2, ht3⟩ := h
    have hTT : T' = T := by
      have e : nI T' = nI T := by rw [← ht1, ← hT]; exact h4
      exact (nIeq (by omega) (by omega)).mp e
    subst hTT
    exact ht3 i p hi hiT hp
  simp (disch := omega) only [E34, K34, ai_c1i, ai_c1n, ai_c1r, e_aald, e_al0, e_an0, e_b1, e_const, e_cs2, e_getI, e_getR, e_iald, e_il1, e_il2, e_reti, Option.toList_some, Option.toList_none, List.cons_append, List.nil_append, List.append_nil, List.length_cons, List.length_nil, Nat.reduceAdd, Nat.reduceLeDiff, Nat.zero_le, true_and, and_true, and_self, true_implies, forall_const, ai_rvs, ai_rv0, ai_b_0, Classical.not_not, q_82, m_hr h, rd_tc h, hT, e1, e2, c159, a_hs, nIc, m_hs h, a_hp, e3]
end HIST
