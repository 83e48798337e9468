/-! the exchange: finding markets, what is told of them, obstacles -/
theorem sw_in {k a : Nat} {tb : List Nat} (hk : k < 2147483648) : (if (nI k).toInt < (nI 0).toInt then a else (tb[((nI k).toInt - (nI 0).toInt).toNat]?).getD a) = (tb[k]?).getD a := by
  have e0 : (nI 0).toInt = 0 := by decide
  have e1 : (nI k).toInt = k := nI_toInt hk
  rw [e0, e1, if_neg (by omega)]
  congr 2
theorem sw_out {x : Int32} {a n : Nat} {tb : List Nat} (hn : tb.length = n) (hx : ∀ k, k < n → x ≠ nI k) (hn2 : n < 1000) : (if x.toInt < (nI 0).toInt then a else (tb[(x.toInt - (nI 0).toInt).toNat]?).getD a) = a := by
  have e0 : (nI 0).toInt = 0 := by decide
  rw [e0]
  split
  · rfl
  · rw [List.getElem?_eq_none, Option.getD_none]
    rw [hn]
    apply Nat.le_of_not_lt
    intro h1
    refine hx (x.toInt - 0).toNat h1 ?_
    apply Int32.toInt_inj.mp
    rw [nI_toInt (by omega)]
    omega
theorem sw_cases (x : Int32) (n : Nat) : (∃ k, k < n ∧ x = nI k) ∨ ∀ k, k < n → x ≠ nI k := by
  by_cases h : ∃ k, k < n ∧ x = nI k
  · exact Or.inl h
  · exact Or.inr fun k hk e => h ⟨k, hk, e⟩
theorem sw_rng {x : Int32} {k : Nat} (hx : ∀ j, j < k → x ≠ nI j) (hk : k < 1000) : x < nI 0 ∨ nI k ≤ x := by
  by_cases g : x < nI 0
  · exact Or.inl g
  · refine Or.inr (i_nlt.mp fun g2 => ?_)
    have h1 : ¬ x.toInt < 0 := by
      intro g3; exact g (Int32.lt_iff_toInt_lt.mpr (by rw [show (nI 0).toInt = 0 by decide]; exact g3))
    have h2 := Int32.lt_iff_toInt_lt.mp g2
    rw [nI_toInt (by omega)] at h2
    refine hx x.toInt.toNat (by omega) ?_
    apply Int32.toInt_inj.mp
    rw [nI_toInt (by omega)]
    omega
theorem p_0 {m : Nat} : 12 + 43 * m + 0 = 12 + 43 * m := rfl
theorem p_1 {m : Nat} : 12 + 43 * m + 1 = 13 + 43 * m := by omega
theorem p_2 {m : Nat} : 12 + 43 * m + 2 = 14 + 43 * m := by omega
theorem p_3 {m : Nat} : 12 + 43 * m + 3 = 15 + 43 * m := by omega
theorem p_4 {m : Nat} : 12 + 43 * m + 4 = 16 + 43 * m := by omega
theorem p_5 {m : Nat} : 12 + 43 * m + 5 = 17 + 43 * m := by omega
theorem p_6 {m : Nat} : 12 + 43 * m + 6 = 18 + 43 * m := by omega
theorem p_7 {m : Nat} : 12 + 43 * m + 7 = 19 + 43 * m := by omega
theorem p_8 {m : Nat} : 12 + 43 * m + 8 = 20 + 43 * m := by omega
section EXCH
variable {S : St} {C : (Nat → Nat → Int32) × (Nat → Nat → Nat)} {I : Nat → Nat → Int32} {M : Nat → Nat → Nat} {m n o : Nat} {d : Nat} {Q : Option Value → ai_H → Prop}
/-- Exchange.marketAt -/
theorem c9 {k : Nat} (h : EX 1 S C I M) (hk : S.1 1 = nI k) (hk6 : k ≤ 6) {x : Int32} (k1 : ∀ m, m < k → x = nI m → Q (some (.ref (4 + 10 * m))) (LK, I, M)) (k2 : (∀ m, m < k → x ≠ nI m) → Q (some .null) (LK, I, M)) : Cl d 9 [.ref 1, .int x] (LK, I, M) Q := by
  rcases sw_cases x k with ⟨m, hm, rfl⟩ | hx
  · have k3 := k1 m hm rfl
    simp (disch := omega) only [E9, K9, e_aald, e_al0, e_an0, e_c3, e_const, e_getI, e_getR, e_goto, e_il1, e_null, e_retn, e_retr, e_z2, Option.toList_some, Option.toList_none, List.cons_append, List.nil_append, List.append_nil, List.length_cons, List.length_nil, Nat.reduceAdd, Nat.reduceLeDiff, Nat.zero_le, true_and, and_true, and_self, true_implies, forall_const, ai_rvs, ai_rv0, ai_b_0, Classical.not_not, q_1, rd_mc h, hk, nIlt, nIle, m_11 h, a_mk, nIc, m_mk h]
    exact ⟨fun g => absurd g (by omega), fun _ => ⟨fun g => absurd g (by omega), fun _ => ⟨fun g => absurd g (by omega), fun _ => k3⟩⟩⟩
  · have k3 := k2 hx
    have hb := sw_rng hx (by omega)
    simp (disch := omega) only [E9, K9, e_aald, e_al0, e_an0, e_c3, e_const, e_getI, e_getR, e_goto, e_il1, e_null, e_retn, e_retr, e_z2, Option.toList_some, Option.toList_none, List.cons_append, List.nil_append, List.append_nil, List.length_cons, List.length_nil, Nat.reduceAdd, Nat.reduceLeDiff, Nat.zero_le, true_and, and_true, and_self, true_implies, forall_const, ai_rvs, ai_rv0, ai_b_0, Classical.not_not, q_1, rd_mc h, hk]
    exact ⟨fun _ => k3, fun g => ⟨fun _ => k3, fun g2 => absurd hb (fun g3 => g3.elim g g2)⟩⟩
/-- Exchange.marketWith -/
theorem c10 {k : Nat} (h : EX 1 S C I M) (hk : S.1 1 = nI k) (hk6 : k ≤ 6) (hn : ∀ m, m < k → ∃ n, S.1 (14 + 43 * m) = nI n ∧ n ≤ 4) {x y : Int32} (k1 : ∀ m n o, m < k → S.1 (14 + 43 * m) = nI n → n ≤ 4 → o < n → x = nI m → y = nI o → Q (some (.ref (4 + 10 * m))) (LK, I, M))
    (k2 : (∀ m n o, m < k → S.1 (14 + 43 * m) = nI n → o < n → n ≤ 4 → x = nI m → y = nI o → False) → Q (some .null) (LK, I, M)) : Cl (d + 1) 10 [.ref 1, .int x, .int y] (LK, I, M) Q := by
  simp (disch := omega) only [E10, K10, ai_c1i, ai_c1n, ai_c1r, e_al0, e_al3, e_an0, e_an3, e_as3, e_az3, e_c3, e_cv2, e_getI, e_goto, e_il1, e_il2, e_nn, e_nr, e_null, e_retn, e_retr, e_z2, Option.toList_some, Option.toList_none, List.cons_append, List.nil_append, List.append_nil, List.length_cons, List.length_nil, Nat.reduceAdd, Nat.reduceLeDiff, Nat.zero_le, true_and, and_true, and_self, true_implies, forall_const, ai_rvs, ai_rv0, ai_b_0, Classical.not_not, q_1]
  refine c9 h hk hk6 (fun m hm e => ?_) (fun hx => ?_)
  · subst e
    obtain ⟨n, hn1, hn4⟩ := hn m hm
    rcases sw_cases y n with ⟨o, ho, rfl⟩ | hy
    · have k3 := k1 m n o hm hn1 hn4 ho rfl rfl
      simp (disch := omega) only [E10, K10, ai_c1i, ai_c1n, ai_c1r, e_al0, e_al3, e_an0, e_an3, e_as3, e_az3, e_c3, e_cv2, e_getI, e_goto, e_il1, e_il2, e_nn, e_nr, e_null, e_retn, e_retr, e_z2, Option.toList_some, Option.toList_none, List.cons_append, List.nil_append, List.append_nil, List.length_cons, List.length_nil, Nat.reduceAdd, Nat.reduceLeDiff, Nat.zero_le, true_and, and_true, and_self, true_implies, forall_const, ai_rvs, ai_rv0, ai_b_0, Classical.not_not, q_mk, rd_nO h, show 12 + 43 * m + 2 = 14 + 43 * m by omega, hn1, nIlt, nIle]
      exact ⟨fun g => absurd g (by omega), fun _ => ⟨fun g => absurd g (by omega), fun _ => k3⟩⟩
    · have k3 := k2 (fun m' n' o' hm' hn' ho' hn4' e1 e2 => by
        have := (nIeq (by omega) (by omega)).mp e1
        subst this
        have := (nIeq (by omega) (by omega)).mp (hn'.symm.trans hn1)
        subst this
        exact hy o' ho' e2)
      have hb := sw_rng hy (by omega)
      simp (disch := omega) only [E10, K10, ai_c1i, ai_c1n, ai_c1r, e_al0, e_al3, e_an0, e_an3, e_as3, e_az3, e_c3, e_cv2, e_getI, e_goto, e_il1, e_il2, e_nn, e_nr, e_null, e_retn, e_retr, e_z2, Option.toList_some, Option.toList_none, List.cons_append, List.nil_append, List.append_nil, List.length_cons, List.length_nil, Nat.reduceAdd, Nat.reduceLeDiff, Nat.zero_le, true_and, and_true, and_self, true_implies, forall_const, ai_rvs, ai_rv0, ai_b_0, Classical.not_not, q_mk, rd_nO h, show 12 + 43 * m + 2 = 14 + 43 * m by omega, hn1]
      exact ⟨fun _ => k3, fun g => ⟨fun _ => k3, fun g2 => absurd hb (fun g3 => g3.elim g g2)⟩⟩
  · have k3 := k2 (fun m n o hm _ _ _ e _ => hx m hm e)
    simp (disch := omega) only [E10, K10, ai_c1i, ai_c1n, ai_c1r, e_al0, e_al3, e_an0, e_an3, e_as3, e_az3, e_c3, e_cv2, e_getI, e_goto, e_il1, e_il2, e_nn, e_nr, e_null, e_retn, e_retr, e_z2, Option.toList_some, Option.toList_none, List.cons_append, List.nil_append, List.append_nil, List.length_cons, List.length_nil, Nat.reduceAdd, Nat.reduceLeDiff, Nat.zero_le, true_and, and_true, and_self, true_implies, forall_const, ai_rvs, ai_rv0, ai_b_0, Classical.not_not, q_1]
    exact k3
/-- Market.property -/
def m_prop (g : Nat → Int32) (m n : Nat) (w : Int32) : Int32 := if w = nI 0 then g (12 + 43 * m) else if w = nI 1 then g (13 + 43 * m) else if w = nI 2 then g (14 + 43 * m) else if w = nI 3 then g (15 + 43 * m) else if w = nI 4 then g (16 + 43 * m)
  else if w = nI 5 then g (17 + 43 * m) else if w = nI 6 then g (18 + 43 * m) else if w = nI 7 then m_bnd g m else if w = nI 8 then m_lev (qs g m) n (g (13 + 43 * m)) else if w = nI 9 then g (19 + 43 * m)
  else if w = nI 10 then m_k (qs g m) n (g (13 + 43 * m)) n else if w = nI 11 then nI 2880 * m_mx (qs g m) n - g (18 + 43 * m) else (-1000000002)
theorem c38 (h : EX 1 S C I M) (hm : m < 6) (hn : S.1 (14 + 43 * m) = nI n) (hn2 : n = 0 ∨ 2 ≤ n) (hn4 : n ≤ 4) {w : Int32} (kk : ∀ I', EX 1 S C I' M → Q (some (.int (m_prop S.1 m n w))) (LK, I', M)) : Cl (d + 2) 38 [.ref (4 + 10 * m), .int w] (LK, I, M) Q := by
  have k0 := kk I h
  rcases sw_cases w 12 with ⟨k, hk, rfl⟩ | hx
  · rcases (by omega : (k = 0 ∨ k = 1 ∨ k = 2 ∨ k = 3 ∨ k = 4 ∨ k = 5 ∨ k = 6 ∨ k = 9) ∨ k = 7 ∨ k = 8 ∨ k = 10 ∨ k = 11) with (rfl | rfl | rfl | rfl | rfl | rfl | rfl | rfl) | rfl | rfl | rfl | rfl
    any_goals
      simp (disch := omega) only [m_prop, nIeq, Nat.reduceEqDiff, Nat.one_ne_zero, Nat.zero_ne_one, if_true, if_false] at k0 kk
      simp (disch := omega) only [E38, K38, ai_c1i, ai_c1n, ai_c1r, e_al0, e_an0, e_b1, e_b2, e_const, e_cv1, e_getI, e_il1, e_reti, e_sw, Option.toList_some, Option.toList_none, List.cons_append, List.nil_append, List.append_nil, List.length_cons, List.length_nil, Nat.reduceAdd, Nat.reduceLeDiff, Nat.zero_le, true_and, and_true, and_self, true_implies, forall_const, ai_rvs, ai_rv0, ai_b_0, Classical.not_not, sw_in, List.getElem?_cons_zero, List.getElem?_cons_succ, Option.getD_some, q_mk, rd_st h, rd_lq h, rd_nO h, rd_xp h, rd_cm h, rd_co h, rd_ac h, rd_wn h, p_0, p_1, p_2, p_3, p_4, p_5, p_6, p_7]
      exact k0
    · simp (disch := omega) only [m_prop, nIeq, Nat.reduceEqDiff, Nat.one_ne_zero, Nat.zero_ne_one, if_true, if_false] at k0 kk
      simp (disch := omega) only [E38, K38, ai_c1i, ai_c1n, ai_c1r, e_al0, e_an0, e_b1, e_b2, e_const, e_cv1, e_getI, e_il1, e_reti, e_sw, Option.toList_some, Option.toList_none, List.cons_append, List.nil_append, List.append_nil, List.length_cons, List.length_nil, Nat.reduceAdd, Nat.reduceLeDiff, Nat.zero_le, true_and, and_true, and_self, true_implies, forall_const, ai_rvs, ai_rv0, ai_b_0, Classical.not_not, sw_in, List.getElem?_cons_zero, List.getElem?_cons_succ, Option.getD_some, q_mk, c39 h hm hn hn2 hn4]
      exact k0
    · simp (disch := omega) only [m_prop, nIeq, Nat.reduceEqDiff, Nat.one_ne_zero, Nat.zero_ne_one, if_true, if_false] at k0 kk
      simp (disch := omega) only [E38, K38, ai_c1i, ai_c1n, ai_c1r, e_al0, e_an0, e_b1, e_b2, e_const, e_cv1, e_getI, e_il1, e_reti, e_sw, Option.toList_some, Option.toList_none, List.cons_append, List.nil_append, List.append_nil, List.length_cons, List.length_nil, Nat.reduceAdd, Nat.reduceLeDiff, Nat.zero_le, true_and, and_true, and_self, true_implies, forall_const, ai_rvs, ai_rv0, ai_b_0, Classical.not_not, sw_in, List.getElem?_cons_zero, List.getElem?_cons_succ, Option.getD_some, q_mk]
      refine c42 h hm hn hn4 fun I1 h1 => ?_
      simp (disch := omega) only [K38, ai_c1i, ai_c1n, ai_c1r, e_al0, e_an0, e_b1, e_b2, e_const, e_cv1, e_getI, e_il1, e_reti, e_sw, Option.toList_some, Option.toList_none, List.cons_append, List.nil_append, List.append_nil, List.length_cons, List.length_nil, Nat.reduceAdd, Nat.reduceLeDiff, Nat.zero_le, true_and, and_true, and_self, true_implies, forall_const, ai_rvs, ai_rv0, ai_b_0, Classical.not_not]
      exact kk I1 h1
    · simp (disch := omega) only [m_prop, nIeq, Nat.reduceEqDiff, Nat.one_ne_zero, Nat.zero_ne_one, if_true, if_false] at k0 kk
      simp (disch := omega) only [E38, K38, ai_c1i, ai_c1n, ai_c1r, e_al0, e_an0, e_b1, e_b2, e_const, e_cv1, e_getI, e_il1, e_reti, e_sw, Option.toList_some, Option.toList_none, List.cons_append, List.nil_append, List.append_nil, List.length_cons, List.length_nil, Nat.reduceAdd, Nat.reduceLeDiff, Nat.zero_le, true_and, and_true, and_self, true_implies, forall_const, ai_rvs, ai_rv0, ai_b_0, Classical.not_not, sw_in, List.getElem?_cons_zero, List.getElem?_cons_succ, Option.getD_some, q_mk]
      refine c41 h hm hn hn4 fun I1 h1 a1 a2 a3 => ?_
      simp (disch := omega) only [K38, ai_c1i, ai_c1n, ai_c1r, e_al0, e_an0, e_b1, e_b2, e_const, e_cv1, e_getI, e_il1, e_reti, e_sw, Option.toList_some, Option.toList_none, List.cons_append, List.nil_append, List.append_nil, List.length_cons, List.length_nil, Nat.reduceAdd, Nat.reduceLeDiff, Nat.zero_le, true_and, and_true, and_self, true_implies, forall_const, ai_rvs, ai_rv0, ai_b_0, Classical.not_not, q_mk, a1]
      exact kk I1 h1
    · simp (disch := omega) only [m_prop, nIeq, Nat.reduceEqDiff, Nat.one_ne_zero, Nat.zero_ne_one, if_true, if_false] at k0 kk
      simp (disch := omega) only [E38, K38, ai_c1i, ai_c1n, ai_c1r, e_al0, e_an0, e_b1, e_b2, e_const, e_cv1, e_getI, e_il1, e_reti, e_sw, Option.toList_some, Option.toList_none, List.cons_append, List.nil_append, List.append_nil, List.length_cons, List.length_nil, Nat.reduceAdd, Nat.reduceLeDiff, Nat.zero_le, true_and, and_true, and_self, true_implies, forall_const, ai_rvs, ai_rv0, ai_b_0, Classical.not_not, sw_in, List.getElem?_cons_zero, List.getElem?_cons_succ, Option.getD_some, q_mk, c40 h hm hn hn4, rd_ac h, p_6]
      exact k0
  · have e : ∀ j, j < 12 → (w = nI j) = False := fun j hj => eq_false (hx j hj)
    simp (disch := omega) only [m_prop, e, if_false] at k0
    simp (disch := omega) only [E38, K38, ai_c1i, ai_c1n, ai_c1r, e_al0, e_an0, e_b1, e_b2, e_const, e_cv1, e_getI, e_il1, e_reti, e_sw, Option.toList_some, Option.toList_none, List.cons_append, List.nil_append, List.append_nil, List.length_cons, List.length_nil, Nat.reduceAdd, Nat.reduceLeDiff, Nat.zero_le, true_and, and_true, and_self, true_implies, forall_const, ai_rvs, ai_rv0, ai_b_0, Classical.not_not, sw_out (n := 12) (a := 137) (tb := [64, 69, 74, 79, 84, 89, 94, 99, 104, 109, 114, 123]) rfl hx (by omega), q_mk]
    exact k0
/-- Exchange.obstacle -/
def m_ob (lim due bal sh : Int32) : Int32 := if lim < due then nI 1 else if bal < due then nI 2 else if sh < nI 400 then nI 0 else nI 3
theorem c18 (h : EX 1 S C I M) {i t : Nat} {o : Od} (hi : i < 16) (ho : oat I (66 + i) = o) (ht : t < 6) (hot : o.2.1 = nI t) {due sh : Int32} : Cl d 18 [.ref 1, .ref (66 + i), .int due, .int sh] (LK, I, M) Q ↔ Q (some (.int (m_ob o.2.2.2.2.2 due (S.1 (6 + t)) sh))) (LK, I, M) := by
  subst ho
  refine Cl_one ?_
  have e1 : I (66 + i) 1 = nI t := hot
  simp (disch := omega) only [E18, K18, e_al0, e_al1, e_an0, e_an1, e_c3, e_c5, e_const, e_getI, e_getR, e_goto, e_iald, e_il2, e_il3, e_reti, Option.toList_some, Option.toList_none, List.cons_append, List.nil_append, List.append_nil, List.length_cons, List.length_nil, Nat.reduceAdd, Nat.reduceLeDiff, Nat.zero_le, true_and, and_true, and_self, true_implies, forall_const, ai_rvs, ai_rv0, ai_b_0, Classical.not_not, q_1, q_od, m_10 h, e1, a_bal, nIc, rd_bal h]
  unfold m_ob oat
  dsimp only
  refine ⟨fun g1 => ⟨fun g2 => ⟨fun g3 => ?_, fun g3 => ?_⟩, fun g2 => ?_⟩, fun g1 => ?_⟩
  · rw [if_neg (i_nlt.mpr g1), if_neg (i_nlt.mpr g2), if_neg (i_nlt.mpr g3)]
  · rw [if_neg (i_nlt.mpr g1), if_neg (i_nlt.mpr g2), if_pos (i_nle.mp g3)]
  · rw [if_neg (i_nlt.mpr g1), if_pos (i_nle.mp g2)]
  · rw [if_pos (i_nle.mp g1)]
end EXCH
