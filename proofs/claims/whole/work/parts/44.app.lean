/-! appending to the text; trading it -/
theorem i2c_n {a : Nat} (h : a < 128) : ((nI a).toUInt32 % 65536).toInt32 = nI a := co_dec (P := fun a => ((nI a).toUInt32 % 65536).toInt32 = nI a) (N := 128) (by decide +kernel) h
theorem nar_n {a : Nat} (h : a < 128) : vp_nar .char (nI a) = nI a := co_dec (P := fun a => vp_nar .char (nI a) = nI a) (N := 128) (by decide +kernel) h
def tx_a (tx : Nat → Int32) (len : Nat) (c : Int32) : Nat → Int32 := fun i => if i < len then tx i else c
section APP
variable {S S' : St} {s : Bool} {tx : Nat → Int32} {len : Nat} {I : Nat → Nat → Int32} {M : Nat → Nat → Nat} {d : Nat} {Q : Option Value → ai_H → Prop}
/-- TradeText.add -/
theorem c55_l {I0 : Nat → Nat → Int32} {a b : Nat} (ha : a < 128) (hlb : len + b ≤ 60) (hm : M 227 0 = 228 + 1) (kk : ∀ I', (∀ x, x ≠ 227 → x ≠ 228 → I' x = I0 x) → I' 227 1 = nI (len + b) → (∀ j, j < len + b → I' 228 j = tx_a tx len (nI a) j) → Q (some (.int (nI (len + b)))) (LK, I', M)) :
    ∀ r i I, r + i = b → (∀ x, x ≠ 227 → x ≠ 228 → I x = I0 x) → I 227 1 = nI (len + i) → (∀ j, j < len + i → I 228 j = tx_a tx len (nI a) j) → Ev d X0 55 16 [.ref 227, .int (nI a), .int (nI b), .int (nI i)] [] (LK, I, M) Q
  | 0, i, I, hi, o, h1, h2 => by
    obtain rfl : i = b := by omega
    have k3 := kk I o h1 h2
    rw [H55_16]
    simp (disch := omega) only [K55, e_al0, e_an0, e_b0, e_c3, e_c5, e_cast, e_const, e_dupi, e_dupr, e_getI, e_getR, e_goto, e_ii3, e_il1, e_il2, e_il3, e_is3, e_putI, e_reti, Option.toList_some, Option.toList_none, List.cons_append, List.nil_append, List.append_nil, List.length_cons, List.length_nil, Nat.reduceAdd, Nat.reduceLeDiff, Nat.zero_le, true_and, and_true, and_self, true_implies, forall_const, ai_rvs, ai_rv0, ai_b_0, Classical.not_not, not_true_eq_false, false_implies, not_false_eq_true, true_implies, and_true, true_and, if_true, if_false, Bool.false_eq_true, q_227, h1, Int32.le_refl]
    exact k3
  | r + 1, i, I, hi, o, h1, h2 => by
    rw [H55_16]
    simp (disch := omega) only [K55, e_al0, e_an0, e_b0, e_c3, e_c5, e_cast, e_const, e_dupi, e_dupr, e_getI, e_getR, e_goto, e_ii3, e_il1, e_il2, e_il3, e_is3, e_putI, e_reti, Option.toList_some, Option.toList_none, List.cons_append, List.nil_append, List.append_nil, List.length_cons, List.length_nil, Nat.reduceAdd, Nat.reduceLeDiff, Nat.zero_le, true_and, and_true, and_self, true_implies, forall_const, ai_rvs, ai_rv0, ai_b_0, Classical.not_not, not_true_eq_false, false_implies, not_false_eq_true, true_implies, and_true, true_and, if_true, if_false, Bool.false_eq_true, q_227, h1, nIle, hm, a_tx, nIc, nar_n, BO, true_or, ai_uo, nIa]
    refine ⟨fun g => absurd g (by omega), fun _ => ⟨fun g => absurd g (by omega), fun _ => ?_⟩⟩
    refine c55_l ha hlb hm kk r (i + 1) _ (by omega) (fun x x1 x2 => ?_) ?_ (fun j hj => ?_)
    · rw [ai_u_other _ _ _ _ x1, ai_u_other _ _ _ _ x2]
      exact o x x1 x2
    · rw [ai_uh]; rfl
    · rw [ai_uo (by omega)]
      by_cases hji : j = len + i
      · subst hji
        rw [ai_uh]
        unfold tx_a
        rw [if_neg (by omega)]
      · rw [ai_uo (by omega)]
        exact h2 j (by omega)
/-- PredictionMaker.append -/
theorem c87 (h : WD S S' s tx len I M) {c k : Int32} (k1 : ¬ ((nI 0 ≤ c ∧ c ≤ nI 127) ∧ nI 1 ≤ k ∧ k ≤ nI 60) → Q (some (.int (-1000000002))) (LK, I, M)) (k2 : ∀ a b, c = nI a → a < 128 → k = nI b → 1 ≤ b → b ≤ 60 → 60 < len + b → Q (some (.int (-1000000003))) (LK, I, M))
    (k3 : ∀ a b, c = nI a → a < 128 → k = nI b → 1 ≤ b → b ≤ 60 → len + b ≤ 60 → ∀ I', (∀ x, 229 ≤ x → I' x = I x) → WD S S' s (tx_a tx len (nI a)) (len + b) I' M → Q (some (.int (nI (len + b)))) (LK, I', M)) : Cl (d + 1) 87 [.ref 0, .int c, .int k] (LK, I, M) Q := by
  obtain ⟨w1, w2, w3, w4, w5, w6, w7⟩ := h
  have hm : M 227 0 = 228 + 1 := w3.2.2.2
  have h00 : M 0 2 = 227 + 1 := w3.2.2.1
  by_cases g1 : nI 0 ≤ c ∧ c ≤ nI 127
  · by_cases g2 : nI 1 ≤ k ∧ k ≤ nI 60
    · obtain ⟨a, ha, rfl⟩ := nI_ofr (k := 128) g1.1 (Int32.lt_of_le_of_lt g1.2 (by decide)) (by omega)
      obtain ⟨b, hb, rfl⟩ := nI_ofr (k := 61) (Int32.le_trans (by decide) g2.1) (Int32.lt_of_le_of_lt g2.2 (by decide)) (by omega)
      have hb1 : 1 ≤ b := (nIle (by omega) (by omega)).mp g2.1
      have k2' := k2 a b rfl ha rfl hb1 (by omega)
      have k3' := k3 a b rfl ha rfl hb1 (by omega)
      by_cases g3 : 60 < len + b
      · have k4 := k2' g3
        simp (disch := omega) only [E87, K87, ai_c1i, ai_c1n, ai_c1r, e_al0, e_an0, e_const, e_cs3, e_cv3, e_getR, e_i2c, e_il1, e_il2, e_reti, e_z0, e_z1, Option.toList_some, Option.toList_none, List.cons_append, List.nil_append, List.append_nil, List.length_cons, List.length_nil, Nat.reduceAdd, Nat.reduceLeDiff, Nat.zero_le, true_and, and_true, and_self, true_implies, forall_const, ai_rvs, ai_rv0, ai_b_0, Classical.not_not, q_0, q_1, q_64, q_65, q_82, q_mk, q_od, not_true_eq_false, false_implies, not_false_eq_true, true_implies, and_true, true_and, if_true, if_false, Bool.false_eq_true, c95, g1, g2, h00, i2c_n, E55, K55, e_al0, e_an0, e_b0, e_c3, e_c5, e_cast, e_const, e_dupi, e_dupr, e_getI, e_getR, e_goto, e_ii3, e_il1, e_il2, e_il3, e_is3, e_putI, e_reti, q_227, w6, nIa, nIle]
        exact ⟨fun g => absurd g (by omega), fun _ => k4⟩
      · have k4 := k3' (by omega)
        simp (disch := omega) only [E87, K87, ai_c1i, ai_c1n, ai_c1r, e_al0, e_an0, e_const, e_cs3, e_cv3, e_getR, e_i2c, e_il1, e_il2, e_reti, e_z0, e_z1, Option.toList_some, Option.toList_none, List.cons_append, List.nil_append, List.append_nil, List.length_cons, List.length_nil, Nat.reduceAdd, Nat.reduceLeDiff, Nat.zero_le, true_and, and_true, and_self, true_implies, forall_const, ai_rvs, ai_rv0, ai_b_0, Classical.not_not, q_0, q_1, q_64, q_65, q_82, q_mk, q_od, not_true_eq_false, false_implies, not_false_eq_true, true_implies, and_true, true_and, if_true, if_false, Bool.false_eq_true, c95, g1, g2, h00, i2c_n, E55, K55, e_al0, e_an0, e_b0, e_c3, e_c5, e_cast, e_const, e_dupi, e_dupr, e_getI, e_getR, e_goto, e_ii3, e_il1, e_il2, e_il3, e_is3, e_putI, e_reti, q_227, w6, nIa, nIle]
        refine ⟨fun _ => ?_, fun g => absurd (by omega) g⟩
        refine c55_l (I0 := I) (len := len) (tx := tx) ha (by omega) hm (fun I1 o l1 t1 => ?_) b 0 I (by omega) (fun _ _ _ => rfl) w6 (fun j hj => ?_)
        · simp (disch := omega) only [K87, ai_c1i, ai_c1n, ai_c1r, e_al0, e_an0, e_const, e_cs3, e_cv3, e_getR, e_i2c, e_il1, e_il2, e_reti, e_z0, e_z1, Option.toList_some, Option.toList_none, List.cons_append, List.nil_append, List.append_nil, List.length_cons, List.length_nil, Nat.reduceAdd, Nat.reduceLeDiff, Nat.zero_le, true_and, and_true, and_self, true_implies, forall_const, ai_rvs, ai_rv0, ai_b_0, Classical.not_not, not_true_eq_false, false_implies, not_false_eq_true, true_implies, and_true, true_and, if_true, if_false, Bool.false_eq_true]
          refine k4 I1 (fun x hx => o x (by omega) (by omega)) ⟨w1.fr fun x x1 x2 => ⟨o x (by omega) (by omega), rfl⟩, w2.fr fun x x1 x2 => ⟨o x (by omega) (by omega), rfl⟩, w3, ?_, by omega, l1, t1⟩
          rw [o 0 (by omega) (by omega)]
          exact w4
        · unfold tx_a
          rw [if_pos (by omega)]
          exact w7 j (by omega)
    · have k4 := k1 (fun g => g2 g.2)
      simp (disch := omega) only [E87, K87, ai_c1i, ai_c1n, ai_c1r, e_al0, e_an0, e_const, e_cs3, e_cv3, e_getR, e_i2c, e_il1, e_il2, e_reti, e_z0, e_z1, Option.toList_some, Option.toList_none, List.cons_append, List.nil_append, List.append_nil, List.length_cons, List.length_nil, Nat.reduceAdd, Nat.reduceLeDiff, Nat.zero_le, true_and, and_true, and_self, true_implies, forall_const, ai_rvs, ai_rv0, ai_b_0, Classical.not_not, q_0, q_1, q_64, q_65, q_82, q_mk, q_od, not_true_eq_false, false_implies, not_false_eq_true, true_implies, and_true, true_and, if_true, if_false, Bool.false_eq_true, c95, g1, g2]
      exact k4
  · have k4 := k1 (fun g => g1 g.1)
    simp (disch := omega) only [E87, K87, ai_c1i, ai_c1n, ai_c1r, e_al0, e_an0, e_const, e_cs3, e_cv3, e_getR, e_i2c, e_il1, e_il2, e_reti, e_z0, e_z1, Option.toList_some, Option.toList_none, List.cons_append, List.nil_append, List.append_nil, List.length_cons, List.length_nil, Nat.reduceAdd, Nat.reduceLeDiff, Nat.zero_le, true_and, and_true, and_self, true_implies, forall_const, ai_rvs, ai_rv0, ai_b_0, Classical.not_not, q_0, q_1, q_64, q_65, q_82, q_mk, q_od, not_true_eq_false, false_implies, not_false_eq_true, true_implies, and_true, true_and, if_true, if_false, Bool.false_eq_true, c95, g1]
    exact k4
end APP
