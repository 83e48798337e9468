/-! the reference's ticks -/
section RTICK
variable {I : Nat → Nat → Int32} {J : Nat → Int32} {M : Nat → Nat → Nat} {S : St} {m k : Nat} {d : Nat} {Q : Option Value → ai_H → Prop}
/-- a market in a state whose expiry is so early -/
def MT (g : Nat → Int32) (st lat : Int32) (m : Nat) : Prop := g (12 + 43 * m) = st ∧ g (15 + 43 * m) ≤ lat
/-- the first such market -/
def FM (g : Nat → Int32) (k : Nat) (st lat v : Int32) : Prop := (v = -1 ∧ ∀ e, e < k → ¬ MT g st lat e) ∨ ∃ b, b < k ∧ v = nI b ∧ MT g st lat b ∧ ∀ e, e < b → ¬ MT g st lat e
theorem r134_l {st lat : Int32} {x : Int32} (hm : RM M) (hj : RJ J S k) (hx : ∀ e, e < k → MT S.1 st lat e → S.1 (15 + 43 * e) = x) (kk : ∀ v, FM S.1 k st lat v → Q (some (.int v)) (LK, sr I J, M)) :
    ∀ r i v, r + i = k → FM S.1 i st lat v → Ev (d + 2) X0 134 5 [.ref 229, .int st, .int lat, .int v, .int (nI i)] [] (LK, sr I J, M) Q
  | 0, i, v, hi, hf => by
    obtain rfl : i = k := by omega
    have hk6 := hj.2.1
    have e1 : J 1 = nI i := by rw [hj.2.2.1 1 (by omega) (by omega)]; exact hj.1
    have k3 := kk v hf
    rw [H134_5]
    simp (disch := omega) only [K134, ai_c1i, ai_c1n, ai_c1r, e_al0, e_an0, e_c1, e_c3, e_c4, e_const, e_cv3, e_getR, e_goto, e_iald, e_ii4, e_il1, e_il2, e_il3, e_il4, e_is3, e_is4, e_reti, e_z2, Option.toList_some, Option.toList_none, List.cons_append, List.nil_append, List.append_nil, List.length_cons, List.length_nil, Nat.reduceAdd, Nat.reduceLeDiff, Nat.zero_le, true_and, and_true, and_self, true_implies, forall_const, ai_rvs, ai_rv0, ai_b_0, Classical.not_not, not_true_eq_false, false_implies, not_false_eq_true, true_implies, and_true, true_and, if_true, if_false, Bool.false_eq_true, q_229, a_nw, hm.1, nIc, sr_r, e1, Int32.le_refl]
    exact k3
  | r + 1, i, v, hi, hf => by
    have hk6 := hj.2.1
    have rd := hj.2.2.1
    have e1 : J 1 = nI k := by rw [rd 1 (by omega) (by omega)]; exact hj.1
    have e0 : J (12 + 43 * i + 0) = S.1 (12 + 43 * i) := rd _ (by omega) (by omega)
    have e3 : J (12 + 43 * i + 3) = S.1 (15 + 43 * i) := by rw [rd _ (by omega) (by omega), p_3]
    have ih := fun v => r134_l hm hj hx kk r (i + 1) v (by omega)
    have nx : ¬ MT S.1 st lat i → FM S.1 (i + 1) st lat v := fun hn => by
      rcases hf with ⟨rfl, h⟩ | ⟨b, hb, rfl, h1, h2⟩
      · refine Or.inl ⟨rfl, fun e he => ?_⟩
        by_cases g : e = i
        · subst g
          exact hn
        · exact h e (by omega)
      · exact Or.inr ⟨b, by omega, rfl, h1, h2⟩
    rw [H134_5]
    simp (disch := omega) only [K134, ai_c1i, ai_c1n, ai_c1r, e_al0, e_an0, e_c1, e_c3, e_c4, e_const, e_cv3, e_getR, e_goto, e_iald, e_ii4, e_il1, e_il2, e_il3, e_il4, e_is3, e_is4, e_reti, e_z2, Option.toList_some, Option.toList_none, List.cons_append, List.nil_append, List.append_nil, List.length_cons, List.length_nil, Nat.reduceAdd, Nat.reduceLeDiff, Nat.zero_le, true_and, and_true, and_self, true_implies, forall_const, ai_rvs, ai_rv0, ai_b_0, Classical.not_not, not_true_eq_false, false_implies, not_false_eq_true, true_implies, and_true, true_and, if_true, if_false, Bool.false_eq_true, q_229, a_nw, hm.1, nIc, sr_r, e1, nIle, r100 hm, e0, e3]
    refine ⟨fun g => absurd g (by omega), fun _ => ⟨fun g1 => ?_, fun g1 => ⟨fun g2 => ?_, fun g2 => ?_⟩⟩⟩
    · rw [nIa]
      exact ih v (nx fun h => g1 h.1)
    · rw [nIa]
      exact ih v (nx fun h => i_nle.mpr g2 h.2)
    · have hmt : MT S.1 st lat i := ⟨g1, i_nlt.mp g2⟩
      rcases hf with ⟨rfl, h⟩ | ⟨b, hb, rfl, h1, h2⟩
      · have n0 : ((-1 : Int32) < nI 0) = True := eq_true (by decide)
        simp (disch := omega) only [K134, ai_c1i, ai_c1n, ai_c1r, e_al0, e_an0, e_c1, e_c3, e_c4, e_const, e_cv3, e_getR, e_goto, e_iald, e_ii4, e_il1, e_il2, e_il3, e_il4, e_is3, e_is4, e_reti, e_z2, Option.toList_some, Option.toList_none, List.cons_append, List.nil_append, List.append_nil, List.length_cons, List.length_nil, Nat.reduceAdd, Nat.reduceLeDiff, Nat.zero_le, true_and, and_true, and_self, true_implies, forall_const, ai_rvs, ai_rv0, ai_b_0, Classical.not_not, not_true_eq_false, false_implies, not_false_eq_true, true_implies, and_true, true_and, if_true, if_false, Bool.false_eq_true, q_229, a_nw, n0, nIa]
        exact ih _ (Or.inr ⟨i, by omega, rfl, hmt, h⟩)
      · have n0 : (nI b < nI 0) = False := eq_false (by rw [nIlt (by omega) (by omega)]; omega)
        have eb : J (12 + 43 * b + 3) = x := by rw [rd _ (by omega) (by omega), p_3]; exact hx b (by omega) h1
        have ei : S.1 (15 + 43 * i) = x := hx i (by omega) hmt
        simp (disch := omega) only [K134, ai_c1i, ai_c1n, ai_c1r, e_al0, e_an0, e_c1, e_c3, e_c4, e_const, e_cv3, e_getR, e_goto, e_iald, e_ii4, e_il1, e_il2, e_il3, e_il4, e_is3, e_is4, e_reti, e_z2, Option.toList_some, Option.toList_none, List.cons_append, List.nil_append, List.append_nil, List.length_cons, List.length_nil, Nat.reduceAdd, Nat.reduceLeDiff, Nat.zero_le, true_and, and_true, and_self, true_implies, forall_const, ai_rvs, ai_rv0, ai_b_0, Classical.not_not, not_true_eq_false, false_implies, not_false_eq_true, true_implies, and_true, true_and, if_true, if_false, Bool.false_eq_true, q_229, a_nw, n0, nIa, r100 hm, sr_r, e3, eb, ei, Int32.le_refl]
        exact ih _ (Or.inr ⟨b, by omega, rfl, h1, h2⟩)
theorem r134 {st lat : Int32} {x : Int32} (hm : RM M) (hj : RJ J S k) (hx : ∀ e, e < k → MT S.1 st lat e → S.1 (15 + 43 * e) = x) (kk : ∀ v, FM S.1 k st lat v → Q (some (.int v)) (LK, sr I J, M)) : Cl (d + 2) 134 [.ref 229, .int st, .int lat] (LK, sr I J, M) Q := by
  simp (disch := omega) only [E134, K134, ai_c1i, ai_c1n, ai_c1r, e_al0, e_an0, e_c1, e_c3, e_c4, e_const, e_cv3, e_getR, e_goto, e_iald, e_ii4, e_il1, e_il2, e_il3, e_il4, e_is3, e_is4, e_reti, e_z2, Option.toList_some, Option.toList_none, List.cons_append, List.nil_append, List.append_nil, List.length_cons, List.length_nil, Nat.reduceAdd, Nat.reduceLeDiff, Nat.zero_le, true_and, and_true, and_self, true_implies, forall_const, ai_rvs, ai_rv0, ai_b_0, Classical.not_not, not_true_eq_false, false_implies, not_false_eq_true, true_implies, and_true, true_and, if_true, if_false, Bool.false_eq_true]
  exact r134_l hm hj hx kk k 0 (-1) (by omega) (Or.inl ⟨rfl, fun e he => absurd he (by omega)⟩)
end RTICK
