/-! the bar of an order -/
/-- the markets' numbers -/
def MV (g : Nat → Int32) (k : Nat) : Prop := ∀ m, m < k → ∃ (n b : Nat) (s : Nat → Nat), g (14 + 43 * m) = nI n ∧ 2 ≤ n ∧ n ≤ 4 ∧ g (13 + 43 * m) = nI b ∧ 1 ≤ b ∧ b ≤ 60 ∧ ∀ o, o < n → g (21 + 43 * m + o) = nI (s o) ∧ s o ≤ 400
section RBAR
variable {I : Nat → Nat → Int32} {J : Nat → Int32} {M : Nat → Nat → Nat} {S : St} {m n b o k t T : Nat} {s : Nat → Nat} {L os : List Od} {d : Nat} {Q : Option Value → ai_H → Prop}
theorem RK.of (hk : m < k) (hk6 : k ≤ 6) (rd : ∀ j, j < 12 + 43 * k → j ≠ 5 → J j = S.1 j) (h1 : S.1 (14 + 43 * m) = nI n) (hn4 : n ≤ 4) (h2 : S.1 (13 + 43 * m) = nI b) (hb : b ≤ 60) (h3 : ∀ o, o < n → S.1 (21 + 43 * m + o) = nI (s o) ∧ s o ≤ 400) : RK J m n b s := by
  refine ⟨by omega, hn4, ?_, ?_, hb, fun o ho => ?_⟩
  · rw [rd _ (by omega) (by omega), p_2]; exact h1
  · rw [rd _ (by omega) (by omega), p_1]; exact h2
  · obtain ⟨g1, g2⟩ := h3 o ho
    rw [show 12 + 43 * m + (9 + o) = 21 + 43 * m + o by omega, rd _ (by omega) (by omega)]
    exact ⟨g1, by omega⟩
theorem r123 {i : Nat} {x : Od} (hm : RM M) (hro : RO J S.2.1 os) (hk : m < k) (hj : RJ J S k) (h1 : S.1 (14 + 43 * m) = nI n) (hn2 : 2 ≤ n) (hn4 : n ≤ 4) (h2 : S.1 (13 + 43 * m) = nI b) (hb1 : 1 ≤ b) (hb : b ≤ 60) (h3 : ∀ o, o < n → S.1 (21 + 43 * m + o) = nI (s o) ∧ s o ≤ 400)
    (hi : os[i]? = some x) (em : x.2.2.1 = nI m) (ho : o < n) (eo : x.2.2.2.1 = nI o) (ht : t < 6) (et : x.2.1 = nI t) : Cl (d + 7) 123 [.ref 229, .int (nI i)] (LK, sr I J, M) Q ↔ Q (some (.int (m_ob x.2.2.2.2.2 (m_due S.1 m o (nI 1)) (S.1 (6 + t)) (S.1 (21 + 43 * m + o))))) (LK, sr I J, M) := by
  refine Cl_one ?_
  obtain ⟨l1, l2⟩ := hro.len
  have hk6 := hj.2.1
  have rd := hj.2.2.1
  have hi8 : i < os.length := (List.getElem?_eq_some_iff.mp hi).1
  obtain ⟨x0, x1, x2, x3, x4, x5⟩ := hro.f hi
  have hr : RK J m n b s := RK.of hk hk6 rd h1 hn4 h2 hb h3
  obtain ⟨g1, g2⟩ := h3 o ho
  have hs : J (21 + 43 * m + o) + nI 1 = nI (s o + 1) := by rw [rd _ (by omega) (by omega), g1, nIa]
  have hdue := hj.due (c := nI 1) hk hr ho
  have ea : 12 + 43 * m + (9 + o) = 21 + 43 * m + o := by omega
  have rb : J (6 + t) = S.1 (6 + t) := rd _ (by omega) (by omega)
  have rs : J (21 + 43 * m + o) = S.1 (21 + 43 * m + o) := rd _ (by omega) (by omega)
  simp (disch := omega) only [E123, K123_0, K123_1, ai_c1i, ai_c1n, ai_c1r, e_al0, e_an0, e_b0, e_c2, e_c5, e_const, e_cs1, e_cv3, e_cv4, e_getR, e_goto, e_iald, e_il1, e_il2, e_il3, e_il4, e_is2, e_is3, e_is4, e_reti, Option.toList_some, Option.toList_none, List.cons_append, List.nil_append, List.append_nil, List.length_cons, List.length_nil, Nat.reduceAdd, Nat.reduceLeDiff, Nat.zero_le, true_and, and_true, and_self, true_implies, forall_const, ai_rvs, ai_rv0, ai_b_0, Classical.not_not, not_true_eq_false, false_implies, not_false_eq_true, true_implies, and_true, true_and, if_true, if_false, Bool.false_eq_true, q_229, a_nw, hm.1, c99, nIm, nIa, nIc, sr_r, x1, x2, x3, x5, em, eo, et, r109 hm hr (by omega) hb1 ho hs (by omega), hdue, rb, r100 hm, ea, rs]
  unfold m_ob
  refine ⟨fun q1 => ⟨fun q2 => ⟨fun q3 => ?_, fun q3 => ?_⟩, fun q2 => ?_⟩, fun q1 => ?_⟩
  · rw [if_neg (i_nlt.mpr q1), if_neg (i_nlt.mpr q2), if_pos q3]
  · rw [if_neg (i_nlt.mpr q1), if_neg (i_nlt.mpr q2), if_neg q3]
  · rw [if_neg (i_nlt.mpr q1), if_pos (i_nle.mp q2)]
  · rw [if_pos (i_nle.mp q1)]
end RBAR
