/-! the reference makes void, and those that are linked -/
theorem rn_o {j : Nat} (h1 : j < 6 ∨ 12 ≤ j) (h3 : j ≠ 3) (h : ∀ m, j ≠ 18 + 43 * m ∧ j ≠ 12 + 43 * m ∧ j ≠ 20 + 43 * m) : ∀ (ds : List Nat) (S : St), (rn ds S).1 j = S.1 j
  | [], _ => rfl
  | d :: ds, S => by
    rw [rn, rn_o h1 h3 h ds]
    exact mv_o h1 (h d).1 h3 (h d).2.1 (h d).2.2
theorem rn_3 {m : Nat} : ∀ (ds : List Nat) (S : St), S.1 (12 + 43 * m) = nI 3 → (rn ds S).1 (12 + 43 * m) = nI 3
  | [], _, h => h
  | d :: ds, S, h => by
    rw [rn]
    refine rn_3 ds _ ?_
    unfold stp
    by_cases e : m = d
    · subst e
      exact mv_st
    · rw [mv_o (by omega) (by omega) (by omega) (by omega) (by omega)]
      exact h
theorem rn_len : ∀ (ds : List Nat) (S : St), S.1 3 = nI S.2.1.length → (rn ds S).1 3 = nI (rn ds S).2.1.length
  | [], _, h => h
  | d :: ds, S, _ => rn_len ds (stp S d) mv_3
/-- the markets' states -/
def MST (g : Nat → Int32) (k : Nat) : Prop := ∀ m, m < k → ∃ s, s < 4 ∧ g (12 + 43 * m) = nI s
theorem MST.mv_ {S : St} {k e : Nat} {r : Int32} (h : MST S.1 k) : MST (mv S e r).1 k := fun m hm => by
  by_cases g : m = e
  · subst g
    exact ⟨3, by omega, mv_st⟩
  · rw [mv_o (by omega) (by omega) (by omega) (by omega) (by omega)]
    exact h m hm
theorem MST.rn_ {k : Nat} : ∀ (ds : List Nat) (S : St), MST S.1 k → MST (rn ds S).1 k
  | [], _, h => h
  | _ :: ds, S, h => MST.rn_ ds (stp S _) h.mv_
section RVOID2
variable {M : Nat → Nat → Nat} {k : Nat}
theorem ai_u_add {I : Nat → Nat → Int32} {a b : Nat} {v w : Int32} : ai_u (ai_u I a b v) a b w = ai_u I a b w := by
  funext x y
  unfold ai_u
  by_cases h : x = a ∧ y = b
  · simp [h]
  · simp only [h, if_false]
theorem r133 (hm : RM M) (hk6 : k ≤ 6) : ∀ (r : Nat) {m : Nat} {S : St} {J : Nat → Int32} {I : Nat → Nat → Int32} {why : Int32} {d : Nat} {Q : Option Value → ai_H → Prop}, m < k → k ≤ m + r → S.1 3 = nI S.2.1.length → CV S.1 k → MST S.1 k → RJ J S k →
    (∀ J' ds, okr k ds (mv S m why) → (∀ e, e < k → av (rn ds (mv S m why)).1 e → av S.1 e) → RJ J' (rn ds (mv S m why)) k → Q none (LK, sr (ai_u I 229 6 (I 229 6 + nI (1 + ds.length))) J', M)) → Cl (d + r + 3) 133 [.ref 229, .int (nI m), .int why] (LK, sr I J, M) Q := by
  intro r
  induction r with
  | zero => intro m S J I why d Q hmk hr; omega
  | succ r ih =>
    intro m S J I why d Q hmk hr h3 hc hst hj kk
    refine r133_h (d := d + r + 1) hm hmk hj h3 fun J1 hj1 => ?_
    have loop : ∀ q i, q + i = k → ∀ (ds : List Nat) (J : Nat → Int32), okr k ds (mv S m why) → (∀ e, e < k → av (rn ds (mv S m why)).1 e → av S.1 e ∨ (i ≤ e ∧ S.1 (16 + 43 * e) = nI m)) → RJ J (rn ds (mv S m why)) k → Ev (d + r + 4) X0 133 99 [.ref 229, .int (nI m), .int why, .int (nI i)] [] (LK, sr (ai_u I 229 6 (I 229 6 + nI (1 + ds.length))) J, M) Q := by
      intro q
      induction q with
      | zero =>
        intro i hi ds J ho hs hj
        obtain rfl : i = k := by omega
        have e1 : J 1 = nI i := by rw [hj.2.2.1 1 (by omega) (by omega)]; exact hj.1
        have k3 := kk J ds ho (fun e he ha => (hs e he ha).elim id fun g => absurd g.1 (by omega)) hj
        rw [H133_99]
        simp (disch := omega) only [K133_0, K133_1, ai_c1i, ai_c1n, ai_c1r, e_al0, e_an0, e_b0, e_b1, e_c1, e_c3, e_const, e_cs1, e_cv2, e_cv3, e_dup2, e_dupi, e_dupr, e_getI, e_getR, e_goto, e_iald, e_iast, e_ii3, e_il1, e_il2, e_il3, e_is3, e_putI, e_ret, Option.toList_some, Option.toList_none, List.cons_append, List.nil_append, List.append_nil, List.length_cons, List.length_nil, Nat.reduceAdd, Nat.reduceLeDiff, Nat.zero_le, true_and, and_true, and_self, true_implies, forall_const, ai_rvs, ai_rv0, ai_b_0, Classical.not_not, not_true_eq_false, false_implies, not_false_eq_true, true_implies, and_true, true_and, if_true, if_false, Bool.false_eq_true, q_229, a_nw, hm.1, nIc, sr_r, e1, Int32.le_refl]
        exact k3
      | succ q ih2 =>
        intro i hi ds J ho hs hj
        have rd := hj.2.2.1
        have e1 : J 1 = nI k := by rw [rd 1 (by omega) (by omega)]; exact hj.1
        have ec : (rn ds (mv S m why)).1 (16 + 43 * i) = S.1 (16 + 43 * i) := by
          rw [rn_o (by omega) (by omega) (fun m => by omega), mv_o (by omega) (by omega) (by omega) (by omega) (by omega)]
        have e4 : J (12 + 43 * i + 4) = S.1 (16 + 43 * i) := by rw [rd _ (by omega) (by omega), p_4, ec]
        obtain ⟨s, hs4, es⟩ := MST.rn_ ds _ (MST.mv_ (e := m) (r := why) hst) i (by omega)
        have e0 : J (12 + 43 * i + 0) = nI s := by rw [rd _ (by omega) (by omega)]; exact es
        rw [H133_99]
        simp (disch := omega) only [K133_0, K133_1, ai_c1i, ai_c1n, ai_c1r, e_al0, e_an0, e_b0, e_b1, e_c1, e_c3, e_const, e_cs1, e_cv2, e_cv3, e_dup2, e_dupi, e_dupr, e_getI, e_getR, e_goto, e_iald, e_iast, e_ii3, e_il1, e_il2, e_il3, e_is3, e_putI, e_ret, Option.toList_some, Option.toList_none, List.cons_append, List.nil_append, List.append_nil, List.length_cons, List.length_nil, Nat.reduceAdd, Nat.reduceLeDiff, Nat.zero_le, true_and, and_true, and_self, true_implies, forall_const, ai_rvs, ai_rv0, ai_b_0, Classical.not_not, not_true_eq_false, false_implies, not_false_eq_true, true_implies, and_true, true_and, if_true, if_false, Bool.false_eq_true, q_229, a_nw, hm.1, nIc, sr_r, e1, nIle, r100 hm, e4, e0]
        refine ⟨fun g => absurd g (by omega), fun _ => ⟨fun g1 => ?_, fun g1 => ⟨fun g2 => ?_, fun g2 => ?_⟩⟩⟩
        · rw [nIa]
          refine ih2 (i + 1) (by omega) ds J ho (fun e he ha => (hs e he ha).imp id fun g => ⟨?_, g.2⟩) hj
          by_cases h : e = i
          · subst h
            exact absurd g.2 g1
          · omega
        · rw [nIa]
          refine ih2 (i + 1) (by omega) ds J ho (fun e he ha => (hs e he ha).imp id fun g => ⟨?_, g.2⟩) hj
          by_cases h : e = i
          · subst h
            exfalso
            have := ha.1
            rw [es, nIeq (by omega) (by omega), nIeq (by omega) (by omega)] at this
            omega
          · omega
        · have hmi : m < i := by
            rcases hc i (by omega) with h | ⟨c, hci, h⟩
            · rw [h] at g1
              exact absurd g1.symm (nI_ne_m1 (by omega))
            · rw [h] at g1
              have := (nIeq (by omega) (by omega)).mp g1
              omega
          have hm3 : (rn ds (mv S m why)).1 (12 + 43 * m) = nI 3 := rn_3 ds _ mv_st
          have hrz : m_rz (rn ds (mv S m why)).1 i = nI 3 := by
            unfold m_rz
            rw [ec, g1, if_neg (nI_ne_m1 (by omega)), nIc (by omega), if_pos hm3]
          have hav : av (rn ds (mv S m why)).1 i := by
            refine ⟨?_, by rw [hrz]; decide⟩
            rw [es, nIeq (by omega) (by omega), nIeq (by omega) (by omega)]
            omega
          have hstp : stp (rn ds (mv S m why)) i = mv (rn ds (mv S m why)) i (nI 3) := by
            unfold stp
            rw [hrz]
          refine ih (d := d) (show i < k by omega) (by omega) (rn_len ds _ mv_3) (CV.rn_ ds _ hc.mv_) (MST.rn_ ds _ hst.mv_) hj fun J2 es2 ho2 hs2 hj2 => ?_
          simp (disch := omega) only [K133_0, K133_1, ai_c1i, ai_c1n, ai_c1r, e_al0, e_an0, e_b0, e_b1, e_c1, e_c3, e_const, e_cs1, e_cv2, e_cv3, e_dup2, e_dupi, e_dupr, e_getI, e_getR, e_goto, e_iald, e_iast, e_ii3, e_il1, e_il2, e_il3, e_is3, e_putI, e_ret, Option.toList_some, Option.toList_none, List.cons_append, List.nil_append, List.append_nil, List.length_cons, List.length_nil, Nat.reduceAdd, Nat.reduceLeDiff, Nat.zero_le, true_and, and_true, and_self, true_implies, forall_const, ai_rvs, ai_rv0, ai_b_0, Classical.not_not, not_true_eq_false, false_implies, not_false_eq_true, true_implies, and_true, true_and, if_true, if_false, Bool.false_eq_true, q_229, a_nw, nIa]
          have key : rn (ds ++ i :: es2) (mv S m why) = rn es2 (mv (rn ds (mv S m why)) i (nI 3)) := by
            rw [rn_app, rn, hstp]
          have h9 := ih2 (i + 1) (by omega) (ds ++ i :: es2) J2 (okr_app ds _ _ ho ⟨by omega, hav, by rw [hstp]; exact ho2⟩) (fun e he ha => ?_) (by rw [key]; exact hj2)
          · have ev : I 229 6 + nI (1 + ds.length) + nI (1 + es2.length) = I 229 6 + nI (1 + (ds ++ i :: es2).length) := by
              rw [Int32.add_assoc, nIa, List.length_append, List.length_cons]
              congr 2
              omega
            have eu : ai_u I 229 6 (I 229 6 + nI (1 + ds.length)) 229 6 = I 229 6 + nI (1 + ds.length) := ai_uh
            rw [eu, ai_u_add, ev]
            exact h9
          · rw [key] at ha
            refine (hs e he (hs2 e he ha)).imp id fun g => ⟨?_, g.2⟩
            by_cases h : e = i
            · subst h
              exfalso
              have h4 := ha.1
              rw [rn_3 es2 _ mv_st] at h4
              rcases h4 with h4 | h4 <;> exact absurd h4 (by decide)
            · omega
    refine loop k 0 (by omega) [] J1 trivial (fun e he ha => ?_) hj1
    have hne : e ≠ m := fun h => by
      subst h
      exact lv_no ha.1
    by_cases hce : S.1 (16 + 43 * e) = nI m
    · exact Or.inr ⟨by omega, hce⟩
    · refine Or.inl ⟨?_, ?_⟩
      · have := ha.1
        rw [rn, mv_o (by omega) (by omega) (by omega) (by omega) (by omega)] at this
        exact this
      · have h2 := ha.2
        rw [rn, show m_rz (mv S m why).1 e = m_rz S.1 e from ?_] at h2
        · exact h2
        · rcases hc e he with h | ⟨c, hcd, h⟩
          · exact rz_c (mv_o (by omega) (by omega) (by omega) (by omega) (by omega)) (mv_o (by omega) (by omega) (by omega) (by omega) (by omega)) (fun g => absurd h g) (fun g => absurd h g)
          · have ec : (nI c).toNatClampNeg = c := nIc (by omega)
            have hcm : c ≠ m := fun g => hce (by rw [h, g])
            refine rz_c (mv_o (by omega) (by omega) (by omega) (by omega) (by omega)) (mv_o (by omega) (by omega) (by omega) (by omega) (by omega)) (fun _ => ?_) (fun _ => ?_)
            · rw [h, ec]; exact mv_o (by omega) (by omega) (by omega) (by omega) (by omega)
            · rw [h, ec]; exact mv_o (by omega) (by omega) (by omega) (by omega) (by omega)
end RVOID2
