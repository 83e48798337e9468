/-! the reference's costs, its numbers change -/
/-- the heap with the reference's row of numbers J -/
def sr (I : Nat → Nat → Int32) (J : Nat → Int32) : Nat → Nat → Int32 := fun a j => if a = 230 then J j else I a j
theorem sr_r {I : Nat → Nat → Int32} {J : Nat → Int32} {j : Nat} : sr I J 230 j = J j := rfl
theorem sr_row {I : Nat → Nat → Int32} {J : Nat → Int32} : sr I J 230 = J := rfl
theorem sr_o {I : Nat → Nat → Int32} {J : Nat → Int32} {a : Nat} (h : a ≠ 230) : sr I J a = I a := by funext j; exact if_neg h
theorem sr_u {I : Nat → Nat → Int32} {J : Nat → Int32} {j : Nat} {v : Int32} : ai_u (sr I J) 230 j v = sr I (ug J j v) := by
  funext a k
  unfold ai_u sr ug
  by_cases h : a = 230
  · simp [h]
  · simp [h]
theorem sr_id {I : Nat → Nat → Int32} : sr I (I 230) = I := by
  funext a j
  unfold sr
  split
  · rename_i h; rw [h]
  · rfl
section RCOST
variable {I : Nat → Nat → Int32} {J : Nat → Int32} {M : Nat → Nat → Nat} {S : St} {m n b o k : Nat} {s : Nat → Nat} {d : Nat} {Q : Option Value → ai_H → Prop}
theorem RK.set (h : RK J m n b s) {x : Nat} (ho : o < n) (hx : x < 1000) : RK (ug J (21 + 43 * m + o) (nI x)) m n b (fun j => if j = o then x else s j) := by
  obtain ⟨h1, h2, h3, h4, h5, h6⟩ := h
  refine ⟨h1, h2, by rw [ug_n (by omega)]; exact h3, by rw [ug_n (by omega)]; exact h4, h5, fun j hj => ?_⟩
  obtain ⟨g1, g2⟩ := h6 j hj
  by_cases hjo : j = o
  · subst hjo
    rw [show 12 + 43 * m + (9 + j) = 21 + 43 * m + j by omega, ug_s]
    simp only [if_true]
    exact ⟨trivial, hx⟩
  · rw [ug_n (by omega)]
    simp only [hjo, if_false]
    exact ⟨g1, g2⟩
theorem r109 {c : Int32} {x : Nat} (hm : RM M) (h : RK J m n b s) (hn : 1 ≤ n) (hb : 1 ≤ b) (ho : o < n) (hc : J (21 + 43 * m + o) + c = nI x) (hx : x < 1000) : Cl (d + 6) 109 [.ref 229, .int (nI m), .int (nI o), .int c] (LK, sr I J, M) Q ↔ Q (some (.int (m_cost (qs J m) n (nI b) o c))) (LK, sr I J, M) := by
  refine Cl_one ?_
  obtain ⟨h1, h2, h3, h4, h5, h6⟩ := id h
  have r0 : RK ((sr I J) 230) m n b s := h
  have r1 : RK ((sr I (ug J (21 + 43 * m + o) (nI x))) 230) m n b (fun j => if j = o then x else s j) := h.set ho hx
  have e0 : (fun o => sr I J 230 (21 + 43 * m + o)) = qs J m := rfl
  have e1 : (fun j => sr I (ug J (21 + 43 * m + o) (nI x)) 230 (21 + 43 * m + j)) = ug (qs J m) o (qs J m o + c) := by
    rw [show qs J m o + c = nI x from hc]
    exact qs_ug
  have ei : nI x - c = J (21 + 43 * m + o) := by rw [← hc, i_addsub]
  have ea : 12 + 43 * m + 9 + o = 21 + 43 * m + o := by omega
  simp (disch := omega) only [E109, K109, ai_c1i, ai_c1n, ai_c1r, e_al0, e_an0, e_b0, e_b1, e_const, e_cs1, e_cv2, e_dup2, e_getR, e_iald, e_iast, e_il1, e_il2, e_il3, e_il4, e_il5, e_is4, e_is5, e_reti, Option.toList_some, Option.toList_none, List.cons_append, List.nil_append, List.append_nil, List.length_cons, List.length_nil, Nat.reduceAdd, Nat.reduceLeDiff, Nat.zero_le, true_and, and_true, and_self, true_implies, forall_const, ai_rvs, ai_rv0, ai_b_0, Classical.not_not, not_true_eq_false, false_implies, not_false_eq_true, true_implies, and_true, true_and, if_true, if_false, Bool.false_eq_true, q_229, a_nw, R107 hm r0 hn hb, hm.1, c98, nIm, nIa, nIc, ea, sr_r, sr_u, hc, R107 hm r1 hn hb, ug_s, ei, ug_ug, ug_id]
  unfold m_cost
  rw [← e1]
  rfl
end RCOST
