/-! the reference buys and sells -/
theorem totL_le {L : List Od} (h : ∀ x ∈ L, OD x) : totL L ≤ 50 * L.length := by
  induction L with
  | nil => exact Nat.le_refl _
  | cons a L ih =>
    have h1 := ih fun x hx => h x (List.mem_cons_of_mem _ hx)
    obtain ⟨N, l, li, hN, eN, l1, l50, el, _⟩ := h a (List.mem_cons_self ..)
    unfold totL at h1 ⊢
    rw [List.map_cons, List.sum_cons, List.length_cons, el, nIc (by omega)]
    omega
/-- all that the reference's trading rests on -/
def EW (S : St) (k T : Nat) : Prop := VB S.1 k ∧ EV S k ∧ SRT S.2.1 ∧ S.1 4 = nI T ∧ S.2.1.length ≤ 16
theorem EW.tot {S : St} {k T : Nat} (h : EW S k T) : totL S.2.1 ≤ 800 := by
  have h1 := totL_le h.2.1.2.2.2
  have h2 := h.2.2.2.2
  omega
section RBUY
variable {I : Nat → Nat → Int32} {J : Nat → Int32} {M : Nat → Nat → Nat} {S : St} {m k T : Nat} {d : Nat} {Q : Option Value → ai_H → Prop}
theorem EW.trd {m t o x : Nat} {c ord : Int32} (h : EW S k T) (ht : t < 6) (ho : o < 4) (hx : S.1 (21 + 43 * m + o) + c = nI x) (hx4 : x ≤ 400) : EW (tr S m t o c ord) k (T + 1) := by
  obtain ⟨w1, ⟨v1, v2, v3, v4⟩, w3, w4, w5⟩ := h
  have cf : ∀ j, cfg m j → (tr S m t o c ord).1 j = S.1 j := fun j hj => by
    obtain ⟨k1, k2, k3, k4⟩ := hj
    obtain ⟨g1, g2, g3, g4⟩ := k4 t o ht ho
    exact tr_K k2 g1 k3 g2 g3 g4
  refine ⟨w1.of (cf 1 cfg_1) fun m' => cf _ cfg_n, ⟨v1.trd ht ho hx hx4, ?_, fun y hy => ?_, v4⟩, w3, ?_, w5⟩
  · exact (tr_K (by omega) (by omega) (by omega) (by omega) (by omega) (by omega)).trans v2
  · obtain ⟨m1, n1, o1, t1, a1, a2, a3, a4⟩ := v3 y hy
    exact ⟨m1, n1, o1, t1, a1, a2, (cf _ cfg_n).trans a3, a4⟩
  · skip
    rw [tr_4, w4, nIa]
end RBUY
