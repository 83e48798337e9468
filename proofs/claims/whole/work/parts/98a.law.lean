/-! one call of the law, on both sides -/
section XR
variable {d : Nat} {X : ai_X} {f a b : Nat} {v : Int32} {tb : List Nat} {nx : Nat} {ls st : List Value} {h : ai_H} {Q : Option Value → ai_H → Prop}
theorem e_xl0 {x : Nat} {l : List Value} : EvI d X f (2, 0, b, v, tb, nx) (.retAddr x :: l) st h Q ↔ Ev d X f nx (.retAddr x :: l) (.retAddr x :: st) h Q := EvI_step rfl
theorem e_xald {q : Nat} {i : Int32} : EvI d X f (26, a, b, v, tb, nx) ls (.int i :: .retAddr q :: st) h Q ↔ (ai_in i (X.1 - 1) = true ∧ Ev d X f nx ls (.int (X.2 i.toNatClampNeg) :: st) h Q) := by
  by_cases g : ai_in i (X.1 - 1) = true
  · rw [EvI_step (pc' := nx) (ls' := ls) (st' := .int (X.2 i.toNatClampNeg) :: st) (h' := h) (by
      show (if ai_in i (X.1 - 1) = true then some (Sum.inl (nx, ls, .int (X.2 i.toNatClampNeg) :: st, h)) else none) = _
      rw [if_pos g])]
    exact ⟨fun h => ⟨g, h⟩, fun h => h.2⟩
  · rw [EvI_none (by
      show (if ai_in i (X.1 - 1) = true then some (Sum.inl (nx, ls, .int (X.2 i.toNatClampNeg) :: st, h)) else none) = none
      rw [if_neg g])]
    exact ⟨fun h => h.elim, fun h => g h.1⟩
theorem e_xlen {q : Nat} : EvI d X f (32, a, b, v, tb, nx) ls (.retAddr q :: st) h Q ↔ (X.1 ≠ 0 ∧ Ev d X f nx ls (.int (Int32.ofNat (X.1 - 1)) :: st) h Q) := by
  by_cases g : X.1 = 0
  · rw [EvI_none (by
      show (if X.1 = 0 then none else some (Sum.inl (nx, ls, .int (Int32.ofNat (X.1 - 1)) :: st, h))) = none
      rw [if_pos g])]
    exact ⟨fun h => h.elim, fun h => h.1 g⟩
  · rw [EvI_step (pc' := nx) (ls' := ls) (st' := .int (Int32.ofNat (X.1 - 1)) :: st) (h' := h) (by
      show (if X.1 = 0 then none else some (Sum.inl (nx, ls, .int (Int32.ofNat (X.1 - 1)) :: st, h))) = _
      rw [if_neg g])]
    exact ⟨fun h => ⟨g, h⟩, fun h => h.2⟩
end XR
section LAWA
variable {S S1 S' : St} {k k1 k' T N tm : Nat} {s : Bool} {tx : Nat → Int32} {len : Nat} {I I1 : Nat → Nat → Int32} {M M1 : Nat → Nat → Nat} {J' : Nat → Int32}
/-- both sides hold the same -/
def PW (S : St) (k : Nat) (S' : St) (k' : Nat) (s : Bool) (tx : Nat → Int32) (len : Nat) (I : Nat → Nat → Int32) (M : Nat → Nat → Nat) : Prop := WD S S' s tx len I M ∧ RW S k S' k' s tx len I M
theorem WD.lt (h : WD S S' s tx len I M) (e : ∀ a, a < 229 → I1 a = I a) : WD S S' s tx len I1 M := by
  obtain ⟨w1, w2, w3, w4, w5, w6, w7⟩ := h
  refine ⟨w1.fr fun x x1 x2 => ⟨e x (by omega), rfl⟩, w2.fr fun x x1 x2 => ⟨e x (by omega), rfl⟩, w3, ?_, w5, ?_, fun i hi => ?_⟩
  · rw [e 0 (by omega)]; exact w4
  · rw [e 227 (by omega)]; exact w6
  · rw [e 228 (by omega)]; exact w7 i hi
theorem PW.c (h : PW S k S' k' s tx len I M) (h1 : EX 1 S1 (I, M) I1 M1) : WD S1 S' s tx len I1 M1 ∧ RW S k S' k' s tx len I1 M1 := ⟨h.1.step h1, h.2.fr fun a ha => h1.1 a (by omega)⟩
theorem PW.r (hw : WD S1 S' s tx len I M) (hr : RW S k S' k' s tx len I M) (hj : RJ J' S1 k1) : PW S1 k1 S' k' s tx len (sr I J') M := ⟨hw.lt fun a ha => sr_o (by omega), hr.j hj⟩
theorem PW.rv {w : Int32} (hw : WD S1 S' s tx len I M) (hr : RW S k S' k' s tx len I M) (hj : RJ J' S1 k1) : PW S1 k1 S' k' s tx len (sr (ai_u I 229 6 w) J') M := ⟨hw.lt fun a ha => by rw [sr_o (by omega), ai_u_other _ _ _ _ (by omega)], (hr.v (Or.inr rfl)).j hj⟩
/-- what stands before a call of the law, c calls after its beginning -/
def WI (c : Nat) (I : Nat → Nat → Int32) (M : Nat → Nat → Nat) : Prop := ∃ S k S' k' s tx len T N tm T' N' tm', PW S k S' k' s tx len I M ∧ INV S k T N tm ∧ (s = true → INV S' k' T' N' tm') ∧ T ≤ 60000 * c ∧ N ≤ c ∧ tm ≤ 100 * c ∧ T' ≤ 60000 * c ∧ N' ≤ c ∧ tm' ≤ 100 * c
theorem SRT.pwl {L : List Od} (h : SRT L) : PWL L := h.imp fun {a b} g => by
  rcases ofb_c.mp g with g | g
  · exact Int32.le_of_lt g
  · rw [g.1]; exact Int32.le_refl _
theorem RW.un (h : RW S k S' k' s tx len I M) : UN S.2.1 := by
  obtain ⟨os, hro⟩ := h.2.1.ro
  exact hro.un
theorem INV.tl_ : ∀ (r nx dn : Nat) (R : Rd) {S : St} {T : Nat}, INV S k T N tm → ∃ T', T ≤ T' ∧ T' ≤ T + 801 * r ∧ INV (tl tx len r nx dn R S).2 k T' N tm
  | 0, _, _, _, _, T, h => ⟨T, by omega, by omega, h⟩
  | r + 1, nx, dn, R, S, T, h => by
    rw [tl]
    split
    · obtain ⟨T1, a1, a2, a3⟩ := h.td_ (R := (rt tx (len - nx) nx (nI 0) R).2)
      have h8 : 801 * (r + 1) = 801 * r + 801 := Nat.mul_succ 801 r
      rw [h8]
      split
      · exact ⟨T1, a1, Nat.le_trans a2 (Nat.add_le_add_left (Nat.le_add_left 801 _) T), a3⟩
      · obtain ⟨T2, b1, b2, b3⟩ := INV.tl_ r (rt tx (len - nx) nx (nI 0) R).1 (dn + 1) (rt tx (len - nx) nx (nI 0) R).2 a3
        exact ⟨T2, Nat.le_trans a1 b1, Nat.le_trans b2 (Nat.le_trans (Nat.add_le_add_right a2 (801 * r)) (by rw [Nat.add_assoc, Nat.add_comm 801]; exact Nat.le_refl _)), b3⟩
    · exact ⟨T, Nat.le_refl T, Nat.le_add_right T _, h⟩
theorem INV.ptd {R : Rd} (h : INV S k T N tm) : ∃ T', T ≤ T' ∧ T' ≤ T + 48060 ∧ INV (p_td S tx len R).2 k T' N tm := by
  unfold p_td
  split
  · obtain ⟨T', a1, a2, a3⟩ := INV.tl_ (tx := tx) (len := len) 60 0 0 R h
    exact ⟨T', a1, by omega, a3⟩
  · exact ⟨T, by omega, by omega, h⟩
theorem ap_c {c x : Int32} {a b : Nat} (e1 : c = nI a) (h1 : a < 128) (e2 : x = nI b) (h2 : 1 ≤ b) (h3 : b ≤ 60) : (nI 0 ≤ c ∧ c ≤ nI 127) ∧ nI 1 ≤ x ∧ x ≤ nI 60 := by
  subst e1 e2
  exact ⟨⟨nI_0le a (by omega), (nIle (by omega) (by omega)).mpr (by omega)⟩, (nIle (by omega) (by omega)).mpr h2, (nIle (by omega) (by omega)).mpr h3⟩
end LAWA
