/-! the copy holds what the other held -/
def cpc (D a j : Nat) : Prop := (a = D ∧ (j = 4 ∨ j = 5)) ∨ (a = D + 1 ∧ j < 6) ∨ (D + 3 ≤ a ∧ a < D + 3 + 10 * 6 ∧ (((a - D - 3) % 10 = 0 ∧ 4 ≤ j ∧ j < 13) ∨ ((a - D - 3) % 10 = 1 ∧ j < 4) ∨ (3 ≤ (a - D - 3) % 10 ∧ (a - D - 3) % 10 < 9 ∧ j < 4) ∨ ((a - D - 3) % 10 = 9 ∧ j < 6))) ∨ (a = D + 63 ∧ (j = 1 ∨ j = 2)) ∨ (a = D + 81 ∧ j = 1)
def cpb (D a j : Nat) : Bool := (a == D && (j == 4 || j == 5)) || (a == D + 1 && j < 6) || (decide (D + 3 ≤ a) && decide (a < D + 3 + 10 * 6) && (((a - D - 3) % 10 == 0 && decide (4 ≤ j) && decide (j < 13)) || ((a - D - 3) % 10 == 1 && decide (j < 4)) || (decide (3 ≤ (a - D - 3) % 10) && decide ((a - D - 3) % 10 < 9) && decide (j < 4)) || ((a - D - 3) % 10 == 9 && decide (j < 6)))) || (a == D + 63 && (j == 1 || j == 2)) || (a == D + 81 && j == 1)
theorem cpb_c {D a j : Nat} (h : cpb D a j = true) : cpc D a j := by
  unfold cpb at h
  unfold cpc
  simp only [Bool.or_eq_true, Bool.and_eq_true, beq_iff_eq, decide_eq_true_eq] at h
  omega
set_option maxRecDepth 20000 in
theorem il_c1 : ∀ k, k < 270 → k = 5 ∨ ((il 1 k).1 = (il 114 k).1 + 1 - 114 ∧ (il 1 k).2 = (il 114 k).2 ∧ cpb 114 (il 114 k).1 (il 114 k).2 = true) := fun k hk => co_dec (P := fun k => k = 5 ∨ ((il 1 k).1 = (il 114 k).1 + 1 - 114 ∧ (il 1 k).2 = (il 114 k).2 ∧ cpb 114 (il 114 k).1 (il 114 k).2 = true)) (N := 270) (by decide +kernel) hk
set_option maxRecDepth 20000 in
theorem il_c2 : ∀ k, k < 270 → k = 5 ∨ ((il 114 k).1 = (il 1 k).1 + 114 - 1 ∧ (il 114 k).2 = (il 1 k).2 ∧ cpb 1 (il 1 k).1 (il 1 k).2 = true) := fun k hk => co_dec (P := fun k => k = 5 ∨ ((il 114 k).1 = (il 1 k).1 + 114 - 1 ∧ (il 114 k).2 = (il 1 k).2 ∧ cpb 1 (il 1 k).1 (il 1 k).2 = true)) (N := 270) (by decide +kernel) hk
theorem il_cp {D E k : Nat} (hD : BB D) (hE : BB E) (hne : D ≠ E) (hk : k < 270) (h5 : k ≠ 5) : (il E k).1 = (il D k).1 + E - D ∧ (il E k).2 = (il D k).2 ∧ cpc D (il D k).1 (il D k).2 := by
  rcases hD with rfl | rfl
  · rcases hE with rfl | rfl
    · exact absurd rfl hne
    · obtain ⟨h1, h2, h3⟩ := (il_c2 k hk).resolve_left h5
      exact ⟨h1, h2, cpb_c h3⟩
  · rcases hE with rfl | rfl
    · obtain ⟨h1, h2, h3⟩ := (il_c1 k hk).resolve_left h5
      exact ⟨h1, h2, cpb_c h3⟩
    · exact absurd rfl hne
section COPYX
variable {M : Nat → Nat → Nat} {D E : Nat} {d : Nat} {Q : Option Value → ai_H → Prop} {I : Nat → Nat → Int32} {pD pE : Nat → Nat}
theorem hex_cp (hD : BB D) (hE : BB E) (hne : D ≠ E) (hd : ∀ i, i < 16 → pD i < 16) {a j : Nat} (h : cpc D a j) : hex I D E pD pE a j = I (a + E - D) j := by
  have hD' : D = 1 ∨ D = 114 := hD
  have hE' : E = 1 ∨ E = 114 := hE
  have hb : ∀ {J : Nat → Nat → Int32} {a : Nat}, ¬ (D + 65 ≤ a ∧ a < D + 81) → hbk J D E pD pE 16 a = J a := fun h9 => hbk_o 16 fun i hi => by have := hd i hi; omega
  have hh : ∀ {J : Nat → Nat → Int32} {a j : Nat}, ¬ (D + 83 ≤ a ∧ a < D + 113) → hhs J D E 30 a j = J a j := fun h9 => by rw [hhs_at hD hE hne 30 (by omega), if_neg (by omega)]
  unfold hex
  rcases h with ⟨rfl, rfl | rfl⟩ | h | h | ⟨rfl, rfl | rfl⟩ | ⟨rfl, rfl⟩
  · rw [ai_uo (by omega), ai_uh, ai_uo (by omega), hh (by omega), ai_uo (by omega), ai_uo (by omega), hb (by omega), hmk_at hD hE hne 6 (by omega), if_neg (by omega)]
    congr 1
    omega
  · rw [ai_uh, ai_uo (by omega), hh (by omega), ai_uo (by omega), ai_uo (by omega), hb (by omega), hmk_at hD hE hne 6 (by omega), if_neg (by omega)]
    congr 1
    omega
  · rw [ai_uo (by omega), ai_uo (by omega), ai_uo (by omega), hh (by omega), ai_uo (by omega), ai_uo (by omega), hb (by omega), hmk_at hD hE hne 6 (by omega), if_pos (Or.inl h)]
  · rw [ai_uo (by omega), ai_uo (by omega), ai_uo (by omega), hh (by omega), ai_uo (by omega), ai_uo (by omega), hb (by omega), hmk_at hD hE hne 6 (by omega), if_pos (Or.inr h)]
  · rw [ai_uo (by omega), ai_uo (by omega), ai_uo (by omega), hh (by omega), ai_uo (by omega), ai_uh, hmk_at hD hE hne 6 (by omega), if_neg (by omega)]
    congr 1
    omega
  · rw [ai_uo (by omega), ai_uo (by omega), ai_uo (by omega), hh (by omega), ai_uh, hmk_at hD hE hne 6 (by omega), if_neg (by omega)]
    congr 1
    omega
  · rw [ai_uo (by omega), ai_uo (by omega), ai_uh, ai_uo (by omega), ai_uo (by omega), hb (by omega), hmk_at hD hE hne 6 (by omega), if_neg (by omega)]
    congr 1
    omega
theorem hex_o (hD : BB D) (hE : BB E) (hne : D ≠ E) (hd : ∀ i, i < 16 → pD i < 16) {a j : Nat} (h : ¬ (D ≤ a ∧ a < D + 113) ∨ (D + 3 ≤ a ∧ a < D + 63 ∧ j = 0 ∧ (a - D - 3) % 10 = 0)) : hex I D E pD pE a j = I a j := by
  have hD' : D = 1 ∨ D = 114 := hD
  have hE' : E = 1 ∨ E = 114 := hE
  unfold hex
  rw [ai_uo (by omega), ai_uo (by omega), ai_uo (by omega), hhs_at hD hE hne 30 (by omega), if_neg (by omega), ai_uo (by omega), ai_uo (by omega), hbk_o 16 (fun i hi => by have := hd i hi; omega), hmk_at hD hE hne 6 (by omega), if_neg (by omega)]
theorem hex_r (hD : BB D) (hE : BB E) (hne : D ≠ E) (hd : ∀ i, i < 16 → pD i < 16) (he : ∀ i, i < 16 → pE i < 16) (inj : ∀ i j, i < 16 → j < 16 → pD i = pD j → i = j) {r j : Nat} (hr : r < 16) (hj : j < 6) : hex I D E pD pE (D + 65 + pD r) j = I (E + 65 + pE r) j := by
  have hD' : D = 1 ∨ D = 114 := hD
  have hE' : E = 1 ∨ E = 114 := hE
  have h1 := hd r hr
  have h2 := he r hr
  unfold hex
  rw [ai_uo (by omega), ai_uo (by omega), ai_uo (by omega), hhs_at hD hE hne 30 (by omega), if_neg (by omega), ai_uo (by omega), ai_uo (by omega), hbk_r hD hE hne hd he inj hj 16 (by omega) hr, hmk_at hD hE hne 6 (by omega), if_neg (by omega)]
theorem hex_h (hD : BB D) (hE : BB E) (hne : D ≠ E) (hd : ∀ i, i < 16 → pD i < 16) {r j : Nat} (hr : r < 30) (hj : j < 6) : hex I D E pD pE (D + 83 + r) j = I (E + 83 + r) j := by
  have hD' : D = 1 ∨ D = 114 := hD
  have hE' : E = 1 ∨ E = 114 := hE
  unfold hex
  rw [ai_uo (by omega), ai_uo (by omega), ai_uo (by omega), hhs_at hD hE hne 30 (by omega), if_pos (by omega), show D + 83 + r + E - D = E + 83 + r by omega, ai_uo (by omega), ai_uo (by omega), hbk_o 16 (fun i hi => by have := hd i hi; omega), hmk_at hD hE hne 6 (by omega), if_neg (by omega)]
theorem EX.ms {B : Nat} {S : St} {C : (Nat → Nat → Int32) × (Nat → Nat → Nat)} (h : EX B S C I M) : MS B M := h.2.1
/-- Exchange.copyFrom -/
theorem c8 {S S0 : St} {C C0 : (Nat → Nat → Int32) × (Nat → Nat → Nat)} (hD : BB D) (hE : BB E) (hne : D ≠ E) (h : EX E S C I M) (h0 : EX D S0 C0 I M) (kk : ∀ I', (∀ a, ¬ (D ≤ a ∧ a < D + 113) → I' a = I a) → EX D S (I', M) I' M → Q none (LK, I', M)) : Cl (d + 2) 8 [.ref D, .ref E] (LK, I, M) Q := by
  have hD' : D = 1 ∨ D = 114 := hD
  have hE' : E = 1 ∨ E = 114 := hE
  have sD := h0.ms
  have sE := h.ms
  obtain ⟨-, -, n0, -, ⟨-, -, pD, d1, d2, -⟩, -⟩ := h0
  obtain ⟨-, -, -, g1, ⟨b1, b2, pE, e1, e2, e3⟩, T, t1, t2, t3⟩ := h
  have d0 : ∀ i, i < 16 → pD i < 16 := fun i hi => (d1 i hi).1
  have e0 : ∀ i, i < 16 → pE i < 16 := fun i hi => (e1 i hi).1
  refine c8h hD hE hne sD sE d1 e1 (kk (hex I D E pD pE) (fun a ha => ?_) ?_)
  · funext j
    exact hex_o hD hE hne d0 (Or.inl ha)
  · refine ⟨fun a _ => ⟨rfl, rfl⟩, sD, fun m hm => ?_, fun k hk h5 => ?_, ⟨b1, ?_, pD, d1, d2, fun i o hi => ?_⟩, T, ?_, t2, fun i p hi hiT hp => ?_⟩
    · rw [hex_o hD hE hne d0 (Or.inr (by omega))]
      exact n0 m hm
    · obtain ⟨f1, f2, f3⟩ := il_cp hD hE hne hk h5
      rw [hex_cp hD hE hne d0 f3, ← f1, ← f2]
      exact g1 k hk h5
    · rw [hex_cp hD hE hne d0 (by unfold cpc; omega), show D + 63 + E - D = E + 63 by omega]
      exact b2
    · have h8 : i < S.2.1.length := (List.getElem?_eq_some_iff.mp hi).1
      have := e3 i o hi
      unfold oat at this ⊢
      have hr : ∀ j, j < 6 → hex I D E pD pE (D + 65 + pD i) j = I (E + 65 + pE i) j := fun j hj => hex_r hD hE hne d0 e0 d2 (by omega) hj
      rw [hr 0 (by omega), hr 1 (by omega), hr 2 (by omega), hr 3 (by omega), hr 4 (by omega), hr 5 (by omega)]
      exact this
    · rw [hex_cp hD hE hne d0 (by unfold cpc; omega), show D + 81 + E - D = E + 81 by omega]
      exact t1
    · rw [hex_h hD hE hne d0 (Nat.mod_lt _ (by omega)) hp]
      exact t3 i p hi hiT hp
end COPYX
