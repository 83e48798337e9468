/-! an execution keeps what the search rests on -/
theorem ob_0 {lim due bal sh : Int32} (h : m_ob lim due bal sh = nI 0) : due ≤ lim ∧ due ≤ bal ∧ sh < nI 400 := by
  unfold m_ob at h
  have n1 : nI 1 ≠ nI 0 := by decide
  have n2 : nI 2 ≠ nI 0 := by decide
  have n3 : nI 3 ≠ nI 0 := by decide
  by_cases g1 : lim < due
  · rw [if_pos g1] at h; exact absurd h n1
  · rw [if_neg g1] at h
    by_cases g2 : bal < due
    · rw [if_pos g2] at h; exact absurd h n2
    · rw [if_neg g2] at h
      by_cases g3 : sh < nI 400
      · exact ⟨i_nlt.mp g1, i_nlt.mp g2, g3⟩
      · rw [if_neg g3] at h; exact absurd h n3
theorem MV.trd {S : St} {k m t o : Nat} {c ord : Int32} {x : Nat} (h : MV S.1 k) (ht : t < 6) (ho : o < 4) (hx : S.1 (21 + 43 * m + o) + c = nI x) (hx4 : x ≤ 400) : MV (tr S m t o c ord).1 k := by
  intro m' hm'
  obtain ⟨n, b, s, h1, n2, n4, h2, b1, b2, h3⟩ := h m' hm'
  have cf : ∀ j, cfg m j → (tr S m t o c ord).1 j = S.1 j := fun j hj => by
    obtain ⟨k1, k2, k3, k4⟩ := hj
    obtain ⟨g1, g2, g3, g4⟩ := k4 t o ht ho
    exact tr_K k2 g1 k3 g2 g3 g4
  have e1 : (tr S m t o c ord).1 (14 + 43 * m') = S.1 (14 + 43 * m') := cf _ cfg_n
  have e2 : (tr S m t o c ord).1 (13 + 43 * m') = S.1 (13 + 43 * m') := cf _ (by rw [← p_1]; exact cfg_w (by omega) (by omega))
  have es : ∀ j, j < 4 → (tr S m t o c ord).1 (21 + 43 * m' + j) = if m' = m ∧ j = o then nI x else S.1 (21 + 43 * m' + j) := fun j hj => by
    unfold tr tr_g
    dsimp only
    by_cases e : m' = m ∧ j = o
    · obtain ⟨rfl, rfl⟩ := e
      rw [if_pos ⟨rfl, rfl⟩, ug_n (by omega), ug_s, hx]
    · rw [if_neg e]
      rcases Nat.lt_trichotomy m m' with g | g | g
      · rw [ug_n (by omega), ug_n (by omega), ug_n (by omega), ug_n (by omega), ug_n (by omega), ug_n (by omega)]
      · rw [ug_n (by omega), ug_n (by omega), ug_n (by omega), ug_n (by omega), ug_n (by omega), ug_n (by omega)]
      · rw [ug_n (by omega), ug_n (by omega), ug_n (by omega), ug_n (by omega), ug_n (by omega), ug_n (by omega)]
  refine ⟨n, b, fun j => if m' = m ∧ j = o then x else s j, e1.trans h1, n2, n4, e2.trans h2, b1, b2, fun j hj => ?_⟩
  rw [es j (by omega)]
  by_cases e : m' = m ∧ j = o
  · dsimp only
    rw [if_pos e, if_pos e]
    exact ⟨rfl, hx4⟩
  · dsimp only
    rw [if_neg e, if_neg e]
    exact h3 j hj
theorem OD.dec {x : Od} (h : OD x) (hne : x.2.2.2.2.1 - nI 1 ≠ nI 0) : OD (lv x (x.2.2.2.2.1 - nI 1)) := by
  obtain ⟨N, l, li, hN, eN, l1, l50, el, hl1, hl2, eli⟩ := h
  rw [el, pk_sub l1] at hne ⊢
  have : l - 1 ≠ 0 := fun e => hne (by rw [e])
  exact ⟨N, l - 1, li, hN, eN, by omega, by omega, rfl, hl1, hl2, eli⟩
theorem xl_mem {L : List Od} {q : Nat} {x y : Od} (hx : L[q]? = some x) (h : y ∈ xl L q x) : y ∈ L ∨ (y = lv x (x.2.2.2.2.1 - nI 1) ∧ x.2.2.2.2.1 - nI 1 ≠ nI 0) := by
  unfold xl at h
  split at h
  · exact Or.inl (List.mem_of_mem_eraseIdx h)
  · rename_i g
    rcases List.mem_or_eq_of_mem_set h with h | rfl
    · exact Or.inl h
    · exact Or.inr ⟨rfl, g⟩
