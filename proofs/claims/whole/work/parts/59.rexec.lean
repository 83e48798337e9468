/-! the reference looks for the order that is next -/
theorem ofb_N {x y : Od} (hx : OD x) (hy : OD y) : ∃ N li N' li' : Nat, x.1 = nI N ∧ y.1 = nI N' ∧ N < 1000000000 ∧ N' < 1000000000 ∧ (ofb x y = true ↔ li' < li ∨ (li = li' ∧ N < N')) ∧ (ofb y x = true ↔ li < li' ∨ (li' = li ∧ N' < N)) := by
  obtain ⟨N, l, li, hN, eN, -, -, -, hl1, hl2, el⟩ := hx
  obtain ⟨N', l', li', hN', eN', -, -, -, hl1', hl2', el'⟩ := hy
  refine ⟨N, li, N', li', eN, eN', hN, hN', ?_, ?_⟩
  · rw [ofb_c, el, el', eN, eN', nIlt (by omega) (by omega), nIeq (by omega) (by omega), nIlt (by omega) (by omega)]
  · rw [ofb_c, el, el', eN, eN', nIlt (by omega) (by omega), nIeq (by omega) (by omega), nIlt (by omega) (by omega)]
theorem ofb_tot {x y : Od} (hx : OD x) (hy : OD y) (hne : x.1 ≠ y.1) (h : ¬ ofb x y = true) : ofb y x = true := by
  obtain ⟨N, li, N', li', e1, e2, b1, b2, g1, g2⟩ := ofb_N hx hy
  have : N ≠ N' := fun e => hne (by rw [e1, e2, e])
  rw [g1] at h
  rw [g2]
  omega
theorem ofb_tr {x y z : Od} (h1 : ofb x y = true) (h2 : ofb y z = true) : ofb x z = true := by
  rw [ofb_c] at h1 h2 ⊢
  rcases h1 with h1 | ⟨h1, h1'⟩
  · rcases h2 with h2 | ⟨h2, _⟩
    · exact Or.inl (Int32.lt_trans h2 h1)
    · rw [h2] at h1
      exact Or.inl h1
  · rcases h2 with h2 | ⟨h2, h2'⟩
    · rw [h1]
      exact Or.inl h2
    · exact Or.inr ⟨h1.trans h2, Int32.lt_trans h1' h2'⟩
/-- the best so far -/
def BST (f : Od → Bool) (os : List Od) (i : Nat) (v : Int32) : Prop := (v = -1 ∧ ∀ (j : Nat) (y : Od), j < i → os[j]? = some y → f y = false) ∨ ∃ p x, p < i ∧ v = nI p ∧ os[p]? = some x ∧ f x = true ∧ ∀ (j : Nat) (y : Od), j < i → os[j]? = some y → f y = true → j ≠ p → ofb x y = true
theorem BST.skip {f : Od → Bool} {os : List Od} {i : Nat} {v : Int32} {y : Od} (h : BST f os i v) (hy : os[i]? = some y) (hf : f y = false) : BST f os (i + 1) v := by
  rcases h with ⟨rfl, h⟩ | ⟨p, x, hp, rfl, hx, fx, h⟩
  · refine Or.inl ⟨rfl, fun j z hj hz => ?_⟩
    by_cases e : j = i
    · subst e
      rw [hy] at hz
      cases hz
      exact hf
    · exact h j z (by omega) hz
  · refine Or.inr ⟨p, x, by omega, rfl, hx, fx, fun j z hj hz fz hjp => ?_⟩
    by_cases e : j = i
    · subst e
      rw [hy] at hz
      cases hz
      rw [hf] at fz
      exact absurd fz Bool.false_ne_true
    · exact h j z (by omega) hz fz hjp
theorem BST.keep {f : Od → Bool} {os : List Od} {i p : Nat} {x y : Od} (h : BST f os i (nI p)) (hp : p < 2147483648) (hi : i < 2147483648) (hx : os[p]? = some x) (hy : os[i]? = some y) (hb : ofb x y = true) : BST f os (i + 1) (nI p) := by
  rcases h with ⟨e, h⟩ | ⟨p', x', hp', ep, hx', fx, h⟩
  · exact absurd e (nI_ne_m1 hp)
  · obtain rfl := (nIeq hp (by omega)).mp ep
    rw [hx] at hx'
    cases hx'
    refine Or.inr ⟨p, x, by omega, rfl, hx, fx, fun j z hj hz fz hjp => ?_⟩
    by_cases e : j = i
    · subst e
      rw [hy] at hz
      cases hz
      exact hb
    · exact h j z (by omega) hz fz hjp
theorem BST.new0 {f : Od → Bool} {os : List Od} {i : Nat} {y : Od} (h : BST f os i (-1)) (hi : i < 2147483648) (hy : os[i]? = some y) (fy : f y = true) : BST f os (i + 1) (nI i) := by
  rcases h with ⟨-, h⟩ | ⟨p', x', hp', ep, -⟩
  · refine Or.inr ⟨i, y, by omega, rfl, hy, fy, fun j z hj hz fz hjp => ?_⟩
    rw [h j z (by omega) hz] at fz
    exact absurd fz Bool.false_ne_true
  · exact absurd ep.symm (nI_ne_m1 (by omega))
theorem BST.new {f : Od → Bool} {os : List Od} {i p : Nat} {x y : Od} (h : BST f os i (nI p)) (hp : p < 2147483648) (hi : i < 2147483648) (hx : os[p]? = some x) (hy : os[i]? = some y) (fy : f y = true) (hb : ofb y x = true) : BST f os (i + 1) (nI i) := by
  rcases h with ⟨e, h⟩ | ⟨p', x', hp', ep, hx', fx, h⟩
  · exact absurd e (nI_ne_m1 hp)
  · obtain rfl := (nIeq hp (by omega)).mp ep
    rw [hx] at hx'
    cases hx'
    refine Or.inr ⟨i, y, by omega, rfl, hy, fy, fun j z hj hz fz hji => ?_⟩
    by_cases e : j = p
    · subst e
      rw [hx] at hz
      cases hz
      exact hb
    · exact ofb_tr hb (h j z (by omega) hz fz e)
