/-! the order that is next: the reference's best is the book's first -/
def SRT (L : List Od) : Prop := L.Pairwise (fun x y => ofb x y = true)
theorem ofb_as {x y : Od} (h1 : ofb x y = true) (h2 : ofb y x = true) : False := by
  rw [ofb_c] at h1 h2
  rcases h1 with h1 | ⟨h1, h1'⟩
  · rcases h2 with h2 | ⟨h2, _⟩
    · exact Int32.lt_irrefl (Int32.lt_trans h1 h2)
    · rw [h2] at h1
      exact Int32.lt_irrefl h1
  · rcases h2 with h2 | ⟨h2, h2'⟩
    · rw [h1] at h2
      exact Int32.lt_irrefl h2
    · exact Int32.lt_irrefl (Int32.lt_trans h1' h2')
/-- the executable order that is ahead of all the others is the first executable one of the book -/
theorem pick {L : List Od} {f : Od → Bool} {x : Od} (hs : SRT L) (hx : x ∈ L) (fx : f x = true) (hb : ∀ y ∈ L, f y = true → y ≠ x → ofb x y = true) : ∃ q, L.findIdx? f = some q ∧ L[q]? = some x := by
  cases hq : L.findIdx? f with
  | none =>
    rw [List.findIdx?_eq_none_iff] at hq
    rw [hq x hx] at fx
    exact absurd fx Bool.false_ne_true
  | some q =>
    obtain ⟨h8, h9, h10⟩ := List.findIdx?_eq_some_iff_getElem.mp hq
    refine ⟨q, rfl, ?_⟩
    rw [List.getElem?_eq_getElem h8]
    congr 1
    apply Classical.byContradiction
    intro hne
    have g1 := hb _ (List.getElem_mem h8) h9 hne
    obtain ⟨j, hj, rfl⟩ := List.mem_iff_getElem.mp hx
    rcases Nat.lt_trichotomy j q with h | h | h
    · exact h10 j h fx
    · subst h
      exact hne rfl
    · exact ofb_as g1 (List.pairwise_iff_getElem.mp hs q j h8 hj h)
theorem pm_er {x : Od} : ∀ {L : List Od} {i : Nat}, L[i]? = some x → L.Perm (x :: L.eraseIdx i)
  | [], i, h => by simp at h
  | a :: L, 0, h => by
    cases h
    exact List.Perm.refl _
  | a :: L, i + 1, h => by
    have h' : L[i]? = some x := h
    exact ((pm_er h').cons a).trans (List.Perm.swap _ _ _)
theorem pm_st {x y : Od} : ∀ {L : List Od} {i : Nat}, L[i]? = some x → (L.set i y).Perm (y :: L.eraseIdx i)
  | [], i, h => by simp at h
  | a :: L, 0, h => List.Perm.refl _
  | a :: L, i + 1, h => by
    have h' : L[i]? = some x := h
    exact ((pm_st h').cons a).trans (List.Perm.swap _ _ _)
theorem perm_er {L os : List Od} {p q : Nat} {x : Od} (h : os.Perm L) (hp : os[p]? = some x) (hq : L[q]? = some x) : (os.eraseIdx p).Perm (L.eraseIdx q) :=
  List.Perm.cons_inv ((pm_er hp).symm.trans (h.trans (pm_er hq)))
theorem perm_st {L os : List Od} {p q : Nat} {x y : Od} (h : os.Perm L) (hp : os[p]? = some x) (hq : L[q]? = some x) : (os.set p y).Perm (L.set q y) :=
  (pm_st hp).trans (((perm_er h hp hq).cons y).trans (pm_st hq).symm)
