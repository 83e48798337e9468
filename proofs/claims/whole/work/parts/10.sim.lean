/-! the small machine's run is the machine's run -/
set_option maxHeartbeats 2000000 in
theorem ai_st1_in {op a b : Nat} {v : Int32} {nx : Nat} {ls st : List Value} {h : ai_H} {o : ai_O} (hs : ai_st1 op a b v nx ls st h = some o) : ∃ x, o = .inl x ∧ x.2.2.2.1 = h.1 := by
  unfold ai_st1 at hs
  by_cases h0 : op = 0
  · rw [if_pos h0] at hs
    repeat' (split at hs)
    all_goals first | (cases hs; done) | (cases hs; exact ⟨_, rfl, rfl⟩)
  rw [if_neg h0] at hs
  by_cases h1 : op = 1
  · rw [if_pos h1] at hs
    repeat' (split at hs)
    all_goals first | (cases hs; done) | (cases hs; exact ⟨_, rfl, rfl⟩)
  rw [if_neg h1] at hs
  by_cases h2 : op = 2
  · rw [if_pos h2] at hs
    repeat' (split at hs)
    all_goals first | (cases hs; done) | (cases hs; exact ⟨_, rfl, rfl⟩)
  rw [if_neg h2] at hs
  by_cases h3 : op = 3
  · rw [if_pos h3] at hs
    repeat' (split at hs)
    all_goals first | (cases hs; done) | (cases hs; exact ⟨_, rfl, rfl⟩)
  rw [if_neg h3] at hs
  by_cases h4 : op = 4
  · rw [if_pos h4] at hs
    repeat' (split at hs)
    all_goals first | (cases hs; done) | (cases hs; exact ⟨_, rfl, rfl⟩)
  rw [if_neg h4] at hs
  by_cases h5 : op = 5
  · rw [if_pos h5] at hs
    repeat' (split at hs)
    all_goals first | (cases hs; done) | (cases hs; exact ⟨_, rfl, rfl⟩)
  rw [if_neg h5] at hs
  by_cases h6 : op = 6
  · rw [if_pos h6] at hs
    repeat' (split at hs)
    all_goals first | (cases hs; done) | (cases hs; exact ⟨_, rfl, rfl⟩)
  rw [if_neg h6] at hs
  by_cases h7 : op = 7
  · rw [if_pos h7] at hs
    repeat' (split at hs)
    all_goals first | (cases hs; done) | (cases hs; exact ⟨_, rfl, rfl⟩)
  rw [if_neg h7] at hs
  by_cases h8 : op = 8
  · rw [if_pos h8] at hs
    repeat' (split at hs)
    all_goals first | (cases hs; done) | (cases hs; exact ⟨_, rfl, rfl⟩)
  rw [if_neg h8] at hs
  by_cases h9 : op = 9
  · rw [if_pos h9] at hs
    repeat' (split at hs)
    all_goals first | (cases hs; done) | (cases hs; exact ⟨_, rfl, rfl⟩)
  rw [if_neg h9] at hs
  by_cases h10 : op = 10
  · rw [if_pos h10] at hs
    repeat' (split at hs)
    all_goals first | (cases hs; done) | (cases hs; exact ⟨_, rfl, rfl⟩)
  rw [if_neg h10] at hs
  cases hs
set_option maxHeartbeats 2000000 in
theorem ai_st2_in {op a b nx : Nat} {ls st : List Value} {h : ai_H} {o : ai_O} (hs : ai_st2 op a b nx ls st h = some o) : ∃ x, o = .inl x ∧ x.2.2.2.1 = h.1 := by
  unfold ai_st2 at hs
  by_cases h11 : op = 11
  · rw [if_pos h11] at hs
    repeat' (split at hs)
    all_goals first | (cases hs; done) | (cases hs; exact ⟨_, rfl, rfl⟩)
  rw [if_neg h11] at hs
  by_cases h12 : op = 12
  · rw [if_pos h12] at hs
    repeat' (split at hs)
    all_goals first | (cases hs; done) | (cases hs; exact ⟨_, rfl, rfl⟩)
  rw [if_neg h12] at hs
  by_cases h13 : op = 13
  · rw [if_pos h13] at hs
    repeat' (split at hs)
    all_goals first | (cases hs; done) | (cases hs; exact ⟨_, rfl, rfl⟩)
  rw [if_neg h13] at hs
  by_cases h14 : op = 14
  · rw [if_pos h14] at hs
    repeat' (split at hs)
    all_goals first | (cases hs; done) | (cases hs; exact ⟨_, rfl, rfl⟩)
  rw [if_neg h14] at hs
  by_cases h15 : op = 15
  · rw [if_pos h15] at hs
    repeat' (split at hs)
    all_goals first | (cases hs; done) | (cases hs; exact ⟨_, rfl, rfl⟩)
  rw [if_neg h15] at hs
  by_cases h16 : op = 16
  · rw [if_pos h16] at hs
    repeat' (split at hs)
    all_goals first | (cases hs; done) | (cases hs; exact ⟨_, rfl, rfl⟩)
  rw [if_neg h16] at hs
  by_cases h17 : op = 17
  · rw [if_pos h17] at hs
    repeat' (split at hs)
    all_goals first | (cases hs; done) | (cases hs; exact ⟨_, rfl, rfl⟩)
  rw [if_neg h17] at hs
  by_cases h18 : op = 18
  · rw [if_pos h18] at hs
    repeat' (split at hs)
    all_goals first | (cases hs; done) | (cases hs; exact ⟨_, rfl, rfl⟩)
  rw [if_neg h18] at hs
  by_cases h19 : op = 19
  · rw [if_pos h19] at hs
    repeat' (split at hs)
    all_goals first | (cases hs; done) | (cases hs; exact ⟨_, rfl, rfl⟩)
  rw [if_neg h19] at hs
  by_cases h20 : op = 20
  · rw [if_pos h20] at hs
    repeat' (split at hs)
    all_goals first | (cases hs; done) | (cases hs; exact ⟨_, rfl, rfl⟩)
  rw [if_neg h20] at hs
  by_cases h21 : op = 21
  · rw [if_pos h21] at hs
    repeat' (split at hs)
    all_goals first | (cases hs; done) | (cases hs; exact ⟨_, rfl, rfl⟩)
  rw [if_neg h21] at hs
  cases hs
set_option maxHeartbeats 2000000 in
theorem ai_st3_in {X : ai_X} {op a b nx : Nat} {ls st : List Value} {h : ai_H} {o : ai_O} (hs : ai_st3 X op a b nx ls st h = some o) : ∃ x, o = .inl x ∧ x.2.2.2.1 = h.1 := by
  unfold ai_st3 at hs
  by_cases h22 : op = 22
  · rw [if_pos h22] at hs
    repeat' (split at hs)
    all_goals first | (cases hs; done) | (cases hs; exact ⟨_, rfl, rfl⟩)
  rw [if_neg h22] at hs
  by_cases h23 : op = 23
  · rw [if_pos h23] at hs
    repeat' (split at hs)
    all_goals first | (cases hs; done) | (cases hs; exact ⟨_, rfl, rfl⟩)
  rw [if_neg h23] at hs
  by_cases h24 : op = 24
  · rw [if_pos h24] at hs
    repeat' (split at hs)
    all_goals first | (cases hs; done) | (cases hs; exact ⟨_, rfl, rfl⟩)
  rw [if_neg h24] at hs
  by_cases h25 : op = 25
  · rw [if_pos h25] at hs
    repeat' (split at hs)
    all_goals first | (cases hs; done) | (cases hs; exact ⟨_, rfl, rfl⟩)
  rw [if_neg h25] at hs
  by_cases h26 : op = 26
  · rw [if_pos h26] at hs
    repeat' (split at hs)
    all_goals first | (cases hs; done) | (cases hs; exact ⟨_, rfl, rfl⟩)
  rw [if_neg h26] at hs
  by_cases h27 : op = 27
  · rw [if_pos h27] at hs
    repeat' (split at hs)
    all_goals first | (cases hs; done) | (cases hs; exact ⟨_, rfl, rfl⟩)
  rw [if_neg h27] at hs
  by_cases h28 : op = 28
  · rw [if_pos h28] at hs
    repeat' (split at hs)
    all_goals first | (cases hs; done) | (cases hs; exact ⟨_, rfl, rfl⟩)
  rw [if_neg h28] at hs
  by_cases h29 : op = 29
  · rw [if_pos h29] at hs
    repeat' (split at hs)
    all_goals first | (cases hs; done) | (cases hs; exact ⟨_, rfl, rfl⟩)
  rw [if_neg h29] at hs
  by_cases h30 : op = 30
  · rw [if_pos h30] at hs
    repeat' (split at hs)
    all_goals first | (cases hs; done) | (cases hs; exact ⟨_, rfl, rfl⟩)
  rw [if_neg h30] at hs
  by_cases h31 : op = 31
  · rw [if_pos h31] at hs
    repeat' (split at hs)
    all_goals first | (cases hs; done) | (cases hs; exact ⟨_, rfl, rfl⟩)
  rw [if_neg h31] at hs
  by_cases h32 : op = 32
  · rw [if_pos h32] at hs
    repeat' (split at hs)
    all_goals first | (cases hs; done) | (cases hs; exact ⟨_, rfl, rfl⟩)
  rw [if_neg h32] at hs
  cases hs
set_option maxHeartbeats 2000000 in
theorem ai_st4_in {d op a b : Nat} {tb : List Nat} {nx : Nat} {ls st : List Value} {h : ai_H} {o : ai_O} (hs : ai_st4 d op a b tb nx ls st h = some o) : ∃ x, o = .inl x ∧ ∃ E, x.2.2.2.1 = h.1 ++ E := by
  unfold ai_st4 at hs
  repeat' (split at hs)
  all_goals first | (cases hs; done) | (cases hs; exact ⟨_, rfl, _, rfl⟩) | (cases hs; exact ⟨_, rfl, _, List.append_assoc _ _ _⟩) | (cases hs; exact ⟨_, rfl, [], (List.append_nil _).symm⟩)
theorem ai_step_in {X : ai_X} {d op a b : Nat} {v : Int32} {tb : List Nat} {nx : Nat} {ls st : List Value} {h : ai_H} {o : Nat × List Value × List Value × ai_H} (hs : ai_step X d op a b v tb nx ls st h = some (.inl o)) : ∃ E, o.2.2.2.1 = h.1 ++ E := by
  unfold ai_step at hs
  split at hs
  · obtain ⟨x, e, h1⟩ := ai_st1_in hs; cases e; exact ⟨[], by rw [h1, List.append_nil]⟩
  split at hs
  · obtain ⟨x, e, h1⟩ := ai_st2_in hs; cases e; exact ⟨[], by rw [h1, List.append_nil]⟩
  split at hs
  · obtain ⟨x, e, h1⟩ := ai_st3_in hs; cases e; exact ⟨[], by rw [h1, List.append_nil]⟩
  split at hs
  · obtain ⟨x, e, h1⟩ := ai_st4_in hs; cases e; exact h1
  split at hs
  · obtain ⟨x, e, h1⟩ := ai_st4_in hs; cases e; exact h1
  split at hs
  · obtain ⟨x, e, h1⟩ := ai_st4_in hs; cases e; exact h1
  refine ⟨[], ?_⟩
  rw [List.append_nil]
  unfold ai_st5 at hs
  repeat' (split at hs)
  all_goals first | (cases hs; done) | (cases hs; rfl)
theorem ai_step_not {X : ai_X} {d op a b : Nat} {v : Int32} {tb : List Nat} {nx : Nat} {ls st : List Value} {h : ai_H} {o : Option Value ⊕ (Nat × List Value × List Value)} (hs : ai_step X d op a b v tb nx ls st h = some (.inr o)) : ai_st5 op a b v tb ls st h = some (.inr o) ∧ 37 ≤ op := by
  unfold ai_step at hs
  split at hs
  · obtain ⟨x, e, h1⟩ := ai_st1_in hs; cases e
  split at hs
  · obtain ⟨x, e, h1⟩ := ai_st2_in hs; cases e
  split at hs
  · obtain ⟨x, e, h1⟩ := ai_st3_in hs; cases e
  split at hs
  · obtain ⟨x, e, h1⟩ := ai_st4_in hs; cases e
  split at hs
  · obtain ⟨x, e, h1⟩ := ai_st4_in hs; cases e
  split at hs
  · obtain ⟨x, e, h1⟩ := ai_st4_in hs; cases e
  exact ⟨hs, by omega⟩
theorem ai_sum_app {K E : List (Nat × Nat)} {h h' : ai_H} (e0 : h.1 = K) (e : h'.1 = K ++ E) : h.1.length ≤ h'.1.length ∧ ai_sum h ≤ ai_sum h' := by
  unfold ai_sum
  rw [e, e0]
  simp
theorem ai_exec_in : ∀ (n d : Nat) (X : ai_X) (f pc : Nat) (ls st : List Value) (h : ai_H) (r : Option Value) (h' : ai_H), ai_exec n d X f pc ls st h = some (r, h') → ∃ E, h'.1 = h.1 ++ E
  | 0, _, _, _, _, _, _, _, _, _, hs => by cases hs
  | n + 1, d, X, f, pc, ls, st, h, r, h', hs => by
    rw [ai_exec] at hs
    split at hs
    · cases hs
    · rename_i op a b v tb nx hf
      split at hs
      · cases hs
      · rename_i pc' ls' st' h1 hst
        obtain ⟨E, e⟩ := ai_step_in hst
        obtain ⟨E2, e2⟩ := ai_exec_in n d X f pc' ls' st' h1 r h' hs
        exact ⟨E ++ E2, by rw [e2, show h1.1 = h.1 ++ E from e, List.append_assoc]⟩
      · cases hs
        exact ⟨[], by rw [List.append_nil]⟩
      · split at hs
        · cases hs
        · split at hs
          · cases hs
          · rename_i r1 h1 hc
            obtain ⟨E, e⟩ := ai_exec_in n _ _ _ _ _ _ _ _ _ hc
            obtain ⟨E2, e2⟩ := ai_exec_in n _ _ _ _ _ _ _ _ _ hs
            exact ⟨E ++ E2, by rw [e2, e, List.append_assoc]⟩
section AISIM
variable {p : Program} {l : Launch} {e : Env} {R : Room} {s : State} {m : MethodId} {args : Array Value} {below : List Frame} {meth : Method} {c : Code} {Q : State → Prop}
variable {q : ai_M} {D : va_G} {cA : Nat → ClassId} {sb N0 L0 S0 d : Nat} {X : ai_X}
theorem ai_one (C : ai_Cx p s m args meth c q D cA) (hsx : ai_Sx X sb N0 s) (hN : N0 ≤ s.heap.size) (hRd : d ≤ R.frames ∧ 64 * d ≤ R.locals) {f pc op a b : Nat} {v : Int32} {tb : List Nat} {nx : Nat} (hm : ai_mt[f]? = some q) (hf : ai_fetch f pc = some (op, a, b, v, tb, nx))
    {als st : List Value} {h : ai_H} {o : Nat × List Value × List Value × ai_H} (hs : ai_step X d op a b v tb nx als st h = some (.inl o)) (hRc : o.2.2.2.1.length ≤ R.cells + L0) (hRs : ai_sum o.2.2.2 ≤ R.slots + S0) (kk : ai_K p l e R s m args below meth c Q q D cA sb N0 L0 S0 o)
    {ls : Array Slot} {H : Heap} {locs : List Loc} {cells slots : Nat} (hl : ai_L sb N0 q.2.2.1 als ls) (hP : ai_P N0 D cA h H) (hS : va_S (fun x => N0 ≤ x) s.heap H locs) (hc : cells + L0 = h.1.length) (hz : slots + S0 = ai_sum h) :
    W p l e R s m args below meth c H locs cells slots Q (F0 m pc ls (st.map (ai_cv sb N0))) := by
  obtain ⟨i, len, hd, hr⟩ := ai_fetch_inv hm hf
  unfold ai_step at hs
  split at hs
  · rename_i h1
    exact ai_one1 C hd hr h1 hs kk hl hP hS hc hz
  split at hs
  · rename_i h1 h2
    exact ai_one2 C hd hr ⟨by omega, h2⟩ hs kk hl hP hS hc hz
  split at hs
  · rename_i h1 h2 h3
    exact ai_one3 C hsx hd hr ⟨by omega, h3⟩ hs kk hl hP hS hc hz
  split at hs
  · rename_i h1 h2 h3 h4
    exact ai_one4 C hN hRd hd hr (Or.inl ⟨by omega, h4⟩) hs hRc hRs kk hl hP hS hc hz
  split at hs
  · rename_i h5
    exact ai_one4 C hN hRd hd hr (Or.inr (Or.inl h5)) hs hRc hRs kk hl hP hS hc hz
  split at hs
  · rename_i h6
    exact ai_one4 C hN hRd hd hr (Or.inr (Or.inr h6)) hs hRc hRs kk hl hP hS hc hz
  by_cases h42 : 42 ≤ op
  · exact ai_one5 C hd hr h42 hs kk hl hP hS hc hz
  · exfalso
    unfold ai_st5 at hs
    rcases (by omega : op = 37 ∨ op = 38 ∨ op = 39) with rfl | rfl | rfl
    · simp at hs
    · simp only [reduceIte, Nat.reduceEqDiff] at hs
      split at hs
      · split at hs <;> simp at hs
      · cases hs
    · simp only [reduceIte, Nat.reduceEqDiff] at hs
      split at hs
      · split at hs <;> simp at hs
      · cases hs
end AISIM
