/-! the small machine's programs: what a run ends with, as a predicate (Ev), its rules, one an instruction -/
abbrev X0 : ai_X := (0, fun _ => 0)
abbrev UU : Value := .long 0
def ai_go (n d : Nat) (X : ai_X) (f : Nat) (r : ai_R) (ls st : List Value) (h : ai_H) : Option (Option Value × ai_H) :=
  match r with
  | (op, a, b, v, tb, nx) => match ai_step X d op a b v tb nx ls st h with
    | none => none
    | some (.inl (pc', ls', st', h')) => ai_exec n d X f pc' ls' st' h'
    | some (.inr (.inl r)) => some (r, h)
    | some (.inr (.inr (g, args, rest))) => match d with
      | 0 => none
      | d' + 1 => match ai_exec n d' (0, fun _ => 0) g 0 (ai_ent args (ai_ml g)) [] h with
        | none => none
        | some (r, h') => ai_exec n (d' + 1) X f nx ls (r.toList ++ rest) h'
theorem ai_exec_eq (n d : Nat) (X : ai_X) (f pc : Nat) (ls st : List Value) (h : ai_H) : ai_exec (n + 1) d X f pc ls st h = match ai_fetch f pc with
    | none => none
    | some r => ai_go n d X f r ls st h := by
  rw [ai_exec]
  cases ai_fetch f pc with
  | none => rfl
  | some r => obtain ⟨op, a, b, v, tb, nx⟩ := r; rfl
theorem ai_exec_up : ∀ (n d : Nat) (X : ai_X) (f pc : Nat) (ls st : List Value) (h : ai_H) (x : Option Value × ai_H), ai_exec n d X f pc ls st h = some x → ai_exec (n + 1) d X f pc ls st h = some x
  | 0, _, _, _, _, _, _, _, _, hs => by cases hs
  | n + 1, d, X, f, pc, ls, st, h, x, hs => by
    rw [ai_exec] at hs ⊢
    split at hs
    · cases hs
    · rename_i op a b v tb nx hf
      split at hs
      · cases hs
      · exact ai_exec_up n _ _ _ _ _ _ _ _ hs
      · exact hs
      · split at hs
        · cases hs
        · split at hs
          · cases hs
          · rename_i r1 h1 hc
            rw [ai_exec_up n _ _ _ _ _ _ _ _ hc]
            exact ai_exec_up n _ _ _ _ _ _ _ _ hs
theorem ai_exec_le {n n' d : Nat} {X : ai_X} {f pc : Nat} {ls st : List Value} {h : ai_H} {x : Option Value × ai_H} (hn : n ≤ n') (hs : ai_exec n d X f pc ls st h = some x) : ai_exec n' d X f pc ls st h = some x := by
  induction hn with
  | refl => exact hs
  | step _ ih => exact ai_exec_up _ _ _ _ _ _ _ _ _ ih
def Ev (d : Nat) (X : ai_X) (f pc : Nat) (ls st : List Value) (h : ai_H) (Q : Option Value → ai_H → Prop) : Prop := ∃ (n : Nat) (r : Option Value) (h' : ai_H), ai_exec n d X f pc ls st h = some (r, h') ∧ Q r h'
def EvI (d : Nat) (X : ai_X) (f : Nat) (i : ai_R) (ls st : List Value) (h : ai_H) (Q : Option Value → ai_H → Prop) : Prop := ∃ (n : Nat) (r : Option Value) (h' : ai_H), ai_go n d X f i ls st h = some (r, h') ∧ Q r h'
def Cl (d g : Nat) (av : List Value) (h : ai_H) (Q : Option Value → ai_H → Prop) : Prop := Ev d X0 g 0 (ai_ent av (ai_ml g)) [] h Q
theorem Ev_iff {d : Nat} {X : ai_X} {f pc : Nat} {i : ai_R} (hf : ai_fetch f pc = some i) {ls st : List Value} {h : ai_H} {Q : Option Value → ai_H → Prop} : Ev d X f pc ls st h Q ↔ EvI d X f i ls st h Q := by
  constructor
  · rintro ⟨n, r, h', e, q⟩
    cases n with
    | zero => cases e
    | succ n =>
      rw [ai_exec_eq, hf] at e
      exact ⟨n, r, h', e, q⟩
  · rintro ⟨n, r, h', e, q⟩
    refine ⟨n + 1, r, h', ?_, q⟩
    rw [ai_exec_eq, hf]
    exact e
theorem EvI_step {d : Nat} {X : ai_X} {f op a b : Nat} {v : Int32} {tb : List Nat} {nx : Nat} {ls st : List Value} {h : ai_H} {Q : Option Value → ai_H → Prop} {pc' : Nat} {ls' st' : List Value} {h' : ai_H} (hs : ai_step X d op a b v tb nx ls st h = some (.inl (pc', ls', st', h'))) : EvI d X f (op, a, b, v, tb, nx) ls st h Q ↔ Ev d X f pc' ls' st' h' Q := by
  unfold EvI Ev ai_go
  simp only [hs]
theorem EvI_none {d : Nat} {X : ai_X} {f op a b : Nat} {v : Int32} {tb : List Nat} {nx : Nat} {ls st : List Value} {h : ai_H} {Q : Option Value → ai_H → Prop} (hs : ai_step X d op a b v tb nx ls st h = none) : EvI d X f (op, a, b, v, tb, nx) ls st h Q ↔ False := by
  unfold EvI ai_go
  simp only [hs]
  simp
theorem EvI_ret {d : Nat} {X : ai_X} {f op a b : Nat} {v : Int32} {tb : List Nat} {nx : Nat} {ls st : List Value} {h : ai_H} {Q : Option Value → ai_H → Prop} {r : Option Value} (hs : ai_step X d op a b v tb nx ls st h = some (.inr (.inl r))) : EvI d X f (op, a, b, v, tb, nx) ls st h Q ↔ Q r h := by
  unfold EvI ai_go
  simp only [hs]
  constructor
  · rintro ⟨n, r', h', e, q⟩
    cases e
    exact q
  · intro q
    exact ⟨0, r, h, rfl, q⟩
theorem EvI_call {d : Nat} {X : ai_X} {f op a b : Nat} {v : Int32} {tb : List Nat} {nx : Nat} {ls st : List Value} {h : ai_H} {Q : Option Value → ai_H → Prop} {g : Nat} {av rest : List Value} (hs : ai_step X (d + 1) op a b v tb nx ls st h = some (.inr (.inr (g, av, rest)))) : EvI (d + 1) X f (op, a, b, v, tb, nx) ls st h Q ↔ Cl d g av h (fun r h' => Ev (d + 1) X f nx ls (r.toList ++ rest) h' Q) := by
  unfold EvI Cl Ev ai_go
  simp only [hs]
  constructor
  · rintro ⟨n, r, h', e, q⟩
    split at e
    · cases e
    · rename_i r1 h1 hc
      exact ⟨n, r1, h1, hc, n, r, h', e, q⟩
  · rintro ⟨n, r1, h1, hc, n2, r, h', e, q⟩
    refine ⟨max n n2, r, h', ?_, q⟩
    rw [ai_exec_le (Nat.le_max_left n n2) hc]
    exact ai_exec_le (Nat.le_max_right n n2) e
theorem Ev_mono {d : Nat} {X : ai_X} {f pc : Nat} {ls st : List Value} {h : ai_H} {P Q : Option Value → ai_H → Prop} (e : Ev d X f pc ls st h P) (k : ∀ r h', P r h' → Q r h') : Ev d X f pc ls st h Q := by
  obtain ⟨n, r, h', e, p⟩ := e
  exact ⟨n, r, h', e, k r h' p⟩
theorem Cl_mono {d g : Nat} {av : List Value} {h : ai_H} {P Q : Option Value → ai_H → Prop} (e : Cl d g av h P) (k : ∀ r h', P r h' → Q r h') : Cl d g av h Q := Ev_mono e k
/-- a contract whose end is one: as an equivalence -/
theorem Cl_one {d g : Nat} {av : List Value} {h : ai_H} {v : Option Value} {h1 : ai_H} (e : Cl d g av h (fun r h' => r = v ∧ h' = h1)) {Q : Option Value → ai_H → Prop} : Cl d g av h Q ↔ Q v h1 := by
  obtain ⟨n, r, h', e, rfl, rfl⟩ := e
  constructor
  · rintro ⟨n2, r2, h2, e2, q⟩
    have a1 := ai_exec_le (Nat.le_max_left n n2) e
    have a2 := ai_exec_le (Nat.le_max_right n n2) e2
    rw [a1] at a2
    cases a2
    exact q
  · intro q
    exact ⟨n, r, h', e, q⟩
def ai_kq (K : List (Nat × Nat)) (q : Nat) : Option Nat := (K[q]?).map (·.1)
def ai_ar (K : List (Nat × Nat)) (q k : Nat) (i : Int32) : Bool := match K[q]? with
  | some (kd, n) => decide (kd = k) && ai_in i n
  | none => false
def ai_ar3 (K : List (Nat × Nat)) (q : Nat) (i : Int32) : Bool := match K[q]? with
  | some (kd, n) => decide (10 ≤ kd ∧ kd ≤ 12) && ai_in i n
  | none => false
def ai_b (c : Prop) [Decidable c] : Int32 := if c then 1 else 0
theorem ai_b_0 (c : Prop) [Decidable c] : (ai_b c = nI 0) ↔ ¬ c := by
  unfold ai_b
  by_cases h : c
  · simp [h, nI]
  · simp [h, nI]
theorem ai_b_01 (c : Prop) [Decidable c] : (ai_b c = 0 ∨ ai_b c = 1) := by
  unfold ai_b
  by_cases h : c
  · simp [h]
  · simp [h]
section EVR
variable {d : Nat} {X : ai_X} {f a b : Nat} {v : Int32} {tb : List Nat} {nx : Nat} {ls st : List Value} {h : ai_H} {Q : Option Value → ai_H → Prop}
theorem e_const : EvI d X f (0, a, b, v, tb, nx) ls st h Q ↔ Ev d X f nx ls (.int v :: st) h Q := EvI_step rfl
theorem e_il0 {x : Int32} {l : List Value} : EvI d X f (1, 0, b, v, tb, nx) (.int x :: l) st h Q ↔ Ev d X f nx (.int x :: l) (.int x :: st) h Q := EvI_step rfl
theorem e_al0 {x : Nat} {l : List Value} : EvI d X f (2, 0, b, v, tb, nx) (.ref x :: l) st h Q ↔ Ev d X f nx (.ref x :: l) (.ref x :: st) h Q := EvI_step rfl
theorem e_an0 {l : List Value} : EvI d X f (2, 0, b, v, tb, nx) (.null :: l) st h Q ↔ Ev d X f nx (.null :: l) (.null :: st) h Q := EvI_step rfl
theorem e_is0 {w : Value} {x : Int32} {l : List Value} : EvI d X f (3, 0, b, v, tb, nx) (w :: l) (.int x :: st) h Q ↔ Ev d X f nx (.int x :: l) st h Q := EvI_step (by simp [ai_step, ai_st1])
theorem e_as0 {w : Value} {x : Nat} {l : List Value} : EvI d X f (4, 0, b, v, tb, nx) (w :: l) (.ref x :: st) h Q ↔ Ev d X f nx (.ref x :: l) st h Q := EvI_step (by simp [ai_step, ai_st1])
theorem e_az0 {w : Value} {l : List Value} : EvI d X f (4, 0, b, v, tb, nx) (w :: l) (.null :: st) h Q ↔ Ev d X f nx (.null :: l) st h Q := EvI_step (by simp [ai_step, ai_st1])
theorem e_ii0 {x : Int32} {l : List Value} : EvI d X f (5, 0, b, v, tb, nx) (.int x :: l) st h Q ↔ Ev d X f nx (.int (x + v) :: l) st h Q := EvI_step rfl
theorem e_il1 {v0 : Value} {x : Int32} {l : List Value} : EvI d X f (1, 1, b, v, tb, nx) (v0 :: .int x :: l) st h Q ↔ Ev d X f nx (v0 :: .int x :: l) (.int x :: st) h Q := EvI_step rfl
theorem e_al1 {v0 : Value} {x : Nat} {l : List Value} : EvI d X f (2, 1, b, v, tb, nx) (v0 :: .ref x :: l) st h Q ↔ Ev d X f nx (v0 :: .ref x :: l) (.ref x :: st) h Q := EvI_step rfl
theorem e_an1 {v0 : Value} {l : List Value} : EvI d X f (2, 1, b, v, tb, nx) (v0 :: .null :: l) st h Q ↔ Ev d X f nx (v0 :: .null :: l) (.null :: st) h Q := EvI_step rfl
theorem e_is1 {v0 : Value} {w : Value} {x : Int32} {l : List Value} : EvI d X f (3, 1, b, v, tb, nx) (v0 :: w :: l) (.int x :: st) h Q ↔ Ev d X f nx (v0 :: .int x :: l) st h Q := EvI_step (by simp [ai_step, ai_st1])
theorem e_as1 {v0 : Value} {w : Value} {x : Nat} {l : List Value} : EvI d X f (4, 1, b, v, tb, nx) (v0 :: w :: l) (.ref x :: st) h Q ↔ Ev d X f nx (v0 :: .ref x :: l) st h Q := EvI_step (by simp [ai_step, ai_st1])
theorem e_az1 {v0 : Value} {w : Value} {l : List Value} : EvI d X f (4, 1, b, v, tb, nx) (v0 :: w :: l) (.null :: st) h Q ↔ Ev d X f nx (v0 :: .null :: l) st h Q := EvI_step (by simp [ai_step, ai_st1])
theorem e_ii1 {v0 : Value} {x : Int32} {l : List Value} : EvI d X f (5, 1, b, v, tb, nx) (v0 :: .int x :: l) st h Q ↔ Ev d X f nx (v0 :: .int (x + v) :: l) st h Q := EvI_step rfl
theorem e_il2 {v0 v1 : Value} {x : Int32} {l : List Value} : EvI d X f (1, 2, b, v, tb, nx) (v0 :: v1 :: .int x :: l) st h Q ↔ Ev d X f nx (v0 :: v1 :: .int x :: l) (.int x :: st) h Q := EvI_step rfl
theorem e_al2 {v0 v1 : Value} {x : Nat} {l : List Value} : EvI d X f (2, 2, b, v, tb, nx) (v0 :: v1 :: .ref x :: l) st h Q ↔ Ev d X f nx (v0 :: v1 :: .ref x :: l) (.ref x :: st) h Q := EvI_step rfl
theorem e_an2 {v0 v1 : Value} {l : List Value} : EvI d X f (2, 2, b, v, tb, nx) (v0 :: v1 :: .null :: l) st h Q ↔ Ev d X f nx (v0 :: v1 :: .null :: l) (.null :: st) h Q := EvI_step rfl
theorem e_is2 {v0 v1 : Value} {w : Value} {x : Int32} {l : List Value} : EvI d X f (3, 2, b, v, tb, nx) (v0 :: v1 :: w :: l) (.int x :: st) h Q ↔ Ev d X f nx (v0 :: v1 :: .int x :: l) st h Q := EvI_step (by simp [ai_step, ai_st1])
theorem e_as2 {v0 v1 : Value} {w : Value} {x : Nat} {l : List Value} : EvI d X f (4, 2, b, v, tb, nx) (v0 :: v1 :: w :: l) (.ref x :: st) h Q ↔ Ev d X f nx (v0 :: v1 :: .ref x :: l) st h Q := EvI_step (by simp [ai_step, ai_st1])
theorem e_az2 {v0 v1 : Value} {w : Value} {l : List Value} : EvI d X f (4, 2, b, v, tb, nx) (v0 :: v1 :: w :: l) (.null :: st) h Q ↔ Ev d X f nx (v0 :: v1 :: .null :: l) st h Q := EvI_step (by simp [ai_step, ai_st1])
theorem e_ii2 {v0 v1 : Value} {x : Int32} {l : List Value} : EvI d X f (5, 2, b, v, tb, nx) (v0 :: v1 :: .int x :: l) st h Q ↔ Ev d X f nx (v0 :: v1 :: .int (x + v) :: l) st h Q := EvI_step rfl
theorem e_il3 {v0 v1 v2 : Value} {x : Int32} {l : List Value} : EvI d X f (1, 3, b, v, tb, nx) (v0 :: v1 :: v2 :: .int x :: l) st h Q ↔ Ev d X f nx (v0 :: v1 :: v2 :: .int x :: l) (.int x :: st) h Q := EvI_step rfl
theorem e_al3 {v0 v1 v2 : Value} {x : Nat} {l : List Value} : EvI d X f (2, 3, b, v, tb, nx) (v0 :: v1 :: v2 :: .ref x :: l) st h Q ↔ Ev d X f nx (v0 :: v1 :: v2 :: .ref x :: l) (.ref x :: st) h Q := EvI_step rfl
theorem e_an3 {v0 v1 v2 : Value} {l : List Value} : EvI d X f (2, 3, b, v, tb, nx) (v0 :: v1 :: v2 :: .null :: l) st h Q ↔ Ev d X f nx (v0 :: v1 :: v2 :: .null :: l) (.null :: st) h Q := EvI_step rfl
theorem e_is3 {v0 v1 v2 : Value} {w : Value} {x : Int32} {l : List Value} : EvI d X f (3, 3, b, v, tb, nx) (v0 :: v1 :: v2 :: w :: l) (.int x :: st) h Q ↔ Ev d X f nx (v0 :: v1 :: v2 :: .int x :: l) st h Q := EvI_step (by simp [ai_step, ai_st1])
theorem e_as3 {v0 v1 v2 : Value} {w : Value} {x : Nat} {l : List Value} : EvI d X f (4, 3, b, v, tb, nx) (v0 :: v1 :: v2 :: w :: l) (.ref x :: st) h Q ↔ Ev d X f nx (v0 :: v1 :: v2 :: .ref x :: l) st h Q := EvI_step (by simp [ai_step, ai_st1])
theorem e_az3 {v0 v1 v2 : Value} {w : Value} {l : List Value} : EvI d X f (4, 3, b, v, tb, nx) (v0 :: v1 :: v2 :: w :: l) (.null :: st) h Q ↔ Ev d X f nx (v0 :: v1 :: v2 :: .null :: l) st h Q := EvI_step (by simp [ai_step, ai_st1])
theorem e_ii3 {v0 v1 v2 : Value} {x : Int32} {l : List Value} : EvI d X f (5, 3, b, v, tb, nx) (v0 :: v1 :: v2 :: .int x :: l) st h Q ↔ Ev d X f nx (v0 :: v1 :: v2 :: .int (x + v) :: l) st h Q := EvI_step rfl
theorem e_il4 {v0 v1 v2 v3 : Value} {x : Int32} {l : List Value} : EvI d X f (1, 4, b, v, tb, nx) (v0 :: v1 :: v2 :: v3 :: .int x :: l) st h Q ↔ Ev d X f nx (v0 :: v1 :: v2 :: v3 :: .int x :: l) (.int x :: st) h Q := EvI_step rfl
theorem e_al4 {v0 v1 v2 v3 : Value} {x : Nat} {l : List Value} : EvI d X f (2, 4, b, v, tb, nx) (v0 :: v1 :: v2 :: v3 :: .ref x :: l) st h Q ↔ Ev d X f nx (v0 :: v1 :: v2 :: v3 :: .ref x :: l) (.ref x :: st) h Q := EvI_step rfl
theorem e_an4 {v0 v1 v2 v3 : Value} {l : List Value} : EvI d X f (2, 4, b, v, tb, nx) (v0 :: v1 :: v2 :: v3 :: .null :: l) st h Q ↔ Ev d X f nx (v0 :: v1 :: v2 :: v3 :: .null :: l) (.null :: st) h Q := EvI_step rfl
theorem e_is4 {v0 v1 v2 v3 : Value} {w : Value} {x : Int32} {l : List Value} : EvI d X f (3, 4, b, v, tb, nx) (v0 :: v1 :: v2 :: v3 :: w :: l) (.int x :: st) h Q ↔ Ev d X f nx (v0 :: v1 :: v2 :: v3 :: .int x :: l) st h Q := EvI_step (by simp [ai_step, ai_st1])
theorem e_as4 {v0 v1 v2 v3 : Value} {w : Value} {x : Nat} {l : List Value} : EvI d X f (4, 4, b, v, tb, nx) (v0 :: v1 :: v2 :: v3 :: w :: l) (.ref x :: st) h Q ↔ Ev d X f nx (v0 :: v1 :: v2 :: v3 :: .ref x :: l) st h Q := EvI_step (by simp [ai_step, ai_st1])
theorem e_az4 {v0 v1 v2 v3 : Value} {w : Value} {l : List Value} : EvI d X f (4, 4, b, v, tb, nx) (v0 :: v1 :: v2 :: v3 :: w :: l) (.null :: st) h Q ↔ Ev d X f nx (v0 :: v1 :: v2 :: v3 :: .null :: l) st h Q := EvI_step (by simp [ai_step, ai_st1])
theorem e_ii4 {v0 v1 v2 v3 : Value} {x : Int32} {l : List Value} : EvI d X f (5, 4, b, v, tb, nx) (v0 :: v1 :: v2 :: v3 :: .int x :: l) st h Q ↔ Ev d X f nx (v0 :: v1 :: v2 :: v3 :: .int (x + v) :: l) st h Q := EvI_step rfl
theorem e_il5 {v0 v1 v2 v3 v4 : Value} {x : Int32} {l : List Value} : EvI d X f (1, 5, b, v, tb, nx) (v0 :: v1 :: v2 :: v3 :: v4 :: .int x :: l) st h Q ↔ Ev d X f nx (v0 :: v1 :: v2 :: v3 :: v4 :: .int x :: l) (.int x :: st) h Q := EvI_step rfl
theorem e_al5 {v0 v1 v2 v3 v4 : Value} {x : Nat} {l : List Value} : EvI d X f (2, 5, b, v, tb, nx) (v0 :: v1 :: v2 :: v3 :: v4 :: .ref x :: l) st h Q ↔ Ev d X f nx (v0 :: v1 :: v2 :: v3 :: v4 :: .ref x :: l) (.ref x :: st) h Q := EvI_step rfl
theorem e_an5 {v0 v1 v2 v3 v4 : Value} {l : List Value} : EvI d X f (2, 5, b, v, tb, nx) (v0 :: v1 :: v2 :: v3 :: v4 :: .null :: l) st h Q ↔ Ev d X f nx (v0 :: v1 :: v2 :: v3 :: v4 :: .null :: l) (.null :: st) h Q := EvI_step rfl
theorem e_is5 {v0 v1 v2 v3 v4 : Value} {w : Value} {x : Int32} {l : List Value} : EvI d X f (3, 5, b, v, tb, nx) (v0 :: v1 :: v2 :: v3 :: v4 :: w :: l) (.int x :: st) h Q ↔ Ev d X f nx (v0 :: v1 :: v2 :: v3 :: v4 :: .int x :: l) st h Q := EvI_step (by simp [ai_step, ai_st1])
theorem e_as5 {v0 v1 v2 v3 v4 : Value} {w : Value} {x : Nat} {l : List Value} : EvI d X f (4, 5, b, v, tb, nx) (v0 :: v1 :: v2 :: v3 :: v4 :: w :: l) (.ref x :: st) h Q ↔ Ev d X f nx (v0 :: v1 :: v2 :: v3 :: v4 :: .ref x :: l) st h Q := EvI_step (by simp [ai_step, ai_st1])
theorem e_az5 {v0 v1 v2 v3 v4 : Value} {w : Value} {l : List Value} : EvI d X f (4, 5, b, v, tb, nx) (v0 :: v1 :: v2 :: v3 :: v4 :: w :: l) (.null :: st) h Q ↔ Ev d X f nx (v0 :: v1 :: v2 :: v3 :: v4 :: .null :: l) st h Q := EvI_step (by simp [ai_step, ai_st1])
theorem e_ii5 {v0 v1 v2 v3 v4 : Value} {x : Int32} {l : List Value} : EvI d X f (5, 5, b, v, tb, nx) (v0 :: v1 :: v2 :: v3 :: v4 :: .int x :: l) st h Q ↔ Ev d X f nx (v0 :: v1 :: v2 :: v3 :: v4 :: .int (x + v) :: l) st h Q := EvI_step rfl
theorem e_il6 {v0 v1 v2 v3 v4 v5 : Value} {x : Int32} {l : List Value} : EvI d X f (1, 6, b, v, tb, nx) (v0 :: v1 :: v2 :: v3 :: v4 :: v5 :: .int x :: l) st h Q ↔ Ev d X f nx (v0 :: v1 :: v2 :: v3 :: v4 :: v5 :: .int x :: l) (.int x :: st) h Q := EvI_step rfl
theorem e_al6 {v0 v1 v2 v3 v4 v5 : Value} {x : Nat} {l : List Value} : EvI d X f (2, 6, b, v, tb, nx) (v0 :: v1 :: v2 :: v3 :: v4 :: v5 :: .ref x :: l) st h Q ↔ Ev d X f nx (v0 :: v1 :: v2 :: v3 :: v4 :: v5 :: .ref x :: l) (.ref x :: st) h Q := EvI_step rfl
theorem e_an6 {v0 v1 v2 v3 v4 v5 : Value} {l : List Value} : EvI d X f (2, 6, b, v, tb, nx) (v0 :: v1 :: v2 :: v3 :: v4 :: v5 :: .null :: l) st h Q ↔ Ev d X f nx (v0 :: v1 :: v2 :: v3 :: v4 :: v5 :: .null :: l) (.null :: st) h Q := EvI_step rfl
theorem e_is6 {v0 v1 v2 v3 v4 v5 : Value} {w : Value} {x : Int32} {l : List Value} : EvI d X f (3, 6, b, v, tb, nx) (v0 :: v1 :: v2 :: v3 :: v4 :: v5 :: w :: l) (.int x :: st) h Q ↔ Ev d X f nx (v0 :: v1 :: v2 :: v3 :: v4 :: v5 :: .int x :: l) st h Q := EvI_step (by simp [ai_step, ai_st1])
theorem e_as6 {v0 v1 v2 v3 v4 v5 : Value} {w : Value} {x : Nat} {l : List Value} : EvI d X f (4, 6, b, v, tb, nx) (v0 :: v1 :: v2 :: v3 :: v4 :: v5 :: w :: l) (.ref x :: st) h Q ↔ Ev d X f nx (v0 :: v1 :: v2 :: v3 :: v4 :: v5 :: .ref x :: l) st h Q := EvI_step (by simp [ai_step, ai_st1])
theorem e_az6 {v0 v1 v2 v3 v4 v5 : Value} {w : Value} {l : List Value} : EvI d X f (4, 6, b, v, tb, nx) (v0 :: v1 :: v2 :: v3 :: v4 :: v5 :: w :: l) (.null :: st) h Q ↔ Ev d X f nx (v0 :: v1 :: v2 :: v3 :: v4 :: v5 :: .null :: l) st h Q := EvI_step (by simp [ai_step, ai_st1])
theorem e_ii6 {v0 v1 v2 v3 v4 v5 : Value} {x : Int32} {l : List Value} : EvI d X f (5, 6, b, v, tb, nx) (v0 :: v1 :: v2 :: v3 :: v4 :: v5 :: .int x :: l) st h Q ↔ Ev d X f nx (v0 :: v1 :: v2 :: v3 :: v4 :: v5 :: .int (x + v) :: l) st h Q := EvI_step rfl
theorem e_il7 {v0 v1 v2 v3 v4 v5 v6 : Value} {x : Int32} {l : List Value} : EvI d X f (1, 7, b, v, tb, nx) (v0 :: v1 :: v2 :: v3 :: v4 :: v5 :: v6 :: .int x :: l) st h Q ↔ Ev d X f nx (v0 :: v1 :: v2 :: v3 :: v4 :: v5 :: v6 :: .int x :: l) (.int x :: st) h Q := EvI_step rfl
theorem e_al7 {v0 v1 v2 v3 v4 v5 v6 : Value} {x : Nat} {l : List Value} : EvI d X f (2, 7, b, v, tb, nx) (v0 :: v1 :: v2 :: v3 :: v4 :: v5 :: v6 :: .ref x :: l) st h Q ↔ Ev d X f nx (v0 :: v1 :: v2 :: v3 :: v4 :: v5 :: v6 :: .ref x :: l) (.ref x :: st) h Q := EvI_step rfl
theorem e_an7 {v0 v1 v2 v3 v4 v5 v6 : Value} {l : List Value} : EvI d X f (2, 7, b, v, tb, nx) (v0 :: v1 :: v2 :: v3 :: v4 :: v5 :: v6 :: .null :: l) st h Q ↔ Ev d X f nx (v0 :: v1 :: v2 :: v3 :: v4 :: v5 :: v6 :: .null :: l) (.null :: st) h Q := EvI_step rfl
theorem e_is7 {v0 v1 v2 v3 v4 v5 v6 : Value} {w : Value} {x : Int32} {l : List Value} : EvI d X f (3, 7, b, v, tb, nx) (v0 :: v1 :: v2 :: v3 :: v4 :: v5 :: v6 :: w :: l) (.int x :: st) h Q ↔ Ev d X f nx (v0 :: v1 :: v2 :: v3 :: v4 :: v5 :: v6 :: .int x :: l) st h Q := EvI_step (by simp [ai_step, ai_st1])
theorem e_as7 {v0 v1 v2 v3 v4 v5 v6 : Value} {w : Value} {x : Nat} {l : List Value} : EvI d X f (4, 7, b, v, tb, nx) (v0 :: v1 :: v2 :: v3 :: v4 :: v5 :: v6 :: w :: l) (.ref x :: st) h Q ↔ Ev d X f nx (v0 :: v1 :: v2 :: v3 :: v4 :: v5 :: v6 :: .ref x :: l) st h Q := EvI_step (by simp [ai_step, ai_st1])
theorem e_az7 {v0 v1 v2 v3 v4 v5 v6 : Value} {w : Value} {l : List Value} : EvI d X f (4, 7, b, v, tb, nx) (v0 :: v1 :: v2 :: v3 :: v4 :: v5 :: v6 :: w :: l) (.null :: st) h Q ↔ Ev d X f nx (v0 :: v1 :: v2 :: v3 :: v4 :: v5 :: v6 :: .null :: l) st h Q := EvI_step (by simp [ai_step, ai_st1])
theorem e_ii7 {v0 v1 v2 v3 v4 v5 v6 : Value} {x : Int32} {l : List Value} : EvI d X f (5, 7, b, v, tb, nx) (v0 :: v1 :: v2 :: v3 :: v4 :: v5 :: v6 :: .int x :: l) st h Q ↔ Ev d X f nx (v0 :: v1 :: v2 :: v3 :: v4 :: v5 :: v6 :: .int (x + v) :: l) st h Q := EvI_step rfl
theorem e_b0 {x y : Int32} : EvI d X f (6, a, 0, v, tb, nx) ls (.int y :: .int x :: st) h Q ↔ Ev d X f nx ls (.int (x + y) :: st) h Q := EvI_step rfl
theorem e_b1 {x y : Int32} : EvI d X f (6, a, 1, v, tb, nx) ls (.int y :: .int x :: st) h Q ↔ Ev d X f nx ls (.int (x - y) :: st) h Q := EvI_step rfl
theorem e_b2 {x y : Int32} : EvI d X f (6, a, 2, v, tb, nx) ls (.int y :: .int x :: st) h Q ↔ Ev d X f nx ls (.int (x * y) :: st) h Q := EvI_step rfl
theorem e_b3 {x y : Int32} : EvI d X f (6, a, 3, v, tb, nx) ls (.int y :: .int x :: st) h Q ↔ Ev d X f nx ls (.int (x &&& y) :: st) h Q := EvI_step rfl
theorem e_b4 {x y : Int32} : EvI d X f (6, a, 4, v, tb, nx) ls (.int y :: .int x :: st) h Q ↔ Ev d X f nx ls (.int (x <<< (y &&& 31)) :: st) h Q := EvI_step rfl
theorem e_b5 {x y : Int32} : EvI d X f (6, a, 5, v, tb, nx) ls (.int y :: .int x :: st) h Q ↔ Ev d X f nx ls (.int (x >>> (y &&& 31)) :: st) h Q := EvI_step rfl
theorem e_b6 {x y : Int32} : EvI d X f (6, a, 6, v, tb, nx) ls (.int y :: .int x :: st) h Q ↔ Ev d X f nx ls (.int (x ^^^ y) :: st) h Q := EvI_step rfl
theorem e_div {x y : Int32} : EvI d X f (7, a, b, v, tb, nx) ls (.int y :: .int x :: st) h Q ↔ (¬ y = nI 0 ∧ Ev d X f nx ls (.int (x / y) :: st) h Q) := by
  by_cases h0 : y = 0
  · subst h0; rw [EvI_none (by rfl)]; simp [nI]
  · rw [EvI_step (show ai_step X d 7 a b v tb nx ls (.int y :: .int x :: st) h = some (.inl (nx, ls, .int (x / y) :: st, h)) by simp [ai_step, ai_st1, h0])]; exact (and_iff_right h0).symm
theorem e_rem {x y : Int32} : EvI d X f (8, a, b, v, tb, nx) ls (.int y :: .int x :: st) h Q ↔ (¬ y = nI 0 ∧ Ev d X f nx ls (.int (x - x / y * y) :: st) h Q) := by
  by_cases h0 : y = 0
  · subst h0; rw [EvI_none (by rfl)]; simp [nI]
  · rw [EvI_step (show ai_step X d 8 a b v tb nx ls (.int y :: .int x :: st) h = some (.inl (nx, ls, .int (x - x / y * y) :: st, h)) by simp [ai_step, ai_st1, h0])]; exact (and_iff_right h0).symm
theorem e_neg {x : Int32} : EvI d X f (9, a, b, v, tb, nx) ls (.int x :: st) h Q ↔ Ev d X f nx ls (.int (-x) :: st) h Q := EvI_step rfl
theorem e_i2c {x : Int32} : EvI d X f (10, a, b, v, tb, nx) ls (.int x :: st) h Q ↔ Ev d X f nx ls (.int (x.toUInt32 % 65536).toInt32 :: st) h Q := EvI_step rfl
theorem e_dupi {x : Int32} : EvI d X f (11, a, b, v, tb, nx) ls (.int x :: st) h Q ↔ Ev d X f nx ls (.int x :: .int x :: st) h Q := EvI_step rfl
theorem e_dupr {x : Nat} : EvI d X f (11, a, b, v, tb, nx) ls (.ref x :: st) h Q ↔ Ev d X f nx ls (.ref x :: .ref x :: st) h Q := EvI_step rfl
theorem e_dx1 {x : Int32} {y : Nat} : EvI d X f (12, a, b, v, tb, nx) ls (.int x :: .ref y :: st) h Q ↔ Ev d X f nx ls (.int x :: .ref y :: .int x :: st) h Q := EvI_step rfl
theorem e_dx2 {x y : Int32} {z : Nat} : EvI d X f (13, a, b, v, tb, nx) ls (.int x :: .int y :: .ref z :: st) h Q ↔ Ev d X f nx ls (.int x :: .int y :: .ref z :: .int x :: st) h Q := EvI_step rfl
theorem e_dup2 {x : Int32} {y : Nat} : EvI d X f (14, a, b, v, tb, nx) ls (.int x :: .ref y :: st) h Q ↔ Ev d X f nx ls (.int x :: .ref y :: .int x :: .ref y :: st) h Q := EvI_step rfl
theorem e_popi {x : Int32} : EvI d X f (15, a, b, v, tb, nx) ls (.int x :: st) h Q ↔ Ev d X f nx ls st h Q := EvI_step rfl
theorem e_popr {x : Nat} : EvI d X f (15, a, b, v, tb, nx) ls (.ref x :: st) h Q ↔ Ev d X f nx ls st h Q := EvI_step rfl
theorem e_goto : EvI d X f (16, a, b, v, tb, nx) ls st h Q ↔ Ev d X f a ls st h Q := EvI_step rfl
theorem ai_2way {c : Bool} {p q : Nat} : Ev d X f (if c then p else q) ls st h Q ↔ ((c = true → Ev d X f p ls st h Q) ∧ (¬ c = true → Ev d X f q ls st h Q)) := by cases c <;> simp
theorem e_c0 {x y : Int32} : EvI d X f (17, a, 0, v, tb, nx) ls (.int y :: .int x :: st) h Q ↔ ((x = y → Ev d X f a ls st h Q) ∧ (¬ x = y → Ev d X f nx ls st h Q)) := by
  rw [EvI_step (show ai_step X d 17 a 0 v tb nx ls (.int y :: .int x :: st) h = some (.inl (if ai_cmp 0 x y then a else nx, ls, st, h)) from rfl), ai_2way]; simp [ai_cmp]
theorem e_c1 {x y : Int32} : EvI d X f (17, a, 1, v, tb, nx) ls (.int y :: .int x :: st) h Q ↔ ((¬ x = y → Ev d X f a ls st h Q) ∧ (x = y → Ev d X f nx ls st h Q)) := by
  rw [EvI_step (show ai_step X d 17 a 1 v tb nx ls (.int y :: .int x :: st) h = some (.inl (if ai_cmp 1 x y then a else nx, ls, st, h)) from rfl), ai_2way]; simp [ai_cmp]
theorem e_c2 {x y : Int32} : EvI d X f (17, a, 2, v, tb, nx) ls (.int y :: .int x :: st) h Q ↔ ((x < y → Ev d X f a ls st h Q) ∧ (¬ x < y → Ev d X f nx ls st h Q)) := by
  rw [EvI_step (show ai_step X d 17 a 2 v tb nx ls (.int y :: .int x :: st) h = some (.inl (if ai_cmp 2 x y then a else nx, ls, st, h)) from rfl), ai_2way]; simp [ai_cmp]
theorem e_c3 {x y : Int32} : EvI d X f (17, a, 3, v, tb, nx) ls (.int y :: .int x :: st) h Q ↔ ((y ≤ x → Ev d X f a ls st h Q) ∧ (¬ y ≤ x → Ev d X f nx ls st h Q)) := by
  rw [EvI_step (show ai_step X d 17 a 3 v tb nx ls (.int y :: .int x :: st) h = some (.inl (if ai_cmp 3 x y then a else nx, ls, st, h)) from rfl), ai_2way]; simp [ai_cmp]
theorem e_c4 {x y : Int32} : EvI d X f (17, a, 4, v, tb, nx) ls (.int y :: .int x :: st) h Q ↔ ((y < x → Ev d X f a ls st h Q) ∧ (¬ y < x → Ev d X f nx ls st h Q)) := by
  rw [EvI_step (show ai_step X d 17 a 4 v tb nx ls (.int y :: .int x :: st) h = some (.inl (if ai_cmp 4 x y then a else nx, ls, st, h)) from rfl), ai_2way]; simp [ai_cmp]
theorem e_c5 {x y : Int32} : EvI d X f (17, a, 5, v, tb, nx) ls (.int y :: .int x :: st) h Q ↔ ((x ≤ y → Ev d X f a ls st h Q) ∧ (¬ x ≤ y → Ev d X f nx ls st h Q)) := by
  rw [EvI_step (show ai_step X d 17 a 5 v tb nx ls (.int y :: .int x :: st) h = some (.inl (if ai_cmp 5 x y then a else nx, ls, st, h)) from rfl), ai_2way]; simp [ai_cmp]
theorem e_z0 {x : Int32} : EvI d X f (18, a, 0, v, tb, nx) ls (.int x :: st) h Q ↔ ((x = nI 0 → Ev d X f a ls st h Q) ∧ (¬ x = nI 0 → Ev d X f nx ls st h Q)) := by
  rw [EvI_step (show ai_step X d 18 a 0 v tb nx ls (.int x :: st) h = some (.inl (if ai_cmp 0 x 0 then a else nx, ls, st, h)) from rfl), ai_2way]; simp [ai_cmp, nI]
theorem e_z1 {x : Int32} : EvI d X f (18, a, 1, v, tb, nx) ls (.int x :: st) h Q ↔ ((¬ x = nI 0 → Ev d X f a ls st h Q) ∧ (x = nI 0 → Ev d X f nx ls st h Q)) := by
  rw [EvI_step (show ai_step X d 18 a 1 v tb nx ls (.int x :: st) h = some (.inl (if ai_cmp 1 x 0 then a else nx, ls, st, h)) from rfl), ai_2way]; simp [ai_cmp, nI]
theorem e_z2 {x : Int32} : EvI d X f (18, a, 2, v, tb, nx) ls (.int x :: st) h Q ↔ ((x < nI 0 → Ev d X f a ls st h Q) ∧ (¬ x < nI 0 → Ev d X f nx ls st h Q)) := by
  rw [EvI_step (show ai_step X d 18 a 2 v tb nx ls (.int x :: st) h = some (.inl (if ai_cmp 2 x 0 then a else nx, ls, st, h)) from rfl), ai_2way]; simp [ai_cmp, nI]
theorem e_z3 {x : Int32} : EvI d X f (18, a, 3, v, tb, nx) ls (.int x :: st) h Q ↔ ((nI 0 ≤ x → Ev d X f a ls st h Q) ∧ (¬ nI 0 ≤ x → Ev d X f nx ls st h Q)) := by
  rw [EvI_step (show ai_step X d 18 a 3 v tb nx ls (.int x :: st) h = some (.inl (if ai_cmp 3 x 0 then a else nx, ls, st, h)) from rfl), ai_2way]; simp [ai_cmp, nI]
theorem e_z4 {x : Int32} : EvI d X f (18, a, 4, v, tb, nx) ls (.int x :: st) h Q ↔ ((nI 0 < x → Ev d X f a ls st h Q) ∧ (¬ nI 0 < x → Ev d X f nx ls st h Q)) := by
  rw [EvI_step (show ai_step X d 18 a 4 v tb nx ls (.int x :: st) h = some (.inl (if ai_cmp 4 x 0 then a else nx, ls, st, h)) from rfl), ai_2way]; simp [ai_cmp, nI]
theorem e_z5 {x : Int32} : EvI d X f (18, a, 5, v, tb, nx) ls (.int x :: st) h Q ↔ ((x ≤ nI 0 → Ev d X f a ls st h Q) ∧ (¬ x ≤ nI 0 → Ev d X f nx ls st h Q)) := by
  rw [EvI_step (show ai_step X d 18 a 5 v tb nx ls (.int x :: st) h = some (.inl (if ai_cmp 5 x 0 then a else nx, ls, st, h)) from rfl), ai_2way]; simp [ai_cmp, nI]
theorem e_nn : EvI d X f (19, a, b, v, tb, nx) ls (.null :: st) h Q ↔ Ev d X f a ls st h Q := EvI_step rfl
theorem e_nr {x : Nat} : EvI d X f (19, a, b, v, tb, nx) ls (.ref x :: st) h Q ↔ Ev d X f nx ls st h Q := EvI_step rfl
theorem e_xn : EvI d X f (20, a, b, v, tb, nx) ls (.null :: st) h Q ↔ Ev d X f nx ls st h Q := EvI_step rfl
theorem e_xr {x : Nat} : EvI d X f (20, a, b, v, tb, nx) ls (.ref x :: st) h Q ↔ Ev d X f a ls st h Q := EvI_step rfl
theorem e_null : EvI d X f (21, a, b, v, tb, nx) ls st h Q ↔ Ev d X f nx ls (.null :: st) h Q := EvI_step rfl
theorem ai_if_and {c : Prop} [Decidable c] {A : Prop} {o : Nat × List Value × List Value × ai_H} {op : Nat} (e : ai_step X d op a b v tb nx ls st h = if c then some (.inl o) else none) (hA : Ev d X f o.1 o.2.1 o.2.2.1 o.2.2.2 Q ↔ A) : EvI d X f (op, a, b, v, tb, nx) ls st h Q ↔ (c ∧ A) := by
  by_cases hc : c
  · rw [if_pos hc] at e
    obtain ⟨o1, o2, o3, o4⟩ := o
    rw [EvI_step e, hA]
    simp [hc]
  · rw [if_neg hc] at e
    rw [EvI_none e]
    simp [hc]
theorem e_getI {q : Nat} {K : List (Nat × Nat)} {I : Nat → Nat → Int32} {M : Nat → Nat → Nat} : EvI d X f (22, a, b, v, tb, nx) ls (.ref q :: st) (K, I, M) Q ↔ (ai_kq K q = some a ∧ Ev d X f nx ls (.int (I q b) :: st) (K, I, M) Q) := ai_if_and (c := ai_kq K q = some a) (o := (nx, ls, .int (I q b) :: st, (K, I, M))) rfl Iff.rfl
theorem e_getR {q : Nat} {K : List (Nat × Nat)} {I : Nat → Nat → Int32} {M : Nat → Nat → Nat} : EvI d X f (23, a, b, v, tb, nx) ls (.ref q :: st) (K, I, M) Q ↔ (ai_kq K q = some a ∧ Ev d X f nx ls (ai_rv (M q b) :: st) (K, I, M) Q) := ai_if_and (c := ai_kq K q = some a) (o := (nx, ls, ai_rv (M q b) :: st, (K, I, M))) rfl Iff.rfl
theorem e_putI {q : Nat} {x : Int32} {K : List (Nat × Nat)} {I : Nat → Nat → Int32} {M : Nat → Nat → Nat} : EvI d X f (24, a, b, v, tb, nx) ls (.int x :: .ref q :: st) (K, I, M) Q ↔ ((ai_kq K q = some a ∧ (ai_bool a b = false ∨ x = 0 ∨ x = 1)) ∧ Ev d X f nx ls st (K, ai_u I q b x, M) Q) := ai_if_and (c := ai_kq K q = some a ∧ (ai_bool a b = false ∨ x = 0 ∨ x = 1)) (o := (nx, ls, st, (K, ai_u I q b x, M))) rfl Iff.rfl
theorem e_putR {q x : Nat} {K : List (Nat × Nat)} {I : Nat → Nat → Int32} {M : Nat → Nat → Nat} : EvI d X f (25, a, b, v, tb, nx) ls (.ref x :: .ref q :: st) (K, I, M) Q ↔ (ai_kq K q = some a ∧ Ev d X f nx ls st (K, I, ai_u M q b (x + 1)) Q) := ai_if_and (c := ai_kq K q = some a) (o := (nx, ls, st, (K, I, ai_u M q b (x + 1)))) rfl Iff.rfl
theorem ai_ar_if {K : List (Nat × Nat)} {q k : Nat} {i : Int32} {o : Option ai_O} : (match K[q]? with
      | some (kd, n) => if kd = k ∧ ai_in i n = true then o else none
      | none => none) = if ai_ar K q k i = true then o else none := by
  unfold ai_ar
  cases K[q]? with
  | none => simp
  | some x => obtain ⟨kd, n⟩ := x; simp
theorem e_iald {q : Nat} {i : Int32} {K : List (Nat × Nat)} {I : Nat → Nat → Int32} {M : Nat → Nat → Nat} : EvI d X f (26, a, b, v, tb, nx) ls (.int i :: .ref q :: st) (K, I, M) Q ↔ (ai_ar K q 9 i = true ∧ Ev d X f nx ls (.int (I q i.toNatClampNeg) :: st) (K, I, M) Q) := ai_if_and (c := ai_ar K q 9 i = true) (o := (nx, ls, .int (I q i.toNatClampNeg) :: st, (K, I, M))) ai_ar_if Iff.rfl
theorem e_cald {q : Nat} {i : Int32} {K : List (Nat × Nat)} {I : Nat → Nat → Int32} {M : Nat → Nat → Nat} : EvI d X f (27, a, b, v, tb, nx) ls (.int i :: .ref q :: st) (K, I, M) Q ↔ (ai_ar K q 8 i = true ∧ Ev d X f nx ls (.int (I q i.toNatClampNeg) :: st) (K, I, M) Q) := ai_if_and (c := ai_ar K q 8 i = true) (o := (nx, ls, .int (I q i.toNatClampNeg) :: st, (K, I, M))) ai_ar_if Iff.rfl
theorem e_aald {q : Nat} {i : Int32} {K : List (Nat × Nat)} {I : Nat → Nat → Int32} {M : Nat → Nat → Nat} : EvI d X f (28, a, b, v, tb, nx) ls (.int i :: .ref q :: st) (K, I, M) Q ↔ (ai_ar3 K q i = true ∧ Ev d X f nx ls (ai_rv (M q i.toNatClampNeg) :: st) (K, I, M) Q) := ai_if_and (c := ai_ar3 K q i = true) (o := (nx, ls, ai_rv (M q i.toNatClampNeg) :: st, (K, I, M))) (by
    show (match K[q]? with
      | some (kd, n) => if 10 ≤ kd ∧ kd ≤ 12 ∧ ai_in i n = true then _ else none
      | none => none) = _
    unfold ai_ar3
    cases K[q]? with
    | none => simp
    | some x => obtain ⟨kd, n⟩ := x; simp [and_assoc]) Iff.rfl
theorem e_iast {q : Nat} {i x : Int32} {K : List (Nat × Nat)} {I : Nat → Nat → Int32} {M : Nat → Nat → Nat} : EvI d X f (29, a, b, v, tb, nx) ls (.int x :: .int i :: .ref q :: st) (K, I, M) Q ↔ (ai_ar K q 9 i = true ∧ Ev d X f nx ls st (K, ai_u I q i.toNatClampNeg x, M) Q) := ai_if_and (c := ai_ar K q 9 i = true) (o := (nx, ls, st, (K, ai_u I q i.toNatClampNeg x, M))) ai_ar_if Iff.rfl
theorem e_cast {q : Nat} {i x : Int32} {K : List (Nat × Nat)} {I : Nat → Nat → Int32} {M : Nat → Nat → Nat} : EvI d X f (30, a, b, v, tb, nx) ls (.int x :: .int i :: .ref q :: st) (K, I, M) Q ↔ (ai_ar K q 8 i = true ∧ Ev d X f nx ls st (K, ai_u I q i.toNatClampNeg (vp_nar .char x), M) Q) := ai_if_and (c := ai_ar K q 8 i = true) (o := (nx, ls, st, (K, ai_u I q i.toNatClampNeg (vp_nar .char x), M))) ai_ar_if Iff.rfl
theorem e_aast {q w : Nat} {i : Int32} {K : List (Nat × Nat)} {I : Nat → Nat → Int32} {M : Nat → Nat → Nat} : EvI d X f (31, a, b, v, tb, nx) ls (.ref w :: .int i :: .ref q :: st) (K, I, M) Q ↔ (((ai_kq K q = some 10 ∧ ai_kq K w = some 3 ∨ ai_kq K q = some 11 ∧ ai_kq K w = some 4) ∧ ai_ar3 K q i = true) ∧ Ev d X f nx ls st (K, I, ai_u M q i.toNatClampNeg (w + 1)) Q) := ai_if_and (c := (ai_kq K q = some 10 ∧ ai_kq K w = some 3 ∨ ai_kq K q = some 11 ∧ ai_kq K w = some 4) ∧ ai_ar3 K q i = true) (o := (nx, ls, st, (K, I, ai_u M q i.toNatClampNeg (w + 1)))) (by
    show (match K[q]? with
      | some (kd, n) => if ((kd = 10 ∧ ai_kd (K, I, M) w = some 3) ∨ (kd = 11 ∧ ai_kd (K, I, M) w = some 4)) ∧ ai_in i n = true then _ else none
      | none => none) = _
    unfold ai_ar3
    have e9 : ai_kd (K, I, M) w = ai_kq K w := rfl
    rw [e9]
    have e8 : ai_kq K q = (K[q]?).map (·.1) := rfl
    rw [e8]
    cases K[q]? with
    | none => simp
    | some x =>
      obtain ⟨kd, n⟩ := x
      by_cases h10 : kd = 10
      · subst h10; simp
      · by_cases h11 : kd = 11
        · subst h11; simp
        · simp [h10, h11]) Iff.rfl
theorem e_copy {n dp sp : Int32} {q0 q1 : Nat} {K : List (Nat × Nat)} {I : Nat → Nat → Int32} {M : Nat → Nat → Nat} : EvI (d + 1) X f (41, a, b, v, tb, nx) ls [.int n, .int dp, .ref q1, .int sp, .ref q0] (K, I, M) Q ↔ ((∃ n0 n1, K[q0]? = some (9, n0) ∧ K[q1]? = some (9, n1) ∧ ¬ sp < 0 ∧ ¬ dp < 0 ∧ ¬ n < 0 ∧ sp.toNatClampNeg + n.toNatClampNeg ≤ n0 ∧ dp.toNatClampNeg + n.toNatClampNeg ≤ n1) ∧
    Ev (d + 1) X f nx ls [] (K, (fun q j => if q = q1 ∧ dp.toNatClampNeg ≤ j ∧ j < dp.toNatClampNeg + n.toNatClampNeg then I q0 (sp.toNatClampNeg + (j - dp.toNatClampNeg)) else I q j), M) Q) := by
  have e : ai_step X (d + 1) 41 a b v tb nx ls [.int n, .int dp, .ref q1, .int sp, .ref q0] (K, I, M) = (match K[q0]?, K[q1]? with
        | some (k0, n0), some (k1, n1) => if k0 = 9 ∧ k1 = 9 ∧ ¬ sp < 0 ∧ ¬ dp < 0 ∧ ¬ n < 0 ∧ sp.toNatClampNeg + n.toNatClampNeg ≤ n0 ∧ dp.toNatClampNeg + n.toNatClampNeg ≤ n1 then
          some (.inl (nx, ls, [], (K, (fun q j => if q = q1 ∧ dp.toNatClampNeg ≤ j ∧ j < dp.toNatClampNeg + n.toNatClampNeg then I q0 (sp.toNatClampNeg + (j - dp.toNatClampNeg)) else I q j), M))) else none
        | _, _ => none) := by simp [ai_step, ai_st4, ai_c1]; rfl
  cases h0 : K[q0]? with
  | none => rw [EvI_none (by rw [e, h0])]; simp
  | some x =>
    cases h1 : K[q1]? with
    | none => rw [EvI_none (by rw [e, h0, h1])]; simp
    | some y =>
      obtain ⟨k0, n0⟩ := x
      obtain ⟨k1, n1⟩ := y
      by_cases hc : k0 = 9 ∧ k1 = 9 ∧ ¬ sp < 0 ∧ ¬ dp < 0 ∧ ¬ n < 0 ∧ sp.toNatClampNeg + n.toNatClampNeg ≤ n0 ∧ dp.toNatClampNeg + n.toNatClampNeg ≤ n1
      · rw [EvI_step (by rw [e, h0, h1]; exact if_pos hc)]
        obtain ⟨rfl, rfl, hc⟩ := hc
        constructor
        · intro g; exact ⟨⟨n0, n1, rfl, rfl, hc⟩, g⟩
        · intro g; exact g.2
      · rw [EvI_none (by rw [e, h0, h1]; exact if_neg hc)]
        constructor
        · intro g; cases g
        · rintro ⟨⟨n0', n1', e1, e2, g⟩, -⟩
          cases e1
          cases e2
          exact hc ⟨rfl, rfl, g⟩
theorem e_reti {x : Int32} : EvI d X f (42, 0, b, v, tb, nx) ls [.int x] h Q ↔ Q (some (.int x)) h := EvI_ret (by simp [ai_step, ai_st5])
theorem e_retb {x : Int32} : EvI d X f (42, 1, b, v, tb, nx) ls [.int x] h Q ↔ ((x = 0 ∨ x = 1) ∧ Q (some (.int x)) h) := by
  by_cases hc : x = 0 ∨ x = 1
  · rw [EvI_ret (r := some (.int x)) (by simp [ai_step, ai_st5, hc])]; simp [hc]
  · rw [EvI_none (by simp [ai_step, ai_st5, hc])]; simp [hc]
theorem e_retr {x : Nat} : EvI d X f (42, 2, b, v, tb, nx) ls [.ref x] h Q ↔ Q (some (.ref x)) h := EvI_ret (by simp [ai_step, ai_st5])
theorem e_retn : EvI d X f (42, 2, b, v, tb, nx) ls [.null] h Q ↔ Q (some .null) h := EvI_ret (by simp [ai_step, ai_st5])
theorem e_ret : EvI d X f (43, a, b, v, tb, nx) ls [] h Q ↔ Q none h := EvI_ret rfl
theorem e_sw {x : Int32} : EvI d X f (44, a, b, v, tb, nx) ls (.int x :: st) h Q ↔ Ev d X f (if x.toInt < v.toInt then a else (tb[(x.toInt - v.toInt).toNat]?).getD a) ls st h Q := EvI_step rfl
theorem ai_c1n : ai_c1 [] = true := rfl
theorem ai_c1i {x : Int32} {l : List Value} : ai_c1 (.int x :: l) = ai_c1 l := rfl
theorem ai_c1r {x : Nat} {l : List Value} : ai_c1 (.ref x :: l) = ai_c1 l := rfl
theorem e_cs1 {a0 : Value} : EvI (d + 1) X f (37, a, 1, v, tb, nx) ls (a0 :: st) h Q ↔ ((ai_c1 (a0 :: st) = true ∧ st.length ≤ 8) ∧ Cl d a [a0] h (fun r h' => Ev (d + 1) X f nx ls (r.toList ++ st) h' Q)) := by
  by_cases hc : ai_c1 (a0 :: st) = true ∧ st.length ≤ 8
  · rw [EvI_call (g := a) (av := [a0]) (rest := st) (by simp [ai_step, ai_st5]; simpa using hc)]; simp [hc]
  · rw [EvI_none (by simp [ai_step, ai_st5]; intro h1; exact Nat.lt_of_not_le (fun h2 => hc ⟨h1, h2⟩))]; simp [hc]
theorem e_cs2 {a0 a1 : Value} : EvI (d + 1) X f (37, a, 2, v, tb, nx) ls (a1 :: a0 :: st) h Q ↔ ((ai_c1 (a1 :: a0 :: st) = true ∧ st.length ≤ 8) ∧ Cl d a [a0, a1] h (fun r h' => Ev (d + 1) X f nx ls (r.toList ++ st) h' Q)) := by
  by_cases hc : ai_c1 (a1 :: a0 :: st) = true ∧ st.length ≤ 8
  · rw [EvI_call (g := a) (av := [a0, a1]) (rest := st) (by simp [ai_step, ai_st5]; simpa using hc)]; simp [hc]
  · rw [EvI_none (by simp [ai_step, ai_st5]; intro h1; exact Nat.lt_of_not_le (fun h2 => hc ⟨h1, h2⟩))]; simp [hc]
theorem e_cs3 {a0 a1 a2 : Value} : EvI (d + 1) X f (37, a, 3, v, tb, nx) ls (a2 :: a1 :: a0 :: st) h Q ↔ ((ai_c1 (a2 :: a1 :: a0 :: st) = true ∧ st.length ≤ 8) ∧ Cl d a [a0, a1, a2] h (fun r h' => Ev (d + 1) X f nx ls (r.toList ++ st) h' Q)) := by
  by_cases hc : ai_c1 (a2 :: a1 :: a0 :: st) = true ∧ st.length ≤ 8
  · rw [EvI_call (g := a) (av := [a0, a1, a2]) (rest := st) (by simp [ai_step, ai_st5]; simpa using hc)]; simp [hc]
  · rw [EvI_none (by simp [ai_step, ai_st5]; intro h1; exact Nat.lt_of_not_le (fun h2 => hc ⟨h1, h2⟩))]; simp [hc]
theorem e_cs4 {a0 a1 a2 a3 : Value} : EvI (d + 1) X f (37, a, 4, v, tb, nx) ls (a3 :: a2 :: a1 :: a0 :: st) h Q ↔ ((ai_c1 (a3 :: a2 :: a1 :: a0 :: st) = true ∧ st.length ≤ 8) ∧ Cl d a [a0, a1, a2, a3] h (fun r h' => Ev (d + 1) X f nx ls (r.toList ++ st) h' Q)) := by
  by_cases hc : ai_c1 (a3 :: a2 :: a1 :: a0 :: st) = true ∧ st.length ≤ 8
  · rw [EvI_call (g := a) (av := [a0, a1, a2, a3]) (rest := st) (by simp [ai_step, ai_st5]; simpa using hc)]; simp [hc]
  · rw [EvI_none (by simp [ai_step, ai_st5]; intro h1; exact Nat.lt_of_not_le (fun h2 => hc ⟨h1, h2⟩))]; simp [hc]
theorem e_cs5 {a0 a1 a2 a3 a4 : Value} : EvI (d + 1) X f (37, a, 5, v, tb, nx) ls (a4 :: a3 :: a2 :: a1 :: a0 :: st) h Q ↔ ((ai_c1 (a4 :: a3 :: a2 :: a1 :: a0 :: st) = true ∧ st.length ≤ 8) ∧ Cl d a [a0, a1, a2, a3, a4] h (fun r h' => Ev (d + 1) X f nx ls (r.toList ++ st) h' Q)) := by
  by_cases hc : ai_c1 (a4 :: a3 :: a2 :: a1 :: a0 :: st) = true ∧ st.length ≤ 8
  · rw [EvI_call (g := a) (av := [a0, a1, a2, a3, a4]) (rest := st) (by simp [ai_step, ai_st5]; simpa using hc)]; simp [hc]
  · rw [EvI_none (by simp [ai_step, ai_st5]; intro h1; exact Nat.lt_of_not_le (fun h2 => hc ⟨h1, h2⟩))]; simp [hc]
theorem e_cs6 {a0 a1 a2 a3 a4 a5 : Value} : EvI (d + 1) X f (37, a, 6, v, tb, nx) ls (a5 :: a4 :: a3 :: a2 :: a1 :: a0 :: st) h Q ↔ ((ai_c1 (a5 :: a4 :: a3 :: a2 :: a1 :: a0 :: st) = true ∧ st.length ≤ 8) ∧ Cl d a [a0, a1, a2, a3, a4, a5] h (fun r h' => Ev (d + 1) X f nx ls (r.toList ++ st) h' Q)) := by
  by_cases hc : ai_c1 (a5 :: a4 :: a3 :: a2 :: a1 :: a0 :: st) = true ∧ st.length ≤ 8
  · rw [EvI_call (g := a) (av := [a0, a1, a2, a3, a4, a5]) (rest := st) (by simp [ai_step, ai_st5]; simpa using hc)]; simp [hc]
  · rw [EvI_none (by simp [ai_step, ai_st5]; intro h1; exact Nat.lt_of_not_le (fun h2 => hc ⟨h1, h2⟩))]; simp [hc]
theorem e_cs7 {a0 a1 a2 a3 a4 a5 a6 : Value} : EvI (d + 1) X f (37, a, 7, v, tb, nx) ls (a6 :: a5 :: a4 :: a3 :: a2 :: a1 :: a0 :: st) h Q ↔ ((ai_c1 (a6 :: a5 :: a4 :: a3 :: a2 :: a1 :: a0 :: st) = true ∧ st.length ≤ 8) ∧ Cl d a [a0, a1, a2, a3, a4, a5, a6] h (fun r h' => Ev (d + 1) X f nx ls (r.toList ++ st) h' Q)) := by
  by_cases hc : ai_c1 (a6 :: a5 :: a4 :: a3 :: a2 :: a1 :: a0 :: st) = true ∧ st.length ≤ 8
  · rw [EvI_call (g := a) (av := [a0, a1, a2, a3, a4, a5, a6]) (rest := st) (by simp [ai_step, ai_st5]; simpa using hc)]; simp [hc]
  · rw [EvI_none (by simp [ai_step, ai_st5]; intro h1; exact Nat.lt_of_not_le (fun h2 => hc ⟨h1, h2⟩))]; simp [hc]
theorem e_cv1 {q k : Nat} {K : List (Nat × Nat)} {I : Nat → Nat → Int32} {M : Nat → Nat → Nat} : EvI (d + 1) X f (38, a, 1, v, [k], nx) ls (.ref q :: st) (K, I, M) Q ↔ ((ai_kq K q = some k ∧ ai_c1 (.ref q :: st) = true ∧ st.length ≤ 8) ∧ Cl d a [.ref q] (K, I, M) (fun r h' => Ev (d + 1) X f nx ls (r.toList ++ st) h' Q)) := by
  have e9 : ai_kd (K, I, M) q = ai_kq K q := rfl
  by_cases hc : ai_kq K q = some k ∧ ai_c1 (.ref q :: st) = true ∧ st.length ≤ 8
  · rw [EvI_call (g := a) (av := [.ref q]) (rest := st) (by simp [ai_step, ai_st5, e9]; simpa using hc)]; simp [hc]
  · rw [EvI_none (by simp [ai_step, ai_st5, e9]; intro h1 h2; exact Nat.lt_of_not_le (fun h3 => hc ⟨h1, h2, h3⟩))]; simp [hc]
theorem e_cv2 {q k : Nat} {a1 : Value} {K : List (Nat × Nat)} {I : Nat → Nat → Int32} {M : Nat → Nat → Nat} : EvI (d + 1) X f (38, a, 2, v, [k], nx) ls (a1 :: .ref q :: st) (K, I, M) Q ↔ ((ai_kq K q = some k ∧ ai_c1 (a1 :: .ref q :: st) = true ∧ st.length ≤ 8) ∧ Cl d a [.ref q, a1] (K, I, M) (fun r h' => Ev (d + 1) X f nx ls (r.toList ++ st) h' Q)) := by
  have e9 : ai_kd (K, I, M) q = ai_kq K q := rfl
  by_cases hc : ai_kq K q = some k ∧ ai_c1 (a1 :: .ref q :: st) = true ∧ st.length ≤ 8
  · rw [EvI_call (g := a) (av := [.ref q, a1]) (rest := st) (by simp [ai_step, ai_st5, e9]; simpa using hc)]; simp [hc]
  · rw [EvI_none (by simp [ai_step, ai_st5, e9]; intro h1 h2; exact Nat.lt_of_not_le (fun h3 => hc ⟨h1, h2, h3⟩))]; simp [hc]
theorem e_cv3 {q k : Nat} {a1 a2 : Value} {K : List (Nat × Nat)} {I : Nat → Nat → Int32} {M : Nat → Nat → Nat} : EvI (d + 1) X f (38, a, 3, v, [k], nx) ls (a2 :: a1 :: .ref q :: st) (K, I, M) Q ↔ ((ai_kq K q = some k ∧ ai_c1 (a2 :: a1 :: .ref q :: st) = true ∧ st.length ≤ 8) ∧ Cl d a [.ref q, a1, a2] (K, I, M) (fun r h' => Ev (d + 1) X f nx ls (r.toList ++ st) h' Q)) := by
  have e9 : ai_kd (K, I, M) q = ai_kq K q := rfl
  by_cases hc : ai_kq K q = some k ∧ ai_c1 (a2 :: a1 :: .ref q :: st) = true ∧ st.length ≤ 8
  · rw [EvI_call (g := a) (av := [.ref q, a1, a2]) (rest := st) (by simp [ai_step, ai_st5, e9]; simpa using hc)]; simp [hc]
  · rw [EvI_none (by simp [ai_step, ai_st5, e9]; intro h1 h2; exact Nat.lt_of_not_le (fun h3 => hc ⟨h1, h2, h3⟩))]; simp [hc]
theorem e_cv4 {q k : Nat} {a1 a2 a3 : Value} {K : List (Nat × Nat)} {I : Nat → Nat → Int32} {M : Nat → Nat → Nat} : EvI (d + 1) X f (38, a, 4, v, [k], nx) ls (a3 :: a2 :: a1 :: .ref q :: st) (K, I, M) Q ↔ ((ai_kq K q = some k ∧ ai_c1 (a3 :: a2 :: a1 :: .ref q :: st) = true ∧ st.length ≤ 8) ∧ Cl d a [.ref q, a1, a2, a3] (K, I, M) (fun r h' => Ev (d + 1) X f nx ls (r.toList ++ st) h' Q)) := by
  have e9 : ai_kd (K, I, M) q = ai_kq K q := rfl
  by_cases hc : ai_kq K q = some k ∧ ai_c1 (a3 :: a2 :: a1 :: .ref q :: st) = true ∧ st.length ≤ 8
  · rw [EvI_call (g := a) (av := [.ref q, a1, a2, a3]) (rest := st) (by simp [ai_step, ai_st5, e9]; simpa using hc)]; simp [hc]
  · rw [EvI_none (by simp [ai_step, ai_st5, e9]; intro h1 h2; exact Nat.lt_of_not_le (fun h3 => hc ⟨h1, h2, h3⟩))]; simp [hc]
theorem e_cv5 {q k : Nat} {a1 a2 a3 a4 : Value} {K : List (Nat × Nat)} {I : Nat → Nat → Int32} {M : Nat → Nat → Nat} : EvI (d + 1) X f (38, a, 5, v, [k], nx) ls (a4 :: a3 :: a2 :: a1 :: .ref q :: st) (K, I, M) Q ↔ ((ai_kq K q = some k ∧ ai_c1 (a4 :: a3 :: a2 :: a1 :: .ref q :: st) = true ∧ st.length ≤ 8) ∧ Cl d a [.ref q, a1, a2, a3, a4] (K, I, M) (fun r h' => Ev (d + 1) X f nx ls (r.toList ++ st) h' Q)) := by
  have e9 : ai_kd (K, I, M) q = ai_kq K q := rfl
  by_cases hc : ai_kq K q = some k ∧ ai_c1 (a4 :: a3 :: a2 :: a1 :: .ref q :: st) = true ∧ st.length ≤ 8
  · rw [EvI_call (g := a) (av := [.ref q, a1, a2, a3, a4]) (rest := st) (by simp [ai_step, ai_st5, e9]; simpa using hc)]; simp [hc]
  · rw [EvI_none (by simp [ai_step, ai_st5, e9]; intro h1 h2; exact Nat.lt_of_not_le (fun h3 => hc ⟨h1, h2, h3⟩))]; simp [hc]
theorem e_cv6 {q k : Nat} {a1 a2 a3 a4 a5 : Value} {K : List (Nat × Nat)} {I : Nat → Nat → Int32} {M : Nat → Nat → Nat} : EvI (d + 1) X f (38, a, 6, v, [k], nx) ls (a5 :: a4 :: a3 :: a2 :: a1 :: .ref q :: st) (K, I, M) Q ↔ ((ai_kq K q = some k ∧ ai_c1 (a5 :: a4 :: a3 :: a2 :: a1 :: .ref q :: st) = true ∧ st.length ≤ 8) ∧ Cl d a [.ref q, a1, a2, a3, a4, a5] (K, I, M) (fun r h' => Ev (d + 1) X f nx ls (r.toList ++ st) h' Q)) := by
  have e9 : ai_kd (K, I, M) q = ai_kq K q := rfl
  by_cases hc : ai_kq K q = some k ∧ ai_c1 (a5 :: a4 :: a3 :: a2 :: a1 :: .ref q :: st) = true ∧ st.length ≤ 8
  · rw [EvI_call (g := a) (av := [.ref q, a1, a2, a3, a4, a5]) (rest := st) (by simp [ai_step, ai_st5, e9]; simpa using hc)]; simp [hc]
  · rw [EvI_none (by simp [ai_step, ai_st5, e9]; intro h1 h2; exact Nat.lt_of_not_le (fun h3 => hc ⟨h1, h2, h3⟩))]; simp [hc]
theorem e_cv7 {q k : Nat} {a1 a2 a3 a4 a5 a6 : Value} {K : List (Nat × Nat)} {I : Nat → Nat → Int32} {M : Nat → Nat → Nat} : EvI (d + 1) X f (38, a, 7, v, [k], nx) ls (a6 :: a5 :: a4 :: a3 :: a2 :: a1 :: .ref q :: st) (K, I, M) Q ↔ ((ai_kq K q = some k ∧ ai_c1 (a6 :: a5 :: a4 :: a3 :: a2 :: a1 :: .ref q :: st) = true ∧ st.length ≤ 8) ∧ Cl d a [.ref q, a1, a2, a3, a4, a5, a6] (K, I, M) (fun r h' => Ev (d + 1) X f nx ls (r.toList ++ st) h' Q)) := by
  have e9 : ai_kd (K, I, M) q = ai_kq K q := rfl
  by_cases hc : ai_kq K q = some k ∧ ai_c1 (a6 :: a5 :: a4 :: a3 :: a2 :: a1 :: .ref q :: st) = true ∧ st.length ≤ 8
  · rw [EvI_call (g := a) (av := [.ref q, a1, a2, a3, a4, a5, a6]) (rest := st) (by simp [ai_step, ai_st5, e9]; simpa using hc)]; simp [hc]
  · rw [EvI_none (by simp [ai_step, ai_st5, e9]; intro h1 h2; exact Nat.lt_of_not_le (fun h3 => hc ⟨h1, h2, h3⟩))]; simp [hc]
theorem e_ci1 {q k : Nat} {K : List (Nat × Nat)} {I : Nat → Nat → Int32} {M : Nat → Nat → Nat} : EvI (d + 1) X f (39, a, 1, v, [k], nx) ls (.ref q :: st) (K, I, M) Q ↔ ((ai_kq K q = some k ∧ ai_c1 (.ref q :: st) = true ∧ st.length ≤ 8) ∧ Cl d a [.ref q] (K, I, M) (fun r h' => Ev (d + 1) X f nx ls (r.toList ++ st) h' Q)) := by
  have e9 : ai_kd (K, I, M) q = ai_kq K q := rfl
  by_cases hc : ai_kq K q = some k ∧ ai_c1 (.ref q :: st) = true ∧ st.length ≤ 8
  · rw [EvI_call (g := a) (av := [.ref q]) (rest := st) (by simp [ai_step, ai_st5, e9]; simpa using hc)]; simp [hc]
  · rw [EvI_none (by simp [ai_step, ai_st5, e9]; intro h1 h2; exact Nat.lt_of_not_le (fun h3 => hc ⟨h1, h2, h3⟩))]; simp [hc]
theorem e_ci2 {q k : Nat} {a1 : Value} {K : List (Nat × Nat)} {I : Nat → Nat → Int32} {M : Nat → Nat → Nat} : EvI (d + 1) X f (39, a, 2, v, [k], nx) ls (a1 :: .ref q :: st) (K, I, M) Q ↔ ((ai_kq K q = some k ∧ ai_c1 (a1 :: .ref q :: st) = true ∧ st.length ≤ 8) ∧ Cl d a [.ref q, a1] (K, I, M) (fun r h' => Ev (d + 1) X f nx ls (r.toList ++ st) h' Q)) := by
  have e9 : ai_kd (K, I, M) q = ai_kq K q := rfl
  by_cases hc : ai_kq K q = some k ∧ ai_c1 (a1 :: .ref q :: st) = true ∧ st.length ≤ 8
  · rw [EvI_call (g := a) (av := [.ref q, a1]) (rest := st) (by simp [ai_step, ai_st5, e9]; simpa using hc)]; simp [hc]
  · rw [EvI_none (by simp [ai_step, ai_st5, e9]; intro h1 h2; exact Nat.lt_of_not_le (fun h3 => hc ⟨h1, h2, h3⟩))]; simp [hc]
theorem e_ci3 {q k : Nat} {a1 a2 : Value} {K : List (Nat × Nat)} {I : Nat → Nat → Int32} {M : Nat → Nat → Nat} : EvI (d + 1) X f (39, a, 3, v, [k], nx) ls (a2 :: a1 :: .ref q :: st) (K, I, M) Q ↔ ((ai_kq K q = some k ∧ ai_c1 (a2 :: a1 :: .ref q :: st) = true ∧ st.length ≤ 8) ∧ Cl d a [.ref q, a1, a2] (K, I, M) (fun r h' => Ev (d + 1) X f nx ls (r.toList ++ st) h' Q)) := by
  have e9 : ai_kd (K, I, M) q = ai_kq K q := rfl
  by_cases hc : ai_kq K q = some k ∧ ai_c1 (a2 :: a1 :: .ref q :: st) = true ∧ st.length ≤ 8
  · rw [EvI_call (g := a) (av := [.ref q, a1, a2]) (rest := st) (by simp [ai_step, ai_st5, e9]; simpa using hc)]; simp [hc]
  · rw [EvI_none (by simp [ai_step, ai_st5, e9]; intro h1 h2; exact Nat.lt_of_not_le (fun h3 => hc ⟨h1, h2, h3⟩))]; simp [hc]
theorem e_ci4 {q k : Nat} {a1 a2 a3 : Value} {K : List (Nat × Nat)} {I : Nat → Nat → Int32} {M : Nat → Nat → Nat} : EvI (d + 1) X f (39, a, 4, v, [k], nx) ls (a3 :: a2 :: a1 :: .ref q :: st) (K, I, M) Q ↔ ((ai_kq K q = some k ∧ ai_c1 (a3 :: a2 :: a1 :: .ref q :: st) = true ∧ st.length ≤ 8) ∧ Cl d a [.ref q, a1, a2, a3] (K, I, M) (fun r h' => Ev (d + 1) X f nx ls (r.toList ++ st) h' Q)) := by
  have e9 : ai_kd (K, I, M) q = ai_kq K q := rfl
  by_cases hc : ai_kq K q = some k ∧ ai_c1 (a3 :: a2 :: a1 :: .ref q :: st) = true ∧ st.length ≤ 8
  · rw [EvI_call (g := a) (av := [.ref q, a1, a2, a3]) (rest := st) (by simp [ai_step, ai_st5, e9]; simpa using hc)]; simp [hc]
  · rw [EvI_none (by simp [ai_step, ai_st5, e9]; intro h1 h2; exact Nat.lt_of_not_le (fun h3 => hc ⟨h1, h2, h3⟩))]; simp [hc]
theorem e_ci5 {q k : Nat} {a1 a2 a3 a4 : Value} {K : List (Nat × Nat)} {I : Nat → Nat → Int32} {M : Nat → Nat → Nat} : EvI (d + 1) X f (39, a, 5, v, [k], nx) ls (a4 :: a3 :: a2 :: a1 :: .ref q :: st) (K, I, M) Q ↔ ((ai_kq K q = some k ∧ ai_c1 (a4 :: a3 :: a2 :: a1 :: .ref q :: st) = true ∧ st.length ≤ 8) ∧ Cl d a [.ref q, a1, a2, a3, a4] (K, I, M) (fun r h' => Ev (d + 1) X f nx ls (r.toList ++ st) h' Q)) := by
  have e9 : ai_kd (K, I, M) q = ai_kq K q := rfl
  by_cases hc : ai_kq K q = some k ∧ ai_c1 (a4 :: a3 :: a2 :: a1 :: .ref q :: st) = true ∧ st.length ≤ 8
  · rw [EvI_call (g := a) (av := [.ref q, a1, a2, a3, a4]) (rest := st) (by simp [ai_step, ai_st5, e9]; simpa using hc)]; simp [hc]
  · rw [EvI_none (by simp [ai_step, ai_st5, e9]; intro h1 h2; exact Nat.lt_of_not_le (fun h3 => hc ⟨h1, h2, h3⟩))]; simp [hc]
theorem e_ci6 {q k : Nat} {a1 a2 a3 a4 a5 : Value} {K : List (Nat × Nat)} {I : Nat → Nat → Int32} {M : Nat → Nat → Nat} : EvI (d + 1) X f (39, a, 6, v, [k], nx) ls (a5 :: a4 :: a3 :: a2 :: a1 :: .ref q :: st) (K, I, M) Q ↔ ((ai_kq K q = some k ∧ ai_c1 (a5 :: a4 :: a3 :: a2 :: a1 :: .ref q :: st) = true ∧ st.length ≤ 8) ∧ Cl d a [.ref q, a1, a2, a3, a4, a5] (K, I, M) (fun r h' => Ev (d + 1) X f nx ls (r.toList ++ st) h' Q)) := by
  have e9 : ai_kd (K, I, M) q = ai_kq K q := rfl
  by_cases hc : ai_kq K q = some k ∧ ai_c1 (a5 :: a4 :: a3 :: a2 :: a1 :: .ref q :: st) = true ∧ st.length ≤ 8
  · rw [EvI_call (g := a) (av := [.ref q, a1, a2, a3, a4, a5]) (rest := st) (by simp [ai_step, ai_st5, e9]; simpa using hc)]; simp [hc]
  · rw [EvI_none (by simp [ai_step, ai_st5, e9]; intro h1 h2; exact Nat.lt_of_not_le (fun h3 => hc ⟨h1, h2, h3⟩))]; simp [hc]
theorem e_ci7 {q k : Nat} {a1 a2 a3 a4 a5 a6 : Value} {K : List (Nat × Nat)} {I : Nat → Nat → Int32} {M : Nat → Nat → Nat} : EvI (d + 1) X f (39, a, 7, v, [k], nx) ls (a6 :: a5 :: a4 :: a3 :: a2 :: a1 :: .ref q :: st) (K, I, M) Q ↔ ((ai_kq K q = some k ∧ ai_c1 (a6 :: a5 :: a4 :: a3 :: a2 :: a1 :: .ref q :: st) = true ∧ st.length ≤ 8) ∧ Cl d a [.ref q, a1, a2, a3, a4, a5, a6] (K, I, M) (fun r h' => Ev (d + 1) X f nx ls (r.toList ++ st) h' Q)) := by
  have e9 : ai_kd (K, I, M) q = ai_kq K q := rfl
  by_cases hc : ai_kq K q = some k ∧ ai_c1 (a6 :: a5 :: a4 :: a3 :: a2 :: a1 :: .ref q :: st) = true ∧ st.length ≤ 8
  · rw [EvI_call (g := a) (av := [.ref q, a1, a2, a3, a4, a5, a6]) (rest := st) (by simp [ai_step, ai_st5, e9]; simpa using hc)]; simp [hc]
  · rw [EvI_none (by simp [ai_step, ai_st5, e9]; intro h1 h2; exact Nat.lt_of_not_le (fun h3 => hc ⟨h1, h2, h3⟩))]; simp [hc]
end EVR
def ai_rq (o : Option ai_R) (r : ai_R) : Bool := match o with
  | some x => Nat.beq x.1 r.1 && Nat.beq x.2.1 r.2.1 && Nat.beq x.2.2.1 r.2.2.1 && decide (x.2.2.2.1 = r.2.2.2.1) && decide (x.2.2.2.2.1 = r.2.2.2.2.1) && Nat.beq x.2.2.2.2.2 r.2.2.2.2.2
  | none => false
theorem ai_rq_ok {o : Option ai_R} {r : ai_R} (h : ai_rq o r = true) : o = some r := by
  cases o with
  | none => cases h
  | some x =>
    obtain ⟨a, b, c, d, e, g⟩ := x
    obtain ⟨a', b', c', d', e', g'⟩ := r
    simp only [ai_rq, Bool.and_eq_true, decide_eq_true_eq] at h
    obtain ⟨⟨⟨⟨⟨h1, h2⟩, h3⟩, h4⟩, h5⟩, h6⟩ := h
    rw [Nat.eq_of_beq_eq_true h1, Nat.eq_of_beq_eq_true h2, Nat.eq_of_beq_eq_true h3, h4, h5, Nat.eq_of_beq_eq_true h6]
theorem Ev_at {d : Nat} {X : ai_X} {f pc : Nat} {i : ai_R} (hf : ai_rq (ai_fetch f pc) i = true) {ls st : List Value} {h : ai_H} {Q : Option Value → ai_H → Prop} : Ev d X f pc ls st h Q ↔ EvI d X f i ls st h Q := Ev_iff (ai_rq_ok hf)
