/-! the small machine's states upon the machine's: cells, locals -/
def ai_cv (sb N0 : Nat) (v : Value) : Value := match v with
  | .ref a => .ref (N0 + a)
  | .retAddr _ => .ref sb
  | .int x => .int x
  | .long x => .long x
  | .float x => .float x
  | .double x => .double x
  | .null => .null
theorem ai_cv_cat (sb N0 : Nat) (v : Value) : (ai_cv sb N0 v).category = v.category := by cases v <;> rfl
def ai_rn (N0 : Nat) (n : Nat) : Option Nat := match n with
  | 0 => none
  | b + 1 => some (N0 + b)
theorem ai_cv_rv (sb N0 n : Nat) : ai_cv sb N0 (ai_rv n) = va_rf (ai_rn N0 n) := by cases n <;> rfl
def ai_L (sb N0 nL : Nat) (als : List Value) (ls : Array Slot) : Prop := ls.size = nL ∧ lv_wf ls ∧ als.length = nL ∧ ∀ (i : Nat) (v : Value), als[i]? = some v → v.category = 1 → ls[i]? = some (.val (ai_cv sb N0 v))
def ai_lv (sb N0 : Nat) (als : List Value) : List (Nat × Value) := (List.range als.length).filterMap (fun i => match als[i]? with
  | some v => if v.category = 1 then some (i, ai_cv sb N0 v) else none
  | none => none)
theorem ai_lv_mem {sb N0 : Nat} {als : List Value} {i : Nat} {v : Value} (h : als[i]? = some v) (hc : v.category = 1) : (i, ai_cv sb N0 v) ∈ ai_lv sb N0 als := by
  refine List.mem_filterMap.mpr ⟨i, List.mem_range.mpr (List.getElem?_eq_some_iff.mp h).1, ?_⟩
  rw [h]
  exact if_pos hc
theorem ai_lv_inv {sb N0 : Nat} {als : List Value} {q : Nat × Value} (h : q ∈ ai_lv sb N0 als) : ∃ v, als[q.1]? = some v ∧ v.category = 1 ∧ q.2 = ai_cv sb N0 v := by
  obtain ⟨i, -, hi⟩ := List.mem_filterMap.mp h
  cases e : als[i]? with
  | none => rw [e] at hi; cases hi
  | some v =>
    rw [e] at hi
    by_cases hc : v.category = 1
    · have hi : (if v.category = 1 then some (i, ai_cv sb N0 v) else none) = some q := hi
      rw [if_pos hc] at hi
      cases hi
      exact ⟨v, e, hc, rfl⟩
    · have hi : (if v.category = 1 then some (i, ai_cv sb N0 v) else none) = some q := hi
      rw [if_neg hc] at hi
      cases hi
theorem ai_L.has {sb N0 nL : Nat} {als : List Value} {ls : Array Slot} (h : ai_L sb N0 nL als ls) : lv_has ls nL (ai_lv sb N0 als) := by
  refine ⟨h.1, h.2.1, fun q hq => ?_⟩
  obtain ⟨v, h1, h2, h3⟩ := ai_lv_inv hq
  rw [h3]
  exact h.2.2.2 _ _ h1 h2
theorem ai_L.at {sb N0 nL : Nat} {als : List Value} {ls : Array Slot} (h : ai_L sb N0 nL als ls) {i : Nat} {v : Value} (e : als[i]? = some v) (hc : v.category = 1) : ls[i]? = some (.val (ai_cv sb N0 v)) := h.2.2.2 i v e hc
theorem ai_L.set {sb N0 nL i : Nat} {als : List Value} {ls ls' : Array Slot} {w : Value} (h : ai_L sb N0 nL als ls)
    (h' : lv_has ls' nL ((i, ai_cv sb N0 w) :: (ai_lv sb N0 als).filter (fun q => !(q.1 == i) && !(q.1 + 1 == i && q.2.category == 2)))) : ai_L sb N0 nL (als.set i w) ls' := by
  refine ⟨h'.1, h'.2.1, by rw [List.length_set]; exact h.2.2.1, fun j v e hc => ?_⟩
  by_cases hj : j = i
  · subst hj
    rw [List.getElem?_set] at e
    split at e
    · split at e
      · cases e
        exact h'.2.2 (j, ai_cv sb N0 w) List.mem_cons_self
      · cases e
    · rename_i hne
      exact absurd rfl hne
  · rw [List.getElem?_set_ne (Ne.symm hj)] at e
    refine h'.2.2 (j, ai_cv sb N0 v) (List.mem_cons_of_mem _ (List.mem_filter.mpr ⟨ai_lv_mem e hc, ?_⟩))
    simp [hj, ai_cv_cat, hc]
def ai_aty (kd : Nat) : FieldType := match kd with
  | 8 => .char
  | 9 => .int
  | 10 => .object RX3
  | 11 => .object RX4
  | _ => .array .int
def ai_tys (cA : Nat → ClassId) : List (ClassId × FieldType) := [(cA 8, .char), (cA 9, .int), (cA 10, .object RX3), (cA 11, .object RX4), (cA 12, .array .int)]
def ai_nf (kd : Nat) : Nat := ((vwCl[kd]?).map (·.2.2)).getD 0
def ai_fs (N0 kd : Nat) (fi : Nat → Int32) (fr : Nat → Nat) : List Value := (List.range (ai_nf kd)).map (fun j => if ai_isref kd j then va_rf (ai_rn N0 (fr j)) else .int (fi j))
def ai_E (N0 : Nat) (cA : Nat → ClassId) (fi : Nat → Int32) (fr : Nat → Nat) (kd n : Nat) : va_E :=
  if kd < 8 then .inr (kd, ai_fs N0 kd fi fr)
  else if kd < 10 then .inl (cA kd, n, .inl fi)
  else .inl (cA kd, n, .inr (.inr (.inr (.inr (fun j => ai_rn N0 (fr j))))))
def ai_P (N0 : Nat) (D : va_G) (cA : Nat → ClassId) (h : ai_H) (H : Heap) : Prop := H.size = N0 + h.1.length ∧ ∀ a kd n, h.1[a]? = some (kd, n) → va_at D vwCl (N0 + a, ai_E N0 cA (h.2.1 a) (h.2.2 a) kd n) H ∧ kd ≤ 12
def ai_G (D : va_G) (cA : Nat → ClassId) (s : State) : Prop := va_K D vwCl (ai_tys cA) s ∧ (∀ w ∈ ai_nt.flatMap ai_nl, va_Nw w s) ∧ va_AO RX3 s ∧ va_AO RX4 s ∧ (Cond.arrayOver (.array .int)).before #[] s = true
def ai_Cx (p : Program) (s : State) (m : MethodId) (args : Array Value) (meth : Method) (c : Code) (q : ai_M) (D : va_G) (cA : Nat → ClassId) : Prop :=
  p.tables.exec = Jvm.exec ∧ c.code = q.2.1 ∧ c.maxLocals = q.2.2.1 ∧ s.vm.findClass q.1.cls = some m.cls ∧ (∀ w ∈ ai_ws, w.before args s = true) ∧ (q.1.name = "<init>" → meth.name = "<init>") ∧ ai_G D cA s
def ai_Sx (X : ai_X) (sb N0 : Nat) (s : State) : Prop := X.1 = 0 ∨ (va_X sb (X.1 - 1) X.2 s s.heap ∧ sb < s.heap.size ∧ sb < N0)
def ai_sum (h : ai_H) : Nat := (h.1.map (·.2)).sum
theorem ai_P.hit {N0 : Nat} {D : va_G} {cA : Nat → ClassId} {h : ai_H} {H : Heap} (hP : ai_P N0 D cA h H) {a kd n : Nat} (e : h.1[a]? = some (kd, n)) : va_P D vwCl [(N0 + a, ai_E N0 cA (h.2.1 a) (h.2.2 a) kd n)] H := by
  intro k q hk
  have h0 : k < 1 := (List.getElem?_eq_some_iff.mp hk).1
  rw [show k = 0 by omega] at hk
  cases hk
  exact (hP.2 a kd n e).1
theorem ai_kd_at {h : ai_H} {q kd : Nat} (e : ai_kd h q = some kd) : ∃ n, h.1[q]? = some (kd, n) := by
  unfold ai_kd at e
  cases hq : h.1[q]? with
  | none => rw [hq] at e; cases e
  | some x =>
    rw [hq] at e
    obtain ⟨k, n⟩ := x
    cases e
    exact ⟨n, rfl⟩
/-- one cell changes -/
theorem ai_P.put {N0 : Nat} {D : va_G} {cA : Nat → ClassId} {h h' : ai_H} {H H1 : Heap} (hP : ai_P N0 D cA h H) {q kd n : Nat} (e : h.1[q]? = some (kd, n)) (hK : h'.1 = h.1) (hz : H1.size = H.size) (oq : ∀ x : Nat, x ≠ N0 + q → H1[x]? = H[x]?)
    (hi : ∀ a, a ≠ q → h'.2.1 a = h.2.1 a) (hr : ∀ a, a ≠ q → h'.2.2 a = h.2.2 a) (he : va_at D vwCl (N0 + q, ai_E N0 cA (h'.2.1 q) (h'.2.2 q) kd n) H1) : ai_P N0 D cA h' H1 := by
  refine ⟨by rw [hz, hP.1, hK], fun a kd' n' ha => ?_⟩
  rw [hK] at ha
  by_cases hq : a = q
  · subst hq
    rw [ha] at e
    cases e
    exact ⟨he, (hP.2 _ _ _ ha).2⟩
  · rw [hi a hq, hr a hq]
    exact ⟨(hP.2 _ _ _ ha).1.kept (oq _ (by show N0 + a ≠ N0 + q; omega)), (hP.2 _ _ _ ha).2⟩
theorem ai_u_same {α : Type} (M : Nat → Nat → α) (a j : Nat) (v : α) : ai_u M a j v a = fun i => if i = j then v else M a i := by
  funext i
  simp [ai_u]
theorem ai_u_other {α : Type} (M : Nat → Nat → α) (a j : Nat) (v : α) {b : Nat} (h : b ≠ a) : ai_u M a j v b = M b := by
  funext i
  simp [ai_u, h]
/-- cells come at the end -/
theorem ai_P.push {N0 : Nat} {D : va_G} {cA : Nat → ClassId} {h h' : ai_H} {H H1 : Heap} (hP : ai_P N0 D cA h H) {kd n : Nat} (hkd : kd ≤ 12) (hK : h'.1 = h.1 ++ [(kd, n)]) (hz : H1.size = H.size + 1) (oq : ∀ x : Nat, x < H.size → H1[x]? = H[x]?)
    (hi : ∀ a, a < h.1.length → h'.2.1 a = h.2.1 a) (hr : ∀ a, a < h.1.length → h'.2.2 a = h.2.2 a) (he : va_at D vwCl (N0 + h.1.length, ai_E N0 cA (h'.2.1 h.1.length) (h'.2.2 h.1.length) kd n) H1) : ai_P N0 D cA h' H1 := by
  refine ⟨by rw [hz, hP.1, hK, List.length_append]; simp only [List.length_cons, List.length_nil]; omega, fun a kd' n' ha => ?_⟩
  rw [hK] at ha
  by_cases hq : a < h.1.length
  · rw [List.getElem?_append_left hq] at ha
    rw [hi a hq, hr a hq]
    exact ⟨(hP.2 _ _ _ ha).1.kept (oq _ (by show N0 + a < H.size; rw [hP.1]; omega)), (hP.2 _ _ _ ha).2⟩
  · rw [List.getElem?_append_right (by omega)] at ha
    have h0 : a - h.1.length < 1 := (List.getElem?_eq_some_iff.mp ha).1
    have h1 : a = h.1.length := by omega
    subst h1
    rw [Nat.sub_self] at ha
    cases ha
    exact ⟨he, hkd⟩
theorem ai_z_same {α : Type} (M : Nat → Nat → α) (a : Nat) (v : α) : ai_z M a v a = fun _ => v := by
  funext i
  simp [ai_z]
theorem ai_z_other {α : Type} (M : Nat → Nat → α) (a : Nat) (v : α) {b : Nat} (h : b ≠ a) : ai_z M a v b = M b := by
  funext i
  simp [ai_z, h]
theorem ai_S.grow {A : Nat → Prop} {H0 H H1 : Heap} {locs : List Loc} (hS : va_S A H0 H locs) (hz : H.size ≤ H1.size) (oq : ∀ x : Nat, x < H.size → H1[x]? = H[x]?) : va_S A H0 H1 locs :=
  ⟨Nat.le_trans hS.1 hz, fun x h1 h2 => (oq x (Nat.lt_of_lt_of_le h1 hS.1)).trans (hS.2.1 x h1 h2), hS.2.2⟩
/-! the tables' facts, as they are used -/
theorem ai_cl_in {k : Nat} {q : vw_C} (h : vwCl[k]? = some q) : (∀ w ∈ u_ws q.1 q.2.1 q.2.2, w ∈ ai_ws) ∧ Cond.instantiable q.1 q.2.2 ∈ ai_ws ∧ Cond.initialized q.1 ∈ ai_ws := by
  have h1 : ∀ w ∈ ai_cw q, w ∈ ai_ws := fun w hw => by
    have h2 : w ∈ vwCl.flatMap ai_cw := List.mem_flatMap.mpr ⟨q, List.mem_of_getElem? h, hw⟩
    unfold ai_ws
    simp only [List.mem_append]
    exact Or.inr (Or.inr (Or.inr (Or.inr (Or.inr (Or.inl h2)))))
  exact ⟨fun w hw => h1 w (List.mem_append_left _ hw), h1 _ (List.mem_append_right _ (by simp)), h1 _ (List.mem_append_right _ (by simp))⟩
theorem ai_cl_b {k : Nat} {q : vw_C} (h : vwCl[k]? = some q) : (∀ j, j < q.2.2 → ai_tyb k q j = true) ∧ ∀ a, a < q.2.2 → ∀ b, b < q.2.2 → a ≠ b → (q.2.1 a).2.1 ≠ (q.2.1 b).2.1 := by
  have hk : k < 8 := (List.getElem?_eq_some_iff.mp h).1
  have h1 := List.all_eq_true.mp ai_clb_ok k (List.mem_range.mpr hk)
  unfold ai_clb at h1
  rw [h] at h1
  simp only [Bool.and_eq_true, List.all_eq_true, List.mem_range, Bool.or_eq_true, decide_eq_true_eq] at h1
  refine ⟨h1.1, fun a ha b hb hne => ?_⟩
  rcases h1.2 a ha b hb with e | e
  · exact absurd e hne
  · exact e
theorem ai_ty_ok {k : Nat} {q : vw_C} (h : vwCl[k]? = some q) : ∀ j, j < q.2.2 → parseFieldDescriptor (q.2.1 j).2.2.1 = some (ai_ty q j) := fun j hj => by
  have h1 := (ai_cl_b h).1 j hj
  unfold ai_tyb at h1
  simp only [Bool.and_eq_true, decide_eq_true_eq] at h1
  exact h1.1.2
theorem ai_ty_own {k : Nat} {q : vw_C} (h : vwCl[k]? = some q) : ∀ j, j < q.2.2 → (q.2.1 j).1 = q.1 := fun j hj => by
  have h1 := (ai_cl_b h).1 j hj
  unfold ai_tyb at h1
  simp only [Bool.and_eq_true, decide_eq_true_eq] at h1
  exact h1.1.1
theorem ai_ty_int {k : Nat} {q : vw_C} (h : vwCl[k]? = some q) {j : Nat} (hj : j < q.2.2) (hr : ai_isref k j = false) : ai_ty q j = .int ∨ (ai_ty q j = .boolean ∧ ai_bool k j = true) := by
  have h1 := (ai_cl_b h).1 j hj
  unfold ai_tyb at h1
  rw [hr] at h1
  simp at h1
  rcases h1.2 with e | e
  · exact Or.inl e
  · exact Or.inr ⟨e.1, e.2⟩
theorem ai_ty_ref {k : Nat} {q : vw_C} (h : vwCl[k]? = some q) {j : Nat} (hj : j < q.2.2) (hr : ai_isref k j = true) : (∃ n, ai_ty q j = .object n) ∨ ∃ t, ai_ty q j = .array t := by
  have h1 := (ai_cl_b h).1 j hj
  unfold ai_tyb at h1
  rw [hr] at h1
  simp only [Bool.and_eq_true, if_true] at h1
  have h2 := h1.2
  cases e : ai_ty q j with
  | object n => exact Or.inl ⟨n, rfl⟩
  | array t => exact Or.inr ⟨t, rfl⟩
  | _ => rw [e] at h2; cases h2
theorem ai_find_in {α : Type} {l : List (String × Nat × α)} {own : String} {i : Nat} {r : α} (h : (l.find? (fun q => q.2.1 == i && q.1 == own)).map (·.2.2) = some r) : (own, i, r) ∈ l := by
  cases e : l.find? (fun q => q.2.1 == i && q.1 == own) with
  | none => rw [e] at h; cases h
  | some x =>
    rw [e] at h
    have h1 := List.find?_some e
    have h2 := List.mem_of_find?_eq_some e
    simp only [Bool.and_eq_true, beq_iff_eq] at h1
    obtain ⟨a, b, c⟩ := x
    cases h
    obtain ⟨e1, e2⟩ := h1
    dsimp only at e1 e2
    subst e1
    subst e2
    exact h2
theorem ai_fld_ok {own : String} {i k j : Nat} (h : ai_fld own i = some (k, j)) : ∃ q, vwCl[k]? = some q ∧ j < q.2.2 ∧ Cond.fieldLink own i q.1 (q.2.1 j).2.1 (q.2.1 j).2.2.1 ∈ ai_ws := by
  have h1 : (own, i, k, j) ∈ ai_ft := ai_find_in h
  have h2 := List.all_eq_true.mp ai_ftb_ok _ h1
  unfold ai_ftb at h2
  cases e : vwCl[k]? with
  | none => rw [e] at h2; cases h2
  | some q =>
    rw [e] at h2
    refine ⟨q, rfl, of_decide_eq_true h2, ?_⟩
    have h3 : Cond.fieldLink own i q.1 (q.2.1 j).2.1 (q.2.1 j).2.2.1 ∈ ai_ft.flatMap ai_fw := List.mem_flatMap.mpr ⟨_, h1, by unfold ai_fw; rw [e]; exact List.mem_singleton.mpr rfl⟩
    unfold ai_ws
    simp only [List.mem_append]
    exact Or.inr (Or.inr (Or.inr (Or.inl h3)))
theorem ai_con_ok {own : String} {i : Nat} {v : Int32} (h : ai_con own i = some v) : Cond.constant own i v ∈ ai_ws := by
  have h1 : (own, i, v) ∈ ai_ct := ai_find_in h
  have h3 : Cond.constant own i v ∈ ai_ct.flatMap (fun e => [Cond.constant e.1 e.2.1 e.2.2]) := List.mem_flatMap.mpr ⟨_, h1, List.mem_singleton.mpr rfl⟩
  unfold ai_ws
  simp only [List.mem_append]
  exact Or.inr (Or.inr (Or.inr (Or.inr (Or.inr (Or.inr (Or.inl h3))))))
theorem ai_kls_ok {own : String} {i k : Nat} (h : ai_kls own i = some k) : (own, i, k) ∈ ai_kt := ai_find_in h
theorem ai_kls_in {own : String} {i k : Nat} (h : ai_kls own i = some k) : (∀ q, vwCl[k]? = some q → Cond.classLink own i q.1 ∈ ai_ws) ∧ (k = 12 → Cond.classLink own i "[[I" ∈ ai_ws) := by
  have h1 := ai_kls_ok h
  have key : ∀ w ∈ ai_kw (own, i, k), w ∈ ai_ws := fun w hw => by
    have h3 : w ∈ ai_kt.flatMap ai_kw := List.mem_flatMap.mpr ⟨_, h1, hw⟩
    unfold ai_ws
    simp only [List.mem_append]
    exact Or.inr (Or.inr (Or.inr (Or.inr (Or.inl h3))))
  refine ⟨fun q e => key _ (by unfold ai_kw; rw [e]; exact List.mem_singleton.mpr rfl), fun e => key _ ?_⟩
  subst e
  exact List.mem_singleton.mpr rfl
theorem ai_misc_in : ∀ w ∈ ai_misc, w ∈ ai_ws := fun w h => by
  unfold ai_ws
  simp only [List.mem_append]
  exact Or.inr (Or.inr (Or.inr (Or.inr (Or.inr (Or.inr (Or.inr (Or.inr (Or.inr h))))))))
theorem ai_g_inv {c : Bool} {r r' : ai_R} (h : ai_g c r = some r') : c = true ∧ r = r' := by
  unfold ai_g at h
  cases c
  · cases h
  · exact ⟨rfl, Option.some.inj h⟩
theorem ai_t_inv {pc t : Nat} {o : Int} (h : ai_t pc o = some t) : (pc : Int) + o = (t : Int) := by
  unfold ai_t at h
  split at h
  · have := Option.some.inj h
    omega
  · cases h
theorem ai_bind_inv {α β : Type} {x : Option α} {f : α → Option β} {r : β} (h : x.bind f = some r) : ∃ a, x = some a ∧ f a = some r := Option.bind_eq_some_iff.mp h
theorem ai_fetch_inv {f pc : Nat} {r : ai_R} {q : ai_M} (hm : ai_mt[f]? = some q) (h : ai_fetch f pc = some r) : ∃ i len, decode q.2.1 pc = .ok (i, len) ∧ ai_res q.1 q.2.2.2.1 pc i len = some r := by
  unfold ai_fetch at h
  rw [hm] at h
  have h : (match decode q.2.1 pc with
    | .ok (i, len) => ai_res q.1 q.2.2.2.1 pc i len
    | .error _ => none) = some r := h
  cases e : decode q.2.1 pc with
  | error x => rw [e] at h; cases h
  | ok x =>
    rw [e] at h
    exact ⟨x.1, x.2, rfl, h⟩
