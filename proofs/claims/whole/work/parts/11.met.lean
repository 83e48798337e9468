/-! calls, returns, and the small machine's run of a method as a contract -/
def ai_rm (d mc ms : Nat) : Room := { frames := d, cells := mc, slots := ms, locals := 64 * d }
def ai_Pc (sb N0 : Nat) (D : va_G) (cA : Nat → ClassId) (h : ai_H) (av : List Value) : Array Value → State → Prop := va_Pc (av.map (ai_cv sb N0)) (fun U => ai_P N0 D cA h U.heap ∧ ai_G D cA U)
def ai_Qc (sb N0 : Nat) (D : va_G) (cA : Nat → ClassId) (h' : ai_H) (r : Option Value) : Array Value → State → Outcome → State → Prop := fun _ st oc t => oc = .returned (r.map (ai_cv sb N0)) ∧ ai_P N0 D cA h' t.heap ∧ va_F (fun x => N0 ≤ x) st t
def ai_yw (q : ai_M) : List Cond := Cond.code q.1 q.2.1 q.2.2.1 q.2.2.2.1 :: ai_ws
/-- what a return tells -/
def ai_ro (q : ai_M) (pc : Nat) (r : Option Value) : Prop :=
  (∃ x : Int32, r = some (.int x) ∧ decode q.2.1 pc = .ok (.ireturn, 1) ∧ (q.2.2.2.1 = some .int ∨ (q.2.2.2.1 = some .boolean ∧ (x = 0 ∨ x = 1)))) ∨
  ((r = some .null ∨ ∃ a, r = some (.ref a)) ∧ decode q.2.1 pc = .ok (.areturn, 1) ∧ q.2.2.2.1 = some (.object RX3)) ∨
  (r = none ∧ decode q.2.1 pc = .ok (.return_, 1) ∧ q.2.2.2.1 = none)
/-- every run of at most n steps from a state that stands for one of the small machine's -/
def ai_SimW (l : Launch) (n : Nat) : Prop :=
  ∀ (p : Program) (e : Env) (R : Room) (s : State) (m : MethodId) (args : Array Value) (below : List Frame) (meth : Method) (c : Code) (Q : State → Prop) (q : ai_M) (D : va_G) (cA : Nat → ClassId) (sb N0 L0 S0 d : Nat) (X : ai_X) (f pc : Nat) (als st : List Value) (h : ai_H) (r : Option Value) (h' : ai_H) (ls : Array Slot) (H : Heap) (locs : List Loc) (cells slots : Nat),
    ai_Cx p s m args meth c q D cA → ai_mt[f]? = some q → ai_Sx X sb N0 s → N0 ≤ s.heap.size → d ≤ R.frames ∧ 64 * d ≤ R.locals → h'.1.length ≤ R.cells + L0 → ai_sum h' ≤ R.slots + S0 → ai_exec n d X f pc als st h = some (r, h') →
    ai_L sb N0 q.2.2.1 als ls → ai_P N0 D cA h H → va_S (fun x => N0 ≤ x) s.heap H locs → cells + L0 = h.1.length → slots + S0 = ai_sum h →
    (∀ (pcr : Nat) (lsr : Array Slot) (Hr : Heap) (locsr : List Loc) (k n : Nat), ai_ro q pcr r → ai_P N0 D cA h' Hr → va_S (fun x => N0 ≤ x) s.heap Hr locsr → k + L0 = h'.1.length → n + S0 = ai_sum h' → W p l e R s m args below meth c Hr locsr k n Q (F0 m pcr lsr (r.toList.map (ai_cv sb N0)))) →
    W p l e R s m args below meth c H locs cells slots Q (F0 m pc ls (st.map (ai_cv sb N0)))
def ai_SimM (l : Launch) (n : Nat) : Prop :=
  ∀ (d g : Nat) (q : ai_M) (av : List Value) (h : ai_H) (r : Option Value) (h' : ai_H) (D : va_G) (cA : Nat → ClassId) (sb N0 mc ms : Nat), ai_mt[g]? = some q → g < 162 → ai_c1 av = true → av.length ≤ q.2.2.1 → ai_exec n d (0, fun _ => 0) g 0 (ai_ent av (ai_ml g)) [] h = some (r, h') →
    mc + h.1.length = h'.1.length → ms + ai_sum h = ai_sum h' → Met l q.1 (ai_yw q) (ai_rm d mc ms) (ai_Pc sb N0 D cA h av) (ai_Qc sb N0 D cA h' r) mc ms (fun x => N0 ≤ x)
theorem ai_take {g : Nat} {q : ai_M} (h : ai_mt[g]? = some q) (hg : g < 162) : q ∈ ai_mt.take 162 := by
  refine List.mem_of_getElem? (i := g) ?_
  rw [List.getElem?_take, if_pos hg]
  exact h
theorem ai_mt_b {g : Nat} {q : ai_M} (h : ai_mt[g]? = some q) (hg : g < 162) : ai_mtb q = true := List.all_eq_true.mp ai_mtb_ok _ (ai_take h hg)
theorem ai_code_in {g : Nat} {q : ai_M} (h : ai_mt[g]? = some q) (hg : g < 162) : Cond.code q.1 q.2.1 q.2.2.1 q.2.2.2.1 ∈ ai_ws := by
  have h3 : Cond.code q.1 q.2.1 q.2.2.1 q.2.2.2.1 ∈ (ai_mt.take 162).flatMap ai_mw := List.mem_flatMap.mpr ⟨_, ai_take h hg, List.mem_singleton.mpr rfl⟩
  unfold ai_ws
  simp only [List.mem_append]
  exact Or.inl h3
theorem ai_good {g : Nat} {q : ai_M} (h : ai_mt[g]? = some q) (hg : g < 162) : GoodIn ai_ws (ai_yw q) := by
  intro w hw
  have hin : w ∈ ai_ws := by
    rcases List.mem_cons.mp hw with rfl | hw
    · exact ai_code_in h hg
    · exact hw
  exact ⟨hin, good_of_word (ai_ws_good w hin)⟩
theorem ai_ent_L {sb N0 ml : Nat} {av : List Value} (hc : ai_c1 av = true) (hl : av.length ≤ ml) : ai_L sb N0 ml (ai_ent av ml) ((lg_sl (av.map (ai_cv sb N0)) ++ List.replicate (ml - (lg_sl (av.map (ai_cv sb N0))).length) Slot.unset).toArray) := by
  have hsl : lg_sl (av.map (ai_cv sb N0)) = (av.map (ai_cv sb N0)).map Slot.val := by
    unfold lg_sl
    clear hl
    induction av with
    | nil => rfl
    | cons v av ih =>
      unfold ai_c1 at hc
      rw [List.all_cons, Bool.and_eq_true] at hc
      have h1 : v.category = 1 := by simpa using hc.1
      rw [List.map_cons, List.flatMap_cons, ih hc.2, List.map_cons, ai_cv_cat, if_neg (by omega)]
      rfl
  have hlen : (lg_sl (av.map (ai_cv sb N0))).length = av.length := by rw [hsl, List.length_map, List.length_map]
  have hE := lv_entry (av.map (ai_cv sb N0)) (n := ml) (by rw [hlen]; exact hl)
  refine ⟨hE.1, hE.2.1, by unfold ai_ent; simp; omega, fun i v e hcat => ?_⟩
  have hi : i < av.length := by
    apply Nat.lt_of_not_le
    intro hge
    unfold ai_ent at e
    rw [List.getElem?_append_right hge] at e
    have h9 := List.eq_of_mem_replicate (List.mem_of_getElem? e)
    rw [h9] at hcat
    cases hcat
  unfold ai_ent at e
  rw [List.getElem?_append_left hi] at e
  rw [List.getElem?_toArray, List.getElem?_append_left (by rw [hlen]; exact hi), hsl, List.getElem?_map, List.getElem?_map, e]
  rfl
theorem ai_G.moved {D : va_G} {cA : Nat → ClassId} {s U : State} (hW : s.WarmedH U.vm) (h : ai_G D cA s) : ai_G D cA U := by
  refine ⟨va_K.moved hW.alike h.1, fun w hw => ?_, va_AO.moved hW.alike h.2.2.1, va_AO.moved hW.alike h.2.2.2.1, ?_⟩
  · have h1 := h.2.1 w hw
    obtain ⟨x, hx, hw⟩ := List.mem_flatMap.mp hw
    unfold ai_nl at hw
    split at hw
    · rw [List.mem_singleton] at hw
      subst hw
      exact va_Nw.warmM hW h1
    · cases hw
  · exact Jvm.Stand.arrayOver_alikeB hW.alike h.2.2.2.2
theorem ai_G.same {D : va_G} {cA : Nat → ClassId} {s U : State} (hv : s.vm = U.vm) (h : ai_G D cA s) : ai_G D cA U := by
  have al : s.vm.Alike U.vm := by rw [hv]; exact Vm.Alike.refl _
  refine ⟨va_K.moved al h.1, fun w hw => ?_, va_AO.moved al h.2.2.1, va_AO.moved al h.2.2.2.1, Jvm.Stand.arrayOver_alikeB al h.2.2.2.2⟩
  have h1 := h.2.1 w hw
  obtain ⟨x, hx, hw⟩ := List.mem_flatMap.mp hw
  unfold ai_nl at hw
  split at hw
  · rw [List.mem_singleton] at hw
    subst hw
    exact va_Nw.same rfl hv h1
  · cases hw
theorem ai_inv_inv {g pc k : Nat} {op a b : Nat} {v : Int32} {tb : List Nat} {nx : Nat} (h : ai_inv g pc k = some (op, a, b, v, tb, nx)) : ∃ q', ai_mt[g]? = some q' ∧ q'.2.2.2.2 = k ∧ a = g ∧ nx = pc + 3 ∧ (k = 1 → op = 37 ∧ b = ai_nargs q'.1) ∧ (k ≠ 1 → op = 37 + (if k = 0 then 1 else 2) ∧ b = ai_nargs q'.1 + 1 ∧ tb = [ai_cno q'.1.cls]) := by
  unfold ai_inv at h
  obtain ⟨q', hq, hr⟩ := ai_bind_inv h
  split at hr
  · rename_i hk
    split at hr
    · rename_i h1
      cases hr
      exact ⟨q', hq, hk, rfl, rfl, fun _ => ⟨rfl, rfl⟩, fun hn => absurd h1 hn⟩
    · rename_i h1
      cases hr
      exact ⟨q', hq, hk, rfl, rfl, fun hn => absurd hn h1, fun _ => ⟨rfl, rfl, rfl⟩⟩
  · cases hr
set_option maxRecDepth 100000 in
theorem ai_lt_162 : ai_lt.all (fun e => decide (e.2.2 < 162)) = true := by decide +kernel
set_option maxRecDepth 100000 in
theorem ai_nt_162 : ai_nt.all (fun e => decide (e.2.2 < 162)) = true := by decide +kernel
theorem ai_call_ok {own : String} {i g : Nat} (h : ai_call own i = some g) : g < 162 ∧ ∀ w ∈ ai_lw (own, i, g), w ∈ ai_ws := by
  have h1 : (own, i, g) ∈ ai_lt := ai_find_in h
  refine ⟨of_decide_eq_true (List.all_eq_true.mp ai_lt_162 _ h1), fun w hw => ?_⟩
  have h3 : w ∈ ai_lt.flatMap ai_lw := List.mem_flatMap.mpr ⟨_, h1, hw⟩
  unfold ai_ws
  simp only [List.mem_append]
  exact Or.inr (Or.inl h3)
theorem ai_ncall_ok {own : String} {i g : Nat} (h : ai_ncall own i = some g) : g < 162 ∧ (∀ w ∈ ai_nw (own, i, g), w ∈ ai_ws) ∧ ∀ w ∈ ai_nl (own, i, g), w ∈ ai_nt.flatMap ai_nl := by
  have h1 : (own, i, g) ∈ ai_nt := ai_find_in h
  refine ⟨of_decide_eq_true (List.all_eq_true.mp ai_nt_162 _ h1), fun w hw => ?_, fun w hw => List.mem_flatMap.mpr ⟨_, h1, hw⟩⟩
  have h3 : w ∈ ai_nt.flatMap ai_nw := List.mem_flatMap.mpr ⟨_, h1, hw⟩
  unfold ai_ws
  simp only [List.mem_append]
  exact Or.inr (Or.inr (Or.inl h3))
section AIMET
variable {p : Program} {l : Launch} {e : Env} {R : Room} {s : State} {m : MethodId} {args : Array Value} {below : List Frame} {meth : Method} {c : Code} {Q : State → Prop}
variable {q : ai_M} {D : va_G} {cA : Nat → ClassId} {sb N0 L0 S0 d : Nat} {X : ai_X}
/-- behind a call -/
theorem ai_goon {H : Heap} {locs : List Loc} {cells slots mc ms pc : Nat} {ls : Array Slot} {rest st0 : List Value} {A0 : Nat → Prop} {H0 : Heap} {free : Addr → Prop} {Qa : State → Outcome → State → Prop} {v0 : Option Value} {B : Heap → Prop}
    (hr : va_Run p l e R s m args below meth c H locs cells slots mc ms (F0 m pc ls st0) rest Qa free) (hS : va_S A0 H0 H locs) (hf : ∀ q, free q → A0 q) (hQ : ∀ st oc t, Qa st oc t → oc = .returned v0 ∧ B t.heap ∧ va_F A0 st t)
    (kk : ∀ (H1 : Heap) (locs1 : List Loc), B H1 → va_S A0 H0 H1 locs1 → W p l e R s m args below meth c H1 locs1 (cells + mc) (slots + ms) Q (F0 m (pc + 3) ls (v0.toList ++ rest))) : W p l e R s m args below meth c H locs cells slots Q (F0 m pc ls st0) := by
  intro T hT X
  obtain ⟨v, st₀, t, T', L, h0, X', hL, e1, e2, hq, st⟩ := hr T hT X
  obtain ⟨hv, hb, hz, hk⟩ := hQ _ _ _ hq
  have hv : v = v0 := Outcome.returned.inj hv
  subst hv
  rw [h0] at hz hk
  obtain ⟨t2, a1, b1⟩ := kk T'.heap (locs ++ L) (by rw [e1]; exact hb) ⟨Nat.le_trans hS.1 (by rw [e1]; exact hz), fun q h1 h2 => by rw [e1, hk q (Nat.lt_of_lt_of_le h1 hS.1) h2]; exact hS.2.1 q h1 h2, fun q hq => by
      rcases List.mem_append.mp hq with h | h
      · exact hS.2.2 q h
      · exact hf _ (hL q h)⟩ T' rfl X'
  exact ⟨t2, st t2 a1, b1⟩
theorem ai_blind (sb N0 : Nat) (D : va_G) (cA : Nat → ClassId) (h : ai_H) (av : List Value) : FrameBlind (ai_Pc sb N0 D cA h av) := fun a U g mk qh => ⟨qh.1, qh.2.1, ai_G.same (s := U) (U := U.calling g mk a) rfl qh.2.2⟩
end AIMET
