/-! the claim out of a run of the small machine on the law -/
def lw_P (b : Addr) (xs : List Int32) (args : Array Value) (s : State) : Prop := args = #[.ref b] ∧ s.IntsAt b xs ∧ xs.length ≤ 3072 ∧ (Jvm.Cond.and given_1 narrow_1).before args s = true
def lw_Q (_ : Array Value) (s : State) (o : Outcome) (t : State) : Prop := o = .returned (some (.int 1)) ∧ Framed s o t [] 600000 7302250
def lw_Z (below : List Frame) (a : Array Value) (s : State) : State → Prop := fun t => ∃ o, t.status = .running ∧ Ended t below o ∧ lw_Q a s o t
/-- the law's own end, with 1 on the stack, nothing written that was there before, its room as the claim has it -/
theorem lw_ret {p : Program} {l : Launch} {e : Env} {s : State} {m : MethodId} {below : List Frame} {meth : Method} {c : Code} {b : Nat} (hx : p.tables.exec = Jvm.exec) (hb : c.code = code) (hr : meth.sig.returnType = ret) (hlocks : meth.locks = false) {pc : Nat} {H : Heap} {ls : Array Slot} (hdg : decode code pc = .ok (.ireturn, 1)) : W p l e room_1 s m #[Value.ref b] below meth c H [] 600000 7302250 (lw_Z below #[Value.ref b] s) (F0 m pc ls [.int 1]) := by
  intro T hT X
  obtain ⟨fs, hret, hrun, hended, hW, hframe⟩ := X.leave (v := some (.int 1)) (hlocks := hlocks) (fun h => by rw [hr] at h; cases h)
  have hmeth' : T.vm.method? m = some meth := X.method'
  refine ⟨T.setFrames fs, ?_, .returned (some (.int 1)), hrun, hended, rfl, ⟨_, rfl⟩, hW, hframe⟩
  jvm_step X.here [X.here.top, hx, hb, hdg, hmeth', hr, ret, narrow_b1]
  (try refine ⟨rfl, ?_⟩); (try refine ⟨rfl, ?_⟩)
  first | (intro acts; rw [hret _ acts rfl rfl rfl]) | rw [hret _ _ rfl rfl rfl]
  exact Steps.refl _
/-- what holds at the law's entry: the machine, the code, the tables' words (any of lw_tbl by 'hts w (by decide +kernel)'), the script of L ints xs at the cell b, what the Statement gives of the start (any of its parts by flat_of_before) -/
def lw_At (p : Program) (s : State) (m : MethodId) (meth : Method) (c : Code) (b L : Nat) (xs : Nat → Int32) : Prop :=
  p.tables.exec = Jvm.exec ∧ c.code = code ∧ meth.sig.returnType = ret ∧ c.maxLocals = 4 ∧ s.vm.findClass R_law = some m.cls ∧ (∀ w ∈ lw_tbl, w.before #[Value.ref b] s = true) ∧ va_X b L xs s s.heap ∧ b < s.heap.size ∧ meth.locks = false ∧ (Jvm.Cond.and given_1 narrow_1).before #[Value.ref b] s = true
/-- what is owed of the small machine: on every script its run of the law ends with 1, within the room -/
def ai_Law : Prop := ∀ (L : Nat) (xs : Nat → Int32), L ≤ 3072 → ∃ (n : Nat) (h' : ai_H), ai_exec n 60 (L + 1, xs) 162 0 (ai_ent [.retAddr 0] 4) [] ([], fun _ _ => 0, fun _ _ => 0) = some (some (.int 1), h') ∧ h'.1.length ≤ 600000 ∧ ai_sum h' ≤ 7302250
theorem ai_arr {s : State} {args : Array Value} (hts : ∀ w ∈ lw_tbl, w.before args s = true) : ∃ cA : Nat → ClassId, (∀ (k : Nat) (q : ClassId × FieldType), (ai_tys cA)[k]? = some q → ArrOfT s q.1 q.2 ∧ va_RA s q.1 q.2) := by
  have hov := ai_pls ai_over_pl
  have w1 : (Cond.arrayClass .int).before args s = true := hts _ (ai_ws_in _ (ai_misc_in _ (by decide +kernel)))
  have w2 : (Cond.arrayClass .char).before args s = true := hts _ (ai_ws_in _ (ai_misc_in _ (by decide +kernel)))
  have w3 : (Cond.arrayOver (.object RX3)).before args s = true := hts _ (hov _ (by simp [ai_over]))
  have w4 : (Cond.arrayOver (.object RX4)).before args s = true := hts _ (hov _ (by simp [ai_over]))
  have w5 : (Cond.arrayOver (.array .int)).before args s = true := hts _ (hov _ (by simp [ai_over]))
  obtain ⟨c9, k9, p9, n9, e9, f9⟩ := Cond.arrayClass_spec w1
  obtain ⟨c8, k8, p8, n8, e8, f8⟩ := Cond.arrayClass_spec w2
  obtain ⟨p10, c10, k10, m10, -, e10, f10, n10⟩ := Cond.arrayOver_spec w3
  obtain ⟨p11, c11, k11, m11, -, e11, f11, n11⟩ := Cond.arrayOver_spec w4
  obtain ⟨p12, c12, k12, m12, -, e12, f12, n12⟩ := arrayOverA_spec w5
  refine ⟨fun k => if k = 8 then c8 else if k = 9 then c9 else if k = 10 then c10 else if k = 11 then c11 else c12, fun k q hq => ?_⟩
  match k, hq with
  | 0, hq => cases hq; exact ⟨fun n z => ⟨fun k h => (by cases h), k8, e8, p8, f8⟩, n8⟩
  | 1, hq => cases hq; exact ⟨fun n z => ⟨fun k h => (by cases h), k9, e9, p9, f9⟩, n9⟩
  | 2, hq => cases hq; exact ⟨fun n z => ⟨fun k h => (by cases h), k10, e10, p10, f10⟩, k10, p10, e10, f10, m10, n10⟩
  | 3, hq => cases hq; exact ⟨fun n z => ⟨fun k h => (by cases h), k11, e11, p11, f11⟩, k11, p11, e11, f11, m11, n11⟩
  | 4, hq => cases hq; exact ⟨fun n z => ⟨fun k h => (by cases h), k12, e12, p12, f12⟩, n12⟩
  | k + 5, hq => simp [ai_tys] at hq
set_option maxHeartbeats 4000000 in
set_option maxRecDepth 100000 in
theorem ai_top (hlaw : ai_Law) {p : Program} {e : Env} {s : State} {m : MethodId} {below : List Frame} {meth : Method} {c : Code} (l : Launch) {b L : Nat} {xs : Nat → Int32} (hL : L ≤ 3072) (C0 : lw_At p s m meth c b L xs) : W p l e room_1 s m #[Value.ref b] below meth c s.heap [] 0 0 (lw_Z below #[Value.ref b] s) (entryFrame m ([Value.ref b] : List Value).toArray 4) := by
  obtain ⟨hx, hb, hr, hml, hown, hts, hX, hbl, hlocks, hgv⟩ := id C0
  obtain ⟨n, h', hex, hc, hz⟩ := hlaw L xs hL
  have hts2 : ∀ w ∈ ai_ws, w.before #[Value.ref b] s = true := fun w hw => hts w (ai_ws_in w hw)
  have hkn : ∀ (k : Nat) (q : vw_C), vwCl[k]? = some q → ∃ (cC : ClassId) (iS : Nat → Nat), u_Kn s q.1 q.2.1 q.2.2 cC iS := fun k q hq => u_known hts2 (ai_cl_in hq).1 (hts2 _ (ai_cl_in hq).2.1)
  obtain ⟨D, hD⟩ : ∃ D : va_G, ∀ (k : Nat) (q : vw_C), vwCl[k]? = some q → u_Kn s q.1 q.2.1 q.2.2 (D.1 k) (D.2 k) := by
    have h1 : ∀ k : Nat, ∃ (cC : ClassId) (iS : Nat → Nat), ∀ q : vw_C, vwCl[k]? = some q → u_Kn s q.1 q.2.1 q.2.2 cC iS := fun k => by
      cases hk : vwCl[k]? with
      | none => exact ⟨0, fun _ => 0, fun q h => by cases h⟩
      | some q =>
        obtain ⟨cC, iS, h⟩ := hkn k q hk
        exact ⟨cC, iS, fun q' h' => by cases h'; exact h⟩
    exact ⟨(fun k => Classical.choose (h1 k), fun k => Classical.choose (Classical.choose_spec (h1 k))), fun k q hq => Classical.choose_spec (Classical.choose_spec (h1 k)) q hq⟩
  obtain ⟨cA, hcA⟩ := ai_arr hts
  have hov := ai_pls ai_over_pl
  have hG : ai_G D cA s := by
    refine ⟨⟨hD, hcA⟩, fun w hw => ?_, hts (.arrayOver (.object RX3)) (hov _ (by simp [ai_over])), hts (.arrayOver (.object RX4)) (hov _ (by simp [ai_over])), hts (.arrayOver (.array .int)) (hov _ (by simp [ai_over]))⟩
    have h1 := hts w (ai_pls ai_nl_pl w hw)
    obtain ⟨x, hx9, hw⟩ := List.mem_flatMap.mp hw
    unfold ai_nl at hw
    split at hw
    · rw [List.mem_singleton] at hw
      subst hw
      exact va_Nw.of rfl h1
    · cases hw
  have hmt : ai_mt[162]? = some (⟨RL, "law", "([I)Z"⟩, code, 4, some .boolean, 1) := rfl
  have hL0 := ai_ent_L (sb := b) (N0 := s.heap.size) (ml := 4) (av := [.retAddr 0]) rfl (by decide)
  rw [lg_entry_eq]
  refine ai_simW l n p e room_1 s m #[Value.ref b] below meth c _ _ D cA b s.heap.size 0 0 60 (L + 1, xs) 162 0 _ [] _ _ h' _ s.heap [] 0 0 ⟨hx, hb, hml, hown, hts2, fun h => (by exact absurd h (by decide)), hG⟩ hmt (Or.inr ⟨hX, hbl, hbl⟩) (Nat.le_refl _) ⟨Nat.le_of_ble_eq_true rfl, Nat.le_of_ble_eq_true rfl⟩ (by show _ ≤ 600000 + 0; omega) (by show _ ≤ 7302250 + 0; omega) hex hL0 ⟨rfl, fun a kd n h => by simp at h⟩ va_S.rf rfl rfl ?_
  intro pcr lsr Hr locsr k9 n9 hro hP hS hk hn
  rcases hro with ⟨x, hx1, hd, -⟩ | ⟨hrr, -, -⟩ | ⟨hrr, -, -⟩
  · cases hx1
    refine va_forget hS.2.2 ?_
    refine W.widen (k := 600000) (n := 7302250) (by omega) (by omega) ?_
    exact lw_ret hx hb hr hlocks hd
  · rcases hrr with h9 | ⟨a, h9⟩ <;> cases h9
  · cases hrr
