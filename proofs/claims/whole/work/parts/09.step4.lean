/-! steps: making cells, Object(), arraycopy -/
theorem ai_c1_sum {sb N0 : Nat} {st : List Value} (h : ai_c1 st = true) : ((st.map (ai_cv sb N0)).map fun v => v.category).sum = st.length := by
  induction st with
  | nil => rfl
  | cons v st ih =>
    unfold ai_c1 at h
    rw [List.all_cons, Bool.and_eq_true] at h
    have h1 : v.category = 1 := by simpa using h.1
    rw [List.map_cons, List.map_cons, List.sum_cons, ih h.2, ai_cv_cat, h1, List.length_cons, Nat.add_comm]
theorem ai_sum_push (K : List (Nat × Nat)) (x : Nat × Nat) (MI MI' : Nat → Nat → Int32) (MR MR' : Nat → Nat → Nat) : ai_sum (K ++ [x], MI', MR') = ai_sum (K, MI, MR) + x.2 := by
  simp [ai_sum]
theorem ai_sum_rep (K : List (Nat × Nat)) (x y : Nat × Nat) (n : Nat) (MI MI' : Nat → Nat → Int32) (MR MR' : Nat → Nat → Nat) : ai_sum ((K ++ [x]) ++ List.replicate n y, MI', MR') = ai_sum (K, MI, MR) + x.2 + n * y.2 := by
  simp [ai_sum]
  omega
theorem ai_vr_outer (c : ClassId) (N h0 : Nat) : ∀ i : Nat, Jvm.Free.Multi.outerC c N h0 i = arrV c N (fun j => va_rf (if j < i then some (h0 + 1 + j) else none))
  | 0 => by
    show ({ cls := c, slots := Array.replicate N .null, vm := .none } : Cell) = _
    rw [arrV_new]
    refine congrArg (arrV c N) (funext fun j => ?_)
    simp [va_rf]
  | i + 1 => by
    show (Jvm.Free.Multi.outerC c N h0 i).setSlot i (.ref (h0 + 1 + i)) = _
    rw [ai_vr_outer c N h0 i, arrV_store]
    refine congrArg (arrV c N) (funext fun j => ?_)
    by_cases e : j = i
    · subst e
      simp [updV, va_rf]
    · by_cases h : j < i
      · simp [updV, e, h, Nat.lt_succ_of_lt h]
      · simp [updV, e, h, show ¬ j < i + 1 by omega]
theorem ai_ot_in {own : String} {n : Nat} (h : ai_ot.contains (own, n) = true) : Cond.methodLink own n objectInit ∈ ai_ws := by
  have h1 : (own, n) ∈ ai_ot := by simpa using h
  have h3 : Cond.methodLink own n objectInit ∈ ai_ot.flatMap (fun e => [Cond.methodLink e.1 e.2 objectInit]) := List.mem_flatMap.mpr ⟨_, h1, List.mem_singleton.mpr rfl⟩
  unfold ai_ws
  simp only [List.mem_append]
  exact Or.inr (Or.inr (Or.inr (Or.inr (Or.inr (Or.inr (Or.inr (Or.inl h3)))))))
theorem ai_pt_in {own : String} {n : Nat} (h : ai_pt.contains (own, n) = true) : Cond.methodLink own n arraycopyName ∈ ai_ws := by
  have h1 : (own, n) ∈ ai_pt := by simpa using h
  have h3 : Cond.methodLink own n arraycopyName ∈ ai_pt.flatMap (fun e => [Cond.methodLink e.1 e.2 arraycopyName]) := List.mem_flatMap.mpr ⟨_, h1, List.mem_singleton.mpr rfl⟩
  unfold ai_ws
  simp only [List.mem_append]
  exact Or.inr (Or.inr (Or.inr (Or.inr (Or.inr (Or.inr (Or.inr (Or.inr (Or.inl h3))))))))
theorem ai_fs_zero {k : Nat} {r : vw_C} (h : vwCl[k]? = some r) (N0 : Nat) : ∀ j, j < r.2.2 → defaultValue (ai_ty r j) = vp_V (ai_fs N0 k (fun _ => 0) (fun _ => 0)) j := by
  intro j hj
  unfold vp_V
  rw [List.getD_eq_getElem?_getD, ai_fs_get h hj]
  cases e : ai_isref k j with
  | true => rcases ai_ty_ref h hj e with ⟨n, e9⟩ | ⟨t, e9⟩ <;> rw [e9] <;> rfl
  | false => rcases ai_ty_int h hj e with e9 | ⟨e9, -⟩ <;> rw [e9] <;> rfl
theorem ai_nn (z : Int32) (hz : ¬ z < 0) : z.toInt = (z.toNatClampNeg : Int) := by
  have hz0 : (0 : Int) ≤ z.toInt := by
    have := Int32.not_lt.mp hz
    simpa using Int32.le_iff_toInt_le.mp this
  show z.toInt = ((z.toInt.toNat : Nat) : Int)
  omega
section AIS4
variable {p : Program} {l : Launch} {e : Env} {R : Room} {s : State} {m : MethodId} {args : Array Value} {below : List Frame} {meth : Method} {c : Code} {Q : State → Prop}
variable {q : ai_M} {D : va_G} {cA : Nat → ClassId} {sb N0 L0 S0 d : Nat} {X : ai_X}

/-- new T[n][k] of ints -/
theorem ai_mna (hx : p.tables.exec = Jvm.exec) (hb : c.code = q.2.1) (hown : s.vm.findClass q.1.cls = some m.cls) (hts : ∀ w ∈ ai_ws, w.before args s = true) (hG : ai_G D cA s)
    {index pc : Nat} {n k : Int32} {rest : List Value} {h : ai_H} {H : Heap} {locs : List Loc} {cells slots : Nat} {ls : Array Slot} (hlink : Cond.classLink q.1.cls index "[[I" ∈ ai_ws) (hn : ¬ n < 0) (hk : ¬ k < 0) (hn1 : n.toNatClampNeg ≤ 1000) (hk1 : k.toNatClampNeg ≤ 1000)
    (hP : ai_P N0 D cA h H) (hS : va_S (fun x => N0 ≤ x) s.heap H locs) (hcells : cells + (1 + n.toNatClampNeg) ≤ R.cells) (hslots : slots + (n.toNatClampNeg + n.toNatClampNeg * k.toNatClampNeg) ≤ R.slots) (hd : decode q.2.1 pc = .ok (.multianewarray index 2, 4))
    (kk : ∀ (H1 : Heap), ai_P N0 D cA ((h.1 ++ [(12, n.toNatClampNeg)]) ++ List.replicate n.toNatClampNeg (9, k.toNatClampNeg), (fun q j => if h.1.length ≤ q then 0 else h.2.1 q j), (fun q j => if q = h.1.length then (if j < n.toNatClampNeg then h.1.length + 1 + j + 1 else 0) else if h.1.length ≤ q then 0 else h.2.2 q j)) H1 → va_S (fun x => N0 ≤ x) s.heap H1 locs →
      W p l e R s m args below meth c H1 locs (cells + 1 + n.toNatClampNeg) (slots + n.toNatClampNeg + n.toNatClampNeg * k.toNatClampNeg) Q (F0 m (pc + 4) ls (.ref (N0 + h.1.length) :: rest))) : W p l e R s m args below meth c H locs cells slots Q (F0 m pc ls (.int k :: .int n :: rest)) := by
  intro T hT Xs
  have hi1 : Cond.arrayClass .int ∈ ai_ws := ai_misc_in _ (by decide +kernel)
  obtain ⟨vm₁, cA', comp, -, fA, fC, hO, -, X', step⟩ := Xs.multianewarray2F hx (ty := .int) hown (hts _ hlink) (show (Cond.arrayOver (.array .int)).before args s = true from hG.2.2.2.2) (hts _ hi1) (g := F0 m pc ls (.int k :: .int n :: rest)) rfl (by rw [hb]; exact hd) rfl hn hk (by omega) (by show k.toNatClampNeg * 4 ≤ 536870912; omega) (by omega) rfl rfl hcells hslots
  have eA : cA' = cA 12 := Option.some.inj (fA.symm.trans (hG.1.2 4 _ rfl).2)
  have eC : comp = cA 9 := Option.some.inj (fC.symm.trans (hG.1.2 1 _ rfl).2)
  subst eA
  subst eC
  generalize hF : Jvm.Free.Multi.fill (T.setVm vm₁) (cA 12) (cA 9) n.toNatClampNeg k.toNatClampNeg (defaultValue .int) n.toNatClampNeg = F at X' step
  have hTh : (T.setVm vm₁).heap = H := hT
  obtain ⟨f1, f2, -, -⟩ := Jvm.Free.Multi.fill_facts (T.setVm vm₁) (cA 12) (cA 9) n.toNatClampNeg k.toNatClampNeg (defaultValue .int) n.toNatClampNeg
  rw [hF, hTh] at f1 f2
  have hold : ∀ x : Nat, x < H.size → F.heap[x]? = H[x]? := fun x hx => by
    have := Jvm.Free.Multi.fill_old (T.setVm vm₁) (cA 12) (cA 9) n.toNatClampNeg k.toNatClampNeg (defaultValue .int) (a := x) (by rw [hTh]; exact hx) n.toNatClampNeg
    rw [hF, hTh] at this
    exact this
  have hrow : ∀ j : Nat, j < n.toNatClampNeg → F.heap[H.size + 1 + j]? = some (arrV (cA 9) k.toNatClampNeg (fun _ => .int 0)) := fun j hj => by
    have := Jvm.Free.Multi.fill_inner (T.setVm vm₁) (cA 12) (cA 9) n.toNatClampNeg k.toNatClampNeg (defaultValue .int) n.toNatClampNeg j hj
    rw [hF, hTh] at this
    rw [this]
    exact congrArg some (arrV_new _ _ _)
  rw [ai_vr_outer] at f2
  have hz := hP.1
  have hP1 : ai_P N0 D cA ((h.1 ++ [(12, n.toNatClampNeg)]) ++ List.replicate n.toNatClampNeg (9, k.toNatClampNeg), (fun q j => if h.1.length ≤ q then 0 else h.2.1 q j), (fun q j => if q = h.1.length then (if j < n.toNatClampNeg then h.1.length + 1 + j + 1 else 0) else if h.1.length ≤ q then 0 else h.2.2 q j)) F.heap := by
    refine ⟨by rw [f1, hz]; simp; omega, fun a kd n' ha => ?_⟩
    dsimp only at ha ⊢
    by_cases h1 : a < h.1.length
    · rw [List.append_assoc, List.getElem?_append_left h1] at ha
      have r1 : (fun j => if h.1.length ≤ a then (0 : Int32) else h.2.1 a j) = h.2.1 a := funext fun j => if_neg (by omega)
      have r2 : (fun j => if a = h.1.length then (if j < n.toNatClampNeg then h.1.length + 1 + j + 1 else 0) else if h.1.length ≤ a then 0 else h.2.2 a j) = h.2.2 a := funext fun j => by rw [if_neg (by omega), if_neg (by omega)]
      rw [r1, r2]
      exact ⟨(hP.2 _ _ _ ha).1.kept (hold _ (by show N0 + a < H.size; omega)), (hP.2 _ _ _ ha).2⟩
    · by_cases h2 : a = h.1.length
      · subst h2
        rw [List.append_assoc, List.getElem?_append_right (Nat.le_refl _), Nat.sub_self] at ha
        cases ha
        refine ⟨?_, by omega⟩
        show F.heap[N0 + h.1.length]? = some (arrV (cA 12) n.toNatClampNeg (fun j => va_rf (ai_rn N0 (if h.1.length = h.1.length then (if j < n.toNatClampNeg then h.1.length + 1 + j + 1 else 0) else if h.1.length ≤ h.1.length then 0 else h.2.2 h.1.length j))))
        rw [← hz, f2]
        refine congrArg some (congrArg (arrV (cA 12) n.toNatClampNeg) (funext fun j => ?_))
        rw [if_pos rfl]
        by_cases h3 : j < n.toNatClampNeg
        · simp only [if_pos h3, hz]
          exact congrArg Value.ref (show N0 + h.1.length + 1 + j = N0 + (h.1.length + 1 + j) by omega)
        · simp only [if_neg h3]
          rfl
      · rw [List.getElem?_append_right (by simp; omega)] at ha
        have hlt : a - (h.1 ++ [(12, n.toNatClampNeg)]).length < n.toNatClampNeg := by
          have := (List.getElem?_eq_some_iff.mp ha).1
          simpa using this
        rw [List.getElem?_replicate, if_pos hlt] at ha
        cases ha
        refine ⟨?_, by omega⟩
        have r1 : (fun j => if h.1.length ≤ a then (0 : Int32) else h.2.1 a j) = fun _ => 0 := funext fun j => if_pos (by omega)
        rw [r1]
        show F.heap[N0 + a]? = some (arrV (cA 9) k.toNatClampNeg (fun _ => .int 0))
        have h4 := hrow _ hlt
        have e4 : H.size + 1 + (a - (h.1 ++ [(12, n.toNatClampNeg)]).length) = N0 + a := by simp; omega
        rw [e4] at h4
        exact h4
  obtain ⟨t, a1, b1⟩ := kk F.heap hP1 (ai_S.grow hS (by rw [f1]; omega) hold) F rfl X'
  refine ⟨t, step t ?_, b1⟩
  have e9 : T.heap.size = N0 + h.1.length := by rw [hT]; exact hz
  rw [e9]
  exact a1
/-- System.arraycopy between rows of ints -/
theorem ai_cpy (hx : p.tables.exec = Jvm.exec) (hb : c.code = q.2.1) (hml : c.maxLocals = q.2.2.1) (hown : s.vm.findClass q.1.cls = some m.cls) (hts : ∀ w ∈ ai_ws, w.before args s = true) (hG : ai_G D cA s)
    {index pc : Nat} {rest : List Value} {h : ai_H} {H : Heap} {locs : List Loc} {cells slots : Nat} {ls : Array Slot} (hls : ls.size = q.2.2.1) (hlink : Cond.methodLink q.1.cls index arraycopyName ∈ ai_ws)
    {q0 q1 n0 n1 : Nat} {sp dp n : Int32} (ha0 : h.1[q0]? = some (9, n0)) (ha1 : h.1[q1]? = some (9, n1)) (h1 : ¬ sp < 0) (h2 : ¬ dp < 0) (h3 : ¬ n < 0) (h4 : sp.toNatClampNeg + n.toNatClampNeg ≤ n0) (h5 : dp.toNatClampNeg + n.toNatClampNeg ≤ n1)
    (hP : ai_P N0 D cA h H) (hS : va_S (fun x => N0 ≤ x) s.heap H locs) (hframes : 1 ≤ R.frames) (hlocals : (rest.map fun v => v.category).sum + 56 ≤ R.locals) (hd : decode q.2.1 pc = .ok (.invokestatic index, 3))
    (kk : ∀ (H1 : Heap) (locs1 : List Loc), ai_P N0 D cA (h.1, (fun q j => if q = q1 ∧ dp.toNatClampNeg ≤ j ∧ j < dp.toNatClampNeg + n.toNatClampNeg then h.2.1 q0 (sp.toNatClampNeg + (j - dp.toNatClampNeg)) else h.2.1 q j), h.2.2) H1 → va_S (fun x => N0 ≤ x) s.heap H1 locs1 →
      W p l e R s m args below meth c H1 locs1 cells slots Q (F0 m (pc + 3) ls rest)) : W p l e R s m args below meth c H locs cells slots Q (F0 m pc ls (.int n :: .int dp :: .ref (N0 + q1) :: .int sp :: .ref (N0 + q0) :: rest)) := by
  intro T hT Xs
  have h56 : nativeFrameWords "java/lang/System" "arraycopy" 5 + 11 ≤ 56 := by decide +kernel
  have w1 := hts _ (ai_misc_in (.native arraycopyName) (by decide +kernel))
  have w2 := hts _ (ai_misc_in (.static arraycopyName) (by decide +kernel))
  have w3 := hts _ (ai_misc_in (.initialized "java/lang/System") (by decide +kernel))
  have hc0 : H[N0 + q0]? = some (vp_cell (cA 9) (n0, .inl (h.2.1 q0))) := (hP.2 _ _ _ ha0).1
  have hc1 : H[N0 + q1]? = some (vp_cell (cA 9) (n1, .inl (h.2.1 q1))) := (hP.2 _ _ _ ha1).1
  obtain ⟨-, k0, hk0, cm0, hkk0⟩ := (hG.1.2 1 _ rfl).1 n0 (fun j => .int (h.2.1 q0 j))
  obtain ⟨-, k1, hk1, cm1, hkk1⟩ := (hG.1.2 1 _ rfl).1 n1 (fun j => .int (h.2.1 q1 j))
  obtain ⟨vm', X', step⟩ := Xs.arraycopy hx hown (hts _ hlink) w1 w2 w3 (src := N0 + q0) (dst := N0 + q1) (cs := vp_cell (cA 9) (n0, .inl (h.2.1 q0))) (cd := vp_cell (cA 9) (n1, .inl (h.2.1 q1))) (srcPos := sp) (destPos := dp) (n := n) (by rw [hT]; exact hc0) (by rw [hT]; exact hc1)
    (fun _ h => by cases h) (fun _ h => by cases h) (fun h => by cases h) (fun h => by cases h) hk0 hk1 hkk0 hkk1 (by simp [refKind]) h1 h2 h3
    (by rw [ai_nn sp h1, ai_nn n h3]; show ¬ _ > ((arrV (cA 9) n0 (fun j => .int (h.2.1 q0 j))).slots.size : Int); rw [arrV_size]; omega)
    (by rw [ai_nn dp h2, ai_nn n h3]; show ¬ _ > ((arrV (cA 9) n1 (fun j => .int (h.2.1 q1 j))).slots.size : Int); rw [arrV_size]; omega)
    (fun vm₁ _ i hi => by
      have e : (vp_cell (cA 9) (n0, .inl (h.2.1 q0))).slots.getD (sp.toNatClampNeg + i) .null = .int (h.2.1 q0 (sp.toNatClampNeg + i)) := by
        show (arrV (cA 9) n0 (fun j => .int (h.2.1 q0 j))).slots.getD _ _ = _
        rw [Array.getD_eq_getD_getElem?, arrV_read _ _ (by omega)]
        rfl
      refine ⟨?_, ?_⟩
      · rw [e]
        rfl
      · rw [e]
        exact trivial)
    (g := F0 m pc ls (.int n :: .int dp :: .ref (N0 + q1) :: .int sp :: .ref (N0 + q0) :: rest)) rfl (by rw [hml]; exact hls) (rest := rest) rfl (by rw [hb]; exact hd) hframes (by show 2 * 0 + _ + _ ≤ _; omega)
  have e1 : copied (vp_cell (cA 9) (n0, .inl (h.2.1 q0))) (vp_cell (cA 9) (n1, .inl (h.2.1 q1))) sp dp n = vp_cell (cA 9) (n1, .inl (va_cpy (h.2.1 q0) (h.2.1 q1) sp.toNatClampNeg dp.toNatClampNeg n.toNatClampNeg)) := va_copied (fun z => .int z) (cA 9) (cA 9) (h.2.1 q0) (h.2.1 q1) h4
  rw [e1] at X' step
  have hl : N0 + q1 < H.size := (Array.getElem?_eq_some_iff.mp hc1).1
  generalize hcell : vp_cell (cA 9) (n1, .inl (va_cpy (h.2.1 q0) (h.2.1 q1) sp.toNatClampNeg dp.toNatClampNeg n.toNatClampNeg)) = cell at X' step
  have hheap : ((T.setVm vm').setCell (N0 + q1) cell).heap = H.setIfInBounds (N0 + q1) cell := by rw [← hT]; rfl
  have oq : ∀ x : Nat, x ≠ N0 + q1 → (H.setIfInBounds (N0 + q1) cell)[x]? = H[x]? := fun x hx => by simp [Array.getElem?_setIfInBounds, Ne.symm hx]
  have hself : (H.setIfInBounds (N0 + q1) cell)[N0 + q1]? = some cell := by simp [Array.getElem?_setIfInBounds, hl]
  have hP1 : ai_P N0 D cA (h.1, (fun q j => if q = q1 ∧ dp.toNatClampNeg ≤ j ∧ j < dp.toNatClampNeg + n.toNatClampNeg then h.2.1 q0 (sp.toNatClampNeg + (j - dp.toNatClampNeg)) else h.2.1 q j), h.2.2) (H.setIfInBounds (N0 + q1) cell) := by
    refine hP.put ha1 rfl (by simp) oq (fun a9 h9 => funext fun j => ?_) (fun _ _ => rfl) ?_
    · exact if_neg (fun hh => h9 hh.1)
    · show (H.setIfInBounds (N0 + q1) cell)[N0 + q1]? = some (vp_cell (cA 9) (n1, .inl (fun j => if q1 = q1 ∧ dp.toNatClampNeg ≤ j ∧ j < dp.toNatClampNeg + n.toNatClampNeg then h.2.1 q0 (sp.toNatClampNeg + (j - dp.toNatClampNeg)) else h.2.1 q1 j)))
      rw [hself, ← hcell]
      congr 4
      funext j
      simp [va_cpy]
  obtain ⟨t, a1, b1⟩ := kk _ _ hP1 ⟨by simp; exact hS.1, fun x g1 g2 => by
      rw [oq x (fun e => g2 (by rw [e]; exact Nat.le_add_right _ _))]
      exact hS.2.1 x g1 g2, fun x hq => by
      rcases List.mem_append.mp hq with h | h
      · exact hS.2.2 x h
      · obtain ⟨z, -, hz⟩ := List.mem_map.mp h
        rw [← hz]
        exact Nat.le_add_right _ _⟩ _ hheap X'
  exact ⟨t, step t a1, b1⟩
theorem ai_one4 (C : ai_Cx p s m args meth c q D cA) (hN : N0 ≤ s.heap.size) (hRd : d ≤ R.frames ∧ 64 * d ≤ R.locals) {i : Instr} {len pc op a b : Nat} {v : Int32} {tb : List Nat} {nx : Nat} (hd : decode q.2.1 pc = .ok (i, len)) (hr : ai_res q.1 q.2.2.2.1 pc i len = some (op, a, b, v, tb, nx)) (hop : 33 ≤ op ∧ op ≤ 36 ∨ op = 40 ∨ op = 41)
    {als st : List Value} {h : ai_H} {o : Nat × List Value × List Value × ai_H} (hs : ai_st4 d op a b tb nx als st h = some (.inl o)) (hRc : o.2.2.2.1.length ≤ R.cells + L0) (hRs : ai_sum o.2.2.2 ≤ R.slots + S0) (kk : ai_K p l e R s m args below meth c Q q D cA sb N0 L0 S0 o)
    {ls : Array Slot} {H : Heap} {locs : List Loc} {cells slots : Nat} (hl : ai_L sb N0 q.2.2.1 als ls) (hP : ai_P N0 D cA h H) (hS : va_S (fun x => N0 ≤ x) s.heap H locs) (hc : cells + L0 = h.1.length) (hz : slots + S0 = ai_sum h) :
    W p l e R s m args below meth c H locs cells slots Q (F0 m pc ls (st.map (ai_cv sb N0))) := by
  obtain ⟨hx, hb, hml, hown, hts, hnm, hG⟩ := C
  cases i with
  | new n =>
    obtain ⟨k, hw, hr⟩ := ai_bind_inv hr
    obtain ⟨r, hr1, hr⟩ := ai_bind_inv hr
    obtain ⟨h1, he⟩ := ai_g_inv hr; cases he; obtain rfl := ai_len h1
    simp only [ai_st4, reduceIte, Nat.reduceEqDiff, reduceCtorEq, if_false, Nat.one_ne_zero, Nat.succ_ne_zero] at hs
    cases hs
    have hcl := ai_cl_in hr1
    have hKn := hG.1.1 a _ hr1
    dsimp only at hRc hRs
    rw [List.length_append, List.length_singleton] at hRc
    rw [ai_sum_push h.1 (a, r.2.2) h.2.1 _ h.2.2 _] at hRs
    have es : ai_sum (h.1, h.2.1, h.2.2) = ai_sum h := rfl
    dsimp only at hRs
    refine W.newcK hx hb hown (hts _ ((ai_kls_in hw).1 r hr1)) (hts _ hcl.2.1) (hts _ hcl.2.2) rfl hd (by omega) (by omega) hKn.2.1 rfl fun H1 kC hkC e1 z1 o1 => ?_
    have hP1 : ai_P N0 D cA (h.1 ++ [(a, r.2.2)], ai_z h.2.1 h.1.length 0, ai_z h.2.2 h.1.length 0) H1 := by
      refine hP.push (Nat.le_of_lt (Nat.lt_trans (ai_k8 hr1) (by omega))) rfl z1 o1 (fun a9 h9 => ai_z_other _ _ _ (by omega)) (fun a9 h9 => ai_z_other _ _ _ (by omega)) ?_
      dsimp only
      rw [ai_z_same, ai_z_same, ai_E_obj N0 cA _ _ _ (ai_k8 hr1), ← hP.1]
      exact ⟨_, hr1, (u_born (ai_ty r) hts hcl.1 hKn hkC e1 (ai_ty_ok hr1)).to (ai_fs_zero hr1 N0)⟩
    have k0 := kk ls H1 locs (cells + 1) (slots + r.2.2) hl hP1 (ai_S.grow hS (by omega) o1) (by dsimp only; rw [List.length_append, List.length_singleton]; omega) (by dsimp only; rw [ai_sum_push h.1 (a, r.2.2) h.2.1 _ h.2.2 _]; dsimp only; omega)
    rw [hP.1]
    exact k0
  | newarray t =>
    simp only [ai_res] at hr
    split at hr
    · rename_i ht
      subst ht
      obtain ⟨h1, he⟩ := ai_g_inv hr; cases he; obtain rfl := ai_len h1
      simp only [ai_st4, reduceIte, Nat.reduceEqDiff, reduceCtorEq, if_false, Nat.one_ne_zero, Nat.succ_ne_zero] at hs
      split at hs
      · rename_i n st0
        split at hs
        · cases hs
        · rename_i hcnd
          cases hs
          have hn0 : ¬ n < 0 := fun z => hcnd (Or.inl z)
          have hn1 : n.toNatClampNeg ≤ 1000 := Nat.le_of_not_lt (fun z => hcnd (Or.inr z))
          dsimp only at hRc hRs
          rw [List.length_append, List.length_singleton] at hRc
          rw [ai_sum_push h.1 (9, n.toNatClampNeg) h.2.1 _ h.2.2 _] at hRs
          have es : ai_sum (h.1, h.2.1, h.2.2) = ai_sum h := rfl
          dsimp only at hRs
          refine va_newaK (atype := .int) hx hb (hts _ (ai_misc_in (.arrayClass .int) (by decide +kernel))) rfl hd rfl hn0 rfl (by show n.toNatClampNeg * 4 ≤ _; omega) (by omega) (by omega) rfl fun H1 cA' e1 z1 o1 hAr hNm => ?_
          have eA : cA' = cA 9 := Option.some.inj (hNm.symm.trans (hG.1.2 1 _ rfl).2)
          subst eA
          have hP1 : ai_P N0 D cA (h.1 ++ [(9, n.toNatClampNeg)], ai_z h.2.1 h.1.length 0, ai_z h.2.2 h.1.length 0) H1 := by
            refine hP.push (by omega) rfl z1 o1 (fun a9 h9 => ai_z_other _ _ _ (by omega)) (fun a9 h9 => ai_z_other _ _ _ (by omega)) ?_
            dsimp only
            rw [ai_z_same, ai_z_same, ← hP.1]
            exact e1
          have k0 := kk ls H1 locs (cells + 1) (slots + n.toNatClampNeg) hl hP1 (ai_S.grow hS (by omega) o1) (by dsimp only; rw [List.length_append, List.length_singleton]; omega) (by dsimp only; rw [ai_sum_push h.1 (9, n.toNatClampNeg) h.2.1 _ h.2.2 _]; dsimp only; omega)
          rw [hP.1]
          exact k0
      · cases hs
    · split at hr
      · rename_i ht
        subst ht
        obtain ⟨h1, he⟩ := ai_g_inv hr; cases he; obtain rfl := ai_len h1
        simp only [ai_st4, reduceIte, Nat.reduceEqDiff, reduceCtorEq, if_false, Nat.one_ne_zero, Nat.succ_ne_zero] at hs
        split at hs
        · rename_i n st0
          split at hs
          · cases hs
          · rename_i hcnd
            cases hs
            have hn0 : ¬ n < 0 := fun z => hcnd (Or.inl z)
            have hn1 : n.toNatClampNeg ≤ 1000 := Nat.le_of_not_lt (fun z => hcnd (Or.inr z))
            dsimp only at hRc hRs
            rw [List.length_append, List.length_singleton] at hRc
            rw [ai_sum_push h.1 (8, n.toNatClampNeg) h.2.1 _ h.2.2 _] at hRs
            have es : ai_sum (h.1, h.2.1, h.2.2) = ai_sum h := rfl
            dsimp only at hRs
            refine va_newaK (atype := .char) hx hb (hts _ (ai_misc_in (.arrayClass .char) (by decide +kernel))) rfl hd rfl hn0 rfl (by show n.toNatClampNeg * 2 ≤ _; omega) (by omega) (by omega) rfl fun H1 cA' e1 z1 o1 hAr hNm => ?_
            have eA : cA' = cA 8 := Option.some.inj (hNm.symm.trans (hG.1.2 0 _ rfl).2)
            subst eA
            have hP1 : ai_P N0 D cA (h.1 ++ [(8, n.toNatClampNeg)], ai_z h.2.1 h.1.length 0, ai_z h.2.2 h.1.length 0) H1 := by
              refine hP.push (by omega) rfl z1 o1 (fun a9 h9 => ai_z_other _ _ _ (by omega)) (fun a9 h9 => ai_z_other _ _ _ (by omega)) ?_
              dsimp only
              rw [ai_z_same, ai_z_same, ← hP.1]
              exact e1
            have k0 := kk ls H1 locs (cells + 1) (slots + n.toNatClampNeg) hl hP1 (ai_S.grow hS (by omega) o1) (by dsimp only; rw [List.length_append, List.length_singleton]; omega) (by dsimp only; rw [ai_sum_push h.1 (8, n.toNatClampNeg) h.2.1 _ h.2.2 _]; dsimp only; omega)
            rw [hP.1]
            exact k0
        · cases hs
      · cases hr
  | anewarray n =>
    obtain ⟨k, hw, hr⟩ := ai_bind_inv hr
    split at hr
    · rename_i hk3
      subst hk3
      obtain ⟨h1, he⟩ := ai_g_inv hr; cases he; obtain rfl := ai_len h1
      simp only [ai_st4, reduceIte, Nat.reduceEqDiff, reduceCtorEq, if_false, Nat.one_ne_zero, Nat.succ_ne_zero] at hs
      split at hs
      · rename_i n st0
        split at hs
        · cases hs
        · rename_i hcnd
          cases hs
          have hn0 : ¬ n < 0 := fun z => hcnd (Or.inl z)
          have hn1 : n.toNatClampNeg ≤ 1000 := Nat.le_of_not_lt (fun z => hcnd (Or.inr z))
          dsimp only at hRc hRs
          rw [List.length_append, List.length_singleton] at hRc
          rw [ai_sum_push h.1 (10, n.toNatClampNeg) h.2.1 _ h.2.2 _] at hRs
          have es : ai_sum (h.1, h.2.1, h.2.2) = ai_sum h := rfl
          dsimp only at hRs
          refine W.anew hx hb (C := RX3) hown (hts _ ((ai_kls_in hw).1 _ rfl)) (va_AO.use hG.2.2.1) rfl hd rfl hn0 (by omega) (by omega) (by omega) fun cA' kA comp f1 f2 f3 f4 => ?_
          have eA : cA' = cA 10 := by
            obtain ⟨kA9, comp9, k1, k2, k3, k4⟩ := (hG.1.2 2 _ rfl).2
            exact Option.some.inj (f1.symm.trans k4)
          subst eA
          generalize hH1 : H.push ({ cls := cA 10, slots := Array.replicate n.toNatClampNeg .null, vm := .none } : Cell) = H1
          have z1 : H1.size = H.size + 1 := by rw [← hH1, Array.size_push]
          have e1 : H1[H.size]? = some (arrV (cA 10) n.toNatClampNeg (fun _ => .null)) := by rw [← hH1, Array.getElem?_push_size, ← arrV_new]
          have o1 : ∀ x : Nat, x < H.size → H1[x]? = H[x]? := fun x hq => by rw [← hH1, Array.getElem?_push, if_neg (Nat.ne_of_lt hq)]
          have hP1 : ai_P N0 D cA (h.1 ++ [(10, n.toNatClampNeg)], ai_z h.2.1 h.1.length 0, ai_z h.2.2 h.1.length 0) H1 := by
            refine hP.push (by omega) rfl z1 o1 (fun a9 h9 => ai_z_other _ _ _ (by omega)) (fun a9 h9 => ai_z_other _ _ _ (by omega)) ?_
            dsimp only
            rw [ai_z_same, ai_z_same, ← hP.1]
            exact e1
          have k0 := kk ls H1 locs (cells + 1) (slots + n.toNatClampNeg) hl hP1 (ai_S.grow hS (by omega) o1) (by dsimp only; rw [List.length_append, List.length_singleton]; omega) (by dsimp only; rw [ai_sum_push h.1 (10, n.toNatClampNeg) h.2.1 _ h.2.2 _]; dsimp only; omega)
          rw [hP.1]
          exact k0
      · cases hs
    · split at hr
      · rename_i hk3
        subst hk3
        obtain ⟨h1, he⟩ := ai_g_inv hr; cases he; obtain rfl := ai_len h1
        simp only [ai_st4, reduceIte, Nat.reduceEqDiff, reduceCtorEq, if_false, Nat.one_ne_zero, Nat.succ_ne_zero] at hs
        split at hs
        · rename_i n st0
          split at hs
          · cases hs
          · rename_i hcnd
            cases hs
            have hn0 : ¬ n < 0 := fun z => hcnd (Or.inl z)
            have hn1 : n.toNatClampNeg ≤ 1000 := Nat.le_of_not_lt (fun z => hcnd (Or.inr z))
            dsimp only at hRc hRs
            rw [List.length_append, List.length_singleton] at hRc
            rw [ai_sum_push h.1 (11, n.toNatClampNeg) h.2.1 _ h.2.2 _] at hRs
            have es : ai_sum (h.1, h.2.1, h.2.2) = ai_sum h := rfl
            dsimp only at hRs
            refine W.anew hx hb (C := RX4) hown (hts _ ((ai_kls_in hw).1 _ rfl)) (va_AO.use hG.2.2.2.1) rfl hd rfl hn0 (by omega) (by omega) (by omega) fun cA' kA comp f1 f2 f3 f4 => ?_
            have eA : cA' = cA 11 := by
              obtain ⟨kA9, comp9, k1, k2, k3, k4⟩ := (hG.1.2 3 _ rfl).2
              exact Option.some.inj (f1.symm.trans k4)
            subst eA
            generalize hH1 : H.push ({ cls := cA 11, slots := Array.replicate n.toNatClampNeg .null, vm := .none } : Cell) = H1
            have z1 : H1.size = H.size + 1 := by rw [← hH1, Array.size_push]
            have e1 : H1[H.size]? = some (arrV (cA 11) n.toNatClampNeg (fun _ => .null)) := by rw [← hH1, Array.getElem?_push_size, ← arrV_new]
            have o1 : ∀ x : Nat, x < H.size → H1[x]? = H[x]? := fun x hq => by rw [← hH1, Array.getElem?_push, if_neg (Nat.ne_of_lt hq)]
            have hP1 : ai_P N0 D cA (h.1 ++ [(11, n.toNatClampNeg)], ai_z h.2.1 h.1.length 0, ai_z h.2.2 h.1.length 0) H1 := by
              refine hP.push (by omega) rfl z1 o1 (fun a9 h9 => ai_z_other _ _ _ (by omega)) (fun a9 h9 => ai_z_other _ _ _ (by omega)) ?_
              dsimp only
              rw [ai_z_same, ai_z_same, ← hP.1]
              exact e1
            have k0 := kk ls H1 locs (cells + 1) (slots + n.toNatClampNeg) hl hP1 (ai_S.grow hS (by omega) o1) (by dsimp only; rw [List.length_append, List.length_singleton]; omega) (by dsimp only; rw [ai_sum_push h.1 (11, n.toNatClampNeg) h.2.1 _ h.2.2 _]; dsimp only; omega)
            rw [hP.1]
            exact k0
        · cases hs
      · cases hr
  | multianewarray n dd =>
    obtain ⟨k, hw, hr⟩ := ai_bind_inv hr
    obtain ⟨h1, he⟩ := ai_g_inv hr
    cases he
    simp only [Bool.and_eq_true, beq_iff_eq] at h1
    obtain ⟨⟨rfl, rfl⟩, rfl⟩ := h1
    simp only [ai_st4, reduceIte, Nat.reduceEqDiff, reduceCtorEq, if_false, Nat.one_ne_zero, Nat.succ_ne_zero] at hs
    split at hs
    · rename_i k0 n0 st0
      split at hs
      · cases hs
      · rename_i hcnd
        cases hs
        have hn0 : ¬ n0 < 0 := fun z => hcnd (Or.inl z)
        have hn1 : n0.toNatClampNeg ≤ 1000 := Nat.le_of_not_lt (fun z => hcnd (Or.inr (Or.inl z)))
        have hk0 : ¬ k0 < 0 := fun z => hcnd (Or.inr (Or.inr (Or.inl z)))
        have hk1 : k0.toNatClampNeg ≤ 1000 := Nat.le_of_not_lt (fun z => hcnd (Or.inr (Or.inr (Or.inr z))))
        dsimp only at hRc hRs
        rw [List.length_append, List.length_append, List.length_singleton, List.length_replicate] at hRc
        rw [ai_sum_rep h.1 (12, n0.toNatClampNeg) (9, k0.toNatClampNeg) n0.toNatClampNeg h.2.1 _ h.2.2 _] at hRs
        have es : ai_sum (h.1, h.2.1, h.2.2) = ai_sum h := rfl
        dsimp only at hRs
        refine ai_mna hx hb hown hts hG ((ai_kls_in hw).2 rfl) hn0 hk0 hn1 hk1 hP hS (by omega) (by omega) hd fun H1 hP1 hS1 => ?_
        exact kk ls H1 locs _ _ hl hP1 hS1 (by dsimp only; rw [List.length_append, List.length_append, List.length_singleton, List.length_replicate]; omega) (by dsimp only; rw [ai_sum_rep h.1 (12, n0.toNatClampNeg) (9, k0.toNatClampNeg) n0.toNatClampNeg h.2.1 _ h.2.2 _]; dsimp only; omega)
    · cases hs
  | invokespecial n =>
    simp only [ai_res] at hr
    split at hr
    · rename_i hot
      obtain ⟨h1, he⟩ := ai_g_inv hr; cases he; obtain rfl := ai_len h1
      simp only [ai_st4, reduceIte, Nat.reduceEqDiff, reduceCtorEq, if_false, Nat.one_ne_zero, Nat.succ_ne_zero] at hs
      split at hs
      · rename_i a0 st0
        split at hs
        · cases hs
        · rename_i hcnd
          cases hs
          have hd0 : d ≠ 0 := fun z => hcnd (Or.inl z)
          have hc1 : ai_c1 st0 = true := by
            cases hcc : ai_c1 st0 with
            | true => rfl
            | false => exact absurd (Or.inr (Or.inl hcc)) hcnd
          have h8 : st0.length ≤ 8 := Nat.le_of_not_lt (fun z => hcnd (Or.inr (Or.inr z)))
          have k0 := kk _ _ _ _ _ hl hP hS hc hz
          refine W.objInit hx hb hown (hts _ (ai_ot_in hot)) (hts _ (ai_misc_in (.instanceMethod objectInit) (by decide +kernel))) (hts _ (ai_misc_in (.code objectInit ⟨#[0xb1]⟩ 1 none) (by decide +kernel))) rfl (by show ls.size = _; rw [hml]; exact hl.1) rfl hd (by omega) (by show 2 * 0 + ((st0.map (ai_cv sb N0)).map fun v => v.category).sum + 12 ≤ _; rw [ai_c1_sum hc1]; omega) k0
      · cases hs
    · split at hr
      · split at hr
        · have := ai_inv_op hr; omega
        · obtain ⟨w, hw, hr⟩ := ai_bind_inv hr
          have := ai_inv_op hr; omega
      · cases hr
  | invokestatic n =>
    simp only [ai_res] at hr
    split at hr
    · rename_i hot
      obtain ⟨h1, he⟩ := ai_g_inv hr; cases he; obtain rfl := ai_len h1
      simp only [ai_st4, reduceIte, Nat.reduceEqDiff, reduceCtorEq, if_false, Nat.one_ne_zero, Nat.succ_ne_zero] at hs
      split at hs
      · rename_i n0 dp q1 sp q0 st0
        split at hs
        · cases hs
        · rename_i hcnd
          split at hs
          · rename_i k0 m0 k1 m1 e0 e1
            split at hs
            · rename_i hall
              obtain ⟨rfl, rfl, g1, g2, g3, g4, g5⟩ := hall
              cases hs
              have hd0 : d ≠ 0 := fun z => hcnd (Or.inl z)
              have hc1 : ai_c1 st0 = true := by
                cases hcc : ai_c1 st0 with
                | true => rfl
                | false => exact absurd (Or.inr (Or.inl hcc)) hcnd
              have h8 : st0.length ≤ 8 := Nat.le_of_not_lt (fun z => hcnd (Or.inr (Or.inr z)))
              exact ai_cpy hx hb hml hown hts hG hl.1 (ai_pt_in hot) e0 e1 g1 g2 g3 g4 g5 hP hS (by omega) (by rw [ai_c1_sum hc1]; omega) hd fun H1 locs1 hP1 hS1 => kk ls H1 locs1 cells slots hl hP1 hS1 hc hz
            · cases hs
          · cases hs
      · cases hs
    · split at hr
      · split at hr
        · have := ai_inv_op hr; omega
        · obtain ⟨w, hw, hr⟩ := ai_bind_inv hr
          have := ai_inv_op hr; omega
      · cases hr
  | invokevirtual n =>
    simp only [ai_res] at hr
    split at hr
    · obtain ⟨w, hw, hr⟩ := ai_bind_inv hr
      have := ai_inv_op hr; omega
    · cases hr
  | iconst n =>
    obtain ⟨h1, he⟩ := ai_g_inv hr; cases he; omega
  | bipush n =>
    obtain ⟨h1, he⟩ := ai_g_inv hr; cases he; omega
  | sipush n =>
    obtain ⟨h1, he⟩ := ai_g_inv hr; cases he; omega
  | iload_n k =>
    obtain ⟨h1, he⟩ := ai_g_inv hr; cases he; omega
  | iload k =>
    obtain ⟨h1, he⟩ := ai_g_inv hr; cases he; omega
  | aload_n k =>
    obtain ⟨h1, he⟩ := ai_g_inv hr; cases he; omega
  | aload k =>
    obtain ⟨h1, he⟩ := ai_g_inv hr; cases he; omega
  | istore_n k =>
    obtain ⟨h1, he⟩ := ai_g_inv hr; cases he; omega
  | istore k =>
    obtain ⟨h1, he⟩ := ai_g_inv hr; cases he; omega
  | astore_n k =>
    obtain ⟨h1, he⟩ := ai_g_inv hr; cases he; omega
  | astore k =>
    obtain ⟨h1, he⟩ := ai_g_inv hr; cases he; omega
  | iinc k n =>
    obtain ⟨h1, he⟩ := ai_g_inv hr; cases he; omega
  | iadd =>
    obtain ⟨h1, he⟩ := ai_g_inv hr; cases he; omega
  | isub =>
    obtain ⟨h1, he⟩ := ai_g_inv hr; cases he; omega
  | imul =>
    obtain ⟨h1, he⟩ := ai_g_inv hr; cases he; omega
  | iand =>
    obtain ⟨h1, he⟩ := ai_g_inv hr; cases he; omega
  | ishl =>
    obtain ⟨h1, he⟩ := ai_g_inv hr; cases he; omega
  | ishr =>
    obtain ⟨h1, he⟩ := ai_g_inv hr; cases he; omega
  | ixor =>
    obtain ⟨h1, he⟩ := ai_g_inv hr; cases he; omega
  | idiv =>
    obtain ⟨h1, he⟩ := ai_g_inv hr; cases he; omega
  | irem =>
    obtain ⟨h1, he⟩ := ai_g_inv hr; cases he; omega
  | ineg =>
    obtain ⟨h1, he⟩ := ai_g_inv hr; cases he; omega
  | i2c =>
    obtain ⟨h1, he⟩ := ai_g_inv hr; cases he; omega
  | dup =>
    obtain ⟨h1, he⟩ := ai_g_inv hr; cases he; omega
  | dup_x1 =>
    obtain ⟨h1, he⟩ := ai_g_inv hr; cases he; omega
  | dup_x2 =>
    obtain ⟨h1, he⟩ := ai_g_inv hr; cases he; omega
  | dup2 =>
    obtain ⟨h1, he⟩ := ai_g_inv hr; cases he; omega
  | pop =>
    obtain ⟨h1, he⟩ := ai_g_inv hr; cases he; omega
  | aconst_null =>
    obtain ⟨h1, he⟩ := ai_g_inv hr; cases he; omega
  | iaload =>
    obtain ⟨h1, he⟩ := ai_g_inv hr; cases he; omega
  | caload =>
    obtain ⟨h1, he⟩ := ai_g_inv hr; cases he; omega
  | aaload =>
    obtain ⟨h1, he⟩ := ai_g_inv hr; cases he; omega
  | iastore =>
    obtain ⟨h1, he⟩ := ai_g_inv hr; cases he; omega
  | castore =>
    obtain ⟨h1, he⟩ := ai_g_inv hr; cases he; omega
  | aastore =>
    obtain ⟨h1, he⟩ := ai_g_inv hr; cases he; omega
  | arraylength =>
    obtain ⟨h1, he⟩ := ai_g_inv hr; cases he; omega
  | ldc n =>
    obtain ⟨w, hw, hr⟩ := ai_bind_inv hr
    obtain ⟨h1, he⟩ := ai_g_inv hr; cases he; omega
  | goto o =>
    obtain ⟨w, hw, hr⟩ := ai_bind_inv hr
    obtain ⟨h1, he⟩ := ai_g_inv hr; cases he; omega
  | if_icmp c o =>
    obtain ⟨w, hw, hr⟩ := ai_bind_inv hr
    obtain ⟨h1, he⟩ := ai_g_inv hr; cases he; omega
  | ifCond c o =>
    obtain ⟨w, hw, hr⟩ := ai_bind_inv hr
    obtain ⟨h1, he⟩ := ai_g_inv hr; cases he; omega
  | ifnull o =>
    obtain ⟨w, hw, hr⟩ := ai_bind_inv hr
    obtain ⟨h1, he⟩ := ai_g_inv hr; cases he; omega
  | ifnonnull o =>
    obtain ⟨w, hw, hr⟩ := ai_bind_inv hr
    obtain ⟨h1, he⟩ := ai_g_inv hr; cases he; omega
  | getfield n =>
    obtain ⟨w, hw, hr⟩ := ai_bind_inv hr
    obtain ⟨h1, he⟩ := ai_g_inv hr
    cases he
    split at hop <;> omega
  | putfield n =>
    obtain ⟨w, hw, hr⟩ := ai_bind_inv hr
    obtain ⟨h1, he⟩ := ai_g_inv hr
    cases he
    split at hop <;> omega
  | ireturn | areturn | return_ =>
    simp only [ai_res] at hr
    repeat (split at hr; · (obtain ⟨h1, he⟩ := ai_g_inv hr; cases he; omega))
    cases hr
  | tableswitch df lo hi os =>
    obtain ⟨w, hw, hr⟩ := ai_bind_inv hr
    obtain ⟨w, hw, hr⟩ := ai_bind_inv hr
    obtain ⟨h1, he⟩ := ai_g_inv hr; cases he; omega
  | _ => exact absurd hr (by simp [ai_res])
end AIS4
