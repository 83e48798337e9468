/-! one step of the small machine is a step of the machine -/
theorem ai_inv_op {g pc k : Nat} {op a b : Nat} {v : Int32} {tb : List Nat} {nx : Nat} (h : ai_inv g pc k = some (op, a, b, v, tb, nx)) : 37 ≤ op ∧ op ≤ 39 := by
  unfold ai_inv at h
  obtain ⟨w, hw, hr⟩ := ai_bind_inv h
  split at hr
  · split at hr
    · cases hr; omega
    · cases hr; split <;> omega
  · cases hr
theorem ai_res_inv {y : MethodName} {ret : Option FieldType} {pc len : Nat} {i : Instr} {op a b : Nat} {v : Int32} {tb : List Nat} {nx : Nat} (h : ai_res y ret pc i len = some (op, a, b, v, tb, nx))
    (hi : (∃ n, i = .invokestatic n) ∨ (∃ n, i = .invokevirtual n) ∨ ∃ n, i = .invokespecial n) : 37 ≤ op ∧ op ≤ 41 := by
  rcases hi with ⟨n, rfl⟩ | ⟨n, rfl⟩ | ⟨n, rfl⟩
  · simp only [ai_res] at h
    split at h
    · obtain ⟨h1, he⟩ := ai_g_inv h; cases he; omega
    · split at h
      · split at h
        · have := ai_inv_op h; omega
        · obtain ⟨w, hw, hr⟩ := ai_bind_inv h
          have := ai_inv_op hr; omega
      · cases h
  · simp only [ai_res] at h
    split at h
    · obtain ⟨w, hw, hr⟩ := ai_bind_inv h
      have := ai_inv_op hr; omega
    · cases h
  · simp only [ai_res] at h
    split at h
    · obtain ⟨h1, he⟩ := ai_g_inv h; cases he; omega
    · split at h
      · split at h
        · have := ai_inv_op h; omega
        · obtain ⟨w, hw, hr⟩ := ai_bind_inv h
          have := ai_inv_op hr; omega
      · cases h
section AIS
variable {p : Program} {l : Launch} {e : Env} {R : Room} {s : State} {m : MethodId} {args : Array Value} {below : List Frame} {meth : Method} {c : Code} {Q : State → Prop}
variable {q : ai_M} {D : va_G} {cA : Nat → ClassId} {sb N0 L0 S0 d : Nat} {X : ai_X}
/-- what the machine must do behind a step: for every state that stands for (pc', als', st', h') -/
def ai_K (p : Program) (l : Launch) (e : Env) (R : Room) (s : State) (m : MethodId) (args : Array Value) (below : List Frame) (meth : Method) (c : Code) (Q : State → Prop) (q : ai_M) (D : va_G) (cA : Nat → ClassId) (sb N0 L0 S0 : Nat) (o : Nat × List Value × List Value × ai_H) : Prop :=
  ∀ (ls : Array Slot) (H : Heap) (locs : List Loc) (cells slots : Nat), ai_L sb N0 q.2.2.1 o.2.1 ls → ai_P N0 D cA o.2.2.2 H → va_S (fun x => N0 ≤ x) s.heap H locs → cells + L0 = o.2.2.2.1.length → slots + S0 = ai_sum o.2.2.2 →
    W p l e R s m args below meth c H locs cells slots Q (F0 m o.1 ls (o.2.2.1.map (ai_cv sb N0)))
theorem ai_len {len n : Nat} (h : (len == n) = true) : len = n := by simpa using h
theorem ai_one1 (C : ai_Cx p s m args meth c q D cA) {i : Instr} {len pc op a b : Nat} {v : Int32} {tb : List Nat} {nx : Nat} (hd : decode q.2.1 pc = .ok (i, len)) (hr : ai_res q.1 q.2.2.2.1 pc i len = some (op, a, b, v, tb, nx)) (hop : op ≤ 10)
    {als st : List Value} {h : ai_H} {o : Nat × List Value × List Value × ai_H} (hs : ai_st1 op a b v nx als st h = some (.inl o)) (kk : ai_K p l e R s m args below meth c Q q D cA sb N0 L0 S0 o)
    {ls : Array Slot} {H : Heap} {locs : List Loc} {cells slots : Nat} (hl : ai_L sb N0 q.2.2.1 als ls) (hP : ai_P N0 D cA h H) (hS : va_S (fun x => N0 ≤ x) s.heap H locs) (hc : cells + L0 = h.1.length) (hz : slots + S0 = ai_sum h) :
    W p l e R s m args below meth c H locs cells slots Q (F0 m pc ls (st.map (ai_cv sb N0))) := by
  obtain ⟨hx, hb, hml, hown, hts, hnm, hG⟩ := C
  cases i with
  | iconst n =>
    obtain ⟨h1, he⟩ := ai_g_inv hr; cases he; obtain rfl := ai_len h1
    simp only [ai_st1, reduceIte, Nat.reduceEqDiff, Nat.reduceEqDiff, reduceCtorEq, if_false, Nat.one_ne_zero, Nat.succ_ne_zero] at hs; cases hs
    exact lv_iconst hx hb hd rfl (kk _ _ _ _ _ hl hP hS hc hz)
  | bipush n =>
    obtain ⟨h1, he⟩ := ai_g_inv hr; cases he; obtain rfl := ai_len h1
    simp only [ai_st1, reduceIte, Nat.reduceEqDiff, Nat.reduceEqDiff, reduceCtorEq, if_false, Nat.one_ne_zero, Nat.succ_ne_zero] at hs; cases hs
    exact lv_bipush hx hb hd rfl (kk _ _ _ _ _ hl hP hS hc hz)
  | sipush n =>
    obtain ⟨h1, he⟩ := ai_g_inv hr; cases he; obtain rfl := ai_len h1
    simp only [ai_st1, reduceIte, Nat.reduceEqDiff, Nat.reduceEqDiff, reduceCtorEq, if_false, Nat.one_ne_zero, Nat.succ_ne_zero] at hs; cases hs
    exact lv_sipush hx hb hd rfl (kk _ _ _ _ _ hl hP hS hc hz)
  | ldc n =>
    obtain ⟨w, hw, hr⟩ := ai_bind_inv hr
    obtain ⟨h1, he⟩ := ai_g_inv hr; cases he; obtain rfl := ai_len h1
    simp only [ai_st1, reduceIte, Nat.reduceEqDiff, Nat.reduceEqDiff, reduceCtorEq, if_false, Nat.one_ne_zero, Nat.succ_ne_zero] at hs; cases hs
    exact lv_ldc hx hb hown (hts _ (ai_con_ok hw)) hd (kk _ _ _ _ _ hl hP hS hc hz)
  | iload_n k =>
    obtain ⟨h1, he⟩ := ai_g_inv hr; cases he; obtain rfl := ai_len h1
    simp only [ai_st1, reduceIte, Nat.reduceEqDiff, Nat.reduceEqDiff, reduceCtorEq, if_false, Nat.one_ne_zero, Nat.succ_ne_zero] at hs
    split at hs
    · rename_i x hx1; cases hs
      exact lv_iload_n hx hb hd rfl (hl.at hx1 rfl) (kk _ _ _ _ _ hl hP hS hc hz)
    · cases hs
  | iload k =>
    obtain ⟨h1, he⟩ := ai_g_inv hr; cases he; obtain rfl := ai_len h1
    simp only [ai_st1, reduceIte, Nat.reduceEqDiff, Nat.reduceEqDiff, reduceCtorEq, if_false, Nat.one_ne_zero, Nat.succ_ne_zero] at hs
    split at hs
    · rename_i x hx1; cases hs
      exact lv_iload hx hb hd (hl.at hx1 rfl) (kk _ _ _ _ _ hl hP hS hc hz)
    · cases hs
  | aload_n k =>
    obtain ⟨h1, he⟩ := ai_g_inv hr; cases he; obtain rfl := ai_len h1
    simp only [ai_st1, reduceIte, Nat.reduceEqDiff, Nat.reduceEqDiff, reduceCtorEq, if_false, Nat.one_ne_zero, Nat.succ_ne_zero] at hs
    split at hs
    · rename_i x hx1; cases hs
      exact lv_aload_n hx hb hd rfl (hl.at hx1 rfl) (kk _ _ _ _ _ hl hP hS hc hz)
    · rename_i hx1; cases hs
      exact lv_aload_nN hx hb hd rfl (hl.at hx1 rfl) (kk _ _ _ _ _ hl hP hS hc hz)
    · rename_i x hx1; cases hs
      exact lv_aload_n hx hb hd rfl (hl.at hx1 rfl) (kk _ _ _ _ _ hl hP hS hc hz)
    · cases hs
  | aload k =>
    obtain ⟨h1, he⟩ := ai_g_inv hr; cases he; obtain rfl := ai_len h1
    simp only [ai_st1, reduceIte, Nat.reduceEqDiff, Nat.reduceEqDiff, reduceCtorEq, if_false, Nat.one_ne_zero, Nat.succ_ne_zero] at hs
    split at hs
    · rename_i x hx1; cases hs
      exact lv_aload hx hb hd (hl.at hx1 rfl) (kk _ _ _ _ _ hl hP hS hc hz)
    · rename_i hx1; cases hs
      exact lv_aloadN hx hb hd (hl.at hx1 rfl) (kk _ _ _ _ _ hl hP hS hc hz)
    · rename_i x hx1; cases hs
      exact lv_aload hx hb hd (hl.at hx1 rfl) (kk _ _ _ _ _ hl hP hS hc hz)
    · cases hs
  | istore_n k =>
    obtain ⟨h1, he⟩ := ai_g_inv hr; cases he; obtain rfl := ai_len h1
    simp only [ai_st1, reduceIte, Nat.reduceEqDiff, Nat.reduceEqDiff, reduceCtorEq, if_false, Nat.one_ne_zero, Nat.succ_ne_zero] at hs
    split at hs
    · split at hs
      · rename_i hlt; cases hs
        exact lv_istore_n hx hb hd rfl hl.has (by rw [← hl.2.2.1]; exact hlt) rfl (fun ls' h' => kk _ _ _ _ _ (hl.set (w := .int _) h') hP hS hc hz)
      · cases hs
    · cases hs
  | istore k =>
    obtain ⟨h1, he⟩ := ai_g_inv hr; cases he; obtain rfl := ai_len h1
    simp only [ai_st1, reduceIte, Nat.reduceEqDiff, Nat.reduceEqDiff, reduceCtorEq, if_false, Nat.one_ne_zero, Nat.succ_ne_zero] at hs
    split at hs
    · split at hs
      · rename_i hlt; cases hs
        exact lv_istore hx hb hd hl.has (by rw [← hl.2.2.1]; exact hlt) rfl (fun ls' h' => kk _ _ _ _ _ (hl.set (w := .int _) h') hP hS hc hz)
      · cases hs
    · cases hs
  | astore_n k =>
    obtain ⟨h1, he⟩ := ai_g_inv hr; cases he; obtain rfl := ai_len h1
    simp only [ai_st1, reduceIte, Nat.reduceEqDiff, Nat.reduceEqDiff, reduceCtorEq, if_false, Nat.one_ne_zero, Nat.succ_ne_zero] at hs
    split at hs
    · split at hs
      · rename_i hlt; cases hs
        exact lv_astore_n hx hb hd rfl hl.has (by rw [← hl.2.2.1]; exact hlt) rfl (fun ls' h' => kk _ _ _ _ _ (hl.set (w := .ref _) h') hP hS hc hz)
      · cases hs
    · split at hs
      · rename_i hlt; cases hs
        exact lv_astore_nN hx hb hd rfl hl.has (by rw [← hl.2.2.1]; exact hlt) rfl (fun ls' h' => kk _ _ _ _ _ (hl.set (w := .null) h') hP hS hc hz)
      · cases hs
    · cases hs
  | astore k =>
    obtain ⟨h1, he⟩ := ai_g_inv hr; cases he; obtain rfl := ai_len h1
    simp only [ai_st1, reduceIte, Nat.reduceEqDiff, Nat.reduceEqDiff, reduceCtorEq, if_false, Nat.one_ne_zero, Nat.succ_ne_zero] at hs
    split at hs
    · split at hs
      · rename_i hlt; cases hs
        exact lv_astore hx hb hd hl.has (by rw [← hl.2.2.1]; exact hlt) rfl (fun ls' h' => kk _ _ _ _ _ (hl.set (w := .ref _) h') hP hS hc hz)
      · cases hs
    · split at hs
      · rename_i hlt; cases hs
        exact lv_astoreN hx hb hd hl.has (by rw [← hl.2.2.1]; exact hlt) rfl (fun ls' h' => kk _ _ _ _ _ (hl.set (w := .null) h') hP hS hc hz)
      · cases hs
    · cases hs
  | iinc k n =>
    obtain ⟨h1, he⟩ := ai_g_inv hr; cases he; obtain rfl := ai_len h1
    simp only [ai_st1, reduceIte, Nat.reduceEqDiff, Nat.reduceEqDiff, reduceCtorEq, if_false, Nat.one_ne_zero, Nat.succ_ne_zero] at hs
    split at hs
    · rename_i x hx1; cases hs
      obtain ⟨z, hz1⟩ := List.getElem?_of_mem (ai_lv_mem (sb := sb) (N0 := N0) hx1 rfl)
      exact lv_iinc hx hb hd hl.has hz1 rfl (by rw [← hl.2.2.1]; exact (List.getElem?_eq_some_iff.mp hx1).1) rfl (fun ls' h' => kk _ _ _ _ _ (hl.set (w := .int _) h') hP hS hc hz)
    · cases hs
  | iadd =>
    obtain ⟨h1, he⟩ := ai_g_inv hr; cases he; obtain rfl := ai_len h1
    simp only [ai_st1, reduceIte, Nat.reduceEqDiff, Nat.reduceEqDiff, reduceCtorEq, if_false, Nat.one_ne_zero, Nat.succ_ne_zero] at hs
    split at hs
    · cases hs; exact lv_iadd hx hb hd (kk _ _ _ _ _ hl hP hS hc hz)
    · cases hs
  | isub =>
    obtain ⟨h1, he⟩ := ai_g_inv hr; cases he; obtain rfl := ai_len h1
    simp only [ai_st1, reduceIte, Nat.reduceEqDiff, Nat.reduceEqDiff, reduceCtorEq, if_false, Nat.one_ne_zero, Nat.succ_ne_zero] at hs
    split at hs
    · cases hs; exact lv_isub hx hb hd (kk _ _ _ _ _ hl hP hS hc hz)
    · cases hs
  | imul =>
    obtain ⟨h1, he⟩ := ai_g_inv hr; cases he; obtain rfl := ai_len h1
    simp only [ai_st1, reduceIte, Nat.reduceEqDiff, Nat.reduceEqDiff, reduceCtorEq, if_false, Nat.one_ne_zero, Nat.succ_ne_zero] at hs
    split at hs
    · cases hs; exact lv_imul hx hb hd (kk _ _ _ _ _ hl hP hS hc hz)
    · cases hs
  | iand =>
    obtain ⟨h1, he⟩ := ai_g_inv hr; cases he; obtain rfl := ai_len h1
    simp only [ai_st1, reduceIte, Nat.reduceEqDiff, Nat.reduceEqDiff, reduceCtorEq, if_false, Nat.one_ne_zero, Nat.succ_ne_zero] at hs
    split at hs
    · cases hs; exact lv_iand hx hb hd (kk _ _ _ _ _ hl hP hS hc hz)
    · cases hs
  | ishl =>
    obtain ⟨h1, he⟩ := ai_g_inv hr; cases he; obtain rfl := ai_len h1
    simp only [ai_st1, reduceIte, Nat.reduceEqDiff, Nat.reduceEqDiff, reduceCtorEq, if_false, Nat.one_ne_zero, Nat.succ_ne_zero] at hs
    split at hs
    · cases hs; exact lv_ishl hx hb hd (kk _ _ _ _ _ hl hP hS hc hz)
    · cases hs
  | ishr =>
    obtain ⟨h1, he⟩ := ai_g_inv hr; cases he; obtain rfl := ai_len h1
    simp only [ai_st1, reduceIte, Nat.reduceEqDiff, Nat.reduceEqDiff, reduceCtorEq, if_false, Nat.one_ne_zero, Nat.succ_ne_zero] at hs
    split at hs
    · cases hs; exact lv_ishr hx hb hd (kk _ _ _ _ _ hl hP hS hc hz)
    · cases hs
  | ixor =>
    obtain ⟨h1, he⟩ := ai_g_inv hr; cases he; obtain rfl := ai_len h1
    simp only [ai_st1, reduceIte, Nat.reduceEqDiff, Nat.reduceEqDiff, reduceCtorEq, if_false, Nat.one_ne_zero, Nat.succ_ne_zero] at hs
    split at hs
    · cases hs; exact lv_ixor hx hb hd (kk _ _ _ _ _ hl hP hS hc hz)
    · cases hs
  | idiv =>
    obtain ⟨h1, he⟩ := ai_g_inv hr; cases he; obtain rfl := ai_len h1
    simp only [ai_st1, reduceIte, Nat.reduceEqDiff, Nat.reduceEqDiff, reduceCtorEq, if_false, Nat.one_ne_zero, Nat.succ_ne_zero] at hs
    split at hs
    · split at hs
      · cases hs
      · rename_i h0; cases hs; exact lv_idiv hx hb hd h0 (kk _ _ _ _ _ hl hP hS hc hz)
    · cases hs
  | irem =>
    obtain ⟨h1, he⟩ := ai_g_inv hr; cases he; obtain rfl := ai_len h1
    simp only [ai_st1, reduceIte, Nat.reduceEqDiff, Nat.reduceEqDiff, reduceCtorEq, if_false, Nat.one_ne_zero, Nat.succ_ne_zero] at hs
    split at hs
    · split at hs
      · cases hs
      · rename_i h0; cases hs; exact lv_irem hx hb hd h0 (kk _ _ _ _ _ hl hP hS hc hz)
    · cases hs
  | ineg =>
    obtain ⟨h1, he⟩ := ai_g_inv hr; cases he; obtain rfl := ai_len h1
    simp only [ai_st1, reduceIte, Nat.reduceEqDiff, Nat.reduceEqDiff, reduceCtorEq, if_false, Nat.one_ne_zero, Nat.succ_ne_zero] at hs
    split at hs
    · cases hs; exact lv_ineg hx hb hd (kk _ _ _ _ _ hl hP hS hc hz)
    · cases hs
  | i2c =>
    obtain ⟨h1, he⟩ := ai_g_inv hr; cases he; obtain rfl := ai_len h1
    simp only [ai_st1, reduceIte, Nat.reduceEqDiff, Nat.reduceEqDiff, reduceCtorEq, if_false, Nat.one_ne_zero, Nat.succ_ne_zero] at hs
    split at hs
    · cases hs; exact lv_i2c hx hb hd rfl (kk _ _ _ _ _ hl hP hS hc hz)
    · cases hs
  | dup | dup_x1 | dup_x2 | dup2 | pop | aconst_null | iaload | caload | aaload | iastore | castore | aastore | arraylength => 
    obtain ⟨h1, he⟩ := ai_g_inv hr; cases he; omega
  | goto o | if_icmp c o | ifCond c o | ifnull o | ifnonnull o =>
    obtain ⟨w, hw, hr⟩ := ai_bind_inv hr
    obtain ⟨h1, he⟩ := ai_g_inv hr; cases he; omega
  | getfield n | putfield n =>
    obtain ⟨w, hw, hr⟩ := ai_bind_inv hr
    obtain ⟨h1, he⟩ := ai_g_inv hr
    cases he
    split at hop <;> omega
  | new n =>
    obtain ⟨w, hw, hr⟩ := ai_bind_inv hr
    obtain ⟨w, hw, hr⟩ := ai_bind_inv hr
    obtain ⟨h1, he⟩ := ai_g_inv hr; cases he; omega
  | newarray t =>
    simp only [ai_res] at hr
    split at hr
    · obtain ⟨h1, he⟩ := ai_g_inv hr; cases he; omega
    · split at hr
      · obtain ⟨h1, he⟩ := ai_g_inv hr; cases he; omega
      · cases hr
  | anewarray n =>
    obtain ⟨w, hw, hr⟩ := ai_bind_inv hr
    split at hr
    · obtain ⟨h1, he⟩ := ai_g_inv hr; cases he; omega
    · split at hr
      · obtain ⟨h1, he⟩ := ai_g_inv hr; cases he; omega
      · cases hr
  | multianewarray n k =>
    obtain ⟨w, hw, hr⟩ := ai_bind_inv hr
    obtain ⟨h1, he⟩ := ai_g_inv hr; cases he; omega
  | ireturn | areturn | return_ =>
    simp only [ai_res] at hr
    repeat (split at hr; · (obtain ⟨h1, he⟩ := ai_g_inv hr; cases he; omega))
    cases hr
  | tableswitch df lo hi os =>
    obtain ⟨w, hw, hr⟩ := ai_bind_inv hr
    obtain ⟨w, hw, hr⟩ := ai_bind_inv hr
    obtain ⟨h1, he⟩ := ai_g_inv hr; cases he; omega
  | invokestatic n => exact absurd hop (by have := ai_res_inv hr (Or.inl ⟨n, rfl⟩); omega)
  | invokevirtual n => exact absurd hop (by have := ai_res_inv hr (Or.inr (Or.inl ⟨n, rfl⟩)); omega)
  | invokespecial n => exact absurd hop (by have := ai_res_inv hr (Or.inr (Or.inr ⟨n, rfl⟩)); omega)
  | _ => exact absurd hr (by simp [ai_res])
end AIS
