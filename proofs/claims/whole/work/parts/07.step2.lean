/-! steps: the stack, branches, the switch -/
section AIS2
variable {p : Program} {l : Launch} {e : Env} {R : Room} {s : State} {m : MethodId} {args : Array Value} {below : List Frame} {meth : Method} {c : Code} {Q : State → Prop}
variable {q : ai_M} {D : va_G} {cA : Nat → ClassId} {sb N0 L0 S0 d : Nat} {X : ai_X}
theorem ai_c1_1 {x : Value} (h : ai_c1 [x] = true) : x.category = 1 := by simpa [ai_c1] using h
theorem ai_c1_2 {x y : Value} (h : ai_c1 [x, y] = true) : x.category = 1 ∧ y.category = 1 := by simpa [ai_c1] using h
theorem ai_c1_3 {x y z : Value} (h : ai_c1 [x, y, z] = true) : x.category = 1 ∧ y.category = 1 ∧ z.category = 1 := by simpa [ai_c1] using h
theorem ai_ts_get {pc : Nat} : ∀ {os : List Int} {ts : List Nat}, ai_ts pc os = some ts → os.length = ts.length ∧ ∀ (k t : Nat), ts[k]? = some t → ∃ o, os[k]? = some o ∧ (pc : Int) + o = (t : Int)
  | [], ts, h => by
    cases h
    exact ⟨rfl, fun k t h => by simp at h⟩
  | o :: os, ts, h => by
    obtain ⟨t0, h1, h2⟩ := ai_bind_inv h
    cases e : ai_ts pc os with
    | none => rw [e] at h2; cases h2
    | some ts' =>
      rw [e] at h2
      cases h2
      obtain ⟨g1, g2⟩ := ai_ts_get e
      refine ⟨by simp [g1], fun k t h => ?_⟩
      cases k with
      | zero => cases h; exact ⟨o, rfl, ai_t_inv h1⟩
      | succ k => exact g2 k t h
theorem ai_one2 (C : ai_Cx p s m args meth c q D cA) {i : Instr} {len pc op a b : Nat} {v : Int32} {tb : List Nat} {nx : Nat} (hd : decode q.2.1 pc = .ok (i, len)) (hr : ai_res q.1 q.2.2.2.1 pc i len = some (op, a, b, v, tb, nx)) (hop : 11 ≤ op ∧ op ≤ 21)
    {als st : List Value} {h : ai_H} {o : Nat × List Value × List Value × ai_H} (hs : ai_st2 op a b nx als st h = some (.inl o)) (kk : ai_K p l e R s m args below meth c Q q D cA sb N0 L0 S0 o)
    {ls : Array Slot} {H : Heap} {locs : List Loc} {cells slots : Nat} (hl : ai_L sb N0 q.2.2.1 als ls) (hP : ai_P N0 D cA h H) (hS : va_S (fun x => N0 ≤ x) s.heap H locs) (hc : cells + L0 = h.1.length) (hz : slots + S0 = ai_sum h) :
    W p l e R s m args below meth c H locs cells slots Q (F0 m pc ls (st.map (ai_cv sb N0))) := by
  obtain ⟨hx, hb, hml, hown, hts, hnm, hG⟩ := C
  cases i with
  | dup =>
    obtain ⟨h1, he⟩ := ai_g_inv hr; cases he; obtain rfl := ai_len h1
    simp only [ai_st2, reduceIte, Nat.reduceEqDiff, reduceCtorEq, if_false, Nat.one_ne_zero, Nat.succ_ne_zero] at hs
    split at hs
    · split at hs
      · rename_i hcc; cases hs
        exact lv_dup hx hb hd (by rw [ai_cv_cat]; exact ai_c1_1 hcc) (kk _ _ _ _ _ hl hP hS hc hz)
      · cases hs
    · cases hs
  | dup_x1 =>
    obtain ⟨h1, he⟩ := ai_g_inv hr; cases he; obtain rfl := ai_len h1
    simp only [ai_st2, reduceIte, Nat.reduceEqDiff, reduceCtorEq, if_false, Nat.one_ne_zero, Nat.succ_ne_zero] at hs
    split at hs
    · split at hs
      · rename_i hcc; cases hs
        exact lv_dup_x1 hx hb hd (by rw [ai_cv_cat]; exact (ai_c1_2 hcc).1) (by rw [ai_cv_cat]; exact (ai_c1_2 hcc).2) (kk _ _ _ _ _ hl hP hS hc hz)
      · cases hs
    · cases hs
  | dup_x2 =>
    obtain ⟨h1, he⟩ := ai_g_inv hr; cases he; obtain rfl := ai_len h1
    simp only [ai_st2, reduceIte, Nat.reduceEqDiff, reduceCtorEq, if_false, Nat.one_ne_zero, Nat.succ_ne_zero] at hs
    split at hs
    · split at hs
      · rename_i hcc; cases hs
        exact lv_dup_x2 hx hb hd (by rw [ai_cv_cat]; exact (ai_c1_3 hcc).1) (by rw [ai_cv_cat]; exact (ai_c1_3 hcc).2.1) (by rw [ai_cv_cat]; exact (ai_c1_3 hcc).2.2) (kk _ _ _ _ _ hl hP hS hc hz)
      · cases hs
    · cases hs
  | dup2 =>
    obtain ⟨h1, he⟩ := ai_g_inv hr; cases he; obtain rfl := ai_len h1
    simp only [ai_st2, reduceIte, Nat.reduceEqDiff, reduceCtorEq, if_false, Nat.one_ne_zero, Nat.succ_ne_zero] at hs
    split at hs
    · split at hs
      · rename_i hcc; cases hs
        exact lv_dup2_11 hx hb hd (by rw [ai_cv_cat]; exact (ai_c1_2 hcc).1) (by rw [ai_cv_cat]; exact (ai_c1_2 hcc).2) (kk _ _ _ _ _ hl hP hS hc hz)
      · cases hs
    · cases hs
  | pop =>
    obtain ⟨h1, he⟩ := ai_g_inv hr; cases he; obtain rfl := ai_len h1
    simp only [ai_st2, reduceIte, Nat.reduceEqDiff, reduceCtorEq, if_false, Nat.one_ne_zero, Nat.succ_ne_zero] at hs
    split at hs
    · split at hs
      · rename_i hcc; cases hs
        exact lv_pop hx hb hd (by rw [ai_cv_cat]; exact ai_c1_1 hcc) (kk _ _ _ _ _ hl hP hS hc hz)
      · cases hs
    · cases hs
  | aconst_null =>
    obtain ⟨h1, he⟩ := ai_g_inv hr; cases he; obtain rfl := ai_len h1
    simp only [ai_st2, reduceIte, Nat.reduceEqDiff, reduceCtorEq, if_false, Nat.one_ne_zero, Nat.succ_ne_zero] at hs
    cases hs
    exact lv_null hx hb hd (kk _ _ _ _ _ hl hP hS hc hz)
  | goto o =>
    obtain ⟨t, ht, hr⟩ := ai_bind_inv hr
    obtain ⟨h1, he⟩ := ai_g_inv hr; cases he; obtain rfl := ai_len h1
    simp only [ai_st2, reduceIte, Nat.reduceEqDiff, reduceCtorEq, if_false, Nat.one_ne_zero, Nat.succ_ne_zero] at hs
    cases hs
    exact lv_goto hx hb hd (ai_t_inv ht) (kk _ _ _ _ _ hl hP hS hc hz)
  | ifnull o =>
    obtain ⟨t, ht, hr⟩ := ai_bind_inv hr
    obtain ⟨h1, he⟩ := ai_g_inv hr; cases he; obtain rfl := ai_len h1
    simp only [ai_st2, reduceIte, Nat.reduceEqDiff, reduceCtorEq, if_false, Nat.one_ne_zero, Nat.succ_ne_zero] at hs
    split at hs
    · cases hs; exact lv_ifnullN hx hb hd (ai_t_inv ht) (kk _ _ _ _ _ hl hP hS hc hz)
    · cases hs; exact lv_ifnull hx hb hd (kk _ _ _ _ _ hl hP hS hc hz)
    · cases hs
  | ifnonnull o =>
    obtain ⟨t, ht, hr⟩ := ai_bind_inv hr
    obtain ⟨h1, he⟩ := ai_g_inv hr; cases he; obtain rfl := ai_len h1
    simp only [ai_st2, reduceIte, Nat.reduceEqDiff, reduceCtorEq, if_false, Nat.one_ne_zero, Nat.succ_ne_zero] at hs
    split at hs
    · cases hs; exact lv_ifnonnullN hx hb hd (kk _ _ _ _ _ hl hP hS hc hz)
    · cases hs; exact lv_ifnonnull hx hb hd (ai_t_inv ht) (kk _ _ _ _ _ hl hP hS hc hz)
    · cases hs
  | if_icmp cnd o =>
    obtain ⟨t, ht, hr⟩ := ai_bind_inv hr
    obtain ⟨h1, he⟩ := ai_g_inv hr; cases he; obtain rfl := ai_len h1
    simp only [ai_st2, reduceIte, Nat.reduceEqDiff, reduceCtorEq, if_false, Nat.one_ne_zero, Nat.succ_ne_zero] at hs
    split at hs
    · cases hs
      have k0 := kk _ _ _ _ _ hl hP hS hc hz
      cases cnd
      · exact lv_icmp_eq hx hb hd (ai_t_inv ht) (fun hh => by simpa only [ai_cc, ai_cmp, hh, decide_true, decide_false, Bool.not_true, Bool.not_false, if_true, Bool.false_eq_true, if_false, not_false_eq_true] using k0) (fun hh => by simpa only [ai_cc, ai_cmp, hh, decide_true, decide_false, Bool.not_true, Bool.not_false, if_true, Bool.false_eq_true, if_false, not_false_eq_true] using k0)
      · exact lv_icmp_ne hx hb hd (ai_t_inv ht) (fun hh => by simpa only [ai_cc, ai_cmp, hh, decide_true, decide_false, Bool.not_true, Bool.not_false, if_true, Bool.false_eq_true, if_false, not_false_eq_true] using k0) (fun hh => by simpa only [ai_cc, ai_cmp, hh, decide_true, decide_false, Bool.not_true, Bool.not_false, if_true, Bool.false_eq_true, if_false, not_false_eq_true] using k0)
      · exact lv_icmp_lt hx hb hd (ai_t_inv ht) (fun hh => by simpa only [ai_cc, ai_cmp, hh, decide_true, decide_false, Bool.not_true, Bool.not_false, if_true, Bool.false_eq_true, if_false, not_false_eq_true] using k0) (fun hh => by simpa only [ai_cc, ai_cmp, hh, decide_true, decide_false, Bool.not_true, Bool.not_false, if_true, Bool.false_eq_true, if_false, not_false_eq_true] using k0)
      · exact lv_icmp_ge hx hb hd (ai_t_inv ht) (fun hh => by simpa only [ai_cc, ai_cmp, hh, decide_true, decide_false, Bool.not_true, Bool.not_false, if_true, Bool.false_eq_true, if_false, not_false_eq_true] using k0) (fun hh => by simpa only [ai_cc, ai_cmp, hh, decide_true, decide_false, Bool.not_true, Bool.not_false, if_true, Bool.false_eq_true, if_false, not_false_eq_true] using k0)
      · exact lv_icmp_gt hx hb hd (ai_t_inv ht) (fun hh => by simpa only [ai_cc, ai_cmp, hh, decide_true, decide_false, Bool.not_true, Bool.not_false, if_true, Bool.false_eq_true, if_false, not_false_eq_true] using k0) (fun hh => by simpa only [ai_cc, ai_cmp, hh, decide_true, decide_false, Bool.not_true, Bool.not_false, if_true, Bool.false_eq_true, if_false, not_false_eq_true] using k0)
      · exact lv_icmp_le hx hb hd (ai_t_inv ht) (fun hh => by simpa only [ai_cc, ai_cmp, hh, decide_true, decide_false, Bool.not_true, Bool.not_false, if_true, Bool.false_eq_true, if_false, not_false_eq_true] using k0) (fun hh => by simpa only [ai_cc, ai_cmp, hh, decide_true, decide_false, Bool.not_true, Bool.not_false, if_true, Bool.false_eq_true, if_false, not_false_eq_true] using k0)
    · cases hs
  | ifCond cnd o =>
    obtain ⟨t, ht, hr⟩ := ai_bind_inv hr
    obtain ⟨h1, he⟩ := ai_g_inv hr; cases he; obtain rfl := ai_len h1
    simp only [ai_st2, reduceIte, Nat.reduceEqDiff, reduceCtorEq, if_false, Nat.one_ne_zero, Nat.succ_ne_zero] at hs
    split at hs
    · cases hs
      have k0 := kk _ _ _ _ _ hl hP hS hc hz
      cases cnd
      · exact lv_if_eq hx hb hd (ai_t_inv ht) (fun hh => by simpa only [ai_cc, ai_cmp, hh, decide_true, decide_false, Bool.not_true, Bool.not_false, if_true, Bool.false_eq_true, if_false, not_false_eq_true] using k0) (fun hh => by simpa only [ai_cc, ai_cmp, hh, decide_true, decide_false, Bool.not_true, Bool.not_false, if_true, Bool.false_eq_true, if_false, not_false_eq_true] using k0)
      · exact lv_if_ne hx hb hd (ai_t_inv ht) (fun hh => by simpa only [ai_cc, ai_cmp, hh, decide_true, decide_false, Bool.not_true, Bool.not_false, if_true, Bool.false_eq_true, if_false, not_false_eq_true] using k0) (fun hh => by simpa only [ai_cc, ai_cmp, hh, decide_true, decide_false, Bool.not_true, Bool.not_false, if_true, Bool.false_eq_true, if_false, not_false_eq_true] using k0)
      · exact lv_if_lt hx hb hd (ai_t_inv ht) (fun hh => by simpa only [ai_cc, ai_cmp, hh, decide_true, decide_false, Bool.not_true, Bool.not_false, if_true, Bool.false_eq_true, if_false, not_false_eq_true] using k0) (fun hh => by simpa only [ai_cc, ai_cmp, hh, decide_true, decide_false, Bool.not_true, Bool.not_false, if_true, Bool.false_eq_true, if_false, not_false_eq_true] using k0)
      · exact lv_if_ge hx hb hd (ai_t_inv ht) (fun hh => by simpa only [ai_cc, ai_cmp, hh, decide_true, decide_false, Bool.not_true, Bool.not_false, if_true, Bool.false_eq_true, if_false, not_false_eq_true] using k0) (fun hh => by simpa only [ai_cc, ai_cmp, hh, decide_true, decide_false, Bool.not_true, Bool.not_false, if_true, Bool.false_eq_true, if_false, not_false_eq_true] using k0)
      · exact lv_if_gt hx hb hd (ai_t_inv ht) (fun hh => by simpa only [ai_cc, ai_cmp, hh, decide_true, decide_false, Bool.not_true, Bool.not_false, if_true, Bool.false_eq_true, if_false, not_false_eq_true] using k0) (fun hh => by simpa only [ai_cc, ai_cmp, hh, decide_true, decide_false, Bool.not_true, Bool.not_false, if_true, Bool.false_eq_true, if_false, not_false_eq_true] using k0)
      · exact lv_if_le hx hb hd (ai_t_inv ht) (fun hh => by simpa only [ai_cc, ai_cmp, hh, decide_true, decide_false, Bool.not_true, Bool.not_false, if_true, Bool.false_eq_true, if_false, not_false_eq_true] using k0) (fun hh => by simpa only [ai_cc, ai_cmp, hh, decide_true, decide_false, Bool.not_true, Bool.not_false, if_true, Bool.false_eq_true, if_false, not_false_eq_true] using k0)
    · cases hs
  | iconst n =>
    obtain ⟨h1, he⟩ := ai_g_inv hr; cases he; omega
  | bipush n =>
    obtain ⟨h1, he⟩ := ai_g_inv hr; cases he; omega
  | sipush n =>
    obtain ⟨h1, he⟩ := ai_g_inv hr; cases he; omega
  | iload_n k =>
    obtain ⟨h1, he⟩ := ai_g_inv hr; cases he; omega
  | iload k =>
    obtain ⟨h1, he⟩ := ai_g_inv hr; cases he; omega
  | aload_n k =>
    obtain ⟨h1, he⟩ := ai_g_inv hr; cases he; omega
  | aload k =>
    obtain ⟨h1, he⟩ := ai_g_inv hr; cases he; omega
  | istore_n k =>
    obtain ⟨h1, he⟩ := ai_g_inv hr; cases he; omega
  | istore k =>
    obtain ⟨h1, he⟩ := ai_g_inv hr; cases he; omega
  | astore_n k =>
    obtain ⟨h1, he⟩ := ai_g_inv hr; cases he; omega
  | astore k =>
    obtain ⟨h1, he⟩ := ai_g_inv hr; cases he; omega
  | iinc k n =>
    obtain ⟨h1, he⟩ := ai_g_inv hr; cases he; omega
  | iadd =>
    obtain ⟨h1, he⟩ := ai_g_inv hr; cases he; omega
  | isub =>
    obtain ⟨h1, he⟩ := ai_g_inv hr; cases he; omega
  | imul =>
    obtain ⟨h1, he⟩ := ai_g_inv hr; cases he; omega
  | iand =>
    obtain ⟨h1, he⟩ := ai_g_inv hr; cases he; omega
  | ishl =>
    obtain ⟨h1, he⟩ := ai_g_inv hr; cases he; omega
  | ishr =>
    obtain ⟨h1, he⟩ := ai_g_inv hr; cases he; omega
  | ixor =>
    obtain ⟨h1, he⟩ := ai_g_inv hr; cases he; omega
  | idiv =>
    obtain ⟨h1, he⟩ := ai_g_inv hr; cases he; omega
  | irem =>
    obtain ⟨h1, he⟩ := ai_g_inv hr; cases he; omega
  | ineg =>
    obtain ⟨h1, he⟩ := ai_g_inv hr; cases he; omega
  | i2c =>
    obtain ⟨h1, he⟩ := ai_g_inv hr; cases he; omega
  | iaload =>
    obtain ⟨h1, he⟩ := ai_g_inv hr; cases he; omega
  | caload =>
    obtain ⟨h1, he⟩ := ai_g_inv hr; cases he; omega
  | aaload =>
    obtain ⟨h1, he⟩ := ai_g_inv hr; cases he; omega
  | iastore =>
    obtain ⟨h1, he⟩ := ai_g_inv hr; cases he; omega
  | castore =>
    obtain ⟨h1, he⟩ := ai_g_inv hr; cases he; omega
  | aastore =>
    obtain ⟨h1, he⟩ := ai_g_inv hr; cases he; omega
  | arraylength =>
    obtain ⟨h1, he⟩ := ai_g_inv hr; cases he; omega
  | ldc n =>
    obtain ⟨w, hw, hr⟩ := ai_bind_inv hr
    obtain ⟨h1, he⟩ := ai_g_inv hr; cases he; omega
  | getfield n =>
    obtain ⟨w, hw, hr⟩ := ai_bind_inv hr
    obtain ⟨h1, he⟩ := ai_g_inv hr
    cases he
    split at hop <;> omega
  | putfield n =>
    obtain ⟨w, hw, hr⟩ := ai_bind_inv hr
    obtain ⟨h1, he⟩ := ai_g_inv hr
    cases he
    split at hop <;> omega
  | new n =>
    obtain ⟨w, hw, hr⟩ := ai_bind_inv hr
    obtain ⟨w, hw, hr⟩ := ai_bind_inv hr
    obtain ⟨h1, he⟩ := ai_g_inv hr; cases he; omega
  | newarray t =>
    simp only [ai_res] at hr
    split at hr
    · obtain ⟨h1, he⟩ := ai_g_inv hr; cases he; omega
    · split at hr
      · obtain ⟨h1, he⟩ := ai_g_inv hr; cases he; omega
      · cases hr
  | anewarray n =>
    obtain ⟨w, hw, hr⟩ := ai_bind_inv hr
    split at hr
    · obtain ⟨h1, he⟩ := ai_g_inv hr; cases he; omega
    · split at hr
      · obtain ⟨h1, he⟩ := ai_g_inv hr; cases he; omega
      · cases hr
  | multianewarray n k =>
    obtain ⟨w, hw, hr⟩ := ai_bind_inv hr
    obtain ⟨h1, he⟩ := ai_g_inv hr; cases he; omega
  | ireturn | areturn | return_ =>
    simp only [ai_res] at hr
    repeat (split at hr; · (obtain ⟨h1, he⟩ := ai_g_inv hr; cases he; omega))
    cases hr
  | tableswitch df lo hi os =>
    obtain ⟨w, hw, hr⟩ := ai_bind_inv hr
    obtain ⟨w, hw, hr⟩ := ai_bind_inv hr
    obtain ⟨h1, he⟩ := ai_g_inv hr; cases he; omega
  | invokestatic n => exact absurd hop (by have := ai_res_inv hr (Or.inl ⟨n, rfl⟩); omega)
  | invokevirtual n => exact absurd hop (by have := ai_res_inv hr (Or.inr (Or.inl ⟨n, rfl⟩)); omega)
  | invokespecial n => exact absurd hop (by have := ai_res_inv hr (Or.inr (Or.inr ⟨n, rfl⟩)); omega)
  | _ => exact absurd hr (by simp [ai_res])
theorem ai_one5 (C : ai_Cx p s m args meth c q D cA) {i : Instr} {len pc op a b : Nat} {v : Int32} {tb : List Nat} {nx : Nat} (hd : decode q.2.1 pc = .ok (i, len)) (hr : ai_res q.1 q.2.2.2.1 pc i len = some (op, a, b, v, tb, nx)) (hop : 42 ≤ op)
    {als st : List Value} {h : ai_H} {o : Nat × List Value × List Value × ai_H} (hs : ai_st5 op a b v tb als st h = some (.inl o)) (kk : ai_K p l e R s m args below meth c Q q D cA sb N0 L0 S0 o)
    {ls : Array Slot} {H : Heap} {locs : List Loc} {cells slots : Nat} (hl : ai_L sb N0 q.2.2.1 als ls) (hP : ai_P N0 D cA h H) (hS : va_S (fun x => N0 ≤ x) s.heap H locs) (hc : cells + L0 = h.1.length) (hz : slots + S0 = ai_sum h) :
    W p l e R s m args below meth c H locs cells slots Q (F0 m pc ls (st.map (ai_cv sb N0))) := by
  obtain ⟨hx, hb, hml, hown, hts, hnm, hG⟩ := C
  cases i with
  | tableswitch df lo hi os =>
    obtain ⟨t0, ht, hr⟩ := ai_bind_inv hr
    obtain ⟨ts, hts2, hr⟩ := ai_bind_inv hr
    obtain ⟨h1, he⟩ := ai_g_inv hr
    cases he
    simp only [Bool.and_eq_true, beq_iff_eq] at h1
    obtain ⟨h1, h2⟩ := h1
    obtain ⟨g1, g2⟩ := ai_ts_get hts2
    simp only [ai_st5, reduceIte, Nat.reduceEqDiff, reduceCtorEq, if_false, Nat.one_ne_zero, Nat.succ_ne_zero] at hs
    split at hs
    · rename_i x0 st0
      cases hs
      have k0 := kk _ _ _ _ _ hl hP hS hc hz
      dsimp only at k0
      rw [h2] at k0
      by_cases hlo : x0.toInt < lo
      · rw [if_pos hlo] at k0
        exact lv_tableOut hx hb hd (Or.inl hlo) (ai_t_inv ht) k0
      · rw [if_neg hlo] at k0
        by_cases hhi : hi < x0.toInt
        · have hn : tb[(x0.toInt - lo).toNat]? = none := List.getElem?_eq_none (by rw [← g1]; omega)
          rw [hn] at k0
          exact lv_tableOut hx hb hd (Or.inr hhi) (ai_t_inv ht) k0
        · have hlt : (x0.toInt - lo).toNat < tb.length := by rw [← g1]; omega
          have hn : tb[(x0.toInt - lo).toNat]? = some tb[(x0.toInt - lo).toNat] := List.getElem?_eq_getElem hlt
          rw [hn] at k0
          obtain ⟨o2, e1, e2⟩ := g2 _ _ hn
          exact lv_tableIn hx hb hd hlo hhi (by rw [← Array.getElem?_toList]; exact e1) e2 k0
    · cases hs
  | ireturn | areturn | return_ =>
    exfalso
    simp only [ai_res] at hr
    repeat (split at hr; · (obtain ⟨h1, he⟩ := ai_g_inv hr; cases he; simp only [ai_st5, reduceIte, Nat.reduceEqDiff, reduceCtorEq, if_false, Nat.one_ne_zero, Nat.succ_ne_zero] at hs; (repeat (split at hs)) <;> simp at hs))
    cases hr
  | iconst n =>
    obtain ⟨h1, he⟩ := ai_g_inv hr; cases he; omega
  | bipush n =>
    obtain ⟨h1, he⟩ := ai_g_inv hr; cases he; omega
  | sipush n =>
    obtain ⟨h1, he⟩ := ai_g_inv hr; cases he; omega
  | iload_n k =>
    obtain ⟨h1, he⟩ := ai_g_inv hr; cases he; omega
  | iload k =>
    obtain ⟨h1, he⟩ := ai_g_inv hr; cases he; omega
  | aload_n k =>
    obtain ⟨h1, he⟩ := ai_g_inv hr; cases he; omega
  | aload k =>
    obtain ⟨h1, he⟩ := ai_g_inv hr; cases he; omega
  | istore_n k =>
    obtain ⟨h1, he⟩ := ai_g_inv hr; cases he; omega
  | istore k =>
    obtain ⟨h1, he⟩ := ai_g_inv hr; cases he; omega
  | astore_n k =>
    obtain ⟨h1, he⟩ := ai_g_inv hr; cases he; omega
  | astore k =>
    obtain ⟨h1, he⟩ := ai_g_inv hr; cases he; omega
  | iinc k n =>
    obtain ⟨h1, he⟩ := ai_g_inv hr; cases he; omega
  | iadd =>
    obtain ⟨h1, he⟩ := ai_g_inv hr; cases he; omega
  | isub =>
    obtain ⟨h1, he⟩ := ai_g_inv hr; cases he; omega
  | imul =>
    obtain ⟨h1, he⟩ := ai_g_inv hr; cases he; omega
  | iand =>
    obtain ⟨h1, he⟩ := ai_g_inv hr; cases he; omega
  | ishl =>
    obtain ⟨h1, he⟩ := ai_g_inv hr; cases he; omega
  | ishr =>
    obtain ⟨h1, he⟩ := ai_g_inv hr; cases he; omega
  | ixor =>
    obtain ⟨h1, he⟩ := ai_g_inv hr; cases he; omega
  | idiv =>
    obtain ⟨h1, he⟩ := ai_g_inv hr; cases he; omega
  | irem =>
    obtain ⟨h1, he⟩ := ai_g_inv hr; cases he; omega
  | ineg =>
    obtain ⟨h1, he⟩ := ai_g_inv hr; cases he; omega
  | i2c =>
    obtain ⟨h1, he⟩ := ai_g_inv hr; cases he; omega
  | dup =>
    obtain ⟨h1, he⟩ := ai_g_inv hr; cases he; omega
  | dup_x1 =>
    obtain ⟨h1, he⟩ := ai_g_inv hr; cases he; omega
  | dup_x2 =>
    obtain ⟨h1, he⟩ := ai_g_inv hr; cases he; omega
  | dup2 =>
    obtain ⟨h1, he⟩ := ai_g_inv hr; cases he; omega
  | pop =>
    obtain ⟨h1, he⟩ := ai_g_inv hr; cases he; omega
  | aconst_null =>
    obtain ⟨h1, he⟩ := ai_g_inv hr; cases he; omega
  | iaload =>
    obtain ⟨h1, he⟩ := ai_g_inv hr; cases he; omega
  | caload =>
    obtain ⟨h1, he⟩ := ai_g_inv hr; cases he; omega
  | aaload =>
    obtain ⟨h1, he⟩ := ai_g_inv hr; cases he; omega
  | iastore =>
    obtain ⟨h1, he⟩ := ai_g_inv hr; cases he; omega
  | castore =>
    obtain ⟨h1, he⟩ := ai_g_inv hr; cases he; omega
  | aastore =>
    obtain ⟨h1, he⟩ := ai_g_inv hr; cases he; omega
  | arraylength =>
    obtain ⟨h1, he⟩ := ai_g_inv hr; cases he; omega
  | ldc n =>
    obtain ⟨w, hw, hr⟩ := ai_bind_inv hr
    obtain ⟨h1, he⟩ := ai_g_inv hr; cases he; omega
  | goto o =>
    obtain ⟨w, hw, hr⟩ := ai_bind_inv hr
    obtain ⟨h1, he⟩ := ai_g_inv hr; cases he; omega
  | if_icmp c o =>
    obtain ⟨w, hw, hr⟩ := ai_bind_inv hr
    obtain ⟨h1, he⟩ := ai_g_inv hr; cases he; omega
  | ifCond c o =>
    obtain ⟨w, hw, hr⟩ := ai_bind_inv hr
    obtain ⟨h1, he⟩ := ai_g_inv hr; cases he; omega
  | ifnull o =>
    obtain ⟨w, hw, hr⟩ := ai_bind_inv hr
    obtain ⟨h1, he⟩ := ai_g_inv hr; cases he; omega
  | ifnonnull o =>
    obtain ⟨w, hw, hr⟩ := ai_bind_inv hr
    obtain ⟨h1, he⟩ := ai_g_inv hr; cases he; omega
  | getfield n =>
    obtain ⟨w, hw, hr⟩ := ai_bind_inv hr
    obtain ⟨h1, he⟩ := ai_g_inv hr
    cases he
    split at hop <;> omega
  | putfield n =>
    obtain ⟨w, hw, hr⟩ := ai_bind_inv hr
    obtain ⟨h1, he⟩ := ai_g_inv hr
    cases he
    split at hop <;> omega
  | new n =>
    obtain ⟨w, hw, hr⟩ := ai_bind_inv hr
    obtain ⟨w, hw, hr⟩ := ai_bind_inv hr
    obtain ⟨h1, he⟩ := ai_g_inv hr; cases he; omega
  | newarray t =>
    simp only [ai_res] at hr
    split at hr
    · obtain ⟨h1, he⟩ := ai_g_inv hr; cases he; omega
    · split at hr
      · obtain ⟨h1, he⟩ := ai_g_inv hr; cases he; omega
      · cases hr
  | anewarray n =>
    obtain ⟨w, hw, hr⟩ := ai_bind_inv hr
    split at hr
    · obtain ⟨h1, he⟩ := ai_g_inv hr; cases he; omega
    · split at hr
      · obtain ⟨h1, he⟩ := ai_g_inv hr; cases he; omega
      · cases hr
  | multianewarray n k =>
    obtain ⟨w, hw, hr⟩ := ai_bind_inv hr
    obtain ⟨h1, he⟩ := ai_g_inv hr; cases he; omega
  | invokestatic n => exact absurd hop (by have := ai_res_inv hr (Or.inl ⟨n, rfl⟩); omega)
  | invokevirtual n => exact absurd hop (by have := ai_res_inv hr (Or.inr (Or.inl ⟨n, rfl⟩)); omega)
  | invokespecial n => exact absurd hop (by have := ai_res_inv hr (Or.inr (Or.inr ⟨n, rfl⟩)); omega)
  | _ => exact absurd hr (by simp [ai_res])
end AIS2
