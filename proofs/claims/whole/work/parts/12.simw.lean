/-! the simulation: by induction on the steps -/
theorem ai_met_of {l : Launch} {n : Nat} (hW : ai_SimW l n) : ai_SimM l n := by
  intro d g q av h r h' D cA sb N0 mc ms hm hg hc1 hlen hex hmc hms
  have hb9 := ai_mt_b hm hg
  obtain ⟨y, cc, ml, ret, k⟩ := q
  unfold ai_mtb at hb9
  simp only [Bool.and_eq_true, decide_eq_true_eq] at hb9
  obtain ⟨⟨⟨⟨⟨⟨⟨⟨⟨hplain, hn1⟩, hn2⟩, hpar⟩, hml30⟩, hna⟩, hcl⟩, hk2⟩, hini⟩, hcls⟩ := hb9
  refine va_MetF (cc := cc) (maxL := ml) (ret := ret) (ws' := ai_ws) hplain rfl ?_
  intro p e s m args below meth c s₁ B hml hv
  obtain ⟨rfl, hP, hG⟩ := hv
  have hts := atoms_spec (ws := ai_yw (y, cc, ml, ret, k)) B.pre
  have hown : s.vm.findClass y.cls = some m.cls := findClass_of_methodNamed B.named
  have hname : meth.name = y.name := (name_of_methodNamed B.named B.method).1
  have hret : meth.sig.returnType = ret := B.returns
  have hlocks := B.notSynchronized
  have hx := B.exec
  have hb := B.bytes
  rw [lg_entry_eq]
  have hL := ai_ent_L (sb := sb) (N0 := N0) (ml := ml) hc1 hlen
  have hml2 : ai_ml g = ml := by unfold ai_ml; rw [hm]; rfl
  rw [hml2] at hex
  have hz := hP.1
  refine hW p e (ai_rm d mc ms) s m _ below meth c _ (y, cc, ml, ret, k) D cA sb N0 h.1.length (ai_sum h) d (0, fun _ => 0) g 0 _ [] h r h' _ s.heap [] 0 0
    ⟨hx, hb, hml, hown, fun w hw => hts w (List.mem_cons_of_mem _ hw), fun hi => hname.trans hi, hG⟩ hm (Or.inl rfl) (by omega) ⟨Nat.le_refl _, Nat.le_refl _⟩ (by show _ ≤ mc + _; omega) (by show _ ≤ ms + _; omega) hex hL hP va_S.rf (by omega) (by omega) ?_
  intro pcr lsr Hr locsr k9 n9 hro hPr hSr hk9 hn9
  have e1 : k9 = mc := by omega
  have e2 : n9 = ms := by omega
  subst e1
  subst e2
  have fin : ∀ v : Option Value, v = r.map (ai_cv sb N0) → ∀ t : State, t.heap = Hr → s.WarmedH t.vm → ai_Qc sb N0 D cA h' r (av.map (ai_cv sb N0)).toArray s (.returned v) t := fun v hv t ht hw => by
    subst hv
    exact ⟨rfl, by rw [ht]; exact hPr, hSr.F ht⟩
  rcases hro with ⟨x, rfl, hd, hi | ⟨hi, h01⟩⟩ | ⟨hrr, hd, hi⟩ | ⟨rfl, hd, hi⟩
  · dsimp only at hi hd
    subst hi
    exact W.iret hx hb hret (fin _ rfl) hSr.2.2 hd
  · dsimp only at hi hd
    subst hi
    exact W.zret hx hb hret (by rcases h01 with rfl | rfl <;> rfl) (fin _ rfl) hSr.2.2 hd
  · dsimp only at hi hd
    subst hi
    rcases hrr with rfl | ⟨a, rfl⟩
    · exact W.aret hx hb hret (Or.inl ⟨_, rfl⟩) (Or.inl rfl) (fin _ rfl) hSr.2.2 hd
    · exact W.aret hx hb hret (Or.inl ⟨_, rfl⟩) (Or.inr ⟨_, rfl⟩) (fin _ rfl) hSr.2.2 hd
  · dsimp only at hi hd
    subst hi
    exact W.vret hx hb hret (fin _ rfl) hSr.2.2 hd
section AISW
variable {p : Program} {l : Launch} {e : Env} {R : Room} {s : State} {m : MethodId} {args : Array Value} {below : List Frame} {meth : Method} {c : Code} {Q : State → Prop}
variable {q : ai_M} {D : va_G} {cA : Nat → ClassId} {sb N0 L0 S0 d : Nat} {X : ai_X}
theorem ai_ro_of {f pc op a b : Nat} {v : Int32} {tb : List Nat} {nx : Nat} {ls st : List Value} {h : ai_H} {r : Option Value} (hm : ai_mt[f]? = some q) (hf : ai_fetch f pc = some (op, a, b, v, tb, nx)) (hs : ai_st5 op a b v tb ls st h = some (.inr (.inl r))) : ai_ro q pc r ∧ st = r.toList := by
  obtain ⟨i, len, hd, hr⟩ := ai_fetch_inv hm hf
  have hop : op = 42 ∨ op = 43 := by
    unfold ai_st5 at hs
    by_cases h37 : op = 37
    · rw [if_pos h37] at hs
      split at hs <;> simp at hs
    rw [if_neg h37] at hs
    by_cases h38 : op = 38
    · rw [if_pos h38] at hs
      split at hs
      · split at hs <;> simp at hs
      · cases hs
    rw [if_neg h38] at hs
    by_cases h39 : op = 39
    · rw [if_pos h39] at hs
      split at hs
      · split at hs <;> simp at hs
      · cases hs
    rw [if_neg h39] at hs
    by_cases h42 : op = 42
    · exact Or.inl h42
    rw [if_neg h42] at hs
    by_cases h43 : op = 43
    · exact Or.inr h43
    rw [if_neg h43] at hs
    by_cases h44 : op = 44
    · rw [if_pos h44] at hs
      split at hs <;> simp at hs
    rw [if_neg h44] at hs
    cases hs
  cases i with
  | ireturn =>
    simp only [ai_res] at hr
    split at hr
    · rename_i ht
      obtain ⟨h1, he⟩ := ai_g_inv hr; cases he; obtain rfl := ai_len h1
      simp only [ai_st5, reduceIte, Nat.reduceEqDiff] at hs
      split at hs
      · cases hs
        exact ⟨Or.inl ⟨_, rfl, hd, Or.inl ht⟩, rfl⟩
      · simp at hs
      · simp at hs
      · cases hs
    · split at hr
      · rename_i ht
        obtain ⟨h1, he⟩ := ai_g_inv hr; cases he; obtain rfl := ai_len h1
        simp only [ai_st5, reduceIte, Nat.reduceEqDiff] at hs
        split at hs
        · split at hs
          · rename_i h01
            cases hs
            refine ⟨Or.inl ⟨_, rfl, hd, Or.inr ⟨ht, ?_⟩⟩, rfl⟩
            rcases h01 with h9 | ⟨-, h9⟩
            · exact absurd h9 (by simp)
            · exact h9
          · cases hs
        · simp at hs
        · simp at hs
        · cases hs
      · cases hr
  | areturn =>
    simp only [ai_res] at hr
    split at hr
    · rename_i ht
      obtain ⟨h1, he⟩ := ai_g_inv hr; cases he; obtain rfl := ai_len h1
      simp only [ai_st5, reduceIte, Nat.reduceEqDiff] at hs
      split at hs
      · simp at hs
      · cases hs
        exact ⟨Or.inr (Or.inl ⟨Or.inr ⟨_, rfl⟩, hd, ht⟩), rfl⟩
      · cases hs
        exact ⟨Or.inr (Or.inl ⟨Or.inl rfl, hd, ht⟩), rfl⟩
      · cases hs
    · cases hr
  | return_ =>
    simp only [ai_res] at hr
    split at hr
    · rename_i ht
      obtain ⟨h1, he⟩ := ai_g_inv hr; cases he; obtain rfl := ai_len h1
      simp only [ai_st5, reduceIte, Nat.reduceEqDiff] at hs
      split at hs
      · cases hs
        exact ⟨Or.inr (Or.inr ⟨rfl, hd, ht⟩), rfl⟩
      · cases hs
    · cases hr
  | iconst n =>
    obtain ⟨h1, he⟩ := ai_g_inv hr; cases he; omega
  | bipush n =>
    obtain ⟨h1, he⟩ := ai_g_inv hr; cases he; omega
  | sipush n =>
    obtain ⟨h1, he⟩ := ai_g_inv hr; cases he; omega
  | iload_n k =>
    obtain ⟨h1, he⟩ := ai_g_inv hr; cases he; omega
  | iload k =>
    obtain ⟨h1, he⟩ := ai_g_inv hr; cases he; omega
  | aload_n k =>
    obtain ⟨h1, he⟩ := ai_g_inv hr; cases he; omega
  | aload k =>
    obtain ⟨h1, he⟩ := ai_g_inv hr; cases he; omega
  | istore_n k =>
    obtain ⟨h1, he⟩ := ai_g_inv hr; cases he; omega
  | istore k =>
    obtain ⟨h1, he⟩ := ai_g_inv hr; cases he; omega
  | astore_n k =>
    obtain ⟨h1, he⟩ := ai_g_inv hr; cases he; omega
  | astore k =>
    obtain ⟨h1, he⟩ := ai_g_inv hr; cases he; omega
  | iinc k n =>
    obtain ⟨h1, he⟩ := ai_g_inv hr; cases he; omega
  | iadd =>
    obtain ⟨h1, he⟩ := ai_g_inv hr; cases he; omega
  | isub =>
    obtain ⟨h1, he⟩ := ai_g_inv hr; cases he; omega
  | imul =>
    obtain ⟨h1, he⟩ := ai_g_inv hr; cases he; omega
  | iand =>
    obtain ⟨h1, he⟩ := ai_g_inv hr; cases he; omega
  | ishl =>
    obtain ⟨h1, he⟩ := ai_g_inv hr; cases he; omega
  | ishr =>
    obtain ⟨h1, he⟩ := ai_g_inv hr; cases he; omega
  | ixor =>
    obtain ⟨h1, he⟩ := ai_g_inv hr; cases he; omega
  | idiv =>
    obtain ⟨h1, he⟩ := ai_g_inv hr; cases he; omega
  | irem =>
    obtain ⟨h1, he⟩ := ai_g_inv hr; cases he; omega
  | ineg =>
    obtain ⟨h1, he⟩ := ai_g_inv hr; cases he; omega
  | i2c =>
    obtain ⟨h1, he⟩ := ai_g_inv hr; cases he; omega
  | dup =>
    obtain ⟨h1, he⟩ := ai_g_inv hr; cases he; omega
  | dup_x1 =>
    obtain ⟨h1, he⟩ := ai_g_inv hr; cases he; omega
  | dup_x2 =>
    obtain ⟨h1, he⟩ := ai_g_inv hr; cases he; omega
  | dup2 =>
    obtain ⟨h1, he⟩ := ai_g_inv hr; cases he; omega
  | pop =>
    obtain ⟨h1, he⟩ := ai_g_inv hr; cases he; omega
  | aconst_null =>
    obtain ⟨h1, he⟩ := ai_g_inv hr; cases he; omega
  | iaload =>
    obtain ⟨h1, he⟩ := ai_g_inv hr; cases he; omega
  | caload =>
    obtain ⟨h1, he⟩ := ai_g_inv hr; cases he; omega
  | aaload =>
    obtain ⟨h1, he⟩ := ai_g_inv hr; cases he; omega
  | iastore =>
    obtain ⟨h1, he⟩ := ai_g_inv hr; cases he; omega
  | castore =>
    obtain ⟨h1, he⟩ := ai_g_inv hr; cases he; omega
  | aastore =>
    obtain ⟨h1, he⟩ := ai_g_inv hr; cases he; omega
  | arraylength =>
    obtain ⟨h1, he⟩ := ai_g_inv hr; cases he; omega
  | ldc n =>
    obtain ⟨w, hw, hr⟩ := ai_bind_inv hr
    obtain ⟨h1, he⟩ := ai_g_inv hr; cases he; omega
  | goto o =>
    obtain ⟨w, hw, hr⟩ := ai_bind_inv hr
    obtain ⟨h1, he⟩ := ai_g_inv hr; cases he; omega
  | if_icmp c o =>
    obtain ⟨w, hw, hr⟩ := ai_bind_inv hr
    obtain ⟨h1, he⟩ := ai_g_inv hr; cases he; omega
  | ifCond c o =>
    obtain ⟨w, hw, hr⟩ := ai_bind_inv hr
    obtain ⟨h1, he⟩ := ai_g_inv hr; cases he; omega
  | ifnull o =>
    obtain ⟨w, hw, hr⟩ := ai_bind_inv hr
    obtain ⟨h1, he⟩ := ai_g_inv hr; cases he; omega
  | ifnonnull o =>
    obtain ⟨w, hw, hr⟩ := ai_bind_inv hr
    obtain ⟨h1, he⟩ := ai_g_inv hr; cases he; omega
  | getfield n =>
    obtain ⟨w, hw, hr⟩ := ai_bind_inv hr
    obtain ⟨h1, he⟩ := ai_g_inv hr
    cases he
    split at hop <;> omega
  | putfield n =>
    obtain ⟨w, hw, hr⟩ := ai_bind_inv hr
    obtain ⟨h1, he⟩ := ai_g_inv hr
    cases he
    split at hop <;> omega
  | new n =>
    obtain ⟨w, hw, hr⟩ := ai_bind_inv hr
    obtain ⟨w, hw, hr⟩ := ai_bind_inv hr
    obtain ⟨h1, he⟩ := ai_g_inv hr; cases he; omega
  | newarray t =>
    simp only [ai_res] at hr
    split at hr
    · obtain ⟨h1, he⟩ := ai_g_inv hr; cases he; omega
    · split at hr
      · obtain ⟨h1, he⟩ := ai_g_inv hr; cases he; omega
      · cases hr
  | anewarray n =>
    obtain ⟨w, hw, hr⟩ := ai_bind_inv hr
    split at hr
    · obtain ⟨h1, he⟩ := ai_g_inv hr; cases he; omega
    · split at hr
      · obtain ⟨h1, he⟩ := ai_g_inv hr; cases he; omega
      · cases hr
  | multianewarray n k =>
    obtain ⟨w, hw, hr⟩ := ai_bind_inv hr
    obtain ⟨h1, he⟩ := ai_g_inv hr; cases he; omega
  | tableswitch df lo hi os =>
    obtain ⟨w, hw, hr⟩ := ai_bind_inv hr
    obtain ⟨w, hw, hr⟩ := ai_bind_inv hr
    obtain ⟨h1, he⟩ := ai_g_inv hr; cases he; omega
  | invokestatic n => exact absurd hop (by have := ai_res_inv hr (Or.inl ⟨n, rfl⟩); omega)
  | invokevirtual n => exact absurd hop (by have := ai_res_inv hr (Or.inr (Or.inl ⟨n, rfl⟩)); omega)
  | invokespecial n => exact absurd hop (by have := ai_res_inv hr (Or.inr (Or.inr ⟨n, rfl⟩)); omega)
  | _ => exact absurd hr (by simp [ai_res])
theorem ai_goodl {l : List Cond} (h : ∀ w ∈ l, w ∈ ai_ws) : GoodIn ai_ws l := fun w hw => ⟨h w hw, good_of_word (ai_ws_good w (h w hw))⟩
theorem ai_yw_in {g : Nat} {q : ai_M} (h : ai_mt[g]? = some q) (hg : g < 162) : ∀ w ∈ ai_yw q, w ∈ ai_ws := fun w hw => (ai_good h hg w hw).1
theorem ai_init_in {g : Nat} {q : ai_M} (h : ai_mt[g]? = some q) (hg : g < 162) : Cond.initialized q.1.cls ∈ ai_ws := by
  have hb9 := ai_mt_b h hg
  obtain ⟨y, cc, ml, ret, k⟩ := q
  unfold ai_mtb at hb9
  simp only [Bool.and_eq_true, decide_eq_true_eq, Bool.or_eq_true] at hb9
  have hcls := hb9.2
  dsimp only
  rcases hcls with (((((((e9 | e9) | e9) | e9) | e9) | e9) | e9) | e9) | e9
  · rw [e9]; exact (ai_cl_in (k := 0) rfl).2.2
  · rw [e9]; exact (ai_cl_in (k := 1) rfl).2.2
  · rw [e9]; exact (ai_cl_in (k := 2) rfl).2.2
  · rw [e9]; exact (ai_cl_in (k := 3) rfl).2.2
  · rw [e9]; exact (ai_cl_in (k := 4) rfl).2.2
  · rw [e9]; exact (ai_cl_in (k := 5) rfl).2.2
  · rw [e9]; exact (ai_cl_in (k := 6) rfl).2.2
  · rw [e9]; exact (ai_cl_in (k := 7) rfl).2.2
  · rw [e9]; exact ai_misc_in _ (by decide +kernel)
theorem ai_c1_mem {l l' : List Value} (h : ai_c1 l = true) (hs : ∀ v ∈ l', v ∈ l) : ai_c1 l' = true := by
  unfold ai_c1 at h ⊢
  exact List.all_eq_true.mpr fun v hv => List.all_eq_true.mp h v (hs v hv)
/-- what is decided of a callee -/
theorem ai_callee {g : Nat} {q : ai_M} (h : ai_mt[g]? = some q) (hg : g < 162) : (q.1.cls ≠ "java/lang/invoke/MethodHandle" ∧ q.1.cls ≠ "java/lang/invoke/VarHandle" ∧ (parseMethodDescriptor q.1.desc).map (fun d => d.parameters.length) = some (ai_nargs q.1)) ∧ q.2.2.1 ≤ 30 ∧
    (q.2.2.2.2 = 1 → ai_nargs q.1 ≤ q.2.2.1) ∧ (q.2.2.2.2 ≠ 1 → ai_nargs q.1 + 1 ≤ q.2.2.1 ∧ ∃ r, vwCl[ai_cno q.1.cls]? = some r ∧ r.1 = q.1.cls) ∧ (¬ q.2.2.2.2 ≤ 1 → q.1.name = "<init>" ∧ q.2.2.2.1 = none) := by
  have hb9 := ai_mt_b h hg
  obtain ⟨y, cc, ml, ret, k⟩ := q
  unfold ai_mtb at hb9
  simp only [Bool.and_eq_true, decide_eq_true_eq, Bool.or_eq_true] at hb9
  obtain ⟨⟨⟨⟨⟨⟨⟨⟨⟨hplain, hn1⟩, hn2⟩, hpar⟩, hml30⟩, hna⟩, hcl⟩, hk2⟩, hini⟩, hcls⟩ := hb9
  refine ⟨⟨hn1, hn2, hpar⟩, hml30, fun hk => ?_, fun hk => ⟨?_, ?_⟩, fun hk => ?_⟩
  · dsimp only at hk ⊢
    rw [if_pos hk] at hna
    omega
  · dsimp only at hk ⊢
    rw [if_neg hk] at hna
    omega
  · dsimp only at hk ⊢
    rcases hcl with h9 | h9
    · exact absurd h9 hk
    · cases e9 : vwCl[ai_cno y.cls]? with
      | none => rw [e9] at h9; cases h9
      | some r => rw [e9] at h9; exact ⟨r, rfl, of_decide_eq_true h9⟩
  · dsimp only at hk ⊢
    rcases hini with h9 | h9
    · exact absurd h9 hk
    · exact h9
/-- a call: what it needs, and what comes behind it -/
theorem ai_calls {n : Nat} (hM : ai_SimM l n) (C : ai_Cx p s m args meth c q D cA) (hRd : d + 1 ≤ R.frames ∧ 64 * (d + 1) ≤ R.locals) {f pc op a b : Nat} {v : Int32} {tb : List Nat} {nx : Nat} (hm : ai_mt[f]? = some q) (hf : ai_fetch f pc = some (op, a, b, v, tb, nx)) (hop : 37 ≤ op)
    {als st av rest : List Value} {h h1 : ai_H} {g : Nat} {r : Option Value} (hs : ai_st5 op a b v tb als st h = some (.inr (.inr (g, av, rest)))) (hex : ai_exec n d (0, fun _ => 0) g 0 (ai_ent av (ai_ml g)) [] h = some (r, h1))
    {ls : Array Slot} {H : Heap} {locs : List Loc} {cells slots : Nat} (hl : ai_L sb N0 q.2.2.1 als ls) (hP : ai_P N0 D cA h H) (hS : va_S (fun x => N0 ≤ x) s.heap H locs) {mc ms : Nat} (hmc : mc + h.1.length = h1.1.length) (hms : ms + ai_sum h = ai_sum h1) (hRc : cells + mc ≤ R.cells) (hRs : slots + ms ≤ R.slots)
    (kk : ∀ (H1 : Heap) (locs1 : List Loc), ai_P N0 D cA h1 H1 → va_S (fun x => N0 ≤ x) s.heap H1 locs1 → W p l e R s m args below meth c H1 locs1 (cells + mc) (slots + ms) Q (F0 m nx ls ((r.toList ++ rest).map (ai_cv sb N0)))) :
    W p l e R s m args below meth c H locs cells slots Q (F0 m pc ls (st.map (ai_cv sb N0))) := by
  obtain ⟨hx, hb, hml, hown, hts, hnm, hG⟩ := C
  obtain ⟨i, len, hd, hr⟩ := ai_fetch_inv hm hf
  -- the common end
  have fin : nx = pc + 3 → (∃ X : Array Value, va_Run p l e R s m args below meth c H locs cells slots mc ms (F0 m pc ls (st.map (ai_cv sb N0))) (rest.map (ai_cv sb N0)) (ai_Qc sb N0 D cA h1 r X) (fun x => N0 ≤ x)) → W p l e R s m args below meth c H locs cells slots Q (F0 m pc ls (st.map (ai_cv sb N0))) := by
    rintro rfl ⟨X, hrun⟩
    refine ai_goon (B := ai_P N0 D cA h1) hrun hS (fun _ h => h) (fun _ _ _ h => h) (fun H1 locs1 hP1 hS1 => ?_)
    have k0 := kk H1 locs1 hP1 hS1
    have e0 : (r.map (ai_cv sb N0)).toList ++ rest.map (ai_cv sb N0) = (r.toList ++ rest).map (ai_cv sb N0) := by cases r <;> rfl
    rw [e0]
    exact k0
  have pre : ∀ q' : ai_M, ∀ U : State, U.heap = H → s.WarmedH U.vm → ai_Pc sb N0 D cA h av (av.map (ai_cv sb N0)).toArray U := fun q' U hU hW => ⟨rfl, by rw [hU]; exact hP, ai_G.moved hW hG⟩
  -- static
  have stat : ∀ (idx g' : Nat) (q' : ai_M), i = .invokestatic idx → ai_mt[g']? = some q' → g' < 162 → q'.2.2.2.2 = 1 → ai_inv g' pc 1 = some (op, a, b, v, tb, nx) → len = 3 →
      ((Cond.methodLink q.1.cls idx q'.1 ∈ ai_ws ∧ Cond.static q'.1 ∈ ai_ws) ∨ (Cond.methodLinkNest q.1.cls idx q'.1 "PredictionMaker" ∈ ai_nt.flatMap ai_nl ∧ Cond.static q'.1 ∈ ai_ws)) → W p l e R s m args below meth c H locs cells slots Q (F0 m pc ls (st.map (ai_cv sb N0))) := by
    intro idx g' q' hi hq' hg' hk1 hinv hlen hw
    subst hi
    subst hlen
    obtain ⟨q9, hq9, -, rfl, rfl, h37, -⟩ := ai_inv_inv hinv
    cases hq9.symm.trans hq'
    obtain ⟨rfl, rfl⟩ := h37 rfl
    obtain ⟨hdd, hml30, hA, -, -⟩ := ai_callee hq' hg'
    simp only [ai_st5, reduceIte] at hs
    split at hs
    · rename_i hcnd
      obtain ⟨hb1, hc1, hr8⟩ := hcnd
      simp only [Option.some.injEq, Sum.inr.injEq, Prod.mk.injEq] at hs
      obtain ⟨rfl, rfl, rfl⟩ := hs
      have hav1 : ai_c1 (List.take (ai_nargs q'.1) st).reverse = true := ai_c1_mem hc1 (fun v hv => List.mem_of_mem_take (List.mem_reverse.mp hv))
      have hrest1 : ai_c1 (List.drop (ai_nargs q'.1) st) = true := ai_c1_mem hc1 (fun v hv => List.mem_of_mem_drop hv)
      have havl : (List.take (ai_nargs q'.1) st).reverse.length = ai_nargs q'.1 := by rw [List.length_reverse, List.length_take]; omega
      have hMet := hM d a q' _ h r h1 D cA sb N0 mc ms hq' hg' hav1 (by rw [havl]; exact hA hk1) hex hmc hms
      have hstack : st.map (ai_cv sb N0) = ((List.take (ai_nargs q'.1) st).reverse.map (ai_cv sb N0)).reverse ++ (List.drop (ai_nargs q'.1) st).map (ai_cv sb N0) := by
        rw [List.map_reverse, List.reverse_reverse, ← List.map_append, List.take_append_drop]
      have hroom : (((List.drop (ai_nargs q'.1) st).map (ai_cv sb N0)).map fun v => v.category).sum ≤ 8 := by rw [ai_c1_sum hrest1]; exact hr8
      refine fin rfl ⟨((List.take (ai_nargs q'.1) st).reverse.map (ai_cv sb N0)).toArray, ?_⟩
      rcases hw with ⟨w1, w2⟩ | ⟨w1, w2⟩
      · exact va_runS (As := (List.take (ai_nargs q'.1) st).reverse.map (ai_cv sb N0)) ⟨hx, hb, hml, hown, hts⟩ hMet (va_cwS (ai_nargs q'.1) hts (ai_goodl (fun w hw9 => by
            rcases List.mem_append.mp hw9 with h9 | h9
            · simp only [List.mem_cons, List.not_mem_nil, or_false] at h9
              rcases h9 with rfl | rfl | rfl
              · exact w1
              · exact w2
              · exact ai_init_in hq' hg'
            · exact ai_yw_in hq' hg' w h9)) rfl rfl rfl hdd ⟨hRd.1, by show 8 + (q'.2.2.1 + 11) + 64 * d ≤ _; omega⟩) ⟨ai_blind _ _ _ _ _ _, pre q'⟩ rfl (by rw [List.length_map, havl]) hl.1 hstack (lv_room hroom) hd ⟨hRc, hRs⟩
      · exact va_runSN (As := (List.take (ai_nargs q'.1) st).reverse.map (ai_cv sb N0)) ⟨hx, hb, hml, hown, hts⟩ hMet ⟨va_cnB (ai_nargs q'.1) hts (ai_good hq' hg') rfl rfl rfl (hG.2.1 _ w1) (hts _ (ai_init_in hq' hg')) hdd ⟨hRd.1, by show 8 + (q'.2.2.1 + 11) + 64 * d ≤ _; omega⟩, hts _ w2, trivial⟩ ⟨ai_blind _ _ _ _ _ _, pre q'⟩ rfl (by rw [List.length_map, havl]) hl.1 hstack (lv_room hroom) hd ⟨hRc, hRs⟩
    · cases hs
  -- the rest of an instance call, behind its receiver
  have inst : ∀ (g' k' : Nat) (q' : ai_M), ai_mt[g']? = some q' → g' < 162 → q'.2.2.2.2 = k' → k' ≠ 1 → ai_inv g' pc k' = some (op, a, b, v, tb, nx) →
      (∀ (q0 : Nat) (As : List Value), av.map (ai_cv sb N0) = .ref (N0 + q0) :: As → As.length = ai_nargs q'.1 → st.map (ai_cv sb N0) = As.reverse ++ .ref (N0 + q0) :: rest.map (ai_cv sb N0) → ((rest.map (ai_cv sb N0)).map fun v => v.category).sum ≤ 8 →
        (∃ cellB : Cell, H[N0 + q0]? = some cellB ∧ cellB.vm.isStatics = false ∧ s.vm.findClass q'.1.cls = some cellB.cls) → Met l q'.1 (ai_yw q') (ai_rm d mc ms) (ai_Pc sb N0 D cA h av) (ai_Qc sb N0 D cA h1 r) mc ms (fun x => N0 ≤ x) →
        va_Run p l e R s m args below meth c H locs cells slots mc ms (F0 m pc ls (st.map (ai_cv sb N0))) (rest.map (ai_cv sb N0)) (ai_Qc sb N0 D cA h1 r (Value.ref (N0 + q0) :: As).toArray) (fun x => N0 ≤ x)) →
      W p l e R s m args below meth c H locs cells slots Q (F0 m pc ls (st.map (ai_cv sb N0))) := by
    intro g' k' q' hq' hg' hk' hk1 hinv hgo
    obtain ⟨q9, hq9, -, rfl, rfl, -, h38⟩ := ai_inv_inv hinv
    cases hq9.symm.trans hq'
    obtain ⟨hop2, rfl, rfl⟩ := h38 hk1
    obtain ⟨hdd, hml30, -, hA, -⟩ := ai_callee hq' hg'
    rw [hk'] at hA
    obtain ⟨hA1, r9, hr9, hr9n⟩ := hA hk1
    have key : ∃ (q0 : Nat) (avt : List Value), (List.take (ai_nargs q'.1 + 1) st).reverse = .ref q0 :: avt ∧ (ai_kd h q0 = some (ai_cno q'.1.cls) ∧ ai_nargs q'.1 + 1 ≤ st.length ∧ ai_c1 st = true ∧ (st.drop (ai_nargs q'.1 + 1)).length ≤ 8) ∧ a = g ∧ (List.take (ai_nargs q'.1 + 1) st).reverse = av ∧ st.drop (ai_nargs q'.1 + 1) = rest := by
      rw [hop2] at hs
      by_cases h0 : k' = 0
      · rw [if_pos h0] at hs
        simp only [ai_st5, reduceIte, Nat.reduceEqDiff, Nat.reduceAdd] at hs
        split at hs
        · rename_i q0 avt hrev
          split at hs
          · rename_i hcnd
            simp only [Option.some.injEq, Sum.inr.injEq, Prod.mk.injEq] at hs
            exact ⟨q0, avt, hrev, hcnd, hs.1, hs.2.1, hs.2.2⟩
          · cases hs
        · cases hs
      · rw [if_neg h0] at hs
        simp only [ai_st5, reduceIte, Nat.reduceEqDiff, Nat.reduceAdd] at hs
        split at hs
        · rename_i q0 avt hrev
          split at hs
          · rename_i hcnd
            simp only [Option.some.injEq, Sum.inr.injEq, Prod.mk.injEq] at hs
            exact ⟨q0, avt, hrev, hcnd, hs.1, hs.2.1, hs.2.2⟩
          · cases hs
        · cases hs
    clear hs
    obtain ⟨q0, avt, hrev, ⟨hkd, hb1, hc1, hr8⟩, rfl, rfl, rfl⟩ := key
    have hav1 : ai_c1 (List.take (ai_nargs q'.1 + 1) st).reverse = true := ai_c1_mem hc1 (fun v hv => List.mem_of_mem_take (List.mem_reverse.mp hv))
    have hrest1 : ai_c1 (List.drop (ai_nargs q'.1 + 1) st) = true := ai_c1_mem hc1 (fun v hv => List.mem_of_mem_drop hv)
    have havl : (List.take (ai_nargs q'.1 + 1) st).reverse.length = ai_nargs q'.1 + 1 := by rw [List.length_reverse, List.length_take]; omega
    have hMet := hM d a q' _ h r h1 D cA sb N0 mc ms hq' hg' hav1 (by rw [havl]; exact hA1) hex hmc hms
    obtain ⟨n9, hn9⟩ := ai_kd_at hkd
    have hrec := va_recv hG.1 (hP.hit hn9) (ci := ai_cno q'.1.cls) (q := r9) (q0 := 0) hr9 (by rw [ai_E_obj N0 cA _ _ n9 (ai_k8 hr9)]; rfl)
    rw [hr9n] at hrec
    have hmapav : (List.take (ai_nargs q'.1 + 1) st).reverse.map (ai_cv sb N0) = .ref (N0 + q0) :: avt.map (ai_cv sb N0) := by rw [hrev]; rfl
    have hstack : st.map (ai_cv sb N0) = (avt.map (ai_cv sb N0)).reverse ++ .ref (N0 + q0) :: (List.drop (ai_nargs q'.1 + 1) st).map (ai_cv sb N0) := by
      have e1 : st.map (ai_cv sb N0) = ((List.take (ai_nargs q'.1 + 1) st).reverse.map (ai_cv sb N0)).reverse ++ (List.drop (ai_nargs q'.1 + 1) st).map (ai_cv sb N0) := by
        rw [List.map_reverse, List.reverse_reverse, ← List.map_append, List.take_append_drop]
      rw [e1, hmapav, List.reverse_cons, List.append_assoc]
      rfl
    have hlen : (avt.map (ai_cv sb N0)).length = ai_nargs q'.1 := by
      rw [hrev] at havl
      rw [List.length_map]
      simpa using havl
    refine fin rfl ⟨_, hgo q0 _ hmapav hlen hstack (by rw [ai_c1_sum hrest1]; exact hr8) hrec hMet⟩
  have bound : ∀ q' : ai_M, q'.2.2.1 ≤ 30 → 8 + (q'.2.2.1 + 11) + (ai_rm d mc ms).locals ≤ R.locals := fun q' h9 => by show 8 + (q'.2.2.1 + 11) + 64 * d ≤ _; omega
  have hop39 : op ≤ 39 := by
    unfold ai_st5 at hs
    apply Nat.le_of_not_lt
    intro h9
    rw [if_neg (by omega), if_neg (by omega), if_neg (by omega)] at hs
    repeat' (split at hs)
    all_goals simp at hs
  cases i with
  | invokestatic idx =>
    simp only [ai_res] at hr
    split at hr
    · obtain ⟨h1, he⟩ := ai_g_inv hr; cases he; omega
    · split at hr
      · rename_i hlen
        split at hr
        · rename_i g' hcall
          obtain ⟨hg', hw⟩ := ai_call_ok hcall
          obtain ⟨q', hq', hk', -, -, -, -⟩ := ai_inv_inv hr
          unfold ai_lw at hw
          rw [hq'] at hw
          obtain ⟨y', cc', ml', ret', k'⟩ := q'
          dsimp only at hk'
          subst hk'
          exact stat idx g' _ rfl hq' hg' rfl hr hlen (Or.inl ⟨hw _ (by simp), hw _ (by simp)⟩)
        · obtain ⟨g', hcall, hr⟩ := ai_bind_inv hr
          obtain ⟨hg', hw, hnl⟩ := ai_ncall_ok hcall
          obtain ⟨q', hq', hk', -, -, -, -⟩ := ai_inv_inv hr
          unfold ai_nw at hw
          unfold ai_nl at hnl
          rw [hq'] at hw hnl
          obtain ⟨y', cc', ml', ret', k'⟩ := q'
          dsimp only at hk'
          subst hk'
          exact stat idx g' _ rfl hq' hg' rfl hr hlen (Or.inr ⟨hnl _ (by simp), hw _ (by simp)⟩)
      · cases hr
  | invokevirtual idx =>
    simp only [ai_res] at hr
    split at hr
    · rename_i hlen
      subst hlen
      obtain ⟨g', hcall, hr⟩ := ai_bind_inv hr
      obtain ⟨hg', hw⟩ := ai_call_ok hcall
      obtain ⟨q', hq', hk', -, -, -, -⟩ := ai_inv_inv hr
      unfold ai_lw at hw
      rw [hq'] at hw
      obtain ⟨y', cc', ml', ret', k'⟩ := q'
      dsimp only at hk'
      subst hk'
      obtain ⟨hdd, hml30, -, -, -⟩ := ai_callee hq' hg'
      refine inst g' 0 _ hq' hg' rfl (by decide) hr fun q0 As hav hlen hstack hroom hrec hMet => ?_
      exact va_runV (As := As) ⟨hx, hb, hml, hown, hts⟩ hMet (cwV (ai_nargs y') hts (ai_goodl (fun w hw9 => by
            rcases List.mem_append.mp hw9 with h9 | h9
            · simp only [List.mem_cons, List.not_mem_nil, or_false] at h9
              rcases h9 with rfl | rfl | rfl | rfl
              · exact hw _ (by simp)
              · exact hw _ (by simp)
              · exact hw _ (by simp)
              · exact ai_init_in hq' hg'
            · exact ai_yw_in hq' hg' w h9)) rfl rfl rfl ⟨rfl, hdd⟩ ⟨hRd.1, bound _ hml30⟩) ⟨ai_blind _ _ _ _ _ _, hrec, fun U hU hW => by rw [← hav]; exact pre (y', cc', ml', ret', 0) U hU hW⟩ rfl hlen hl.1 hstack (lv_room hroom) hd ⟨hRc, hRs⟩
    · cases hr
  | invokespecial idx =>
    simp only [ai_res] at hr
    split at hr
    · obtain ⟨h1, he⟩ := ai_g_inv hr; cases he; omega
    · split at hr
      · rename_i hlen
        subst hlen
        split at hr
        · rename_i g' hcall
          obtain ⟨hg', hw⟩ := ai_call_ok hcall
          obtain ⟨q', hq', hk', -, -, -, -⟩ := ai_inv_inv hr
          unfold ai_lw at hw
          rw [hq'] at hw
          obtain ⟨y', cc', ml', ret', k'⟩ := q'
          dsimp only at hk'
          subst hk'
          obtain ⟨hdd, hml30, -, -, hini⟩ := ai_callee hq' hg'
          obtain ⟨hnm9, hret9⟩ := hini (by show ¬ 2 ≤ 1; omega)
          dsimp only at hret9
          subst hret9
          refine inst g' 2 _ hq' hg' rfl (by decide) hr fun q0 As hav hlen hstack hroom hrec hMet => ?_
          exact va_runI (As := As) ⟨hx, hb, hml, hown, hts⟩ hMet (cwI (ai_nargs y') hts (ai_good hq' hg') rfl rfl rfl (hts _ (ai_init_in hq' hg')) (hts _ (hw _ (by simp))) (hts _ (hw _ (by simp))) hnm9 hdd ⟨hRd.1, bound _ hml30⟩) ⟨ai_blind _ _ _ _ _ _, fun U hU hW => by rw [← hav]; exact pre (y', cc', ml', none, 2) U hU hW⟩ rfl hlen hl.1 hstack (lv_room hroom) hd ⟨hRc, hRs⟩
        · obtain ⟨g', hcall, hr⟩ := ai_bind_inv hr
          obtain ⟨hg', hw, hnl⟩ := ai_ncall_ok hcall
          obtain ⟨q', hq', hk', -, -, -, -⟩ := ai_inv_inv hr
          unfold ai_nw at hw
          unfold ai_nl at hnl
          rw [hq'] at hw hnl
          obtain ⟨y', cc', ml', ret', k'⟩ := q'
          dsimp only at hk'
          subst hk'
          obtain ⟨hdd, hml30, -, -, hini⟩ := ai_callee hq' hg'
          obtain ⟨hnm9, hret9⟩ := hini (by show ¬ 2 ≤ 1; omega)
          dsimp only at hret9
          subst hret9
          refine inst g' 2 _ hq' hg' rfl (by decide) hr fun q0 As hav hlen hstack hroom hrec hMet => ?_
          exact va_runIN (As := As) ⟨hx, hb, hml, hown, hts⟩ hMet ⟨va_cnB (ai_nargs y') hts (ai_good hq' hg') rfl rfl rfl (hG.2.1 _ (hnl (Cond.methodLinkNest q.1.cls idx y' "PredictionMaker") (by simp))) (hts _ (ai_init_in hq' hg')) hdd ⟨hRd.1, bound _ hml30⟩, hnm9, hts _ (hw _ (by simp))⟩ ⟨ai_blind _ _ _ _ _ _, fun U hU hW => by rw [← hav]; exact pre (y', cc', ml', none, 2) U hU hW⟩ rfl hlen hl.1 hstack (lv_room hroom) hd ⟨hRc, hRs⟩
      · cases hr
  | iconst n =>
    obtain ⟨h1, he⟩ := ai_g_inv hr; cases he; omega
  | bipush n =>
    obtain ⟨h1, he⟩ := ai_g_inv hr; cases he; omega
  | sipush n =>
    obtain ⟨h1, he⟩ := ai_g_inv hr; cases he; omega
  | iload_n k =>
    obtain ⟨h1, he⟩ := ai_g_inv hr; cases he; omega
  | iload k =>
    obtain ⟨h1, he⟩ := ai_g_inv hr; cases he; omega
  | aload_n k =>
    obtain ⟨h1, he⟩ := ai_g_inv hr; cases he; omega
  | aload k =>
    obtain ⟨h1, he⟩ := ai_g_inv hr; cases he; omega
  | istore_n k =>
    obtain ⟨h1, he⟩ := ai_g_inv hr; cases he; omega
  | istore k =>
    obtain ⟨h1, he⟩ := ai_g_inv hr; cases he; omega
  | astore_n k =>
    obtain ⟨h1, he⟩ := ai_g_inv hr; cases he; omega
  | astore k =>
    obtain ⟨h1, he⟩ := ai_g_inv hr; cases he; omega
  | iinc k n =>
    obtain ⟨h1, he⟩ := ai_g_inv hr; cases he; omega
  | iadd =>
    obtain ⟨h1, he⟩ := ai_g_inv hr; cases he; omega
  | isub =>
    obtain ⟨h1, he⟩ := ai_g_inv hr; cases he; omega
  | imul =>
    obtain ⟨h1, he⟩ := ai_g_inv hr; cases he; omega
  | iand =>
    obtain ⟨h1, he⟩ := ai_g_inv hr; cases he; omega
  | ishl =>
    obtain ⟨h1, he⟩ := ai_g_inv hr; cases he; omega
  | ishr =>
    obtain ⟨h1, he⟩ := ai_g_inv hr; cases he; omega
  | ixor =>
    obtain ⟨h1, he⟩ := ai_g_inv hr; cases he; omega
  | idiv =>
    obtain ⟨h1, he⟩ := ai_g_inv hr; cases he; omega
  | irem =>
    obtain ⟨h1, he⟩ := ai_g_inv hr; cases he; omega
  | ineg =>
    obtain ⟨h1, he⟩ := ai_g_inv hr; cases he; omega
  | i2c =>
    obtain ⟨h1, he⟩ := ai_g_inv hr; cases he; omega
  | dup =>
    obtain ⟨h1, he⟩ := ai_g_inv hr; cases he; omega
  | dup_x1 =>
    obtain ⟨h1, he⟩ := ai_g_inv hr; cases he; omega
  | dup_x2 =>
    obtain ⟨h1, he⟩ := ai_g_inv hr; cases he; omega
  | dup2 =>
    obtain ⟨h1, he⟩ := ai_g_inv hr; cases he; omega
  | pop =>
    obtain ⟨h1, he⟩ := ai_g_inv hr; cases he; omega
  | aconst_null =>
    obtain ⟨h1, he⟩ := ai_g_inv hr; cases he; omega
  | iaload =>
    obtain ⟨h1, he⟩ := ai_g_inv hr; cases he; omega
  | caload =>
    obtain ⟨h1, he⟩ := ai_g_inv hr; cases he; omega
  | aaload =>
    obtain ⟨h1, he⟩ := ai_g_inv hr; cases he; omega
  | iastore =>
    obtain ⟨h1, he⟩ := ai_g_inv hr; cases he; omega
  | castore =>
    obtain ⟨h1, he⟩ := ai_g_inv hr; cases he; omega
  | aastore =>
    obtain ⟨h1, he⟩ := ai_g_inv hr; cases he; omega
  | arraylength =>
    obtain ⟨h1, he⟩ := ai_g_inv hr; cases he; omega
  | ldc n =>
    obtain ⟨w, hw, hr⟩ := ai_bind_inv hr
    obtain ⟨h1, he⟩ := ai_g_inv hr; cases he; omega
  | goto o =>
    obtain ⟨w, hw, hr⟩ := ai_bind_inv hr
    obtain ⟨h1, he⟩ := ai_g_inv hr; cases he; omega
  | if_icmp c o =>
    obtain ⟨w, hw, hr⟩ := ai_bind_inv hr
    obtain ⟨h1, he⟩ := ai_g_inv hr; cases he; omega
  | ifCond c o =>
    obtain ⟨w, hw, hr⟩ := ai_bind_inv hr
    obtain ⟨h1, he⟩ := ai_g_inv hr; cases he; omega
  | ifnull o =>
    obtain ⟨w, hw, hr⟩ := ai_bind_inv hr
    obtain ⟨h1, he⟩ := ai_g_inv hr; cases he; omega
  | ifnonnull o =>
    obtain ⟨w, hw, hr⟩ := ai_bind_inv hr
    obtain ⟨h1, he⟩ := ai_g_inv hr; cases he; omega
  | getfield n =>
    obtain ⟨w, hw, hr⟩ := ai_bind_inv hr
    obtain ⟨h1, he⟩ := ai_g_inv hr
    cases he
    split at hop <;> omega
  | putfield n =>
    obtain ⟨w, hw, hr⟩ := ai_bind_inv hr
    obtain ⟨h1, he⟩ := ai_g_inv hr
    cases he
    split at hop <;> omega
  | new n =>
    obtain ⟨w, hw, hr⟩ := ai_bind_inv hr
    obtain ⟨w, hw, hr⟩ := ai_bind_inv hr
    obtain ⟨h1, he⟩ := ai_g_inv hr; cases he; omega
  | newarray t =>
    simp only [ai_res] at hr
    split at hr
    · obtain ⟨h1, he⟩ := ai_g_inv hr; cases he; omega
    · split at hr
      · obtain ⟨h1, he⟩ := ai_g_inv hr; cases he; omega
      · cases hr
  | anewarray n =>
    obtain ⟨w, hw, hr⟩ := ai_bind_inv hr
    split at hr
    · obtain ⟨h1, he⟩ := ai_g_inv hr; cases he; omega
    · split at hr
      · obtain ⟨h1, he⟩ := ai_g_inv hr; cases he; omega
      · cases hr
  | multianewarray n k =>
    obtain ⟨w, hw, hr⟩ := ai_bind_inv hr
    obtain ⟨h1, he⟩ := ai_g_inv hr; cases he; omega
  | tableswitch df lo hi os =>
    obtain ⟨w, hw, hr⟩ := ai_bind_inv hr
    obtain ⟨w, hw, hr⟩ := ai_bind_inv hr
    obtain ⟨h1, he⟩ := ai_g_inv hr; cases he; omega
  | ireturn | areturn | return_ =>
    simp only [ai_res] at hr
    repeat (split at hr; · (obtain ⟨h1, he⟩ := ai_g_inv hr; cases he; omega))
    cases hr
  | _ => exact absurd hr (by simp [ai_res])
theorem ai_simW (l : Launch) : ∀ n : Nat, ai_SimW l n
  | 0 => fun p e R s m args below meth c Q q D cA sb N0 L0 S0 d X f pc als st h r h' ls H locs cells slots C hm hsx hN hRd hRc hRs hex => by cases hex
  | n + 1 => fun p e R s m args below meth c Q q D cA sb N0 L0 S0 d X f pc als st h r h' ls H locs cells slots C hm hsx hN hRd hRc hRs hex hl hP hS hc hz kend => by
    have ih := ai_simW l n
    rw [ai_exec] at hex
    split at hex
    · cases hex
    · rename_i op a b v tb nx hf
      split at hex
      · cases hex
      · rename_i pc' ls' st' h1 hst
        obtain ⟨E, e1⟩ := ai_exec_in n d X f pc' ls' st' h1 r h' hex
        obtain ⟨g1, g2⟩ := ai_sum_app (h := h1) (h' := h') rfl e1
        refine ai_one C hsx hN hRd hm hf hst (by show h1.1.length ≤ _; omega) (by show ai_sum h1 ≤ _; omega) ?_ hl hP hS hc hz
        intro ls2 H2 locs2 cells2 slots2 hl2 hP2 hS2 hc2 hz2
        exact ih p e R s m args below meth c Q q D cA sb N0 L0 S0 d X f pc' ls' st' h1 r h' ls2 H2 locs2 cells2 slots2 C hm hsx hN hRd hRc hRs hex hl2 hP2 hS2 hc2 hz2 kend
      · rename_i r1 hst
        cases hex
        obtain ⟨hs5, -⟩ := ai_step_not hst
        obtain ⟨hro, rfl⟩ := ai_ro_of hm hf hs5
        exact kend pc ls H locs cells slots hro hP hS hc hz
      · rename_i g av rest hst
        obtain ⟨hs5, hop⟩ := ai_step_not hst
        split at hex
        · cases hex
        · rename_i d'
          split at hex
          · cases hex
          · rename_i r1 h1 hcall
            obtain ⟨E, e1⟩ := ai_exec_in n _ _ _ _ _ _ _ _ _ hcall
            obtain ⟨g1, g2⟩ := ai_sum_app (h := h) (h' := h1) rfl e1
            obtain ⟨E2, e2⟩ := ai_exec_in n _ _ _ _ _ _ _ _ _ hex
            obtain ⟨g3, g4⟩ := ai_sum_app (h := h1) (h' := h') rfl e2
            obtain ⟨mc, hmc⟩ : ∃ mc, mc + h.1.length = h1.1.length := ⟨h1.1.length - h.1.length, by omega⟩
            obtain ⟨ms, hms⟩ : ∃ ms, ms + ai_sum h = ai_sum h1 := ⟨ai_sum h1 - ai_sum h, by omega⟩
            refine ai_calls (ai_met_of ih) C hRd hm hf hop hs5 hcall hl hP hS hmc hms (by omega) (by omega) ?_
            intro H2 locs2 hP2 hS2
            exact ih p e R s m args below meth c Q q D cA sb N0 L0 S0 (d' + 1) X f nx als _ h1 r h' ls H2 locs2 (cells + mc) (slots + ms) C hm hsx hN hRd hRc hRs hex hl hP2 hS2 (by omega) (by omega) kend
end AISW
