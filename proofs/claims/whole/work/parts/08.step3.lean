/-! steps: the heap, reading and writing -/
theorem ai_in_vp {i : Int32} {n : Nat} (h : ai_in i n = true) : vp_in i n := by
  unfold ai_in at h
  unfold vp_in
  simpa using h
theorem ai_E_obj (N0 : Nat) (cA : Nat → ClassId) (fi : Nat → Int32) (fr : Nat → Nat) {k : Nat} (n : Nat) (h : k < 8) : ai_E N0 cA fi fr k n = .inr (k, ai_fs N0 k fi fr) := if_pos h
theorem ai_fs_get {N0 k j : Nat} {fi : Nat → Int32} {fr : Nat → Nat} {q : vw_C} (h : vwCl[k]? = some q) (hj : j < q.2.2) : (ai_fs N0 k fi fr)[j]? = some (if ai_isref k j then va_rf (ai_rn N0 (fr j)) else .int (fi j)) := by
  have e : ai_nf k = q.2.2 := by unfold ai_nf; rw [h]; rfl
  unfold ai_fs
  rw [List.getElem?_map, e, List.getElem?_range hj]
  rfl
theorem ai_fs_len {N0 k : Nat} {fi : Nat → Int32} {fr : Nat → Nat} {q : vw_C} (h : vwCl[k]? = some q) : (ai_fs N0 k fi fr).length = q.2.2 := by
  have e : ai_nf k = q.2.2 := by unfold ai_nf; rw [h]; rfl
  unfold ai_fs
  rw [List.length_map, List.length_range, e]
theorem ai_fs_seti {N0 k j : Nat} {fi : Nat → Int32} {fr : Nat → Nat} (hr : ai_isref k j = false) (x : Int32) : ai_fs N0 k (fun i => if i = j then x else fi i) fr = (ai_fs N0 k fi fr).set j (.int x) := by
  apply List.ext_getElem?
  intro i
  unfold ai_fs
  rw [List.getElem?_set]
  by_cases hi : i < ai_nf k
  · by_cases hj : j = i
    · subst hj
      simp [hi, hr]
    · simp [hi, hj, Ne.symm hj]
  · have e1 : ((List.range (ai_nf k)).map (fun j' => if ai_isref k j' then va_rf (ai_rn N0 (fr j')) else .int ((fun i => if i = j then x else fi i) j')))[i]? = none := List.getElem?_eq_none (by simp; omega)
    have e2 : ((List.range (ai_nf k)).map (fun j' => if ai_isref k j' then va_rf (ai_rn N0 (fr j')) else Value.int (fi j')))[i]? = none := List.getElem?_eq_none (by simp; omega)
    rw [e1, e2]
    simp
    omega
theorem ai_fs_setr {N0 k j : Nat} {fi : Nat → Int32} {fr : Nat → Nat} (hr : ai_isref k j = true) (x : Nat) : ai_fs N0 k fi (fun i => if i = j then x else fr i) = (ai_fs N0 k fi fr).set j (va_rf (ai_rn N0 x)) := by
  apply List.ext_getElem?
  intro i
  unfold ai_fs
  rw [List.getElem?_set]
  by_cases hi : i < ai_nf k
  · by_cases hj : j = i
    · subst hj
      simp [hi, hr]
    · simp [hi, hj, Ne.symm hj]
  · have e1 : ((List.range (ai_nf k)).map (fun j' => if ai_isref k j' then va_rf (ai_rn N0 ((fun i => if i = j then x else fr i) j')) else .int (fi j')))[i]? = none := List.getElem?_eq_none (by simp; omega)
    have e2 : ((List.range (ai_nf k)).map (fun j' => if ai_isref k j' then va_rf (ai_rn N0 (fr j')) else Value.int (fi j')))[i]? = none := List.getElem?_eq_none (by simp; omega)
    rw [e1, e2]
    simp
    omega
section AIS3
variable {p : Program} {l : Launch} {e : Env} {R : Room} {s : State} {m : MethodId} {args : Array Value} {below : List Frame} {meth : Method} {c : Code} {Q : State → Prop}
variable {q : ai_M} {D : va_G} {cA : Nat → ClassId} {sb N0 L0 S0 d : Nat} {X : ai_X}

theorem ai_k8 {k : Nat} {r : vw_C} (h : vwCl[k]? = some r) : k < 8 := (List.getElem?_eq_some_iff.mp h).1
/-- a field is written -/
theorem ai_putW (hx : p.tables.exec = Jvm.exec) (hb : c.code = q.2.1) (hown : s.vm.findClass q.1.cls = some m.cls) (hts : ∀ w ∈ ai_ws, w.before args s = true) (hnm : q.1.name = "<init>" → meth.name = "<init>") (hG : ai_G D cA s)
    {k j n a index pc : Nat} {r : vw_C} {v : Value} {rest : List Value} {h : ai_H} {H : Heap} {locs : List Loc} {cells slots : Nat} {ls : Array Slot} (hr1 : vwCl[k]? = some r) (hr2 : j < r.2.2) (hlink : Cond.fieldLink q.1.cls index r.1 (r.2.1 j).2.1 (r.2.1 j).2.2.1 ∈ ai_ws)
    (hfin : (!(ai_final k j) || (q.1.name == "<init>" && q.1.cls == ai_own k)) = true) (hn : h.1[a]? = some (k, n)) (hP : ai_P N0 D cA h H) (hS : va_S (fun x => N0 ≤ x) s.heap H locs)
    (hnar : narrow (ai_ty r j) v = v) (hfit : fits (ai_ty r j) v = true) (hd : decode q.2.1 pc = .ok (.putfield index, 3))
    (kk : ∀ (H1 : Heap) (locs1 : List Loc), H1.size = H.size → (∀ x : Nat, x ≠ N0 + a → H1[x]? = H[x]?) → va_at D vwCl (N0 + a, .inr (k, (ai_fs N0 k (h.2.1 a) (h.2.2 a)).set j v)) H1 → va_S (fun x => N0 ≤ x) s.heap H1 locs1 →
      W p l e R s m args below meth c H1 locs1 cells slots Q (F0 m (pc + 3) ls rest)) : W p l e R s m args below meth c H locs cells slots Q (F0 m pc ls (v :: .ref (N0 + a) :: rest)) := by
  have hin := (ai_cl_in hr1).1
  have hty := ai_ty_ok hr1
  have hnm2 := (ai_cl_b hr1).2
  have hdecl := ai_ty_own hr1 j hr2
  obtain ⟨C, T, N⟩ := r
  have hap := va_apart (own := C) hts hin _ hty hnm2 hG.1 hr1
  have hat := (hP.2 _ _ _ hn).1
  rw [ai_E_obj N0 cA _ _ n (ai_k8 hr1)] at hat
  obtain ⟨r9, h1, cell, q1, q2, q3, q4⟩ := hat
  have hr9 : r9 = (C, T, N) := Option.some.inj (h1.symm.trans hr1)
  subst hr9
  obtain ⟨hSl, hfc, kC, hkC, hkind⟩ := hG.1.1 k _ hr1
  obtain ⟨cf, kf, fi, f, hi, hsl⟩ := hSl j hr2
  have hlay := hts _ (hin _ (u_in_lay hr2))
  have hst := (u_facts hfc hkC (u_lays hts hin hr2) hi).1
  have hi2 : s.fieldFound? C (T j).2.1 (T j).2.2.1 = some (cf, kf, fi, f) := by
    have h9 : (T j).1 = C := hdecl
    rw [← h9]; exact hi
  have hlen : j < (ai_fs N0 k (h.2.1 a) (h.2.2 a)).length := by rw [ai_fs_len hr1]; exact hr2
  have fin : ∀ H' : Heap, H'[N0 + a]? = some (cell.setSlot f.slot v) → H'.size = H.size → (∀ x : Nat, x ≠ N0 + a → H'[x]? = H[x]?) → W p l e R s m args below meth c H' (locs ++ [⟨N0 + a, f.slot⟩]) cells slots Q (F0 m (pc + 3) ls rest) := by
    intro H' e1 e2 e3
    rw [hsl] at e1 ⊢
    exact kk H' _ e2 e3 ⟨_, hr1, t_OB.to (V := updV (vp_V (ai_fs N0 k (h.2.1 a) (h.2.2 a))) j v) ⟨_, e1, q2, q3, t_set q4 hap hr2 v⟩ (fun i _ => vp_updV_set hlen v i)⟩ (hS.put e2 e3 (Nat.le_add_right _ _))
  unfold u_lay at hlay
  have hfinal : ai_final k j = (T j).2.2.2 := by unfold ai_final; rw [hr1]; rfl
  have hownk : ai_own k = C := by unfold ai_own; rw [hr1]; rfl
  by_cases hf : (T j).2.2.2 = true
  · rw [if_pos hf] at hlay
    rw [hfinal, hf, hownk] at hfin
    simp only [Bool.not_true, Bool.false_or, Bool.and_eq_true, beq_iff_eq] at hfin
    have hcf : m.cls = cf := by
      obtain ⟨_, _, c', _, _, _, -, -, hf', -, -, -, hown2, -⟩ := Cond.laysFinal_spec hlay
      have e1 : c' = cf := by have := hi.symm.trans hf'; simp at this; exact this.1.symm
      have h9 : (T j).1 = C := hdecl
      rw [h9, ← hfin.2] at hown2
      rw [← e1]; exact Option.some.inj (hown.symm.trans hown2)
    have h6 := u_fits hfc hkC hkind (Or.inr hlay) hi (hty j hr2) hnar hfit
    exact W.putFinK hx hb hown (hts _ hlink) hi2 hst hcf (hnm hfin.1) (by rw [q2]; exact h6) q1 q3 (by rw [hsl]; exact k2_hasslot (q4 j hr2)) rfl rfl hd fin
  · rw [if_neg hf] at hlay
    have h6 := u_store hfc hkC hkind hlay hi (hty j hr2) hnar hfit
    exact W.putK hx hb (f := f) ⟨hown, hts _ hlink, ⟨_, _, _, hi2⟩, hst⟩ (by rw [q2]; exact h6) q1 q3 (by rw [hsl]; exact k2_hasslot (q4 j hr2)) rfl rfl hd fin
theorem ai_one3 (C : ai_Cx p s m args meth c q D cA) (hsx : ai_Sx X sb N0 s) {i : Instr} {len pc op a b : Nat} {v : Int32} {tb : List Nat} {nx : Nat} (hd : decode q.2.1 pc = .ok (i, len)) (hr : ai_res q.1 q.2.2.2.1 pc i len = some (op, a, b, v, tb, nx)) (hop : 22 ≤ op ∧ op ≤ 32)
    {als st : List Value} {h : ai_H} {o : Nat × List Value × List Value × ai_H} (hs : ai_st3 X op a b nx als st h = some (.inl o)) (kk : ai_K p l e R s m args below meth c Q q D cA sb N0 L0 S0 o)
    {ls : Array Slot} {H : Heap} {locs : List Loc} {cells slots : Nat} (hl : ai_L sb N0 q.2.2.1 als ls) (hP : ai_P N0 D cA h H) (hS : va_S (fun x => N0 ≤ x) s.heap H locs) (hc : cells + L0 = h.1.length) (hz : slots + S0 = ai_sum h) :
    W p l e R s m args below meth c H locs cells slots Q (F0 m pc ls (st.map (ai_cv sb N0))) := by
  obtain ⟨hx, hb, hml, hown, hts, hnm, hG⟩ := C
  cases i with
  | getfield n =>
    obtain ⟨⟨k, j⟩, hw, hr⟩ := ai_bind_inv hr
    obtain ⟨h1, he⟩ := ai_g_inv hr
    obtain rfl := ai_len h1
    obtain ⟨r, hr1, hr2, hr3⟩ := ai_fld_ok hw
    have hin := (ai_cl_in hr1).1
    have hdecl := ai_ty_own hr1 j hr2
    cases hrf : ai_isref k j with
    | true =>
      simp only [hrf, if_true] at he
      cases he
      simp only [ai_st3, reduceIte, Nat.reduceEqDiff, reduceCtorEq, if_false, Nat.one_ne_zero, Nat.succ_ne_zero] at hs
      split at hs
      · split at hs
        · rename_i a0 st0 hk
          cases hs
          obtain ⟨n', hn⟩ := ai_kd_at hk
          have k0 := kk _ _ _ _ _ hl hP hS hc hz
          dsimp only at k0
          rw [List.map_cons, ai_cv_rv] at k0
          refine va_get (D := D) (cl := vwCl) (C := r.1) (T := r.2.1) (N := r.2.2) (ci := a) (ref := r.1) (v := va_rf (ai_rn N0 (h.2.2 a0 b))) hx hb hts hin hown hG.1 (hP.hit hn) 0 (by rw [ai_E_obj N0 cA _ _ n' (ai_k8 hr1)]; rfl) hr1 b hr2 (hts _ hr3) (fun x9 h9 => by rw [← hdecl]; exact h9) (by rw [ai_fs_get hr1 hr2, hrf]; rfl) hd k0
        · cases hs
      · cases hs
    | false =>
      simp only [hrf, Bool.false_eq_true, if_false] at he
      cases he
      simp only [ai_st3, reduceIte, Nat.reduceEqDiff, reduceCtorEq, if_false, Nat.one_ne_zero, Nat.succ_ne_zero] at hs
      split at hs
      · split at hs
        · rename_i a0 st0 hk
          cases hs
          obtain ⟨n', hn⟩ := ai_kd_at hk
          have k0 := kk _ _ _ _ _ hl hP hS hc hz
          refine va_get (D := D) (cl := vwCl) (C := r.1) (T := r.2.1) (N := r.2.2) (ci := a) (ref := r.1) (v := .int (h.2.1 a0 b)) hx hb hts hin hown hG.1 (hP.hit hn) 0 (by rw [ai_E_obj N0 cA _ _ n' (ai_k8 hr1)]; rfl) hr1 b hr2 (hts _ hr3) (fun x9 h9 => by rw [← hdecl]; exact h9) (by rw [ai_fs_get hr1 hr2, hrf]; rfl) hd k0
        · cases hs
      · cases hs
  | putfield n =>
    obtain ⟨⟨k, j⟩, hw, hr⟩ := ai_bind_inv hr
    obtain ⟨h1, he⟩ := ai_g_inv hr
    rw [Bool.and_eq_true] at h1
    obtain ⟨h1, hfin⟩ := h1
    obtain rfl := ai_len h1
    obtain ⟨r, hr1, hr2, hr3⟩ := ai_fld_ok hw
    cases hrf : ai_isref k j with
    | true =>
      simp only [hrf, if_true] at he
      cases he
      simp only [ai_st3, reduceIte, Nat.reduceEqDiff, reduceCtorEq, if_false, Nat.one_ne_zero, Nat.succ_ne_zero] at hs
      split at hs
      · split at hs
        · rename_i x0 a0 st0 hk
          cases hs
          obtain ⟨n', hn⟩ := ai_kd_at hk
          refine ai_putW (v := .ref (N0 + x0)) hx hb hown hts hnm hG hr1 hr2 hr3 hfin hn hP hS ?_ ?_ hd (fun H1 locs1 z oq he hS1 => kk _ _ _ _ _ hl (hP.put hn rfl z oq (fun _ _ => rfl) (fun a9 h9 => ai_u_other _ _ _ _ h9) ?_) hS1 hc hz)
          · rcases ai_ty_ref hr1 hr2 hrf with ⟨n9, e9⟩ | ⟨t9, e9⟩ <;> rw [e9] <;> rfl
          · rcases ai_ty_ref hr1 hr2 hrf with ⟨n9, e9⟩ | ⟨t9, e9⟩ <;> rw [e9] <;> rfl
          · show va_at D vwCl (N0 + a0, ai_E N0 cA (h.2.1 a0) (ai_u h.2.2 a0 b (x0 + 1) a0) a n') H1
            rw [ai_E_obj N0 cA _ _ n' (ai_k8 hr1), ai_u_same, ai_fs_setr hrf]
            exact he
        · cases hs
      · cases hs
    | false =>
      simp only [hrf, Bool.false_eq_true, if_false] at he
      cases he
      simp only [ai_st3, reduceIte, Nat.reduceEqDiff, reduceCtorEq, if_false, Nat.one_ne_zero, Nat.succ_ne_zero] at hs
      split at hs
      · split at hs
        · rename_i x0 a0 st0 hk
          cases hs
          obtain ⟨hk, hbool⟩ := hk
          obtain ⟨n', hn⟩ := ai_kd_at hk
          have hb01 : ai_ty r b = .int ∨ (ai_ty r b = .boolean ∧ (x0 = 0 ∨ x0 = 1)) := by
            rcases ai_ty_int hr1 hr2 hrf with e9 | ⟨e9, e8⟩
            · exact Or.inl e9
            · rcases hbool with e7 | e7
              · rw [e8] at e7; cases e7
              · exact Or.inr ⟨e9, e7⟩
          refine ai_putW (v := .int x0) hx hb hown hts hnm hG hr1 hr2 hr3 hfin hn hP hS ?_ ?_ hd (fun H1 locs1 z oq he hS1 => kk _ _ _ _ _ hl (hP.put hn rfl z oq (fun a9 h9 => ai_u_other _ _ _ _ h9) (fun _ _ => rfl) ?_) hS1 hc hz)
          · rcases hb01 with e9 | ⟨e9, rfl | rfl⟩ <;> rw [e9] <;> rfl
          · rcases hb01 with e9 | ⟨e9, rfl | rfl⟩ <;> rw [e9] <;> rfl
          · show va_at D vwCl (N0 + a0, ai_E N0 cA (ai_u h.2.1 a0 b x0 a0) (h.2.2 a0) a n') H1
            rw [ai_E_obj N0 cA _ _ n' (ai_k8 hr1), ai_u_same, ai_fs_seti hrf]
            exact he
        · cases hs
      · cases hs
  | iaload =>
    obtain ⟨h1, he⟩ := ai_g_inv hr; cases he; obtain rfl := ai_len h1
    simp only [ai_st3, reduceIte, Nat.reduceEqDiff, reduceCtorEq, if_false, Nat.one_ne_zero, Nat.succ_ne_zero] at hs
    split at hs
    · split at hs
      · rename_i n' hn
        split at hs
        · rename_i hcnd
          obtain ⟨rfl, hin⟩ := hcnd
          cases hs
          exact va_iald hx hb hG.1 (hP.hit hn) 0 1 rfl rfl (ai_in_vp hin) hd (kk _ _ _ _ _ hl hP hS hc hz)
        · cases hs
      · cases hs
    · split at hs
      · rename_i hin
        cases hs
        rcases hsx with h0 | ⟨hX, hbl, hbA⟩
        · rw [h0] at hin
          have := ai_in_vp hin
          exact absurd (Or.inr (Nat.zero_le _)) this
        · exact va_sld hx hb hX hbl (Nat.not_le.mpr hbA) hS (ai_in_vp hin) hd (kk _ _ _ _ _ hl hP hS hc hz)
      · cases hs
    · cases hs
  | caload =>
    obtain ⟨h1, he⟩ := ai_g_inv hr; cases he; obtain rfl := ai_len h1
    simp only [ai_st3, reduceIte, Nat.reduceEqDiff, reduceCtorEq, if_false, Nat.one_ne_zero, Nat.succ_ne_zero] at hs
    split at hs
    · split at hs
      · rename_i n' hn
        split at hs
        · rename_i hcnd
          obtain ⟨rfl, hin⟩ := hcnd
          cases hs
          exact va_cald hx hb hG.1 (hP.hit hn) 0 0 rfl rfl (ai_in_vp hin) hd (kk _ _ _ _ _ hl hP hS hc hz)
        · cases hs
      · cases hs
    · cases hs
  | aaload =>
    obtain ⟨h1, he⟩ := ai_g_inv hr; cases he; obtain rfl := ai_len h1
    simp only [ai_st3, reduceIte, Nat.reduceEqDiff, reduceCtorEq, if_false, Nat.one_ne_zero, Nat.succ_ne_zero] at hs
    split at hs
    · split at hs
      · rename_i i0 a0 st0 _ kd n' hn
        split at hs
        · rename_i hcnd
          obtain ⟨hk1, hk2, hin⟩ := hcnd
          cases hs
          have k0 := kk _ _ _ _ _ hl hP hS hc hz
          dsimp only at k0
          rw [List.map_cons, ai_cv_rv] at k0
          have hin := ai_in_vp hin
          have hlt : i0.toNatClampNeg < n' := Nat.not_le.mp fun z => hin (Or.inr z)
          have hcell : H[N0 + a0]? = some (arrV (cA kd) n' (fun j => va_rf (ai_rn N0 (h.2.2 a0 j)))) := by
            have h9 := (hP.2 _ _ _ hn).1
            unfold ai_E at h9
            rw [if_neg (by omega), if_neg (by omega)] at h9
            exact h9
          have harr : ArrOfT s (cA kd) (ai_aty kd) ∧ (ai_aty kd).isReference = true := by
            rcases (by omega : kd = 10 ∨ kd = 11 ∨ kd = 12) with rfl | rfl | rfl
            · exact ⟨(hG.1.2 2 _ rfl).1, rfl⟩
            · exact ⟨(hG.1.2 3 _ rfl).1, rfl⟩
            · exact ⟨(hG.1.2 4 _ rfl).1, rfl⟩
          exact W.aald hx hb hcell (harr.1 n' _) harr.2 (fun z => by cases z) (by rw [arrV_size]; exact hin) (by rw [arrV_read _ _ hlt]) rfl rfl hd k0
        · cases hs
      · cases hs
    · cases hs
  | iastore =>
    obtain ⟨h1, he⟩ := ai_g_inv hr; cases he; obtain rfl := ai_len h1
    simp only [ai_st3, reduceIte, Nat.reduceEqDiff, reduceCtorEq, if_false, Nat.one_ne_zero, Nat.succ_ne_zero] at hs
    split at hs
    · split at hs
      · rename_i x0 i0 a0 st0 _ kd n' hn
        split at hs
        · rename_i hcnd
          obtain ⟨rfl, hin⟩ := hcnd
          cases hs
          have hcell : H[N0 + a0]? = some (vp_cell (cA 9) (n', .inl (h.2.1 a0))) := (hP.2 _ _ _ hn).1
          refine W.iast hx hb hcell ((hG.1.2 1 _ rfl).1 n' (fun j => .int (h.2.1 a0 j))) (fun z => by cases z) (by show ¬ (i0 < 0 ∨ (arrV _ _ _).slots.size ≤ _); rw [arrV_size]; exact ai_in_vp hin) rfl rfl hd fun H1 e1 z oq => ?_
          refine kk _ _ _ _ _ hl (hP.put hn rfl z oq (fun a9 h9 => ai_u_other _ _ _ _ h9) (fun _ _ => rfl) ?_) (hS.put z oq (Nat.le_add_right _ _)) hc hz
          show H1[N0 + a0]? = some (vp_cell (cA 9) (n', .inl (ai_u h.2.1 a0 i0.toNatClampNeg x0 a0)))
          rw [e1, vp_cell_i, vp_cell_i, arrV_store]
          congr 2
          funext z9
          by_cases hq9 : z9 = i0.toNatClampNeg
          · subst hq9
            simp [updV, ai_u]
          · simp [updV, ai_u, hq9]
        · cases hs
      · cases hs
    · cases hs
  | castore =>
    obtain ⟨h1, he⟩ := ai_g_inv hr; cases he; obtain rfl := ai_len h1
    simp only [ai_st3, reduceIte, Nat.reduceEqDiff, reduceCtorEq, if_false, Nat.one_ne_zero, Nat.succ_ne_zero] at hs
    split at hs
    · split at hs
      · rename_i x0 i0 a0 st0 _ kd n' hn
        split at hs
        · rename_i hcnd
          obtain ⟨rfl, hin⟩ := hcnd
          cases hs
          have hcell : H[N0 + a0]? = some (vp_cell (cA 8) (n', .inl (h.2.1 a0))) := (hP.2 _ _ _ hn).1
          refine W.cast hx hb hcell ((hG.1.2 0 _ rfl).1 n' (fun j => .int (h.2.1 a0 j))) (fun z => by cases z) (by show ¬ (i0 < 0 ∨ (arrV _ _ _).slots.size ≤ _); rw [arrV_size]; exact ai_in_vp hin) rfl rfl hd fun H1 e1 z oq => ?_
          refine kk _ _ _ _ _ hl (hP.put hn rfl z oq (fun a9 h9 => ai_u_other _ _ _ _ h9) (fun _ _ => rfl) ?_) (hS.put z oq (Nat.le_add_right _ _)) hc hz
          show H1[N0 + a0]? = some (vp_cell (cA 8) (n', .inl (ai_u h.2.1 a0 i0.toNatClampNeg (vp_nar .char x0) a0)))
          rw [e1, vp_cell_i, vp_cell_i, arrV_store]
          congr 2
          funext z9
          by_cases hq9 : z9 = i0.toNatClampNeg
          · subst hq9
            simp [updV, ai_u, vp_nar]
            try rfl
          · simp [updV, ai_u, hq9]
        · cases hs
      · cases hs
    · cases hs
  | aastore =>
    obtain ⟨h1, he⟩ := ai_g_inv hr; cases he; obtain rfl := ai_len h1
    simp only [ai_st3, reduceIte, Nat.reduceEqDiff, reduceCtorEq, if_false, Nat.one_ne_zero, Nat.succ_ne_zero] at hs
    split at hs
    · split at hs
      · rename_i w0 i0 a0 st0 _ kd n' hn
        split at hs
        · rename_i hcnd
          obtain ⟨hkd, hin⟩ := hcnd
          cases hs
          have hin := ai_in_vp hin
          have hlt : i0.toNatClampNeg < n' := Nat.not_le.mp fun z => hin (Or.inr z)
          have h0 : ¬ i0 < 0 := fun z => hin (Or.inl z)
          have hkd10 : kd = 10 ∨ kd = 11 := by rcases hkd with h9 | h9 <;> omega
          have hcell : H[N0 + a0]? = some (vp_cell (cA kd) (n', .inr (.inr (.inr (.inr (fun j => ai_rn N0 (h.2.2 a0 j))))))) := by
            have h9 := (hP.2 _ _ _ hn).1
            unfold ai_E at h9
            rw [if_neg (by omega), if_neg (by omega)] at h9
            exact h9
          obtain ⟨ci, r, hci, hwk, hra⟩ : ∃ ci r, vwCl[ci]? = some r ∧ ai_kd h w0 = some ci ∧ va_RA s (cA kd) (.object r.1) := by
            rcases hkd with ⟨rfl, h9⟩ | ⟨rfl, h9⟩
            · exact ⟨3, _, rfl, h9, (hG.1.2 2 _ rfl).2⟩
            · exact ⟨4, _, rfl, h9, (hG.1.2 3 _ rfl).2⟩
          obtain ⟨nw, hnw⟩ := ai_kd_at hwk
          have hatw := (hP.2 _ _ _ hnw).1
          rw [ai_E_obj N0 cA _ _ nw (ai_k8 hci)] at hatw
          obtain ⟨r', hr', cellV, g1, g2, g3, -⟩ := hatw
          have hcls := (hG.1.1 ci r hci).2
          obtain ⟨kA, comp, k1, k2, k3, -⟩ := hra
          have hcomp : comp = D.1 ci := Option.some.inj (k3.symm.trans hcls.1)
          subst hcomp
          obtain ⟨kC, hkC, -⟩ := hcls.2
          refine W.aast hx hb hcell (fun z h9 => by cases h9) (fun h9 => by cases h9) k1 k2 rfl hkC ⟨h0, by show _ < (arrV _ _ _).slots.size; rw [arrV_size]; exact hlt⟩ g1 (fun z h9 => by rw [g3] at h9; cases h9) (by rw [g2]; exact hkC) (by rw [g2]; exact va_assign hcls) rfl rfl hd fun H1 e1 z oq => ?_
          refine kk _ _ _ _ _ hl (hP.put hn rfl z oq (fun _ _ => rfl) (fun a9 h9 => ai_u_other _ _ _ _ h9) ?_) (hS.put z oq (Nat.le_add_right _ _)) hc hz
          have eE : ai_E N0 cA (h.2.1 a0) (ai_u h.2.2 a0 i0.toNatClampNeg (w0 + 1) a0) kd n' = .inl (cA kd, n', .inr (.inr (.inr (.inr (fun j => ai_rn N0 (ai_u h.2.2 a0 i0.toNatClampNeg (w0 + 1) a0 j)))))) := by
            unfold ai_E
            rw [if_neg (by omega), if_neg (by omega)]
          show va_at D vwCl (N0 + a0, ai_E N0 cA (h.2.1 a0) (ai_u h.2.2 a0 i0.toNatClampNeg (w0 + 1) a0) kd n') H1
          rw [eE]
          show H1[N0 + a0]? = some (vp_cell _ _)
          rw [e1, vp_cell_q, vp_cell_q, arrV_store]
          congr 2
          funext z9
          by_cases hq9 : z9 = i0.toNatClampNeg
          · subst hq9
            simp [updV, ai_u, ai_rn, va_rf]
          · simp [updV, ai_u, hq9]
        · cases hs
      · cases hs
    · cases hs
  | arraylength =>
    obtain ⟨h1, he⟩ := ai_g_inv hr; cases he; obtain rfl := ai_len h1
    simp only [ai_st3, reduceIte, Nat.reduceEqDiff, reduceCtorEq, if_false, Nat.one_ne_zero, Nat.succ_ne_zero] at hs
    split at hs
    · split at hs
      · cases hs
      · rename_i hne
        cases hs
        rcases hsx with h0 | ⟨hX, hbl, hbA⟩
        · exact absurd h0 hne
        · exact va_slen hx hb hX hbl (Nat.not_le.mpr hbA) hS hd (kk _ _ _ _ _ hl hP hS hc hz)
    · cases hs
  | iconst n =>
    obtain ⟨h1, he⟩ := ai_g_inv hr; cases he; omega
  | bipush n =>
    obtain ⟨h1, he⟩ := ai_g_inv hr; cases he; omega
  | sipush n =>
    obtain ⟨h1, he⟩ := ai_g_inv hr; cases he; omega
  | iload_n k =>
    obtain ⟨h1, he⟩ := ai_g_inv hr; cases he; omega
  | iload k =>
    obtain ⟨h1, he⟩ := ai_g_inv hr; cases he; omega
  | aload_n k =>
    obtain ⟨h1, he⟩ := ai_g_inv hr; cases he; omega
  | aload k =>
    obtain ⟨h1, he⟩ := ai_g_inv hr; cases he; omega
  | istore_n k =>
    obtain ⟨h1, he⟩ := ai_g_inv hr; cases he; omega
  | istore k =>
    obtain ⟨h1, he⟩ := ai_g_inv hr; cases he; omega
  | astore_n k =>
    obtain ⟨h1, he⟩ := ai_g_inv hr; cases he; omega
  | astore k =>
    obtain ⟨h1, he⟩ := ai_g_inv hr; cases he; omega
  | iinc k n =>
    obtain ⟨h1, he⟩ := ai_g_inv hr; cases he; omega
  | iadd =>
    obtain ⟨h1, he⟩ := ai_g_inv hr; cases he; omega
  | isub =>
    obtain ⟨h1, he⟩ := ai_g_inv hr; cases he; omega
  | imul =>
    obtain ⟨h1, he⟩ := ai_g_inv hr; cases he; omega
  | iand =>
    obtain ⟨h1, he⟩ := ai_g_inv hr; cases he; omega
  | ishl =>
    obtain ⟨h1, he⟩ := ai_g_inv hr; cases he; omega
  | ishr =>
    obtain ⟨h1, he⟩ := ai_g_inv hr; cases he; omega
  | ixor =>
    obtain ⟨h1, he⟩ := ai_g_inv hr; cases he; omega
  | idiv =>
    obtain ⟨h1, he⟩ := ai_g_inv hr; cases he; omega
  | irem =>
    obtain ⟨h1, he⟩ := ai_g_inv hr; cases he; omega
  | ineg =>
    obtain ⟨h1, he⟩ := ai_g_inv hr; cases he; omega
  | i2c =>
    obtain ⟨h1, he⟩ := ai_g_inv hr; cases he; omega
  | dup =>
    obtain ⟨h1, he⟩ := ai_g_inv hr; cases he; omega
  | dup_x1 =>
    obtain ⟨h1, he⟩ := ai_g_inv hr; cases he; omega
  | dup_x2 =>
    obtain ⟨h1, he⟩ := ai_g_inv hr; cases he; omega
  | dup2 =>
    obtain ⟨h1, he⟩ := ai_g_inv hr; cases he; omega
  | pop =>
    obtain ⟨h1, he⟩ := ai_g_inv hr; cases he; omega
  | aconst_null =>
    obtain ⟨h1, he⟩ := ai_g_inv hr; cases he; omega
  | ldc n =>
    obtain ⟨w, hw, hr⟩ := ai_bind_inv hr
    obtain ⟨h1, he⟩ := ai_g_inv hr; cases he; omega
  | goto o =>
    obtain ⟨w, hw, hr⟩ := ai_bind_inv hr
    obtain ⟨h1, he⟩ := ai_g_inv hr; cases he; omega
  | if_icmp c o =>
    obtain ⟨w, hw, hr⟩ := ai_bind_inv hr
    obtain ⟨h1, he⟩ := ai_g_inv hr; cases he; omega
  | ifCond c o =>
    obtain ⟨w, hw, hr⟩ := ai_bind_inv hr
    obtain ⟨h1, he⟩ := ai_g_inv hr; cases he; omega
  | ifnull o =>
    obtain ⟨w, hw, hr⟩ := ai_bind_inv hr
    obtain ⟨h1, he⟩ := ai_g_inv hr; cases he; omega
  | ifnonnull o =>
    obtain ⟨w, hw, hr⟩ := ai_bind_inv hr
    obtain ⟨h1, he⟩ := ai_g_inv hr; cases he; omega
  | new n =>
    obtain ⟨w, hw, hr⟩ := ai_bind_inv hr
    obtain ⟨w, hw, hr⟩ := ai_bind_inv hr
    obtain ⟨h1, he⟩ := ai_g_inv hr; cases he; omega
  | newarray t =>
    simp only [ai_res] at hr
    split at hr
    · obtain ⟨h1, he⟩ := ai_g_inv hr; cases he; omega
    · split at hr
      · obtain ⟨h1, he⟩ := ai_g_inv hr; cases he; omega
      · cases hr
  | anewarray n =>
    obtain ⟨w, hw, hr⟩ := ai_bind_inv hr
    split at hr
    · obtain ⟨h1, he⟩ := ai_g_inv hr; cases he; omega
    · split at hr
      · obtain ⟨h1, he⟩ := ai_g_inv hr; cases he; omega
      · cases hr
  | multianewarray n k =>
    obtain ⟨w, hw, hr⟩ := ai_bind_inv hr
    obtain ⟨h1, he⟩ := ai_g_inv hr; cases he; omega
  | ireturn | areturn | return_ =>
    simp only [ai_res] at hr
    repeat (split at hr; · (obtain ⟨h1, he⟩ := ai_g_inv hr; cases he; omega))
    cases hr
  | tableswitch df lo hi os =>
    obtain ⟨w, hw, hr⟩ := ai_bind_inv hr
    obtain ⟨w, hw, hr⟩ := ai_bind_inv hr
    obtain ⟨h1, he⟩ := ai_g_inv hr; cases he; omega
  | invokestatic n => exact absurd hop (by have := ai_res_inv hr (Or.inl ⟨n, rfl⟩); omega)
  | invokevirtual n => exact absurd hop (by have := ai_res_inv hr (Or.inr (Or.inl ⟨n, rfl⟩)); omega)
  | invokespecial n => exact absurd hop (by have := ai_res_inv hr (Or.inr (Or.inr ⟨n, rfl⟩)); omega)
  | _ => exact absurd hr (by simp [ai_res])
end AIS3
