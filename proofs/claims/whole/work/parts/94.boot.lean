/-! new objects: the heap grows along the layout -/
theorem tk_s {n : Nat} {x : Nat × Nat} (h : LK[n]? = some x) : LK.take n ++ [x] = LK.take (n + 1) := by
  rw [List.take_succ, h]
  rfl
theorem tk_len {n : Nat} (h : n ≤ 233) : (LK.take n).length = n := by
  rw [List.length_take, show LK.length = 233 by decide +kernel]
  omega
theorem tk_kq {n q k s : Nat} (h : LK[q]? = some (k, s)) (hq : q < n) : ai_kq (LK.take n) q = some k := by
  unfold ai_kq
  rw [List.getElem?_take_of_lt hq, h]
  rfl
theorem tk_ar3 {n q k s i : Nat} (h : LK[q]? = some (k, s)) (hq : q < n) (hk : 10 ≤ k) (hk2 : k ≤ 12) (hi : i < s) (hs : s < 1000) : ai_ar3 (LK.take n) q (nI i) = true := by
  unfold ai_ar3
  rw [List.getElem?_take_of_lt hq, h]
  simp [in_nI hi (by omega), hk, hk2]
section BOOT
variable {d : Nat} {X : ai_X} {f a b n k c : Nat} {v : Int32} {tb : List Nat} {nx : Nat} {ls st : List Value} {I : Nat → Nat → Int32} {M : Nat → Nat → Nat} {Q : Option Value → ai_H → Prop}
theorem e_new (h : LK[n]? = some (a, b)) (hn : n ≤ 233) : EvI d X f (33, a, b, v, tb, nx) ls st (LK.take n, I, M) Q ↔ Ev d X f nx ls (.ref n :: st) (LK.take (n + 1), ai_z I n 0, ai_z M n 0) Q := by
  refine EvI_step ?_
  rw [← tk_s h]
  have e : (LK.take n).length = n := tk_len hn
  show some (Sum.inl (nx, ls, Value.ref (LK.take n).length :: st, (LK.take n ++ [(a, b)], ai_z I (LK.take n).length 0, ai_z M (LK.take n).length 0))) = _
  rw [e]
theorem e_nar (h : LK[n]? = some (a, c)) (hn : n ≤ 233) (hc : c ≤ 1000) : EvI d X f (34, a, b, v, tb, nx) ls (.int (nI c) :: st) (LK.take n, I, M) Q ↔ Ev d X f nx ls (.ref n :: st) (LK.take (n + 1), ai_z I n 0, ai_z M n 0) Q := by
  refine EvI_step ?_
  rw [← tk_s h]
  have e : (LK.take n).length = n := tk_len hn
  have hc1 : (nI c).toNatClampNeg = c := nIc (by omega)
  have hc2 : ¬ (nI c < 0 ∨ 1000 < (nI c).toNatClampNeg) := by
    rw [hc1]
    rintro (h | h)
    · exact nI_pos (by omega) h
    · omega
  show (if nI c < 0 ∨ 1000 < (nI c).toNatClampNeg then none else some (Sum.inl (nx, ls, Value.ref (LK.take n).length :: st, (LK.take n ++ [(a, (nI c).toNatClampNeg)], ai_z I (LK.take n).length 0, ai_z M (LK.take n).length 0)))) = _
  rw [if_neg hc2, e, hc1]
theorem e_anr (h : LK[n]? = some (a, c)) (hn : n ≤ 233) (hc : c ≤ 1000) : EvI d X f (35, a, b, v, tb, nx) ls (.int (nI c) :: st) (LK.take n, I, M) Q ↔ Ev d X f nx ls (.ref n :: st) (LK.take (n + 1), ai_z I n 0, ai_z M n 0) Q := by
  refine EvI_step ?_
  rw [← tk_s h]
  have e : (LK.take n).length = n := tk_len hn
  have hc1 : (nI c).toNatClampNeg = c := nIc (by omega)
  have hc2 : ¬ (nI c < 0 ∨ 1000 < (nI c).toNatClampNeg) := by
    rw [hc1]
    rintro (h | h)
    · exact nI_pos (by omega) h
    · omega
  show (if nI c < 0 ∨ 1000 < (nI c).toNatClampNeg then none else some (Sum.inl (nx, ls, Value.ref (LK.take n).length :: st, (LK.take n ++ [(a, (nI c).toNatClampNeg)], ai_z I (LK.take n).length 0, ai_z M (LK.take n).length 0)))) = _
  rw [if_neg hc2, e, hc1]
theorem tk_rep : ∀ (m n : Nat), (∀ i, i < m → LK[n + i]? = some (9, k)) → LK.take n ++ List.replicate m (9, k) = LK.take (n + m)
  | 0, n, _ => by rw [List.replicate_zero, List.append_nil]; rfl
  | m + 1, n, h => by
    rw [List.replicate_succ', ← List.append_assoc, tk_rep m n fun i hi => h i (by omega), tk_s (h m (by omega))]
    rfl
theorem e_mul (h : LK[n]? = some (12, c)) (h2 : ∀ i, i < c → LK[n + 1 + i]? = some (9, k)) (hn : n ≤ 233) (hc : c ≤ 1000) (hk : k ≤ 1000) : EvI d X f (36, a, b, v, tb, nx) ls (.int (nI k) :: .int (nI c) :: st) (LK.take n, I, M) Q ↔ Ev d X f nx ls (.ref n :: st) (LK.take (n + 1 + c), (fun q j => if n ≤ q then 0 else I q j), (fun q j => if q = n then (if j < c then n + 1 + j + 1 else 0) else if n ≤ q then 0 else M q j)) Q := by
  refine EvI_step ?_
  have e : (LK.take n).length = n := tk_len hn
  have hc1 : (nI c).toNatClampNeg = c := nIc (by omega)
  have hk1 : (nI k).toNatClampNeg = k := nIc (by omega)
  have hc2 : ¬ (nI c < 0 ∨ 1000 < (nI c).toNatClampNeg ∨ nI k < 0 ∨ 1000 < (nI k).toNatClampNeg) := by
    rw [hc1, hk1]
    rintro (h | h | h | h)
    · exact nI_pos (by omega) h
    · omega
    · exact nI_pos (by omega) h
    · omega
  show (if nI c < 0 ∨ 1000 < (nI c).toNatClampNeg ∨ nI k < 0 ∨ 1000 < (nI k).toNatClampNeg then none else some (Sum.inl (nx, ls, Value.ref (LK.take n).length :: st, ((LK.take n ++ [(12, (nI c).toNatClampNeg)]) ++ List.replicate (nI c).toNatClampNeg (9, (nI k).toNatClampNeg), (fun q j => if (LK.take n).length ≤ q then 0 else I q j), (fun q j => if q = (LK.take n).length then (if j < (nI c).toNatClampNeg then (LK.take n).length + 1 + j + 1 else 0) else if (LK.take n).length ≤ q then 0 else M q j))))) = _
  rw [if_neg hc2, e, hc1, hk1, tk_s h, tk_rep c (n + 1) h2]
theorem e_obj {x : Nat} {h : ai_H} : EvI (d + 1) X f (40, a, b, v, tb, nx) ls (.ref x :: []) h Q ↔ Ev (d + 1) X f nx ls [] h Q := by
  refine EvI_step ?_
  show (if d + 1 = 0 ∨ ai_c1 [] = false ∨ 8 < ([] : List Value).length then none else some (Sum.inl (nx, ls, [], h))) = _
  rw [if_neg]
  rintro (h | h | h)
  · omega
  · exact absurd h (by decide)
  · exact absurd h (by decide)
end BOOT
