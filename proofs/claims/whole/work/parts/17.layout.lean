/-! the layout of the heap behind the two constructors (made by wip/whole/gen_layout.py) -/
def LK : List (Nat × Nat) := [(6, 4), (1, 6), (9, 6), (10, 6), (3, 16), (9, 4), (12, 6), (9, 4), (9, 4), (9, 4), (9, 4), (9, 4), (9, 4), (9, 6), (3, 16), (9, 4), (12, 6), (9, 4), (9, 4), (9, 4), (9, 4), (9, 4), (9, 4), (9, 6), (3, 16), (9, 4), (12, 6), (9, 4), (9, 4), (9, 4), (9, 4), (9, 4), (9, 4), (9, 6), (3, 16), (9, 4), (12, 6), (9, 4), (9, 4), (9, 4), (9, 4), (9, 4), (9, 4), (9, 6), (3, 16), (9, 4), (12, 6), (9, 4), (9, 4), (9, 4), (9, 4), (9, 4), (9, 4), (9, 6), (3, 16), (9, 4), (12, 6), (9, 4), (9, 4), (9, 4), (9, 4), (9, 4), (9, 4), (9, 6), (0, 3), (11, 16), (4, 6), (4, 6), (4, 6), (4, 6), (4, 6), (4, 6), (4, 6), (4, 6), (4, 6), (4, 6), (4, 6), (4, 6), (4, 6), (4, 6), (4, 6), (4, 6), (2, 2), (12, 30), (9, 6), (9, 6), (9, 6), (9, 6), (9, 6), (9, 6), (9, 6), (9, 6), (9, 6), (9, 6), (9, 6), (9, 6), (9, 6), (9, 6), (9, 6), (9, 6), (9, 6), (9, 6), (9, 6), (9, 6), (9, 6), (9, 6), (9, 6), (9, 6), (9, 6), (9, 6), (9, 6), (9, 6), (9, 6), (9, 6), (1, 6), (9, 6), (10, 6), (3, 16), (9, 4), (12, 6), (9, 4), (9, 4), (9, 4), (9, 4), (9, 4), (9, 4), (9, 6), (3, 16), (9, 4), (12, 6), (9, 4), (9, 4), (9, 4), (9, 4), (9, 4), (9, 4), (9, 6), (3, 16), (9, 4), (12, 6), (9, 4), (9, 4), (9, 4), (9, 4), (9, 4), (9, 4), (9, 6), (3, 16), (9, 4), (12, 6), (9, 4), (9, 4), (9, 4), (9, 4), (9, 4), (9, 4), (9, 6), (3, 16), (9, 4), (12, 6), (9, 4), (9, 4), (9, 4), (9, 4), (9, 4), (9, 4), (9, 6), (3, 16), (9, 4), (12, 6), (9, 4), (9, 4), (9, 4), (9, 4), (9, 4), (9, 4), (9, 6), (0, 3), (11, 16), (4, 6), (4, 6), (4, 6), (4, 6), (4, 6), (4, 6), (4, 6), (4, 6), (4, 6), (4, 6), (4, 6), (4, 6), (4, 6), (4, 6), (4, 6), (4, 6), (2, 2), (12, 30), (9, 6), (9, 6), (9, 6), (9, 6), (9, 6), (9, 6), (9, 6), (9, 6), (9, 6), (9, 6), (9, 6), (9, 6), (9, 6), (9, 6), (9, 6), (9, 6), (9, 6), (9, 6), (9, 6), (9, 6), (9, 6), (9, 6), (9, 6), (9, 6), (9, 6), (9, 6), (9, 6), (9, 6), (9, 6), (9, 6), (5, 7), (8, 60), (7, 7), (9, 546), (9, 546), (9, 60)]
theorem kq_of {q k n : Nat} (h : LK[q]? = some (k, n)) : ai_kq LK q = some k := by unfold ai_kq; rw [h]; rfl
theorem in_nI {t n : Nat} (h : t < n) (hn : n < 2147483648) : ai_in (nI t) n = true := by
  unfold ai_in
  rw [nI_clamp (by omega)]
  have h0 : ¬ nI t < 0 := nI_pos (by omega)
  simp [h0, h]
theorem ar_of {q k n t : Nat} (h : LK[q]? = some (k, n)) (ht : t < n) (hn : n < 2147483648) : ai_ar LK q k (nI t) = true := by
  unfold ai_ar
  rw [h]
  simp [in_nI ht hn]
theorem ar3_of {q k n t : Nat} (h : LK[q]? = some (k, n)) (hk : 10 ≤ k) (hk2 : k ≤ 12) (ht : t < n) (hn : n < 2147483648) : ai_ar3 LK q (nI t) = true := by
  unfold ai_ar3
  rw [h]
  simp [in_nI ht hn, hk, hk2]
theorem y0_0 : LK[0]? = some (6, 4) := by decide +kernel
theorem y0_1 : LK[1]? = some (1, 6) := by decide +kernel
theorem y0_2 : LK[2]? = some (9, 6) := by decide +kernel
theorem y0_3 : LK[3]? = some (10, 6) := by decide +kernel
theorem y0_64 : LK[64]? = some (0, 3) := by decide +kernel
theorem y0_65 : LK[65]? = some (11, 16) := by decide +kernel
theorem y0_82 : LK[82]? = some (2, 2) := by decide +kernel
theorem y0_83 : LK[83]? = some (12, 30) := by decide +kernel
theorem y0_114 : LK[114]? = some (1, 6) := by decide +kernel
theorem y0_115 : LK[115]? = some (9, 6) := by decide +kernel
theorem y0_116 : LK[116]? = some (10, 6) := by decide +kernel
theorem y0_177 : LK[177]? = some (0, 3) := by decide +kernel
theorem y0_178 : LK[178]? = some (11, 16) := by decide +kernel
theorem y0_195 : LK[195]? = some (2, 2) := by decide +kernel
theorem y0_196 : LK[196]? = some (12, 30) := by decide +kernel
theorem y0_227 : LK[227]? = some (5, 7) := by decide +kernel
theorem y0_228 : LK[228]? = some (8, 60) := by decide +kernel
theorem y0_229 : LK[229]? = some (7, 7) := by decide +kernel
theorem y0_230 : LK[230]? = some (9, 546) := by decide +kernel
theorem y0_231 : LK[231]? = some (9, 546) := by decide +kernel
theorem y0_232 : LK[232]? = some (9, 60) := by decide +kernel
theorem y0_mk {m : Nat} (hm : m < 6) : LK[4 + 10 * m]? = some (3, 16) := co_dec (P := fun m => LK[4 + 10 * m]? = some (3, 16)) (N := 6) (by decide +kernel) hm
theorem y0_sh {m : Nat} (hm : m < 6) : LK[5 + 10 * m]? = some (9, 4) := co_dec (P := fun m => LK[5 + 10 * m]? = some (9, 4)) (N := 6) (by decide +kernel) hm
theorem y0_hd {m : Nat} (hm : m < 6) : LK[6 + 10 * m]? = some (12, 6) := co_dec (P := fun m => LK[6 + 10 * m]? = some (12, 6)) (N := 6) (by decide +kernel) hm
theorem y0_pd {m : Nat} (hm : m < 6) : LK[13 + 10 * m]? = some (9, 6) := co_dec (P := fun m => LK[13 + 10 * m]? = some (9, 6)) (N := 6) (by decide +kernel) hm
theorem y0_hr {m t : Nat} (hm : m < 6) (ht : t < 6) : LK[7 + 10 * m + t]? = some (9, 4) := by
  have h := co_dec (P := fun x => LK[7 + 10 * (x / 6) + x % 6]? = some (9, 4)) (N := 36) (by decide +kernel) (i := 6 * m + t) (by omega)
  have e1 : (6 * m + t) / 6 = m := by omega
  have e2 : (6 * m + t) % 6 = t := by omega
  rw [e1, e2] at h
  exact h
theorem y0_od {m : Nat} (hm : m < 16) : LK[66 + m]? = some (4, 6) := co_dec (P := fun m => LK[66 + m]? = some (4, 6)) (N := 16) (by decide +kernel) hm
theorem y0_hs {m : Nat} (hm : m < 30) : LK[84 + m]? = some (9, 6) := co_dec (P := fun m => LK[84 + m]? = some (9, 6)) (N := 30) (by decide +kernel) hm
theorem y0_mks {m : Nat} (hm : m < 6) : LK[117 + 10 * m]? = some (3, 16) := co_dec (P := fun m => LK[117 + 10 * m]? = some (3, 16)) (N := 6) (by decide +kernel) hm
theorem y0_shs {m : Nat} (hm : m < 6) : LK[118 + 10 * m]? = some (9, 4) := co_dec (P := fun m => LK[118 + 10 * m]? = some (9, 4)) (N := 6) (by decide +kernel) hm
theorem y0_hds {m : Nat} (hm : m < 6) : LK[119 + 10 * m]? = some (12, 6) := co_dec (P := fun m => LK[119 + 10 * m]? = some (12, 6)) (N := 6) (by decide +kernel) hm
theorem y0_pds {m : Nat} (hm : m < 6) : LK[126 + 10 * m]? = some (9, 6) := co_dec (P := fun m => LK[126 + 10 * m]? = some (9, 6)) (N := 6) (by decide +kernel) hm
theorem y0_hrs {m t : Nat} (hm : m < 6) (ht : t < 6) : LK[120 + 10 * m + t]? = some (9, 4) := by
  have h := co_dec (P := fun x => LK[120 + 10 * (x / 6) + x % 6]? = some (9, 4)) (N := 36) (by decide +kernel) (i := 6 * m + t) (by omega)
  have e1 : (6 * m + t) / 6 = m := by omega
  have e2 : (6 * m + t) % 6 = t := by omega
  rw [e1, e2] at h
  exact h
theorem y0_ods {m : Nat} (hm : m < 16) : LK[179 + m]? = some (4, 6) := co_dec (P := fun m => LK[179 + m]? = some (4, 6)) (N := 16) (by decide +kernel) hm
theorem y0_hss {m : Nat} (hm : m < 30) : LK[197 + m]? = some (9, 6) := co_dec (P := fun m => LK[197 + m]? = some (9, 6)) (N := 30) (by decide +kernel) hm
/-- the references that never change: 0 null, b + 1 the cell b -/
def M0b (B a j : Nat) : Nat :=
  let r := a - B
  if r = 0 then (if j = 0 then B + 2 else if j = 1 then B + 3 else if j = 2 then B + 64 else if j = 3 then B + 82 else 0)
  else if r = 2 then (if j < 6 then B + 3 + 10 * j + 1 else 0)
  else if r = 63 then (if j = 0 then B + 65 else 0)
  else if r = 81 then (if j = 0 then B + 83 else 0)
  else if r = 82 then (if j < 30 then B + 83 + j + 1 else 0)
  else if 3 ≤ r ∧ r < 63 then (if (r - 3) % 10 = 0 then (if j = 1 then a + 2 else if j = 2 then a + 3 else if j = 3 then a + 10 else 0) else if (r - 3) % 10 = 2 then (if j < 6 then a + 1 + j + 1 else 0) else 0)
  else 0
def M0 (a j : Nat) : Nat :=
  if a = 0 then (if j = 0 then 2 else if j = 1 then 115 else if j = 2 then 228 else 0)
  else if a < 114 then M0b 1 a j
  else if a < 227 then M0b 114 a j
  else if a = 227 then (if j = 0 then 229 else 0)
  else if a = 229 then (if j = 0 then 231 else if j = 1 then 232 else if j = 3 then 233 else 0)
  else 0
