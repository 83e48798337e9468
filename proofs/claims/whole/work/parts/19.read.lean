/-! reading the representation -/
theorem BO : (ai_bool 0 1 = false) ∧ (ai_bool 0 2 = false) ∧ (ai_bool 1 4 = false) ∧ (ai_bool 1 5 = false) ∧ (ai_bool 2 1 = false) ∧ (ai_bool 3 0 = false) ∧ (ai_bool 3 4 = false) ∧ (ai_bool 3 5 = false) ∧ (ai_bool 3 6 = false) ∧ (ai_bool 3 7 = false) ∧ (ai_bool 3 8 = false) ∧ (ai_bool 3 9 = false) ∧ (ai_bool 3 10 = false) ∧ (ai_bool 3 11 = false) ∧ (ai_bool 3 12 = false) ∧ (ai_bool 3 13 = false) ∧ (ai_bool 3 14 = false) ∧ (ai_bool 3 15 = false) ∧ (ai_bool 4 0 = false) ∧ (ai_bool 4 1 = false) ∧ (ai_bool 4 2 = false) ∧ (ai_bool 4 3 = false) ∧ (ai_bool 4 4 = false) ∧ (ai_bool 4 5 = false) ∧ (ai_bool 5 1 = false) ∧ (ai_bool 5 2 = false) ∧ (ai_bool 5 4 = false) ∧ (ai_bool 5 5 = false) ∧ (ai_bool 5 6 = false) ∧ (ai_bool 7 4 = false) ∧ (ai_bool 7 5 = false) ∧ (ai_bool 7 6 = false) := ⟨by decide +kernel, by decide +kernel, by decide +kernel, by decide +kernel, by decide +kernel, by decide +kernel, by decide +kernel, by decide +kernel, by decide +kernel, by decide +kernel, by decide +kernel, by decide +kernel, by decide +kernel, by decide +kernel, by decide +kernel, by decide +kernel, by decide +kernel, by decide +kernel, by decide +kernel, by decide +kernel, by decide +kernel, by decide +kernel, by decide +kernel, by decide +kernel, by decide +kernel, by decide +kernel, by decide +kernel, by decide +kernel, by decide +kernel, by decide +kernel, by decide +kernel, by decide +kernel⟩
theorem ai_uh {M : Nat → Nat → Int32} {a j : Nat} {v : Int32} : ai_u M a j v a j = v := if_pos ⟨rfl, rfl⟩
theorem ai_uo {M : Nat → Nat → Int32} {a j a' j' : Nat} {v : Int32} (h : a' ≠ a ∨ j' ≠ j) : ai_u M a j v a' j' = M a' j' := if_neg (by omega)
theorem ai_uu {M : Nat → Nat → Int32} {a j : Nat} {v w : Int32} : ai_u (ai_u M a j v) a j w = ai_u M a j w := by funext a' j'; simp only [ai_u]; split <;> rfl
theorem nIc {n : Nat} (h : n < 2147483648) : (nI n).toNatClampNeg = n := nI_clamp h
theorem nIa (a b : Nat) : nI a + nI b = nI (a + b) := nI_add a b
theorem nIm (a b : Nat) : nI a * nI b = nI (a * b) := pk_mul a b
theorem nIlt {a b : Nat} (ha : a < 2147483648) (hb : b < 2147483648) : (nI a < nI b) ↔ a < b := nI_ltI ha hb
theorem nIle {a b : Nat} (ha : a < 2147483648) (hb : b < 2147483648) : (nI a ≤ nI b) ↔ a ≤ b := nI_leI ha hb
theorem nIeq {a b : Nat} (ha : a < 2147483648) (hb : b < 2147483648) : (nI a = nI b) ↔ a = b := nI_eq ha hb
section RD
variable {S : St} {C : (Nat → Nat → Int32) × (Nat → Nat → Nat)} {I : Nat → Nat → Int32} {M : Nat → Nat → Nat}
theorem EX.r {B : Nat} (h : EX B S C I M) {k a j : Nat} (hk : k < 270) (h5 : k ≠ 5) (he : il B k = (a, j)) : I a j = S.1 k := by
  have h1 := h.2.2.2.1 k hk h5
  rw [he] at h1
  exact h1
theorem EX.rm {B : Nat} (h : EX B S C I M) {a j v : Nat} (h1 : B ≤ a) (h2 : a < B + 113) (h3 : a ≠ B + 64) (he : M0b B a j = v) : M a j = v := by rw [h.2.1 a j h1 h2 h3, he]
theorem rd_time (h : EX 1 S C I M) : I 1 5 = S.1 0 := h.r (by omega) (by omega) rfl
theorem rd_mc (h : EX 1 S C I M) : I 1 4 = S.1 1 := h.r (by omega) (by omega) rfl
theorem rd_np (h : EX 1 S C I M) : I 64 2 = S.1 2 := h.r (by omega) (by omega) rfl
theorem rd_oc (h : EX 1 S C I M) : I 64 1 = S.1 3 := h.r (by omega) (by omega) rfl
theorem rd_tc (h : EX 1 S C I M) : I 82 1 = S.1 4 := h.r (by omega) (by omega) rfl
theorem rd_bal (h : EX 1 S C I M) {t : Nat} (ht : t < 6) : I 2 t = S.1 (6 + t) := h.r (by omega) (by omega) (il_bal ht)
theorem rd_st (h : EX 1 S C I M) {m : Nat} (hm : m < 6) : I (4 + 10 * m) 9 = S.1 (12 + 43 * m + 0) := h.r (by omega) (by omega) (il_mk (by omega) 9 rfl)
theorem rd_lq (h : EX 1 S C I M) {m : Nat} (hm : m < 6) : I (4 + 10 * m) 4 = S.1 (12 + 43 * m + 1) := h.r (by omega) (by omega) (il_mk (by omega) 4 rfl)
theorem rd_nO (h : EX 1 S C I M) {m : Nat} (hm : m < 6) : I (4 + 10 * m) 5 = S.1 (12 + 43 * m + 2) := h.r (by omega) (by omega) (il_mk (by omega) 5 rfl)
theorem rd_xp (h : EX 1 S C I M) {m : Nat} (hm : m < 6) : I (4 + 10 * m) 6 = S.1 (12 + 43 * m + 3) := h.r (by omega) (by omega) (il_mk (by omega) 6 rfl)
theorem rd_cm (h : EX 1 S C I M) {m : Nat} (hm : m < 6) : I (4 + 10 * m) 7 = S.1 (12 + 43 * m + 4) := h.r (by omega) (by omega) (il_mk (by omega) 7 rfl)
theorem rd_co (h : EX 1 S C I M) {m : Nat} (hm : m < 6) : I (4 + 10 * m) 8 = S.1 (12 + 43 * m + 5) := h.r (by omega) (by omega) (il_mk (by omega) 8 rfl)
theorem rd_ac (h : EX 1 S C I M) {m : Nat} (hm : m < 6) : I (4 + 10 * m) 12 = S.1 (12 + 43 * m + 6) := h.r (by omega) (by omega) (il_mk (by omega) 12 rfl)
theorem rd_wn (h : EX 1 S C I M) {m : Nat} (hm : m < 6) : I (4 + 10 * m) 10 = S.1 (12 + 43 * m + 7) := h.r (by omega) (by omega) (il_mk (by omega) 10 rfl)
theorem rd_rs (h : EX 1 S C I M) {m : Nat} (hm : m < 6) : I (4 + 10 * m) 11 = S.1 (12 + 43 * m + 8) := h.r (by omega) (by omega) (il_mk (by omega) 11 rfl)
theorem rd_no (h : EX 1 S C I M) {m : Nat} (hm : m < 6) : I (4 + 10 * m) 0 = nI m := h.2.2.1 m hm
theorem rd_sh (h : EX 1 S C I M) {m o : Nat} (hm : m < 6) (ho : o < 4) : I (5 + 10 * m) o = S.1 (21 + 43 * m + o) := h.r (by omega) (by omega) (il_sh ho)
theorem rd_hd (h : EX 1 S C I M) {m t o : Nat} (hm : m < 6) (ht : t < 6) (ho : o < 4) : I (7 + 10 * m + t) o = S.1 (25 + 43 * m + 4 * t + o) := h.r (by omega) (by omega) (il_hd ht ho)
theorem rd_pd (h : EX 1 S C I M) {m t : Nat} (hm : m < 6) (ht : t < 6) : I (13 + 10 * m) t = S.1 (49 + 43 * m + t) := h.r (by omega) (by omega) (il_pd ht)
theorem m_10 (h : EX 1 S C I M) : M 1 0 = 2 + 1 := h.rm (by omega) (by omega) (by omega) rfl
theorem m_11 (h : EX 1 S C I M) : M 1 1 = 3 + 1 := h.rm (by omega) (by omega) (by omega) rfl
theorem m_12 (h : EX 1 S C I M) : M 1 2 = 64 + 1 := h.rm (by omega) (by omega) (by omega) rfl
theorem m_13 (h : EX 1 S C I M) : M 1 3 = 82 + 1 := h.rm (by omega) (by omega) (by omega) rfl
theorem m_bo (h : EX 1 S C I M) : M 64 0 = 65 + 1 := h.rm (by omega) (by omega) (by omega) rfl
theorem m_hr (h : EX 1 S C I M) : M 82 0 = 83 + 1 := h.rm (by omega) (by omega) (by omega) rfl
theorem m_mk (h : EX 1 S C I M) {m : Nat} (hm : m < 6) : M 3 m = 4 + 10 * m + 1 := h.rm (by omega) (by omega) (by omega) (co_dec (P := fun m => M0b 1 3 m = 4 + 10 * m + 1) (N := 6) (by decide +kernel) hm)
theorem m_sh (h : EX 1 S C I M) {m : Nat} (hm : m < 6) : M (4 + 10 * m) 1 = 5 + 10 * m + 1 := h.rm (by omega) (by omega) (by omega) (co_dec (P := fun m => M0b 1 (4 + 10 * m) 1 = 5 + 10 * m + 1) (N := 6) (by decide +kernel) hm)
theorem m_hd (h : EX 1 S C I M) {m : Nat} (hm : m < 6) : M (4 + 10 * m) 2 = 6 + 10 * m + 1 := h.rm (by omega) (by omega) (by omega) (co_dec (P := fun m => M0b 1 (4 + 10 * m) 2 = 6 + 10 * m + 1) (N := 6) (by decide +kernel) hm)
theorem m_pd (h : EX 1 S C I M) {m : Nat} (hm : m < 6) : M (4 + 10 * m) 3 = 13 + 10 * m + 1 := h.rm (by omega) (by omega) (by omega) (co_dec (P := fun m => M0b 1 (4 + 10 * m) 3 = 13 + 10 * m + 1) (N := 6) (by decide +kernel) hm)
theorem m_ht (h : EX 1 S C I M) {m t : Nat} (hm : m < 6) (ht : t < 6) : M (6 + 10 * m) t = 7 + 10 * m + t + 1 := h.rm (by omega) (by omega) (by omega) (by
  have h1 := co_dec (P := fun x => M0b 1 (6 + 10 * (x / 6)) (x % 6) = 7 + 10 * (x / 6) + x % 6 + 1) (N := 36) (by decide +kernel) (i := 6 * m + t) (by omega)
  have e1 : (6 * m + t) / 6 = m := by omega
  have e2 : (6 * m + t) % 6 = t := by omega
  rw [e1, e2] at h1
  exact h1)
theorem m_hs (h : EX 1 S C I M) {r : Nat} (hr : r < 30) : M 83 r = 84 + r + 1 := h.rm (by omega) (by omega) (by omega) (co_dec (P := fun r => M0b 1 83 r = 84 + r + 1) (N := 30) (by decide +kernel) hr)
end RD
theorem q_0 : ai_kq LK 0 = some 6 := kq_of y0_0
theorem q_1 : ai_kq LK 1 = some 1 := kq_of y0_1
theorem q_64 : ai_kq LK 64 = some 0 := kq_of y0_64
theorem q_82 : ai_kq LK 82 = some 2 := kq_of y0_82
theorem q_114 : ai_kq LK 114 = some 1 := kq_of y0_114
theorem q_177 : ai_kq LK 177 = some 0 := kq_of y0_177
theorem q_195 : ai_kq LK 195 = some 2 := kq_of y0_195
theorem q_227 : ai_kq LK 227 = some 5 := kq_of y0_227
theorem q_229 : ai_kq LK 229 = some 7 := kq_of y0_229
theorem q_65 : ai_kq LK 65 = some 11 := kq_of y0_65
theorem q_mk {m : Nat} (hm : m < 6) : ai_kq LK (4 + 10 * m) = some 3 := kq_of (y0_mk hm)
theorem q_od {m : Nat} (hm : m < 16) : ai_kq LK (66 + m) = some 4 := kq_of (y0_od hm)
theorem a_bal {t : Nat} (ht : t < 6) : ai_ar LK 2 9 (nI t) = true := ar_of y0_2 ht (by omega)
theorem a_mk {m : Nat} (hm : m < 6) : ai_ar3 LK 3 (nI m) = true := ar3_of y0_3 (by omega) (by omega) hm (by omega)
theorem a_sh {m o : Nat} (hm : m < 6) (ho : o < 4) : ai_ar LK (5 + 10 * m) 9 (nI o) = true := ar_of (y0_sh hm) ho (by omega)
theorem a_hd {m t : Nat} (hm : m < 6) (ht : t < 6) : ai_ar3 LK (6 + 10 * m) (nI t) = true := ar3_of (y0_hd hm) (by omega) (by omega) ht (by omega)
theorem a_hr {m t o : Nat} (hm : m < 6) (ht : t < 6) (ho : o < 4) : ai_ar LK (7 + 10 * m + t) 9 (nI o) = true := ar_of (y0_hr hm ht) ho (by omega)
theorem a_pd {m t : Nat} (hm : m < 6) (ht : t < 6) : ai_ar LK (13 + 10 * m) 9 (nI t) = true := ar_of (y0_pd hm) ht (by omega)
theorem a_od {i : Nat} (hi : i < 16) : ai_ar3 LK 65 (nI i) = true := ar3_of y0_65 (by omega) (by omega) hi (by omega)
theorem a_hs {r : Nat} (hr : r < 30) : ai_ar3 LK 83 (nI r) = true := ar3_of y0_83 (by omega) (by omega) hr (by omega)
theorem a_hp {r p : Nat} (hr : r < 30) (hp : p < 6) : ai_ar LK (84 + r) 9 (nI p) = true := ar_of (y0_hs hr) hp (by omega)
theorem a_tx {k : Nat} (hk : k < 60) : ai_ar LK 228 8 (nI k) = true := ar_of y0_228 hk (by omega)
theorem a_nw {k : Nat} (hk : k < 546) : ai_ar LK 230 9 (nI k) = true := ar_of y0_230 hk (by omega)
theorem a_sv {k : Nat} (hk : k < 546) : ai_ar LK 231 9 (nI k) = true := ar_of y0_231 hk (by omega)
theorem a_rt {k : Nat} (hk : k < 60) : ai_ar LK 232 9 (nI k) = true := ar_of y0_232 hk (by omega)
