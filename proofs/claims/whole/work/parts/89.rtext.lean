/-! the reference reads the text -/
section TXT
variable {tx : Nat → Int32} {len p : Nat} {st st' : Int32}
theorem eo_n (hp : p < len) (h : sA st (tx p) = st') (hne : st' ≠ -1) : eo tx (len - p) p st = eo tx (len - (p + 1)) (p + 1) st' := by
  rw [show len - p = (len - (p + 1)) + 1 by omega, eo, h, if_neg hne]
theorem eo_x (hp : p ≤ len) (h : p < len → sA st (tx p) = -1) (h8 : st ≠ nI 8) : eo tx (len - p) p st = nI p := by
  by_cases g : p < len
  · rw [show len - p = (len - (p + 1)) + 1 by omega, eo, h g, if_pos rfl]
  · rw [show len - p = 0 by omega, eo, if_neg h8]
theorem sA_0 {c : Int32} : sA (nI 0) c = if nI 48 ≤ c ∧ c ≤ nI 53 then nI 1 else -1 := by
  unfold sA
  rw [if_pos rfl]
theorem sA_1 {c : Int32} : sA (nI 1) c = if c = nI 43 ∨ c = nI 45 then nI 2 else -1 := by
  unfold sA
  rw [if_neg (by decide), if_pos rfl]
theorem sA_2 {c : Int32} : sA (nI 2) c = if nI 49 ≤ c ∧ c ≤ nI 57 then nI 3 else -1 := by
  unfold sA
  rw [if_neg (by decide), if_neg (by decide), if_pos rfl]
theorem sA_3 {c : Int32} : sA (nI 3) c = if nI 48 ≤ c ∧ c ≤ nI 57 then nI 4 else if c = nI 109 then nI 5 else -1 := by
  unfold sA
  rw [if_neg (by decide), if_neg (by decide), if_neg (by decide), if_pos rfl]
theorem sA_4 {c : Int32} : sA (nI 4) c = if c = nI 109 then nI 5 else -1 := by
  unfold sA
  rw [if_neg (by decide), if_neg (by decide), if_neg (by decide), if_neg (by decide), if_pos rfl]
theorem sA_5 {c : Int32} : sA (nI 5) c = if nI 48 ≤ c ∧ c ≤ nI 53 then nI 6 else -1 := by
  unfold sA
  rw [if_neg (by decide), if_neg (by decide), if_neg (by decide), if_neg (by decide), if_neg (by decide), if_pos rfl]
theorem sA_6 {c : Int32} : sA (nI 6) c = if c = nI 46 then nI 7 else -1 := by
  unfold sA
  rw [if_neg (by decide), if_neg (by decide), if_neg (by decide), if_neg (by decide), if_neg (by decide), if_neg (by decide), if_pos rfl]
theorem sA_7 {c : Int32} : sA (nI 7) c = if nI 48 ≤ c ∧ c ≤ nI 51 then nI 8 else -1 := by
  unfold sA
  rw [if_neg (by decide), if_neg (by decide), if_neg (by decide), if_neg (by decide), if_neg (by decide), if_neg (by decide), if_neg (by decide), if_pos rfl]
theorem sA_8 {c : Int32} : sA (nI 8) c = if c = nI 59 then nI 0 else -1 := by
  unfold sA
  rw [if_neg (by decide), if_neg (by decide), if_neg (by decide), if_neg (by decide), if_neg (by decide), if_neg (by decide), if_neg (by decide), if_neg (by decide), if_pos rfl]
/-- what stands between m and the end of a trade -/
def TRE (tx : Nat → Int32) (q : Nat) : Prop := tx q = nI 109 ∧ (nI 48 ≤ tx (q + 1) ∧ tx (q + 1) ≤ nI 53) ∧ tx (q + 2) = nI 46 ∧ (nI 48 ≤ tx (q + 3) ∧ tx (q + 3) ≤ nI 51)
/-- a trade stands from p on, its m at q -/
def TRD (tx : Nat → Int32) (p q : Nat) : Prop := (nI 48 ≤ tx p ∧ tx p ≤ nI 53) ∧ (tx (p + 1) = nI 43 ∨ tx (p + 1) = nI 45) ∧ (nI 49 ≤ tx (p + 2) ∧ tx (p + 2) ≤ nI 57) ∧ (q = p + 3 ∨ q = p + 4 ∧ nI 48 ≤ tx (p + 3) ∧ tx (p + 3) ≤ nI 57) ∧ TRE tx q
theorem n_109 {c : Int32} (h : c = nI 109) : ¬ (nI 48 ≤ c ∧ c ≤ nI 57) := by rw [h]; decide
theorem eo_end {q : Nat} (hq : q ≤ len) (hst : st = nI 3 ∧ (q < len → ¬ (nI 48 ≤ tx q ∧ tx q ≤ nI 57)) ∨ st = nI 4) : (q + 4 ≤ len ∧ TRE tx q ∧ eo tx (len - q) q st = eo tx (len - (q + 4)) (q + 4) (nI 8)) ∨ ∃ e, e ≤ len ∧ eo tx (len - q) q st = nI e := by
  have hm : q < len → sA st (tx q) = if tx q = nI 109 then nI 5 else -1 := fun hl => by
    rcases hst with ⟨rfl, h⟩ | rfl
    · rw [sA_3, if_neg (h hl)]
    · exact sA_4
  have h8 : st ≠ nI 8 := by
    rcases hst with ⟨rfl, -⟩ | rfl <;> decide
  by_cases g1 : q < len ∧ tx q = nI 109
  · have e1 := eo_n (tx := tx) g1.1 ((hm g1.1).trans (if_pos g1.2)) (by decide)
    by_cases g2 : q + 1 < len ∧ nI 48 ≤ tx (q + 1) ∧ tx (q + 1) ≤ nI 53
    · have e2 := eo_n (tx := tx) g2.1 (sA_5.trans (if_pos g2.2)) (by decide)
      by_cases g3 : q + 2 < len ∧ tx (q + 2) = nI 46
      · have e3 := eo_n (tx := tx) g3.1 (sA_6.trans (if_pos g3.2)) (by decide)
        by_cases g4 : q + 3 < len ∧ nI 48 ≤ tx (q + 3) ∧ tx (q + 3) ≤ nI 51
        · have e4 := eo_n (tx := tx) g4.1 (sA_7.trans (if_pos g4.2)) (by decide)
          exact Or.inl ⟨by omega, ⟨g1.2, g2.2, g3.2, g4.2⟩, e1.trans (e2.trans (e3.trans e4))⟩
        · exact Or.inr ⟨q + 3, by omega, e1.trans (e2.trans (e3.trans (eo_x (by omega) (fun hl => sA_7.trans (if_neg fun h => g4 ⟨hl, h⟩)) (by decide))))⟩
      · exact Or.inr ⟨q + 2, by omega, e1.trans (e2.trans (eo_x (by omega) (fun hl => sA_6.trans (if_neg fun h => g3 ⟨hl, h⟩)) (by decide)))⟩
    · exact Or.inr ⟨q + 1, by omega, e1.trans (eo_x (by omega) (fun hl => sA_5.trans (if_neg fun h => g2 ⟨hl, h⟩)) (by decide))⟩
  · exact Or.inr ⟨q, hq, eo_x hq (fun hl => (hm hl).trans (if_neg fun h => g1 ⟨hl, h⟩)) h8⟩
theorem eo_trd (hp : p ≤ len) : (∃ q, q + 4 ≤ len ∧ TRD tx p q ∧ eo tx (len - p) p (nI 0) = eo tx (len - (q + 4)) (q + 4) (nI 8)) ∨ ∃ e, e ≤ len ∧ eo tx (len - p) p (nI 0) = nI e := by
  by_cases g1 : p < len ∧ nI 48 ≤ tx p ∧ tx p ≤ nI 53
  · have e1 := eo_n (tx := tx) g1.1 (sA_0.trans (if_pos g1.2)) (by decide)
    by_cases g2 : p + 1 < len ∧ (tx (p + 1) = nI 43 ∨ tx (p + 1) = nI 45)
    · have e2 := eo_n (tx := tx) g2.1 (sA_1.trans (if_pos g2.2)) (by decide)
      by_cases g3 : p + 2 < len ∧ nI 49 ≤ tx (p + 2) ∧ tx (p + 2) ≤ nI 57
      · have e3 := eo_n (tx := tx) g3.1 (sA_2.trans (if_pos g3.2)) (by decide)
        by_cases g4 : p + 3 < len ∧ nI 48 ≤ tx (p + 3) ∧ tx (p + 3) ≤ nI 57
        · have e4 := eo_n (tx := tx) g4.1 (sA_3.trans (if_pos g4.2)) (by decide)
          rcases eo_end (tx := tx) (len := len) (q := p + 4) (st := nI 4) (by omega) (Or.inr rfl) with ⟨h1, h2, h3⟩ | ⟨e, h1, h2⟩
          · exact Or.inl ⟨p + 4, h1, ⟨g1.2, g2.2, g3.2, Or.inr ⟨rfl, g4.2⟩, h2⟩, e1.trans (e2.trans (e3.trans (e4.trans h3)))⟩
          · exact Or.inr ⟨e, h1, e1.trans (e2.trans (e3.trans (e4.trans h2)))⟩
        · rcases eo_end (tx := tx) (len := len) (q := p + 3) (st := nI 3) (by omega) (Or.inl ⟨rfl, fun hl h => g4 ⟨hl, h⟩⟩) with ⟨h1, h2, h3⟩ | ⟨e, h1, h2⟩
          · exact Or.inl ⟨p + 3, h1, ⟨g1.2, g2.2, g3.2, Or.inl rfl, h2⟩, e1.trans (e2.trans (e3.trans h3))⟩
          · exact Or.inr ⟨e, h1, e1.trans (e2.trans (e3.trans h2))⟩
      · exact Or.inr ⟨p + 2, by omega, e1.trans (e2.trans (eo_x (by omega) (fun hl => sA_2.trans (if_neg fun h => g3 ⟨hl, h⟩)) (by decide)))⟩
    · exact Or.inr ⟨p + 1, by omega, e1.trans (eo_x (by omega) (fun hl => sA_1.trans (if_neg fun h => g2 ⟨hl, h⟩)) (by decide))⟩
  · exact Or.inr ⟨p, hp, eo_x hp (fun hl => sA_0.trans (if_neg fun h => g1 ⟨hl, h⟩)) (by decide)⟩
/-- from p on stands a list of trades -/
def LST (tx : Nat → Int32) (len : Nat) : Nat → Nat → Prop
  | 0, _ => False
  | r + 1, p => ∃ q, q + 4 ≤ len ∧ TRD tx p q ∧ (q + 4 = len ∨ q + 4 < len ∧ tx (q + 4) = nI 59 ∧ LST tx len r (q + 5))
theorem TRD.q {q : Nat} (h : TRD tx p q) : p + 3 ≤ q ∧ q ≤ p + 4 := by
  rcases h.2.2.2.1 with h | h
  · omega
  · omega
theorem nI_n1 {e : Nat} (he : e ≤ 1000) : nI e ≠ -1 := nI_ne_m1 (by omega)
theorem eo_lst (hl60 : len ≤ 60) : ∀ r p, p ≤ len → len < p + r → eo tx (len - p) p (nI 0) = -1 → LST tx len r p
  | 0, p, hp, hr, _ => absurd hr (by omega)
  | r + 1, p, hp, hr, he => by
    rcases eo_trd (tx := tx) hp with ⟨q, h1, h2, h3⟩ | ⟨e, h1, h2⟩
    · have hq := h2.q
      refine ⟨q, h1, h2, ?_⟩
      by_cases g : q + 4 = len
      · exact Or.inl g
      · refine Or.inr ⟨by omega, ?_⟩
        rw [he] at h3
        by_cases g2 : tx (q + 4) = nI 59
        · refine ⟨g2, eo_lst hl60 r (q + 5) (by omega) (by omega) ?_⟩
          rw [h3]
          exact (eo_n (tx := tx) (p := q + 4) (by omega) (sA_8.trans (if_pos g2)) (by decide)).symm
        · rw [show len - (q + 4) = (len - (q + 4) - 1) + 1 by omega, eo, sA_8, if_neg g2, if_pos rfl] at h3
          exact absurd h3.symm (nI_n1 (by omega))
    · rw [he] at h2
      exact absurd h2.symm (nI_n1 (by omega))
/-- what a trade says -/
def tcn (tx : Nat → Int32) (p q : Nat) : Int32 := if q = p + 3 then tx (p + 2) - nI 48 else nI 10 * (tx (p + 2) - nI 48) + (tx (p + 3) - nI 48)
def trd (tx : Nat → Int32) (p q : Nat) : Rd := (tx p - nI 48, (if tx (p + 1) = nI 45 then nI 1 else nI 0), tcn tx p q, tx (q + 1) - nI 48, tx (q + 3) - nI 48)
theorem rt_n {R : Rd} (hp : p < len) (h : sA st (tx p) = st') (hne : st' ≠ nI 0) : rt tx (len - p) p st R = rt tx (len - (p + 1)) (p + 1) st' (nt st (tx p) R) := by
  rw [show len - p = (len - (p + 1)) + 1 by omega, rt, h, if_neg hne]
theorem nt_0 {c : Int32} {R : Rd} : nt (nI 0) c R = (c - nI 48, R.2) := by unfold nt; rw [if_pos rfl]
theorem nt_1 {c : Int32} {R : Rd} : nt (nI 1) c R = (R.1, (if c = nI 45 then nI 1 else nI 0), R.2.2) := by unfold nt; rw [if_neg (by decide), if_pos rfl]
theorem nt_2 {c : Int32} {R : Rd} : nt (nI 2) c R = (R.1, R.2.1, c - nI 48, R.2.2.2) := by unfold nt; rw [if_neg (by decide), if_neg (by decide), if_pos rfl]
theorem nt_3 {c : Int32} {R : Rd} : nt (nI 3) c R = if c = nI 109 then R else (R.1, R.2.1, nI 10 * R.2.2.1 + (c - nI 48), R.2.2.2) := by unfold nt; rw [if_neg (by decide), if_neg (by decide), if_neg (by decide), if_pos rfl]
theorem nt_5 {c : Int32} {R : Rd} : nt (nI 5) c R = (R.1, R.2.1, R.2.2.1, c - nI 48, R.2.2.2.2) := by unfold nt; rw [if_neg (by decide), if_neg (by decide), if_neg (by decide), if_neg (by decide), if_pos rfl]
theorem nt_7 {c : Int32} {R : Rd} : nt (nI 7) c R = (R.1, R.2.1, R.2.2.1, R.2.2.2.1, c - nI 48) := by unfold nt; rw [if_neg (by decide), if_neg (by decide), if_neg (by decide), if_neg (by decide), if_neg (by decide), if_pos rfl]
theorem nt_k {c : Int32} {R : Rd} (h : st = nI 4 ∨ st = nI 6 ∨ st = nI 8) : nt st c R = R := by
  unfold nt
  rcases h with rfl | rfl | rfl
  · rw [if_neg (by decide), if_neg (by decide), if_neg (by decide), if_neg (by decide), if_neg (by decide), if_neg (by decide)]
  · rw [if_neg (by decide), if_neg (by decide), if_neg (by decide), if_neg (by decide), if_neg (by decide), if_neg (by decide)]
  · rw [if_neg (by decide), if_neg (by decide), if_neg (by decide), if_neg (by decide), if_neg (by decide), if_neg (by decide)]
theorem rt_trd {q : Nat} {R : Rd} (h : TRD tx p q) (hq : q + 4 ≤ len) (he : q + 4 < len → tx (q + 4) = nI 59) : rt tx (len - p) p (nI 0) R = (if q + 4 < len then q + 5 else q + 4, trd tx p q) := by
  obtain ⟨h1, h2, h3, h4, h5, h6, h7, h8⟩ := h
  have hqq : p + 3 ≤ q ∧ q ≤ p + 4 := by
    rcases h4 with h | h <;> omega
  have fin : ∀ R, rt tx (len - (q + 1)) (q + 1) (nI 5) R = (if q + 4 < len then q + 5 else q + 4, (R.1, R.2.1, R.2.2.1, tx (q + 1) - nI 48, tx (q + 3) - nI 48)) := fun R => by
    rw [rt_n (tx := tx) (p := q + 1) (by omega) (sA_5.trans (if_pos h6)) (by decide), rt_n (tx := tx) (p := q + 1 + 1) (by omega) (sA_6.trans (if_pos h7)) (by decide), rt_n (tx := tx) (p := q + 1 + 1 + 1) (by omega) (sA_7.trans (if_pos h8)) (by decide), nt_5, nt_k (Or.inr (Or.inl rfl)), nt_7]
    by_cases g : q + 4 < len
    · rw [if_pos g, show len - (q + 1 + 1 + 1 + 1) = (len - (q + 5)) + 1 by omega, rt, sA_8, if_pos (he g), if_pos rfl, nt_k (Or.inr (Or.inr rfl))]
    · rw [if_neg g, show len - (q + 1 + 1 + 1 + 1) = 0 by omega, rt]
  rw [rt_n (tx := tx) (by omega) (sA_0.trans (if_pos h1)) (by decide), rt_n (tx := tx) (p := p + 1) (by omega) (sA_1.trans (if_pos h2)) (by decide), rt_n (tx := tx) (p := p + 1 + 1) (by omega) (sA_2.trans (if_pos h3)) (by decide), nt_0, nt_1, nt_2]
  unfold trd tcn
  rcases h4 with rfl | ⟨rfl, h4⟩
  · rw [rt_n (tx := tx) (p := p + 1 + 1 + 1) (st' := nI 5) (by omega) (sA_3.trans ((if_neg (n_109 h5)).trans (if_pos h5))) (by decide), nt_3, if_pos h5, if_pos rfl]
    exact fin _
  · have n109 : tx (p + 1 + 1 + 1) ≠ nI 109 := fun h => n_109 h h4
    rw [rt_n (tx := tx) (p := p + 1 + 1 + 1) (st' := nI 4) (by omega) (sA_3.trans (if_pos h4)) (by decide), nt_3, if_neg n109, rt_n (tx := tx) (p := p + 1 + 1 + 1 + 1) (st' := nI 5) (by omega) (sA_4.trans (if_pos h5)) (by decide), nt_k (Or.inl rfl), if_neg (show ¬ p + 4 = p + 3 by omega)]
    exact fin _
end TXT
