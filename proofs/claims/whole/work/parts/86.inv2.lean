/-! the invariant, kept by the other calls -/
section INV2
variable {S : St} {k T N tm m n : Nat}
theorem INV.trsn {t c : Nat} {s : Int32} {sh : Nat → Nat} (h : INV S k T N tm) (hmk : m < k) (ht : t < 6) (hn4 : n ≤ 4) (hs : ∀ o, o < n → S.1 (21 + 43 * m + o) = nI (sh o) ∧ sh o ≤ 400) (ha : ∀ i, i < n → b_in s i = true → sh i + c ≤ 400) : ∀ i, i ≤ n → ∃ T', T ≤ T' ∧ T' ≤ T + i ∧ INV (trs m t s (nI c) i S) k T' N tm
  | 0, _ => ⟨T, by omega, by omega, h⟩
  | i + 1, hi => by
    obtain ⟨T', h1, h2, h3⟩ := INV.trsn h hmk ht hn4 hs ha i (by omega)
    have hk6 := h.1.1.2.1
    rw [trs]
    by_cases hb : b_in s i = true
    · rw [if_pos hb]
      refine ⟨T' + 1, by omega, by omega, h3.up hmk ht (by omega) (s := sh i) ?_ (ha i (by omega) hb)⟩
      rw [trs_sh ht (by omega) i (by omega) (by omega) (by omega), (hs i (by omega)).1]
    · rw [if_neg hb]
      exact ⟨T', by omega, by omega, h3⟩
theorem INV.bs {t x s c : Int32} (h : INV S k T N tm) : ∃ T', T ≤ T' ∧ T' ≤ T + 804 ∧ INV (p_bs S t x s c).2 k T' N tm := by
  have hid : ∃ T', T ≤ T' ∧ T' ≤ T + 804 ∧ INV S k T' N tm := ⟨T, by omega, by omega, h⟩
  unfold p_bs
  split
  · rename_i g1
    obtain ⟨t, ht, rfl⟩ := tr_of g1
    rw [nIc (by omega)]
    split
    · rename_i g2
      obtain ⟨c, hc, rfl⟩ := nI_ofr (k := 51) (Int32.le_trans (by decide) g2.1) (Int32.lt_of_le_of_lt g2.2 (by decide)) (by omega)
      rcases mAt_c h.1.1 x with ⟨m, hm, rfl, em⟩ | ⟨em, -⟩
      · rw [em]
        dsimp only
        obtain ⟨n, b, sh, h1, n2, n4, h2, b1, b2, h3⟩ := h.1.2.1.1 m hm
        rw [nN_of h1 n4]
        split
        · split
          · split
            · rename_i g4
              split
              · exact hid
              · have ha : ∀ i, i < n → b_in s i = true → sh i + c ≤ 400 := fun i hi hb => by
                  have g5 := (b_all_c n).mp g4 i hi
                  obtain ⟨q1, q2⟩ := h3 i hi
                  rw [hb, Bool.not_true, Bool.false_or, decide_eq_true_eq, show qs S.1 m i = nI (sh i) from q1, nIa, nIle (by omega) (by omega), nIle (by omega) (by omega)] at g5
                  omega
                obtain ⟨T1, t1, t2, t3⟩ := h.trsn hm ht n4 h3 ha n (Nat.le_refl _)
                obtain ⟨T', r1, r2, r3⟩ := INV.exo hm 800 t3
                exact ⟨T', by omega, by omega, r3⟩
            · exact hid
          · exact hid
        · exact hid
      · rw [em]
        exact hid
    · exact hid
  · exact hid
theorem INV.place {t x y c lim : Int32} (h : INV S k T N tm) (hN : N < 900000000) : ∃ T' N', T ≤ T' ∧ T' ≤ T + 800 ∧ N' ≤ N + 1 ∧ INV (p_place S t x y c lim).2 k T' N' tm := by
  have hid : ∃ T' N', T ≤ T' ∧ T' ≤ T + 800 ∧ N' ≤ N + 1 ∧ INV S k T' N' tm := ⟨T, N, by omega, by omega, by omega, h⟩
  unfold p_place
  split
  · rename_i g1
    obtain ⟨t, ht, rfl⟩ := tr_of g1
    split
    · rename_i g2
      obtain ⟨c, hc, rfl⟩ := nI_ofr (k := 51) (Int32.le_trans (by decide) g2.1) (Int32.lt_of_le_of_lt g2.2 (by decide)) (by omega)
      split
      · rename_i g6
        obtain ⟨li, hli, rfl⟩ := nI_ofr (k := 2881) (Int32.le_trans (by decide) g6.1) (Int32.lt_of_le_of_lt g6.2 (by decide)) (by omega)
        rw [nIle (by omega) (by omega), nIle (by omega) (by omega)] at g2 g6
        rcases mW_c h.1.1 x y with ⟨m, n, o, hm, rfl, hn, n2, n4, ho, rfl, em⟩ | ⟨em, -⟩
        · rw [em]
          dsimp only
          split
          · split
            · exact hid
            · rename_i g4
              obtain ⟨w1, w2⟩ := h.1.inn h.2.2.1 hN g4 hm hn n4 ho ht (c := c) (li := li) ⟨by omega, by omega⟩ ⟨by omega, by omega⟩
              have h1 : INV (ins S (S.1 2, nI t, nI m, nI o, nI c, nI li)) k T (N + 1) tm := ⟨w1, h.2.1.of fun m w a b c => by unfold ins; dsimp only; rw [ug_n (by omega), ug_n (by omega)], w2, (h.2.2.2.fx h.1.1.2.1 (FX.u (j := 3) (by omega) (by omega))).fx h.1.1.2.1 (FX.u (j := 2) (by omega) (by omega))⟩
              obtain ⟨T', r1, r2, r3⟩ := INV.exo hm 800 h1
              exact ⟨T', N + 1, r1, r2, by omega, r3⟩
          · exact hid
        · rw [em]
          exact hid
      · exact hid
    · exact hid
  · exact hid
/-- a change that takes orders out and leaves the markets' numbers -/
theorem EW.sub {S' : St} (h : EW S k T) (e1 : S'.1 1 = S.1 1) (e4 : S'.1 4 = S.1 4) (ew : ∀ m w, m < k → (w = 1 ∨ w = 2 ∨ (9 ≤ w ∧ w < 37)) → S'.1 (12 + 43 * m + w) = S.1 (12 + 43 * m + w)) (hL : S'.2.1.Sublist S.2.1) (h3 : S'.1 3 = nI S'.2.1.length) : EW S' k T := by
  obtain ⟨w1, ⟨v1, v2, v3, v4⟩, w3, w4, w5⟩ := h
  have e14 : ∀ m, m < k → S'.1 (14 + 43 * m) = S.1 (14 + 43 * m) := fun m hm => by rw [← p_2]; exact ew m 2 hm (by omega)
  refine ⟨⟨e1.trans w1.1, w1.2.1, fun m hm => ?_⟩, ⟨fun m hm => ?_, h3, fun y hy => ?_, fun y hy => v4 y (hL.mem hy)⟩, List.Pairwise.sublist hL w3, e4.trans w4, Nat.le_trans hL.length_le w5⟩
  · obtain ⟨n, a, b, c⟩ := w1.2.2 m hm
    exact ⟨n, (e14 m hm).trans a, b, c⟩
  · obtain ⟨n, b, s, h1, n2, n4, h2, b1, b2, h3⟩ := v1 m hm
    refine ⟨n, b, s, (e14 m hm).trans h1, n2, n4, ?_, b1, b2, fun o ho => ?_⟩
    · rw [← p_1, ew m 1 hm (by omega), p_1]
      exact h2
    · have := ew m (9 + o) hm (by omega)
      rw [show 12 + 43 * m + (9 + o) = 21 + 43 * m + o by omega] at this
      rw [this]
      exact h3 o ho
  · obtain ⟨m1, n1, o1, t1, a1, a2, a3, a4⟩ := v3 y (hL.mem hy)
    exact ⟨m1, n1, o1, t1, a1, a2, (e14 m1 a1).trans a3, a4⟩
theorem INV.canc {x : Int32} (h : INV S k T N tm) : INV (p_canc S x).2 k T N tm := by
  unfold p_canc
  cases S.2.1.find? (nq x) with
  | none => exact h
  | some o =>
    dsimp only
    unfold rmv
    refine ⟨h.1.sub (by dsimp only; rw [ug_n (by omega)]) (by dsimp only; rw [ug_n (by omega)]) (fun m w a b => by dsimp only; rw [ug_n (by omega)]) List.filter_sublist (by dsimp only; rw [ug_s]), h.2.1.of fun m w a b c => by dsimp only; rw [ug_n (by omega)], ⟨by dsimp only; rw [ug_n (by omega)]; exact h.2.2.1.1, fun y hy => h.2.2.1.2 y (List.filter_sublist.mem hy)⟩, h.2.2.2.fx h.1.1.2.1 (FX.u (by omega) (by omega))⟩
/-- what of the invariant speaks of no state -/
def LI (S : St) (k T N : Nat) : Prop := EW S k T ∧ SH S.1 k ∧ NB S N ∧ BL S.1 k ∧ VR S.1 k
theorem LI.of {S' : St} (h : LI S k T N) (e1 : S'.1 1 = S.1 1) (e2 : S'.1 2 = S.1 2) (e4 : S'.1 4 = S.1 4) (ew : ∀ m w, m < k → (w = 1 ∨ w = 2 ∨ (9 ≤ w ∧ w < 37)) → S'.1 (12 + 43 * m + w) = S.1 (12 + 43 * m + w)) (hL : S'.2.1.Sublist S.2.1) (h3 : S'.1 3 = nI S'.2.1.length) (eb : ∀ m w, k ≤ m → m < 6 → w < 43 → S'.1 (12 + 43 * m + w) = S.1 (12 + 43 * m + w)) (hv : VR S'.1 k) : LI S' k T N := by
  obtain ⟨h1, h2, h3', h4, h5⟩ := h
  refine ⟨h1.sub e1 e4 ew hL h3, h2.of fun m w a b c => ew m w c (by omega), ⟨e2.trans h3'.1, fun y hy => h3'.2 y (hL.mem hy)⟩, fun m w a b c e => (eb m w a b c).trans (h4 m w a b c e), hv⟩
theorem LI.emv {r : Int32} (h : LI S k T N) (hm : m < k) (hr : r = nI 3 → ∃ c, c < m ∧ S.1 (16 + 43 * m) = nI c ∧ S.1 (12 + 43 * c) = nI 3) : LI (mv S m r) k T N := by
  have hk6 := h.1.1.2.1
  refine h.of (mv_o (by omega) (by omega) (by omega) (by omega) (by omega)) (mv_o (by omega) (by omega) (by omega) (by omega) (by omega)) (mv_o (by omega) (by omega) (by omega) (by omega) (by omega)) (fun m' w a b => mv_o (by omega) (by omega) (by omega) (by omega) (by omega)) List.filter_sublist mv_3 (fun m' w a b c => mv_o (by omega) (by omega) (by omega) (by omega) (by omega)) fun e he => ?_
  rw [mv_o (j := 16 + 43 * e) (by omega) (by omega) (by omega) (by omega) (by omega)]
  intro s3 r3
  have keep : ∀ c, S.1 (12 + 43 * c) = nI 3 → (mv S m r).1 (12 + 43 * c) = nI 3 := fun c hc => by
    by_cases g : c = m
    · subst g
      exact mv_st
    · rw [mv_o (by omega) (by omega) (by omega) (by omega) (by omega)]
      exact hc
  by_cases g : e = m
  · subst g
    rw [mv_rz] at r3
    obtain ⟨c, c1, c2, c3⟩ := hr r3
    exact ⟨c, c1, c2, keep c c3⟩
  · rw [mv_o (by omega) (by omega) (by omega) (by omega) (by omega)] at s3 r3
    obtain ⟨c, c1, c2, c3⟩ := h.2.2.2.2 e he s3 r3
    exact ⟨c, c1, c2, keep c c3⟩
theorem LI.stp_ {d : Nat} (h : LI S k T N) (hc : CV S.1 k) (hd : d < k) : LI (stp S d) k T N := by
  have hk6 := h.1.1.2.1
  unfold stp
  refine h.emv hd fun hr => ?_
  rcases hc d hd with e | ⟨c, c1, c2⟩
  · unfold m_rz at hr
    rw [if_pos e] at hr
    exact absurd hr (by decide)
  · refine ⟨c, c1, c2, ?_⟩
    unfold m_rz at hr
    have ec : (nI c).toNatClampNeg = c := nIc (by omega)
    rw [c2, if_neg (nI_ne_m1 (by omega)), ec] at hr
    by_cases g : S.1 (12 + 43 * c) = nI 3
    · exact g
    · rw [if_neg g] at hr
      split at hr
      · exact absurd hr (by decide)
      · exact absurd hr (by decide)
theorem LI.rn_ : ∀ (ds : List Nat) {S : St}, LI S k T N → CV S.1 k → okr k ds S → LI (rn ds S) k T N
  | [], _, h, _, _ => h
  | d :: ds, S, h, hc, ho => LI.rn_ ds (h.stp_ hc ho.1) hc.mv_ ho.2.2
theorem LI.evf (h : LI S k T N) (hc : CV S.1 k) : LI (vf k S).1 k T N := by
  obtain ⟨ds, p1, p2, p3, p4⟩ := vf_rn h.1.1.2.1 hc k (Nat.le_refl _)
  rw [p2]
  exact LI.rn_ ds h hc p1
theorem LI.expd (h : LI S k T N) (hm : m < k) (h0 : S.1 (12 + 43 * m) = nI 0) : LI (xpd S m) k T N := by
  have hk6 := h.1.1.2.1
  have o : ∀ j, j ≠ 3 → j ≠ 12 + 43 * m → (xpd S m).1 j = S.1 j := fun j g1 g2 => by
    unfold xpd
    dsimp only
    rw [ug_n g1, ug_n g2]
  have s1 : (xpd S m).1 (12 + 43 * m) = nI 1 := by
    unfold xpd
    dsimp only
    rw [ug_n (by omega), ug_s]
  refine h.of (o _ (by omega) (by omega)) (o _ (by omega) (by omega)) (o _ (by omega) (by omega)) (fun m' w a b => o _ (by omega) (by omega)) List.filter_sublist ?_ (fun m' w a b c => o _ (by omega) (by omega)) fun e he => ?_
  · unfold xpd
    dsimp only
    rw [ug_s]
  · rw [o (16 + 43 * e) (by omega) (by omega), o (20 + 43 * e) (by omega) (by omega)]
    intro s3 r3
    have hne : e ≠ m := fun g => by
      subst g
      rw [s1] at s3
      exact absurd s3 (by decide)
    rw [o _ (by omega) (by omega)] at s3
    obtain ⟨c, c1, c2, c3⟩ := h.2.2.2.2 e he s3 r3
    refine ⟨c, c1, c2, ?_⟩
    have hcm : c ≠ m := fun g => by
      subst g
      rw [h0] at c3
      exact absurd c3 (by decide)
    rw [o _ (by omega) (by omega)]
    exact c3
theorem pt1_li (h : LI S k T N) : ∀ i, i ≤ k → LI (pt1 i S) k T N
  | 0, _ => h
  | i + 1, hi => by
    have ih := pt1_li h i (by omega)
    rw [pt1]
    split
    · rename_i g
      rw [Bool.and_eq_true, decide_eq_true_eq, decide_eq_true_eq] at g
      exact ih.expd (by omega) g.1
    · exact ih
theorem pt2_li (h : LI S k T N) (ht : TI S k) : ∀ i, i ≤ k → LI (pt2 k i S) k T N
  | 0, _ => h
  | i + 1, hi => by
    have ih := pt2_li h ht i (by omega)
    rw [pt2]
    split
    · exact (ih.emv (by omega) fun h => absurd h (by decide)).evf (pt2_ti ht h.1.1.2.1 i).2.1.mv_
    · exact ih
theorem LI.time (h : LI S k T N) {v : Int32} : LI (ug S.1 0 v, S.2) k T N := by
  refine h.of (by dsimp only; rw [ug_n (by omega)]) (by dsimp only; rw [ug_n (by omega)]) (by dsimp only; rw [ug_n (by omega)]) (fun m' w a b => by dsimp only; rw [ug_n (by omega)]) (List.Sublist.refl _) (by dsimp only; rw [ug_n (by omega)]; exact h.1.2.1.2.1) (fun m' w a b c => by dsimp only; rw [ug_n (by omega)]) fun e he => ?_
  dsimp only
  rw [ug_n (by omega), ug_n (by omega), ug_n (by omega)]
  intro s3 r3
  obtain ⟨c, c1, c2, c3⟩ := h.2.2.2.2 e he s3 r3
  exact ⟨c, c1, c2, by rw [ug_n (by omega)]; exact c3⟩
theorem ptk_li (h : LI S k T N) (ht : TI S k) : LI (ptk k S) k T N := by
  have hk6 := h.1.1.2.1
  unfold ptk
  exact pt2_li (pt1_li h.time k (Nat.le_refl _)) (pt1_ti (ht.time hk6) hk6 k) k (Nat.le_refl _)
theorem INV.li (h : INV S k T N tm) : LI S k T N := ⟨h.1, h.2.1, h.2.2.1, h.2.2.2.2.2.2.2.2.1, h.2.2.2.2.2.2.2.2.2⟩
theorem INV.mk' (h : LI S k T N) (ht : TI S k) (hx : XP S.1 k tm) (h0 : S.1 0 = nI tm) : INV S k T N tm :=
  ⟨h.1, h.2.1, h.2.2.1, ht.2.1, ht.2.2.1, ht.2.2.2, hx, h0, h.2.2.2.1, h.2.2.2.2⟩
theorem INV.tick {c : Int32} (h : INV S k T N tm) (htm : tm < 900000) : ∃ tm', tm' ≤ tm + 100 ∧ INV (p_tick S c).2 k T N tm' := by
  have hk6 := h.1.1.2.1
  unfold p_tick
  split
  · rename_i g
    obtain ⟨c, hc, rfl⟩ := nI_ofr (k := 101) (Int32.le_trans (by decide) g.1) (Int32.lt_of_le_of_lt g.2 (by decide)) (by omega)
    rw [h.1.1.1, nIc (by omega), nIc (by omega)]
    have inv := ptn_inv h.ti hk6 h.2.2.2.2.2.2.1 h.2.2.2.2.2.2.2.1 htm
    have li : ∀ i, i ≤ 100 → LI (ptn k i S) k T N := fun i => by
      induction i with
      | zero => intro _; exact h.li
      | succ i ih =>
        intro hi
        rw [ptn]
        exact ptk_li (ih (by omega)) (inv i (by omega)).1
    obtain ⟨a, b, c'⟩ := inv c (by omega)
    exact ⟨tm + c, by omega, INV.mk' (li c (by omega)) a b c'⟩
  · exact ⟨tm, by omega, h⟩
end INV2
