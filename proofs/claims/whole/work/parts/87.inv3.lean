/-! the invariant, kept by settling, cancelling, and new markets -/
section INV3
variable {S : St} {k T N tm m n : Nat}
theorem XP.keep {g g' : Nat → Int32} (h : XP g k tm) (e : ∀ m, m < k → g' (15 + 43 * m) = g (15 + 43 * m)) (s : ∀ m, m < k → g' (12 + 43 * m) = nI 3 ∨ g' (12 + 43 * m) = nI 2 ∨ g' (12 + 43 * m) = g (12 + 43 * m)) : XP g' k tm := fun m hm => by
  obtain ⟨x, x1, x2, x3, x4⟩ := h m hm
  refine ⟨x, (e m hm).trans x1, x2, fun g => ?_, fun g => ?_⟩
  · rcases s m hm with h | h | h
    · rw [g] at h; exact absurd h (by decide)
    · rw [g] at h; exact absurd h (by decide)
    · exact x3 (by rw [← h]; exact g)
  · rcases s m hm with h | h | h
    · rw [g] at h; exact absurd h (by decide)
    · rw [g] at h; exact absurd h (by decide)
    · exact x4 (by rw [← h]; exact g)
theorem TI.evf (h1 : S.1 3 = nI S.2.1.length) (h2 : CV S.1 k) (h3 : MST S.1 k) (hk6 : k ≤ 6) : TI (vf k S).1 k := by
  obtain ⟨ds, p1, p2, p3, p4⟩ := vf_rn hk6 h2 k (Nat.le_refl _)
  refine ⟨?_, ?_, ?_, p4⟩
  · rw [p2]; exact rn_len ds _ h1
  · rw [p2]; exact CV.rn_ ds _ h2
  · rw [p2]; exact MST.rn_ ds _ h3
theorem vf_s {e : Nat} (hc : CV S.1 k) (hk6 : k ≤ 6) : (vf k S).1.1 (12 + 43 * e) = nI 3 ∨ (vf k S).1.1 (12 + 43 * e) = S.1 (12 + 43 * e) := by
  obtain ⟨ds, p1, p2, p3, p4⟩ := vf_rn hk6 hc k (Nat.le_refl _)
  rw [p2]
  exact rn_s1 ds S
theorem INV.cm {x : Int32} (h : INV S k T N tm) : INV (p_cm S x).2 k T N tm := by
  have hk6 := h.1.1.2.1
  have hti := h.ti
  unfold p_cm
  rcases mAt_c h.1.1 x with ⟨m, hm, rfl, em⟩ | ⟨em, -⟩
  · rw [em]
    dsimp only
    split
    · rw [h.1.1.1, nIc (by omega)]
      refine INV.mk' ((h.li.emv hm fun g => absurd g (by decide)).evf hti.2.1.mv_) (hti.emv hk6) (h.2.2.2.2.2.2.1.keep (fun e he => by rw [vf_K cfv_15, mv_K cfv_15]) fun e he => ?_) (by rw [vf_K cfv_0, mv_K cfv_0]; exact h.2.2.2.2.2.2.2.1)
      rcases vfm_s (b := m) (e := e) (r := nI 1) hti.2.1 hk6 with g | g
      · exact Or.inl g
      · exact Or.inr (Or.inr g)
    · exact h
  · rw [em]
    exact h
theorem INV.set {x y : Int32} (h : INV S k T N tm) : INV (p_set S x y).2 k T N tm := by
  have hk6 := h.1.1.2.1
  have hti := h.ti
  obtain ⟨t1, t2, t3, t4⟩ := id hti
  unfold p_set
  rcases mW_c h.1.1 x y with ⟨m, n, o, hm, rfl, hn, n2, n4, ho, rfl, em⟩ | ⟨em, -⟩
  · rw [em]
    dsimp only
    split
    · rename_i g1
      split
      · rw [h.1.1.1, nIc (by omega)]
        have s2 : pw S.1 m o (12 + 43 * m) = nI 2 := by unfold pw; rw [ug_n (by omega), ug_s]
        have c1 : CV (pw S.1 m o, S.2).1 k := fun e he => by
          dsimp only
          rw [pw_o (by omega) (by omega) (by omega) (by omega)]
          exact t2 e he
        have st1 : MST (pw S.1 m o, S.2).1 k := fun e he => by
          dsimp only
          by_cases g : e = m
          · subst g
            exact ⟨2, by omega, s2⟩
          · rw [pw_o (by omega) (by omega) (by omega) (by omega)]
            exact t3 e he
        have l3 : (pw S.1 m o, S.2).1 3 = nI (pw S.1 m o, S.2).2.1.length := by
          dsimp only
          rw [pw_o (by omega) (by omega) (by omega) (by omega)]
          exact t1
        have li1 : LI (pw S.1 m o, S.2) k T N := by
          refine h.li.of (by dsimp only; rw [pw_o (by omega) (by omega) (by omega) (by omega)]) (by dsimp only; rw [pw_o (by omega) (by omega) (by omega) (by omega)]) (by dsimp only; rw [pw_o (by omega) (by omega) (by omega) (by omega)]) (fun m' w a b => by dsimp only; rw [pw_o (by omega) (by omega) (by omega) (by omega)]) (List.Sublist.refl _) l3 (fun m' w a b c => by dsimp only; rw [pw_o (by omega) (by omega) (by omega) (by omega)]) fun e he => ?_
          dsimp only
          intro a3 r3
          have hne : e ≠ m := fun g => by
            subst g
            rw [s2] at a3
            exact absurd a3 (by decide)
          rw [pw_o (by omega) (by omega) (by omega) (by omega)] at a3 r3
          obtain ⟨c, c1, c2, c3⟩ := h.li.2.2.2.2 e he a3 r3
          have hcm : c ≠ m := fun g => by
            subst g
            rw [g1] at c3
            exact absurd c3 (by decide)
          refine ⟨c, c1, ?_, ?_⟩
          · rw [pw_o (by omega) (by omega) (by omega) (by omega)]; exact c2
          · rw [pw_o (by omega) (by omega) (by omega) (by omega)]; exact c3
        refine INV.mk' (li1.evf c1) (TI.evf l3 c1 st1 hk6) (h.2.2.2.2.2.2.1.keep (fun e he => by rw [vf_K cfv_15]; dsimp only; rw [pw_o (by omega) (by omega) (by omega) (by omega)]) fun e he => ?_) (by rw [vf_K cfv_0]; dsimp only; rw [pw_o (by omega) (by omega) (by omega) (by omega)]; exact h.2.2.2.2.2.2.2.1)
        rcases vf_s (e := e) c1 hk6 with g | g
        · exact Or.inl g
        · by_cases g2 : e = m
          · subst g2
            exact Or.inr (Or.inl (g.trans s2))
          · refine Or.inr (Or.inr (g.trans ?_))
            dsimp only
            rw [pw_o (by omega) (by omega) (by omega) (by omega)]
      · exact h
    · exact h
  · rw [em]
    exact h
theorem INV.addM {b n e : Int32} {cm co : Int32} (h : INV S k T N tm) (htm : tm < 1000000) (hp : p_can S.1 b n e = true) (hc : cm = -1 ∨ ∃ c, c < k ∧ cm = nI c ∧ (S.1 (12 + 43 * c) = nI 0 ∨ S.1 (12 + 43 * c) = nI 1)) : ∃ k', INV (p_addM S b n e cm co).2 k' T N tm := by
  have hk6 := h.1.1.2.1
  obtain ⟨⟨w1, ⟨v1, v2, v3, v4⟩, w3, w4, w5⟩, h2, h3, c1, c2, c3, c4, c5, c6, c7⟩ := id h
  unfold p_addM
  split
  · exact ⟨k, h⟩
  · rename_i g6
    rw [w1.1] at g6
    have hk' : k < 6 := by
      apply Nat.lt_of_le_of_ne hk6
      intro e
      exact g6 (by rw [e])
    unfold p_can at hp
    rw [Bool.and_eq_true, Bool.and_eq_true, Bool.and_eq_true, decide_eq_true_eq, decide_eq_true_eq, decide_eq_true_eq, decide_eq_true_eq, c5, nIa] at hp
    obtain ⟨⟨⟨pb, -⟩, pn⟩, pe⟩ := hp
    obtain ⟨b, hb, rfl⟩ := nI_ofr (k := 61) (Int32.le_trans (by decide) pb.1) (Int32.lt_of_le_of_lt pb.2 (by decide)) (by omega)
    obtain ⟨n, hn, rfl⟩ := nI_ofr (k := 5) (Int32.le_trans (by decide) pn.1) (Int32.lt_of_le_of_lt pn.2 (by decide)) (by omega)
    obtain ⟨e, he, rfl⟩ := nI_ofr (k := 1000) (Int32.le_trans (nI_0le _ (by omega)) pe.1) (Int32.lt_of_le_of_lt pe.2 (by decide)) (by omega)
    rw [nIle (by omega) (by omega), nIle (by omega) (by omega)] at pb pn pe
    rw [w1.1, nIc (by omega)]
    dsimp only
    have o : ∀ j, j ≠ 1 → j ≠ 13 + 43 * k → j ≠ 14 + 43 * k → j ≠ 15 + 43 * k → j ≠ 16 + 43 * k → j ≠ 17 + 43 * k → add_g S.1 k (nI b) (nI n) (nI e) cm co j = S.1 j := fun j a1 a2 a3 a4 a5 a6 => by
      unfold add_g
      rw [ug_n a1, ug_n a6, ug_n a5, ug_n a4, ug_n a3, ug_n a2]
    have om : ∀ m w, m < k → w < 43 → add_g S.1 k (nI b) (nI n) (nI e) cm co (12 + 43 * m + w) = S.1 (12 + 43 * m + w) := fun m w hm hw => o _ (by omega) (by omega) (by omega) (by omega) (by omega) (by omega)
    have oz : ∀ m, m < k → add_g S.1 k (nI b) (nI n) (nI e) cm co (12 + 43 * m) = S.1 (12 + 43 * m) := fun m hm => om m 0 hm (by omega)
    have n1 : add_g S.1 k (nI b) (nI n) (nI e) cm co 1 = nI (k + 1) := by unfold add_g; rw [ug_s]
    have n13 : add_g S.1 k (nI b) (nI n) (nI e) cm co (13 + 43 * k) = nI b := by unfold add_g; rw [ug_n (by omega), ug_n (by omega), ug_n (by omega), ug_n (by omega), ug_n (by omega), ug_s]
    have n14 : add_g S.1 k (nI b) (nI n) (nI e) cm co (14 + 43 * k) = nI n := by unfold add_g; rw [ug_n (by omega), ug_n (by omega), ug_n (by omega), ug_n (by omega), ug_s]
    have n15 : add_g S.1 k (nI b) (nI n) (nI e) cm co (15 + 43 * k) = nI e := by unfold add_g; rw [ug_n (by omega), ug_n (by omega), ug_n (by omega), ug_s]
    have n16 : add_g S.1 k (nI b) (nI n) (nI e) cm co (16 + 43 * k) = cm := by unfold add_g; rw [ug_n (by omega), ug_n (by omega), ug_s]
    have n12 : add_g S.1 k (nI b) (nI n) (nI e) cm co (12 + 43 * k) = nI 0 := by
      rw [o _ (by omega) (by omega) (by omega) (by omega) (by omega) (by omega)]
      exact c6 k 0 (Nat.le_refl _) hk' (by omega) (by omega)
    have nsh : ∀ w, 9 ≤ w → w < 37 → add_g S.1 k (nI b) (nI n) (nI e) cm co (12 + 43 * k + w) = nI 0 := fun w a b => by
      rw [o _ (by omega) (by omega) (by omega) (by omega) (by omega) (by omega), c6 k w (Nat.le_refl _) hk' (by omega) (by omega), if_neg (by omega)]
    have e14 : ∀ m, m < k → add_g S.1 k (nI b) (nI n) (nI e) cm co (14 + 43 * m) = S.1 (14 + 43 * m) := fun m hm => o _ (by omega) (by omega) (by omega) (by omega) (by omega) (by omega)
    generalize hG : add_g S.1 k (nI b) (nI n) (nI e) cm co = G at *
    refine ⟨k + 1, ⟨⟨n1, by omega, fun m hm => ?_⟩, ⟨fun m hm => ?_, ?_, fun y hy => ?_, v4⟩, w3, ?_, w5⟩, fun m hm => ?_, ⟨?_, h3.2⟩, fun m hm => ?_, fun m hm => ?_, fun d hd => ?_, fun m hm => ?_, ?_, fun m w a b c x9 => ?_, fun m hm => ?_⟩
    · by_cases g : m = k
      · subst g
        exact ⟨n, n14, by omega, by omega⟩
      · dsimp only
        rw [e14 m (by omega)]
        exact w1.2.2 m (by omega)
    · by_cases g : m = k
      · subst g
        refine ⟨n, b, fun _ => 0, n14, by omega, by omega, n13, by omega, by omega, fun o ho => ⟨?_, Nat.zero_le _⟩⟩
        have := nsh (9 + o) (by omega) (by omega)
        rw [show 12 + 43 * m + (9 + o) = 21 + 43 * m + o by omega] at this
        exact this
      · obtain ⟨n', b', s, h1, a2, a4, h2, a1, a3, h5⟩ := v1 m (by omega)
        refine ⟨n', b', s, (e14 m (by omega)).trans h1, a2, a4, ?_, a1, a3, fun o ho => ?_⟩
        · have := om m 1 (by omega) (by omega)
          rw [p_1] at this
          exact this.trans h2
        · have := om m (9 + o) (by omega) (by omega)
          rw [show 12 + 43 * m + (9 + o) = 21 + 43 * m + o by omega] at this
          dsimp only
          rw [this]
          exact h5 o ho
    · dsimp only
      rw [o 3 (by omega) (by omega) (by omega) (by omega) (by omega) (by omega)]
      exact v2
    · obtain ⟨m1, n1, o1, t1, a1, a2, a3, a4⟩ := v3 y hy
      exact ⟨m1, n1, o1, t1, by omega, a2, (e14 m1 a1).trans a3, a4⟩
    · dsimp only
      rw [o 4 (by omega) (by omega) (by omega) (by omega) (by omega) (by omega)]
      exact w4
    · by_cases g : m = k
      · subst g
        refine ⟨fun _ _ => 0, fun t o ht ho => ?_, fun o ho => ⟨?_, Nat.zero_le _⟩⟩
        · have := nsh (13 + 4 * t + o) (by omega) (by omega)
          rw [show 12 + 43 * m + (13 + 4 * t + o) = 25 + 43 * m + 4 * t + o by omega] at this
          exact this
        · have := nsh (9 + o) (by omega) (by omega)
          rw [show 12 + 43 * m + (9 + o) = 21 + 43 * m + o by omega] at this
          exact this
      · exact h2.of (g' := G) (fun m w a b c => om m w c (by omega)) m (by omega)
    · dsimp only
      rw [o 2 (by omega) (by omega) (by omega) (by omega) (by omega) (by omega)]
      exact h3.1
    · dsimp only
      by_cases g : m = k
      · subst g
        rw [n16]
        exact hc.imp id fun ⟨c, a, b, _⟩ => ⟨c, a, b⟩
      · have := om m 4 (by omega) (by omega)
        rw [p_4] at this
        rw [this]
        exact c1 m (by omega)
    · dsimp only
      by_cases g : m = k
      · subst g
        exact ⟨0, by omega, n12⟩
      · rw [oz m (by omega)]
        exact c2 m (by omega)
    · dsimp only
      have st : ∀ m, m < k → G (12 + 43 * m) = S.1 (12 + 43 * m) := fun m hm => om m 0 hm (by omega)
      have e16 : ∀ m, m < k → G (16 + 43 * m) = S.1 (16 + 43 * m) := fun m hm => by rw [← p_4]; exact om m 4 hm (by omega)
      have e17 : ∀ m, m < k → G (17 + 43 * m) = S.1 (17 + 43 * m) := fun m hm => by rw [← p_5]; exact om m 5 hm (by omega)
      have e19 : ∀ m, m < k → G (19 + 43 * m) = S.1 (19 + 43 * m) := fun m hm => by rw [← p_7]; exact om m 7 hm (by omega)
      by_cases g : d = k
      · subst g
        intro ha
        refine ha.2 ?_
        rcases hc with hc | ⟨c, a, b, l⟩
        · unfold m_rz
          rw [n16, if_pos hc]
        · exact rz_n (by omega) (n16.trans b) (by rw [st c a]; exact l)
      · exact NF_of (g := S.1) c3 c1 hk6 e16 e17 e19 (fun e he => Or.inl (st e he)) d (by omega)
    · dsimp only
      by_cases g : m = k
      · subst g
        refine ⟨e, n15, by omega, fun _ => by omega, fun h1 => ?_⟩
        rw [n12] at h1
        exact absurd h1 (by decide)
      · have e15 : G (15 + 43 * m) = S.1 (15 + 43 * m) := by rw [← p_3]; exact om m 3 (by omega) (by omega)
        rw [e15, oz m (by omega)]
        exact c4 m (by omega)
    · dsimp only
      rw [o 0 (by omega) (by omega) (by omega) (by omega) (by omega) (by omega)]
      exact c5
    · dsimp only
      rw [o _ (by omega) (by omega) (by omega) (by omega) (by omega) (by omega)]
      exact c6 m w (by omega) b c x9
    · dsimp only
      by_cases g : m = k
      · subst g
        intro a
        rw [n12] at a
        exact absurd a (by decide)
      · have e20 : G (20 + 43 * m) = S.1 (20 + 43 * m) := by rw [show 20 + 43 * m = 12 + 43 * m + 8 by omega]; exact om m 8 (by omega) (by omega)
        have e16 : G (16 + 43 * m) = S.1 (16 + 43 * m) := by rw [← p_4]; exact om m 4 (by omega) (by omega)
        rw [e20, e16, oz m (by omega)]
        intro a b
        obtain ⟨c, x1, x2, x3⟩ := c7 m (by omega) a b
        exact ⟨c, x1, x2, by rw [oz c (by omega)]; exact x3⟩
theorem INV.opn {b n e : Int32} (h : INV S k T N tm) (htm : tm < 1000000) : ∃ k', INV (p_open S b n e).2 k' T N tm := by
  unfold p_open
  split
  · rename_i g
    exact h.addM htm g (Or.inl rfl)
  · exact ⟨k, h⟩
theorem INV.link {b n e x y : Int32} (h : INV S k T N tm) (htm : tm < 1000000) : ∃ k', INV (p_link S b n e x y).2 k' T N tm := by
  unfold p_link
  split
  · rename_i g
    rcases mW_c h.1.1 x y with ⟨m, n, o, hm, rfl, hn, n2, n4, ho, rfl, em⟩ | ⟨em, -⟩
    · rw [em]
      dsimp only
      split
      · rename_i g2
        exact h.addM htm g (Or.inr ⟨m, hm, rfl, g2⟩)
      · exact ⟨k, h⟩
    · rw [em]
      exact ⟨k, h⟩
  · exact ⟨k, h⟩
end INV3
