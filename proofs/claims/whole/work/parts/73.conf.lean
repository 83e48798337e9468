/-! voids in any order come to the same -/
theorem mv_p_x {g : Nat → Int32} {m j : Nat} (h1 : j < 6 ∨ 12 ≤ j) (h2 : j ≠ 18 + 43 * m) : ∀ i, i ≤ 6 → mv_p g m i j = g j
  | 0, _ => rfl
  | i + 1, hi => by
    rw [mv_p, ug_n h2, ug_n (by omega)]
    exact mv_p_x h1 h2 i (by omega)
theorem mv_p_b {g : Nat → Int32} {m t : Nat} (ht : t < 6) : ∀ i, i ≤ 6 → mv_p g m i (6 + t) = if t < i then g (6 + t) + g (49 + 43 * m + t) else g (6 + t)
  | 0, _ => by rw [if_neg (by omega)]; rfl
  | i + 1, hi => by
    have ih := mv_p_b (g := g) (m := m) ht i (by omega)
    rw [mv_p, ug_n (by omega)]
    by_cases e : t = i
    · subst e
      rw [if_neg (by omega)] at ih
      rw [ug_s, ih, if_pos (by omega), mv_p_x (by omega) (by omega) t (by omega)]
    · rw [ug_n (by omega), ih]
      by_cases g : t < i
      · rw [if_pos g, if_pos (by omega)]
      · rw [if_neg g, if_neg (by omega)]
def mv_a (g : Nat → Int32) (m : Nat) : Nat → Int32
  | 0 => g (18 + 43 * m)
  | i + 1 => mv_a g m i - g (49 + 43 * m + i)
theorem mv_p_a {g : Nat → Int32} {m : Nat} : ∀ i, i ≤ 6 → mv_p g m i (18 + 43 * m) = mv_a g m i
  | 0, _ => rfl
  | i + 1, hi => by
    rw [mv_p, ug_s, mv_p_a i (by omega), mv_p_x (by omega) (by omega) i (by omega)]
    rfl
theorem mv_a_c {g g' : Nat → Int32} {m : Nat} (h : g (18 + 43 * m) = g' (18 + 43 * m)) (h2 : ∀ t, t < 6 → g (49 + 43 * m + t) = g' (49 + 43 * m + t)) : ∀ i, i ≤ 6 → mv_a g m i = mv_a g' m i
  | 0, _ => h
  | i + 1, hi => by
    rw [mv_a, mv_a, mv_a_c h h2 i (by omega), h2 i (by omega)]
section CONF
variable {S : St} {m k : Nat}
theorem mv_L {r : Int32} : (mv S m r).2.1 = fl m S.2.1 := rfl
theorem mv_3 {r : Int32} : (mv S m r).1 3 = nI (fl m S.2.1).length := by
  unfold mv
  dsimp only
  rw [ug_n (by omega), ug_n (by omega), mv_p_x (by omega) (by omega) 6 (by omega), ug_s]
theorem mv_b {r : Int32} {t : Nat} (ht : t < 6) : (mv S m r).1 (6 + t) = S.1 (6 + t) + S.1 (49 + 43 * m + t) := by
  unfold mv
  dsimp only
  rw [ug_n (by omega), ug_n (by omega), mv_p_b ht 6 (by omega), if_pos ht, ug_n (by omega), ug_n (by omega)]
theorem mv_st {r : Int32} : (mv S m r).1 (12 + 43 * m) = nI 3 := by
  unfold mv
  dsimp only
  rw [ug_n (by omega), ug_s]
theorem mv_rz {r : Int32} : (mv S m r).1 (20 + 43 * m) = r := by
  unfold mv
  dsimp only
  rw [ug_s]
theorem mv_ac {r : Int32} : (mv S m r).1 (18 + 43 * m) = mv_a S.1 m 6 := by
  unfold mv
  dsimp only
  rw [ug_n (by omega), ug_n (by omega), mv_p_a 6 (by omega)]
  exact mv_a_c (ug_n (by omega)) (fun t ht => ug_n (by omega)) 6 (by omega)
theorem mv_o {r : Int32} {j : Nat} (h1 : j < 6 ∨ 12 ≤ j) (h2 : j ≠ 18 + 43 * m) (h3 : j ≠ 3) (h4 : j ≠ 12 + 43 * m) (h5 : j ≠ 20 + 43 * m) : (mv S m r).1 j = S.1 j := by
  unfold mv
  dsimp only
  rw [ug_n h5, ug_n h4, mv_p_x h1 h2 6 (by omega), ug_n h3]
theorem fl_comm {a b : Nat} {L : List Od} : fl a (fl b L) = fl b (fl a L) := by
  unfold fl
  rw [List.filter_filter, List.filter_filter]
  congr 1
  funext o
  exact Bool.and_comm _ _
theorem mv_comm {a b : Nat} {r r' : Int32} (h : a ≠ b) : mv (mv S a r) b r' = mv (mv S b r') a r := by
  refine Prod.ext (funext fun j => ?_) (Prod.ext ?_ rfl)
  · by_cases e3 : j = 3
    · subst e3
      rw [mv_3, mv_3, mv_L, mv_L, fl_comm]
    by_cases eb : 6 ≤ j ∧ j < 12
    · obtain ⟨t, rfl⟩ : ∃ t, j = 6 + t := ⟨j - 6, by omega⟩
      rw [mv_b (by omega), mv_b (by omega), mv_b (by omega), mv_b (by omega), mv_o (by omega) (by omega) (by omega) (by omega) (by omega), mv_o (by omega) (by omega) (by omega) (by omega) (by omega), Int32.add_assoc, Int32.add_assoc, Int32.add_comm (S.1 (49 + 43 * a + t))]
    by_cases ea : j = 18 + 43 * a
    · subst ea
      rw [mv_o (by omega) (by omega) (by omega) (by omega) (by omega), mv_ac, mv_ac]
      exact mv_a_c (mv_o (by omega) (by omega) (by omega) (by omega) (by omega)).symm (fun t ht => (mv_o (by omega) (by omega) (by omega) (by omega) (by omega)).symm) 6 (by omega)
    by_cases ea2 : j = 18 + 43 * b
    · subst ea2
      rw [mv_ac, mv_o (by omega) (by omega) (by omega) (by omega) (by omega), mv_ac]
      exact mv_a_c (mv_o (by omega) (by omega) (by omega) (by omega) (by omega)) (fun t ht => (mv_o (by omega) (by omega) (by omega) (by omega) (by omega))) 6 (by omega)
    by_cases es : j = 12 + 43 * a
    · subst es
      rw [mv_o (by omega) (by omega) (by omega) (by omega) (by omega), mv_st, mv_st]
    by_cases es2 : j = 12 + 43 * b
    · subst es2
      rw [mv_st, mv_o (by omega) (by omega) (by omega) (by omega) (by omega), mv_st]
    by_cases er : j = 20 + 43 * a
    · subst er
      rw [mv_o (by omega) (by omega) (by omega) (by omega) (by omega), mv_rz, mv_rz]
    by_cases er2 : j = 20 + 43 * b
    · subst er2
      rw [mv_rz, mv_o (by omega) (by omega) (by omega) (by omega) (by omega), mv_rz]
    rw [mv_o (by omega) ea2 e3 es2 er2, mv_o (by omega) ea e3 es er, mv_o (by omega) ea e3 es er, mv_o (by omega) ea2 e3 es2 er2]
  · rw [mv_L, mv_L, mv_L, mv_L, fl_comm]
/-- a market that must become void -/
def av (g : Nat → Int32) (d : Nat) : Prop := (g (12 + 43 * d) = nI 0 ∨ g (12 + 43 * d) = nI 1) ∧ m_rz g d ≠ nI 0
def stp (S : St) (d : Nat) : St := mv S d (m_rz S.1 d)
def rn : List Nat → St → St
  | [], S => S
  | d :: ds, S => rn ds (stp S d)
def okr (k : Nat) : List Nat → St → Prop
  | [], _ => True
  | d :: ds, S => d < k ∧ av S.1 d ∧ okr k ds (stp S d)
def NF (k : Nat) (g : Nat → Int32) : Prop := ∀ d, d < k → ¬ av g d
theorem lv_no {S : St} {r : Int32} (h : (mv S m r).1 (12 + 43 * m) = nI 0 ∨ (mv S m r).1 (12 + 43 * m) = nI 1) : False := by
  rw [mv_st] at h
  rcases h with h | h
  · exact absurd h (by decide)
  · exact absurd h (by decide)
/-- the reason by the condition is told by a few numbers -/
theorem rz_c {g g' : Nat → Int32} {d : Nat} (h4 : g' (16 + 43 * d) = g (16 + 43 * d)) (h5 : g' (17 + 43 * d) = g (17 + 43 * d)) (hs : g (16 + 43 * d) ≠ -1 → g' (12 + 43 * (g (16 + 43 * d)).toNatClampNeg) = g (12 + 43 * (g (16 + 43 * d)).toNatClampNeg)) (hw : g (16 + 43 * d) ≠ -1 → g' (19 + 43 * (g (16 + 43 * d)).toNatClampNeg) = g (19 + 43 * (g (16 + 43 * d)).toNatClampNeg)) : m_rz g' d = m_rz g d := by
  unfold m_rz
  rw [h4, h5]
  by_cases e : g (16 + 43 * d) = -1
  · rw [if_pos e, if_pos e]
  · rw [if_neg e, if_neg e, hs e, hw e]
theorem rz_n {g : Nat → Int32} {d c : Nat} (hc : c < 1000) (h : g (16 + 43 * d) = nI c) (h2 : g (12 + 43 * c) = nI 0 ∨ g (12 + 43 * c) = nI 1) : m_rz g d = nI 0 := by
  unfold m_rz
  have e : (nI c).toNatClampNeg = c := nIc (by omega)
  rw [h, if_neg (nI_ne_m1 (by omega)), e]
  have n3 : g (12 + 43 * c) ≠ nI 3 := by rcases h2 with h2 | h2 <;> rw [h2] <;> decide
  have n2 : g (12 + 43 * c) ≠ nI 2 := by rcases h2 with h2 | h2 <;> rw [h2] <;> decide
  rw [if_neg n3, if_neg (fun h => n2 h.1)]
/-- a step keeps another one's being due -/
theorem av_mv {d e : Nat} {r : Int32} (hc : CV S.1 k) (hd : d < k) (hk6 : k ≤ 6) (hne : d ≠ e) (ha : av S.1 d) (hl : S.1 (12 + 43 * e) = nI 0 ∨ S.1 (12 + 43 * e) = nI 1) : av (mv S e r).1 d ∧ m_rz (mv S e r).1 d = m_rz S.1 d := by
  have hrz : m_rz (mv S e r).1 d = m_rz S.1 d := by
    rcases hc d hd with h | ⟨c, hcd, h⟩
    · refine rz_c (mv_o (by omega) (by omega) (by omega) (by omega) (by omega)) (mv_o (by omega) (by omega) (by omega) (by omega) (by omega)) (fun g => absurd h g) (fun g => absurd h g)
    · have hce : c ≠ e := fun g => ha.2 (rz_n (by omega) h (by rw [g]; exact hl))
      have ec : (nI c).toNatClampNeg = c := nIc (by omega)
      refine rz_c (mv_o (by omega) (by omega) (by omega) (by omega) (by omega)) (mv_o (by omega) (by omega) (by omega) (by omega) (by omega)) (fun _ => ?_) (fun _ => ?_)
      · rw [h, ec]; exact mv_o (by omega) (by omega) (by omega) (by omega) (by omega)
      · rw [h, ec]; exact mv_o (by omega) (by omega) (by omega) (by omega) (by omega)
  refine ⟨⟨?_, by rw [hrz]; exact ha.2⟩, hrz⟩
  rw [mv_o (by omega) (by omega) (by omega) (by omega) (by omega)]
  exact ha.1
theorem CV.mv_ {e : Nat} {r : Int32} (h : CV S.1 k) : CV (mv S e r).1 k := fun m hm => by
  rw [mv_o (by omega) (by omega) (by omega) (by omega) (by omega)]
  exact h m hm
theorem stp_comm {d e : Nat} (hc : CV S.1 k) (hd : d < k) (he : e < k) (hk6 : k ≤ 6) (hne : d ≠ e) (ha : av S.1 d) (hb : av S.1 e) : stp (stp S d) e = stp (stp S e) d := by
  have h1 := (av_mv (r := m_rz S.1 d) hc he hk6 (Ne.symm hne) hb ha.1).2
  have h2 := (av_mv (r := m_rz S.1 e) hc hd hk6 hne ha hb.1).2
  unfold stp
  rw [h1, h2]
  exact mv_comm hne
theorem av_rn {d : Nat} (hd : d < k) (hk6 : k ≤ 6) : ∀ (es : List Nat) (S : St), CV S.1 k → av S.1 d → okr k es S → d ∉ es → av (rn es S).1 d
  | [], S, _, h, _, _ => h
  | e :: es, S, hc, h, ho, hn => by
    obtain ⟨o1, o2, o3⟩ := ho
    rw [List.mem_cons, not_or] at hn
    exact av_rn hd hk6 es (stp S e) hc.mv_ (av_mv hc hd hk6 hn.1 h o2.1).1 o3 hn.2
theorem front {d : Nat} (hd : d < k) (hk6 : k ≤ 6) : ∀ (es : List Nat) (S : St), CV S.1 k → av S.1 d → okr k es S → d ∈ es → ∃ es', okr k es' (stp S d) ∧ rn es' (stp S d) = rn es S ∧ es'.length + 1 = es.length
  | [], S, _, h, _, hn => absurd hn (List.not_mem_nil)
  | e :: es, S, hc, h, ho, hn => by
    obtain ⟨o1, o2, o3⟩ := ho
    by_cases g : d = e
    · subst g
      exact ⟨es, o3, rfl, rfl⟩
    · have hn' : d ∈ es := by
        rcases List.mem_cons.mp hn with h | h
        · exact absurd h g
        · exact h
      obtain ⟨es', p1, p2, p3⟩ := front hd hk6 es (stp S e) hc.mv_ (av_mv hc hd hk6 g h o2.1).1 o3 hn'
      have cm := stp_comm hc hd o1 hk6 g h o2
      refine ⟨e :: es', ⟨o1, (av_mv hc o1 hk6 (Ne.symm g) o2 h.1).1, ?_⟩, ?_, ?_⟩
      · rw [cm]; exact p1
      · rw [rn, rn, cm]; exact p2
      · rw [List.length_cons, List.length_cons, p3]
theorem conf (hk6 : k ≤ 6) : ∀ (ds : List Nat) (S : St) (es : List Nat), CV S.1 k → okr k ds S → okr k es S → NF k (rn ds S).1 → NF k (rn es S).1 → rn ds S = rn es S ∧ ds.length = es.length
  | [], S, es, hc, _, h2, n1, _ => by
    cases es with
    | nil => exact ⟨rfl, rfl⟩
    | cons e es => exact absurd h2.2.1 (n1 e h2.1)
  | d :: ds, S, es, hc, h1, h2, n1, n2 => by
    obtain ⟨o1, o2, o3⟩ := h1
    have hm : d ∈ es := Classical.byContradiction fun hn => n2 d o1 (av_rn o1 hk6 es S hc o2 h2 hn)
    obtain ⟨es', p1, p2, p3⟩ := front o1 hk6 es S hc o2 h2 hm
    obtain ⟨q1, q2⟩ := conf hk6 ds (stp S d) es' hc.mv_ o3 p1 n1 (by rw [p2]; exact n2)
    refine ⟨?_, ?_⟩
    · rw [rn, q1, p2]
    · rw [List.length_cons, q2, p3]
theorem rn_app : ∀ (ds es : List Nat) (S : St), rn (ds ++ es) S = rn es (rn ds S)
  | [], _, _ => rfl
  | _ :: ds, es, S => rn_app ds es (stp S _)
theorem okr_app : ∀ (ds es : List Nat) (S : St), okr k ds S → okr k es (rn ds S) → okr k (ds ++ es) S
  | [], _, _, _, h => h
  | _ :: ds, es, S, h, h2 => ⟨h.1, h.2.1, okr_app ds es (stp S _) h.2.2 h2⟩
theorem CV.rn_ : ∀ (ds : List Nat) (S : St), CV S.1 k → CV (rn ds S).1 k
  | [], _, h => h
  | _ :: ds, S, h => CV.rn_ ds (stp S _) h.mv_
/-- one pass makes all void that must be -/
theorem vf_rn (hk6 : k ≤ 6) (hc : CV S.1 k) : ∀ i, i ≤ k → ∃ ds, okr k ds S ∧ (vf i S).1 = rn ds S ∧ (vf i S).2 = ds.length ∧ ∀ d, d < i → ¬ av (vf i S).1.1 d
  | 0, _ => ⟨[], trivial, rfl, rfl, fun d hd => absurd hd (by omega)⟩
  | i + 1, hi => by
    obtain ⟨ds, p1, p2, p3, p4⟩ := vf_rn hk6 hc i (by omega)
    have hcv : CV (vf i S).1.1 k := by rw [p2]; exact CV.rn_ ds S hc
    rw [vf]
    by_cases g : av (vf i S).1.1 i
    · have gb : ((decide ((vf i S).1.1 (12 + 43 * i) = nI 0) || decide ((vf i S).1.1 (12 + 43 * i) = nI 1)) && !decide (m_rz (vf i S).1.1 i = nI 0)) = true := by
        rw [Bool.and_eq_true, Bool.or_eq_true, decide_eq_true_eq, decide_eq_true_eq, Bool.not_eq_true', decide_eq_false_iff_not]
        exact g
      rw [if_pos gb]
      refine ⟨ds ++ [i], okr_app ds [i] S p1 ⟨by omega, by rw [← p2]; exact g, trivial⟩, ?_, ?_, fun d hd => ?_⟩
      · rw [rn_app, ← p2]
        rfl
      · rw [List.length_append, ← p3]
        rfl
      · dsimp only
        intro h
        by_cases e : d = i
        · subst e
          exact lv_no h.1
        · refine p4 d (by omega) ⟨?_, ?_⟩
          · have := h.1
            rw [mv_o (by omega) (by omega) (by omega) (by omega) (by omega)] at this
            exact this
          · have h2 := h.2
            rw [show m_rz (mv (vf i S).1 i (m_rz (vf i S).1.1 i)).1 d = m_rz (vf i S).1.1 d from ?_] at h2
            · exact h2
            · rcases hcv d (by omega) with h | ⟨c, hcd, h⟩
              · refine rz_c (mv_o (by omega) (by omega) (by omega) (by omega) (by omega)) (mv_o (by omega) (by omega) (by omega) (by omega) (by omega)) (fun g => absurd h g) (fun g => absurd h g)
              · have ec : (nI c).toNatClampNeg = c := nIc (by omega)
                refine rz_c (mv_o (by omega) (by omega) (by omega) (by omega) (by omega)) (mv_o (by omega) (by omega) (by omega) (by omega) (by omega)) (fun _ => ?_) (fun _ => ?_)
                · rw [h, ec]; exact mv_o (by omega) (by omega) (by omega) (by omega) (by omega)
                · rw [h, ec]; exact mv_o (by omega) (by omega) (by omega) (by omega) (by omega)
    · have gb : ¬ (((decide ((vf i S).1.1 (12 + 43 * i) = nI 0) || decide ((vf i S).1.1 (12 + 43 * i) = nI 1)) && !decide (m_rz (vf i S).1.1 i = nI 0)) = true) := by
        rw [Bool.and_eq_true, Bool.or_eq_true, decide_eq_true_eq, decide_eq_true_eq, Bool.not_eq_true', decide_eq_false_iff_not]
        exact g
      rw [if_neg gb]
      refine ⟨ds, p1, p2, p3, fun d hd => ?_⟩
      by_cases e : d = i
      · subst e
        exact g
      · exact p4 d (by omega)
end CONF
