/-! an execution keeps what the search rests on, whole -/
theorem ofb_lv {x y : Od} {v : Int32} : ofb (lv x v) y = ofb x y ∧ ofb y (lv x v) = ofb y x := ⟨rfl, rfl⟩
theorem xl_def {L : List Od} {i : Nat} {x : Od} : xl L i x = if x.2.2.2.2.1 - nI 1 = nI 0 then L.eraseIdx i else L.set i (lv x (x.2.2.2.2.1 - nI 1)) := rfl
theorem SRT.exl {L : List Od} {q : Nat} {x : Od} (h : SRT L) (hx : L[q]? = some x) : SRT (xl L q x) := by
  rw [xl_def]
  split
  · exact List.Pairwise.sublist (List.eraseIdx_sublist L q) h
  · rw [SRT, List.pairwise_iff_getElem] at h ⊢
    intro i j hi hj hij
    rw [List.length_set] at hi hj
    obtain ⟨q8, eq⟩ := List.getElem?_eq_some_iff.mp hx
    have h0 := h i j hi hj hij
    by_cases e1 : i = q
    · subst e1
      rw [List.getElem_set_self, List.getElem_set_ne (by omega), ofb_lv.1]
      rw [eq] at h0
      exact h0
    · by_cases e2 : j = q
      · subst e2
        rw [List.getElem_set_ne (by omega), List.getElem_set_self, ofb_lv.2]
        rw [eq] at h0
        exact h0
      · rw [List.getElem_set_ne (by omega), List.getElem_set_ne (by omega)]
        exact h0
theorem xs1_ev {S : St} {k m q : Nat} {x : Od} (h : EV S k) (hk : m < k) (hk6 : k ≤ 6) (hx : S.2.1[q]? = some x) (hq : xq S.1 m x = true) : EV (xs1 S m q x) k := by
  obtain ⟨v1, v2, v3, v4⟩ := h
  have hxm := List.mem_of_getElem? hx
  obtain ⟨m', n', o, t, hm', em', en', n4', ho, eo, ht, et⟩ := v3 x hxm
  have hov : OV S.2.1 := v3.ov
  have exs : xs1 S m q x = (ug (tr S m t o (nI 1) x.1).1 3 (nI (xl S.2.1 q x).length), xl S.2.1 q x, (tr S m t o (nI 1) x.1).2.2) := by
    unfold xs1
    rw [et, eo, nIc (by omega), nIc (by omega)]
  unfold xq at hq
  rw [Bool.and_eq_true, decide_eq_true_eq, decide_eq_true_eq, eo, nIc (by omega)] at hq
  obtain ⟨q1, q2⟩ := hq
  obtain rfl := (nIeq (by omega) (by omega)).mp (q1.symm.trans em')
  have q3 := (ob_0 q2).2.2
  obtain ⟨n, b, s, h1, n2, n4, h2, b1, b2, h3⟩ := v1 m hk
  obtain rfl := (nIeq (by omega) (by omega)).mp (h1.symm.trans en')
  obtain ⟨g1, g2⟩ := h3 o ho
  rw [g1, nIlt (by omega) (by omega)] at q3
  have hmv : MV (tr S m t o (nI 1) x.1).1 k := v1.trd ht (by omega) (by rw [g1, nIa]) (by omega)
  rw [exs]
  refine ⟨fun m' hm' => ?_, by dsimp only; rw [ug_s], fun y hy => ?_, fun y hy => ?_⟩
  · obtain ⟨n, b, s, h1, n2, n4, h2, b1, b2, h3⟩ := hmv m' hm'
    refine ⟨n, b, s, by dsimp only; rw [ug_n (by omega)]; exact h1, n2, n4, by dsimp only; rw [ug_n (by omega)]; exact h2, b1, b2, fun o ho => by dsimp only; rw [ug_n (by omega)]; exact h3 o ho⟩
  · have key : ∀ y' : Od, y' ∈ S.2.1 → y'.2.2.1 = y.2.2.1 → y'.2.2.2.1 = y.2.2.2.1 → y'.2.1 = y.2.1 → ∃ m1 n1 o1 t1, m1 < k ∧ y.2.2.1 = nI m1 ∧ (ug (tr S m t o (nI 1) x.1).1 3 (nI (xl S.2.1 q x).length)) (14 + 43 * m1) = nI n1 ∧ n1 ≤ 4 ∧ o1 < n1 ∧ y.2.2.2.1 = nI o1 ∧ t1 < 6 ∧ y.2.1 = nI t1 := fun y' hy' f1 f2 f3 => by
      obtain ⟨m1, n1, o1, t1, a1, a2, a3, a4, a5, a6, a7, a8⟩ := v3 y' hy'
      refine ⟨m1, n1, o1, t1, a1, f1 ▸ a2, ?_, a4, a5, f2 ▸ a6, a7, f3 ▸ a8⟩
      rw [ug_n (by omega), tr_n ht (by omega)]
      exact a3
    rcases xl_mem hx hy with hy | ⟨rfl, -⟩
    · exact key y hy rfl rfl rfl
    · exact key x hxm rfl rfl rfl
  · rcases xl_mem hx hy with hy | ⟨rfl, g⟩
    · exact v4 y hy
    · exact (v4 x hxm).dec g
