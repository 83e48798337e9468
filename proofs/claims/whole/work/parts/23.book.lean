/-! the book of open orders -/
/-- a book's cells change: its rows' order, its orders, how many there are -/
theorem EX.bk {S : St} {C : (Nat → Nat → Int32) × (Nat → Nat → Nat)} {I I' : Nat → Nat → Int32} {M M' : Nat → Nat → Nat} (h : EX 1 S C I M) {L' : List Od} (hM : ∀ a, a ≠ 65 → M' a = M a) (hI : ∀ a j, ¬ (a = 64 ∧ j = 1) → ¬ (66 ≤ a ∧ a < 82) → I' a j = I a j) (hb : Bk 1 L' I' M') : EX 1 (ug S.1 3 (nI L'.length), L', S.2.2) C I' M' := by
  obtain ⟨h1, h2, hn, hg, hbk, T, ht1, ht2, ht3⟩ := h
  refine ⟨fun a ha => ⟨?_, ?_⟩, fun a j ha1 ha2 ha3 => ?_, fun m hm => ?_, fun k hk hk5 => ?_, hb, T, ?_, ht2, fun i p hi hiT hp => ?_⟩
  · rw [← (h1 a ha).1]
    funext j
    exact hI a j (by omega) (by omega)
  · rw [hM a (by omega)]
    exact (h1 a ha).2
  · rw [hM a (by omega)]
    exact h2 a j ha1 ha2 ha3
  · rw [hI _ _ (by omega) (by omega)]
    exact hn m hm
  · by_cases hk3 : k = 3
    · subst hk3
      dsimp only
      rw [ug_s]
      exact hb.2.1
    · have hr := il_rng (B := 1) hk
      have hne : ¬ ((il 1 k).1 = 64 ∧ (il 1 k).2 = 1) := fun e9 => by
        have hli := li_il1 k hk
        rw [e9.1, e9.2] at hli
        exact hk3 (by rw [← hli]; rfl)
      dsimp only
      rw [hI _ _ hne (by omega), ug_n hk3]
      exact hg k hk hk5
  · rw [hI _ _ (by omega) (by omega)]
    exact ht1
  · rw [hI _ _ (by omega) (by omega)]
    exact ht3 i p hi hiT hp
theorem EX.len {S : St} {C : (Nat → Nat → Int32) × (Nat → Nat → Nat)} {I : Nat → Nat → Int32} {M : Nat → Nat → Nat} (h : EX 1 S C I M) : S.2.1.length ≤ 16 ∧ I 64 1 = nI S.2.1.length ∧ S.1 3 = nI S.2.1.length := by
  have h3 := rd_oc h
  obtain ⟨-, -, -, -, hb, -⟩ := h
  exact ⟨hb.1, hb.2.1, by rw [← h3]; exact hb.2.1⟩
/-- the rows of the book -/
theorem EX.rows {S : St} {C : (Nat → Nat → Int32) × (Nat → Nat → Nat)} {I : Nat → Nat → Int32} {M : Nat → Nat → Nat} (h : EX 1 S C I M) : ∃ p : Nat → Nat, (∀ i, i < 16 → p i < 16) ∧ (∀ i, i < 16 → M 65 i = 66 + p i + 1) ∧ (∀ i j, i < 16 → j < 16 → p i = p j → i = j) ∧
    ∀ i o, S.2.1[i]? = some o → I (66 + p i) 0 = o.1 ∧ I (66 + p i) 1 = o.2.1 ∧ I (66 + p i) 2 = o.2.2.1 ∧ I (66 + p i) 3 = o.2.2.2.1 ∧ I (66 + p i) 4 = o.2.2.2.2.1 ∧ I (66 + p i) 5 = o.2.2.2.2.2 := by
  obtain ⟨-, -, -, -, hb, -⟩ := h
  obtain ⟨p, p1, p2, p3⟩ := hb.2.2
  refine ⟨p, fun i hi => (p1 i hi).1, fun i hi => (p1 i hi).2, p2, fun i o hi => ?_⟩
  have := p3 i o hi
  unfold oat at this
  rw [show 1 + 65 + p i = 66 + p i by omega] at this
  rw [← this]
  exact ⟨rfl, rfl, rfl, rfl, rfl, rfl⟩
theorem get_lt {L : List Od} {i : Nat} (h : i < L.length) : ∃ o, L[i]? = some o := ⟨L[i], List.getElem?_eq_getElem h⟩
section BOOK
variable {S : St} {C : (Nat → Nat → Int32) × (Nat → Nat → Nat)} {I : Nat → Nat → Int32} {M : Nat → Nat → Nat} {d : Nat} {Q : Option Value → ai_H → Prop}
/-- Book.positionOf -/
theorem c3_l {x : Int32} (h : EX 1 S C I M) (k1 : ∀ (i : Nat) (o : Od), S.2.1[i]? = some o → o.1 = x → Q (some (.int (nI i))) (LK, I, M)) (k2 : (∀ (i : Nat) (o : Od), S.2.1[i]? = some o → o.1 ≠ x) → Q (some (.int (-1))) (LK, I, M)) : ∀ k i, k + i = S.2.1.length → (∀ (j : Nat) (o : Od), j < i → S.2.1[j]? = some o → o.1 ≠ x) → Ev d X0 3 2 [.ref 64, .int x, .int (nI i)] [] (LK, I, M) Q
  | 0, i, hi, hno => by
    obtain ⟨l1, l2, l3⟩ := h.len
    obtain rfl : i = S.2.1.length := by omega
    rw [H3_2]
    simp (disch := omega) only [K3, e_aald, e_al0, e_an0, e_c1, e_c3, e_const, e_getI, e_getR, e_goto, e_ii2, e_il1, e_il2, e_is2, e_reti, Option.toList_some, Option.toList_none, List.cons_append, List.nil_append, List.append_nil, List.length_cons, List.length_nil, Nat.reduceAdd, Nat.reduceLeDiff, Nat.zero_le, true_and, and_true, and_self, true_implies, forall_const, ai_rvs, ai_rv0, ai_b_0, Classical.not_not, q_64, l2, Int32.le_refl, not_true_eq_false, false_implies]
    exact k2 fun j o hj => hno j o (List.getElem?_eq_some_iff.mp hj).1 hj
  | k + 1, i, hi, hno => by
    obtain ⟨l1, l2, l3⟩ := h.len
    obtain ⟨p, p0, p1, p2, p3⟩ := h.rows
    obtain ⟨o, ho⟩ := get_lt (L := S.2.1) (i := i) (by omega)
    have hp := p0 i (by omega)
    have e := p3 i o ho
    have ih := c3_l h k1 k2 k (i + 1) (by omega)
    rw [H3_2]
    simp (disch := omega) only [K3, e_aald, e_al0, e_an0, e_c1, e_c3, e_const, e_getI, e_getR, e_goto, e_ii2, e_il1, e_il2, e_is2, e_reti, Option.toList_some, Option.toList_none, List.cons_append, List.nil_append, List.append_nil, List.length_cons, List.length_nil, Nat.reduceAdd, Nat.reduceLeDiff, Nat.zero_le, true_and, and_true, and_self, true_implies, forall_const, ai_rvs, ai_rv0, ai_b_0, Classical.not_not, q_64, l2, nIle, nIa, nIc, m_bo h, a_od, p1, q_od, e.1]
    refine ⟨fun h1 => absurd h1 (by omega), fun _ => ⟨fun h1 => ih fun j o' hj hjo => ?_, fun h1 => k1 i o ho h1⟩⟩
    by_cases hji : j = i
    · subst hji
      rw [ho] at hjo
      cases hjo
      exact h1
    · exact hno j o' (by omega) hjo
theorem c3 {x : Int32} (h : EX 1 S C I M) (k1 : ∀ (i : Nat) (o : Od), S.2.1[i]? = some o → o.1 = x → Q (some (.int (nI i))) (LK, I, M)) (k2 : (∀ (i : Nat) (o : Od), S.2.1[i]? = some o → o.1 ≠ x) → Q (some (.int (-1))) (LK, I, M)) : Cl d 3 [.ref 64, .int x] (LK, I, M) Q := by
  simp (disch := omega) only [E3, K3, e_aald, e_al0, e_an0, e_c1, e_c3, e_const, e_getI, e_getR, e_goto, e_ii2, e_il1, e_il2, e_is2, e_reti, Option.toList_some, Option.toList_none, List.cons_append, List.nil_append, List.append_nil, List.length_cons, List.length_nil, Nat.reduceAdd, Nat.reduceLeDiff, Nat.zero_le, true_and, and_true, and_self, true_implies, forall_const, ai_rvs, ai_rv0, ai_b_0, Classical.not_not]
  exact c3_l h k1 k2 S.2.1.length 0 (by omega) fun j o hj => by omega
/-- Book.openOf -/
def o_ct (f : Od → Bool) (L : List Od) (i : Nat) : Nat := (L.take i).countP f
theorem o_ct_s {f : Od → Bool} {L : List Od} {i : Nat} {o : Od} (h : L[i]? = some o) : o_ct f L (i + 1) = o_ct f L i + if f o then 1 else 0 := by
  unfold o_ct
  rw [List.take_succ, h]
  simp [List.countP_append, List.countP_cons]
theorem c6_l {x : Int32} (h : EX 1 S C I M) (kk : Q (some (.int (nI (S.2.1.countP (fun o => decide (o.2.1 = x)))))) (LK, I, M)) : ∀ k i, k + i = S.2.1.length → Ev d X0 6 4 [.ref 64, .int x, .int (nI (o_ct (fun o => decide (o.2.1 = x)) S.2.1 i)), .int (nI i)] [] (LK, I, M) Q
  | 0, i, hi => by
    obtain ⟨l1, l2, l3⟩ := h.len
    obtain rfl : i = S.2.1.length := by omega
    rw [H6_4]
    simp (disch := omega) only [K6, e_aald, e_al0, e_an0, e_c1, e_c3, e_const, e_getI, e_getR, e_goto, e_ii2, e_ii3, e_il1, e_il2, e_il3, e_is2, e_is3, e_reti, Option.toList_some, Option.toList_none, List.cons_append, List.nil_append, List.append_nil, List.length_cons, List.length_nil, Nat.reduceAdd, Nat.reduceLeDiff, Nat.zero_le, true_and, and_true, and_self, true_implies, forall_const, ai_rvs, ai_rv0, ai_b_0, Classical.not_not, q_64, l2, Int32.le_refl, not_true_eq_false, false_implies]
    rw [o_ct, List.take_length]
    exact kk
  | k + 1, i, hi => by
    obtain ⟨l1, l2, l3⟩ := h.len
    obtain ⟨p, p0, p1, p2, p3⟩ := h.rows
    obtain ⟨o, ho⟩ := get_lt (L := S.2.1) (i := i) (by omega)
    have hp := p0 i (by omega)
    have e := p3 i o ho
    have ih := c6_l h kk k (i + 1) (by omega)
    rw [o_ct_s ho] at ih
    rw [H6_4]
    simp (disch := omega) only [K6, e_aald, e_al0, e_an0, e_c1, e_c3, e_const, e_getI, e_getR, e_goto, e_ii2, e_ii3, e_il1, e_il2, e_il3, e_is2, e_is3, e_reti, Option.toList_some, Option.toList_none, List.cons_append, List.nil_append, List.append_nil, List.length_cons, List.length_nil, Nat.reduceAdd, Nat.reduceLeDiff, Nat.zero_le, true_and, and_true, and_self, true_implies, forall_const, ai_rvs, ai_rv0, ai_b_0, Classical.not_not, q_64, l2, nIle, nIa, nIc, m_bo h, a_od, p1, q_od, e.2.1]
    refine ⟨fun h1 => absurd h1 (by omega), fun _ => ⟨fun h1 => ?_, fun h1 => ?_⟩⟩
    · rw [if_neg (by simpa using h1)] at ih
      exact ih
    · rw [if_pos (by simpa using h1)] at ih
      exact ih
theorem c6 {x : Int32} (h : EX 1 S C I M) : Cl d 6 [.ref 64, .int x] (LK, I, M) Q ↔ Q (some (.int (nI (S.2.1.countP (fun o => decide (o.2.1 = x)))))) (LK, I, M) := by
  refine Cl_one ?_
  simp (disch := omega) only [E6, K6, e_aald, e_al0, e_an0, e_c1, e_c3, e_const, e_getI, e_getR, e_goto, e_ii2, e_ii3, e_il1, e_il2, e_il3, e_is2, e_is3, e_reti, Option.toList_some, Option.toList_none, List.cons_append, List.nil_append, List.append_nil, List.length_cons, List.length_nil, Nat.reduceAdd, Nat.reduceLeDiff, Nat.zero_le, true_and, and_true, and_self, true_implies, forall_const, ai_rvs, ai_rv0, ai_b_0, Classical.not_not]
  exact c6_l h ⟨rfl, rfl⟩ S.2.1.length 0 (by omega)
/-- the rows' order behind a removal at i of n, and behind an insertion at i -/
def t_rm (i n j : Nat) : Nat := if j < i then j else if j + 1 < n then j + 1 else if j + 1 = n then i else j
def t_in (i n j : Nat) : Nat := if j < i then j else if j = i then n else if j ≤ n then j - 1 else j
theorem t_rm_inj {i n a b : Nat} (hi : i < n) (e : t_rm i n a = t_rm i n b) : a = b := by
  unfold t_rm at e
  repeat' split at e
  all_goals omega
theorem t_in_inj {i n a b : Nat} (hi : i ≤ n) (e : t_in i n a = t_in i n b) : a = b := by
  unfold t_in at e
  repeat' split at e
  all_goals omega
theorem t_rm_lt {i n j : Nat} (hi : i < n) (hn : n ≤ 16) (hj : j < 16) : t_rm i n j < 16 := by
  unfold t_rm
  repeat' split
  all_goals omega
theorem t_in_lt {i n j : Nat} (hi : i ≤ n) (hn : n < 16) (hj : j < 16) : t_in i n j < 16 := by
  unfold t_in
  repeat' split
  all_goals omega
theorem m_2 {M : Nat → Nat → Nat} {f : Nat → Nat} (h : ∀ j, M 65 j = f j) : M = fun a j => if a = 65 then f j else M a j := by
  funext a j
  by_cases ha : a = 65
  · subst ha; rw [if_pos rfl, h]
  · rw [if_neg ha]
/-- Book.remove -/
theorem c4_l {p : Nat → Nat} {i n : Nat} (hn : n ≤ 16) (hin : i < n) (h : EX 1 S C I M) (hl : I 64 1 = nI n) (p0 : ∀ i, i < 16 → p i < 16) (p1 : ∀ i, i < 16 → M 65 i = 66 + p i + 1)
    (kk : ∀ M' : Nat → Nat → Nat, (∀ a, a ≠ 65 → M' a = M a) → (∀ j, j < 16 → M' 65 j = 66 + p (t_rm i n j) + 1) → Q none (LK, ai_u I 64 1 (nI (n - 1)), M')) :
    ∀ k x, k + x = n → i < x → ∀ M', (∀ a, a ≠ 65 → M' a = M a) → (∀ j, j < 16 → M' 65 j = 66 + p (if j < i then j else if j + 1 < x then j + 1 else j) + 1) → Ev d X0 4 24 [.ref 64, .int (nI i), .ref (66 + p i), .int (nI x)] [] (LK, I, M') Q
  | 0, x, hx, hix, M', h1, h2 => by
    obtain rfl : x = n := by omega
    have e1 : nI x - nI 1 = nI (x - 1) := pk_sub (by omega)
    have eb : M' 64 0 = 65 + 1 := by rw [h1 64 (by omega)]; exact m_bo h
    have hpi := p0 i (by omega)
    rw [H4_24]
    simp (disch := omega) only [K4, e_aald, e_aast, e_al0, e_al2, e_an0, e_an2, e_as2, e_az2, e_b0, e_b1, e_c2, e_c3, e_const, e_dupi, e_dupr, e_getI, e_getR, e_goto, e_ii3, e_il1, e_il3, e_is3, e_putI, e_ret, e_z2, Option.toList_some, Option.toList_none, List.cons_append, List.nil_append, List.append_nil, List.length_cons, List.length_nil, Nat.reduceAdd, Nat.reduceLeDiff, Nat.zero_le, true_and, and_true, and_self, true_implies, forall_const, ai_rvs, ai_rv0, ai_b_0, Classical.not_not, BO, true_or, q_64, hl, Int32.le_refl, not_true_eq_false, false_implies, e1, eb, ai_uh, nIc, q_65, q_od, a_od, and_true, or_true]
    refine kk _ (fun a ha => ?_) (fun j hj => ?_)
    · rw [ai_u_other _ _ _ _ ha, h1 a ha]
    · show (if 65 = 65 ∧ j = x - 1 then 66 + p i + 1 else M' 65 j) = _
      by_cases hjn : j = x - 1
      · rw [if_pos ⟨rfl, hjn⟩]
        unfold t_rm
        rw [if_neg (by omega), if_neg (by omega), if_pos (by omega)]
      · rw [if_neg (fun g => hjn g.2), h2 j hj]
        unfold t_rm
        by_cases a1 : j < i
        · rw [if_pos a1, if_pos a1]
        · rw [if_neg a1, if_neg a1]
          by_cases a2 : j + 1 < x
          · rw [if_pos a2, if_pos a2]
          · rw [if_neg a2, if_neg a2, if_neg (by omega)]
  | k + 1, x, hx, hix, M', h1, h2 => by
    have ih := c4_l hn hin h hl p0 p1 kk k (x + 1) (by omega) (by omega)
    have e1 : nI x - nI 1 = nI (x - 1) := pk_sub (by omega)
    have eb : M' 64 0 = 65 + 1 := by rw [h1 64 (by omega)]; exact m_bo h
    have er : M' 65 x = 66 + p x + 1 := by
      rw [h2 x (by omega), if_neg (by omega), if_neg (by omega)]
    have hpx := p0 x (by omega)
    rw [H4_24]
    simp (disch := omega) only [K4, e_aald, e_aast, e_al0, e_al2, e_an0, e_an2, e_as2, e_az2, e_b0, e_b1, e_c2, e_c3, e_const, e_dupi, e_dupr, e_getI, e_getR, e_goto, e_ii3, e_il1, e_il3, e_is3, e_putI, e_ret, e_z2, Option.toList_some, Option.toList_none, List.cons_append, List.nil_append, List.append_nil, List.length_cons, List.length_nil, Nat.reduceAdd, Nat.reduceLeDiff, Nat.zero_le, true_and, and_true, and_self, true_implies, forall_const, ai_rvs, ai_rv0, ai_b_0, Classical.not_not, q_64, hl, nIle, nIa, nIc, eb, e1, er, a_od, q_65, q_od, or_true]
    refine ⟨fun g => absurd g (by omega), fun _ => ?_⟩
    refine ih _ (fun a ha => ?_) (fun j hj => ?_)
    · rw [ai_u_other _ _ _ _ ha, h1 a ha]
    · show (if 65 = 65 ∧ j = x - 1 then 66 + p x + 1 else M' 65 j) = _
      by_cases hjx : j = x - 1
      · rw [if_pos ⟨rfl, hjx⟩, if_neg (by omega), if_pos (by omega)]
        congr 3
        omega
      · rw [if_neg (fun g => hjx g.2), h2 j hj]
        by_cases a1 : j < i
        · rw [if_pos a1, if_pos a1]
        · rw [if_neg a1, if_neg a1]
          by_cases a2 : j + 1 < x
          · rw [if_pos a2, if_pos (by omega)]
          · rw [if_neg a2, if_neg (by omega)]
theorem get_erase {L : List Od} {i j : Nat} {o : Od} (hi : i < L.length) (h : (L.eraseIdx i)[j]? = some o) : j + 1 < L.length ∧ L[t_rm i L.length j]? = some o := by
  have hlt := (List.getElem?_eq_some_iff.mp h).1
  rw [List.length_eraseIdx, if_pos hi] at hlt
  refine ⟨by omega, ?_⟩
  rw [List.getElem?_eraseIdx] at h
  unfold t_rm
  split at h
  · rename_i h1
    rw [if_pos h1]; exact h
  · rename_i h1
    rw [if_neg h1, if_pos (by omega)]; exact h
theorem c4 {i : Nat} (h : EX 1 S C I M) (hi : i < S.2.1.length) (kk : ∀ I' M', EX 1 (ug S.1 3 (nI (S.2.1.eraseIdx i).length), S.2.1.eraseIdx i, S.2.2) C I' M' → Q none (LK, I', M')) : Cl d 4 [.ref 64, .int (nI i)] (LK, I, M) Q := by
  obtain ⟨l1, l2, l3⟩ := h.len
  obtain ⟨p, p0, p1, p2, p3⟩ := h.rows
  have hpi := p0 i (by omega)
  simp (disch := omega) only [E4, K4, e_aald, e_aast, e_al0, e_al2, e_an0, e_an2, e_as2, e_az2, e_b0, e_b1, e_c2, e_c3, e_const, e_dupi, e_dupr, e_getI, e_getR, e_goto, e_ii3, e_il1, e_il3, e_is3, e_putI, e_ret, e_z2, Option.toList_some, Option.toList_none, List.cons_append, List.nil_append, List.append_nil, List.length_cons, List.length_nil, Nat.reduceAdd, Nat.reduceLeDiff, Nat.zero_le, true_and, and_true, and_self, true_implies, forall_const, ai_rvs, ai_rv0, ai_b_0, Classical.not_not, q_64, l2, nIlt, nIa, nIc, m_bo h, a_od, p1]
  refine ⟨fun g => absurd g (by omega), fun _ => ⟨fun _ => ?_, fun g => absurd hi g⟩⟩
  refine c4_l (p := p) (n := S.2.1.length) l1 hi h l2 p0 p1 ?_ (S.2.1.length - (i + 1)) (i + 1) (by omega) (by omega) M (fun _ _ => rfl) (fun j hj => ?_)
  · intro M' h1 h2
    have hlen : (S.2.1.eraseIdx i).length = S.2.1.length - 1 := by rw [List.length_eraseIdx, if_pos hi]
    refine kk _ _ (h.bk h1 (fun a j g1 g2 => ai_uo (by omega)) ⟨by omega, by rw [hlen]; exact ai_uh, fun j => p (t_rm i S.2.1.length j), fun j hj => ⟨p0 _ (t_rm_lt hi l1 hj), ?_⟩, fun a b ha hb e => t_rm_inj hi (p2 _ _ (t_rm_lt hi l1 ha) (t_rm_lt hi l1 hb) e), fun j o hj => ?_⟩)
    · rw [h2 j hj]
    · obtain ⟨g1, g2⟩ := get_erase hi hj
      have g3 := p3 _ o g2
      have g4 := p0 (t_rm i S.2.1.length j) (t_rm_lt hi l1 (by omega))
      unfold oat
      rw [show 1 + 65 + p (t_rm i S.2.1.length j) = 66 + p (t_rm i S.2.1.length j) by omega]
      simp (disch := omega) only [ai_uo, g3.1, g3.2.1, g3.2.2.1, g3.2.2.2.1, g3.2.2.2.2.1, g3.2.2.2.2.2]
  · rw [p1 j hj]
    congr 3
    by_cases a1 : j < i
    · rw [if_pos a1]
    · rw [if_neg a1, if_neg (by omega)]
end BOOK
