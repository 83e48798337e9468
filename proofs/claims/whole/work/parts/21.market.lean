/-! Market's other methods -/
def m_lev (q : Nat → Int32) (n : Nat) (b : Int32) : Int32 := if m_k q n b n = nI 0 then nI 0 else if b = nI 0 then nI 0 else
  nI 60 / b * (nI 12 * m_r q n b n - nI 12 / m_k q n b n * (m_s q n b n - nI 2 * b) * (m_s q n b n - nI 2 * b))
def m_cost (q : Nat → Int32) (n : Nat) (b : Int32) (o : Nat) (c : Int32) : Int32 := m_lev (ug q o (q o + c)) n b - m_lev q n b
def m_max (x y : Int32) : Int32 := if x < y then y else x
/-- the price that the class tells of an outcome with the shares q -/
def m_pr (q : Nat → Int32) (n : Nat) (b : Int32) (o : Nat) : Int32 := if m_k q n b n = nI 0 then nI 0 else if b = nI 0 then nI 0 else
  m_max (nI 0) (nI 120 / b * (nI 12 * q o - nI 12 / m_k q n b n * (m_s q n b n - nI 2 * b)))
def m_mx (q : Nat → Int32) : Nat → Int32
  | 0 => nI 0
  | i + 1 => m_max (m_mx q i) (q i)
def b_in (s : Int32) (o : Nat) : Bool := decide ((s >>> (nI o &&& 31)) &&& nI 1 = nI 1)
def g_add (g : Nat → Int32) (m : Nat) (s c : Int32) : Nat → Nat → Int32
  | 0 => g
  | i + 1 => if b_in s i then ug (g_add g m s c i) (21 + 43 * m + i) (g_add g m s c i (21 + 43 * m + i) + c) else g_add g m s c i
def b_all (f : Nat → Bool) : Nat → Bool
  | 0 => true
  | i + 1 => b_all f i && f i
theorem qs_ug {g : Nat → Int32} {m o : Nat} {v : Int32} : qs (ug g (21 + 43 * m + o) v) m = ug (qs g m) o v := by
  funext j
  unfold qs ug
  by_cases h : j = o
  · subst h; simp
  · rw [if_neg (by omega), if_neg h]
theorem i_addsub (x c : Int32) : x + c - c = x := by rw [Int32.sub_eq_add_neg, Int32.add_assoc, Int32.add_right_neg, Int32.add_zero]
theorem c160 {d : Nat} {h : ai_H} {Q : Option Value → ai_H → Prop} {x y : Int32} : Cl d 160 [.int x, .int y] h Q ↔ Q (some (.int (m_max x y))) h := by
  refine Cl_one ?_
  simp only [E160, K160, e_c2, e_goto, e_il0, e_il1, e_reti, Option.toList_some, Option.toList_none, List.cons_append, List.nil_append, List.append_nil, List.length_cons, List.length_nil, Nat.reduceAdd, Nat.reduceLeDiff, Nat.zero_le, true_and, and_true, and_self, true_implies, forall_const, ai_rvs, ai_rv0, ai_b_0, Classical.not_not]
  refine ⟨fun h1 => ?_, fun h1 => ?_⟩
  · rw [m_max, if_pos h1]
  · rw [m_max, if_neg h1]
section MKT
variable {S : St} {C : (Nat → Nat → Int32) × (Nat → Nat → Nat)} {I : Nat → Nat → Int32} {M : Nat → Nat → Nat} {m n o : Nat} {d : Nat} {Q : Option Value → ai_H → Prop}
theorem c37 (h : EX 1 S C I M) (hm : m < 6) : Cl d 37 [.ref (4 + 10 * m)] (LK, I, M) Q ↔ Q (some (.int (ai_b (S.1 (12 + 43 * m) = nI 0 ∨ S.1 (12 + 43 * m) = nI 1)))) (LK, I, M) := by
  refine Cl_one ?_
  have hst := rd_st h hm
  rw [Nat.add_zero] at hst
  simp (disch := omega) only [E37, K37, e_al0, e_an0, e_c1, e_const, e_getI, e_goto, e_retb, e_z0, Option.toList_some, Option.toList_none, List.cons_append, List.nil_append, List.append_nil, List.length_cons, List.length_nil, Nat.reduceAdd, Nat.reduceLeDiff, Nat.zero_le, true_and, and_true, and_self, true_implies, forall_const, ai_rvs, ai_rv0, ai_b_0, Classical.not_not, q_mk, hst]
  refine ⟨fun h1 => ⟨Or.inr rfl, ?_⟩, fun h1 => ⟨fun h2 => ⟨Or.inl rfl, ?_⟩, fun h2 => ⟨Or.inr rfl, ?_⟩⟩⟩
  · rw [ai_b_t (Or.inl h1)]
  · rw [ai_b_f (fun h3 => h3.elim h1 h2)]
  · rw [ai_b_t (Or.inr h2)]
def m_bnd (g : Nat → Int32) (m : Nat) : Int32 := if g (14 + 43 * m) = nI 0 then nI 0 else nI 2880 * g (13 + 43 * m) * (g (14 + 43 * m) - nI 1) / g (14 + 43 * m)
theorem c39 (h : EX 1 S C I M) (hm : m < 6) (hn : S.1 (14 + 43 * m) = nI n) (hn2 : n = 0 ∨ 2 ≤ n) (hn4 : n ≤ 4) : Cl d 39 [.ref (4 + 10 * m)] (LK, I, M) Q ↔ Q (some (.int (m_bnd S.1 m))) (LK, I, M) := by
  refine Cl_one ?_
  simp (disch := omega) only [E39, K39, e_al0, e_an0, e_b1, e_b2, e_const, e_div, e_getI, e_goto, e_reti, e_z1, Option.toList_some, Option.toList_none, List.cons_append, List.nil_append, List.append_nil, List.length_cons, List.length_nil, Nat.reduceAdd, Nat.reduceLeDiff, Nat.zero_le, true_and, and_true, and_self, true_implies, forall_const, ai_rvs, ai_rv0, ai_b_0, Classical.not_not, q_mk, rd_nO h, rd_lq h, show 12 + 43 * m + 2 = 14 + 43 * m by omega, show 12 + 43 * m + 1 = 13 + 43 * m by omega]
  refine ⟨fun h1 => ⟨h1, ?_⟩, fun h1 => ?_⟩
  · rw [m_bnd, if_neg h1]
  · rw [m_bnd, if_pos h1]
theorem c40_l (hm : m < 6) (hn : S.1 (14 + 43 * m) = nI n) (hn4 : n ≤ 4) (h : EX 1 S C I M) (kk : Q (some (.int (m_mx (qs S.1 m) n))) (LK, I, M)) : ∀ k i, k + i = n → Ev (d + 1) X0 40 4 [.ref (4 + 10 * m), .int (m_mx (qs S.1 m) i), .int (nI i)] [] (LK, I, M) Q
  | 0, i, hi => by
    obtain rfl : i = n := by omega
    rw [H40_4]
    simp (disch := omega) only [K40, ai_c1i, ai_c1n, ai_c1r, e_al0, e_an0, e_c3, e_const, e_cs2, e_getI, e_getR, e_goto, e_iald, e_ii2, e_il1, e_il2, e_is1, e_is2, e_reti, Option.toList_some, Option.toList_none, List.cons_append, List.nil_append, List.append_nil, List.length_cons, List.length_nil, Nat.reduceAdd, Nat.reduceLeDiff, Nat.zero_le, true_and, and_true, and_self, true_implies, forall_const, ai_rvs, ai_rv0, ai_b_0, Classical.not_not, q_mk, rd_nO h, show 12 + 43 * m + 2 = 14 + 43 * m by omega, hn, Int32.le_refl, not_true_eq_false, false_implies]
    exact kk
  | k + 1, i, hi => by
    have ih := c40_l hm hn hn4 h kk k (i + 1) (by omega)
    have hq : ∀ o, S.1 (21 + 43 * m + o) = qs S.1 m o := fun _ => rfl
    rw [H40_4]
    simp (disch := omega) only [K40, ai_c1i, ai_c1n, ai_c1r, e_al0, e_an0, e_c3, e_const, e_cs2, e_getI, e_getR, e_goto, e_iald, e_ii2, e_il1, e_il2, e_is1, e_is2, e_reti, Option.toList_some, Option.toList_none, List.cons_append, List.nil_append, List.append_nil, List.length_cons, List.length_nil, Nat.reduceAdd, Nat.reduceLeDiff, Nat.zero_le, true_and, and_true, and_self, true_implies, forall_const, ai_rvs, ai_rv0, ai_b_0, Classical.not_not, q_mk, rd_nO h, show 12 + 43 * m + 2 = 14 + 43 * m by omega, hn, nIle, nIa, nIc, m_sh h, ai_rvs, a_sh, rd_sh h, hq, c160]
    exact ⟨fun h1 => absurd h1 (by omega), fun _ => ih⟩
theorem c40 (h : EX 1 S C I M) (hm : m < 6) (hn : S.1 (14 + 43 * m) = nI n) (hn4 : n ≤ 4) : Cl (d + 1) 40 [.ref (4 + 10 * m)] (LK, I, M) Q ↔ Q (some (.int (m_mx (qs S.1 m) n))) (LK, I, M) := by
  refine Cl_one ?_
  simp (disch := omega) only [E40, K40, ai_c1i, ai_c1n, ai_c1r, e_al0, e_an0, e_c3, e_const, e_cs2, e_getI, e_getR, e_goto, e_iald, e_ii2, e_il1, e_il2, e_is1, e_is2, e_reti, Option.toList_some, Option.toList_none, List.cons_append, List.nil_append, List.append_nil, List.length_cons, List.length_nil, Nat.reduceAdd, Nat.reduceLeDiff, Nat.zero_le, true_and, and_true, and_self, true_implies, forall_const, ai_rvs, ai_rv0, ai_b_0, Classical.not_not]
  exact c40_l hm hn hn4 h ⟨rfl, rfl⟩ n 0 (by omega)
/-- Market.level -/
theorem c42 (h : EX 1 S C I M) (hm : m < 6) (hn : S.1 (14 + 43 * m) = nI n) (hn4 : n ≤ 4) (kk : ∀ I', EX 1 S C I' M → Q (some (.int (m_lev (qs S.1 m) n (S.1 (13 + 43 * m))))) (LK, I', M)) : Cl (d + 1) 42 [.ref (4 + 10 * m)] (LK, I, M) Q := by
  simp (disch := omega) only [E42, K42, ai_c1i, ai_c1n, ai_c1r, e_al0, e_an0, e_b1, e_b2, e_const, e_cv1, e_div, e_getI, e_il1, e_is1, e_reti, e_z0, e_z1, Option.toList_some, Option.toList_none, List.cons_append, List.nil_append, List.append_nil, List.length_cons, List.length_nil, Nat.reduceAdd, Nat.reduceLeDiff, Nat.zero_le, true_and, and_true, and_self, true_implies, forall_const, ai_rvs, ai_rv0, ai_b_0, Classical.not_not, q_mk]
  refine c41 h hm hn hn4 fun I1 h1 a1 a2 a3 => ?_
  have k1 := kk I1 h1
  simp (disch := omega) only [K42, ai_c1i, ai_c1n, ai_c1r, e_al0, e_an0, e_b1, e_b2, e_const, e_cv1, e_div, e_getI, e_il1, e_is1, e_reti, e_z0, e_z1, Option.toList_some, Option.toList_none, List.cons_append, List.nil_append, List.append_nil, List.length_cons, List.length_nil, Nat.reduceAdd, Nat.reduceLeDiff, Nat.zero_le, true_and, and_true, and_self, true_implies, forall_const, ai_rvs, ai_rv0, ai_b_0, Classical.not_not, q_mk, rd_lq h1, show 12 + 43 * m + 1 = 13 + 43 * m by omega, a1, a2, a3, nIm]
  unfold m_lev at k1
  refine ⟨fun g1 => ?_, fun g1 => ⟨fun g2 => ?_, fun g2 => ?_⟩⟩
  · rw [if_pos g1] at k1; exact k1
  · rw [if_neg g1, if_neg g2] at k1
    exact ⟨g2, g1, k1⟩
  · rw [if_neg g1, if_pos g2] at k1; exact k1
theorem EX.sh (h : EX 1 S C I M) (hm : m < 6) (ho : o < 4) (v : Int32) : EX 1 (ug S.1 (21 + 43 * m + o) v, S.2) C (ai_u I (5 + 10 * m) o v) M := h.upd (Or.inl rfl) (by omega) (by omega) (by omega) (by omega) (il_sh ho) v
/-- Market.costOf -/
theorem c43 (h : EX 1 S C I M) (hm : m < 6) (hn : S.1 (14 + 43 * m) = nI n) (hn4 : n ≤ 4) (ho : o < 4) {c : Int32} (kk : ∀ I', EX 1 S C I' M → Q (some (.int (m_cost (qs S.1 m) n (S.1 (13 + 43 * m)) o c))) (LK, I', M)) : Cl (d + 2) 43 [.ref (4 + 10 * m), .int (nI o), .int c] (LK, I, M) Q := by
  simp (disch := omega) only [E43, K43, ai_c1i, ai_c1n, ai_c1r, e_al0, e_an0, e_b0, e_b1, e_cv1, e_dup2, e_getR, e_iald, e_iast, e_il1, e_il2, e_il3, e_il4, e_is3, e_is4, e_reti, Option.toList_some, Option.toList_none, List.cons_append, List.nil_append, List.append_nil, List.length_cons, List.length_nil, Nat.reduceAdd, Nat.reduceLeDiff, Nat.zero_le, true_and, and_true, and_self, true_implies, forall_const, ai_rvs, ai_rv0, ai_b_0, Classical.not_not, q_mk]
  refine c42 h hm hn hn4 fun I1 h1 => ?_
  simp (disch := omega) only [K43, ai_c1i, ai_c1n, ai_c1r, e_al0, e_an0, e_b0, e_b1, e_cv1, e_dup2, e_getR, e_iald, e_iast, e_il1, e_il2, e_il3, e_il4, e_is3, e_is4, e_reti, Option.toList_some, Option.toList_none, List.cons_append, List.nil_append, List.append_nil, List.length_cons, List.length_nil, Nat.reduceAdd, Nat.reduceLeDiff, Nat.zero_le, true_and, and_true, and_self, true_implies, forall_const, ai_rvs, ai_rv0, ai_b_0, Classical.not_not, q_mk, m_sh h1, a_sh, nIc, rd_sh h1]
  have h2 := h1.sh hm ho (S.1 (21 + 43 * m + o) + c)
  have e1 : (ug S.1 (21 + 43 * m + o) (S.1 (21 + 43 * m + o) + c)) (14 + 43 * m) = nI n := by rw [ug_n (by omega)]; exact hn
  refine c42 h2 hm e1 hn4 fun I3 h3 => ?_
  simp (disch := omega) only [K43, ai_c1i, ai_c1n, ai_c1r, e_al0, e_an0, e_b0, e_b1, e_cv1, e_dup2, e_getR, e_iald, e_iast, e_il1, e_il2, e_il3, e_il4, e_is3, e_is4, e_reti, Option.toList_some, Option.toList_none, List.cons_append, List.nil_append, List.append_nil, List.length_cons, List.length_nil, Nat.reduceAdd, Nat.reduceLeDiff, Nat.zero_le, true_and, and_true, and_self, true_implies, forall_const, ai_rvs, ai_rv0, ai_b_0, Classical.not_not, q_mk, m_sh h3, a_sh, nIc, rd_sh h3, ug_s, i_addsub]
  have h4 := h3.sh hm ho (S.1 (21 + 43 * m + o))
  dsimp only at h4
  rw [ug_ug, ug_id] at h4
  have k1 := kk _ h4
  rw [qs_ug, ug_n (by omega)]
  exact k1
/-- Market.priceWith -/
theorem c46 (h : EX 1 S C I M) (hm : m < 6) (hn : S.1 (14 + 43 * m) = nI n) (hn4 : n ≤ 4) (ho : o < 4) {c : Int32} (kk : ∀ I', EX 1 S C I' M → Q (some (.int (m_pr (ug (qs S.1 m) o (qs S.1 m o + c)) n (S.1 (13 + 43 * m)) o))) (LK, I', M)) : Cl (d + 1) 46 [.ref (4 + 10 * m), .int (nI o), .int c] (LK, I, M) Q := by
  simp (disch := omega) only [E46, K46, ai_c1i, ai_c1n, ai_c1r, e_al0, e_an0, e_b0, e_b1, e_b2, e_const, e_cs2, e_cv1, e_div, e_dup2, e_getI, e_getR, e_iald, e_iast, e_il1, e_il2, e_il3, e_is3, e_reti, e_z0, e_z1, Option.toList_some, Option.toList_none, List.cons_append, List.nil_append, List.append_nil, List.length_cons, List.length_nil, Nat.reduceAdd, Nat.reduceLeDiff, Nat.zero_le, true_and, and_true, and_self, true_implies, forall_const, ai_rvs, ai_rv0, ai_b_0, Classical.not_not, q_mk, m_sh h, a_sh, nIc, rd_sh h]
  have h2 := h.sh hm ho (S.1 (21 + 43 * m + o) + c)
  have e1 : (ug S.1 (21 + 43 * m + o) (S.1 (21 + 43 * m + o) + c)) (14 + 43 * m) = nI n := by rw [ug_n (by omega)]; exact hn
  refine c41 h2 hm e1 hn4 fun I1 h1 a1 a2 a3 => ?_
  dsimp only at a1 a2 a3
  rw [qs_ug, ug_n (by omega)] at a1 a2 a3
  have h4 := h1.sh hm ho (S.1 (21 + 43 * m + o))
  dsimp only at h4
  rw [ug_ug, ug_id] at h4
  have k1 := kk _ h4
  simp (disch := omega) only [K46, ai_c1i, ai_c1n, ai_c1r, e_al0, e_an0, e_b0, e_b1, e_b2, e_const, e_cs2, e_cv1, e_div, e_dup2, e_getI, e_getR, e_iald, e_iast, e_il1, e_il2, e_il3, e_is3, e_reti, e_z0, e_z1, Option.toList_some, Option.toList_none, List.cons_append, List.nil_append, List.append_nil, List.length_cons, List.length_nil, Nat.reduceAdd, Nat.reduceLeDiff, Nat.zero_le, true_and, and_true, and_self, true_implies, forall_const, ai_rvs, ai_rv0, ai_b_0, Classical.not_not, q_mk, m_sh h1, a_sh, nIc, rd_sh h1, ug_s, i_addsub, ai_uo, a1, a2, a3, rd_lq h1, show 12 + 43 * m + 1 = 13 + 43 * m by omega, nIm, c160, ug_n]
  unfold m_pr at k1
  rw [ug_s, show qs S.1 m o = S.1 (21 + 43 * m + o) from rfl] at k1
  refine ⟨fun g1 => ?_, fun g1 => ⟨fun g2 => ?_, fun g2 => ?_⟩⟩
  · rw [if_pos g1] at k1; exact k1
  · rw [if_neg g1, if_neg g2] at k1
    exact ⟨g2, g1, k1⟩
  · rw [if_neg g1, if_pos g2] at k1; exact k1
theorem c47 (h : EX 1 S C I M) (hm : m < 6) (ho : o < 4) {c : Int32} : Cl (d + 1) 47 [.ref (4 + 10 * m), .int (nI o), .int c] (LK, I, M) Q ↔ Q (some (.int (ai_b (nI 0 ≤ qs S.1 m o + c ∧ qs S.1 m o + c ≤ nI 400)))) (LK, I, M) := by
  refine Cl_one ?_
  simp (disch := omega) only [E47, K47, ai_c1i, ai_c1n, ai_c1r, e_al0, e_an0, e_b0, e_const, e_cs3, e_getR, e_iald, e_il1, e_il2, e_retb, Option.toList_some, Option.toList_none, List.cons_append, List.nil_append, List.append_nil, List.length_cons, List.length_nil, Nat.reduceAdd, Nat.reduceLeDiff, Nat.zero_le, true_and, and_true, and_self, true_implies, forall_const, ai_rvs, ai_rv0, ai_b_0, Classical.not_not, q_mk, m_sh h, a_sh, nIc, rd_sh h, c95]
  exact ⟨ai_b_01 _, rfl⟩
theorem c49 (h : EX 1 S C I M) (hm : m < 6) (hn : S.1 (14 + 43 * m) = nI n) {s : Int32} : Cl (d + 1) 49 [.ref (4 + 10 * m), .int s] (LK, I, M) Q ↔ Q (some (.int (ai_b (nI 1 ≤ s ∧ s ≤ nI 1 <<< (nI n &&& 31) - nI 1)))) (LK, I, M) := by
  refine Cl_one ?_
  simp (disch := omega) only [E49, K49, ai_c1i, ai_c1n, ai_c1r, e_al0, e_an0, e_b1, e_b4, e_const, e_cs3, e_getI, e_il1, e_retb, Option.toList_some, Option.toList_none, List.cons_append, List.nil_append, List.append_nil, List.length_cons, List.length_nil, Nat.reduceAdd, Nat.reduceLeDiff, Nat.zero_le, true_and, and_true, and_self, true_implies, forall_const, ai_rvs, ai_rv0, ai_b_0, Classical.not_not, q_mk, rd_nO h, show 12 + 43 * m + 2 = 14 + 43 * m by omega, hn, c95]
  exact ai_b_01 _
/-- Market.addSet -/
theorem c45_l {s c : Int32} (hm : m < 6) (hn : S.1 (14 + 43 * m) = nI n) (hn4 : n ≤ 4) (kk : ∀ I', EX 1 (g_add S.1 m s c n, S.2) C I' M → Q none (LK, I', M)) : ∀ k i, k + i = n → ∀ I, EX 1 (g_add S.1 m s c i, S.2) C I M → Ev (d + 1) X0 45 2 [.ref (4 + 10 * m), .int s, .int c, .int (nI i)] [] (LK, I, M) Q := by
  have hnn : ∀ i, i ≤ 4 → g_add S.1 m s c i (14 + 43 * m) = nI n := by
    intro i
    induction i with
    | zero => intro _; exact hn
    | succ i ih =>
      intro hi
      rw [g_add]
      split
      · rw [ug_n (by omega)]; exact ih (by omega)
      · exact ih (by omega)
  intro k
  induction k with
  | zero =>
    intro i hi I h
    obtain rfl : i = n := by omega
    rw [H45_2]
    simp (disch := omega) only [K45, ai_c1i, ai_c1n, ai_c1r, e_al0, e_an0, e_b0, e_c3, e_const, e_cs2, e_dup2, e_getI, e_getR, e_goto, e_iald, e_iast, e_ii3, e_il1, e_il2, e_il3, e_is3, e_ret, e_z0, Option.toList_some, Option.toList_none, List.cons_append, List.nil_append, List.append_nil, List.length_cons, List.length_nil, Nat.reduceAdd, Nat.reduceLeDiff, Nat.zero_le, true_and, and_true, and_self, true_implies, forall_const, ai_rvs, ai_rv0, ai_b_0, Classical.not_not, q_mk, rd_nO h, show 12 + 43 * m + 2 = 14 + 43 * m by omega, hnn, Int32.le_refl, not_true_eq_false, false_implies]
    exact kk I h
  | succ k ih0 =>
    intro i hi I h
    have ih := ih0 (i + 1) (by omega)
    rw [H45_2]
    simp (disch := omega) only [K45, ai_c1i, ai_c1n, ai_c1r, e_al0, e_an0, e_b0, e_c3, e_const, e_cs2, e_dup2, e_getI, e_getR, e_goto, e_iald, e_iast, e_ii3, e_il1, e_il2, e_il3, e_is3, e_ret, e_z0, Option.toList_some, Option.toList_none, List.cons_append, List.nil_append, List.append_nil, List.length_cons, List.length_nil, Nat.reduceAdd, Nat.reduceLeDiff, Nat.zero_le, true_and, and_true, and_self, true_implies, forall_const, ai_rvs, ai_rv0, ai_b_0, Classical.not_not, q_mk, rd_nO h, show 12 + 43 * m + 2 = 14 + 43 * m by omega, hnn, nIle, nIa, nIc, m_sh h, a_sh, rd_sh h, c94]
    refine ⟨fun h1 => absurd h1 (by omega), fun _ => ⟨fun h1 => ?_, fun h1 => ?_⟩⟩
    · refine ih _ ?_
      rw [g_add, if_neg (by simpa [b_in] using h1)]
      exact h
    · refine ih _ ?_
      rw [g_add, if_pos (by simpa [b_in] using h1)]
      exact h.sh hm (by omega) _
theorem c45 (h : EX 1 S C I M) (hm : m < 6) (hn : S.1 (14 + 43 * m) = nI n) (hn4 : n ≤ 4) {s c : Int32} (kk : ∀ I', EX 1 (g_add S.1 m s c n, S.2) C I' M → Q none (LK, I', M)) : Cl (d + 1) 45 [.ref (4 + 10 * m), .int s, .int c] (LK, I, M) Q := by
  simp (disch := omega) only [E45, K45, ai_c1i, ai_c1n, ai_c1r, e_al0, e_an0, e_b0, e_c3, e_const, e_cs2, e_dup2, e_getI, e_getR, e_goto, e_iald, e_iast, e_ii3, e_il1, e_il2, e_il3, e_is3, e_ret, e_z0, Option.toList_some, Option.toList_none, List.cons_append, List.nil_append, List.append_nil, List.length_cons, List.length_nil, Nat.reduceAdd, Nat.reduceLeDiff, Nat.zero_le, true_and, and_true, and_self, true_implies, forall_const, ai_rvs, ai_rv0, ai_b_0, Classical.not_not]
  exact c45_l hm hn hn4 kk n 0 (by omega) I h
theorem g_add_o {g : Nat → Int32} {m : Nat} {s c : Int32} {j : Nat} : ∀ i, (∀ o, o < i → j ≠ 21 + 43 * m + o) → g_add g m s c i j = g j
  | 0, _ => rfl
  | i + 1, h => by
    rw [g_add]
    split
    · rw [ug_n (h i (by omega))]; exact g_add_o i fun o ho => h o (by omega)
    · exact g_add_o i fun o ho => h o (by omega)
theorem g_add_i {g : Nat → Int32} {m : Nat} {s c : Int32} {o : Nat} : ∀ i, o < i → g_add g m s c i (21 + 43 * m + o) = if b_in s o then g (21 + 43 * m + o) + c else g (21 + 43 * m + o)
  | 0, h => absurd h (by omega)
  | i + 1, h => by
    rw [g_add]
    by_cases ho : o = i
    · subst ho
      split
      · rw [ug_s, g_add_o o (fun o' ho' => by omega)]
      · rw [g_add_o o (fun o' ho' => by omega)]
    · have ih := g_add_i (g := g) (m := m) (s := s) (c := c) (o := o) i (by omega)
      split
      · rw [ug_n (by omega)]; exact ih
      · exact ih
theorem g_add_back {g : Nat → Int32} {m : Nat} {s c : Int32} {n : Nat} : g_add (g_add g m s c n) m s (-c) n = g := by
  funext j
  by_cases h : ∃ o, o < n ∧ j = 21 + 43 * m + o
  · obtain ⟨o, ho, rfl⟩ := h
    rw [g_add_i n ho, g_add_i n ho]
    split
    · rw [Int32.add_assoc, Int32.add_right_neg, Int32.add_zero]
    · rfl
  · have h1 : ∀ o, o < n → j ≠ 21 + 43 * m + o := fun o ho he => h ⟨o, ho, he⟩
    rw [g_add_o n h1, g_add_o n h1]
/-- Market.costOfSet -/
theorem c44 (h : EX 1 S C I M) (hm : m < 6) (hn : S.1 (14 + 43 * m) = nI n) (hn4 : n ≤ 4) {s c : Int32} (kk : ∀ I', EX 1 S C I' M → Q (some (.int (m_lev (qs (g_add S.1 m s c n) m) n (S.1 (13 + 43 * m)) - m_lev (qs S.1 m) n (S.1 (13 + 43 * m))))) (LK, I', M)) : Cl (d + 2) 44 [.ref (4 + 10 * m), .int s, .int c] (LK, I, M) Q := by
  simp (disch := omega) only [E44, K44, ai_c1i, ai_c1n, ai_c1r, e_al0, e_an0, e_b1, e_cv1, e_cv3, e_il1, e_il2, e_il3, e_il4, e_is3, e_is4, e_neg, e_reti, Option.toList_some, Option.toList_none, List.cons_append, List.nil_append, List.append_nil, List.length_cons, List.length_nil, Nat.reduceAdd, Nat.reduceLeDiff, Nat.zero_le, true_and, and_true, and_self, true_implies, forall_const, ai_rvs, ai_rv0, ai_b_0, Classical.not_not, q_mk]
  refine c42 h hm hn hn4 fun I1 h1 => ?_
  simp (disch := omega) only [K44, ai_c1i, ai_c1n, ai_c1r, e_al0, e_an0, e_b1, e_cv1, e_cv3, e_il1, e_il2, e_il3, e_il4, e_is3, e_is4, e_neg, e_reti, Option.toList_some, Option.toList_none, List.cons_append, List.nil_append, List.append_nil, List.length_cons, List.length_nil, Nat.reduceAdd, Nat.reduceLeDiff, Nat.zero_le, true_and, and_true, and_self, true_implies, forall_const, ai_rvs, ai_rv0, ai_b_0, Classical.not_not, q_mk]
  refine c45 h1 hm hn hn4 fun I2 h2 => ?_
  simp (disch := omega) only [K44, ai_c1i, ai_c1n, ai_c1r, e_al0, e_an0, e_b1, e_cv1, e_cv3, e_il1, e_il2, e_il3, e_il4, e_is3, e_is4, e_neg, e_reti, Option.toList_some, Option.toList_none, List.cons_append, List.nil_append, List.append_nil, List.length_cons, List.length_nil, Nat.reduceAdd, Nat.reduceLeDiff, Nat.zero_le, true_and, and_true, and_self, true_implies, forall_const, ai_rvs, ai_rv0, ai_b_0, Classical.not_not, q_mk]
  have e1 : g_add S.1 m s c n (14 + 43 * m) = nI n := by rw [g_add_o n (fun o _ => by omega)]; exact hn
  have e2 : g_add S.1 m s c n (13 + 43 * m) = S.1 (13 + 43 * m) := by rw [g_add_o n (fun o _ => by omega)]
  refine c42 h2 hm e1 hn4 fun I3 h3 => ?_
  simp (disch := omega) only [K44, ai_c1i, ai_c1n, ai_c1r, e_al0, e_an0, e_b1, e_cv1, e_cv3, e_il1, e_il2, e_il3, e_il4, e_is3, e_is4, e_neg, e_reti, Option.toList_some, Option.toList_none, List.cons_append, List.nil_append, List.append_nil, List.length_cons, List.length_nil, Nat.reduceAdd, Nat.reduceLeDiff, Nat.zero_le, true_and, and_true, and_self, true_implies, forall_const, ai_rvs, ai_rv0, ai_b_0, Classical.not_not, q_mk]
  refine c45 h3 hm e1 hn4 fun I4 h4 => ?_
  dsimp only at h4
  rw [g_add_back] at h4
  simp (disch := omega) only [K44, ai_c1i, ai_c1n, ai_c1r, e_al0, e_an0, e_b1, e_cv1, e_cv3, e_il1, e_il2, e_il3, e_il4, e_is3, e_is4, e_neg, e_reti, Option.toList_some, Option.toList_none, List.cons_append, List.nil_append, List.append_nil, List.length_cons, List.length_nil, Nat.reduceAdd, Nat.reduceLeDiff, Nat.zero_le, true_and, and_true, and_self, true_implies, forall_const, ai_rvs, ai_rv0, ai_b_0, Classical.not_not]
  have k1 := kk _ h4
  rw [← e2] at k1
  rw [e2] at k1 ⊢
  exact k1
/-- Market.canHaveSet -/
theorem c48_l {s c : Int32} (hm : m < 6) (hn : S.1 (14 + 43 * m) = nI n) (hn4 : n ≤ 4) (h : EX 1 S C I M) (kk : Q (some (.int (ai_b (b_all (fun i => !b_in s i || decide (nI 0 ≤ qs S.1 m i + c ∧ qs S.1 m i + c ≤ nI 400)) n = true)))) (LK, I, M)) : ∀ k i, k + i = n → b_all (fun i => !b_in s i || decide (nI 0 ≤ qs S.1 m i + c ∧ qs S.1 m i + c ≤ nI 400)) i = true → Ev (d + 2) X0 48 2 [.ref (4 + 10 * m), .int s, .int c, .int (nI i)] [] (LK, I, M) Q
  | 0, i, hi, ha => by
    obtain rfl : i = n := by omega
    rw [H48_2]
    simp (disch := omega) only [K48, ai_c1i, ai_c1n, ai_c1r, e_al0, e_an0, e_c3, e_const, e_cs2, e_cv3, e_getI, e_goto, e_ii3, e_il1, e_il2, e_il3, e_is3, e_retb, e_z0, e_z1, Option.toList_some, Option.toList_none, List.cons_append, List.nil_append, List.append_nil, List.length_cons, List.length_nil, Nat.reduceAdd, Nat.reduceLeDiff, Nat.zero_le, true_and, and_true, and_self, true_implies, forall_const, ai_rvs, ai_rv0, ai_b_0, Classical.not_not, q_mk, rd_nO h, show 12 + 43 * m + 2 = 14 + 43 * m by omega, hn, Int32.le_refl, not_true_eq_false, false_implies]
    rw [ai_b_t ha] at kk
    exact ⟨Or.inr rfl, kk⟩
  | k + 1, i, hi, ha => by
    have ih := c48_l hm hn hn4 h kk k (i + 1) (by omega)
    rw [H48_2]
    simp (disch := omega) only [K48, ai_c1i, ai_c1n, ai_c1r, e_al0, e_an0, e_c3, e_const, e_cs2, e_cv3, e_getI, e_goto, e_ii3, e_il1, e_il2, e_il3, e_is3, e_retb, e_z0, e_z1, Option.toList_some, Option.toList_none, List.cons_append, List.nil_append, List.append_nil, List.length_cons, List.length_nil, Nat.reduceAdd, Nat.reduceLeDiff, Nat.zero_le, true_and, and_true, and_self, true_implies, forall_const, ai_rvs, ai_rv0, ai_b_0, Classical.not_not, q_mk, rd_nO h, show 12 + 43 * m + 2 = 14 + 43 * m by omega, hn, nIle, nIa, nIc, c94, c47 h]
    have bad : b_in s i = true → ¬ (nI 0 ≤ qs S.1 m i + c ∧ qs S.1 m i + c ≤ nI 400) → b_all (fun i => !b_in s i || decide (nI 0 ≤ qs S.1 m i + c ∧ qs S.1 m i + c ≤ nI 400)) n = false := by
      intro h1 h2
      have key : ∀ j, i < j → b_all (fun i => !b_in s i || decide (nI 0 ≤ qs S.1 m i + c ∧ qs S.1 m i + c ≤ nI 400)) j = false := by
        intro j
        induction j with
        | zero => intro h3; omega
        | succ j ihj =>
          intro h3
          rw [b_all]
          by_cases h4 : i = j
          · subst h4; simp [h1, h2]
          · rw [ihj (by omega)]; rfl
      exact key n (by omega)
    refine ⟨fun h1 => absurd h1 (by omega), fun _ => ⟨fun h1 => ih ?_, fun h1 => ⟨fun h2 => ih ?_, fun h2 => ⟨Or.inl rfl, ?_⟩⟩⟩⟩
    · rw [b_all, ha]
      simp [b_in, h1]
    · rw [b_all, ha]
      simp [h2]
    · have h3 := bad (by simpa [b_in] using h1) h2
      rw [ai_b_f (by rw [h3]; exact Bool.false_ne_true)] at kk
      exact kk
theorem c48 (h : EX 1 S C I M) (hm : m < 6) (hn : S.1 (14 + 43 * m) = nI n) (hn4 : n ≤ 4) {s c : Int32} : Cl (d + 2) 48 [.ref (4 + 10 * m), .int s, .int c] (LK, I, M) Q ↔ Q (some (.int (ai_b (b_all (fun i => !b_in s i || decide (nI 0 ≤ qs S.1 m i + c ∧ qs S.1 m i + c ≤ nI 400)) n = true)))) (LK, I, M) := by
  refine Cl_one ?_
  simp (disch := omega) only [E48, K48, ai_c1i, ai_c1n, ai_c1r, e_al0, e_an0, e_c3, e_const, e_cs2, e_cv3, e_getI, e_goto, e_ii3, e_il1, e_il2, e_il3, e_is3, e_retb, e_z0, e_z1, Option.toList_some, Option.toList_none, List.cons_append, List.nil_append, List.append_nil, List.length_cons, List.length_nil, Nat.reduceAdd, Nat.reduceLeDiff, Nat.zero_le, true_and, and_true, and_self, true_implies, forall_const, ai_rvs, ai_rv0, ai_b_0, Classical.not_not]
  exact c48_l hm hn hn4 h ⟨rfl, rfl⟩ n 0 (by omega) rfl
/-- what a trader holds in a market -/
def hq (g : Nat → Int32) (m t : Nat) : Nat → Int32 := fun o => g (25 + 43 * m + 4 * t + o)
theorem c51_l {t : Nat} (ht : t < 6) (hm : m < 6) (hn : S.1 (14 + 43 * m) = nI n) (hn4 : n ≤ 4) (h : EX 1 S C I M) (kk : Q (some (.int (m_mx (hq S.1 m t) n))) (LK, I, M)) : ∀ k i, k + i = n → Ev (d + 1) X0 51 4 [.ref (4 + 10 * m), .int (nI t), .int (m_mx (hq S.1 m t) i), .int (nI i)] [] (LK, I, M) Q
  | 0, i, hi => by
    obtain rfl : i = n := by omega
    rw [H51_4]
    simp (disch := omega) only [K51, ai_c1i, ai_c1n, ai_c1r, e_aald, e_al0, e_an0, e_c3, e_const, e_cs2, e_getI, e_getR, e_goto, e_iald, e_ii3, e_il1, e_il2, e_il3, e_is2, e_is3, e_reti, Option.toList_some, Option.toList_none, List.cons_append, List.nil_append, List.append_nil, List.length_cons, List.length_nil, Nat.reduceAdd, Nat.reduceLeDiff, Nat.zero_le, true_and, and_true, and_self, true_implies, forall_const, ai_rvs, ai_rv0, ai_b_0, Classical.not_not, q_mk, rd_nO h, show 12 + 43 * m + 2 = 14 + 43 * m by omega, hn, Int32.le_refl, not_true_eq_false, false_implies]
    exact kk
  | k + 1, i, hi => by
    have ih := c51_l ht hm hn hn4 h kk k (i + 1) (by omega)
    have e : ∀ o, S.1 (25 + 43 * m + 4 * t + o) = hq S.1 m t o := fun _ => rfl
    rw [H51_4]
    simp (disch := omega) only [K51, ai_c1i, ai_c1n, ai_c1r, e_aald, e_al0, e_an0, e_c3, e_const, e_cs2, e_getI, e_getR, e_goto, e_iald, e_ii3, e_il1, e_il2, e_il3, e_is2, e_is3, e_reti, Option.toList_some, Option.toList_none, List.cons_append, List.nil_append, List.append_nil, List.length_cons, List.length_nil, Nat.reduceAdd, Nat.reduceLeDiff, Nat.zero_le, true_and, and_true, and_self, true_implies, forall_const, ai_rvs, ai_rv0, ai_b_0, Classical.not_not, q_mk, rd_nO h, show 12 + 43 * m + 2 = 14 + 43 * m by omega, hn, nIle, nIa, nIc, m_hd h, a_hd, m_ht h, a_hr, rd_hd h, e, c160]
    exact ⟨fun h1 => absurd h1 (by omega), fun _ => ih⟩
theorem c51 {t : Nat} (h : EX 1 S C I M) (ht : t < 6) (hm : m < 6) (hn : S.1 (14 + 43 * m) = nI n) (hn4 : n ≤ 4) : Cl (d + 1) 51 [.ref (4 + 10 * m), .int (nI t)] (LK, I, M) Q ↔ Q (some (.int (m_mx (hq S.1 m t) n))) (LK, I, M) := by
  refine Cl_one ?_
  simp (disch := omega) only [E51, K51, ai_c1i, ai_c1n, ai_c1r, e_aald, e_al0, e_an0, e_c3, e_const, e_cs2, e_getI, e_getR, e_goto, e_iald, e_ii3, e_il1, e_il2, e_il3, e_is2, e_is3, e_reti, Option.toList_some, Option.toList_none, List.cons_append, List.nil_append, List.append_nil, List.length_cons, List.length_nil, Nat.reduceAdd, Nat.reduceLeDiff, Nat.zero_le, true_and, and_true, and_self, true_implies, forall_const, ai_rvs, ai_rv0, ai_b_0, Classical.not_not]
  exact c51_l ht hm hn hn4 h ⟨rfl, rfl⟩ n 0 (by omega)
/-- a market's shares of a trader times their prices -/
def m_wo (q hl : Nat → Int32) (n : Nat) (b : Int32) (i : Nat) : Int32 := bx_sum (fun o => hl o * m_pr q n b o) i
theorem c50_l {t : Nat} (ht : t < 6) (hm : m < 6) (hn : S.1 (14 + 43 * m) = nI n) (hn4 : n ≤ 4) (kk : ∀ I', EX 1 S C I' M → Q (some (.int (m_wo (qs S.1 m) (hq S.1 m t) n (S.1 (13 + 43 * m)) n))) (LK, I', M)) : ∀ k i, k + i = n → ∀ I, EX 1 S C I M → Ev (d + 2) X0 50 4 [.ref (4 + 10 * m), .int (nI t), .int (m_wo (qs S.1 m) (hq S.1 m t) n (S.1 (13 + 43 * m)) i), .int (nI i)] [] (LK, I, M) Q
  | 0, i, hi, I, h => by
    obtain rfl : i = n := by omega
    rw [H50_4]
    simp (disch := omega) only [K50, ai_c1i, ai_c1n, ai_c1r, e_aald, e_al0, e_an0, e_b0, e_b2, e_c3, e_const, e_cv3, e_getI, e_getR, e_goto, e_iald, e_ii3, e_il1, e_il2, e_il3, e_is2, e_is3, e_reti, Option.toList_some, Option.toList_none, List.cons_append, List.nil_append, List.append_nil, List.length_cons, List.length_nil, Nat.reduceAdd, Nat.reduceLeDiff, Nat.zero_le, true_and, and_true, and_self, true_implies, forall_const, ai_rvs, ai_rv0, ai_b_0, Classical.not_not, q_mk, rd_nO h, show 12 + 43 * m + 2 = 14 + 43 * m by omega, hn, Int32.le_refl, not_true_eq_false, false_implies]
    exact kk I h
  | k + 1, i, hi, I, h => by
    have ih := c50_l ht hm hn hn4 kk k (i + 1) (by omega)
    have e : ∀ o, S.1 (25 + 43 * m + 4 * t + o) = hq S.1 m t o := fun _ => rfl
    rw [H50_4]
    simp (disch := omega) only [K50, ai_c1i, ai_c1n, ai_c1r, e_aald, e_al0, e_an0, e_b0, e_b2, e_c3, e_const, e_cv3, e_getI, e_getR, e_goto, e_iald, e_ii3, e_il1, e_il2, e_il3, e_is2, e_is3, e_reti, Option.toList_some, Option.toList_none, List.cons_append, List.nil_append, List.append_nil, List.length_cons, List.length_nil, Nat.reduceAdd, Nat.reduceLeDiff, Nat.zero_le, true_and, and_true, and_self, true_implies, forall_const, ai_rvs, ai_rv0, ai_b_0, Classical.not_not, q_mk, rd_nO h, show 12 + 43 * m + 2 = 14 + 43 * m by omega, hn, nIle, nIa, nIc, m_hd h, a_hd, m_ht h, a_hr, rd_hd h, e]
    refine ⟨fun h1 => absurd h1 (by omega), fun _ => ?_⟩
    refine c46 h hm hn hn4 (by omega) fun I1 h1 => ?_
    simp (disch := omega) only [K50, ai_c1i, ai_c1n, ai_c1r, e_aald, e_al0, e_an0, e_b0, e_b2, e_c3, e_const, e_cv3, e_getI, e_getR, e_goto, e_iald, e_ii3, e_il1, e_il2, e_il3, e_is2, e_is3, e_reti, Option.toList_some, Option.toList_none, List.cons_append, List.nil_append, List.append_nil, List.length_cons, List.length_nil, Nat.reduceAdd, Nat.reduceLeDiff, Nat.zero_le, true_and, and_true, and_self, true_implies, forall_const, ai_rvs, ai_rv0, ai_b_0, Classical.not_not, nIa]
    have e2 : ug (qs S.1 m) i (qs S.1 m i + nI 0) = qs S.1 m := by rw [i_add0, ug_id]
    rw [e2]
    exact ih I1 h1
theorem c50 {t : Nat} (h : EX 1 S C I M) (ht : t < 6) (hm : m < 6) (hn : S.1 (14 + 43 * m) = nI n) (hn4 : n ≤ 4) (kk : ∀ I', EX 1 S C I' M → Q (some (.int (m_wo (qs S.1 m) (hq S.1 m t) n (S.1 (13 + 43 * m)) n))) (LK, I', M)) : Cl (d + 2) 50 [.ref (4 + 10 * m), .int (nI t)] (LK, I, M) Q := by
  simp (disch := omega) only [E50, K50, ai_c1i, ai_c1n, ai_c1r, e_aald, e_al0, e_an0, e_b0, e_b2, e_c3, e_const, e_cv3, e_getI, e_getR, e_goto, e_iald, e_ii3, e_il1, e_il2, e_il3, e_is2, e_is3, e_reti, Option.toList_some, Option.toList_none, List.cons_append, List.nil_append, List.append_nil, List.length_cons, List.length_nil, Nat.reduceAdd, Nat.reduceLeDiff, Nat.zero_le, true_and, and_true, and_self, true_implies, forall_const, ai_rvs, ai_rv0, ai_b_0, Classical.not_not]
  exact c50_l ht hm hn hn4 kk n 0 (by omega) I h
end MKT
