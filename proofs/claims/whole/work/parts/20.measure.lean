/-! the quadratic rule as the class has it -/
def m_abv (q : Nat → Int32) (n i : Nat) : Int32 := bx_sum (fun j => if q i < q j then q j - q i else nI 0) n
def m_act (q : Nat → Int32) (n : Nat) (b : Int32) (i : Nat) : Bool := decide (m_abv q n i < nI 2 * b)
def m_k (q : Nat → Int32) (n : Nat) (b : Int32) (i : Nat) : Int32 := bx_sum (fun j => if m_act q n b j then nI 1 else nI 0) i
def m_s (q : Nat → Int32) (n : Nat) (b : Int32) (i : Nat) : Int32 := bx_sum (fun j => if m_act q n b j then q j else nI 0) i
def m_r (q : Nat → Int32) (n : Nat) (b : Int32) (i : Nat) : Int32 := bx_sum (fun j => if m_act q n b j then q j * q j else nI 0) i
theorem i_add0 (x : Int32) : x + nI 0 = x := by rw [nI_0]; exact Int32.add_zero x
theorem bx_s (f : Nat → Int32) (n : Nat) : bx_sum f (n + 1) = bx_sum f n + f n := rfl
/-- the shares of a market in the abstract state -/
def qs (g : Nat → Int32) (m : Nat) : Nat → Int32 := fun o => g (21 + 43 * m + o)
section MEAS
variable {S : St} {C : (Nat → Nat → Int32) × (Nat → Nat → Nat)} {I : Nat → Nat → Int32} {M : Nat → Nat → Nat} {m n : Nat} {d : Nat} {Q : Option Value → ai_H → Prop}
theorem c41_in (hm : m < 6) (hn : S.1 (14 + 43 * m) = nI n) (hn4 : n ≤ 4) (h : EX 1 S C I M) {i : Nat} (hi : i < n)
    (kk : Ev d X0 41 74 [.ref (4 + 10 * m), .int (nI i), .int (m_abv (qs S.1 m) n i), .int (nI n)] [] (LK, I, M) Q) : ∀ k j, k + j = n → Ev d X0 41 29 [.ref (4 + 10 * m), .int (nI i), .int (m_abv (qs S.1 m) j i), .int (nI j)] [] (LK, I, M) Q
  | 0, j, hj => by
    obtain rfl : j = n := by omega
    rw [H41_29]
    simp (disch := omega) only [k41_0, k41_1, k41_2, k41_5, k41_6, k41_7, k41_10, k41_11, k41_12, k41_15, k41_16, k41_18, k41_19, k41_22, k41_25, k41_26, k41_27, k41_28, k41_30, k41_31, k41_34, k41_37, k41_38, k41_41, k41_42, k41_43, k41_44, k41_47, k41_48, k41_49, k41_52, k41_53, k41_54, k41_57, k41_58, k41_59, k41_60, k41_63, k41_64, k41_65, k41_66, k41_67, k41_68, k41_71, k41_75, k41_76, k41_77, k41_80, k41_81, k41_84, k41_85, k41_86, k41_89, k41_90, k41_91, k41_94, k41_95, k41_96, k41_99, k41_100, k41_103, k41_104, k41_105, k41_106, k41_109, k41_110, k41_111, k41_114, k41_115, k41_118, k41_119, k41_120, k41_121, k41_124, k41_125, k41_126, k41_127, k41_128, k41_131, k41_134, k41_137, e_al0, e_an0, e_b0, e_b1, e_b2, e_c3, e_c5, e_const, e_dupi, e_dupr, e_getI, e_getR, e_goto, e_iald, e_ii1, e_ii3, e_il1, e_il2, e_il3, e_is1, e_is2, e_is3, e_putI, e_ret, Option.toList_some, Option.toList_none, List.cons_append, List.nil_append, List.append_nil, List.length_cons, List.length_nil, Nat.reduceAdd, Nat.reduceLeDiff, Nat.zero_le, true_and, and_true, and_self, true_implies, forall_const, ai_rvs, ai_rv0, ai_b_0, Classical.not_not, q_mk, rd_nO h, show 12 + 43 * m + 2 = 14 + 43 * m by omega, hn, Int32.le_refl, not_true_eq_false, false_implies]
    exact kk
  | k + 1, j, hj => by
    have ih := c41_in hm hn hn4 h hi kk k (j + 1) (by omega)
    have hq : ∀ o, S.1 (21 + 43 * m + o) = qs S.1 m o := fun _ => rfl
    rw [H41_29]
    simp (disch := omega) only [k41_0, k41_1, k41_2, k41_5, k41_6, k41_7, k41_10, k41_11, k41_12, k41_15, k41_16, k41_18, k41_19, k41_22, k41_25, k41_26, k41_27, k41_28, k41_30, k41_31, k41_34, k41_37, k41_38, k41_41, k41_42, k41_43, k41_44, k41_47, k41_48, k41_49, k41_52, k41_53, k41_54, k41_57, k41_58, k41_59, k41_60, k41_63, k41_64, k41_65, k41_66, k41_67, k41_68, k41_71, k41_75, k41_76, k41_77, k41_80, k41_81, k41_84, k41_85, k41_86, k41_89, k41_90, k41_91, k41_94, k41_95, k41_96, k41_99, k41_100, k41_103, k41_104, k41_105, k41_106, k41_109, k41_110, k41_111, k41_114, k41_115, k41_118, k41_119, k41_120, k41_121, k41_124, k41_125, k41_126, k41_127, k41_128, k41_131, k41_134, k41_137, e_al0, e_an0, e_b0, e_b1, e_b2, e_c3, e_c5, e_const, e_dupi, e_dupr, e_getI, e_getR, e_goto, e_iald, e_ii1, e_ii3, e_il1, e_il2, e_il3, e_is1, e_is2, e_is3, e_putI, e_ret, Option.toList_some, Option.toList_none, List.cons_append, List.nil_append, List.append_nil, List.length_cons, List.length_nil, Nat.reduceAdd, Nat.reduceLeDiff, Nat.zero_le, true_and, and_true, and_self, true_implies, forall_const, ai_rvs, ai_rv0, ai_b_0, Classical.not_not, q_mk, rd_nO h, show 12 + 43 * m + 2 = 14 + 43 * m by omega, hn, nIle, nIa, nIc, m_sh h, ai_rvs, a_sh, rd_sh h, hq]
    refine ⟨fun h1 => absurd h1 (by omega), fun _ => ⟨fun h1 => ?_, fun h1 => ?_⟩⟩
    · have e : m_abv (qs S.1 m) (j + 1) i = m_abv (qs S.1 m) j i := by
        unfold m_abv
        rw [bx_s, if_neg (fun h2 => i_nlt.mpr h1 h2), i_add0]
      rw [e] at ih
      exact ih
    · have e : m_abv (qs S.1 m) (j + 1) i = m_abv (qs S.1 m) j i + (qs S.1 m j - qs S.1 m i) := by
        unfold m_abv
        rw [bx_s, if_pos (i_nle.mp h1)]
      rw [e] at ih
      exact ih
theorem c41_out (hm : m < 6) (hn : S.1 (14 + 43 * m) = nI n) (hn4 : n ≤ 4)
    (kk : ∀ I', EX 1 S C I' M → I' (4 + 10 * m) 13 = m_k (qs S.1 m) n (S.1 (13 + 43 * m)) n → I' (4 + 10 * m) 14 = m_s (qs S.1 m) n (S.1 (13 + 43 * m)) n → I' (4 + 10 * m) 15 = m_r (qs S.1 m) n (S.1 (13 + 43 * m)) n → Q none (LK, I', M)) :
    ∀ k i, k + i = n → ∀ (I : Nat → Nat → Int32) (x y : Value), EX 1 S C I M → I (4 + 10 * m) 13 = m_k (qs S.1 m) n (S.1 (13 + 43 * m)) i → I (4 + 10 * m) 14 = m_s (qs S.1 m) n (S.1 (13 + 43 * m)) i → I (4 + 10 * m) 15 = m_r (qs S.1 m) n (S.1 (13 + 43 * m)) i →
      Ev d X0 41 17 [.ref (4 + 10 * m), .int (nI i), x, y] [] (LK, I, M) Q
  | 0, i, hi, I, x, y, h, h1, h2, h3 => by
    obtain rfl : i = n := by omega
    rw [H41_17]
    simp (disch := omega) only [K41_0, K41_1, e_al0, e_an0, e_b0, e_b1, e_b2, e_c3, e_c5, e_const, e_dupi, e_dupr, e_getI, e_getR, e_goto, e_iald, e_ii1, e_ii3, e_il1, e_il2, e_il3, e_is1, e_is2, e_is3, e_putI, e_ret, Option.toList_some, Option.toList_none, List.cons_append, List.nil_append, List.append_nil, List.length_cons, List.length_nil, Nat.reduceAdd, Nat.reduceLeDiff, Nat.zero_le, true_and, and_true, and_self, true_implies, forall_const, ai_rvs, ai_rv0, ai_b_0, Classical.not_not, q_mk, rd_nO h, show 12 + 43 * m + 2 = 14 + 43 * m by omega, hn, Int32.le_refl, not_true_eq_false, false_implies]
    exact kk I h h1 h2 h3
  | k + 1, i, hi, I, x, y, h, h1, h2, h3 => by
    have ih := c41_out hm hn hn4 kk k (i + 1) (by omega)
    rw [H41_17]
    simp (disch := omega) only [K41_0, K41_1, e_al0, e_an0, e_b0, e_b1, e_b2, e_c3, e_c5, e_const, e_dupi, e_dupr, e_getI, e_getR, e_goto, e_iald, e_ii1, e_ii3, e_il1, e_il2, e_il3, e_is1, e_is2, e_is3, e_putI, e_ret, Option.toList_some, Option.toList_none, List.cons_append, List.nil_append, List.append_nil, List.length_cons, List.length_nil, Nat.reduceAdd, Nat.reduceLeDiff, Nat.zero_le, true_and, and_true, and_self, true_implies, forall_const, ai_rvs, ai_rv0, ai_b_0, Classical.not_not, q_mk, rd_nO h, show 12 + 43 * m + 2 = 14 + 43 * m by omega, hn, nIle, nIa, nIc]
    refine ⟨fun h4 => absurd h4 (by omega), fun _ => ?_⟩
    have hin := c41_in (d := d) (Q := Q) hm hn hn4 h (i := i) (by omega) ?_ n 0 (by omega)
    · exact hin
    · have hq : ∀ o, S.1 (21 + 43 * m + o) = qs S.1 m o := fun _ => rfl
      simp (disch := omega) only [K41_0, K41_1, e_al0, e_an0, e_b0, e_b1, e_b2, e_c3, e_c5, e_const, e_dupi, e_dupr, e_getI, e_getR, e_goto, e_iald, e_ii1, e_ii3, e_il1, e_il2, e_il3, e_is1, e_is2, e_is3, e_putI, e_ret, Option.toList_some, Option.toList_none, List.cons_append, List.nil_append, List.append_nil, List.length_cons, List.length_nil, Nat.reduceAdd, Nat.reduceLeDiff, Nat.zero_le, true_and, and_true, and_self, true_implies, forall_const, ai_rvs, ai_rv0, ai_b_0, Classical.not_not, q_mk, BO, rd_lq h, show 12 + 43 * m + 1 = 13 + 43 * m by omega, nIa, nIc, m_sh h, ai_rvs, a_sh, rd_sh h, hq, true_or, ai_uo, ai_uh, h1, h2, h3]
      have e1 : m_k (qs S.1 m) n (S.1 (13 + 43 * m)) (i + 1) = m_k (qs S.1 m) n (S.1 (13 + 43 * m)) i + (if m_act (qs S.1 m) n (S.1 (13 + 43 * m)) i then nI 1 else nI 0) := rfl
      have e2 : m_s (qs S.1 m) n (S.1 (13 + 43 * m)) (i + 1) = m_s (qs S.1 m) n (S.1 (13 + 43 * m)) i + (if m_act (qs S.1 m) n (S.1 (13 + 43 * m)) i then qs S.1 m i else nI 0) := rfl
      have e3 : m_r (qs S.1 m) n (S.1 (13 + 43 * m)) (i + 1) = m_r (qs S.1 m) n (S.1 (13 + 43 * m)) i + (if m_act (qs S.1 m) n (S.1 (13 + 43 * m)) i then qs S.1 m i * qs S.1 m i else nI 0) := rfl
      refine ⟨fun h4 => ?_, fun h4 => ?_⟩
      · have hf : m_act (qs S.1 m) n (S.1 (13 + 43 * m)) i = false := decide_eq_false (i_nlt.mpr h4)
        rw [hf] at e1 e2 e3
        simp only [Bool.false_eq_true, if_false, i_add0] at e1 e2 e3
        exact ih I _ _ h (by rw [h1, e1]) (by rw [h2, e2]) (by rw [h3, e3])
      · have hf : m_act (qs S.1 m) n (S.1 (13 + 43 * m)) i = true := decide_eq_true (i_nle.mp h4)
        rw [hf] at e1 e2 e3
        simp only [if_true] at e1 e2 e3
        refine ih _ _ _ (((h.scr (B := 1) hm (j := 13) (by omega) _).scr (B := 1) hm (j := 14) (by omega) _).scr (B := 1) hm (j := 15) (by omega) _) ?_ ?_ ?_
        · simp (disch := omega) only [ai_uo, ai_uh, e1]
        · simp (disch := omega) only [ai_uo, ai_uh, e2]
        · simp (disch := omega) only [ai_uo, ai_uh, e3]
/-- Market.measure -/
theorem c41 (h : EX 1 S C I M) (hm : m < 6) (hn : S.1 (14 + 43 * m) = nI n) (hn4 : n ≤ 4)
    (kk : ∀ I', EX 1 S C I' M → I' (4 + 10 * m) 13 = m_k (qs S.1 m) n (S.1 (13 + 43 * m)) n → I' (4 + 10 * m) 14 = m_s (qs S.1 m) n (S.1 (13 + 43 * m)) n → I' (4 + 10 * m) 15 = m_r (qs S.1 m) n (S.1 (13 + 43 * m)) n → Q none (LK, I', M)) : Cl d 41 [.ref (4 + 10 * m)] (LK, I, M) Q := by
  simp (disch := omega) only [E41, K41_0, K41_1, e_al0, e_an0, e_b0, e_b1, e_b2, e_c3, e_c5, e_const, e_dupi, e_dupr, e_getI, e_getR, e_goto, e_iald, e_ii1, e_ii3, e_il1, e_il2, e_il3, e_is1, e_is2, e_is3, e_putI, e_ret, Option.toList_some, Option.toList_none, List.cons_append, List.nil_append, List.append_nil, List.length_cons, List.length_nil, Nat.reduceAdd, Nat.reduceLeDiff, Nat.zero_le, true_and, and_true, and_self, true_implies, forall_const, ai_rvs, ai_rv0, ai_b_0, Classical.not_not, q_mk, BO, true_or]
  refine c41_out hm hn hn4 kk n 0 (by omega) _ _ _ (((h.scr (B := 1) hm (j := 13) (by omega) _).scr (B := 1) hm (j := 14) (by omega) _).scr (B := 1) hm (j := 15) (by omega) _) ?_ ?_ ?_
  · simp (disch := omega) only [ai_uo, ai_uh]; exact nI_0
  · simp (disch := omega) only [ai_uo, ai_uh]; exact nI_0
  · simp (disch := omega) only [ai_uo, ai_uh]; exact nI_0
end MEAS
