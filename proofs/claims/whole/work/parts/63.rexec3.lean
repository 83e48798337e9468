/-! the reference executes a market's orders -/
def totL (L : List Od) : Nat := (L.map (fun x => x.2.2.2.2.1.toNatClampNeg)).sum
theorem totL_mem {L : List Od} {q l : Nat} {x : Od} (hx : L[q]? = some x) (hl : x.2.2.2.2.1 = nI l) (h1 : 1 ≤ l) (h50 : l ≤ 50) : totL (xl L q x) + 1 = totL L := by
  have e1 := (pm_er hx).map (fun x : Od => x.2.2.2.2.1.toNatClampNeg)
  have e2 := e1.sum_nat
  rw [List.map_cons, List.sum_cons, hl, nIc (by omega)] at e2
  unfold totL
  rw [xl_def, hl, pk_sub h1]
  split
  · rename_i g
    have := (nIeq (by omega) (by omega)).mp g
    omega
  · have e3 := ((pm_st (y := lv x (nI (l - 1))) hx).map (fun x : Od => x.2.2.2.2.1.toNatClampNeg)).sum_nat
    rw [List.map_cons, List.sum_cons] at e3
    have e4 : (lv x (nI (l - 1))).2.2.2.2.1.toNatClampNeg = l - 1 := nIc (by omega)
    rw [e4] at e3
    omega
section REXEC3
variable {I : Nat → Nat → Int32} {M : Nat → Nat → Nat} {m k : Nat} {d : Nat} {Q : Option Value → ai_H → Prop}
theorem r126_l (hm : RM M) (hmk : m < k) : ∀ (f : Nat) (S : St) (J : Nat → Int32) (T : Nat) (u v : Value), EV S k → SRT S.2.1 → RJ J S k → S.1 4 = nI T → T + f < 999999999 → totL S.2.1 ≤ f → (∀ J', RJ J' (xo f m S) k → Q none (LK, sr I J', M)) → Ev (d + 8) X0 126 2 [.ref 229, .int (nI m), .int (nI 1), u, v] [] (LK, sr I J, M) Q := by
  intro f
  induction f with
  | zero =>
    intro S J T u v hev hs hj hT hb ht kk
    sorry
  | succ f ih =>
    intro S J T u v hev hs hj hT hb ht kk
    obtain ⟨j1, j2, j3, ⟨l16, os, o1, o2, o3⟩, j5⟩ := id hj
    have hro : RO J S.2.1 os := ⟨l16, o1, o2, o3⟩
    obtain ⟨l1, l2⟩ := hro.len
    have n10 : (nI 1 = nI 0) = False := eq_false (by decide)
    have z00 : ((-1 : Int32) < nI 0) = True := eq_true (by decide)
    rw [H126_2]
    simp (disch := omega) only [K126_0, K126_1, ai_c1i, ai_c1n, ai_c1r, e_al0, e_an0, e_b0, e_b1, e_c1, e_c3, e_const, e_cs1, e_cv2, e_cv3, e_cv6, e_dup2, e_getR, e_goto, e_iald, e_iast, e_ii4, e_il1, e_il2, e_il3, e_il4, e_is2, e_is3, e_is4, e_popi, e_popr, e_ret, e_z0, e_z1, e_z2, Option.toList_some, Option.toList_none, List.cons_append, List.nil_append, List.append_nil, List.length_cons, List.length_nil, Nat.reduceAdd, Nat.reduceLeDiff, Nat.zero_le, true_and, and_true, and_self, true_implies, forall_const, ai_rvs, ai_rv0, ai_b_0, Classical.not_not, not_true_eq_false, false_implies, not_false_eq_true, true_implies, and_true, true_and, if_true, if_false, Bool.false_eq_true, n10]
    refine r126_in hm hro hmk hj hev (fun v hv => ?_) os.length 0 (-1) (by omega) (Or.inl ⟨rfl, fun j y hj => by omega⟩)
    rcases hv with ⟨rfl, hno⟩ | ⟨p, x, hp, rfl, hx, fx, hall⟩
    · have hnone : S.2.1.findIdx? (xq S.1 m) = none := List.findIdx?_eq_none_iff.mpr fun y hy => by
        obtain ⟨j, hj8, e⟩ := List.mem_iff_getElem.mp (o1.mem_iff.mpr hy)
        exact hno j y hj8 (by rw [List.getElem?_eq_getElem hj8, e])
      rw [xo, hnone] at kk
      have k3 := kk J hj
      simp (disch := omega) only [K126_0, K126_1, ai_c1i, ai_c1n, ai_c1r, e_al0, e_an0, e_b0, e_b1, e_c1, e_c3, e_const, e_cs1, e_cv2, e_cv3, e_cv6, e_dup2, e_getR, e_goto, e_iald, e_iast, e_ii4, e_il1, e_il2, e_il3, e_il4, e_is2, e_is3, e_is4, e_popi, e_popr, e_ret, e_z0, e_z1, e_z2, Option.toList_some, Option.toList_none, List.cons_append, List.nil_append, List.append_nil, List.length_cons, List.length_nil, Nat.reduceAdd, Nat.reduceLeDiff, Nat.zero_le, true_and, and_true, and_self, true_implies, forall_const, ai_rvs, ai_rv0, ai_b_0, Classical.not_not, not_true_eq_false, false_implies, not_false_eq_true, true_implies, and_true, true_and, if_true, if_false, Bool.false_eq_true, z00]
      rw [H126_2]
      simp (disch := omega) only [K126_0, K126_1, ai_c1i, ai_c1n, ai_c1r, e_al0, e_an0, e_b0, e_b1, e_c1, e_c3, e_const, e_cs1, e_cv2, e_cv3, e_cv6, e_dup2, e_getR, e_goto, e_iald, e_iast, e_ii4, e_il1, e_il2, e_il3, e_il4, e_is2, e_is3, e_is4, e_popi, e_popr, e_ret, e_z0, e_z1, e_z2, Option.toList_some, Option.toList_none, List.cons_append, List.nil_append, List.append_nil, List.length_cons, List.length_nil, Nat.reduceAdd, Nat.reduceLeDiff, Nat.zero_le, true_and, and_true, and_self, true_implies, forall_const, ai_rvs, ai_rv0, ai_b_0, Classical.not_not, not_true_eq_false, false_implies, not_false_eq_true, true_implies, and_true, true_and, if_true, if_false, Bool.false_eq_true]
      exact k3
    · obtain ⟨q, hq, hxq⟩ := pick hs (hro.mem hx) fx (fun y hy fy hne => by
        obtain ⟨j, hj8, e⟩ := List.mem_iff_getElem.mp (o1.mem_iff.mpr hy)
        refine hall j y hj8 (by rw [List.getElem?_eq_getElem hj8, e]) fy fun e2 => ?_
        subst e2
        rw [List.getElem?_eq_getElem hj8, e] at hx
        exact hne (Option.some.inj hx))
      rw [xo, hq] at kk
      dsimp only at kk
      rw [hxq] at kk
      have ng : (nI p < nI 0) = False := eq_false (by rw [nIlt (by omega) (by omega)]; omega)
      obtain ⟨f0, f1, f2, f3, f4, f5⟩ := hro.f hx
      simp (disch := omega) only [K126_0, K126_1, ai_c1i, ai_c1n, ai_c1r, e_al0, e_an0, e_b0, e_b1, e_c1, e_c3, e_const, e_cs1, e_cv2, e_cv3, e_cv6, e_dup2, e_getR, e_goto, e_iald, e_iast, e_ii4, e_il1, e_il2, e_il3, e_il4, e_is2, e_is3, e_is4, e_popi, e_popr, e_ret, e_z0, e_z1, e_z2, Option.toList_some, Option.toList_none, List.cons_append, List.nil_append, List.append_nil, List.length_cons, List.length_nil, Nat.reduceAdd, Nat.reduceLeDiff, Nat.zero_le, true_and, and_true, and_self, true_implies, forall_const, ai_rvs, ai_rv0, ai_b_0, Classical.not_not, not_true_eq_false, false_implies, not_false_eq_true, true_implies, and_true, true_and, if_true, if_false, Bool.false_eq_true, q_229, a_nw, ng, n10, hm.1, c99, nIm, nIa, nIc, sr_r, f0, f1, f3]
      done
end REXEC3
