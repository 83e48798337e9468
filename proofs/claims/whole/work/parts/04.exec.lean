/-! the small machine runs -/
def ai_bin (b : Nat) (x y : Int32) : Int32 := match b with
  | 0 => x + y
  | 1 => x - y
  | 2 => x * y
  | 3 => x &&& y
  | 4 => x <<< (y &&& 31)
  | 5 => x >>> (y &&& 31)
  | _ => x ^^^ y
def ai_cmp (b : Nat) (x y : Int32) : Bool := match b with
  | 0 => decide (x = y)
  | 1 => !decide (x = y)
  | 2 => decide (x < y)
  | 3 => decide (y ≤ x)
  | 4 => decide (y < x)
  | _ => decide (x ≤ y)
def ai_rv (n : Nat) : Value := match n with
  | 0 => .null
  | b + 1 => .ref b
def ai_u {α : Type} (M : Nat → Nat → α) (a j : Nat) (v : α) : Nat → Nat → α := fun a' j' => if a' = a ∧ j' = j then v else M a' j'
def ai_z {α : Type} (M : Nat → Nat → α) (a : Nat) (v : α) : Nat → Nat → α := fun a' j' => if a' = a then v else M a' j'
def ai_in (i : Int32) (n : Nat) : Bool := !(decide (i < 0) || decide (n ≤ i.toNatClampNeg))
def ai_kd (h : ai_H) (a : Nat) : Option Nat := (h.1[a]?).map (·.1)
def ai_c1 (l : List Value) : Bool := l.all (fun v => v.category == 1)
def ai_st1 (op a b : Nat) (v : Int32) (nx : Nat) (ls st : List Value) (h : ai_H) : Option ai_O :=
  if op = 0 then (some (.inl (nx, ls, .int v :: st, h))) else
  if op = 1 then (match ls[a]? with
    | some (.int x) => some (.inl (nx, ls, .int x :: st, h))
    | _ => none) else
  if op = 2 then (match ls[a]? with
    | some (.ref x) => some (.inl (nx, ls, .ref x :: st, h))
    | some .null => some (.inl (nx, ls, .null :: st, h))
    | some (.retAddr x) => some (.inl (nx, ls, .retAddr x :: st, h))
    | _ => none) else
  if op = 3 then (match st with
    | .int x :: st => if a < ls.length then some (.inl (nx, ls.set a (.int x), st, h)) else none
    | _ => none) else
  if op = 4 then (match st with
    | .ref x :: st => if a < ls.length then some (.inl (nx, ls.set a (.ref x), st, h)) else none
    | .null :: st => if a < ls.length then some (.inl (nx, ls.set a .null, st, h)) else none
    | _ => none) else
  if op = 5 then (match ls[a]? with
    | some (.int x) => some (.inl (nx, ls.set a (.int (x + v)), st, h))
    | _ => none) else
  if op = 6 then (match st with
    | .int y :: .int x :: st => some (.inl (nx, ls, .int (ai_bin b x y) :: st, h))
    | _ => none) else
  if op = 7 then (match st with
    | .int y :: .int x :: st => if y = 0 then none else some (.inl (nx, ls, .int (x / y) :: st, h))
    | _ => none) else
  if op = 8 then (match st with
    | .int y :: .int x :: st => if y = 0 then none else some (.inl (nx, ls, .int (x - x / y * y) :: st, h))
    | _ => none) else
  if op = 9 then (match st with
    | .int x :: st => some (.inl (nx, ls, .int (-x) :: st, h))
    | _ => none) else
  if op = 10 then (match st with
    | .int x :: st => some (.inl (nx, ls, .int (x.toUInt32 % 65536).toInt32 :: st, h))
    | _ => none) else
  none
def ai_st2 (op a b : Nat) (nx : Nat) (ls st : List Value) (h : ai_H) : Option ai_O :=
  if op = 11 then (match st with
    | x :: st => if ai_c1 [x] then some (.inl (nx, ls, x :: x :: st, h)) else none
    | _ => none) else
  if op = 12 then (match st with
    | x :: y :: st => if ai_c1 [x, y] then some (.inl (nx, ls, x :: y :: x :: st, h)) else none
    | _ => none) else
  if op = 13 then (match st with
    | x :: y :: z :: st => if ai_c1 [x, y, z] then some (.inl (nx, ls, x :: y :: z :: x :: st, h)) else none
    | _ => none) else
  if op = 14 then (match st with
    | x :: y :: st => if ai_c1 [x, y] then some (.inl (nx, ls, x :: y :: x :: y :: st, h)) else none
    | _ => none) else
  if op = 15 then (match st with
    | x :: st => if ai_c1 [x] then some (.inl (nx, ls, st, h)) else none
    | _ => none) else
  if op = 16 then (some (.inl (a, ls, st, h))) else
  if op = 17 then (match st with
    | .int y :: .int x :: st => some (.inl (if ai_cmp b x y then a else nx, ls, st, h))
    | _ => none) else
  if op = 18 then (match st with
    | .int x :: st => some (.inl (if ai_cmp b x 0 then a else nx, ls, st, h))
    | _ => none) else
  if op = 19 then (match st with
    | .null :: st => some (.inl (a, ls, st, h))
    | .ref _ :: st => some (.inl (nx, ls, st, h))
    | _ => none) else
  if op = 20 then (match st with
    | .null :: st => some (.inl (nx, ls, st, h))
    | .ref _ :: st => some (.inl (a, ls, st, h))
    | _ => none) else
  if op = 21 then (some (.inl (nx, ls, .null :: st, h))) else
  none
def ai_st3 (X : ai_X) (op a b : Nat) (nx : Nat) (ls st : List Value) (h : ai_H) : Option ai_O :=
  if op = 22 then (match st with
    | .ref q :: st => if ai_kd h q = some a then some (.inl (nx, ls, .int (h.2.1 q b) :: st, h)) else none
    | _ => none) else
  if op = 23 then (match st with
    | .ref q :: st => if ai_kd h q = some a then some (.inl (nx, ls, ai_rv (h.2.2 q b) :: st, h)) else none
    | _ => none) else
  if op = 24 then (match st with
    | .int x :: .ref q :: st => if ai_kd h q = some a ∧ (ai_bool a b = false ∨ x = 0 ∨ x = 1) then some (.inl (nx, ls, st, (h.1, ai_u h.2.1 q b x, h.2.2))) else none
    | _ => none) else
  if op = 25 then (match st with
    | .ref x :: .ref q :: st => if ai_kd h q = some a then some (.inl (nx, ls, st, (h.1, h.2.1, ai_u h.2.2 q b (x + 1)))) else none
    | _ => none) else
  if op = 26 then (match st with
    | .int i :: .ref q :: st => match h.1[q]? with
      | some (kd, n) => if kd = 9 ∧ ai_in i n = true then some (.inl (nx, ls, .int (h.2.1 q i.toNatClampNeg) :: st, h)) else none
      | none => none
    | .int i :: .retAddr _ :: st => if ai_in i (X.1 - 1) = true then some (.inl (nx, ls, .int (X.2 i.toNatClampNeg) :: st, h)) else none
    | _ => none) else
  if op = 27 then (match st with
    | .int i :: .ref q :: st => match h.1[q]? with
      | some (kd, n) => if kd = 8 ∧ ai_in i n = true then some (.inl (nx, ls, .int (h.2.1 q i.toNatClampNeg) :: st, h)) else none
      | none => none
    | _ => none) else
  if op = 28 then (match st with
    | .int i :: .ref q :: st => match h.1[q]? with
      | some (kd, n) => if 10 ≤ kd ∧ kd ≤ 12 ∧ ai_in i n = true then some (.inl (nx, ls, ai_rv (h.2.2 q i.toNatClampNeg) :: st, h)) else none
      | none => none
    | _ => none) else
  if op = 29 then (match st with
    | .int x :: .int i :: .ref q :: st => match h.1[q]? with
      | some (kd, n) => if kd = 9 ∧ ai_in i n = true then some (.inl (nx, ls, st, (h.1, ai_u h.2.1 q i.toNatClampNeg x, h.2.2))) else none
      | none => none
    | _ => none) else
  if op = 30 then (match st with
    | .int x :: .int i :: .ref q :: st => match h.1[q]? with
      | some (kd, n) => if kd = 8 ∧ ai_in i n = true then some (.inl (nx, ls, st, (h.1, ai_u h.2.1 q i.toNatClampNeg (vp_nar .char x), h.2.2))) else none
      | none => none
    | _ => none) else
  if op = 31 then (match st with
    | .ref w :: .int i :: .ref q :: st => match h.1[q]? with
      | some (kd, n) => if ((kd = 10 ∧ ai_kd h w = some 3) ∨ (kd = 11 ∧ ai_kd h w = some 4)) ∧ ai_in i n = true then some (.inl (nx, ls, st, (h.1, h.2.1, ai_u h.2.2 q i.toNatClampNeg (w + 1)))) else none
      | none => none
    | _ => none) else
  if op = 32 then (match st with
    | .retAddr _ :: st => if X.1 = 0 then none else some (.inl (nx, ls, .int (Int32.ofNat (X.1 - 1)) :: st, h))
    | _ => none) else
  none
def ai_st4 (d op a b : Nat) (tb : List Nat) (nx : Nat) (ls st : List Value) (h : ai_H) : Option ai_O :=
  if op = 33 then (some (.inl (nx, ls, .ref h.1.length :: st, (h.1 ++ [(a, b)], ai_z h.2.1 h.1.length 0, ai_z h.2.2 h.1.length 0)))) else
  if op = 34 then (match st with
    | .int n :: st => if n < 0 ∨ 1000 < n.toNatClampNeg then none else some (.inl (nx, ls, .ref h.1.length :: st, (h.1 ++ [(a, n.toNatClampNeg)], ai_z h.2.1 h.1.length 0, ai_z h.2.2 h.1.length 0)))
    | _ => none) else
  if op = 35 then (match st with
    | .int n :: st => if n < 0 ∨ 1000 < n.toNatClampNeg then none else some (.inl (nx, ls, .ref h.1.length :: st, (h.1 ++ [(a, n.toNatClampNeg)], ai_z h.2.1 h.1.length 0, ai_z h.2.2 h.1.length 0)))
    | _ => none) else
  if op = 36 then (match st with
    | .int k :: .int n :: st => if n < 0 ∨ 1000 < n.toNatClampNeg ∨ k < 0 ∨ 1000 < k.toNatClampNeg then none else
        some (.inl (nx, ls, .ref h.1.length :: st, ((h.1 ++ [(12, n.toNatClampNeg)]) ++ List.replicate n.toNatClampNeg (9, k.toNatClampNeg),
          (fun q j => if h.1.length ≤ q then 0 else h.2.1 q j), (fun q j => if q = h.1.length then (if j < n.toNatClampNeg then h.1.length + 1 + j + 1 else 0) else if h.1.length ≤ q then 0 else h.2.2 q j))))
    | _ => none) else
  if op = 40 then (match st with
    | .ref _ :: st => if d = 0 ∨ ai_c1 st = false ∨ 8 < st.length then none else some (.inl (nx, ls, st, h))
    | _ => none) else
  if op = 41 then (match st with
    | .int n :: .int dp :: .ref q1 :: .int sp :: .ref q0 :: st => if d = 0 ∨ ai_c1 st = false ∨ 8 < st.length then none else match h.1[q0]?, h.1[q1]? with
      | some (k0, n0), some (k1, n1) => if k0 = 9 ∧ k1 = 9 ∧ ¬ sp < 0 ∧ ¬ dp < 0 ∧ ¬ n < 0 ∧ sp.toNatClampNeg + n.toNatClampNeg ≤ n0 ∧ dp.toNatClampNeg + n.toNatClampNeg ≤ n1 then
          some (.inl (nx, ls, st, (h.1, (fun q j => if q = q1 ∧ dp.toNatClampNeg ≤ j ∧ j < dp.toNatClampNeg + n.toNatClampNeg then h.2.1 q0 (sp.toNatClampNeg + (j - dp.toNatClampNeg)) else h.2.1 q j), h.2.2))) else none
      | _, _ => none
    | _ => none) else
  none
def ai_st5 (op a b : Nat) (v : Int32) (tb : List Nat) (ls st : List Value) (h : ai_H) : Option ai_O :=
  if op = 37 then (if b ≤ st.length ∧ ai_c1 st = true ∧ (st.drop b).length ≤ 8 then some (.inr (.inr (a, (st.take b).reverse, st.drop b))) else none) else
  if op = 38 then (match (st.take b).reverse with
    | .ref q :: _ => if ai_kd h q = tb.head? ∧ b ≤ st.length ∧ ai_c1 st = true ∧ (st.drop b).length ≤ 8 then some (.inr (.inr (a, (st.take b).reverse, st.drop b))) else none
    | _ => none) else
  if op = 39 then (match (st.take b).reverse with
    | .ref q :: _ => if ai_kd h q = tb.head? ∧ b ≤ st.length ∧ ai_c1 st = true ∧ (st.drop b).length ≤ 8 then some (.inr (.inr (a, (st.take b).reverse, st.drop b))) else none
    | _ => none) else
  if op = 42 then (match st with
    | [.int x] => if a = 0 ∨ (a = 1 ∧ (x = 0 ∨ x = 1)) then some (.inr (.inl (some (.int x)))) else none
    | [.ref x] => if a = 2 then some (.inr (.inl (some (.ref x)))) else none
    | [.null] => if a = 2 then some (.inr (.inl (some .null))) else none
    | _ => none) else
  if op = 43 then (match st with
    | [] => some (.inr (.inl none))
    | _ => none) else
  if op = 44 then (match st with
    | .int x :: st => some (.inl (if x.toInt < v.toInt then a else (tb[(x.toInt - v.toInt).toNat]?).getD a, ls, st, h))
    | _ => none) else
  none
def ai_step (X : ai_X) (d op a b : Nat) (v : Int32) (tb : List Nat) (nx : Nat) (ls st : List Value) (h : ai_H) : Option ai_O :=
  if op ≤ 10 then ai_st1 op a b v nx ls st h
  else if op ≤ 21 then ai_st2 op a b nx ls st h
  else if op ≤ 32 then ai_st3 X op a b nx ls st h
  else if op ≤ 36 then ai_st4 d op a b tb nx ls st h
  else if op = 40 then ai_st4 d op a b tb nx ls st h
  else if op = 41 then ai_st4 d op a b tb nx ls st h
  else ai_st5 op a b v tb ls st h
def ai_ent (args : List Value) (ml : Nat) : List Value := args ++ List.replicate (ml - args.length) (.long 0)
def ai_ml (g : Nat) : Nat := ((ai_mt[g]?).map (·.2.2.1)).getD 0
def ai_exec : Nat → Nat → ai_X → Nat → Nat → List Value → List Value → ai_H → Option (Option Value × ai_H)
  | 0, _, _, _, _, _, _, _ => none
  | n + 1, d, X, f, pc, ls, st, h => match ai_fetch f pc with
    | none => none
    | some (op, a, b, v, tb, nx) => match ai_step X d op a b v tb nx ls st h with
      | none => none
      | some (.inl (pc', ls', st', h')) => ai_exec n d X f pc' ls' st' h'
      | some (.inr (.inl r)) => some (r, h)
      | some (.inr (.inr (g, args, rest))) => match d with
        | 0 => none
        | d' + 1 => match ai_exec n d' (0, fun _ => 0) g 0 (ai_ent args (ai_ml g)) [] h with
          | none => none
          | some (r, h') => ai_exec n (d' + 1) X f nx ls (r.toList ++ rest) h'
