section
/-! names: the tables' words of the skeleton, then the printed names (classes, fields, methods): made by wip/whole/gen.py -/
/-- a private method of a class that the tables say can be made, by its rows of tables_1 -/
def lw_okq (q : MethodName × Nat) : Prop := (q.1.cls ≠ "java/lang/invoke/MethodHandle" ∧ q.1.cls ≠ "java/lang/invoke/VarHandle") ∧ Cond.instantiable q.1.cls q.2 ∈ tables_1 ∧ Cond.privateMethod q.1 ∈ tables_1 ∧ Cond.instanceMethod q.1 ∈ tables_1
theorem lw_p0 : lw_okq (⟨"PredictionMaker", "canOpen", "(III)Z"⟩, 4) := ⟨⟨by decide +kernel, by decide +kernel⟩, List.mem_of_getElem? (i := 12) (by decide +kernel), List.mem_of_getElem? (i := 259) (by decide +kernel), List.mem_of_getElem? (i := 260) (by decide +kernel)⟩
theorem lw_p1 : lw_okq (⟨"PredictionMaker$Exchange", "firstExecutable", "(LPredictionMaker$Market;)I"⟩, 6) := ⟨⟨by decide +kernel, by decide +kernel⟩, List.mem_of_getElem? (i := 20) (by decide +kernel), List.mem_of_getElem? (i := 307) (by decide +kernel), List.mem_of_getElem? (i := 308) (by decide +kernel)⟩
theorem lw_p2 : lw_okq (⟨"PredictionMaker$Market", "level", "()I"⟩, 16) := ⟨⟨by decide +kernel, by decide +kernel⟩, List.mem_of_getElem? (i := 27) (by decide +kernel), List.mem_of_getElem? (i := 315) (by decide +kernel), List.mem_of_getElem? (i := 316) (by decide +kernel)⟩
theorem lw_p3 : lw_okq (⟨"PredictionMaker$Market", "measure", "()V"⟩, 16) := ⟨⟨by decide +kernel, by decide +kernel⟩, List.mem_of_getElem? (i := 27) (by decide +kernel), List.mem_of_getElem? (i := 319) (by decide +kernel), List.mem_of_getElem? (i := 320) (by decide +kernel)⟩
theorem lw_p4 : lw_okq (⟨"PredictionMaker$Exchange", "obstacle", "(LPredictionMaker$Order;II)I"⟩, 6) := ⟨⟨by decide +kernel, by decide +kernel⟩, List.mem_of_getElem? (i := 20) (by decide +kernel), List.mem_of_getElem? (i := 323) (by decide +kernel), List.mem_of_getElem? (i := 324) (by decide +kernel)⟩
theorem lw_p5 : lw_okq (⟨"PredictionMaker$Market", "addSet", "(II)V"⟩, 16) := ⟨⟨by decide +kernel, by decide +kernel⟩, List.mem_of_getElem? (i := 27) (by decide +kernel), List.mem_of_getElem? (i := 384) (by decide +kernel), List.mem_of_getElem? (i := 385) (by decide +kernel)⟩
theorem lw_p6 : lw_okq (⟨"PredictionMaker$Exchange", "reasonByCondition", "(LPredictionMaker$Market;)I"⟩, 6) := ⟨⟨by decide +kernel, by decide +kernel⟩, List.mem_of_getElem? (i := 20) (by decide +kernel), List.mem_of_getElem? (i := 451) (by decide +kernel), List.mem_of_getElem? (i := 452) (by decide +kernel)⟩
theorem lw_p7 : lw_okq (⟨"PredictionMaker$Market", "lossBound", "()I"⟩, 16) := ⟨⟨by decide +kernel, by decide +kernel⟩, List.mem_of_getElem? (i := 27) (by decide +kernel), List.mem_of_getElem? (i := 481) (by decide +kernel), List.mem_of_getElem? (i := 482) (by decide +kernel)⟩
theorem lw_p8 : lw_okq (⟨"PredictionMaker$Market", "mostShares", "()I"⟩, 16) := ⟨⟨by decide +kernel, by decide +kernel⟩, List.mem_of_getElem? (i := 27) (by decide +kernel), List.mem_of_getElem? (i := 485) (by decide +kernel), List.mem_of_getElem? (i := 486) (by decide +kernel)⟩
theorem lw_p9 : lw_okq (⟨"PredictionMaker$TradeText", "note", "(IC)V"⟩, 7) := ⟨⟨by decide +kernel, by decide +kernel⟩, List.mem_of_getElem? (i := 207) (by decide +kernel), List.mem_of_getElem? (i := 604) (by decide +kernel), List.mem_of_getElem? (i := 605) (by decide +kernel)⟩
theorem lw_p10 : lw_okq (⟨"PredictionMakerModel", "isFine", "(III)Z"⟩, 7) := ⟨⟨by decide +kernel, by decide +kernel⟩, List.mem_of_getElem? (i := 646) (by decide +kernel), List.mem_of_getElem? (i := 678) (by decide +kernel), List.mem_of_getElem? (i := 679) (by decide +kernel)⟩
theorem lw_p11 : lw_okq (⟨"PredictionMakerModel", "opens", "(IIIII)I"⟩, 7) := ⟨⟨by decide +kernel, by decide +kernel⟩, List.mem_of_getElem? (i := 646) (by decide +kernel), List.mem_of_getElem? (i := 685) (by decide +kernel), List.mem_of_getElem? (i := 686) (by decide +kernel)⟩
theorem lw_p12 : lw_okq (⟨"PredictionMakerModel", "isOutcome", "(II)Z"⟩, 7) := ⟨⟨by decide +kernel, by decide +kernel⟩, List.mem_of_getElem? (i := 646) (by decide +kernel), List.mem_of_getElem? (i := 698) (by decide +kernel), List.mem_of_getElem? (i := 699) (by decide +kernel)⟩
theorem lw_p13 : lw_okq (⟨"PredictionMakerModel", "isMarket", "(I)Z"⟩, 7) := ⟨⟨by decide +kernel, by decide +kernel⟩, List.mem_of_getElem? (i := 646) (by decide +kernel), List.mem_of_getElem? (i := 702) (by decide +kernel), List.mem_of_getElem? (i := 703) (by decide +kernel)⟩
theorem lw_p14 : lw_okq (⟨"PredictionMakerModel", "of", "(II)I"⟩, 7) := ⟨⟨by decide +kernel, by decide +kernel⟩, List.mem_of_getElem? (i := 646) (by decide +kernel), List.mem_of_getElem? (i := 706) (by decide +kernel), List.mem_of_getElem? (i := 707) (by decide +kernel)⟩
theorem lw_p15 : lw_okq (⟨"PredictionMakerModel", "executes", "(I)V"⟩, 7) := ⟨⟨by decide +kernel, by decide +kernel⟩, List.mem_of_getElem? (i := 646) (by decide +kernel), List.mem_of_getElem? (i := 720) (by decide +kernel), List.mem_of_getElem? (i := 721) (by decide +kernel)⟩
def lw_privs_1 : List (MethodName × Nat) := [(⟨"PredictionMaker", "canOpen", "(III)Z"⟩, 4), (⟨"PredictionMaker$Exchange", "firstExecutable", "(LPredictionMaker$Market;)I"⟩, 6), (⟨"PredictionMaker$Market", "level", "()I"⟩, 16), (⟨"PredictionMaker$Market", "measure", "()V"⟩, 16), (⟨"PredictionMaker$Exchange", "obstacle", "(LPredictionMaker$Order;II)I"⟩, 6), (⟨"PredictionMaker$Market", "addSet", "(II)V"⟩, 16), (⟨"PredictionMaker$Exchange", "reasonByCondition", "(LPredictionMaker$Market;)I"⟩, 6), (⟨"PredictionMaker$Market", "lossBound", "()I"⟩, 16), (⟨"PredictionMaker$Market", "mostShares", "()I"⟩, 16), (⟨"PredictionMaker$TradeText", "note", "(IC)V"⟩, 7), (⟨"PredictionMakerModel", "isFine", "(III)Z"⟩, 7), (⟨"PredictionMakerModel", "opens", "(IIIII)I"⟩, 7), (⟨"PredictionMakerModel", "isOutcome", "(II)Z"⟩, 7), (⟨"PredictionMakerModel", "isMarket", "(I)Z"⟩, 7), (⟨"PredictionMakerModel", "of", "(II)I"⟩, 7), (⟨"PredictionMakerModel", "executes", "(I)V"⟩, 7)]
theorem lw_r1 : ∀ q ∈ lw_privs_1, lw_okq q := List.forall_mem_cons.mpr ⟨lw_p0, List.forall_mem_cons.mpr ⟨lw_p1, List.forall_mem_cons.mpr ⟨lw_p2, List.forall_mem_cons.mpr ⟨lw_p3, List.forall_mem_cons.mpr ⟨lw_p4, List.forall_mem_cons.mpr ⟨lw_p5, List.forall_mem_cons.mpr ⟨lw_p6, List.forall_mem_cons.mpr ⟨lw_p7, List.forall_mem_cons.mpr ⟨lw_p8, List.forall_mem_cons.mpr ⟨lw_p9, List.forall_mem_cons.mpr ⟨lw_p10, List.forall_mem_cons.mpr ⟨lw_p11, List.forall_mem_cons.mpr ⟨lw_p12, List.forall_mem_cons.mpr ⟨lw_p13, List.forall_mem_cons.mpr ⟨lw_p14, List.forall_mem_cons.mpr ⟨lw_p15, fun _ h => absurd h List.not_mem_nil⟩⟩⟩⟩⟩⟩⟩⟩⟩⟩⟩⟩⟩⟩⟩⟩
theorem lw_p16 : lw_okq (⟨"PredictionMakerModel", "isTriedAhead", "(II)Z"⟩, 7) := ⟨⟨by decide +kernel, by decide +kernel⟩, List.mem_of_getElem? (i := 646) (by decide +kernel), List.mem_of_getElem? (i := 727) (by decide +kernel), List.mem_of_getElem? (i := 728) (by decide +kernel)⟩
theorem lw_p17 : lw_okq (⟨"PredictionMakerModel", "bar", "(I)I"⟩, 7) := ⟨⟨by decide +kernel, by decide +kernel⟩, List.mem_of_getElem? (i := 646) (by decide +kernel), List.mem_of_getElem? (i := 731) (by decide +kernel), List.mem_of_getElem? (i := 732) (by decide +kernel)⟩
theorem lw_p18 : lw_okq (⟨"PredictionMakerModel", "costOf", "(III)I"⟩, 7) := ⟨⟨by decide +kernel, by decide +kernel⟩, List.mem_of_getElem? (i := 646) (by decide +kernel), List.mem_of_getElem? (i := 735) (by decide +kernel), List.mem_of_getElem? (i := 736) (by decide +kernel)⟩
theorem lw_p19 : lw_okq (⟨"PredictionMakerModel", "level", "(I)I"⟩, 7) := ⟨⟨by decide +kernel, by decide +kernel⟩, List.mem_of_getElem? (i := 646) (by decide +kernel), List.mem_of_getElem? (i := 739) (by decide +kernel), List.mem_of_getElem? (i := 740) (by decide +kernel)⟩
theorem lw_p20 : lw_okq (⟨"PredictionMakerModel", "active", "(I)I"⟩, 7) := ⟨⟨by decide +kernel, by decide +kernel⟩, List.mem_of_getElem? (i := 646) (by decide +kernel), List.mem_of_getElem? (i := 743) (by decide +kernel), List.mem_of_getElem? (i := 744) (by decide +kernel)⟩
theorem lw_p21 : lw_okq (⟨"PredictionMakerModel", "ranked", "(II)I"⟩, 7) := ⟨⟨by decide +kernel, by decide +kernel⟩, List.mem_of_getElem? (i := 646) (by decide +kernel), List.mem_of_getElem? (i := 747) (by decide +kernel), List.mem_of_getElem? (i := 748) (by decide +kernel)⟩
theorem lw_p22 : lw_okq (⟨"PredictionMakerModel", "isAhead", "(III)Z"⟩, 7) := ⟨⟨by decide +kernel, by decide +kernel⟩, List.mem_of_getElem? (i := 646) (by decide +kernel), List.mem_of_getElem? (i := 751) (by decide +kernel), List.mem_of_getElem? (i := 752) (by decide +kernel)⟩
theorem lw_p23 : lw_okq (⟨"PredictionMakerModel", "trades", "(IIIII)I"⟩, 7) := ⟨⟨by decide +kernel, by decide +kernel⟩, List.mem_of_getElem? (i := 646) (by decide +kernel), List.mem_of_getElem? (i := 755) (by decide +kernel), List.mem_of_getElem? (i := 756) (by decide +kernel)⟩
theorem lw_p24 : lw_okq (⟨"PredictionMakerModel", "removes", "(I)V"⟩, 7) := ⟨⟨by decide +kernel, by decide +kernel⟩, List.mem_of_getElem? (i := 646) (by decide +kernel), List.mem_of_getElem? (i := 762) (by decide +kernel), List.mem_of_getElem? (i := 763) (by decide +kernel)⟩
theorem lw_p25 : lw_okq (⟨"PredictionMakerModel", "has", "(II)Z"⟩, 7) := ⟨⟨by decide +kernel, by decide +kernel⟩, List.mem_of_getElem? (i := 646) (by decide +kernel), List.mem_of_getElem? (i := 783) (by decide +kernel), List.mem_of_getElem? (i := 784) (by decide +kernel)⟩
theorem lw_p26 : lw_okq (⟨"PredictionMakerModel", "grows", "(III)V"⟩, 7) := ⟨⟨by decide +kernel, by decide +kernel⟩, List.mem_of_getElem? (i := 646) (by decide +kernel), List.mem_of_getElem? (i := 787) (by decide +kernel), List.mem_of_getElem? (i := 788) (by decide +kernel)⟩
theorem lw_p27 : lw_okq (⟨"PredictionMakerModel", "find", "(I)I"⟩, 7) := ⟨⟨by decide +kernel, by decide +kernel⟩, List.mem_of_getElem? (i := 646) (by decide +kernel), List.mem_of_getElem? (i := 803) (by decide +kernel), List.mem_of_getElem? (i := 804) (by decide +kernel)⟩
theorem lw_p28 : lw_okq (⟨"PredictionMakerModel", "ticks", "()V"⟩, 7) := ⟨⟨by decide +kernel, by decide +kernel⟩, List.mem_of_getElem? (i := 646) (by decide +kernel), List.mem_of_getElem? (i := 819) (by decide +kernel), List.mem_of_getElem? (i := 820) (by decide +kernel)⟩
theorem lw_p29 : lw_okq (⟨"PredictionMakerModel", "earliest", "(II)I"⟩, 7) := ⟨⟨by decide +kernel, by decide +kernel⟩, List.mem_of_getElem? (i := 646) (by decide +kernel), List.mem_of_getElem? (i := 823) (by decide +kernel), List.mem_of_getElem? (i := 824) (by decide +kernel)⟩
theorem lw_p30 : lw_okq (⟨"PredictionMakerModel", "cancelsAll", "(I)V"⟩, 7) := ⟨⟨by decide +kernel, by decide +kernel⟩, List.mem_of_getElem? (i := 646) (by decide +kernel), List.mem_of_getElem? (i := 827) (by decide +kernel), List.mem_of_getElem? (i := 828) (by decide +kernel)⟩
theorem lw_p31 : lw_okq (⟨"PredictionMakerModel", "voids", "(II)V"⟩, 7) := ⟨⟨by decide +kernel, by decide +kernel⟩, List.mem_of_getElem? (i := 646) (by decide +kernel), List.mem_of_getElem? (i := 831) (by decide +kernel), List.mem_of_getElem? (i := 832) (by decide +kernel)⟩
def lw_privs_2 : List (MethodName × Nat) := [(⟨"PredictionMakerModel", "isTriedAhead", "(II)Z"⟩, 7), (⟨"PredictionMakerModel", "bar", "(I)I"⟩, 7), (⟨"PredictionMakerModel", "costOf", "(III)I"⟩, 7), (⟨"PredictionMakerModel", "level", "(I)I"⟩, 7), (⟨"PredictionMakerModel", "active", "(I)I"⟩, 7), (⟨"PredictionMakerModel", "ranked", "(II)I"⟩, 7), (⟨"PredictionMakerModel", "isAhead", "(III)Z"⟩, 7), (⟨"PredictionMakerModel", "trades", "(IIIII)I"⟩, 7), (⟨"PredictionMakerModel", "removes", "(I)V"⟩, 7), (⟨"PredictionMakerModel", "has", "(II)Z"⟩, 7), (⟨"PredictionMakerModel", "grows", "(III)V"⟩, 7), (⟨"PredictionMakerModel", "find", "(I)I"⟩, 7), (⟨"PredictionMakerModel", "ticks", "()V"⟩, 7), (⟨"PredictionMakerModel", "earliest", "(II)I"⟩, 7), (⟨"PredictionMakerModel", "cancelsAll", "(I)V"⟩, 7), (⟨"PredictionMakerModel", "voids", "(II)V"⟩, 7)]
theorem lw_r2 : ∀ q ∈ lw_privs_2, lw_okq q := List.forall_mem_cons.mpr ⟨lw_p16, List.forall_mem_cons.mpr ⟨lw_p17, List.forall_mem_cons.mpr ⟨lw_p18, List.forall_mem_cons.mpr ⟨lw_p19, List.forall_mem_cons.mpr ⟨lw_p20, List.forall_mem_cons.mpr ⟨lw_p21, List.forall_mem_cons.mpr ⟨lw_p22, List.forall_mem_cons.mpr ⟨lw_p23, List.forall_mem_cons.mpr ⟨lw_p24, List.forall_mem_cons.mpr ⟨lw_p25, List.forall_mem_cons.mpr ⟨lw_p26, List.forall_mem_cons.mpr ⟨lw_p27, List.forall_mem_cons.mpr ⟨lw_p28, List.forall_mem_cons.mpr ⟨lw_p29, List.forall_mem_cons.mpr ⟨lw_p30, List.forall_mem_cons.mpr ⟨lw_p31, fun _ h => absurd h List.not_mem_nil⟩⟩⟩⟩⟩⟩⟩⟩⟩⟩⟩⟩⟩⟩⟩⟩
theorem lw_p32 : lw_okq (⟨"PredictionMakerModel", "greatestShares", "(I)I"⟩, 7) := ⟨⟨by decide +kernel, by decide +kernel⟩, List.mem_of_getElem? (i := 646) (by decide +kernel), List.mem_of_getElem? (i := 847) (by decide +kernel), List.mem_of_getElem? (i := 848) (by decide +kernel)⟩
theorem lw_p33 : lw_okq (⟨"PredictionMakerModel", "priceOf", "(II)I"⟩, 7) := ⟨⟨by decide +kernel, by decide +kernel⟩, List.mem_of_getElem? (i := 646) (by decide +kernel), List.mem_of_getElem? (i := 855) (by decide +kernel), List.mem_of_getElem? (i := 856) (by decide +kernel)⟩
theorem lw_p34 : lw_okq (⟨"PredictionMakerModel", "worth", "(IIZ)I"⟩, 7) := ⟨⟨by decide +kernel, by decide +kernel⟩, List.mem_of_getElem? (i := 646) (by decide +kernel), List.mem_of_getElem? (i := 879) (by decide +kernel), List.mem_of_getElem? (i := 880) (by decide +kernel)⟩
theorem lw_p35 : lw_okq (⟨"PredictionMakerModel", "isTrade", "()Z"⟩, 7) := ⟨⟨by decide +kernel, by decide +kernel⟩, List.mem_of_getElem? (i := 646) (by decide +kernel), List.mem_of_getElem? (i := 908) (by decide +kernel), List.mem_of_getElem? (i := 909) (by decide +kernel)⟩
theorem lw_p36 : lw_okq (⟨"PredictionMakerModel", "takes", "(II)Z"⟩, 7) := ⟨⟨by decide +kernel, by decide +kernel⟩, List.mem_of_getElem? (i := 646) (by decide +kernel), List.mem_of_getElem? (i := 912) (by decide +kernel), List.mem_of_getElem? (i := 913) (by decide +kernel)⟩
theorem lw_p37 : lw_okq (⟨"PredictionMakerModel", "does", "(I)Z"⟩, 7) := ⟨⟨by decide +kernel, by decide +kernel⟩, List.mem_of_getElem? (i := 646) (by decide +kernel), List.mem_of_getElem? (i := 916) (by decide +kernel), List.mem_of_getElem? (i := 917) (by decide +kernel)⟩
def lw_privs_3 : List (MethodName × Nat) := [(⟨"PredictionMakerModel", "greatestShares", "(I)I"⟩, 7), (⟨"PredictionMakerModel", "priceOf", "(II)I"⟩, 7), (⟨"PredictionMakerModel", "worth", "(IIZ)I"⟩, 7), (⟨"PredictionMakerModel", "isTrade", "()Z"⟩, 7), (⟨"PredictionMakerModel", "takes", "(II)Z"⟩, 7), (⟨"PredictionMakerModel", "does", "(I)Z"⟩, 7)]
theorem lw_r3 : ∀ q ∈ lw_privs_3, lw_okq q := List.forall_mem_cons.mpr ⟨lw_p32, List.forall_mem_cons.mpr ⟨lw_p33, List.forall_mem_cons.mpr ⟨lw_p34, List.forall_mem_cons.mpr ⟨lw_p35, List.forall_mem_cons.mpr ⟨lw_p36, List.forall_mem_cons.mpr ⟨lw_p37, fun _ h => absurd h List.not_mem_nil⟩⟩⟩⟩⟩⟩
def lw_privs : List (MethodName × Nat) := lw_privs_1 ++ (lw_privs_2 ++ (lw_privs_3))
def lw_tbl : List Cond := k2_sels lw_privs ++ tables_1
theorem lw_privs_ok : ∀ q ∈ lw_privs, lw_okq q := by
  show ∀ q ∈ lw_privs_1 ++ (lw_privs_2 ++ (lw_privs_3)), lw_okq q
  exact List.forall_mem_append.mpr ⟨lw_r1, List.forall_mem_append.mpr ⟨lw_r2, lw_r3⟩⟩
def R_law : String := "PredictionMakerLaw"
def RX0 : String := "PredictionMaker$Book"
def TX0 : u_T := fun k => match k with
  | 0 => ("PredictionMaker$Book", "orders", "[LPredictionMaker$Order;", true)
  | 1 => ("PredictionMaker$Book", "open", "I", false)
  | _ => ("PredictionMaker$Book", "placed", "I", false)
def tyX0 : Nat → FieldType := fun k => match k with
  | 0 => .array (.object "PredictionMaker$Order")
  | 1 => .int
  | _ => .int
abbrev wsX00 : List Cond := u_ws RX0 TX0 3
theorem nmX0 : ∀ a, a < 3 → ∀ b, b < 3 → a ≠ b → (TX0 a).2.1 ≠ (TX0 b).2.1 := by decide +kernel
theorem tyX0_ok : ∀ k, k < 3 → parseFieldDescriptor (TX0 k).2.2.1 = some (tyX0 k) := by decide +kernel
abbrev cX0_init : ByteArray := prog_2_method_1_code
def yX0_init : MethodName := ⟨RX0, "<init>", "()V"⟩
abbrev cX0_copyFrom : ByteArray := prog_2_method_2_code
def yX0_copyFrom : MethodName := ⟨RX0, "copyFrom", "(LPredictionMaker$Book;)V"⟩
abbrev cX0_insert : ByteArray := prog_2_method_3_code
def yX0_insert : MethodName := ⟨RX0, "insert", "(IIIII)I"⟩
abbrev cX0_positionOf : ByteArray := prog_2_method_4_code
def yX0_positionOf : MethodName := ⟨RX0, "positionOf", "(I)I"⟩
abbrev cX0_remove : ByteArray := prog_2_method_5_code
def yX0_remove : MethodName := ⟨RX0, "remove", "(I)V"⟩
abbrev cX0_removeAll : ByteArray := prog_2_method_6_code
def yX0_removeAll : MethodName := ⟨RX0, "removeAll", "(I)V"⟩
abbrev cX0_openOf : ByteArray := prog_2_method_7_code
def yX0_openOf : MethodName := ⟨RX0, "openOf", "(I)I"⟩
def RX1 : String := "PredictionMaker$Exchange"
def TX1 : u_T := fun k => match k with
  | 0 => ("PredictionMaker$Exchange", "balances", "[I", true)
  | 1 => ("PredictionMaker$Exchange", "markets", "[LPredictionMaker$Market;", true)
  | 2 => ("PredictionMaker$Exchange", "book", "LPredictionMaker$Book;", true)
  | 3 => ("PredictionMaker$Exchange", "history", "LPredictionMaker$History;", true)
  | 4 => ("PredictionMaker$Exchange", "marketCount", "I", false)
  | _ => ("PredictionMaker$Exchange", "time", "I", false)
def tyX1 : Nat → FieldType := fun k => match k with
  | 0 => .array .int
  | 1 => .array (.object "PredictionMaker$Market")
  | 2 => .object "PredictionMaker$Book"
  | 3 => .object "PredictionMaker$History"
  | 4 => .int
  | _ => .int
abbrev wsX10 : List Cond := u_ws RX1 TX1 6
theorem nmX1 : ∀ a, a < 6 → ∀ b, b < 6 → a ≠ b → (TX1 a).2.1 ≠ (TX1 b).2.1 := by decide +kernel
theorem tyX1_ok : ∀ k, k < 6 → parseFieldDescriptor (TX1 k).2.2.1 = some (tyX1 k) := by decide +kernel
abbrev cX1_init : ByteArray := prog_3_method_1_code
def yX1_init : MethodName := ⟨RX1, "<init>", "()V"⟩
abbrev cX1_copyFrom : ByteArray := prog_3_method_2_code
def yX1_copyFrom : MethodName := ⟨RX1, "copyFrom", "(LPredictionMaker$Exchange;)V"⟩
abbrev cX1_marketAt : ByteArray := prog_3_method_3_code
def yX1_marketAt : MethodName := ⟨RX1, "marketAt", "(I)LPredictionMaker$Market;"⟩
abbrev cX1_marketWith : ByteArray := prog_3_method_4_code
def yX1_marketWith : MethodName := ⟨RX1, "marketWith", "(II)LPredictionMaker$Market;"⟩
abbrev cX1_addMarket : ByteArray := prog_3_method_5_code
def yX1_addMarket : MethodName := ⟨RX1, "addMarket", "(IIIII)I"⟩
abbrev cX1_exchange : ByteArray := prog_3_method_6_code
def yX1_exchange : MethodName := ⟨RX1, "exchange", "(LPredictionMaker$Market;IIII)I"⟩
abbrev cX1_exchangeSet : ByteArray := prog_3_method_7_code
def yX1_exchangeSet : MethodName := ⟨RX1, "exchangeSet", "(LPredictionMaker$Market;III)V"⟩
abbrev cX1_executeAllOrders : ByteArray := prog_3_method_8_code
def yX1_executeAllOrders : MethodName := ⟨RX1, "executeAllOrders", "()V"⟩
abbrev cX1_executeOrders : ByteArray := prog_3_method_9_code
def yX1_executeOrders : MethodName := ⟨RX1, "executeOrders", "(LPredictionMaker$Market;)V"⟩
abbrev cX1_firstExecutable : ByteArray := prog_3_method_10_code
def yX1_firstExecutable : MethodName := ⟨RX1, "firstExecutable", "(LPredictionMaker$Market;)I"⟩
abbrev cX1_obstacleOf : ByteArray := prog_3_method_11_code
def yX1_obstacleOf : MethodName := ⟨RX1, "obstacleOf", "(LPredictionMaker$Order;)I"⟩
abbrev cX1_obstacle : ByteArray := prog_3_method_12_code
def yX1_obstacle : MethodName := ⟨RX1, "obstacle", "(LPredictionMaker$Order;II)I"⟩
abbrev cX1_passTick : ByteArray := prog_3_method_13_code
def yX1_passTick : MethodName := ⟨RX1, "passTick", "()V"⟩
abbrev cX1_waitsForCondition : ByteArray := prog_3_method_14_code
def yX1_waitsForCondition : MethodName := ⟨RX1, "waitsForCondition", "(LPredictionMaker$Market;)Z"⟩
abbrev cX1_payWinners : ByteArray := prog_3_method_15_code
def yX1_payWinners : MethodName := ⟨RX1, "payWinners", "(LPredictionMaker$Market;I)I"⟩
abbrev cX1_makeVoid : ByteArray := prog_3_method_16_code
def yX1_makeVoid : MethodName := ⟨RX1, "makeVoid", "(LPredictionMaker$Market;I)V"⟩
abbrev cX1_voidFollowers : ByteArray := prog_3_method_17_code
def yX1_voidFollowers : MethodName := ⟨RX1, "voidFollowers", "()I"⟩
abbrev cX1_reasonByCondition : ByteArray := prog_3_method_18_code
def yX1_reasonByCondition : MethodName := ⟨RX1, "reasonByCondition", "(LPredictionMaker$Market;)I"⟩
abbrev cX1_worthOf : ByteArray := prog_3_method_19_code
def yX1_worthOf : MethodName := ⟨RX1, "worthOf", "(I)I"⟩
abbrev cX1_mostCoinsOf : ByteArray := prog_3_method_20_code
def yX1_mostCoinsOf : MethodName := ⟨RX1, "mostCoinsOf", "(I)I"⟩
abbrev cX1_openMarkets : ByteArray := prog_3_method_21_code
def yX1_openMarkets : MethodName := ⟨RX1, "openMarkets", "()I"⟩
abbrev cX1_sumOfBalances : ByteArray := prog_3_method_22_code
def yX1_sumOfBalances : MethodName := ⟨RX1, "sumOfBalances", "()I"⟩
abbrev cX1_sumOfAccounts : ByteArray := prog_3_method_23_code
def yX1_sumOfAccounts : MethodName := ⟨RX1, "sumOfAccounts", "()I"⟩
def RX2 : String := "PredictionMaker$History"
def TX2 : u_T := fun k => match k with
  | 0 => ("PredictionMaker$History", "rows", "[[I", true)
  | _ => ("PredictionMaker$History", "total", "I", false)
def tyX2 : Nat → FieldType := fun k => match k with
  | 0 => .array (.array .int)
  | _ => .int
abbrev wsX20 : List Cond := u_ws RX2 TX2 2
theorem nmX2 : ∀ a, a < 2 → ∀ b, b < 2 → a ≠ b → (TX2 a).2.1 ≠ (TX2 b).2.1 := by decide +kernel
theorem tyX2_ok : ∀ k, k < 2 → parseFieldDescriptor (TX2 k).2.2.1 = some (tyX2 k) := by decide +kernel
abbrev cX2_init : ByteArray := prog_4_method_1_code
def yX2_init : MethodName := ⟨RX2, "<init>", "()V"⟩
abbrev cX2_copyFrom : ByteArray := prog_4_method_2_code
def yX2_copyFrom : MethodName := ⟨RX2, "copyFrom", "(LPredictionMaker$History;)V"⟩
abbrev cX2_add : ByteArray := prog_4_method_3_code
def yX2_add : MethodName := ⟨RX2, "add", "(IIIIII)V"⟩
abbrev cX2_keeps : ByteArray := prog_4_method_4_code
def yX2_keeps : MethodName := ⟨RX2, "keeps", "(I)Z"⟩
abbrev cX2_partOf : ByteArray := prog_4_method_5_code
def yX2_partOf : MethodName := ⟨RX2, "partOf", "(II)I"⟩
def RX3 : String := "PredictionMaker$Market"
def TX3 : u_T := fun k => match k with
  | 0 => ("PredictionMaker$Market", "number", "I", true)
  | 1 => ("PredictionMaker$Market", "shares", "[I", true)
  | 2 => ("PredictionMaker$Market", "held", "[[I", true)
  | 3 => ("PredictionMaker$Market", "paidBy", "[I", true)
  | 4 => ("PredictionMaker$Market", "liquidity", "I", false)
  | 5 => ("PredictionMaker$Market", "outcomes", "I", false)
  | 6 => ("PredictionMaker$Market", "expiry", "I", false)
  | 7 => ("PredictionMaker$Market", "conditionMarket", "I", false)
  | 8 => ("PredictionMaker$Market", "conditionOutcome", "I", false)
  | 9 => ("PredictionMaker$Market", "state", "I", false)
  | 10 => ("PredictionMaker$Market", "winner", "I", false)
  | 11 => ("PredictionMaker$Market", "reason", "I", false)
  | 12 => ("PredictionMaker$Market", "account", "I", false)
  | 13 => ("PredictionMaker$Market", "active", "I", false)
  | 14 => ("PredictionMaker$Market", "activeSum", "I", false)
  | _ => ("PredictionMaker$Market", "activeSquares", "I", false)
def tyX3 : Nat → FieldType := fun k => match k with
  | 0 => .int
  | 1 => .array .int
  | 2 => .array (.array .int)
  | 3 => .array .int
  | 4 => .int
  | 5 => .int
  | 6 => .int
  | 7 => .int
  | 8 => .int
  | 9 => .int
  | 10 => .int
  | 11 => .int
  | 12 => .int
  | 13 => .int
  | 14 => .int
  | _ => .int
abbrev wsX30 : List Cond := u_ws RX3 TX3 16
theorem nmX3 : ∀ a, a < 16 → ∀ b, b < 16 → a ≠ b → (TX3 a).2.1 ≠ (TX3 b).2.1 := by decide +kernel
theorem tyX3_ok : ∀ k, k < 16 → parseFieldDescriptor (TX3 k).2.2.1 = some (tyX3 k) := by decide +kernel
abbrev cX3_init : ByteArray := prog_5_method_1_code
def yX3_init : MethodName := ⟨RX3, "<init>", "(I)V"⟩
abbrev cX3_copyFrom : ByteArray := prog_5_method_2_code
def yX3_copyFrom : MethodName := ⟨RX3, "copyFrom", "(LPredictionMaker$Market;)V"⟩
abbrev cX3_isLive : ByteArray := prog_5_method_3_code
def yX3_isLive : MethodName := ⟨RX3, "isLive", "()Z"⟩
abbrev cX3_property : ByteArray := prog_5_method_4_code
def yX3_property : MethodName := ⟨RX3, "property", "(I)I"⟩
abbrev cX3_lossBound : ByteArray := prog_5_method_5_code
def yX3_lossBound : MethodName := ⟨RX3, "lossBound", "()I"⟩
abbrev cX3_mostShares : ByteArray := prog_5_method_6_code
def yX3_mostShares : MethodName := ⟨RX3, "mostShares", "()I"⟩
abbrev cX3_measure : ByteArray := prog_5_method_7_code
def yX3_measure : MethodName := ⟨RX3, "measure", "()V"⟩
abbrev cX3_level : ByteArray := prog_5_method_8_code
def yX3_level : MethodName := ⟨RX3, "level", "()I"⟩
abbrev cX3_costOf : ByteArray := prog_5_method_9_code
def yX3_costOf : MethodName := ⟨RX3, "costOf", "(II)I"⟩
abbrev cX3_costOfSet : ByteArray := prog_5_method_10_code
def yX3_costOfSet : MethodName := ⟨RX3, "costOfSet", "(II)I"⟩
abbrev cX3_addSet : ByteArray := prog_5_method_11_code
def yX3_addSet : MethodName := ⟨RX3, "addSet", "(II)V"⟩
abbrev cX3_priceWith : ByteArray := prog_5_method_12_code
def yX3_priceWith : MethodName := ⟨RX3, "priceWith", "(II)I"⟩
abbrev cX3_canHave : ByteArray := prog_5_method_13_code
def yX3_canHave : MethodName := ⟨RX3, "canHave", "(II)Z"⟩
abbrev cX3_canHaveSet : ByteArray := prog_5_method_14_code
def yX3_canHaveSet : MethodName := ⟨RX3, "canHaveSet", "(II)Z"⟩
abbrev cX3_hasSet : ByteArray := prog_5_method_15_code
def yX3_hasSet : MethodName := ⟨RX3, "hasSet", "(I)Z"⟩
abbrev cX3_worthOf : ByteArray := prog_5_method_16_code
def yX3_worthOf : MethodName := ⟨RX3, "worthOf", "(I)I"⟩
abbrev cX3_mostHeldBy : ByteArray := prog_5_method_17_code
def yX3_mostHeldBy : MethodName := ⟨RX3, "mostHeldBy", "(I)I"⟩
def RX4 : String := "PredictionMaker$Order"
def TX4 : u_T := fun k => match k with
  | 0 => ("PredictionMaker$Order", "number", "I", false)
  | 1 => ("PredictionMaker$Order", "trader", "I", false)
  | 2 => ("PredictionMaker$Order", "market", "I", false)
  | 3 => ("PredictionMaker$Order", "outcome", "I", false)
  | 4 => ("PredictionMaker$Order", "left", "I", false)
  | _ => ("PredictionMaker$Order", "limit", "I", false)
def tyX4 : Nat → FieldType := fun k => match k with
  | 0 => .int
  | 1 => .int
  | 2 => .int
  | 3 => .int
  | 4 => .int
  | _ => .int
abbrev wsX40 : List Cond := u_ws RX4 TX4 6
theorem nmX4 : ∀ a, a < 6 → ∀ b, b < 6 → a ≠ b → (TX4 a).2.1 ≠ (TX4 b).2.1 := by decide +kernel
theorem tyX4_ok : ∀ k, k < 6 → parseFieldDescriptor (TX4 k).2.2.1 = some (tyX4 k) := by decide +kernel
abbrev cX4_init : ByteArray := prog_6_method_1_code
def yX4_init : MethodName := ⟨RX4, "<init>", "()V"⟩
abbrev cX4_copyFrom : ByteArray := prog_6_method_2_code
def yX4_copyFrom : MethodName := ⟨RX4, "copyFrom", "(LPredictionMaker$Order;)V"⟩
def RX5 : String := "PredictionMaker$TradeText"
def TX5 : u_T := fun k => match k with
  | 0 => ("PredictionMaker$TradeText", "signs", "[C", true)
  | 1 => ("PredictionMaker$TradeText", "length", "I", false)
  | 2 => ("PredictionMaker$TradeText", "trader", "I", false)
  | 3 => ("PredictionMaker$TradeText", "selling", "Z", false)
  | 4 => ("PredictionMaker$TradeText", "number", "I", false)
  | 5 => ("PredictionMaker$TradeText", "market", "I", false)
  | _ => ("PredictionMaker$TradeText", "outcome", "I", false)
def tyX5 : Nat → FieldType := fun k => match k with
  | 0 => .array .char
  | 1 => .int
  | 2 => .int
  | 3 => .boolean
  | 4 => .int
  | 5 => .int
  | _ => .int
abbrev wsX50 : List Cond := u_ws RX5 TX5 7
theorem nmX5 : ∀ a, a < 7 → ∀ b, b < 7 → a ≠ b → (TX5 a).2.1 ≠ (TX5 b).2.1 := by decide +kernel
theorem tyX5_ok : ∀ k, k < 7 → parseFieldDescriptor (TX5 k).2.2.1 = some (tyX5 k) := by decide +kernel
abbrev cX5_init : ByteArray := prog_7_method_1_code
def yX5_init : MethodName := ⟨RX5, "<init>", "()V"⟩
abbrev cX5_add : ByteArray := prog_7_method_2_code
def yX5_add : MethodName := ⟨RX5, "add", "(CI)I"⟩
abbrev cX5_errorOffset : ByteArray := prog_7_method_3_code
def yX5_errorOffset : MethodName := ⟨RX5, "errorOffset", "()I"⟩
abbrev cX5_stepAfter : ByteArray := prog_7_method_4_code
def yX5_stepAfter : MethodName := ⟨RX5, "stepAfter", "(IC)I"⟩
abbrev cX5_readTrade : ByteArray := prog_7_method_5_code
def yX5_readTrade : MethodName := ⟨RX5, "readTrade", "(I)I"⟩
abbrev cX5_note : ByteArray := prog_7_method_6_code
def yX5_note : MethodName := ⟨RX5, "note", "(IC)V"⟩
def RX6 : String := "PredictionMaker"
def TX6 : u_T := fun k => match k with
  | 0 => ("PredictionMaker", "now", "LPredictionMaker$Exchange;", true)
  | 1 => ("PredictionMaker", "saved", "LPredictionMaker$Exchange;", true)
  | 2 => ("PredictionMaker", "text", "LPredictionMaker$TradeText;", true)
  | _ => ("PredictionMaker", "hasSnapshot", "Z", false)
def tyX6 : Nat → FieldType := fun k => match k with
  | 0 => .object "PredictionMaker$Exchange"
  | 1 => .object "PredictionMaker$Exchange"
  | 2 => .object "PredictionMaker$TradeText"
  | _ => .boolean
abbrev wsX60 : List Cond := u_ws RX6 TX6 4
theorem nmX6 : ∀ a, a < 4 → ∀ b, b < 4 → a ≠ b → (TX6 a).2.1 ≠ (TX6 b).2.1 := by decide +kernel
theorem tyX6_ok : ∀ k, k < 4 → parseFieldDescriptor (TX6 k).2.2.1 = some (tyX6 k) := by decide +kernel
abbrev cX6_init : ByteArray := prog_1_method_1_code
def yX6_init : MethodName := ⟨RX6, "<init>", "()V"⟩
abbrev cX6_openMarket : ByteArray := prog_1_method_2_code
def yX6_openMarket : MethodName := ⟨RX6, "openMarket", "(III)I"⟩
abbrev cX6_openLinked : ByteArray := prog_1_method_3_code
def yX6_openLinked : MethodName := ⟨RX6, "openLinked", "(IIIII)I"⟩
abbrev cX6_deposit : ByteArray := prog_1_method_4_code
def yX6_deposit : MethodName := ⟨RX6, "deposit", "(II)I"⟩
abbrev cX6_withdraw : ByteArray := prog_1_method_5_code
def yX6_withdraw : MethodName := ⟨RX6, "withdraw", "(II)I"⟩
abbrev cX6_cost : ByteArray := prog_1_method_6_code
def yX6_cost : MethodName := ⟨RX6, "cost", "(III)I"⟩
abbrev cX6_buy : ByteArray := prog_1_method_7_code
def yX6_buy : MethodName := ⟨RX6, "buy", "(IIII)I"⟩
abbrev cX6_buySet : ByteArray := prog_1_method_8_code
def yX6_buySet : MethodName := ⟨RX6, "buySet", "(IIII)I"⟩
abbrev cX6_sell : ByteArray := prog_1_method_9_code
def yX6_sell : MethodName := ⟨RX6, "sell", "(IIII)I"⟩
abbrev cX6_place : ByteArray := prog_1_method_10_code
def yX6_place : MethodName := ⟨RX6, "place", "(IIIII)I"⟩
abbrev cX6_cancel : ByteArray := prog_1_method_11_code
def yX6_cancel : MethodName := ⟨RX6, "cancel", "(I)I"⟩
abbrev cX6_order : ByteArray := prog_1_method_12_code
def yX6_order : MethodName := ⟨RX6, "order", "(II)I"⟩
abbrev cX6_waiting : ByteArray := prog_1_method_13_code
def yX6_waiting : MethodName := ⟨RX6, "waiting", "(II)I"⟩
abbrev cX6_tick : ByteArray := prog_1_method_14_code
def yX6_tick : MethodName := ⟨RX6, "tick", "(I)I"⟩
abbrev cX6_settle : ByteArray := prog_1_method_15_code
def yX6_settle : MethodName := ⟨RX6, "settle", "(II)I"⟩
abbrev cX6_cancelMarket : ByteArray := prog_1_method_16_code
def yX6_cancelMarket : MethodName := ⟨RX6, "cancelMarket", "(I)I"⟩
abbrev cX6_market : ByteArray := prog_1_method_17_code
def yX6_market : MethodName := ⟨RX6, "market", "(II)I"⟩
abbrev cX6_price : ByteArray := prog_1_method_18_code
def yX6_price : MethodName := ⟨RX6, "price", "(II)I"⟩
abbrev cX6_sharesFor : ByteArray := prog_1_method_19_code
def yX6_sharesFor : MethodName := ⟨RX6, "sharesFor", "(III)I"⟩
abbrev cX6_voidReason : ByteArray := prog_1_method_20_code
def yX6_voidReason : MethodName := ⟨RX6, "voidReason", "(II)I"⟩
abbrev cX6_shares : ByteArray := prog_1_method_21_code
def yX6_shares : MethodName := ⟨RX6, "shares", "(II)I"⟩
abbrev cX6_holding : ByteArray := prog_1_method_22_code
def yX6_holding : MethodName := ⟨RX6, "holding", "(III)I"⟩
abbrev cX6_trader : ByteArray := prog_1_method_23_code
def yX6_trader : MethodName := ⟨RX6, "trader", "(II)I"⟩
abbrev cX6_paid : ByteArray := prog_1_method_24_code
def yX6_paid : MethodName := ⟨RX6, "paid", "(II)I"⟩
abbrev cX6_affordable : ByteArray := prog_1_method_25_code
def yX6_affordable : MethodName := ⟨RX6, "affordable", "(III)I"⟩
abbrev cX6_history : ByteArray := prog_1_method_26_code
def yX6_history : MethodName := ⟨RX6, "history", "(II)I"⟩
abbrev cX6_count : ByteArray := prog_1_method_27_code
def yX6_count : MethodName := ⟨RX6, "count", "(I)I"⟩
abbrev cX6_append : ByteArray := prog_1_method_28_code
def yX6_append : MethodName := ⟨RX6, "append", "(II)I"⟩
abbrev cX6_trade : ByteArray := prog_1_method_29_code
def yX6_trade : MethodName := ⟨RX6, "trade", "()I"⟩
abbrev cX6_save : ByteArray := prog_1_method_30_code
def yX6_save : MethodName := ⟨RX6, "save", "()I"⟩
abbrev cX6_restore : ByteArray := prog_1_method_31_code
def yX6_restore : MethodName := ⟨RX6, "restore", "()I"⟩
abbrev cX6_canOpen : ByteArray := prog_1_method_32_code
def yX6_canOpen : MethodName := ⟨RX6, "canOpen", "(III)Z"⟩
abbrev cX6_isTrader : ByteArray := prog_1_method_33_code
def yX6_isTrader : MethodName := ⟨RX6, "isTrader", "(I)Z"⟩
abbrev cX6_isRefusal : ByteArray := prog_1_method_34_code
def yX6_isRefusal : MethodName := ⟨RX6, "isRefusal", "(I)Z"⟩
abbrev cX6_isIn : ByteArray := prog_1_method_35_code
def yX6_isIn : MethodName := ⟨RX6, "isIn", "(II)Z"⟩
abbrev cX6_isBetween : ByteArray := prog_1_method_36_code
def yX6_isBetween : MethodName := ⟨RX6, "isBetween", "(III)Z"⟩
def RX7 : String := "PredictionMakerModel"
def TX7 : u_T := fun k => match k with
  | 0 => ("PredictionMakerModel", "now", "[I", true)
  | 1 => ("PredictionMakerModel", "saved", "[I", true)
  | 2 => ("PredictionMakerModel", "isSaved", "Z", false)
  | 3 => ("PredictionMakerModel", "text", "[I", true)
  | 4 => ("PredictionMakerModel", "length", "I", false)
  | 5 => ("PredictionMakerModel", "at", "I", false)
  | _ => ("PredictionMakerModel", "voids", "I", false)
def tyX7 : Nat → FieldType := fun k => match k with
  | 0 => .array .int
  | 1 => .array .int
  | 2 => .boolean
  | 3 => .array .int
  | 4 => .int
  | 5 => .int
  | _ => .int
abbrev wsX70 : List Cond := u_ws RX7 TX7 7
theorem nmX7 : ∀ a, a < 7 → ∀ b, b < 7 → a ≠ b → (TX7 a).2.1 ≠ (TX7 b).2.1 := by decide +kernel
theorem tyX7_ok : ∀ k, k < 7 → parseFieldDescriptor (TX7 k).2.2.1 = some (tyX7 k) := by decide +kernel
abbrev cX7_init : ByteArray := prog_9_method_1_code
def yX7_init : MethodName := ⟨RX7, "<init>", "()V"⟩
abbrev cX7_in : ByteArray := prog_9_method_2_code
def yX7_in : MethodName := ⟨RX7, "in", "(III)Z"⟩
abbrev cX7_marketAt : ByteArray := prog_9_method_3_code
def yX7_marketAt : MethodName := ⟨RX7, "marketAt", "(I)I"⟩
abbrev cX7_orderAt : ByteArray := prog_9_method_4_code
def yX7_orderAt : MethodName := ⟨RX7, "orderAt", "(I)I"⟩
abbrev cX7_of : ByteArray := prog_9_method_5_code
def yX7_of : MethodName := ⟨RX7, "of", "(II)I"⟩
abbrev cX7_isMarket : ByteArray := prog_9_method_6_code
def yX7_isMarket : MethodName := ⟨RX7, "isMarket", "(I)Z"⟩
abbrev cX7_isOutcome : ByteArray := prog_9_method_7_code
def yX7_isOutcome : MethodName := ⟨RX7, "isOutcome", "(II)Z"⟩
abbrev cX7_isTrader : ByteArray := prog_9_method_8_code
def yX7_isTrader : MethodName := ⟨RX7, "isTrader", "(I)Z"⟩
abbrev cX7_isAhead : ByteArray := prog_9_method_9_code
def yX7_isAhead : MethodName := ⟨RX7, "isAhead", "(III)Z"⟩
abbrev cX7_ranked : ByteArray := prog_9_method_10_code
def yX7_ranked : MethodName := ⟨RX7, "ranked", "(II)I"⟩
abbrev cX7_active : ByteArray := prog_9_method_11_code
def yX7_active : MethodName := ⟨RX7, "active", "(I)I"⟩
abbrev cX7_level : ByteArray := prog_9_method_12_code
def yX7_level : MethodName := ⟨RX7, "level", "(I)I"⟩
abbrev cX7_priceOf : ByteArray := prog_9_method_13_code
def yX7_priceOf : MethodName := ⟨RX7, "priceOf", "(II)I"⟩
abbrev cX7_costOf : ByteArray := prog_9_method_14_code
def yX7_costOf : MethodName := ⟨RX7, "costOf", "(III)I"⟩
abbrev cX7_isFine : ByteArray := prog_9_method_15_code
def yX7_isFine : MethodName := ⟨RX7, "isFine", "(III)Z"⟩
abbrev cX7_opens : ByteArray := prog_9_method_16_code
def yX7_opens : MethodName := ⟨RX7, "opens", "(IIIII)I"⟩
abbrev cX7_openMarket : ByteArray := prog_9_method_17_code
def yX7_openMarket : MethodName := ⟨RX7, "openMarket", "(III)I"⟩
abbrev cX7_openLinked : ByteArray := prog_9_method_18_code
def yX7_openLinked : MethodName := ⟨RX7, "openLinked", "(IIIII)I"⟩
abbrev cX7_deposit : ByteArray := prog_9_method_19_code
def yX7_deposit : MethodName := ⟨RX7, "deposit", "(II)I"⟩
abbrev cX7_withdraw : ByteArray := prog_9_method_20_code
def yX7_withdraw : MethodName := ⟨RX7, "withdraw", "(II)I"⟩
abbrev cX7_cost : ByteArray := prog_9_method_21_code
def yX7_cost : MethodName := ⟨RX7, "cost", "(III)I"⟩
abbrev cX7_trades : ByteArray := prog_9_method_22_code
def yX7_trades : MethodName := ⟨RX7, "trades", "(IIIII)I"⟩
abbrev cX7_buy : ByteArray := prog_9_method_23_code
def yX7_buy : MethodName := ⟨RX7, "buy", "(IIII)I"⟩
abbrev cX7_has : ByteArray := prog_9_method_24_code
def yX7_has : MethodName := ⟨RX7, "has", "(II)Z"⟩
abbrev cX7_grows : ByteArray := prog_9_method_25_code
def yX7_grows : MethodName := ⟨RX7, "grows", "(III)V"⟩
abbrev cX7_buySet : ByteArray := prog_9_method_26_code
def yX7_buySet : MethodName := ⟨RX7, "buySet", "(IIII)I"⟩
abbrev cX7_sell : ByteArray := prog_9_method_27_code
def yX7_sell : MethodName := ⟨RX7, "sell", "(IIII)I"⟩
abbrev cX7_bar : ByteArray := prog_9_method_28_code
def yX7_bar : MethodName := ⟨RX7, "bar", "(I)I"⟩
abbrev cX7_isTriedAhead : ByteArray := prog_9_method_29_code
def yX7_isTriedAhead : MethodName := ⟨RX7, "isTriedAhead", "(II)Z"⟩
abbrev cX7_removes : ByteArray := prog_9_method_30_code
def yX7_removes : MethodName := ⟨RX7, "removes", "(I)V"⟩
abbrev cX7_executes : ByteArray := prog_9_method_31_code
def yX7_executes : MethodName := ⟨RX7, "executes", "(I)V"⟩
abbrev cX7_place : ByteArray := prog_9_method_32_code
def yX7_place : MethodName := ⟨RX7, "place", "(IIIII)I"⟩
abbrev cX7_find : ByteArray := prog_9_method_33_code
def yX7_find : MethodName := ⟨RX7, "find", "(I)I"⟩
abbrev cX7_cancel : ByteArray := prog_9_method_34_code
def yX7_cancel : MethodName := ⟨RX7, "cancel", "(I)I"⟩
abbrev cX7_order : ByteArray := prog_9_method_35_code
def yX7_order : MethodName := ⟨RX7, "order", "(II)I"⟩
abbrev cX7_waiting : ByteArray := prog_9_method_36_code
def yX7_waiting : MethodName := ⟨RX7, "waiting", "(II)I"⟩
abbrev cX7_cancelsAll : ByteArray := prog_9_method_37_code
def yX7_cancelsAll : MethodName := ⟨RX7, "cancelsAll", "(I)V"⟩
abbrev cX7_voids : ByteArray := prog_9_method_38_code
def yX7_voids : MethodName := ⟨RX7, "voids", "(II)V"⟩
abbrev cX7_earliest : ByteArray := prog_9_method_39_code
def yX7_earliest : MethodName := ⟨RX7, "earliest", "(II)I"⟩
abbrev cX7_ticks : ByteArray := prog_9_method_40_code
def yX7_ticks : MethodName := ⟨RX7, "ticks", "()V"⟩
abbrev cX7_tick : ByteArray := prog_9_method_41_code
def yX7_tick : MethodName := ⟨RX7, "tick", "(I)I"⟩
abbrev cX7_settle : ByteArray := prog_9_method_42_code
def yX7_settle : MethodName := ⟨RX7, "settle", "(II)I"⟩
abbrev cX7_cancelMarket : ByteArray := prog_9_method_43_code
def yX7_cancelMarket : MethodName := ⟨RX7, "cancelMarket", "(I)I"⟩
abbrev cX7_greatestShares : ByteArray := prog_9_method_44_code
def yX7_greatestShares : MethodName := ⟨RX7, "greatestShares", "(I)I"⟩
abbrev cX7_market : ByteArray := prog_9_method_45_code
def yX7_market : MethodName := ⟨RX7, "market", "(II)I"⟩
abbrev cX7_price : ByteArray := prog_9_method_46_code
def yX7_price : MethodName := ⟨RX7, "price", "(II)I"⟩
abbrev cX7_sharesFor : ByteArray := prog_9_method_47_code
def yX7_sharesFor : MethodName := ⟨RX7, "sharesFor", "(III)I"⟩
abbrev cX7_voidReason : ByteArray := prog_9_method_48_code
def yX7_voidReason : MethodName := ⟨RX7, "voidReason", "(II)I"⟩
abbrev cX7_shares : ByteArray := prog_9_method_49_code
def yX7_shares : MethodName := ⟨RX7, "shares", "(II)I"⟩
abbrev cX7_holding : ByteArray := prog_9_method_50_code
def yX7_holding : MethodName := ⟨RX7, "holding", "(III)I"⟩
abbrev cX7_worth : ByteArray := prog_9_method_51_code
def yX7_worth : MethodName := ⟨RX7, "worth", "(IIZ)I"⟩
abbrev cX7_trader : ByteArray := prog_9_method_52_code
def yX7_trader : MethodName := ⟨RX7, "trader", "(II)I"⟩
abbrev cX7_paid : ByteArray := prog_9_method_53_code
def yX7_paid : MethodName := ⟨RX7, "paid", "(II)I"⟩
abbrev cX7_affordable : ByteArray := prog_9_method_54_code
def yX7_affordable : MethodName := ⟨RX7, "affordable", "(III)I"⟩
abbrev cX7_history : ByteArray := prog_9_method_55_code
def yX7_history : MethodName := ⟨RX7, "history", "(II)I"⟩
abbrev cX7_count : ByteArray := prog_9_method_56_code
def yX7_count : MethodName := ⟨RX7, "count", "(I)I"⟩
abbrev cX7_append : ByteArray := prog_9_method_57_code
def yX7_append : MethodName := ⟨RX7, "append", "(II)I"⟩
abbrev cX7_takes : ByteArray := prog_9_method_58_code
def yX7_takes : MethodName := ⟨RX7, "takes", "(II)Z"⟩
abbrev cX7_isTrade : ByteArray := prog_9_method_59_code
def yX7_isTrade : MethodName := ⟨RX7, "isTrade", "()Z"⟩
abbrev cX7_does : ByteArray := prog_9_method_60_code
def yX7_does : MethodName := ⟨RX7, "does", "(I)Z"⟩
abbrev cX7_trade : ByteArray := prog_9_method_61_code
def yX7_trade : MethodName := ⟨RX7, "trade", "()I"⟩
abbrev cX7_save : ByteArray := prog_9_method_62_code
def yX7_save : MethodName := ⟨RX7, "save", "()I"⟩
abbrev cX7_restore : ByteArray := prog_9_method_63_code
def yX7_restore : MethodName := ⟨RX7, "restore", "()I"⟩
def RJ9 : String := "java/lang/Math"
def TJ9 : u_T := fun k => match k with
  | _ => ("", "", "", false)
def tyJ9 : Nat → FieldType := fun k => match k with
  | _ => .int
abbrev wsJ90 : List Cond := u_ws RJ9 TJ9 0
theorem nmJ9 : ∀ a, a < 0 → ∀ b, b < 0 → a ≠ b → (TJ9 a).2.1 ≠ (TJ9 b).2.1 := by decide +kernel
theorem tyJ9_ok : ∀ k, k < 0 → parseFieldDescriptor (TJ9 k).2.2.1 = some (tyJ9 k) := by decide +kernel
abbrev cJ9_floorMod_7cf53 : ByteArray := prog_10_method_50_code
def yJ9_floorMod_7cf53 : MethodName := ⟨RJ9, "floorMod", "(II)I"⟩
abbrev cJ9_max_7cf53 : ByteArray := prog_10_method_65_code
def yJ9_max_7cf53 : MethodName := ⟨RJ9, "max", "(II)I"⟩
abbrev cJ9_min_7cf53 : ByteArray := prog_10_method_69_code
def yJ9_min_7cf53 : MethodName := ⟨RJ9, "min", "(II)I"⟩
def RJ10 : String := "java/lang/System"
def TJ10 : u_T := fun k => match k with
  | _ => ("", "", "", false)
def tyJ10 : Nat → FieldType := fun k => match k with
  | _ => .int
abbrev wsJ100 : List Cond := u_ws RJ10 TJ10 0
theorem nmJ10 : ∀ a, a < 0 → ∀ b, b < 0 → a ≠ b → (TJ10 a).2.1 ≠ (TJ10 b).2.1 := by decide +kernel
theorem tyJ10_ok : ∀ k, k < 0 → parseFieldDescriptor (TJ10 k).2.2.1 = some (tyJ10 k) := by decide +kernel
def RL : String := "PredictionMakerLaw"
abbrev cL_law : ByteArray := code
def yL_law : MethodName := ⟨RL, "law", "([I)Z"⟩
abbrev vwCl : List vw_C := [(RX0, TX0, 3), (RX1, TX1, 6), (RX2, TX2, 2), (RX3, TX3, 16), (RX4, TX4, 6), (RX5, TX5, 7), (RX6, TX6, 4), (RX7, TX7, 7)]
end
section
/-! the table of methods, of fields, of constants, of calls: made by wip/whole/gen.py -/
abbrev ai_M : Type := MethodName × ByteArray × Nat × Option FieldType × Nat
def ai_mt0 : List ai_M := [(yX0_init, cX0_init, 2, none, 2), (yX0_copyFrom, cX0_copyFrom, 3, none, 0), (yX0_insert, cX0_insert, 8, (some .int), 0), (yX0_positionOf, cX0_positionOf, 3, (some .int), 0), (yX0_remove, cX0_remove, 4, none, 0), (yX0_removeAll, cX0_removeAll, 3, none, 0), (yX0_openOf, cX0_openOf, 4, (some .int), 0), (yX1_init, cX1_init, 2, none, 2), (yX1_copyFrom, cX1_copyFrom, 3, none, 0), (yX1_marketAt, cX1_marketAt, 2, (some (.object "PredictionMaker$Market")), 0), (yX1_marketWith, cX1_marketWith, 4, (some (.object "PredictionMaker$Market")), 0), (yX1_addMarket, cX1_addMarket, 7, (some .int), 0), (yX1_exchange, cX1_exchange, 7, (some .int), 0), (yX1_exchangeSet, cX1_exchangeSet, 6, none, 0), (yX1_executeAllOrders, cX1_executeAllOrders, 2, none, 0), (yX1_executeOrders, cX1_executeOrders, 5, none, 0), (yX1_firstExecutable, cX1_firstExecutable, 5, (some .int), 0), (yX1_obstacleOf, cX1_obstacleOf, 4, (some .int), 0), (yX1_obstacle, cX1_obstacle, 4, (some .int), 0), (yX1_passTick, cX1_passTick, 3, none, 0)]
def ai_mt1 : List ai_M := [(yX1_waitsForCondition, cX1_waitsForCondition, 3, (some .boolean), 0), (yX1_payWinners, cX1_payWinners, 6, (some .int), 0), (yX1_makeVoid, cX1_makeVoid, 4, none, 0), (yX1_voidFollowers, cX1_voidFollowers, 5, (some .int), 0), (yX1_reasonByCondition, cX1_reasonByCondition, 3, (some .int), 0), (yX1_worthOf, cX1_worthOf, 4, (some .int), 0), (yX1_mostCoinsOf, cX1_mostCoinsOf, 4, (some .int), 0), (yX1_openMarkets, cX1_openMarkets, 3, (some .int), 0), (yX1_sumOfBalances, cX1_sumOfBalances, 3, (some .int), 0), (yX1_sumOfAccounts, cX1_sumOfAccounts, 3, (some .int), 0), (yX2_init, cX2_init, 1, none, 2), (yX2_copyFrom, cX2_copyFrom, 3, none, 0), (yX2_add, cX2_add, 8, none, 0), (yX2_keeps, cX2_keeps, 2, (some .boolean), 0), (yX2_partOf, cX2_partOf, 3, (some .int), 0), (yX3_init, cX3_init, 2, none, 2), (yX3_copyFrom, cX3_copyFrom, 3, none, 0), (yX3_isLive, cX3_isLive, 1, (some .boolean), 0), (yX3_property, cX3_property, 2, (some .int), 0), (yX3_lossBound, cX3_lossBound, 1, (some .int), 0)]
def ai_mt2 : List ai_M := [(yX3_mostShares, cX3_mostShares, 3, (some .int), 0), (yX3_measure, cX3_measure, 4, none, 0), (yX3_level, cX3_level, 2, (some .int), 0), (yX3_costOf, cX3_costOf, 5, (some .int), 0), (yX3_costOfSet, cX3_costOfSet, 5, (some .int), 0), (yX3_addSet, cX3_addSet, 4, none, 0), (yX3_priceWith, cX3_priceWith, 4, (some .int), 0), (yX3_canHave, cX3_canHave, 3, (some .boolean), 0), (yX3_canHaveSet, cX3_canHaveSet, 4, (some .boolean), 0), (yX3_hasSet, cX3_hasSet, 2, (some .boolean), 0), (yX3_worthOf, cX3_worthOf, 4, (some .int), 0), (yX3_mostHeldBy, cX3_mostHeldBy, 4, (some .int), 0), (yX4_init, cX4_init, 1, none, 2), (yX4_copyFrom, cX4_copyFrom, 2, none, 0), (yX5_init, cX5_init, 1, none, 2), (yX5_add, cX5_add, 4, (some .int), 0), (yX5_errorOffset, cX5_errorOffset, 3, (some .int), 0), (yX5_stepAfter, cX5_stepAfter, 2, (some .int), 1), (yX5_readTrade, cX5_readTrade, 4, (some .int), 0), (yX5_note, cX5_note, 4, none, 0)]
def ai_mt3 : List ai_M := [(yX6_init, cX6_init, 1, none, 2), (yX6_openMarket, cX6_openMarket, 4, (some .int), 0), (yX6_openLinked, cX6_openLinked, 7, (some .int), 0), (yX6_deposit, cX6_deposit, 4, (some .int), 0), (yX6_withdraw, cX6_withdraw, 3, (some .int), 0), (yX6_cost, cX6_cost, 5, (some .int), 0), (yX6_buy, cX6_buy, 7, (some .int), 0), (yX6_buySet, cX6_buySet, 7, (some .int), 0), (yX6_sell, cX6_sell, 7, (some .int), 0), (yX6_place, cX6_place, 8, (some .int), 0), (yX6_cancel, cX6_cancel, 4, (some .int), 0), (yX6_order, cX6_order, 5, (some .int), 0), (yX6_waiting, cX6_waiting, 6, (some .int), 0), (yX6_tick, cX6_tick, 3, (some .int), 0), (yX6_settle, cX6_settle, 5, (some .int), 0), (yX6_cancelMarket, cX6_cancelMarket, 3, (some .int), 0), (yX6_market, cX6_market, 4, (some .int), 0), (yX6_price, cX6_price, 4, (some .int), 0), (yX6_sharesFor, cX6_sharesFor, 6, (some .int), 0), (yX6_voidReason, cX6_voidReason, 6, (some .int), 0)]
def ai_mt4 : List ai_M := [(yX6_shares, cX6_shares, 4, (some .int), 0), (yX6_holding, cX6_holding, 5, (some .int), 0), (yX6_trader, cX6_trader, 3, (some .int), 0), (yX6_paid, cX6_paid, 4, (some .int), 0), (yX6_affordable, cX6_affordable, 7, (some .int), 0), (yX6_history, cX6_history, 3, (some .int), 0), (yX6_count, cX6_count, 2, (some .int), 0), (yX6_append, cX6_append, 3, (some .int), 0), (yX6_trade, cX6_trade, 6, (some .int), 0), (yX6_save, cX6_save, 1, (some .int), 0), (yX6_restore, cX6_restore, 1, (some .int), 0), (yX6_canOpen, cX6_canOpen, 4, (some .boolean), 0), (yX6_isTrader, cX6_isTrader, 1, (some .boolean), 1), (yX6_isRefusal, cX6_isRefusal, 1, (some .boolean), 1), (yX6_isIn, cX6_isIn, 2, (some .boolean), 1), (yX6_isBetween, cX6_isBetween, 3, (some .boolean), 1), (yX7_init, cX7_init, 1, none, 2), (yX7_in, cX7_in, 3, (some .boolean), 1), (yX7_marketAt, cX7_marketAt, 1, (some .int), 1), (yX7_orderAt, cX7_orderAt, 1, (some .int), 1)]
def ai_mt5 : List ai_M := [(yX7_of, cX7_of, 3, (some .int), 0), (yX7_isMarket, cX7_isMarket, 2, (some .boolean), 0), (yX7_isOutcome, cX7_isOutcome, 3, (some .boolean), 0), (yX7_isTrader, cX7_isTrader, 1, (some .boolean), 1), (yX7_isAhead, cX7_isAhead, 5, (some .boolean), 0), (yX7_ranked, cX7_ranked, 6, (some .int), 0), (yX7_active, cX7_active, 4, (some .int), 0), (yX7_level, cX7_level, 7, (some .int), 0), (yX7_priceOf, cX7_priceOf, 8, (some .int), 0), (yX7_costOf, cX7_costOf, 6, (some .int), 0), (yX7_isFine, cX7_isFine, 4, (some .boolean), 0), (yX7_opens, cX7_opens, 8, (some .int), 0), (yX7_openMarket, cX7_openMarket, 4, (some .int), 0), (yX7_openLinked, cX7_openLinked, 6, (some .int), 0), (yX7_deposit, cX7_deposit, 5, (some .int), 0), (yX7_withdraw, cX7_withdraw, 3, (some .int), 0), (yX7_cost, cX7_cost, 4, (some .int), 0), (yX7_trades, cX7_trades, 8, (some .int), 0), (yX7_buy, cX7_buy, 6, (some .int), 0), (yX7_has, cX7_has, 3, (some .boolean), 0)]
def ai_mt6 : List ai_M := [(yX7_grows, cX7_grows, 5, none, 0), (yX7_buySet, cX7_buySet, 7, (some .int), 0), (yX7_sell, cX7_sell, 6, (some .int), 0), (yX7_bar, cX7_bar, 5, (some .int), 0), (yX7_isTriedAhead, cX7_isTriedAhead, 4, (some .boolean), 0), (yX7_removes, cX7_removes, 3, none, 0), (yX7_executes, cX7_executes, 5, none, 0), (yX7_place, cX7_place, 8, (some .int), 0), (yX7_find, cX7_find, 4, (some .int), 0), (yX7_cancel, cX7_cancel, 4, (some .int), 0), (yX7_order, cX7_order, 4, (some .int), 0), (yX7_waiting, cX7_waiting, 6, (some .int), 0), (yX7_cancelsAll, cX7_cancelsAll, 3, none, 0), (yX7_voids, cX7_voids, 4, none, 0), (yX7_earliest, cX7_earliest, 5, (some .int), 0), (yX7_ticks, cX7_ticks, 2, none, 0), (yX7_tick, cX7_tick, 3, (some .int), 0), (yX7_settle, cX7_settle, 6, (some .int), 0), (yX7_cancelMarket, cX7_cancelMarket, 2, (some .int), 0), (yX7_greatestShares, cX7_greatestShares, 2, (some .int), 0)]
def ai_mt7 : List ai_M := [(yX7_market, cX7_market, 3, (some .int), 0), (yX7_price, cX7_price, 3, (some .int), 0), (yX7_sharesFor, cX7_sharesFor, 7, (some .int), 0), (yX7_voidReason, cX7_voidReason, 5, (some .int), 0), (yX7_shares, cX7_shares, 3, (some .int), 0), (yX7_holding, cX7_holding, 4, (some .int), 0), (yX7_worth, cX7_worth, 8, (some .int), 0), (yX7_trader, cX7_trader, 5, (some .int), 0), (yX7_paid, cX7_paid, 3, (some .int), 0), (yX7_affordable, cX7_affordable, 6, (some .int), 0), (yX7_history, cX7_history, 3, (some .int), 0), (yX7_count, cX7_count, 4, (some .int), 0), (yX7_append, cX7_append, 4, (some .int), 0), (yX7_takes, cX7_takes, 3, (some .boolean), 0), (yX7_isTrade, cX7_isTrade, 1, (some .boolean), 0), (yX7_does, cX7_does, 7, (some .boolean), 0), (yX7_trade, cX7_trade, 7, (some .int), 0), (yX7_save, cX7_save, 2, (some .int), 0), (yX7_restore, cX7_restore, 2, (some .int), 0), (yJ9_floorMod_7cf53, cJ9_floorMod_7cf53, 3, (some .int), 1)]
def ai_mt8 : List ai_M := [(yJ9_max_7cf53, cJ9_max_7cf53, 2, (some .int), 1), (yJ9_min_7cf53, cJ9_min_7cf53, 2, (some .int), 1), (⟨RL, "law", "([I)Z"⟩, code, 4, some .boolean, 1)]
def ai_mt : List ai_M := ai_mt0 ++ (ai_mt1 ++ (ai_mt2 ++ (ai_mt3 ++ (ai_mt4 ++ (ai_mt5 ++ (ai_mt6 ++ (ai_mt7 ++ (ai_mt8))))))))
def ai_ft : List (String × Nat × Nat × Nat) := [("PredictionMaker$Market", 9, 3, 0), ("PredictionMaker$Exchange", 81, 3, 0), ("PredictionMaker$Market", 15, 3, 1), ("PredictionMaker$Exchange", 98, 3, 1), ("PredictionMaker", 187, 3, 1), ("PredictionMaker$Market", 21, 3, 2), ("PredictionMaker$Exchange", 94, 3, 2), ("PredictionMaker", 101, 3, 2), ("PredictionMaker$Market", 24, 3, 3), ("PredictionMaker$Exchange", 91, 3, 3), ("PredictionMaker", 199, 3, 3), ("PredictionMaker$Market", 27, 3, 4), ("PredictionMaker$Exchange", 69, 3, 4), ("PredictionMaker$Market", 45, 3, 5), ("PredictionMaker$Exchange", 65, 3, 5), ("PredictionMaker$Market", 48, 3, 6), ("PredictionMaker$Exchange", 72, 3, 6), ("PredictionMaker$Market", 30, 3, 7), ("PredictionMaker$Exchange", 75, 3, 7), ("PredictionMaker", 184, 3, 7), ("PredictionMaker$Market", 33, 3, 8), ("PredictionMaker$Exchange", 78, 3, 8), ("PredictionMaker$Market", 51, 3, 9), ("PredictionMaker", 72, 3, 9), ("PredictionMaker$Exchange", 157, 3, 9), ("PredictionMaker$Market", 36, 3, 10), ("PredictionMaker$Exchange", 171, 3, 10), ("PredictionMaker$Market", 54, 3, 11), ("PredictionMaker$Exchange", 174, 3, 11), ("PredictionMaker", 181, 3, 11), ("PredictionMaker$Market", 57, 3, 12), ("PredictionMaker$Exchange", 88, 3, 12), ("PredictionMaker$Market", 70, 3, 13), ("PredictionMaker$Market", 83, 3, 14), ("PredictionMaker$Market", 86, 3, 15), ("PredictionMaker$Order", 7, 4, 0), ("PredictionMaker$Book", 33, 4, 0), ("PredictionMaker$Exchange", 132, 4, 0), ("PredictionMaker", 150, 4, 0), ("PredictionMaker$Order", 13, 4, 1), ("PredictionMaker$Book", 36, 4, 1), ("PredictionMaker$Exchange", 124, 4, 1), ("PredictionMaker", 131, 4, 1), ("PredictionMaker$Order", 16, 4, 2), ("PredictionMaker$Book", 39, 4, 2), ("PredictionMaker$Exchange", 142, 4, 2), ("PredictionMaker", 134, 4, 2), ("PredictionMaker$Order", 19, 4, 3), ("PredictionMaker$Book", 42, 4, 3), ("PredictionMaker$Exchange", 129, 4, 3), ("PredictionMaker", 137, 4, 3), ("PredictionMaker$Order", 22, 4, 4), ("PredictionMaker$Book", 45, 4, 4), ("PredictionMaker$Exchange", 133, 4, 4), ("PredictionMaker", 122, 4, 4), ("PredictionMaker$Order", 25, 4, 5), ("PredictionMaker$Book", 30, 4, 5), ("PredictionMaker$Exchange", 154, 4, 5), ("PredictionMaker", 140, 4, 5), ("PredictionMaker$Book", 11, 0, 0), ("PredictionMaker$Exchange", 120, 0, 0), ("PredictionMaker", 118, 0, 0), ("PredictionMaker$Book", 22, 0, 1), ("PredictionMaker$Exchange", 139, 0, 1), ("PredictionMaker", 147, 0, 1), ("PredictionMaker$Book", 26, 0, 2), ("PredictionMaker$History", 11, 2, 0), ("PredictionMaker$History", 22, 2, 1), ("PredictionMaker", 220, 2, 1), ("PredictionMaker$Exchange", 9, 1, 0), ("PredictionMaker", 54, 1, 0), ("PredictionMaker$Exchange", 17, 1, 1), ("PredictionMaker$Exchange", 27, 1, 2), ("PredictionMaker", 105, 1, 2), ("PredictionMaker$Exchange", 34, 1, 3), ("PredictionMaker", 202, 1, 3), ("PredictionMaker$Exchange", 54, 1, 4), ("PredictionMaker", 214, 1, 4), ("PredictionMaker$Exchange", 58, 1, 5), ("PredictionMaker", 156, 1, 5), ("PredictionMaker$TradeText", 9, 5, 0), ("PredictionMaker$TradeText", 15, 5, 1), ("PredictionMaker", 223, 5, 1), ("PredictionMaker$TradeText", 38, 5, 2), ("PredictionMaker", 246, 5, 2), ("PredictionMaker$TradeText", 41, 5, 3), ("PredictionMaker", 242, 5, 3), ("PredictionMaker$TradeText", 45, 5, 4), ("PredictionMaker", 249, 5, 4), ("PredictionMaker$TradeText", 48, 5, 5), ("PredictionMaker", 247, 5, 5), ("PredictionMaker$TradeText", 51, 5, 6), ("PredictionMaker", 248, 5, 6), ("PredictionMaker", 10, 6, 0), ("PredictionMaker", 16, 6, 1), ("PredictionMaker", 22, 6, 2), ("PredictionMaker", 264, 6, 3), ("PredictionMakerModel", 9, 7, 0), ("PredictionMakerModel", 13, 7, 1), ("PredictionMakerModel", 157, 7, 2), ("PredictionMakerModel", 16, 7, 3), ("PredictionMakerModel", 134, 7, 4), ("PredictionMakerModel", 137, 7, 5), ("PredictionMakerModel", 108, 7, 6)]
def ai_ct : List (String × Nat × Int32) := [("PredictionMaker", 30, -1000000002), ("PredictionMaker$Exchange", 68, -1000000003), ("PredictionMaker", 39, -1000000001), ("PredictionMaker", 46, -1000000004), ("PredictionMaker", 58, 5000000), ("PredictionMaker", 59, -1000000003), ("PredictionMaker", 63, -1000000005), ("PredictionMaker$Book", 29, -1000000003), ("PredictionMaker$Exchange", 153, -1000000001), ("PredictionMaker$Market", 76, -1000000002), ("PredictionMaker$TradeText", 19, -1000000003), ("PredictionMakerModel", 47, -1000000003), ("PredictionMakerModel", 55, -1000000002), ("PredictionMakerModel", 60, -1000000001), ("PredictionMakerModel", 61, -1000000004), ("PredictionMakerModel", 65, 5000000), ("PredictionMakerModel", 70, -1000000005)]
def ai_lt : List (String × Nat × Nat) := [("PredictionMakerLaw", 9, 60), ("PredictionMaker", 9, 7), ("PredictionMaker$Exchange", 21, 35), ("PredictionMaker$Exchange", 26, 0), ("PredictionMaker$Exchange", 33, 30), ("PredictionMaker", 21, 54), ("PredictionMakerLaw", 13, 61), ("PredictionMaker", 26, 91), ("PredictionMaker", 51, 95), ("PredictionMaker", 31, 11), ("PredictionMakerLaw", 18, 62), ("PredictionMaker", 35, 10), ("PredictionMaker$Exchange", 61, 9), ("PredictionMaker", 40, 37), ("PredictionMakerLaw", 23, 63), ("PredictionMaker", 47, 92), ("PredictionMaker", 60, 14), ("PredictionMaker$Exchange", 113, 15), ("PredictionMaker$Exchange", 116, 16), ("PredictionMaker$Exchange", 84, 43), ("PredictionMaker$Market", 64, 42), ("PredictionMaker$Market", 67, 41), ("PredictionMaker$Exchange", 145, 18), ("PredictionMaker$Exchange", 109, 12), ("PredictionMaker$Exchange", 101, 32), ("PredictionMaker$History", 26, 159), ("PredictionMaker$Exchange", 136, 4), ("PredictionMakerLaw", 28, 64), ("PredictionMakerLaw", 32, 65), ("PredictionMaker", 64, 47), ("PredictionMaker", 68, 43), ("PredictionMakerLaw", 36, 66), ("PredictionMaker", 76, 12), ("PredictionMaker", 80, 15), ("PredictionMakerLaw", 41, 67), ("PredictionMaker", 84, 9), ("PredictionMaker", 88, 49), ("PredictionMaker", 91, 48), ("PredictionMaker$Market", 101, 47), ("PredictionMaker", 94, 44), ("PredictionMaker$Market", 89, 45), ("PredictionMaker", 97, 13), ("PredictionMakerLaw", 45, 68), ("PredictionMakerLaw", 49, 69), ("PredictionMaker", 109, 2), ("PredictionMakerLaw", 53, 70), ("PredictionMaker", 114, 3), ("PredictionMaker", 127, 4), ("PredictionMakerLaw", 58, 71), ("PredictionMaker", 143, 17), ("PredictionMaker$Exchange", 149, 10), ("PredictionMakerLaw", 62, 72), ("PredictionMakerLaw", 66, 73), ("PredictionMaker", 153, 19), ("PredictionMaker$Exchange", 160, 5), ("PredictionMaker$Book", 48, 4), ("PredictionMaker$Exchange", 163, 22), ("PredictionMaker$Exchange", 167, 23), ("PredictionMaker$Exchange", 177, 37), ("PredictionMaker$Exchange", 181, 24), ("PredictionMakerLaw", 70, 74), ("PredictionMaker", 159, 20), ("PredictionMaker", 163, 21), ("PredictionMaker", 167, 23), ("PredictionMakerLaw", 74, 75), ("PredictionMaker", 171, 22), ("PredictionMakerLaw", 78, 76), ("PredictionMaker", 175, 38), ("PredictionMaker$Market", 60, 39), ("PredictionMaker$Market", 73, 40), ("PredictionMaker$Market", 77, 160), ("PredictionMakerLaw", 82, 77), ("PredictionMaker", 178, 46), ("PredictionMakerLaw", 86, 78), ("PredictionMakerLaw", 90, 79), ("PredictionMakerLaw", 94, 80), ("PredictionMakerLaw", 98, 81), ("PredictionMakerLaw", 102, 82), ("PredictionMaker", 190, 25), ("PredictionMaker$Exchange", 184, 50), ("PredictionMaker$Market", 104, 46), ("PredictionMaker", 193, 6), ("PredictionMaker", 196, 26), ("PredictionMaker$Exchange", 188, 51), ("PredictionMakerLaw", 106, 83), ("PredictionMakerLaw", 110, 84), ("PredictionMakerLaw", 114, 85), ("PredictionMaker", 206, 33), ("PredictionMaker", 211, 34), ("PredictionMakerLaw", 118, 86), ("PredictionMaker", 217, 27), ("PredictionMaker", 226, 28), ("PredictionMaker", 229, 29), ("PredictionMakerLaw", 122, 87), ("PredictionMaker", 232, 55), ("PredictionMakerLaw", 126, 88), ("PredictionMaker", 236, 56), ("PredictionMaker$TradeText", 20, 57), ("PredictionMaker", 239, 58), ("PredictionMaker$TradeText", 28, 160), ("PredictionMaker$TradeText", 34, 59), ("PredictionMaker", 250, 68), ("PredictionMaker", 254, 66), ("PredictionMaker", 257, 93), ("PredictionMakerLaw", 131, 89), ("PredictionMaker", 260, 8), ("PredictionMaker$Exchange", 44, 36), ("PredictionMaker$Exchange", 48, 1), ("PredictionMaker$Book", 18, 53), ("PredictionMaker$Exchange", 51, 31), ("PredictionMakerLaw", 135, 90), ("PredictionMakerLaw", 12, 96), ("PredictionMakerLaw", 17, 112), ("PredictionMakerModel", 48, 110), ("PredictionMakerModel", 23, 97), ("PredictionMakerModel", 51, 111), ("PredictionMakerModel", 19, 98), ("PredictionMakerLaw", 22, 113), ("PredictionMakerModel", 56, 102), ("PredictionMakerModel", 27, 101), ("PredictionMakerModel", 31, 100), ("PredictionMakerLaw", 27, 114), ("PredictionMakerModel", 62, 103), ("PredictionMakerModel", 66, 126), ("PredictionMakerModel", 90, 99), ("PredictionMakerModel", 93, 124), ("PredictionMakerModel", 96, 123), ("PredictionMakerModel", 71, 109), ("PredictionMakerModel", 44, 107), ("PredictionMakerModel", 41, 106), ("PredictionMakerModel", 38, 105), ("PredictionMakerModel", 35, 104), ("PredictionMakerModel", 80, 117), ("PredictionMakerModel", 75, 161), ("PredictionMakerModel", 99, 125), ("PredictionMakerLaw", 31, 115), ("PredictionMakerLaw", 35, 116), ("PredictionMakerLaw", 40, 118), ("PredictionMakerLaw", 44, 121), ("PredictionMakerModel", 83, 119), ("PredictionMakerModel", 86, 120), ("PredictionMakerLaw", 48, 122), ("PredictionMakerLaw", 52, 127), ("PredictionMakerLaw", 57, 129), ("PredictionMakerModel", 102, 128), ("PredictionMakerLaw", 61, 130), ("PredictionMakerLaw", 65, 131), ("PredictionMakerLaw", 69, 136), ("PredictionMakerModel", 118, 135), ("PredictionMakerModel", 115, 134), ("PredictionMakerModel", 105, 132), ("PredictionMakerModel", 112, 133), ("PredictionMakerLaw", 73, 137), ("PredictionMakerLaw", 77, 138), ("PredictionMakerLaw", 81, 140), ("PredictionMakerModel", 121, 139), ("PredictionMakerLaw", 85, 141), ("PredictionMakerModel", 124, 108), ("PredictionMakerLaw", 89, 142), ("PredictionMakerLaw", 93, 143), ("PredictionMakerLaw", 97, 144), ("PredictionMakerLaw", 101, 145), ("PredictionMakerLaw", 105, 147), ("PredictionMakerModel", 130, 146), ("PredictionMakerModel", 127, 160), ("PredictionMakerLaw", 109, 148), ("PredictionMakerLaw", 113, 149), ("PredictionMakerLaw", 117, 150), ("PredictionMakerLaw", 121, 151), ("PredictionMakerLaw", 125, 152), ("PredictionMakerLaw", 130, 156), ("PredictionMakerModel", 150, 154), ("PredictionMakerModel", 140, 153), ("PredictionMakerModel", 154, 155), ("PredictionMakerModel", 143, 118), ("PredictionMakerModel", 147, 122), ("PredictionMakerLaw", 134, 157), ("PredictionMakerLaw", 138, 158)]
def ai_nt : List (String × Nat × Nat) := [("PredictionMaker$Book", 17, 52), ("PredictionMaker$Market", 97, 95), ("PredictionMaker$Market", 93, 94), ("PredictionMaker$Exchange", 105, 94), ("PredictionMaker$TradeText", 24, 95)]
def ai_ot : List (String × Nat) := [("PredictionMaker", 1), ("PredictionMaker$Exchange", 3), ("PredictionMaker$Market", 3), ("PredictionMaker$Book", 3), ("PredictionMaker$Order", 1), ("PredictionMaker$History", 3), ("PredictionMaker$TradeText", 3), ("PredictionMakerModel", 3)]
def ai_pt : List (String × Nat) := [("PredictionMaker$Exchange", 38), ("PredictionMaker$Market", 39), ("PredictionMaker$History", 16)]
def ai_kt : List (String × Nat × Nat) := [("PredictionMakerLaw", 7, 6), ("PredictionMaker", 7, 1), ("PredictionMaker$Exchange", 15, 3), ("PredictionMaker$Market", 19, 12), ("PredictionMaker$Exchange", 24, 0), ("PredictionMaker$Book", 9, 4), ("PredictionMaker$Exchange", 31, 2), ("PredictionMaker$History", 9, 12), ("PredictionMaker", 19, 5), ("PredictionMakerLaw", 10, 7)]
def ai_rt : List (List Bool) := [[true, false, false], [true, true, true, true, false, false], [true, false], [false, true, true, true, false, false, false, false, false, false, false, false, false, false, false, false], [false, false, false, false, false, false], [true, false, false, false, false, false, false], [true, true, true, false], [true, true, false, true, false, false, false]]
/-! THE SMALL MACHINE: the instructions that this program has, over a heap of cells by number: kinds and lengths; whole numbers; references (0: null, b + 1: the cell b) -/
abbrev ai_H : Type := List (Nat × Nat) × (Nat → Nat → Int32) × (Nat → Nat → Nat)
abbrev ai_R : Type := Nat × Nat × Nat × Int32 × List Nat × Nat
abbrev ai_X : Type := Nat × (Nat → Int32)
abbrev ai_O : Type := (Nat × List Value × List Value × ai_H) ⊕ (Option Value ⊕ (Nat × List Value × List Value))
def ai_find3 (l : List (String × Nat × Nat)) (own : String) (i : Nat) : Option Nat := (l.find? (fun q => q.2.1 == i && q.1 == own)).map (·.2.2)
def ai_fld (own : String) (i : Nat) : Option (Nat × Nat) := (ai_ft.find? (fun q => q.2.1 == i && q.1 == own)).map (·.2.2)
def ai_con (own : String) (i : Nat) : Option Int32 := (ai_ct.find? (fun q => q.2.1 == i && q.1 == own)).map (·.2.2)
def ai_call (own : String) (i : Nat) : Option Nat := ai_find3 ai_lt own i
def ai_ncall (own : String) (i : Nat) : Option Nat := ai_find3 ai_nt own i
def ai_kls (own : String) (i : Nat) : Option Nat := ai_find3 ai_kt own i
def ai_isref (k j : Nat) : Bool := ((ai_rt[k]?).bind (·[j]?)).getD false
def ai_bool (k j : Nat) : Bool := ((vwCl[k]?).map (fun q => (q.2.1 j).2.2.1 == "Z")).getD false
def ai_g (c : Bool) (r : ai_R) : Option ai_R := if c then some r else none
def ai_t (pc : Nat) (off : Int) : Option Nat := if 0 ≤ (pc : Int) + off then some ((pc : Int) + off).toNat else none
def ai_ts (pc : Nat) : List Int → Option (List Nat)
  | [] => some []
  | o :: os => (ai_t pc o).bind fun t => (ai_ts pc os).map (t :: ·)
def ai_cc : ClassFile.Cond → Nat
  | .eq => 0 | .ne => 1 | .lt => 2 | .ge => 3 | .gt => 4 | .le => 5
def ai_cno (c : String) : Nat := (vwCl.findIdx (fun q => q.1 == c))
def ai_nargs (y : MethodName) : Nat := ((parseMethodDescriptor y.desc).map (fun d => d.parameters.length)).getD 0
/-- a call of the method g: its kind tells how -/
def ai_inv (g pc k : Nat) : Option ai_R :=
  (ai_mt[g]?).bind fun q => if q.2.2.2.2 = k then (if k = 1 then some (37, g, ai_nargs q.1, 0, [], pc + 3) else some (37 + (if k = 0 then 1 else 2), g, ai_nargs q.1 + 1, 0, [ai_cno q.1.cls], pc + 3)) else none
def ai_final (k j : Nat) : Bool := ((vwCl[k]?).map (fun q => (q.2.1 j).2.2.2)).getD true
def ai_own (k : Nat) : String := ((vwCl[k]?).map (·.1)).getD ""
def ai_res (y : MethodName) (ret : Option FieldType) (pc : Nat) (i : Instr) (len : Nat) : Option ai_R :=
  match i with
  | .iconst n => ai_g (len == 1) (0, 0, 0, Int32.ofInt n, [], pc + 1)
  | .bipush n => ai_g (len == 2) (0, 0, 0, (Int8.ofInt n).toInt32, [], pc + 2)
  | .sipush n => ai_g (len == 3) (0, 0, 0, (Int16.ofInt n).toInt32, [], pc + 3)
  | .ldc n => (ai_con y.cls n).bind fun v => ai_g (len == 2) (0, 0, 0, v, [], pc + 2)
  | .iload_n k => ai_g (len == 1) (1, k.val, 0, 0, [], pc + 1)
  | .iload k => ai_g (len == 2) (1, k, 0, 0, [], pc + 2)
  | .aload_n k => ai_g (len == 1) (2, k.val, 0, 0, [], pc + 1)
  | .aload k => ai_g (len == 2) (2, k, 0, 0, [], pc + 2)
  | .istore_n k => ai_g (len == 1) (3, k.val, 0, 0, [], pc + 1)
  | .istore k => ai_g (len == 2) (3, k, 0, 0, [], pc + 2)
  | .astore_n k => ai_g (len == 1) (4, k.val, 0, 0, [], pc + 1)
  | .astore k => ai_g (len == 2) (4, k, 0, 0, [], pc + 2)
  | .iinc k n => ai_g (len == 3) (5, k, 0, Int32.ofInt n, [], pc + 3)
  | .iadd => ai_g (len == 1) (6, 0, 0, 0, [], pc + 1)
  | .isub => ai_g (len == 1) (6, 0, 1, 0, [], pc + 1)
  | .imul => ai_g (len == 1) (6, 0, 2, 0, [], pc + 1)
  | .iand => ai_g (len == 1) (6, 0, 3, 0, [], pc + 1)
  | .ishl => ai_g (len == 1) (6, 0, 4, 0, [], pc + 1)
  | .ishr => ai_g (len == 1) (6, 0, 5, 0, [], pc + 1)
  | .ixor => ai_g (len == 1) (6, 0, 6, 0, [], pc + 1)
  | .idiv => ai_g (len == 1) (7, 0, 0, 0, [], pc + 1)
  | .irem => ai_g (len == 1) (8, 0, 0, 0, [], pc + 1)
  | .ineg => ai_g (len == 1) (9, 0, 0, 0, [], pc + 1)
  | .i2c => ai_g (len == 1) (10, 0, 0, 0, [], pc + 1)
  | .dup => ai_g (len == 1) (11, 0, 0, 0, [], pc + 1)
  | .dup_x1 => ai_g (len == 1) (12, 0, 0, 0, [], pc + 1)
  | .dup_x2 => ai_g (len == 1) (13, 0, 0, 0, [], pc + 1)
  | .dup2 => ai_g (len == 1) (14, 0, 0, 0, [], pc + 1)
  | .pop => ai_g (len == 1) (15, 0, 0, 0, [], pc + 1)
  | .goto o => (ai_t pc o).bind fun t => ai_g (len == 3) (16, t, 0, 0, [], pc + 3)
  | .if_icmp c o => (ai_t pc o).bind fun t => ai_g (len == 3) (17, t, ai_cc c, 0, [], pc + 3)
  | .ifCond c o => (ai_t pc o).bind fun t => ai_g (len == 3) (18, t, ai_cc c, 0, [], pc + 3)
  | .ifnull o => (ai_t pc o).bind fun t => ai_g (len == 3) (19, t, 0, 0, [], pc + 3)
  | .ifnonnull o => (ai_t pc o).bind fun t => ai_g (len == 3) (20, t, 0, 0, [], pc + 3)
  | .aconst_null => ai_g (len == 1) (21, 0, 0, 0, [], pc + 1)
  | .getfield n => (ai_fld y.cls n).bind fun q => ai_g (len == 3) (if ai_isref q.1 q.2 then 23 else 22, q.1, q.2, 0, [], pc + 3)
  | .putfield n => (ai_fld y.cls n).bind fun q => ai_g (len == 3 && (!(ai_final q.1 q.2) || (y.name == "<init>" && y.cls == ai_own q.1))) (if ai_isref q.1 q.2 then 25 else 24, q.1, q.2, 0, [], pc + 3)
  | .iaload => ai_g (len == 1) (26, 0, 0, 0, [], pc + 1)
  | .caload => ai_g (len == 1) (27, 0, 0, 0, [], pc + 1)
  | .aaload => ai_g (len == 1) (28, 0, 0, 0, [], pc + 1)
  | .iastore => ai_g (len == 1) (29, 0, 0, 0, [], pc + 1)
  | .castore => ai_g (len == 1) (30, 0, 0, 0, [], pc + 1)
  | .aastore => ai_g (len == 1) (31, 0, 0, 0, [], pc + 1)
  | .arraylength => ai_g (len == 1) (32, 0, 0, 0, [], pc + 1)
  | .new n => (ai_kls y.cls n).bind fun k => (vwCl[k]?).bind fun q => ai_g (len == 3) (33, k, q.2.2, 0, [], pc + 3)
  | .newarray t => if t = .int then ai_g (len == 2) (34, 9, 0, 0, [], pc + 2) else if t = .char then ai_g (len == 2) (34, 8, 0, 0, [], pc + 2) else none
  | .anewarray n => (ai_kls y.cls n).bind fun k => if k = 3 then ai_g (len == 3) (35, 10, 3, 0, [], pc + 3) else if k = 4 then ai_g (len == 3) (35, 11, 4, 0, [], pc + 3) else none
  | .multianewarray n d => (ai_kls y.cls n).bind fun k => ai_g (len == 4 && d == 2 && k == 12) (36, 0, 0, 0, [], pc + 4)
  | .invokestatic n => if ai_pt.contains (y.cls, n) then ai_g (len == 3) (41, 0, 0, 0, [], pc + 3) else if len = 3 then (match ai_call y.cls n with
      | some g => ai_inv g pc 1
      | none => (ai_ncall y.cls n).bind fun g => ai_inv g pc 1) else none
  | .invokevirtual n => if len = 3 then (ai_call y.cls n).bind fun g => ai_inv g pc 0 else none
  | .invokespecial n => if ai_ot.contains (y.cls, n) then ai_g (len == 3) (40, 0, 0, 0, [], pc + 3) else if len = 3 then (match ai_call y.cls n with
      | some g => ai_inv g pc 2
      | none => (ai_ncall y.cls n).bind fun g => ai_inv g pc 2) else none
  | .ireturn => if ret = some .int then ai_g (len == 1) (42, 0, 0, 0, [], pc + 1) else if ret = some .boolean then ai_g (len == 1) (42, 1, 0, 0, [], pc + 1) else none
  | .areturn => if ret = some (.object RX3) then ai_g (len == 1) (42, 2, 0, 0, [], pc + 1) else none
  | .return_ => if ret = none then ai_g (len == 1) (43, 0, 0, 0, [], pc + 1) else none
  | .tableswitch df lo hi os => (ai_t pc df).bind fun t => (ai_ts pc os.toList).bind fun ts => ai_g (hi == lo + (os.toList.length : Int) - 1 && (Int32.ofInt lo).toInt == lo) (44, t, 0, Int32.ofInt lo, ts, pc + len)
  | _ => none
def ai_fetch (f pc : Nat) : Option ai_R :=
  (ai_mt[f]?).bind fun q => match decode q.2.1 pc with
    | .ok (i, len) => ai_res q.1 q.2.2.2.1 pc i len
    | .error _ => none
end
section
/-! what the tables say of the words that the small machine needs: by their places in lw_tbl (made by wip/whole/gen3.py) -/
def ai_ty (q : vw_C) (k : Nat) : FieldType := (parseFieldDescriptor (q.2.1 k).2.2.1).getD .int
def ai_lw (e : String × Nat × Nat) : List Cond := match ai_mt[e.2.2]? with
  | some (y, _, _, _, k) => (match k with
    | 0 => [.methodLink e.1 e.2.1 y, .instanceMethod y, .selects y.cls y y]
    | 1 => [.methodLink e.1 e.2.1 y, .static y]
    | _ => [.methodLink e.1 e.2.1 y, .instanceMethod y])
  | none => []
def ai_nw (e : String × Nat × Nat) : List Cond := match ai_mt[e.2.2]? with
  | some (y, _, _, _, k) => (match k with
    | 0 => []
    | 1 => [.static y]
    | _ => [.instanceMethod y])
  | none => []
def ai_nl (e : String × Nat × Nat) : List Cond := match ai_mt[e.2.2]? with
  | some (y, _, _, _, _) => [.methodLinkNest e.1 e.2.1 y "PredictionMaker"]
  | none => []
def ai_mw (q : ai_M) : List Cond := [.code q.1 q.2.1 q.2.2.1 q.2.2.2.1]
def ai_fw (e : String × Nat × Nat × Nat) : List Cond := match vwCl[e.2.2.1]? with
  | some q => [.fieldLink e.1 e.2.1 q.1 (q.2.1 e.2.2.2).2.1 (q.2.1 e.2.2.2).2.2.1]
  | none => []
def ai_kw (e : String × Nat × Nat) : List Cond := match vwCl[e.2.2]? with
  | some q => [.classLink e.1 e.2.1 q.1]
  | none => [.classLink e.1 e.2.1 "[[I"]
def ai_cw (q : vw_C) : List Cond := u_ws q.1 q.2.1 q.2.2 ++ [.instantiable q.1 q.2.2, .initialized q.1]
def ai_misc : List Cond := [.instanceMethod objectInit, .code objectInit ⟨#[0xb1]⟩ 1 none, .native arraycopyName, .static arraycopyName, .initialized "java/lang/System", .initialized RJ9, .initialized RL, .arrayClass .int, .arrayClass .char]
def ai_over : List Cond := [.arrayOver (.object RX3), .arrayOver (.object RX4), .arrayOver (.array .int)]
set_option maxRecDepth 100000 in
theorem ai_lw_pl : ai_lt.flatMap ai_lw = [51, 52, 59, 60, 66, 67, 143, 144, 207, 208, 246, 247, 292, 293, 294, 296, 298, 0, 300, 301, 304, 305, 306, 309, 310, 311, 313, 314, 315, 317, 318, 319, 322, 323, 324, 327, 328, 329, 331, 332, 336, 337, 338, 340, 341, 342, 344, 346, 1, 348, 349, 350, 352, 354, 2, 356, 358, 3, 360, 362, 4, 364, 365, 366, 368, 369, 370, 372, 373, 375, 376, 377, 379, 380, 381, 384, 385, 386, 388, 389, 390, 393, 349, 350, 394, 395, 396, 398, 365, 366, 399, 341, 342, 400, 401, 402, 404, 318, 319, 405, 406, 407, 409, 410, 411, 416, 389, 390, 417, 418, 419, 421, 423, 5, 425, 426, 427, 430, 431, 432, 434, 435, 436, 438, 439, 440, 443, 444, 445, 447, 448, 449, 451, 376, 377, 452, 453, 454, 456, 457, 458, 460, 314, 315, 462, 463, 464, 466, 467, 468, 470, 471, 472, 474, 475, 476, 478, 376, 377, 479, 480, 481, 483, 484, 485, 487, 323, 324, 488, 490, 6, 492, 493, 494, 496, 497, 498, 500, 501, 502, 504, 484, 485, 505, 506, 507, 509, 480, 481, 510, 511, 512, 514, 515, 516, 518, 520, 7, 522, 524, 8, 526, 527, 530, 531, 532, 534, 535, 536, 538, 539, 540, 542, 543, 544, 546, 547, 548, 550, 551, 552, 554, 555, 556, 558, 559, 560, 562, 563, 564, 566, 535, 536, 567, 568, 569, 571, 572, 573, 575, 576, 577, 579, 580, 581, 583, 584, 585, 587, 588, 589, 591, 592, 593, 595, 596, 597, 599, 600, 601, 603, 604, 605, 607, 608, 609, 611, 612, 613, 615, 616, 617, 619, 620, 621, 624, 625, 626, 628, 629, 630, 632, 633, 636, 637, 638, 640, 527, 641, 643, 9, 645, 431, 432, 646, 395, 396, 647, 648, 650, 651, 652, 654, 655, 656, 661, 662, 663, 666, 667, 668, 670, 671, 672, 674, 675, 676, 679, 680, 681, 685, 686, 711, 712, 713, 715, 717, 10, 719, 720, 722, 724, 11, 727, 728, 731, 732, 733, 735, 737, 12, 739, 741, 13, 743, 745, 14, 749, 750, 751, 753, 754, 757, 759, 15, 761, 762, 764, 766, 16, 768, 770, 17, 772, 774, 18, 776, 778, 19, 780, 782, 20, 784, 786, 21, 788, 790, 22, 792, 794, 23, 796, 797, 799, 801, 24, 803, 804, 805, 808, 809, 810, 812, 813, 814, 816, 817, 818, 820, 822, 25, 824, 826, 26, 828, 829, 830, 832, 833, 834, 836, 837, 838, 840, 842, 27, 844, 845, 846, 848, 849, 850, 852, 853, 854, 856, 858, 28, 860, 862, 29, 864, 866, 30, 868, 870, 31, 872, 873, 874, 876, 877, 878, 880, 881, 882, 884, 886, 32, 888, 889, 890, 892, 894, 33, 896, 897, 898, 900, 901, 902, 904, 905, 906, 908, 909, 910, 912, 913, 914, 916, 918, 34, 920, 527, 921, 922, 923, 925, 926, 927, 929, 930, 931, 933, 934, 935, 937, 938, 939, 941, 942, 943, 945, 947, 35, 949, 951, 36, 953, 955, 37, 957, 813, 814, 958, 829, 830, 959, 960, 961, 963, 964, 965].filterMap (fun i => lw_tbl[i]?) := by decide +kernel
set_option maxRecDepth 100000 in
theorem ai_lw_gd : (ai_lt.flatMap ai_lw).all goodWord = true := by decide +kernel
set_option maxRecDepth 100000 in
theorem ai_nw_pl : ai_nt.flatMap ai_nw = [151, 301, 414, 414, 301].filterMap (fun i => lw_tbl[i]?) := by decide +kernel
set_option maxRecDepth 100000 in
theorem ai_nw_gd : (ai_nt.flatMap ai_nw).all goodWord = true := by decide +kernel
set_option maxRecDepth 100000 in
theorem ai_fw_pl : ai_ft.flatMap ai_fw = [72, 73, 74, 75, 76, 77, 78, 79, 80, 81, 82, 83, 84, 85, 86, 87, 88, 89, 90, 91, 92, 93, 94, 95, 96, 97, 98, 99, 100, 101, 102, 103, 104, 105, 106, 154, 155, 156, 157, 158, 159, 160, 161, 162, 163, 164, 165, 166, 167, 168, 169, 170, 171, 172, 173, 174, 175, 176, 177, 191, 192, 193, 194, 195, 196, 197, 212, 213, 214, 220, 221, 222, 223, 224, 225, 226, 227, 228, 229, 230, 250, 251, 252, 253, 254, 255, 256, 257, 258, 259, 260, 261, 262, 279, 280, 281, 282, 689, 690, 691, 692, 693, 694, 695].filterMap (fun i => lw_tbl[i]?) := by decide +kernel
set_option maxRecDepth 100000 in
theorem ai_fw_gd : (ai_ft.flatMap ai_fw).all goodWord = true := by decide +kernel
set_option maxRecDepth 100000 in
theorem ai_kw_pl : ai_kt.flatMap ai_kw = [49, 57, 63, 70, 141, 147, 205, 211, 244, 683].filterMap (fun i => lw_tbl[i]?) := by decide +kernel
set_option maxRecDepth 100000 in
theorem ai_kw_gd : (ai_kt.flatMap ai_kw).all goodWord = true := by decide +kernel
set_option maxRecDepth 100000 in
theorem ai_cw_pl : vwCl.flatMap ai_cw = [198, 200, 202, 142, 42, 231, 233, 235, 237, 239, 241, 58, 40, 215, 217, 206, 44, 107, 109, 111, 113, 115, 117, 119, 121, 123, 125, 127, 129, 131, 133, 135, 137, 65, 41, 178, 180, 182, 184, 186, 188, 149, 43, 263, 265, 267, 269, 271, 273, 275, 245, 45, 283, 285, 287, 289, 50, 39, 696, 698, 700, 702, 704, 706, 708, 684, 46].filterMap (fun i => lw_tbl[i]?) := by decide +kernel
set_option maxRecDepth 100000 in
theorem ai_cw_gd : (vwCl.flatMap ai_cw).all goodWord = true := by decide +kernel
set_option maxRecDepth 100000 in
theorem ai_con_pl : ai_ct.flatMap (fun e => [Cond.constant e.1 e.2.1 e.2.2]) = [303, 308, 321, 326, 334, 335, 383, 442, 461, 529, 623, 726, 730, 747, 748, 756, 807].filterMap (fun i => lw_tbl[i]?) := by decide +kernel
set_option maxRecDepth 100000 in
theorem ai_con_gd : (ai_ct.flatMap (fun e => [Cond.constant e.1 e.2.1 e.2.2])).all goodWord = true := by decide +kernel
set_option maxRecDepth 100000 in
theorem ai_ot_pl : ai_ot.flatMap (fun e => [Cond.methodLink e.1 e.2 objectInit]) = [54, 62, 69, 146, 153, 210, 249, 688].filterMap (fun i => lw_tbl[i]?) := by decide +kernel
set_option maxRecDepth 100000 in
theorem ai_ot_gd : (ai_ot.flatMap (fun e => [Cond.methodLink e.1 e.2 objectInit])).all goodWord = true := by decide +kernel
set_option maxRecDepth 100000 in
theorem ai_pt_pl : ai_pt.flatMap (fun e => [Cond.methodLink e.1 e.2 arraycopyName]) = [658, 665, 678].filterMap (fun i => lw_tbl[i]?) := by decide +kernel
set_option maxRecDepth 100000 in
theorem ai_pt_gd : (ai_pt.flatMap (fun e => [Cond.methodLink e.1 e.2 arraycopyName])).all goodWord = true := by decide +kernel
set_option maxRecDepth 100000 in
theorem ai_misc_pl : ai_misc = [55, 56, 660, 659, 48, 47, 38, 140, 278].filterMap (fun i => lw_tbl[i]?) := by decide +kernel
set_option maxRecDepth 100000 in
theorem ai_misc_gd : (ai_misc).all goodWord = true := by decide +kernel
set_option maxRecDepth 100000 in
theorem ai_nl_pl : ai_nt.flatMap ai_nl = [150, 392, 413, 429, 635].filterMap (fun i => lw_tbl[i]?) := by decide +kernel
set_option maxRecDepth 100000 in
theorem ai_over_pl : ai_over = [64, 148, 71].filterMap (fun i => lw_tbl[i]?) := by decide +kernel
set_option maxRecDepth 100000 in
theorem ai_mw0 : lw_tbl[145]? = some (Cond.code yX0_init cX0_init 2 none) := rfl
set_option maxRecDepth 100000 in
theorem ai_mw1 : lw_tbl[669]? = some (Cond.code yX0_copyFrom cX0_copyFrom 3 none) := rfl
set_option maxRecDepth 100000 in
theorem ai_mw2 : lw_tbl[441]? = some (Cond.code yX0_insert cX0_insert 8 (some .int)) := rfl
set_option maxRecDepth 100000 in
theorem ai_mw3 : lw_tbl[450]? = some (Cond.code yX0_positionOf cX0_positionOf 3 (some .int)) := rfl
set_option maxRecDepth 100000 in
theorem ai_mw4 : lw_tbl[378]? = some (Cond.code yX0_remove cX0_remove 4 none) := rfl
set_option maxRecDepth 100000 in
theorem ai_mw5 : lw_tbl[477]? = some (Cond.code yX0_removeAll cX0_removeAll 3 none) := rfl
set_option maxRecDepth 100000 in
theorem ai_mw6 : lw_tbl[570]? = some (Cond.code yX0_openOf cX0_openOf 4 (some .int)) := rfl
set_option maxRecDepth 100000 in
theorem ai_mw7 : lw_tbl[61]? = some (Cond.code yX1_init cX1_init 2 none) := rfl
set_option maxRecDepth 100000 in
theorem ai_mw8 : lw_tbl[657]? = some (Cond.code yX1_copyFrom cX1_copyFrom 3 none) := rfl
set_option maxRecDepth 100000 in
theorem ai_mw9 : lw_tbl[320]? = some (Cond.code yX1_marketAt cX1_marketAt 2 (some (.object "PredictionMaker$Market"))) := rfl
set_option maxRecDepth 100000 in
theorem ai_mw10 : lw_tbl[316]? = some (Cond.code yX1_marketWith cX1_marketWith 4 (some (.object "PredictionMaker$Market"))) := rfl
set_option maxRecDepth 100000 in
theorem ai_mw11 : lw_tbl[307]? = some (Cond.code yX1_addMarket cX1_addMarket 7 (some .int)) := rfl
set_option maxRecDepth 100000 in
theorem ai_mw12 : lw_tbl[367]? = some (Cond.code yX1_exchange cX1_exchange 7 (some .int)) := rfl
set_option maxRecDepth 100000 in
theorem ai_mw13 : lw_tbl[428]? = some (Cond.code yX1_exchangeSet cX1_exchangeSet 6 none) := rfl
set_option maxRecDepth 100000 in
theorem ai_mw14 : lw_tbl[339]? = some (Cond.code yX1_executeAllOrders cX1_executeAllOrders 2 none) := rfl
set_option maxRecDepth 100000 in
theorem ai_mw15 : lw_tbl[343]? = some (Cond.code yX1_executeOrders cX1_executeOrders 5 none) := rfl
set_option maxRecDepth 100000 in
theorem ai_mw16 : lw_tbl[347]? = some (Cond.code yX1_firstExecutable cX1_firstExecutable 5 (some .int)) := rfl
set_option maxRecDepth 100000 in
theorem ai_mw17 : lw_tbl[459]? = some (Cond.code yX1_obstacleOf cX1_obstacleOf 4 (some .int)) := rfl
set_option maxRecDepth 100000 in
theorem ai_mw18 : lw_tbl[363]? = some (Cond.code yX1_obstacle cX1_obstacle 4 (some .int)) := rfl
set_option maxRecDepth 100000 in
theorem ai_mw19 : lw_tbl[473]? = some (Cond.code yX1_passTick cX1_passTick 3 none) := rfl
set_option maxRecDepth 100000 in
theorem ai_mw20 : lw_tbl[499]? = some (Cond.code yX1_waitsForCondition cX1_waitsForCondition 3 (some .boolean)) := rfl
set_option maxRecDepth 100000 in
theorem ai_mw21 : lw_tbl[503]? = some (Cond.code yX1_payWinners cX1_payWinners 6 (some .int)) := rfl
set_option maxRecDepth 100000 in
theorem ai_mw22 : lw_tbl[482]? = some (Cond.code yX1_makeVoid cX1_makeVoid 4 none) := rfl
set_option maxRecDepth 100000 in
theorem ai_mw23 : lw_tbl[486]? = some (Cond.code yX1_voidFollowers cX1_voidFollowers 5 (some .int)) := rfl
set_option maxRecDepth 100000 in
theorem ai_mw24 : lw_tbl[491]? = some (Cond.code yX1_reasonByCondition cX1_reasonByCondition 3 (some .int)) := rfl
set_option maxRecDepth 100000 in
theorem ai_mw25 : lw_tbl[561]? = some (Cond.code yX1_worthOf cX1_worthOf 4 (some .int)) := rfl
set_option maxRecDepth 100000 in
theorem ai_mw26 : lw_tbl[574]? = some (Cond.code yX1_mostCoinsOf cX1_mostCoinsOf 4 (some .int)) := rfl
set_option maxRecDepth 100000 in
theorem ai_mw27 : lw_tbl[606]? = some (Cond.code yX1_openMarkets cX1_openMarkets 3 (some .int)) := rfl
set_option maxRecDepth 100000 in
theorem ai_mw28 : lw_tbl[610]? = some (Cond.code yX1_sumOfBalances cX1_sumOfBalances 3 (some .int)) := rfl
set_option maxRecDepth 100000 in
theorem ai_mw29 : lw_tbl[614]? = some (Cond.code yX1_sumOfAccounts cX1_sumOfAccounts 3 (some .int)) := rfl
set_option maxRecDepth 100000 in
theorem ai_mw30 : lw_tbl[209]? = some (Cond.code yX2_init cX2_init 1 none) := rfl
set_option maxRecDepth 100000 in
theorem ai_mw31 : lw_tbl[677]? = some (Cond.code yX2_copyFrom cX2_copyFrom 3 none) := rfl
set_option maxRecDepth 100000 in
theorem ai_mw32 : lw_tbl[371]? = some (Cond.code yX2_add cX2_add 8 none) := rfl
set_option maxRecDepth 100000 in
theorem ai_mw33 : lw_tbl[594]? = some (Cond.code yX2_keeps cX2_keeps 2 (some .boolean)) := rfl
set_option maxRecDepth 100000 in
theorem ai_mw34 : lw_tbl[598]? = some (Cond.code yX2_partOf cX2_partOf 3 (some .int)) := rfl
set_option maxRecDepth 100000 in
theorem ai_mw35 : lw_tbl[68]? = some (Cond.code yX3_init cX3_init 2 none) := rfl
set_option maxRecDepth 100000 in
theorem ai_mw36 : lw_tbl[664]? = some (Cond.code yX3_copyFrom cX3_copyFrom 3 none) := rfl
set_option maxRecDepth 100000 in
theorem ai_mw37 : lw_tbl[325]? = some (Cond.code yX3_isLive cX3_isLive 1 (some .boolean)) := rfl
set_option maxRecDepth 100000 in
theorem ai_mw38 : lw_tbl[517]? = some (Cond.code yX3_property cX3_property 2 (some .int)) := rfl
set_option maxRecDepth 100000 in
theorem ai_mw39 : lw_tbl[521]? = some (Cond.code yX3_lossBound cX3_lossBound 1 (some .int)) := rfl
set_option maxRecDepth 100000 in
theorem ai_mw40 : lw_tbl[525]? = some (Cond.code yX3_mostShares cX3_mostShares 3 (some .int)) := rfl
set_option maxRecDepth 100000 in
theorem ai_mw41 : lw_tbl[359]? = some (Cond.code yX3_measure cX3_measure 4 none) := rfl
set_option maxRecDepth 100000 in
theorem ai_mw42 : lw_tbl[355]? = some (Cond.code yX3_level cX3_level 2 (some .int)) := rfl
set_option maxRecDepth 100000 in
theorem ai_mw43 : lw_tbl[351]? = some (Cond.code yX3_costOf cX3_costOf 5 (some .int)) := rfl
set_option maxRecDepth 100000 in
theorem ai_mw44 : lw_tbl[420]? = some (Cond.code yX3_costOfSet cX3_costOfSet 5 (some .int)) := rfl
set_option maxRecDepth 100000 in
theorem ai_mw45 : lw_tbl[424]? = some (Cond.code yX3_addSet cX3_addSet 4 none) := rfl
set_option maxRecDepth 100000 in
theorem ai_mw46 : lw_tbl[537]? = some (Cond.code yX3_priceWith cX3_priceWith 4 (some .int)) := rfl
set_option maxRecDepth 100000 in
theorem ai_mw47 : lw_tbl[391]? = some (Cond.code yX3_canHave cX3_canHave 3 (some .boolean)) := rfl
set_option maxRecDepth 100000 in
theorem ai_mw48 : lw_tbl[412]? = some (Cond.code yX3_canHaveSet cX3_canHaveSet 4 (some .boolean)) := rfl
set_option maxRecDepth 100000 in
theorem ai_mw49 : lw_tbl[408]? = some (Cond.code yX3_hasSet cX3_hasSet 2 (some .boolean)) := rfl
set_option maxRecDepth 100000 in
theorem ai_mw50 : lw_tbl[565]? = some (Cond.code yX3_worthOf cX3_worthOf 4 (some .int)) := rfl
set_option maxRecDepth 100000 in
theorem ai_mw51 : lw_tbl[578]? = some (Cond.code yX3_mostHeldBy cX3_mostHeldBy 4 (some .int)) := rfl
set_option maxRecDepth 100000 in
theorem ai_mw52 : lw_tbl[152]? = some (Cond.code yX4_init cX4_init 1 none) := rfl
set_option maxRecDepth 100000 in
theorem ai_mw53 : lw_tbl[673]? = some (Cond.code yX4_copyFrom cX4_copyFrom 2 none) := rfl
set_option maxRecDepth 100000 in
theorem ai_mw54 : lw_tbl[248]? = some (Cond.code yX5_init cX5_init 1 none) := rfl
set_option maxRecDepth 100000 in
theorem ai_mw55 : lw_tbl[622]? = some (Cond.code yX5_add cX5_add 4 (some .int)) := rfl
set_option maxRecDepth 100000 in
theorem ai_mw56 : lw_tbl[631]? = some (Cond.code yX5_errorOffset cX5_errorOffset 3 (some .int)) := rfl
set_option maxRecDepth 100000 in
theorem ai_mw57 : lw_tbl[634]? = some (Cond.code yX5_stepAfter cX5_stepAfter 2 (some .int)) := rfl
set_option maxRecDepth 100000 in
theorem ai_mw58 : lw_tbl[639]? = some (Cond.code yX5_readTrade cX5_readTrade 4 (some .int)) := rfl
set_option maxRecDepth 100000 in
theorem ai_mw59 : lw_tbl[644]? = some (Cond.code yX5_note cX5_note 4 none) := rfl
set_option maxRecDepth 100000 in
theorem ai_mw60 : lw_tbl[53]? = some (Cond.code yX6_init cX6_init 1 none) := rfl
set_option maxRecDepth 100000 in
theorem ai_mw61 : lw_tbl[295]? = some (Cond.code yX6_openMarket cX6_openMarket 4 (some .int)) := rfl
set_option maxRecDepth 100000 in
theorem ai_mw62 : lw_tbl[312]? = some (Cond.code yX6_openLinked cX6_openLinked 7 (some .int)) := rfl
set_option maxRecDepth 100000 in
theorem ai_mw63 : lw_tbl[330]? = some (Cond.code yX6_deposit cX6_deposit 4 (some .int)) := rfl
set_option maxRecDepth 100000 in
theorem ai_mw64 : lw_tbl[382]? = some (Cond.code yX6_withdraw cX6_withdraw 3 (some .int)) := rfl
set_option maxRecDepth 100000 in
theorem ai_mw65 : lw_tbl[387]? = some (Cond.code yX6_cost cX6_cost 5 (some .int)) := rfl
set_option maxRecDepth 100000 in
theorem ai_mw66 : lw_tbl[397]? = some (Cond.code yX6_buy cX6_buy 7 (some .int)) := rfl
set_option maxRecDepth 100000 in
theorem ai_mw67 : lw_tbl[403]? = some (Cond.code yX6_buySet cX6_buySet 7 (some .int)) := rfl
set_option maxRecDepth 100000 in
theorem ai_mw68 : lw_tbl[433]? = some (Cond.code yX6_sell cX6_sell 7 (some .int)) := rfl
set_option maxRecDepth 100000 in
theorem ai_mw69 : lw_tbl[437]? = some (Cond.code yX6_place cX6_place 8 (some .int)) := rfl
set_option maxRecDepth 100000 in
theorem ai_mw70 : lw_tbl[446]? = some (Cond.code yX6_cancel cX6_cancel 4 (some .int)) := rfl
set_option maxRecDepth 100000 in
theorem ai_mw71 : lw_tbl[455]? = some (Cond.code yX6_order cX6_order 5 (some .int)) := rfl
set_option maxRecDepth 100000 in
theorem ai_mw72 : lw_tbl[465]? = some (Cond.code yX6_waiting cX6_waiting 6 (some .int)) := rfl
set_option maxRecDepth 100000 in
theorem ai_mw73 : lw_tbl[469]? = some (Cond.code yX6_tick cX6_tick 3 (some .int)) := rfl
set_option maxRecDepth 100000 in
theorem ai_mw74 : lw_tbl[495]? = some (Cond.code yX6_settle cX6_settle 5 (some .int)) := rfl
set_option maxRecDepth 100000 in
theorem ai_mw75 : lw_tbl[508]? = some (Cond.code yX6_cancelMarket cX6_cancelMarket 3 (some .int)) := rfl
set_option maxRecDepth 100000 in
theorem ai_mw76 : lw_tbl[513]? = some (Cond.code yX6_market cX6_market 4 (some .int)) := rfl
set_option maxRecDepth 100000 in
theorem ai_mw77 : lw_tbl[533]? = some (Cond.code yX6_price cX6_price 4 (some .int)) := rfl
set_option maxRecDepth 100000 in
theorem ai_mw78 : lw_tbl[541]? = some (Cond.code yX6_sharesFor cX6_sharesFor 6 (some .int)) := rfl
set_option maxRecDepth 100000 in
theorem ai_mw79 : lw_tbl[545]? = some (Cond.code yX6_voidReason cX6_voidReason 6 (some .int)) := rfl
set_option maxRecDepth 100000 in
theorem ai_mw80 : lw_tbl[549]? = some (Cond.code yX6_shares cX6_shares 4 (some .int)) := rfl
set_option maxRecDepth 100000 in
theorem ai_mw81 : lw_tbl[553]? = some (Cond.code yX6_holding cX6_holding 5 (some .int)) := rfl
set_option maxRecDepth 100000 in
theorem ai_mw82 : lw_tbl[557]? = some (Cond.code yX6_trader cX6_trader 3 (some .int)) := rfl
set_option maxRecDepth 100000 in
theorem ai_mw83 : lw_tbl[582]? = some (Cond.code yX6_paid cX6_paid 4 (some .int)) := rfl
set_option maxRecDepth 100000 in
theorem ai_mw84 : lw_tbl[586]? = some (Cond.code yX6_affordable cX6_affordable 7 (some .int)) := rfl
set_option maxRecDepth 100000 in
theorem ai_mw85 : lw_tbl[590]? = some (Cond.code yX6_history cX6_history 3 (some .int)) := rfl
set_option maxRecDepth 100000 in
theorem ai_mw86 : lw_tbl[602]? = some (Cond.code yX6_count cX6_count 2 (some .int)) := rfl
set_option maxRecDepth 100000 in
theorem ai_mw87 : lw_tbl[618]? = some (Cond.code yX6_append cX6_append 3 (some .int)) := rfl
set_option maxRecDepth 100000 in
theorem ai_mw88 : lw_tbl[627]? = some (Cond.code yX6_trade cX6_trade 6 (some .int)) := rfl
set_option maxRecDepth 100000 in
theorem ai_mw89 : lw_tbl[653]? = some (Cond.code yX6_save cX6_save 1 (some .int)) := rfl
set_option maxRecDepth 100000 in
theorem ai_mw90 : lw_tbl[682]? = some (Cond.code yX6_restore cX6_restore 1 (some .int)) := rfl
set_option maxRecDepth 100000 in
theorem ai_mw91 : lw_tbl[299]? = some (Cond.code yX6_canOpen cX6_canOpen 4 (some .boolean)) := rfl
set_option maxRecDepth 100000 in
theorem ai_mw92 : lw_tbl[333]? = some (Cond.code yX6_isTrader cX6_isTrader 1 (some .boolean)) := rfl
set_option maxRecDepth 100000 in
theorem ai_mw93 : lw_tbl[649]? = some (Cond.code yX6_isRefusal cX6_isRefusal 1 (some .boolean)) := rfl
set_option maxRecDepth 100000 in
theorem ai_mw94 : lw_tbl[415]? = some (Cond.code yX6_isIn cX6_isIn 2 (some .boolean)) := rfl
set_option maxRecDepth 100000 in
theorem ai_mw95 : lw_tbl[302]? = some (Cond.code yX6_isBetween cX6_isBetween 3 (some .boolean)) := rfl
set_option maxRecDepth 100000 in
theorem ai_mw96 : lw_tbl[687]? = some (Cond.code yX7_init cX7_init 1 none) := rfl
set_option maxRecDepth 100000 in
theorem ai_mw97 : lw_tbl[721]? = some (Cond.code yX7_in cX7_in 3 (some .boolean)) := rfl
set_option maxRecDepth 100000 in
theorem ai_mw98 : lw_tbl[729]? = some (Cond.code yX7_marketAt cX7_marketAt 1 (some .int)) := rfl
set_option maxRecDepth 100000 in
theorem ai_mw99 : lw_tbl[763]? = some (Cond.code yX7_orderAt cX7_orderAt 1 (some .int)) := rfl
set_option maxRecDepth 100000 in
theorem ai_mw100 : lw_tbl[746]? = some (Cond.code yX7_of cX7_of 3 (some .int)) := rfl
set_option maxRecDepth 100000 in
theorem ai_mw101 : lw_tbl[742]? = some (Cond.code yX7_isMarket cX7_isMarket 2 (some .boolean)) := rfl
set_option maxRecDepth 100000 in
theorem ai_mw102 : lw_tbl[738]? = some (Cond.code yX7_isOutcome cX7_isOutcome 3 (some .boolean)) := rfl
set_option maxRecDepth 100000 in
theorem ai_mw103 : lw_tbl[755]? = some (Cond.code yX7_isTrader cX7_isTrader 1 (some .boolean)) := rfl
set_option maxRecDepth 100000 in
theorem ai_mw104 : lw_tbl[791]? = some (Cond.code yX7_isAhead cX7_isAhead 5 (some .boolean)) := rfl
set_option maxRecDepth 100000 in
theorem ai_mw105 : lw_tbl[787]? = some (Cond.code yX7_ranked cX7_ranked 6 (some .int)) := rfl
set_option maxRecDepth 100000 in
theorem ai_mw106 : lw_tbl[783]? = some (Cond.code yX7_active cX7_active 4 (some .int)) := rfl
set_option maxRecDepth 100000 in
theorem ai_mw107 : lw_tbl[779]? = some (Cond.code yX7_level cX7_level 7 (some .int)) := rfl
set_option maxRecDepth 100000 in
theorem ai_mw108 : lw_tbl[895]? = some (Cond.code yX7_priceOf cX7_priceOf 8 (some .int)) := rfl
set_option maxRecDepth 100000 in
theorem ai_mw109 : lw_tbl[775]? = some (Cond.code yX7_costOf cX7_costOf 6 (some .int)) := rfl
set_option maxRecDepth 100000 in
theorem ai_mw110 : lw_tbl[718]? = some (Cond.code yX7_isFine cX7_isFine 4 (some .boolean)) := rfl
set_option maxRecDepth 100000 in
theorem ai_mw111 : lw_tbl[725]? = some (Cond.code yX7_opens cX7_opens 8 (some .int)) := rfl
set_option maxRecDepth 100000 in
theorem ai_mw112 : lw_tbl[714]? = some (Cond.code yX7_openMarket cX7_openMarket 4 (some .int)) := rfl
set_option maxRecDepth 100000 in
theorem ai_mw113 : lw_tbl[734]? = some (Cond.code yX7_openLinked cX7_openLinked 6 (some .int)) := rfl
set_option maxRecDepth 100000 in
theorem ai_mw114 : lw_tbl[752]? = some (Cond.code yX7_deposit cX7_deposit 5 (some .int)) := rfl
set_option maxRecDepth 100000 in
theorem ai_mw115 : lw_tbl[806]? = some (Cond.code yX7_withdraw cX7_withdraw 3 (some .int)) := rfl
set_option maxRecDepth 100000 in
theorem ai_mw116 : lw_tbl[811]? = some (Cond.code yX7_cost cX7_cost 4 (some .int)) := rfl
set_option maxRecDepth 100000 in
theorem ai_mw117 : lw_tbl[795]? = some (Cond.code yX7_trades cX7_trades 8 (some .int)) := rfl
set_option maxRecDepth 100000 in
theorem ai_mw118 : lw_tbl[815]? = some (Cond.code yX7_buy cX7_buy 6 (some .int)) := rfl
set_option maxRecDepth 100000 in
theorem ai_mw119 : lw_tbl[823]? = some (Cond.code yX7_has cX7_has 3 (some .boolean)) := rfl
set_option maxRecDepth 100000 in
theorem ai_mw120 : lw_tbl[827]? = some (Cond.code yX7_grows cX7_grows 5 none) := rfl
set_option maxRecDepth 100000 in
theorem ai_mw121 : lw_tbl[819]? = some (Cond.code yX7_buySet cX7_buySet 7 (some .int)) := rfl
set_option maxRecDepth 100000 in
theorem ai_mw122 : lw_tbl[831]? = some (Cond.code yX7_sell cX7_sell 6 (some .int)) := rfl
set_option maxRecDepth 100000 in
theorem ai_mw123 : lw_tbl[771]? = some (Cond.code yX7_bar cX7_bar 5 (some .int)) := rfl
set_option maxRecDepth 100000 in
theorem ai_mw124 : lw_tbl[767]? = some (Cond.code yX7_isTriedAhead cX7_isTriedAhead 4 (some .boolean)) := rfl
set_option maxRecDepth 100000 in
theorem ai_mw125 : lw_tbl[802]? = some (Cond.code yX7_removes cX7_removes 3 none) := rfl
set_option maxRecDepth 100000 in
theorem ai_mw126 : lw_tbl[760]? = some (Cond.code yX7_executes cX7_executes 5 none) := rfl
set_option maxRecDepth 100000 in
theorem ai_mw127 : lw_tbl[835]? = some (Cond.code yX7_place cX7_place 8 (some .int)) := rfl
set_option maxRecDepth 100000 in
theorem ai_mw128 : lw_tbl[843]? = some (Cond.code yX7_find cX7_find 4 (some .int)) := rfl
set_option maxRecDepth 100000 in
theorem ai_mw129 : lw_tbl[839]? = some (Cond.code yX7_cancel cX7_cancel 4 (some .int)) := rfl
set_option maxRecDepth 100000 in
theorem ai_mw130 : lw_tbl[847]? = some (Cond.code yX7_order cX7_order 4 (some .int)) := rfl
set_option maxRecDepth 100000 in
theorem ai_mw131 : lw_tbl[851]? = some (Cond.code yX7_waiting cX7_waiting 6 (some .int)) := rfl
set_option maxRecDepth 100000 in
theorem ai_mw132 : lw_tbl[867]? = some (Cond.code yX7_cancelsAll cX7_cancelsAll 3 none) := rfl
set_option maxRecDepth 100000 in
theorem ai_mw133 : lw_tbl[871]? = some (Cond.code yX7_voids cX7_voids 4 none) := rfl
set_option maxRecDepth 100000 in
theorem ai_mw134 : lw_tbl[863]? = some (Cond.code yX7_earliest cX7_earliest 5 (some .int)) := rfl
set_option maxRecDepth 100000 in
theorem ai_mw135 : lw_tbl[859]? = some (Cond.code yX7_ticks cX7_ticks 2 none) := rfl
set_option maxRecDepth 100000 in
theorem ai_mw136 : lw_tbl[855]? = some (Cond.code yX7_tick cX7_tick 3 (some .int)) := rfl
set_option maxRecDepth 100000 in
theorem ai_mw137 : lw_tbl[875]? = some (Cond.code yX7_settle cX7_settle 6 (some .int)) := rfl
set_option maxRecDepth 100000 in
theorem ai_mw138 : lw_tbl[879]? = some (Cond.code yX7_cancelMarket cX7_cancelMarket 2 (some .int)) := rfl
set_option maxRecDepth 100000 in
theorem ai_mw139 : lw_tbl[887]? = some (Cond.code yX7_greatestShares cX7_greatestShares 2 (some .int)) := rfl
set_option maxRecDepth 100000 in
theorem ai_mw140 : lw_tbl[883]? = some (Cond.code yX7_market cX7_market 3 (some .int)) := rfl
set_option maxRecDepth 100000 in
theorem ai_mw141 : lw_tbl[891]? = some (Cond.code yX7_price cX7_price 3 (some .int)) := rfl
set_option maxRecDepth 100000 in
theorem ai_mw142 : lw_tbl[899]? = some (Cond.code yX7_sharesFor cX7_sharesFor 7 (some .int)) := rfl
set_option maxRecDepth 100000 in
theorem ai_mw143 : lw_tbl[903]? = some (Cond.code yX7_voidReason cX7_voidReason 5 (some .int)) := rfl
set_option maxRecDepth 100000 in
theorem ai_mw144 : lw_tbl[907]? = some (Cond.code yX7_shares cX7_shares 3 (some .int)) := rfl
set_option maxRecDepth 100000 in
theorem ai_mw145 : lw_tbl[911]? = some (Cond.code yX7_holding cX7_holding 4 (some .int)) := rfl
set_option maxRecDepth 100000 in
theorem ai_mw146 : lw_tbl[919]? = some (Cond.code yX7_worth cX7_worth 8 (some .int)) := rfl
set_option maxRecDepth 100000 in
theorem ai_mw147 : lw_tbl[915]? = some (Cond.code yX7_trader cX7_trader 5 (some .int)) := rfl
set_option maxRecDepth 100000 in
theorem ai_mw148 : lw_tbl[924]? = some (Cond.code yX7_paid cX7_paid 3 (some .int)) := rfl
set_option maxRecDepth 100000 in
theorem ai_mw149 : lw_tbl[928]? = some (Cond.code yX7_affordable cX7_affordable 6 (some .int)) := rfl
set_option maxRecDepth 100000 in
theorem ai_mw150 : lw_tbl[932]? = some (Cond.code yX7_history cX7_history 3 (some .int)) := rfl
set_option maxRecDepth 100000 in
theorem ai_mw151 : lw_tbl[936]? = some (Cond.code yX7_count cX7_count 4 (some .int)) := rfl
set_option maxRecDepth 100000 in
theorem ai_mw152 : lw_tbl[940]? = some (Cond.code yX7_append cX7_append 4 (some .int)) := rfl
set_option maxRecDepth 100000 in
theorem ai_mw153 : lw_tbl[952]? = some (Cond.code yX7_takes cX7_takes 3 (some .boolean)) := rfl
set_option maxRecDepth 100000 in
theorem ai_mw154 : lw_tbl[948]? = some (Cond.code yX7_isTrade cX7_isTrade 1 (some .boolean)) := rfl
set_option maxRecDepth 100000 in
theorem ai_mw155 : lw_tbl[956]? = some (Cond.code yX7_does cX7_does 7 (some .boolean)) := rfl
set_option maxRecDepth 100000 in
theorem ai_mw156 : lw_tbl[944]? = some (Cond.code yX7_trade cX7_trade 7 (some .int)) := rfl
set_option maxRecDepth 100000 in
theorem ai_mw157 : lw_tbl[962]? = some (Cond.code yX7_save cX7_save 2 (some .int)) := rfl
set_option maxRecDepth 100000 in
theorem ai_mw158 : lw_tbl[966]? = some (Cond.code yX7_restore cX7_restore 2 (some .int)) := rfl
set_option maxRecDepth 100000 in
theorem ai_mw159 : lw_tbl[374]? = some (Cond.code yJ9_floorMod_7cf53 cJ9_floorMod_7cf53 3 (some .int)) := rfl
set_option maxRecDepth 100000 in
theorem ai_mw160 : lw_tbl[528]? = some (Cond.code yJ9_max_7cf53 cJ9_max_7cf53 2 (some .int)) := rfl
set_option maxRecDepth 100000 in
theorem ai_mw161 : lw_tbl[798]? = some (Cond.code yJ9_min_7cf53 cJ9_min_7cf53 2 (some .int)) := rfl
set_option maxRecDepth 100000 in
theorem ai_mw_in : ∀ w ∈ (ai_mt.take 162).flatMap ai_mw, w ∈ lw_tbl := by
  show ∀ w ∈ [Cond.code yX0_init cX0_init 2 none, Cond.code yX0_copyFrom cX0_copyFrom 3 none, Cond.code yX0_insert cX0_insert 8 (some .int), Cond.code yX0_positionOf cX0_positionOf 3 (some .int), Cond.code yX0_remove cX0_remove 4 none, Cond.code yX0_removeAll cX0_removeAll 3 none, Cond.code yX0_openOf cX0_openOf 4 (some .int), Cond.code yX1_init cX1_init 2 none, Cond.code yX1_copyFrom cX1_copyFrom 3 none, Cond.code yX1_marketAt cX1_marketAt 2 (some (.object "PredictionMaker$Market")), Cond.code yX1_marketWith cX1_marketWith 4 (some (.object "PredictionMaker$Market")), Cond.code yX1_addMarket cX1_addMarket 7 (some .int), Cond.code yX1_exchange cX1_exchange 7 (some .int), Cond.code yX1_exchangeSet cX1_exchangeSet 6 none, Cond.code yX1_executeAllOrders cX1_executeAllOrders 2 none, Cond.code yX1_executeOrders cX1_executeOrders 5 none, Cond.code yX1_firstExecutable cX1_firstExecutable 5 (some .int), Cond.code yX1_obstacleOf cX1_obstacleOf 4 (some .int), Cond.code yX1_obstacle cX1_obstacle 4 (some .int), Cond.code yX1_passTick cX1_passTick 3 none, Cond.code yX1_waitsForCondition cX1_waitsForCondition 3 (some .boolean), Cond.code yX1_payWinners cX1_payWinners 6 (some .int), Cond.code yX1_makeVoid cX1_makeVoid 4 none, Cond.code yX1_voidFollowers cX1_voidFollowers 5 (some .int), Cond.code yX1_reasonByCondition cX1_reasonByCondition 3 (some .int), Cond.code yX1_worthOf cX1_worthOf 4 (some .int), Cond.code yX1_mostCoinsOf cX1_mostCoinsOf 4 (some .int), Cond.code yX1_openMarkets cX1_openMarkets 3 (some .int), Cond.code yX1_sumOfBalances cX1_sumOfBalances 3 (some .int), Cond.code yX1_sumOfAccounts cX1_sumOfAccounts 3 (some .int), Cond.code yX2_init cX2_init 1 none, Cond.code yX2_copyFrom cX2_copyFrom 3 none, Cond.code yX2_add cX2_add 8 none, Cond.code yX2_keeps cX2_keeps 2 (some .boolean), Cond.code yX2_partOf cX2_partOf 3 (some .int), Cond.code yX3_init cX3_init 2 none, Cond.code yX3_copyFrom cX3_copyFrom 3 none, Cond.code yX3_isLive cX3_isLive 1 (some .boolean), Cond.code yX3_property cX3_property 2 (some .int), Cond.code yX3_lossBound cX3_lossBound 1 (some .int), Cond.code yX3_mostShares cX3_mostShares 3 (some .int), Cond.code yX3_measure cX3_measure 4 none, Cond.code yX3_level cX3_level 2 (some .int), Cond.code yX3_costOf cX3_costOf 5 (some .int), Cond.code yX3_costOfSet cX3_costOfSet 5 (some .int), Cond.code yX3_addSet cX3_addSet 4 none, Cond.code yX3_priceWith cX3_priceWith 4 (some .int), Cond.code yX3_canHave cX3_canHave 3 (some .boolean), Cond.code yX3_canHaveSet cX3_canHaveSet 4 (some .boolean), Cond.code yX3_hasSet cX3_hasSet 2 (some .boolean), Cond.code yX3_worthOf cX3_worthOf 4 (some .int), Cond.code yX3_mostHeldBy cX3_mostHeldBy 4 (some .int), Cond.code yX4_init cX4_init 1 none, Cond.code yX4_copyFrom cX4_copyFrom 2 none, Cond.code yX5_init cX5_init 1 none, Cond.code yX5_add cX5_add 4 (some .int), Cond.code yX5_errorOffset cX5_errorOffset 3 (some .int), Cond.code yX5_stepAfter cX5_stepAfter 2 (some .int), Cond.code yX5_readTrade cX5_readTrade 4 (some .int), Cond.code yX5_note cX5_note 4 none, Cond.code yX6_init cX6_init 1 none, Cond.code yX6_openMarket cX6_openMarket 4 (some .int), Cond.code yX6_openLinked cX6_openLinked 7 (some .int), Cond.code yX6_deposit cX6_deposit 4 (some .int), Cond.code yX6_withdraw cX6_withdraw 3 (some .int), Cond.code yX6_cost cX6_cost 5 (some .int), Cond.code yX6_buy cX6_buy 7 (some .int), Cond.code yX6_buySet cX6_buySet 7 (some .int), Cond.code yX6_sell cX6_sell 7 (some .int), Cond.code yX6_place cX6_place 8 (some .int), Cond.code yX6_cancel cX6_cancel 4 (some .int), Cond.code yX6_order cX6_order 5 (some .int), Cond.code yX6_waiting cX6_waiting 6 (some .int), Cond.code yX6_tick cX6_tick 3 (some .int), Cond.code yX6_settle cX6_settle 5 (some .int), Cond.code yX6_cancelMarket cX6_cancelMarket 3 (some .int), Cond.code yX6_market cX6_market 4 (some .int), Cond.code yX6_price cX6_price 4 (some .int), Cond.code yX6_sharesFor cX6_sharesFor 6 (some .int), Cond.code yX6_voidReason cX6_voidReason 6 (some .int), Cond.code yX6_shares cX6_shares 4 (some .int), Cond.code yX6_holding cX6_holding 5 (some .int), Cond.code yX6_trader cX6_trader 3 (some .int), Cond.code yX6_paid cX6_paid 4 (some .int), Cond.code yX6_affordable cX6_affordable 7 (some .int), Cond.code yX6_history cX6_history 3 (some .int), Cond.code yX6_count cX6_count 2 (some .int), Cond.code yX6_append cX6_append 3 (some .int), Cond.code yX6_trade cX6_trade 6 (some .int), Cond.code yX6_save cX6_save 1 (some .int), Cond.code yX6_restore cX6_restore 1 (some .int), Cond.code yX6_canOpen cX6_canOpen 4 (some .boolean), Cond.code yX6_isTrader cX6_isTrader 1 (some .boolean), Cond.code yX6_isRefusal cX6_isRefusal 1 (some .boolean), Cond.code yX6_isIn cX6_isIn 2 (some .boolean), Cond.code yX6_isBetween cX6_isBetween 3 (some .boolean), Cond.code yX7_init cX7_init 1 none, Cond.code yX7_in cX7_in 3 (some .boolean), Cond.code yX7_marketAt cX7_marketAt 1 (some .int), Cond.code yX7_orderAt cX7_orderAt 1 (some .int), Cond.code yX7_of cX7_of 3 (some .int), Cond.code yX7_isMarket cX7_isMarket 2 (some .boolean), Cond.code yX7_isOutcome cX7_isOutcome 3 (some .boolean), Cond.code yX7_isTrader cX7_isTrader 1 (some .boolean), Cond.code yX7_isAhead cX7_isAhead 5 (some .boolean), Cond.code yX7_ranked cX7_ranked 6 (some .int), Cond.code yX7_active cX7_active 4 (some .int), Cond.code yX7_level cX7_level 7 (some .int), Cond.code yX7_priceOf cX7_priceOf 8 (some .int), Cond.code yX7_costOf cX7_costOf 6 (some .int), Cond.code yX7_isFine cX7_isFine 4 (some .boolean), Cond.code yX7_opens cX7_opens 8 (some .int), Cond.code yX7_openMarket cX7_openMarket 4 (some .int), Cond.code yX7_openLinked cX7_openLinked 6 (some .int), Cond.code yX7_deposit cX7_deposit 5 (some .int), Cond.code yX7_withdraw cX7_withdraw 3 (some .int), Cond.code yX7_cost cX7_cost 4 (some .int), Cond.code yX7_trades cX7_trades 8 (some .int), Cond.code yX7_buy cX7_buy 6 (some .int), Cond.code yX7_has cX7_has 3 (some .boolean), Cond.code yX7_grows cX7_grows 5 none, Cond.code yX7_buySet cX7_buySet 7 (some .int), Cond.code yX7_sell cX7_sell 6 (some .int), Cond.code yX7_bar cX7_bar 5 (some .int), Cond.code yX7_isTriedAhead cX7_isTriedAhead 4 (some .boolean), Cond.code yX7_removes cX7_removes 3 none, Cond.code yX7_executes cX7_executes 5 none, Cond.code yX7_place cX7_place 8 (some .int), Cond.code yX7_find cX7_find 4 (some .int), Cond.code yX7_cancel cX7_cancel 4 (some .int), Cond.code yX7_order cX7_order 4 (some .int), Cond.code yX7_waiting cX7_waiting 6 (some .int), Cond.code yX7_cancelsAll cX7_cancelsAll 3 none, Cond.code yX7_voids cX7_voids 4 none, Cond.code yX7_earliest cX7_earliest 5 (some .int), Cond.code yX7_ticks cX7_ticks 2 none, Cond.code yX7_tick cX7_tick 3 (some .int), Cond.code yX7_settle cX7_settle 6 (some .int), Cond.code yX7_cancelMarket cX7_cancelMarket 2 (some .int), Cond.code yX7_greatestShares cX7_greatestShares 2 (some .int), Cond.code yX7_market cX7_market 3 (some .int), Cond.code yX7_price cX7_price 3 (some .int), Cond.code yX7_sharesFor cX7_sharesFor 7 (some .int), Cond.code yX7_voidReason cX7_voidReason 5 (some .int), Cond.code yX7_shares cX7_shares 3 (some .int), Cond.code yX7_holding cX7_holding 4 (some .int), Cond.code yX7_worth cX7_worth 8 (some .int), Cond.code yX7_trader cX7_trader 5 (some .int), Cond.code yX7_paid cX7_paid 3 (some .int), Cond.code yX7_affordable cX7_affordable 6 (some .int), Cond.code yX7_history cX7_history 3 (some .int), Cond.code yX7_count cX7_count 4 (some .int), Cond.code yX7_append cX7_append 4 (some .int), Cond.code yX7_takes cX7_takes 3 (some .boolean), Cond.code yX7_isTrade cX7_isTrade 1 (some .boolean), Cond.code yX7_does cX7_does 7 (some .boolean), Cond.code yX7_trade cX7_trade 7 (some .int), Cond.code yX7_save cX7_save 2 (some .int), Cond.code yX7_restore cX7_restore 2 (some .int), Cond.code yJ9_floorMod_7cf53 cJ9_floorMod_7cf53 3 (some .int), Cond.code yJ9_max_7cf53 cJ9_max_7cf53 2 (some .int), Cond.code yJ9_min_7cf53 cJ9_min_7cf53 2 (some .int)], w ∈ lw_tbl
  simp only [List.forall_mem_cons]
  exact ⟨List.mem_of_getElem? ai_mw0, List.mem_of_getElem? ai_mw1, List.mem_of_getElem? ai_mw2, List.mem_of_getElem? ai_mw3, List.mem_of_getElem? ai_mw4, List.mem_of_getElem? ai_mw5, List.mem_of_getElem? ai_mw6, List.mem_of_getElem? ai_mw7, List.mem_of_getElem? ai_mw8, List.mem_of_getElem? ai_mw9, List.mem_of_getElem? ai_mw10, List.mem_of_getElem? ai_mw11, List.mem_of_getElem? ai_mw12, List.mem_of_getElem? ai_mw13, List.mem_of_getElem? ai_mw14, List.mem_of_getElem? ai_mw15, List.mem_of_getElem? ai_mw16, List.mem_of_getElem? ai_mw17, List.mem_of_getElem? ai_mw18, List.mem_of_getElem? ai_mw19, List.mem_of_getElem? ai_mw20, List.mem_of_getElem? ai_mw21, List.mem_of_getElem? ai_mw22, List.mem_of_getElem? ai_mw23, List.mem_of_getElem? ai_mw24, List.mem_of_getElem? ai_mw25, List.mem_of_getElem? ai_mw26, List.mem_of_getElem? ai_mw27, List.mem_of_getElem? ai_mw28, List.mem_of_getElem? ai_mw29, List.mem_of_getElem? ai_mw30, List.mem_of_getElem? ai_mw31, List.mem_of_getElem? ai_mw32, List.mem_of_getElem? ai_mw33, List.mem_of_getElem? ai_mw34, List.mem_of_getElem? ai_mw35, List.mem_of_getElem? ai_mw36, List.mem_of_getElem? ai_mw37, List.mem_of_getElem? ai_mw38, List.mem_of_getElem? ai_mw39, List.mem_of_getElem? ai_mw40, List.mem_of_getElem? ai_mw41, List.mem_of_getElem? ai_mw42, List.mem_of_getElem? ai_mw43, List.mem_of_getElem? ai_mw44, List.mem_of_getElem? ai_mw45, List.mem_of_getElem? ai_mw46, List.mem_of_getElem? ai_mw47, List.mem_of_getElem? ai_mw48, List.mem_of_getElem? ai_mw49, List.mem_of_getElem? ai_mw50, List.mem_of_getElem? ai_mw51, List.mem_of_getElem? ai_mw52, List.mem_of_getElem? ai_mw53, List.mem_of_getElem? ai_mw54, List.mem_of_getElem? ai_mw55, List.mem_of_getElem? ai_mw56, List.mem_of_getElem? ai_mw57, List.mem_of_getElem? ai_mw58, List.mem_of_getElem? ai_mw59, List.mem_of_getElem? ai_mw60, List.mem_of_getElem? ai_mw61, List.mem_of_getElem? ai_mw62, List.mem_of_getElem? ai_mw63, List.mem_of_getElem? ai_mw64, List.mem_of_getElem? ai_mw65, List.mem_of_getElem? ai_mw66, List.mem_of_getElem? ai_mw67, List.mem_of_getElem? ai_mw68, List.mem_of_getElem? ai_mw69, List.mem_of_getElem? ai_mw70, List.mem_of_getElem? ai_mw71, List.mem_of_getElem? ai_mw72, List.mem_of_getElem? ai_mw73, List.mem_of_getElem? ai_mw74, List.mem_of_getElem? ai_mw75, List.mem_of_getElem? ai_mw76, List.mem_of_getElem? ai_mw77, List.mem_of_getElem? ai_mw78, List.mem_of_getElem? ai_mw79, List.mem_of_getElem? ai_mw80, List.mem_of_getElem? ai_mw81, List.mem_of_getElem? ai_mw82, List.mem_of_getElem? ai_mw83, List.mem_of_getElem? ai_mw84, List.mem_of_getElem? ai_mw85, List.mem_of_getElem? ai_mw86, List.mem_of_getElem? ai_mw87, List.mem_of_getElem? ai_mw88, List.mem_of_getElem? ai_mw89, List.mem_of_getElem? ai_mw90, List.mem_of_getElem? ai_mw91, List.mem_of_getElem? ai_mw92, List.mem_of_getElem? ai_mw93, List.mem_of_getElem? ai_mw94, List.mem_of_getElem? ai_mw95, List.mem_of_getElem? ai_mw96, List.mem_of_getElem? ai_mw97, List.mem_of_getElem? ai_mw98, List.mem_of_getElem? ai_mw99, List.mem_of_getElem? ai_mw100, List.mem_of_getElem? ai_mw101, List.mem_of_getElem? ai_mw102, List.mem_of_getElem? ai_mw103, List.mem_of_getElem? ai_mw104, List.mem_of_getElem? ai_mw105, List.mem_of_getElem? ai_mw106, List.mem_of_getElem? ai_mw107, List.mem_of_getElem? ai_mw108, List.mem_of_getElem? ai_mw109, List.mem_of_getElem? ai_mw110, List.mem_of_getElem? ai_mw111, List.mem_of_getElem? ai_mw112, List.mem_of_getElem? ai_mw113, List.mem_of_getElem? ai_mw114, List.mem_of_getElem? ai_mw115, List.mem_of_getElem? ai_mw116, List.mem_of_getElem? ai_mw117, List.mem_of_getElem? ai_mw118, List.mem_of_getElem? ai_mw119, List.mem_of_getElem? ai_mw120, List.mem_of_getElem? ai_mw121, List.mem_of_getElem? ai_mw122, List.mem_of_getElem? ai_mw123, List.mem_of_getElem? ai_mw124, List.mem_of_getElem? ai_mw125, List.mem_of_getElem? ai_mw126, List.mem_of_getElem? ai_mw127, List.mem_of_getElem? ai_mw128, List.mem_of_getElem? ai_mw129, List.mem_of_getElem? ai_mw130, List.mem_of_getElem? ai_mw131, List.mem_of_getElem? ai_mw132, List.mem_of_getElem? ai_mw133, List.mem_of_getElem? ai_mw134, List.mem_of_getElem? ai_mw135, List.mem_of_getElem? ai_mw136, List.mem_of_getElem? ai_mw137, List.mem_of_getElem? ai_mw138, List.mem_of_getElem? ai_mw139, List.mem_of_getElem? ai_mw140, List.mem_of_getElem? ai_mw141, List.mem_of_getElem? ai_mw142, List.mem_of_getElem? ai_mw143, List.mem_of_getElem? ai_mw144, List.mem_of_getElem? ai_mw145, List.mem_of_getElem? ai_mw146, List.mem_of_getElem? ai_mw147, List.mem_of_getElem? ai_mw148, List.mem_of_getElem? ai_mw149, List.mem_of_getElem? ai_mw150, List.mem_of_getElem? ai_mw151, List.mem_of_getElem? ai_mw152, List.mem_of_getElem? ai_mw153, List.mem_of_getElem? ai_mw154, List.mem_of_getElem? ai_mw155, List.mem_of_getElem? ai_mw156, List.mem_of_getElem? ai_mw157, List.mem_of_getElem? ai_mw158, List.mem_of_getElem? ai_mw159, List.mem_of_getElem? ai_mw160, List.mem_of_getElem? ai_mw161, fun _ h => absurd h List.not_mem_nil⟩
/-- all words that the small machine needs -/
def ai_ws : List Cond := (ai_mt.take 162).flatMap ai_mw ++ (ai_lt.flatMap ai_lw ++ (ai_nt.flatMap ai_nw ++ (ai_ft.flatMap ai_fw ++ (ai_kt.flatMap ai_kw ++ (vwCl.flatMap ai_cw ++ (ai_ct.flatMap (fun e => [Cond.constant e.1 e.2.1 e.2.2]) ++ (ai_ot.flatMap (fun e => [Cond.methodLink e.1 e.2 objectInit]) ++ (ai_pt.flatMap (fun e => [Cond.methodLink e.1 e.2 arraycopyName]) ++ ai_misc))))))))
theorem ai_pls {l : List Cond} {ps : List Nat} (h : l = ps.filterMap (fun i => lw_tbl[i]?)) : ∀ w ∈ l, w ∈ lw_tbl := by
  intro w hw
  rw [h] at hw
  obtain ⟨i, -, hi⟩ := List.mem_filterMap.mp hw
  exact List.mem_of_getElem? hi
theorem ai_ws_in : ∀ w ∈ ai_ws, w ∈ lw_tbl := by
  unfold ai_ws
  simp only [List.forall_mem_append]
  exact ⟨ai_mw_in, ai_pls ai_lw_pl, ai_pls ai_nw_pl, ai_pls ai_fw_pl, ai_pls ai_kw_pl, ai_pls ai_cw_pl, ai_pls ai_con_pl, ai_pls ai_ot_pl, ai_pls ai_pt_pl, ai_pls ai_misc_pl⟩
theorem ai_ws_good : ∀ w ∈ ai_ws, goodWord w = true := by
  unfold ai_ws
  simp only [List.forall_mem_append]
  exact ⟨fun w h => by obtain ⟨q, -, hq⟩ := List.mem_flatMap.mp h; rw [ai_mw, List.mem_singleton] at hq; rw [hq]; rfl, List.all_eq_true.mp ai_lw_gd, List.all_eq_true.mp ai_nw_gd, List.all_eq_true.mp ai_fw_gd, List.all_eq_true.mp ai_kw_gd, List.all_eq_true.mp ai_cw_gd, List.all_eq_true.mp ai_con_gd, List.all_eq_true.mp ai_ot_gd, List.all_eq_true.mp ai_pt_gd, List.all_eq_true.mp ai_misc_gd⟩
/-- what else is decided of the methods, the fields, the classes -/
def ai_mtb (q : ai_M) : Bool := match q with
  | (y, cc, ml, ret, k) => plainFor y && decide (y.cls ≠ "java/lang/invoke/MethodHandle") && decide (y.cls ≠ "java/lang/invoke/VarHandle") &&
    decide ((parseMethodDescriptor y.desc).map (fun d => d.parameters.length) = some (ai_nargs y)) && decide (ml ≤ 30) && decide (ai_nargs y + 1 ≤ ml + (if k = 1 then 1 else 0)) && (decide (k = 1) || (match vwCl[ai_cno y.cls]? with | some q => decide (q.1 = y.cls) | none => false)) && decide (k ≤ 2) &&
    (decide (k ≤ 1) || (decide (y.name = "<init>") && decide (ret = none))) && (decide (y.cls = RX0) || decide (y.cls = RX1) || decide (y.cls = RX2) || decide (y.cls = RX3) || decide (y.cls = RX4) || decide (y.cls = RX5) || decide (y.cls = RX6) || decide (y.cls = RX7) || decide (y.cls = RJ9))
def ai_ftb (e : String × Nat × Nat × Nat) : Bool := match vwCl[e.2.2.1]? with
  | some q => decide (e.2.2.2 < q.2.2)
  | none => false
def ai_tyb (k : Nat) (q : vw_C) (j : Nat) : Bool := decide ((q.2.1 j).1 = q.1) && decide (parseFieldDescriptor (q.2.1 j).2.2.1 = some (ai_ty q j)) && (if ai_isref k j then (match ai_ty q j with | .object _ => true | .array _ => true | _ => false) else (decide (ai_ty q j = .int) || (decide (ai_ty q j = .boolean) && ai_bool k j)))
def ai_clb (k : Nat) : Bool := match vwCl[k]? with
  | some q => (List.range q.2.2).all (ai_tyb k q) && (List.range q.2.2).all (fun a => (List.range q.2.2).all (fun b => decide (a = b) || decide ((q.2.1 a).2.1 ≠ (q.2.1 b).2.1)))
  | none => false
set_option maxRecDepth 100000 in
theorem ai_mtb_ok : (ai_mt.take 162).all ai_mtb = true := by decide +kernel
set_option maxRecDepth 100000 in
theorem ai_ftb_ok : ai_ft.all ai_ftb = true := by decide +kernel
set_option maxRecDepth 100000 in
theorem ai_clb_ok : (List.range 8).all ai_clb = true := by decide +kernel
set_option maxRecDepth 100000 in
theorem ai_kt_ok : ai_kt.all (fun e => decide (e.2.2 < 8) || decide (e.2.2 = 12)) = true := by decide +kernel
end
section
/-! the small machine runs -/
def ai_bin (b : Nat) (x y : Int32) : Int32 := match b with
  | 0 => x + y
  | 1 => x - y
  | 2 => x * y
  | 3 => x &&& y
  | 4 => x <<< (y &&& 31)
  | 5 => x >>> (y &&& 31)
  | _ => x ^^^ y
def ai_cmp (b : Nat) (x y : Int32) : Bool := match b with
  | 0 => decide (x = y)
  | 1 => !decide (x = y)
  | 2 => decide (x < y)
  | 3 => decide (y ≤ x)
  | 4 => decide (y < x)
  | _ => decide (x ≤ y)
def ai_rv (n : Nat) : Value := match n with
  | 0 => .null
  | b + 1 => .ref b
def ai_u {α : Type} (M : Nat → Nat → α) (a j : Nat) (v : α) : Nat → Nat → α := fun a' j' => if a' = a ∧ j' = j then v else M a' j'
def ai_z {α : Type} (M : Nat → Nat → α) (a : Nat) (v : α) : Nat → Nat → α := fun a' j' => if a' = a then v else M a' j'
def ai_in (i : Int32) (n : Nat) : Bool := !(decide (i < 0) || decide (n ≤ i.toNatClampNeg))
def ai_kd (h : ai_H) (a : Nat) : Option Nat := (h.1[a]?).map (·.1)
def ai_c1 (l : List Value) : Bool := l.all (fun v => v.category == 1)
def ai_st1 (op a b : Nat) (v : Int32) (nx : Nat) (ls st : List Value) (h : ai_H) : Option ai_O :=
  if op = 0 then (some (.inl (nx, ls, .int v :: st, h))) else
  if op = 1 then (match ls[a]? with
    | some (.int x) => some (.inl (nx, ls, .int x :: st, h))
    | _ => none) else
  if op = 2 then (match ls[a]? with
    | some (.ref x) => some (.inl (nx, ls, .ref x :: st, h))
    | some .null => some (.inl (nx, ls, .null :: st, h))
    | some (.retAddr x) => some (.inl (nx, ls, .retAddr x :: st, h))
    | _ => none) else
  if op = 3 then (match st with
    | .int x :: st => if a < ls.length then some (.inl (nx, ls.set a (.int x), st, h)) else none
    | _ => none) else
  if op = 4 then (match st with
    | .ref x :: st => if a < ls.length then some (.inl (nx, ls.set a (.ref x), st, h)) else none
    | .null :: st => if a < ls.length then some (.inl (nx, ls.set a .null, st, h)) else none
    | _ => none) else
  if op = 5 then (match ls[a]? with
    | some (.int x) => some (.inl (nx, ls.set a (.int (x + v)), st, h))
    | _ => none) else
  if op = 6 then (match st with
    | .int y :: .int x :: st => some (.inl (nx, ls, .int (ai_bin b x y) :: st, h))
    | _ => none) else
  if op = 7 then (match st with
    | .int y :: .int x :: st => if y = 0 then none else some (.inl (nx, ls, .int (x / y) :: st, h))
    | _ => none) else
  if op = 8 then (match st with
    | .int y :: .int x :: st => if y = 0 then none else some (.inl (nx, ls, .int (x - x / y * y) :: st, h))
    | _ => none) else
  if op = 9 then (match st with
    | .int x :: st => some (.inl (nx, ls, .int (-x) :: st, h))
    | _ => none) else
  if op = 10 then (match st with
    | .int x :: st => some (.inl (nx, ls, .int (x.toUInt32 % 65536).toInt32 :: st, h))
    | _ => none) else
  none
def ai_st2 (op a b : Nat) (nx : Nat) (ls st : List Value) (h : ai_H) : Option ai_O :=
  if op = 11 then (match st with
    | x :: st => if ai_c1 [x] then some (.inl (nx, ls, x :: x :: st, h)) else none
    | _ => none) else
  if op = 12 then (match st with
    | x :: y :: st => if ai_c1 [x, y] then some (.inl (nx, ls, x :: y :: x :: st, h)) else none
    | _ => none) else
  if op = 13 then (match st with
    | x :: y :: z :: st => if ai_c1 [x, y, z] then some (.inl (nx, ls, x :: y :: z :: x :: st, h)) else none
    | _ => none) else
  if op = 14 then (match st with
    | x :: y :: st => if ai_c1 [x, y] then some (.inl (nx, ls, x :: y :: x :: y :: st, h)) else none
    | _ => none) else
  if op = 15 then (match st with
    | x :: st => if ai_c1 [x] then some (.inl (nx, ls, st, h)) else none
    | _ => none) else
  if op = 16 then (some (.inl (a, ls, st, h))) else
  if op = 17 then (match st with
    | .int y :: .int x :: st => some (.inl (if ai_cmp b x y then a else nx, ls, st, h))
    | _ => none) else
  if op = 18 then (match st with
    | .int x :: st => some (.inl (if ai_cmp b x 0 then a else nx, ls, st, h))
    | _ => none) else
  if op = 19 then (match st with
    | .null :: st => some (.inl (a, ls, st, h))
    | .ref _ :: st => some (.inl (nx, ls, st, h))
    | _ => none) else
  if op = 20 then (match st with
    | .null :: st => some (.inl (nx, ls, st, h))
    | .ref _ :: st => some (.inl (a, ls, st, h))
    | _ => none) else
  if op = 21 then (some (.inl (nx, ls, .null :: st, h))) else
  none
def ai_st3 (X : ai_X) (op a b : Nat) (nx : Nat) (ls st : List Value) (h : ai_H) : Option ai_O :=
  if op = 22 then (match st with
    | .ref q :: st => if ai_kd h q = some a then some (.inl (nx, ls, .int (h.2.1 q b) :: st, h)) else none
    | _ => none) else
  if op = 23 then (match st with
    | .ref q :: st => if ai_kd h q = some a then some (.inl (nx, ls, ai_rv (h.2.2 q b) :: st, h)) else none
    | _ => none) else
  if op = 24 then (match st with
    | .int x :: .ref q :: st => if ai_kd h q = some a ∧ (ai_bool a b = false ∨ x = 0 ∨ x = 1) then some (.inl (nx, ls, st, (h.1, ai_u h.2.1 q b x, h.2.2))) else none
    | _ => none) else
  if op = 25 then (match st with
    | .ref x :: .ref q :: st => if ai_kd h q = some a then some (.inl (nx, ls, st, (h.1, h.2.1, ai_u h.2.2 q b (x + 1)))) else none
    | _ => none) else
  if op = 26 then (match st with
    | .int i :: .ref q :: st => match h.1[q]? with
      | some (kd, n) => if kd = 9 ∧ ai_in i n = true then some (.inl (nx, ls, .int (h.2.1 q i.toNatClampNeg) :: st, h)) else none
      | none => none
    | .int i :: .retAddr _ :: st => if ai_in i X.1 = true then some (.inl (nx, ls, .int (X.2 i.toNatClampNeg) :: st, h)) else none
    | _ => none) else
  if op = 27 then (match st with
    | .int i :: .ref q :: st => match h.1[q]? with
      | some (kd, n) => if kd = 8 ∧ ai_in i n = true then some (.inl (nx, ls, .int (h.2.1 q i.toNatClampNeg) :: st, h)) else none
      | none => none
    | _ => none) else
  if op = 28 then (match st with
    | .int i :: .ref q :: st => match h.1[q]? with
      | some (kd, n) => if 10 ≤ kd ∧ kd ≤ 12 ∧ ai_in i n = true then some (.inl (nx, ls, ai_rv (h.2.2 q i.toNatClampNeg) :: st, h)) else none
      | none => none
    | _ => none) else
  if op = 29 then (match st with
    | .int x :: .int i :: .ref q :: st => match h.1[q]? with
      | some (kd, n) => if kd = 9 ∧ ai_in i n = true then some (.inl (nx, ls, st, (h.1, ai_u h.2.1 q i.toNatClampNeg x, h.2.2))) else none
      | none => none
    | _ => none) else
  if op = 30 then (match st with
    | .int x :: .int i :: .ref q :: st => match h.1[q]? with
      | some (kd, n) => if kd = 8 ∧ ai_in i n = true then some (.inl (nx, ls, st, (h.1, ai_u h.2.1 q i.toNatClampNeg (vp_nar .char x), h.2.2))) else none
      | none => none
    | _ => none) else
  if op = 31 then (match st with
    | .ref w :: .int i :: .ref q :: st => match h.1[q]? with
      | some (kd, n) => if ((kd = 10 ∧ ai_kd h w = some 3) ∨ (kd = 11 ∧ ai_kd h w = some 4)) ∧ ai_in i n = true then some (.inl (nx, ls, st, (h.1, h.2.1, ai_u h.2.2 q i.toNatClampNeg (w + 1)))) else none
      | none => none
    | _ => none) else
  if op = 32 then (match st with
    | .retAddr _ :: st => if X.1 = 0 then none else some (.inl (nx, ls, .int (Int32.ofNat X.1) :: st, h))
    | _ => none) else
  none
def ai_st4 (d op a b : Nat) (tb : List Nat) (nx : Nat) (ls st : List Value) (h : ai_H) : Option ai_O :=
  if op = 33 then (some (.inl (nx, ls, .ref h.1.length :: st, (h.1 ++ [(a, b)], ai_z h.2.1 h.1.length 0, ai_z h.2.2 h.1.length 0)))) else
  if op = 34 then (match st with
    | .int n :: st => if n < 0 ∨ 1000 < n.toNatClampNeg then none else some (.inl (nx, ls, .ref h.1.length :: st, (h.1 ++ [(a, n.toNatClampNeg)], ai_z h.2.1 h.1.length 0, ai_z h.2.2 h.1.length 0)))
    | _ => none) else
  if op = 35 then (match st with
    | .int n :: st => if n < 0 ∨ 1000 < n.toNatClampNeg then none else some (.inl (nx, ls, .ref h.1.length :: st, (h.1 ++ [(a, n.toNatClampNeg)], ai_z h.2.1 h.1.length 0, ai_z h.2.2 h.1.length 0)))
    | _ => none) else
  if op = 36 then (match st with
    | .int k :: .int n :: st => if n < 0 ∨ 1000 < n.toNatClampNeg ∨ k < 0 ∨ 1000 < k.toNatClampNeg then none else
        some (.inl (nx, ls, .ref h.1.length :: st, ((h.1 ++ [(12, n.toNatClampNeg)]) ++ List.replicate n.toNatClampNeg (9, k.toNatClampNeg),
          (fun q j => if h.1.length ≤ q then 0 else h.2.1 q j), (fun q j => if q = h.1.length then (if j < n.toNatClampNeg then h.1.length + 1 + j + 1 else 0) else if h.1.length ≤ q then 0 else h.2.2 q j))))
    | _ => none) else
  if op = 40 then (match st with
    | .ref _ :: st => if d = 0 ∨ ai_c1 st = false ∨ 8 < st.length then none else some (.inl (nx, ls, st, h))
    | _ => none) else
  if op = 41 then (match st with
    | .int n :: .int dp :: .ref q1 :: .int sp :: .ref q0 :: st => if d = 0 ∨ ai_c1 st = false ∨ 8 < st.length then none else match h.1[q0]?, h.1[q1]? with
      | some (k0, n0), some (k1, n1) => if k0 = 9 ∧ k1 = 9 ∧ ¬ sp < 0 ∧ ¬ dp < 0 ∧ ¬ n < 0 ∧ sp.toNatClampNeg + n.toNatClampNeg ≤ n0 ∧ dp.toNatClampNeg + n.toNatClampNeg ≤ n1 then
          some (.inl (nx, ls, st, (h.1, (fun q j => if q = q1 ∧ dp.toNatClampNeg ≤ j ∧ j < dp.toNatClampNeg + n.toNatClampNeg then h.2.1 q0 (sp.toNatClampNeg + (j - dp.toNatClampNeg)) else h.2.1 q j), h.2.2))) else none
      | _, _ => none
    | _ => none) else
  none
def ai_st5 (op a b : Nat) (v : Int32) (tb : List Nat) (ls st : List Value) (h : ai_H) : Option ai_O :=
  if op = 37 then (if b ≤ st.length ∧ ai_c1 st = true ∧ (st.drop b).length ≤ 8 then some (.inr (.inr (a, (st.take b).reverse, st.drop b))) else none) else
  if op = 38 then (match (st.take b).reverse with
    | .ref q :: _ => if ai_kd h q = tb.head? ∧ b ≤ st.length ∧ ai_c1 st = true ∧ (st.drop b).length ≤ 8 then some (.inr (.inr (a, (st.take b).reverse, st.drop b))) else none
    | _ => none) else
  if op = 39 then (match (st.take b).reverse with
    | .ref q :: _ => if ai_kd h q = tb.head? ∧ b ≤ st.length ∧ ai_c1 st = true ∧ (st.drop b).length ≤ 8 then some (.inr (.inr (a, (st.take b).reverse, st.drop b))) else none
    | _ => none) else
  if op = 42 then (match st with
    | [.int x] => if a = 0 ∨ (a = 1 ∧ (x = 0 ∨ x = 1)) then some (.inr (.inl (some (.int x)))) else none
    | [.ref x] => if a = 2 then some (.inr (.inl (some (.ref x)))) else none
    | [.null] => if a = 2 then some (.inr (.inl (some .null))) else none
    | _ => none) else
  if op = 43 then (match st with
    | [] => some (.inr (.inl none))
    | _ => none) else
  if op = 44 then (match st with
    | .int x :: st => some (.inl (if x.toInt < v.toInt then a else (tb[(x.toInt - v.toInt).toNat]?).getD a, ls, st, h))
    | _ => none) else
  none
def ai_step (X : ai_X) (d op a b : Nat) (v : Int32) (tb : List Nat) (nx : Nat) (ls st : List Value) (h : ai_H) : Option ai_O :=
  if op ≤ 10 then ai_st1 op a b v nx ls st h
  else if op ≤ 21 then ai_st2 op a b nx ls st h
  else if op ≤ 32 then ai_st3 X op a b nx ls st h
  else if op ≤ 36 then ai_st4 d op a b tb nx ls st h
  else if op = 40 then ai_st4 d op a b tb nx ls st h
  else if op = 41 then ai_st4 d op a b tb nx ls st h
  else ai_st5 op a b v tb ls st h
def ai_ent (args : List Value) (ml : Nat) : List Value := args ++ List.replicate (ml - args.length) (.long 0)
def ai_ml (g : Nat) : Nat := ((ai_mt[g]?).map (·.2.2.1)).getD 0
def ai_exec : Nat → Nat → ai_X → Nat → Nat → List Value → List Value → ai_H → Option (Option Value × ai_H)
  | 0, _, _, _, _, _, _, _ => none
  | n + 1, d, X, f, pc, ls, st, h => match ai_fetch f pc with
    | none => none
    | some (op, a, b, v, tb, nx) => match ai_step X d op a b v tb nx ls st h with
      | none => none
      | some (.inl (pc', ls', st', h')) => ai_exec n d X f pc' ls' st' h'
      | some (.inr (.inl r)) => some (r, h)
      | some (.inr (.inr (g, args, rest))) => match d with
        | 0 => none
        | d' + 1 => match ai_exec n d' (0, fun _ => 0) g 0 (ai_ent args (ai_ml g)) [] h with
          | none => none
          | some (r, h') => ai_exec n (d' + 1) X f nx ls (r.toList ++ rest) h'
end
section
/-! the small machine's states upon the machine's: cells, locals -/
def ai_cv (sb N0 : Nat) (v : Value) : Value := match v with
  | .ref a => .ref (N0 + a)
  | .retAddr _ => .ref sb
  | .int x => .int x
  | .long x => .long x
  | .float x => .float x
  | .double x => .double x
  | .null => .null
theorem ai_cv_cat (sb N0 : Nat) (v : Value) : (ai_cv sb N0 v).category = v.category := by cases v <;> rfl
def ai_rn (N0 : Nat) (n : Nat) : Option Nat := match n with
  | 0 => none
  | b + 1 => some (N0 + b)
theorem ai_cv_rv (sb N0 n : Nat) : ai_cv sb N0 (ai_rv n) = va_rf (ai_rn N0 n) := by cases n <;> rfl
def ai_L (sb N0 nL : Nat) (als : List Value) (ls : Array Slot) : Prop := ls.size = nL ∧ lv_wf ls ∧ als.length = nL ∧ ∀ (i : Nat) (v : Value), als[i]? = some v → v.category = 1 → ls[i]? = some (.val (ai_cv sb N0 v))
def ai_lv (sb N0 : Nat) (als : List Value) : List (Nat × Value) := (List.range als.length).filterMap (fun i => match als[i]? with
  | some v => if v.category = 1 then some (i, ai_cv sb N0 v) else none
  | none => none)
theorem ai_lv_mem {sb N0 : Nat} {als : List Value} {i : Nat} {v : Value} (h : als[i]? = some v) (hc : v.category = 1) : (i, ai_cv sb N0 v) ∈ ai_lv sb N0 als := by
  refine List.mem_filterMap.mpr ⟨i, List.mem_range.mpr (List.getElem?_eq_some_iff.mp h).1, ?_⟩
  rw [h]
  exact if_pos hc
theorem ai_lv_inv {sb N0 : Nat} {als : List Value} {q : Nat × Value} (h : q ∈ ai_lv sb N0 als) : ∃ v, als[q.1]? = some v ∧ v.category = 1 ∧ q.2 = ai_cv sb N0 v := by
  obtain ⟨i, -, hi⟩ := List.mem_filterMap.mp h
  cases e : als[i]? with
  | none => rw [e] at hi; cases hi
  | some v =>
    rw [e] at hi
    by_cases hc : v.category = 1
    · have hi : (if v.category = 1 then some (i, ai_cv sb N0 v) else none) = some q := hi
      rw [if_pos hc] at hi
      cases hi
      exact ⟨v, e, hc, rfl⟩
    · have hi : (if v.category = 1 then some (i, ai_cv sb N0 v) else none) = some q := hi
      rw [if_neg hc] at hi
      cases hi
theorem ai_L.has {sb N0 nL : Nat} {als : List Value} {ls : Array Slot} (h : ai_L sb N0 nL als ls) : lv_has ls nL (ai_lv sb N0 als) := by
  refine ⟨h.1, h.2.1, fun q hq => ?_⟩
  obtain ⟨v, h1, h2, h3⟩ := ai_lv_inv hq
  rw [h3]
  exact h.2.2.2 _ _ h1 h2
theorem ai_L.at {sb N0 nL : Nat} {als : List Value} {ls : Array Slot} (h : ai_L sb N0 nL als ls) {i : Nat} {v : Value} (e : als[i]? = some v) (hc : v.category = 1) : ls[i]? = some (.val (ai_cv sb N0 v)) := h.2.2.2 i v e hc
theorem ai_L.set {sb N0 nL i : Nat} {als : List Value} {ls ls' : Array Slot} {w : Value} (h : ai_L sb N0 nL als ls)
    (h' : lv_has ls' nL ((i, ai_cv sb N0 w) :: (ai_lv sb N0 als).filter (fun q => !(q.1 == i) && !(q.1 + 1 == i && q.2.category == 2)))) : ai_L sb N0 nL (als.set i w) ls' := by
  refine ⟨h'.1, h'.2.1, by rw [List.length_set]; exact h.2.2.1, fun j v e hc => ?_⟩
  by_cases hj : j = i
  · subst hj
    rw [List.getElem?_set] at e
    split at e
    · split at e
      · cases e
        exact h'.2.2 (j, ai_cv sb N0 w) List.mem_cons_self
      · cases e
    · rename_i hne
      exact absurd rfl hne
  · rw [List.getElem?_set_ne (Ne.symm hj)] at e
    refine h'.2.2 (j, ai_cv sb N0 v) (List.mem_cons_of_mem _ (List.mem_filter.mpr ⟨ai_lv_mem e hc, ?_⟩))
    simp [hj, ai_cv_cat, hc]
def ai_aty (kd : Nat) : FieldType := match kd with
  | 8 => .char
  | 9 => .int
  | 10 => .object RX3
  | 11 => .object RX4
  | _ => .array .int
def ai_tys (cA : Nat → ClassId) : List (ClassId × FieldType) := [(cA 8, .char), (cA 9, .int), (cA 10, .object RX3), (cA 11, .object RX4), (cA 12, .array .int)]
def ai_nf (kd : Nat) : Nat := ((vwCl[kd]?).map (·.2.2)).getD 0
def ai_fs (N0 kd : Nat) (fi : Nat → Int32) (fr : Nat → Nat) : List Value := (List.range (ai_nf kd)).map (fun j => if ai_isref kd j then va_rf (ai_rn N0 (fr j)) else .int (fi j))
def ai_E (N0 : Nat) (cA : Nat → ClassId) (fi : Nat → Int32) (fr : Nat → Nat) (kd n : Nat) : va_E :=
  if kd < 8 then .inr (kd, ai_fs N0 kd fi fr)
  else if kd < 10 then .inl (cA kd, n, .inl fi)
  else .inl (cA kd, n, .inr (.inr (.inr (.inr (fun j => ai_rn N0 (fr j))))))
def ai_P (N0 : Nat) (D : va_G) (cA : Nat → ClassId) (h : ai_H) (H : Heap) : Prop := H.size = N0 + h.1.length ∧ ∀ a kd n, h.1[a]? = some (kd, n) → va_at D vwCl (N0 + a, ai_E N0 cA (h.2.1 a) (h.2.2 a) kd n) H ∧ kd ≤ 12
def ai_G (D : va_G) (cA : Nat → ClassId) (s : State) : Prop := va_K D vwCl (ai_tys cA) s ∧ (∀ w ∈ ai_nt.flatMap ai_nl, va_Nw w s) ∧ va_AO RX3 s ∧ va_AO RX4 s ∧ (Cond.arrayOver (.array .int)).before #[] s = true
def ai_Cx (p : Program) (s : State) (m : MethodId) (args : Array Value) (meth : Method) (c : Code) (q : ai_M) (D : va_G) (cA : Nat → ClassId) : Prop :=
  p.tables.exec = Jvm.exec ∧ c.code = q.2.1 ∧ c.maxLocals = q.2.2.1 ∧ s.vm.findClass q.1.cls = some m.cls ∧ (∀ w ∈ ai_ws, w.before args s = true) ∧ (q.1.name = "<init>" → meth.name = "<init>") ∧ ai_G D cA s
def ai_Sx (X : ai_X) (sb N0 : Nat) (s : State) : Prop := X.1 = 0 ∨ (va_X sb X.1 X.2 s s.heap ∧ sb < s.heap.size ∧ sb < N0)
def ai_sum (h : ai_H) : Nat := (h.1.map (·.2)).sum
theorem ai_P.hit {N0 : Nat} {D : va_G} {cA : Nat → ClassId} {h : ai_H} {H : Heap} (hP : ai_P N0 D cA h H) {a kd n : Nat} (e : h.1[a]? = some (kd, n)) : va_P D vwCl [(N0 + a, ai_E N0 cA (h.2.1 a) (h.2.2 a) kd n)] H := by
  intro k q hk
  have h0 : k < 1 := (List.getElem?_eq_some_iff.mp hk).1
  rw [show k = 0 by omega] at hk
  cases hk
  exact (hP.2 a kd n e).1
theorem ai_kd_at {h : ai_H} {q kd : Nat} (e : ai_kd h q = some kd) : ∃ n, h.1[q]? = some (kd, n) := by
  unfold ai_kd at e
  cases hq : h.1[q]? with
  | none => rw [hq] at e; cases e
  | some x =>
    rw [hq] at e
    obtain ⟨k, n⟩ := x
    cases e
    exact ⟨n, rfl⟩
/-- one cell changes -/
theorem ai_P.put {N0 : Nat} {D : va_G} {cA : Nat → ClassId} {h h' : ai_H} {H H1 : Heap} (hP : ai_P N0 D cA h H) {q kd n : Nat} (e : h.1[q]? = some (kd, n)) (hK : h'.1 = h.1) (hz : H1.size = H.size) (oq : ∀ x : Nat, x ≠ N0 + q → H1[x]? = H[x]?)
    (hi : ∀ a, a ≠ q → h'.2.1 a = h.2.1 a) (hr : ∀ a, a ≠ q → h'.2.2 a = h.2.2 a) (he : va_at D vwCl (N0 + q, ai_E N0 cA (h'.2.1 q) (h'.2.2 q) kd n) H1) : ai_P N0 D cA h' H1 := by
  refine ⟨by rw [hz, hP.1, hK], fun a kd' n' ha => ?_⟩
  rw [hK] at ha
  by_cases hq : a = q
  · subst hq
    rw [ha] at e
    cases e
    exact ⟨he, (hP.2 _ _ _ ha).2⟩
  · rw [hi a hq, hr a hq]
    exact ⟨(hP.2 _ _ _ ha).1.kept (oq _ (by show N0 + a ≠ N0 + q; omega)), (hP.2 _ _ _ ha).2⟩
theorem ai_u_same {α : Type} (M : Nat → Nat → α) (a j : Nat) (v : α) : ai_u M a j v a = fun i => if i = j then v else M a i := by
  funext i
  simp [ai_u]
theorem ai_u_other {α : Type} (M : Nat → Nat → α) (a j : Nat) (v : α) {b : Nat} (h : b ≠ a) : ai_u M a j v b = M b := by
  funext i
  simp [ai_u, h]
/-- cells come at the end -/
theorem ai_P.push {N0 : Nat} {D : va_G} {cA : Nat → ClassId} {h h' : ai_H} {H H1 : Heap} (hP : ai_P N0 D cA h H) {kd n : Nat} (hkd : kd ≤ 12) (hK : h'.1 = h.1 ++ [(kd, n)]) (hz : H1.size = H.size + 1) (oq : ∀ x : Nat, x < H.size → H1[x]? = H[x]?)
    (hi : ∀ a, a < h.1.length → h'.2.1 a = h.2.1 a) (hr : ∀ a, a < h.1.length → h'.2.2 a = h.2.2 a) (he : va_at D vwCl (N0 + h.1.length, ai_E N0 cA (h'.2.1 h.1.length) (h'.2.2 h.1.length) kd n) H1) : ai_P N0 D cA h' H1 := by
  refine ⟨by rw [hz, hP.1, hK, List.length_append]; simp only [List.length_cons, List.length_nil]; omega, fun a kd' n' ha => ?_⟩
  rw [hK] at ha
  by_cases hq : a < h.1.length
  · rw [List.getElem?_append_left hq] at ha
    rw [hi a hq, hr a hq]
    exact ⟨(hP.2 _ _ _ ha).1.kept (oq _ (by show N0 + a < H.size; rw [hP.1]; omega)), (hP.2 _ _ _ ha).2⟩
  · rw [List.getElem?_append_right (by omega)] at ha
    have h0 : a - h.1.length < 1 := (List.getElem?_eq_some_iff.mp ha).1
    have h1 : a = h.1.length := by omega
    subst h1
    rw [Nat.sub_self] at ha
    cases ha
    exact ⟨he, hkd⟩
theorem ai_z_same {α : Type} (M : Nat → Nat → α) (a : Nat) (v : α) : ai_z M a v a = fun _ => v := by
  funext i
  simp [ai_z]
theorem ai_z_other {α : Type} (M : Nat → Nat → α) (a : Nat) (v : α) {b : Nat} (h : b ≠ a) : ai_z M a v b = M b := by
  funext i
  simp [ai_z, h]
theorem ai_S.grow {A : Nat → Prop} {H0 H H1 : Heap} {locs : List Loc} (hS : va_S A H0 H locs) (hz : H.size ≤ H1.size) (oq : ∀ x : Nat, x < H.size → H1[x]? = H[x]?) : va_S A H0 H1 locs :=
  ⟨Nat.le_trans hS.1 hz, fun x h1 h2 => (oq x (Nat.lt_of_lt_of_le h1 hS.1)).trans (hS.2.1 x h1 h2), hS.2.2⟩
/-! the tables' facts, as they are used -/
theorem ai_cl_in {k : Nat} {q : vw_C} (h : vwCl[k]? = some q) : (∀ w ∈ u_ws q.1 q.2.1 q.2.2, w ∈ ai_ws) ∧ Cond.instantiable q.1 q.2.2 ∈ ai_ws ∧ Cond.initialized q.1 ∈ ai_ws := by
  have h1 : ∀ w ∈ ai_cw q, w ∈ ai_ws := fun w hw => by
    have h2 : w ∈ vwCl.flatMap ai_cw := List.mem_flatMap.mpr ⟨q, List.mem_of_getElem? h, hw⟩
    unfold ai_ws
    simp only [List.mem_append]
    exact Or.inr (Or.inr (Or.inr (Or.inr (Or.inr (Or.inl h2)))))
  exact ⟨fun w hw => h1 w (List.mem_append_left _ hw), h1 _ (List.mem_append_right _ (by simp)), h1 _ (List.mem_append_right _ (by simp))⟩
theorem ai_cl_b {k : Nat} {q : vw_C} (h : vwCl[k]? = some q) : (∀ j, j < q.2.2 → ai_tyb k q j = true) ∧ ∀ a, a < q.2.2 → ∀ b, b < q.2.2 → a ≠ b → (q.2.1 a).2.1 ≠ (q.2.1 b).2.1 := by
  have hk : k < 8 := (List.getElem?_eq_some_iff.mp h).1
  have h1 := List.all_eq_true.mp ai_clb_ok k (List.mem_range.mpr hk)
  unfold ai_clb at h1
  rw [h] at h1
  simp only [Bool.and_eq_true, List.all_eq_true, List.mem_range, Bool.or_eq_true, decide_eq_true_eq] at h1
  refine ⟨h1.1, fun a ha b hb hne => ?_⟩
  rcases h1.2 a ha b hb with e | e
  · exact absurd e hne
  · exact e
theorem ai_ty_ok {k : Nat} {q : vw_C} (h : vwCl[k]? = some q) : ∀ j, j < q.2.2 → parseFieldDescriptor (q.2.1 j).2.2.1 = some (ai_ty q j) := fun j hj => by
  have h1 := (ai_cl_b h).1 j hj
  unfold ai_tyb at h1
  simp only [Bool.and_eq_true, decide_eq_true_eq] at h1
  exact h1.1.2
theorem ai_ty_own {k : Nat} {q : vw_C} (h : vwCl[k]? = some q) : ∀ j, j < q.2.2 → (q.2.1 j).1 = q.1 := fun j hj => by
  have h1 := (ai_cl_b h).1 j hj
  unfold ai_tyb at h1
  simp only [Bool.and_eq_true, decide_eq_true_eq] at h1
  exact h1.1.1
theorem ai_ty_int {k : Nat} {q : vw_C} (h : vwCl[k]? = some q) {j : Nat} (hj : j < q.2.2) (hr : ai_isref k j = false) : ai_ty q j = .int ∨ (ai_ty q j = .boolean ∧ ai_bool k j = true) := by
  have h1 := (ai_cl_b h).1 j hj
  unfold ai_tyb at h1
  rw [hr] at h1
  simp at h1
  rcases h1.2 with e | e
  · exact Or.inl e
  · exact Or.inr ⟨e.1, e.2⟩
theorem ai_ty_ref {k : Nat} {q : vw_C} (h : vwCl[k]? = some q) {j : Nat} (hj : j < q.2.2) (hr : ai_isref k j = true) : (∃ n, ai_ty q j = .object n) ∨ ∃ t, ai_ty q j = .array t := by
  have h1 := (ai_cl_b h).1 j hj
  unfold ai_tyb at h1
  rw [hr] at h1
  simp only [Bool.and_eq_true, if_true] at h1
  have h2 := h1.2
  cases e : ai_ty q j with
  | object n => exact Or.inl ⟨n, rfl⟩
  | array t => exact Or.inr ⟨t, rfl⟩
  | _ => rw [e] at h2; cases h2
theorem ai_find_in {α : Type} {l : List (String × Nat × α)} {own : String} {i : Nat} {r : α} (h : (l.find? (fun q => q.2.1 == i && q.1 == own)).map (·.2.2) = some r) : (own, i, r) ∈ l := by
  cases e : l.find? (fun q => q.2.1 == i && q.1 == own) with
  | none => rw [e] at h; cases h
  | some x =>
    rw [e] at h
    have h1 := List.find?_some e
    have h2 := List.mem_of_find?_eq_some e
    simp only [Bool.and_eq_true, beq_iff_eq] at h1
    obtain ⟨a, b, c⟩ := x
    cases h
    obtain ⟨e1, e2⟩ := h1
    dsimp only at e1 e2
    subst e1
    subst e2
    exact h2
theorem ai_fld_ok {own : String} {i k j : Nat} (h : ai_fld own i = some (k, j)) : ∃ q, vwCl[k]? = some q ∧ j < q.2.2 ∧ Cond.fieldLink own i q.1 (q.2.1 j).2.1 (q.2.1 j).2.2.1 ∈ ai_ws := by
  have h1 : (own, i, k, j) ∈ ai_ft := ai_find_in h
  have h2 := List.all_eq_true.mp ai_ftb_ok _ h1
  unfold ai_ftb at h2
  cases e : vwCl[k]? with
  | none => rw [e] at h2; cases h2
  | some q =>
    rw [e] at h2
    refine ⟨q, rfl, of_decide_eq_true h2, ?_⟩
    have h3 : Cond.fieldLink own i q.1 (q.2.1 j).2.1 (q.2.1 j).2.2.1 ∈ ai_ft.flatMap ai_fw := List.mem_flatMap.mpr ⟨_, h1, by unfold ai_fw; rw [e]; exact List.mem_singleton.mpr rfl⟩
    unfold ai_ws
    simp only [List.mem_append]
    exact Or.inr (Or.inr (Or.inr (Or.inl h3)))
theorem ai_con_ok {own : String} {i : Nat} {v : Int32} (h : ai_con own i = some v) : Cond.constant own i v ∈ ai_ws := by
  have h1 : (own, i, v) ∈ ai_ct := ai_find_in h
  have h3 : Cond.constant own i v ∈ ai_ct.flatMap (fun e => [Cond.constant e.1 e.2.1 e.2.2]) := List.mem_flatMap.mpr ⟨_, h1, List.mem_singleton.mpr rfl⟩
  unfold ai_ws
  simp only [List.mem_append]
  exact Or.inr (Or.inr (Or.inr (Or.inr (Or.inr (Or.inr (Or.inl h3))))))
theorem ai_kls_ok {own : String} {i k : Nat} (h : ai_kls own i = some k) : (own, i, k) ∈ ai_kt := ai_find_in h
theorem ai_kls_in {own : String} {i k : Nat} (h : ai_kls own i = some k) : (∀ q, vwCl[k]? = some q → Cond.classLink own i q.1 ∈ ai_ws) ∧ (k = 12 → Cond.classLink own i "[[I" ∈ ai_ws) := by
  have h1 := ai_kls_ok h
  have key : ∀ w ∈ ai_kw (own, i, k), w ∈ ai_ws := fun w hw => by
    have h3 : w ∈ ai_kt.flatMap ai_kw := List.mem_flatMap.mpr ⟨_, h1, hw⟩
    unfold ai_ws
    simp only [List.mem_append]
    exact Or.inr (Or.inr (Or.inr (Or.inr (Or.inl h3))))
  refine ⟨fun q e => key _ (by unfold ai_kw; rw [e]; exact List.mem_singleton.mpr rfl), fun e => key _ ?_⟩
  subst e
  exact List.mem_singleton.mpr rfl
theorem ai_misc_in : ∀ w ∈ ai_misc, w ∈ ai_ws := fun w h => by
  unfold ai_ws
  simp only [List.mem_append]
  exact Or.inr (Or.inr (Or.inr (Or.inr (Or.inr (Or.inr (Or.inr (Or.inr (Or.inr h))))))))
theorem ai_g_inv {c : Bool} {r r' : ai_R} (h : ai_g c r = some r') : c = true ∧ r = r' := by
  unfold ai_g at h
  cases c
  · cases h
  · exact ⟨rfl, Option.some.inj h⟩
theorem ai_t_inv {pc t : Nat} {o : Int} (h : ai_t pc o = some t) : (pc : Int) + o = (t : Int) := by
  unfold ai_t at h
  split at h
  · have := Option.some.inj h
    omega
  · cases h
theorem ai_bind_inv {α β : Type} {x : Option α} {f : α → Option β} {r : β} (h : x.bind f = some r) : ∃ a, x = some a ∧ f a = some r := Option.bind_eq_some_iff.mp h
theorem ai_fetch_inv {f pc : Nat} {r : ai_R} {q : ai_M} (hm : ai_mt[f]? = some q) (h : ai_fetch f pc = some r) : ∃ i len, decode q.2.1 pc = .ok (i, len) ∧ ai_res q.1 q.2.2.2.1 pc i len = some r := by
  unfold ai_fetch at h
  rw [hm] at h
  have h : (match decode q.2.1 pc with
    | .ok (i, len) => ai_res q.1 q.2.2.2.1 pc i len
    | .error _ => none) = some r := h
  cases e : decode q.2.1 pc with
  | error x => rw [e] at h; cases h
  | ok x =>
    rw [e] at h
    exact ⟨x.1, x.2, rfl, h⟩
end
section
/-! one step of the small machine is a step of the machine -/
theorem ai_inv_op {g pc k : Nat} {op a b : Nat} {v : Int32} {tb : List Nat} {nx : Nat} (h : ai_inv g pc k = some (op, a, b, v, tb, nx)) : 37 ≤ op ∧ op ≤ 39 := by
  unfold ai_inv at h
  obtain ⟨w, hw, hr⟩ := ai_bind_inv h
  split at hr
  · split at hr
    · cases hr; omega
    · cases hr; split <;> omega
  · cases hr
theorem ai_res_inv {y : MethodName} {ret : Option FieldType} {pc len : Nat} {i : Instr} {op a b : Nat} {v : Int32} {tb : List Nat} {nx : Nat} (h : ai_res y ret pc i len = some (op, a, b, v, tb, nx))
    (hi : (∃ n, i = .invokestatic n) ∨ (∃ n, i = .invokevirtual n) ∨ ∃ n, i = .invokespecial n) : 37 ≤ op ∧ op ≤ 41 := by
  rcases hi with ⟨n, rfl⟩ | ⟨n, rfl⟩ | ⟨n, rfl⟩
  · simp only [ai_res] at h
    split at h
    · obtain ⟨h1, he⟩ := ai_g_inv h; cases he; omega
    · split at h
      · split at h
        · have := ai_inv_op h; omega
        · obtain ⟨w, hw, hr⟩ := ai_bind_inv h
          have := ai_inv_op hr; omega
      · cases h
  · simp only [ai_res] at h
    split at h
    · obtain ⟨w, hw, hr⟩ := ai_bind_inv h
      have := ai_inv_op hr; omega
    · cases h
  · simp only [ai_res] at h
    split at h
    · obtain ⟨h1, he⟩ := ai_g_inv h; cases he; omega
    · split at h
      · split at h
        · have := ai_inv_op h; omega
        · obtain ⟨w, hw, hr⟩ := ai_bind_inv h
          have := ai_inv_op hr; omega
      · cases h
section AIS
variable {p : Program} {l : Launch} {e : Env} {R : Room} {s : State} {m : MethodId} {args : Array Value} {below : List Frame} {meth : Method} {c : Code} {Q : State → Prop}
variable {q : ai_M} {D : va_G} {cA : Nat → ClassId} {sb N0 L0 S0 d : Nat} {X : ai_X}
/-- what the machine must do behind a step: for every state that stands for (pc', als', st', h') -/
def ai_K (p : Program) (l : Launch) (e : Env) (R : Room) (s : State) (m : MethodId) (args : Array Value) (below : List Frame) (meth : Method) (c : Code) (Q : State → Prop) (q : ai_M) (D : va_G) (cA : Nat → ClassId) (sb N0 L0 S0 : Nat) (o : Nat × List Value × List Value × ai_H) : Prop :=
  ∀ (ls : Array Slot) (H : Heap) (locs : List Loc) (cells slots : Nat), ai_L sb N0 q.2.2.1 o.2.1 ls → ai_P N0 D cA o.2.2.2 H → va_S (fun x => N0 ≤ x) s.heap H locs → cells + L0 = o.2.2.2.1.length → slots + S0 = ai_sum o.2.2.2 →
    W p l e R s m args below meth c H locs cells slots Q (F0 m o.1 ls (o.2.2.1.map (ai_cv sb N0)))
theorem ai_len {len n : Nat} (h : (len == n) = true) : len = n := by simpa using h
theorem ai_one1 (C : ai_Cx p s m args meth c q D cA) {i : Instr} {len pc op a b : Nat} {v : Int32} {tb : List Nat} {nx : Nat} (hd : decode q.2.1 pc = .ok (i, len)) (hr : ai_res q.1 q.2.2.2.1 pc i len = some (op, a, b, v, tb, nx)) (hop : op ≤ 10)
    {als st : List Value} {h : ai_H} {o : Nat × List Value × List Value × ai_H} (hs : ai_st1 op a b v nx als st h = some (.inl o)) (kk : ai_K p l e R s m args below meth c Q q D cA sb N0 L0 S0 o)
    {ls : Array Slot} {H : Heap} {locs : List Loc} {cells slots : Nat} (hl : ai_L sb N0 q.2.2.1 als ls) (hP : ai_P N0 D cA h H) (hS : va_S (fun x => N0 ≤ x) s.heap H locs) (hc : cells + L0 = h.1.length) (hz : slots + S0 = ai_sum h) :
    W p l e R s m args below meth c H locs cells slots Q (F0 m pc ls (st.map (ai_cv sb N0))) := by
  obtain ⟨hx, hb, hml, hown, hts, hnm, hG⟩ := C
  cases i with
  | iconst n =>
    obtain ⟨h1, he⟩ := ai_g_inv hr; cases he; obtain rfl := ai_len h1
    simp only [ai_st1, reduceIte, Nat.reduceEqDiff, Nat.reduceEqDiff, reduceCtorEq, if_false, Nat.one_ne_zero, Nat.succ_ne_zero] at hs; cases hs
    exact lv_iconst hx hb hd rfl (kk _ _ _ _ _ hl hP hS hc hz)
  | bipush n =>
    obtain ⟨h1, he⟩ := ai_g_inv hr; cases he; obtain rfl := ai_len h1
    simp only [ai_st1, reduceIte, Nat.reduceEqDiff, Nat.reduceEqDiff, reduceCtorEq, if_false, Nat.one_ne_zero, Nat.succ_ne_zero] at hs; cases hs
    exact lv_bipush hx hb hd rfl (kk _ _ _ _ _ hl hP hS hc hz)
  | sipush n =>
    obtain ⟨h1, he⟩ := ai_g_inv hr; cases he; obtain rfl := ai_len h1
    simp only [ai_st1, reduceIte, Nat.reduceEqDiff, Nat.reduceEqDiff, reduceCtorEq, if_false, Nat.one_ne_zero, Nat.succ_ne_zero] at hs; cases hs
    exact lv_sipush hx hb hd rfl (kk _ _ _ _ _ hl hP hS hc hz)
  | ldc n =>
    obtain ⟨w, hw, hr⟩ := ai_bind_inv hr
    obtain ⟨h1, he⟩ := ai_g_inv hr; cases he; obtain rfl := ai_len h1
    simp only [ai_st1, reduceIte, Nat.reduceEqDiff, Nat.reduceEqDiff, reduceCtorEq, if_false, Nat.one_ne_zero, Nat.succ_ne_zero] at hs; cases hs
    exact lv_ldc hx hb hown (hts _ (ai_con_ok hw)) hd (kk _ _ _ _ _ hl hP hS hc hz)
  | iload_n k =>
    obtain ⟨h1, he⟩ := ai_g_inv hr; cases he; obtain rfl := ai_len h1
    simp only [ai_st1, reduceIte, Nat.reduceEqDiff, Nat.reduceEqDiff, reduceCtorEq, if_false, Nat.one_ne_zero, Nat.succ_ne_zero] at hs
    split at hs
    · rename_i x hx1; cases hs
      exact lv_iload_n hx hb hd rfl (hl.at hx1 rfl) (kk _ _ _ _ _ hl hP hS hc hz)
    · cases hs
  | iload k =>
    obtain ⟨h1, he⟩ := ai_g_inv hr; cases he; obtain rfl := ai_len h1
    simp only [ai_st1, reduceIte, Nat.reduceEqDiff, Nat.reduceEqDiff, reduceCtorEq, if_false, Nat.one_ne_zero, Nat.succ_ne_zero] at hs
    split at hs
    · rename_i x hx1; cases hs
      exact lv_iload hx hb hd (hl.at hx1 rfl) (kk _ _ _ _ _ hl hP hS hc hz)
    · cases hs
  | aload_n k =>
    obtain ⟨h1, he⟩ := ai_g_inv hr; cases he; obtain rfl := ai_len h1
    simp only [ai_st1, reduceIte, Nat.reduceEqDiff, Nat.reduceEqDiff, reduceCtorEq, if_false, Nat.one_ne_zero, Nat.succ_ne_zero] at hs
    split at hs
    · rename_i x hx1; cases hs
      exact lv_aload_n hx hb hd rfl (hl.at hx1 rfl) (kk _ _ _ _ _ hl hP hS hc hz)
    · rename_i hx1; cases hs
      exact lv_aload_nN hx hb hd rfl (hl.at hx1 rfl) (kk _ _ _ _ _ hl hP hS hc hz)
    · rename_i x hx1; cases hs
      exact lv_aload_n hx hb hd rfl (hl.at hx1 rfl) (kk _ _ _ _ _ hl hP hS hc hz)
    · cases hs
  | aload k =>
    obtain ⟨h1, he⟩ := ai_g_inv hr; cases he; obtain rfl := ai_len h1
    simp only [ai_st1, reduceIte, Nat.reduceEqDiff, Nat.reduceEqDiff, reduceCtorEq, if_false, Nat.one_ne_zero, Nat.succ_ne_zero] at hs
    split at hs
    · rename_i x hx1; cases hs
      exact lv_aload hx hb hd (hl.at hx1 rfl) (kk _ _ _ _ _ hl hP hS hc hz)
    · rename_i hx1; cases hs
      exact lv_aloadN hx hb hd (hl.at hx1 rfl) (kk _ _ _ _ _ hl hP hS hc hz)
    · rename_i x hx1; cases hs
      exact lv_aload hx hb hd (hl.at hx1 rfl) (kk _ _ _ _ _ hl hP hS hc hz)
    · cases hs
  | istore_n k =>
    obtain ⟨h1, he⟩ := ai_g_inv hr; cases he; obtain rfl := ai_len h1
    simp only [ai_st1, reduceIte, Nat.reduceEqDiff, Nat.reduceEqDiff, reduceCtorEq, if_false, Nat.one_ne_zero, Nat.succ_ne_zero] at hs
    split at hs
    · split at hs
      · rename_i hlt; cases hs
        exact lv_istore_n hx hb hd rfl hl.has (by rw [← hl.2.2.1]; exact hlt) rfl (fun ls' h' => kk _ _ _ _ _ (hl.set (w := .int _) h') hP hS hc hz)
      · cases hs
    · cases hs
  | istore k =>
    obtain ⟨h1, he⟩ := ai_g_inv hr; cases he; obtain rfl := ai_len h1
    simp only [ai_st1, reduceIte, Nat.reduceEqDiff, Nat.reduceEqDiff, reduceCtorEq, if_false, Nat.one_ne_zero, Nat.succ_ne_zero] at hs
    split at hs
    · split at hs
      · rename_i hlt; cases hs
        exact lv_istore hx hb hd hl.has (by rw [← hl.2.2.1]; exact hlt) rfl (fun ls' h' => kk _ _ _ _ _ (hl.set (w := .int _) h') hP hS hc hz)
      · cases hs
    · cases hs
  | astore_n k =>
    obtain ⟨h1, he⟩ := ai_g_inv hr; cases he; obtain rfl := ai_len h1
    simp only [ai_st1, reduceIte, Nat.reduceEqDiff, Nat.reduceEqDiff, reduceCtorEq, if_false, Nat.one_ne_zero, Nat.succ_ne_zero] at hs
    split at hs
    · split at hs
      · rename_i hlt; cases hs
        exact lv_astore_n hx hb hd rfl hl.has (by rw [← hl.2.2.1]; exact hlt) rfl (fun ls' h' => kk _ _ _ _ _ (hl.set (w := .ref _) h') hP hS hc hz)
      · cases hs
    · split at hs
      · rename_i hlt; cases hs
        exact lv_astore_nN hx hb hd rfl hl.has (by rw [← hl.2.2.1]; exact hlt) rfl (fun ls' h' => kk _ _ _ _ _ (hl.set (w := .null) h') hP hS hc hz)
      · cases hs
    · cases hs
  | astore k =>
    obtain ⟨h1, he⟩ := ai_g_inv hr; cases he; obtain rfl := ai_len h1
    simp only [ai_st1, reduceIte, Nat.reduceEqDiff, Nat.reduceEqDiff, reduceCtorEq, if_false, Nat.one_ne_zero, Nat.succ_ne_zero] at hs
    split at hs
    · split at hs
      · rename_i hlt; cases hs
        exact lv_astore hx hb hd hl.has (by rw [← hl.2.2.1]; exact hlt) rfl (fun ls' h' => kk _ _ _ _ _ (hl.set (w := .ref _) h') hP hS hc hz)
      · cases hs
    · split at hs
      · rename_i hlt; cases hs
        exact lv_astoreN hx hb hd hl.has (by rw [← hl.2.2.1]; exact hlt) rfl (fun ls' h' => kk _ _ _ _ _ (hl.set (w := .null) h') hP hS hc hz)
      · cases hs
    · cases hs
  | iinc k n =>
    obtain ⟨h1, he⟩ := ai_g_inv hr; cases he; obtain rfl := ai_len h1
    simp only [ai_st1, reduceIte, Nat.reduceEqDiff, Nat.reduceEqDiff, reduceCtorEq, if_false, Nat.one_ne_zero, Nat.succ_ne_zero] at hs
    split at hs
    · rename_i x hx1; cases hs
      obtain ⟨z, hz1⟩ := List.getElem?_of_mem (ai_lv_mem (sb := sb) (N0 := N0) hx1 rfl)
      exact lv_iinc hx hb hd hl.has hz1 rfl (by rw [← hl.2.2.1]; exact (List.getElem?_eq_some_iff.mp hx1).1) rfl (fun ls' h' => kk _ _ _ _ _ (hl.set (w := .int _) h') hP hS hc hz)
    · cases hs
  | iadd =>
    obtain ⟨h1, he⟩ := ai_g_inv hr; cases he; obtain rfl := ai_len h1
    simp only [ai_st1, reduceIte, Nat.reduceEqDiff, Nat.reduceEqDiff, reduceCtorEq, if_false, Nat.one_ne_zero, Nat.succ_ne_zero] at hs
    split at hs
    · cases hs; exact lv_iadd hx hb hd (kk _ _ _ _ _ hl hP hS hc hz)
    · cases hs
  | isub =>
    obtain ⟨h1, he⟩ := ai_g_inv hr; cases he; obtain rfl := ai_len h1
    simp only [ai_st1, reduceIte, Nat.reduceEqDiff, Nat.reduceEqDiff, reduceCtorEq, if_false, Nat.one_ne_zero, Nat.succ_ne_zero] at hs
    split at hs
    · cases hs; exact lv_isub hx hb hd (kk _ _ _ _ _ hl hP hS hc hz)
    · cases hs
  | imul =>
    obtain ⟨h1, he⟩ := ai_g_inv hr; cases he; obtain rfl := ai_len h1
    simp only [ai_st1, reduceIte, Nat.reduceEqDiff, Nat.reduceEqDiff, reduceCtorEq, if_false, Nat.one_ne_zero, Nat.succ_ne_zero] at hs
    split at hs
    · cases hs; exact lv_imul hx hb hd (kk _ _ _ _ _ hl hP hS hc hz)
    · cases hs
  | iand =>
    obtain ⟨h1, he⟩ := ai_g_inv hr; cases he; obtain rfl := ai_len h1
    simp only [ai_st1, reduceIte, Nat.reduceEqDiff, Nat.reduceEqDiff, reduceCtorEq, if_false, Nat.one_ne_zero, Nat.succ_ne_zero] at hs
    split at hs
    · cases hs; exact lv_iand hx hb hd (kk _ _ _ _ _ hl hP hS hc hz)
    · cases hs
  | ishl =>
    obtain ⟨h1, he⟩ := ai_g_inv hr; cases he; obtain rfl := ai_len h1
    simp only [ai_st1, reduceIte, Nat.reduceEqDiff, Nat.reduceEqDiff, reduceCtorEq, if_false, Nat.one_ne_zero, Nat.succ_ne_zero] at hs
    split at hs
    · cases hs; exact lv_ishl hx hb hd (kk _ _ _ _ _ hl hP hS hc hz)
    · cases hs
  | ishr =>
    obtain ⟨h1, he⟩ := ai_g_inv hr; cases he; obtain rfl := ai_len h1
    simp only [ai_st1, reduceIte, Nat.reduceEqDiff, Nat.reduceEqDiff, reduceCtorEq, if_false, Nat.one_ne_zero, Nat.succ_ne_zero] at hs
    split at hs
    · cases hs; exact lv_ishr hx hb hd (kk _ _ _ _ _ hl hP hS hc hz)
    · cases hs
  | ixor =>
    obtain ⟨h1, he⟩ := ai_g_inv hr; cases he; obtain rfl := ai_len h1
    simp only [ai_st1, reduceIte, Nat.reduceEqDiff, Nat.reduceEqDiff, reduceCtorEq, if_false, Nat.one_ne_zero, Nat.succ_ne_zero] at hs
    split at hs
    · cases hs; exact lv_ixor hx hb hd (kk _ _ _ _ _ hl hP hS hc hz)
    · cases hs
  | idiv =>
    obtain ⟨h1, he⟩ := ai_g_inv hr; cases he; obtain rfl := ai_len h1
    simp only [ai_st1, reduceIte, Nat.reduceEqDiff, Nat.reduceEqDiff, reduceCtorEq, if_false, Nat.one_ne_zero, Nat.succ_ne_zero] at hs
    split at hs
    · split at hs
      · cases hs
      · rename_i h0; cases hs; exact lv_idiv hx hb hd h0 (kk _ _ _ _ _ hl hP hS hc hz)
    · cases hs
  | irem =>
    obtain ⟨h1, he⟩ := ai_g_inv hr; cases he; obtain rfl := ai_len h1
    simp only [ai_st1, reduceIte, Nat.reduceEqDiff, Nat.reduceEqDiff, reduceCtorEq, if_false, Nat.one_ne_zero, Nat.succ_ne_zero] at hs
    split at hs
    · split at hs
      · cases hs
      · rename_i h0; cases hs; exact lv_irem hx hb hd h0 (kk _ _ _ _ _ hl hP hS hc hz)
    · cases hs
  | ineg =>
    obtain ⟨h1, he⟩ := ai_g_inv hr; cases he; obtain rfl := ai_len h1
    simp only [ai_st1, reduceIte, Nat.reduceEqDiff, Nat.reduceEqDiff, reduceCtorEq, if_false, Nat.one_ne_zero, Nat.succ_ne_zero] at hs
    split at hs
    · cases hs; exact lv_ineg hx hb hd (kk _ _ _ _ _ hl hP hS hc hz)
    · cases hs
  | i2c =>
    obtain ⟨h1, he⟩ := ai_g_inv hr; cases he; obtain rfl := ai_len h1
    simp only [ai_st1, reduceIte, Nat.reduceEqDiff, Nat.reduceEqDiff, reduceCtorEq, if_false, Nat.one_ne_zero, Nat.succ_ne_zero] at hs
    split at hs
    · cases hs; exact lv_i2c hx hb hd rfl (kk _ _ _ _ _ hl hP hS hc hz)
    · cases hs
  | dup | dup_x1 | dup_x2 | dup2 | pop | aconst_null | iaload | caload | aaload | iastore | castore | aastore | arraylength => 
    obtain ⟨h1, he⟩ := ai_g_inv hr; cases he; omega
  | goto o | if_icmp c o | ifCond c o | ifnull o | ifnonnull o =>
    obtain ⟨w, hw, hr⟩ := ai_bind_inv hr
    obtain ⟨h1, he⟩ := ai_g_inv hr; cases he; omega
  | getfield n | putfield n =>
    obtain ⟨w, hw, hr⟩ := ai_bind_inv hr
    obtain ⟨h1, he⟩ := ai_g_inv hr
    cases he
    split at hop <;> omega
  | new n =>
    obtain ⟨w, hw, hr⟩ := ai_bind_inv hr
    obtain ⟨w, hw, hr⟩ := ai_bind_inv hr
    obtain ⟨h1, he⟩ := ai_g_inv hr; cases he; omega
  | newarray t =>
    simp only [ai_res] at hr
    split at hr
    · obtain ⟨h1, he⟩ := ai_g_inv hr; cases he; omega
    · split at hr
      · obtain ⟨h1, he⟩ := ai_g_inv hr; cases he; omega
      · cases hr
  | anewarray n =>
    obtain ⟨w, hw, hr⟩ := ai_bind_inv hr
    split at hr
    · obtain ⟨h1, he⟩ := ai_g_inv hr; cases he; omega
    · split at hr
      · obtain ⟨h1, he⟩ := ai_g_inv hr; cases he; omega
      · cases hr
  | multianewarray n k =>
    obtain ⟨w, hw, hr⟩ := ai_bind_inv hr
    obtain ⟨h1, he⟩ := ai_g_inv hr; cases he; omega
  | ireturn | areturn | return_ =>
    simp only [ai_res] at hr
    repeat (split at hr; · (obtain ⟨h1, he⟩ := ai_g_inv hr; cases he; omega))
    cases hr
  | tableswitch df lo hi os =>
    obtain ⟨w, hw, hr⟩ := ai_bind_inv hr
    obtain ⟨w, hw, hr⟩ := ai_bind_inv hr
    obtain ⟨h1, he⟩ := ai_g_inv hr; cases he; omega
  | invokestatic n => exact absurd hop (by have := ai_res_inv hr (Or.inl ⟨n, rfl⟩); omega)
  | invokevirtual n => exact absurd hop (by have := ai_res_inv hr (Or.inr (Or.inl ⟨n, rfl⟩)); omega)
  | invokespecial n => exact absurd hop (by have := ai_res_inv hr (Or.inr (Or.inr ⟨n, rfl⟩)); omega)
  | _ => exact absurd hr (by simp [ai_res])
end AIS
end
section
/-! steps: the stack, branches, the switch -/
section AIS2
variable {p : Program} {l : Launch} {e : Env} {R : Room} {s : State} {m : MethodId} {args : Array Value} {below : List Frame} {meth : Method} {c : Code} {Q : State → Prop}
variable {q : ai_M} {D : va_G} {cA : Nat → ClassId} {sb N0 L0 S0 d : Nat} {X : ai_X}
theorem ai_c1_1 {x : Value} (h : ai_c1 [x] = true) : x.category = 1 := by simpa [ai_c1] using h
theorem ai_c1_2 {x y : Value} (h : ai_c1 [x, y] = true) : x.category = 1 ∧ y.category = 1 := by simpa [ai_c1] using h
theorem ai_c1_3 {x y z : Value} (h : ai_c1 [x, y, z] = true) : x.category = 1 ∧ y.category = 1 ∧ z.category = 1 := by simpa [ai_c1] using h
theorem ai_ts_get {pc : Nat} : ∀ {os : List Int} {ts : List Nat}, ai_ts pc os = some ts → os.length = ts.length ∧ ∀ (k t : Nat), ts[k]? = some t → ∃ o, os[k]? = some o ∧ (pc : Int) + o = (t : Int)
  | [], ts, h => by
    cases h
    exact ⟨rfl, fun k t h => by simp at h⟩
  | o :: os, ts, h => by
    obtain ⟨t0, h1, h2⟩ := ai_bind_inv h
    cases e : ai_ts pc os with
    | none => rw [e] at h2; cases h2
    | some ts' =>
      rw [e] at h2
      cases h2
      obtain ⟨g1, g2⟩ := ai_ts_get e
      refine ⟨by simp [g1], fun k t h => ?_⟩
      cases k with
      | zero => cases h; exact ⟨o, rfl, ai_t_inv h1⟩
      | succ k => exact g2 k t h
theorem ai_one2 (C : ai_Cx p s m args meth c q D cA) {i : Instr} {len pc op a b : Nat} {v : Int32} {tb : List Nat} {nx : Nat} (hd : decode q.2.1 pc = .ok (i, len)) (hr : ai_res q.1 q.2.2.2.1 pc i len = some (op, a, b, v, tb, nx)) (hop : 11 ≤ op ∧ op ≤ 21)
    {als st : List Value} {h : ai_H} {o : Nat × List Value × List Value × ai_H} (hs : ai_st2 op a b nx als st h = some (.inl o)) (kk : ai_K p l e R s m args below meth c Q q D cA sb N0 L0 S0 o)
    {ls : Array Slot} {H : Heap} {locs : List Loc} {cells slots : Nat} (hl : ai_L sb N0 q.2.2.1 als ls) (hP : ai_P N0 D cA h H) (hS : va_S (fun x => N0 ≤ x) s.heap H locs) (hc : cells + L0 = h.1.length) (hz : slots + S0 = ai_sum h) :
    W p l e R s m args below meth c H locs cells slots Q (F0 m pc ls (st.map (ai_cv sb N0))) := by
  obtain ⟨hx, hb, hml, hown, hts, hnm, hG⟩ := C
  cases i with
  | dup =>
    obtain ⟨h1, he⟩ := ai_g_inv hr; cases he; obtain rfl := ai_len h1
    simp only [ai_st2, reduceIte, Nat.reduceEqDiff, reduceCtorEq, if_false, Nat.one_ne_zero, Nat.succ_ne_zero] at hs
    split at hs
    · split at hs
      · rename_i hcc; cases hs
        exact lv_dup hx hb hd (by rw [ai_cv_cat]; exact ai_c1_1 hcc) (kk _ _ _ _ _ hl hP hS hc hz)
      · cases hs
    · cases hs
  | dup_x1 =>
    obtain ⟨h1, he⟩ := ai_g_inv hr; cases he; obtain rfl := ai_len h1
    simp only [ai_st2, reduceIte, Nat.reduceEqDiff, reduceCtorEq, if_false, Nat.one_ne_zero, Nat.succ_ne_zero] at hs
    split at hs
    · split at hs
      · rename_i hcc; cases hs
        exact lv_dup_x1 hx hb hd (by rw [ai_cv_cat]; exact (ai_c1_2 hcc).1) (by rw [ai_cv_cat]; exact (ai_c1_2 hcc).2) (kk _ _ _ _ _ hl hP hS hc hz)
      · cases hs
    · cases hs
  | dup_x2 =>
    obtain ⟨h1, he⟩ := ai_g_inv hr; cases he; obtain rfl := ai_len h1
    simp only [ai_st2, reduceIte, Nat.reduceEqDiff, reduceCtorEq, if_false, Nat.one_ne_zero, Nat.succ_ne_zero] at hs
    split at hs
    · split at hs
      · rename_i hcc; cases hs
        exact lv_dup_x2 hx hb hd (by rw [ai_cv_cat]; exact (ai_c1_3 hcc).1) (by rw [ai_cv_cat]; exact (ai_c1_3 hcc).2.1) (by rw [ai_cv_cat]; exact (ai_c1_3 hcc).2.2) (kk _ _ _ _ _ hl hP hS hc hz)
      · cases hs
    · cases hs
  | dup2 =>
    obtain ⟨h1, he⟩ := ai_g_inv hr; cases he; obtain rfl := ai_len h1
    simp only [ai_st2, reduceIte, Nat.reduceEqDiff, reduceCtorEq, if_false, Nat.one_ne_zero, Nat.succ_ne_zero] at hs
    split at hs
    · split at hs
      · rename_i hcc; cases hs
        exact lv_dup2_11 hx hb hd (by rw [ai_cv_cat]; exact (ai_c1_2 hcc).1) (by rw [ai_cv_cat]; exact (ai_c1_2 hcc).2) (kk _ _ _ _ _ hl hP hS hc hz)
      · cases hs
    · cases hs
  | pop =>
    obtain ⟨h1, he⟩ := ai_g_inv hr; cases he; obtain rfl := ai_len h1
    simp only [ai_st2, reduceIte, Nat.reduceEqDiff, reduceCtorEq, if_false, Nat.one_ne_zero, Nat.succ_ne_zero] at hs
    split at hs
    · split at hs
      · rename_i hcc; cases hs
        exact lv_pop hx hb hd (by rw [ai_cv_cat]; exact ai_c1_1 hcc) (kk _ _ _ _ _ hl hP hS hc hz)
      · cases hs
    · cases hs
  | aconst_null =>
    obtain ⟨h1, he⟩ := ai_g_inv hr; cases he; obtain rfl := ai_len h1
    simp only [ai_st2, reduceIte, Nat.reduceEqDiff, reduceCtorEq, if_false, Nat.one_ne_zero, Nat.succ_ne_zero] at hs
    cases hs
    exact lv_null hx hb hd (kk _ _ _ _ _ hl hP hS hc hz)
  | goto o =>
    obtain ⟨t, ht, hr⟩ := ai_bind_inv hr
    obtain ⟨h1, he⟩ := ai_g_inv hr; cases he; obtain rfl := ai_len h1
    simp only [ai_st2, reduceIte, Nat.reduceEqDiff, reduceCtorEq, if_false, Nat.one_ne_zero, Nat.succ_ne_zero] at hs
    cases hs
    exact lv_goto hx hb hd (ai_t_inv ht) (kk _ _ _ _ _ hl hP hS hc hz)
  | ifnull o =>
    obtain ⟨t, ht, hr⟩ := ai_bind_inv hr
    obtain ⟨h1, he⟩ := ai_g_inv hr; cases he; obtain rfl := ai_len h1
    simp only [ai_st2, reduceIte, Nat.reduceEqDiff, reduceCtorEq, if_false, Nat.one_ne_zero, Nat.succ_ne_zero] at hs
    split at hs
    · cases hs; exact lv_ifnullN hx hb hd (ai_t_inv ht) (kk _ _ _ _ _ hl hP hS hc hz)
    · cases hs; exact lv_ifnull hx hb hd (kk _ _ _ _ _ hl hP hS hc hz)
    · cases hs
  | ifnonnull o =>
    obtain ⟨t, ht, hr⟩ := ai_bind_inv hr
    obtain ⟨h1, he⟩ := ai_g_inv hr; cases he; obtain rfl := ai_len h1
    simp only [ai_st2, reduceIte, Nat.reduceEqDiff, reduceCtorEq, if_false, Nat.one_ne_zero, Nat.succ_ne_zero] at hs
    split at hs
    · cases hs; exact lv_ifnonnullN hx hb hd (kk _ _ _ _ _ hl hP hS hc hz)
    · cases hs; exact lv_ifnonnull hx hb hd (ai_t_inv ht) (kk _ _ _ _ _ hl hP hS hc hz)
    · cases hs
  | if_icmp cnd o =>
    obtain ⟨t, ht, hr⟩ := ai_bind_inv hr
    obtain ⟨h1, he⟩ := ai_g_inv hr; cases he; obtain rfl := ai_len h1
    simp only [ai_st2, reduceIte, Nat.reduceEqDiff, reduceCtorEq, if_false, Nat.one_ne_zero, Nat.succ_ne_zero] at hs
    split at hs
    · cases hs
      have k0 := kk _ _ _ _ _ hl hP hS hc hz
      cases cnd
      · exact lv_icmp_eq hx hb hd (ai_t_inv ht) (fun hh => by simpa only [ai_cc, ai_cmp, hh, decide_true, decide_false, Bool.not_true, Bool.not_false, if_true, Bool.false_eq_true, if_false, not_false_eq_true] using k0) (fun hh => by simpa only [ai_cc, ai_cmp, hh, decide_true, decide_false, Bool.not_true, Bool.not_false, if_true, Bool.false_eq_true, if_false, not_false_eq_true] using k0)
      · exact lv_icmp_ne hx hb hd (ai_t_inv ht) (fun hh => by simpa only [ai_cc, ai_cmp, hh, decide_true, decide_false, Bool.not_true, Bool.not_false, if_true, Bool.false_eq_true, if_false, not_false_eq_true] using k0) (fun hh => by simpa only [ai_cc, ai_cmp, hh, decide_true, decide_false, Bool.not_true, Bool.not_false, if_true, Bool.false_eq_true, if_false, not_false_eq_true] using k0)
      · exact lv_icmp_lt hx hb hd (ai_t_inv ht) (fun hh => by simpa only [ai_cc, ai_cmp, hh, decide_true, decide_false, Bool.not_true, Bool.not_false, if_true, Bool.false_eq_true, if_false, not_false_eq_true] using k0) (fun hh => by simpa only [ai_cc, ai_cmp, hh, decide_true, decide_false, Bool.not_true, Bool.not_false, if_true, Bool.false_eq_true, if_false, not_false_eq_true] using k0)
      · exact lv_icmp_ge hx hb hd (ai_t_inv ht) (fun hh => by simpa only [ai_cc, ai_cmp, hh, decide_true, decide_false, Bool.not_true, Bool.not_false, if_true, Bool.false_eq_true, if_false, not_false_eq_true] using k0) (fun hh => by simpa only [ai_cc, ai_cmp, hh, decide_true, decide_false, Bool.not_true, Bool.not_false, if_true, Bool.false_eq_true, if_false, not_false_eq_true] using k0)
      · exact lv_icmp_gt hx hb hd (ai_t_inv ht) (fun hh => by simpa only [ai_cc, ai_cmp, hh, decide_true, decide_false, Bool.not_true, Bool.not_false, if_true, Bool.false_eq_true, if_false, not_false_eq_true] using k0) (fun hh => by simpa only [ai_cc, ai_cmp, hh, decide_true, decide_false, Bool.not_true, Bool.not_false, if_true, Bool.false_eq_true, if_false, not_false_eq_true] using k0)
      · exact lv_icmp_le hx hb hd (ai_t_inv ht) (fun hh => by simpa only [ai_cc, ai_cmp, hh, decide_true, decide_false, Bool.not_true, Bool.not_false, if_true, Bool.false_eq_true, if_false, not_false_eq_true] using k0) (fun hh => by simpa only [ai_cc, ai_cmp, hh, decide_true, decide_false, Bool.not_true, Bool.not_false, if_true, Bool.false_eq_true, if_false, not_false_eq_true] using k0)
    · cases hs
  | ifCond cnd o =>
    obtain ⟨t, ht, hr⟩ := ai_bind_inv hr
    obtain ⟨h1, he⟩ := ai_g_inv hr; cases he; obtain rfl := ai_len h1
    simp only [ai_st2, reduceIte, Nat.reduceEqDiff, reduceCtorEq, if_false, Nat.one_ne_zero, Nat.succ_ne_zero] at hs
    split at hs
    · cases hs
      have k0 := kk _ _ _ _ _ hl hP hS hc hz
      cases cnd
      · exact lv_if_eq hx hb hd (ai_t_inv ht) (fun hh => by simpa only [ai_cc, ai_cmp, hh, decide_true, decide_false, Bool.not_true, Bool.not_false, if_true, Bool.false_eq_true, if_false, not_false_eq_true] using k0) (fun hh => by simpa only [ai_cc, ai_cmp, hh, decide_true, decide_false, Bool.not_true, Bool.not_false, if_true, Bool.false_eq_true, if_false, not_false_eq_true] using k0)
      · exact lv_if_ne hx hb hd (ai_t_inv ht) (fun hh => by simpa only [ai_cc, ai_cmp, hh, decide_true, decide_false, Bool.not_true, Bool.not_false, if_true, Bool.false_eq_true, if_false, not_false_eq_true] using k0) (fun hh => by simpa only [ai_cc, ai_cmp, hh, decide_true, decide_false, Bool.not_true, Bool.not_false, if_true, Bool.false_eq_true, if_false, not_false_eq_true] using k0)
      · exact lv_if_lt hx hb hd (ai_t_inv ht) (fun hh => by simpa only [ai_cc, ai_cmp, hh, decide_true, decide_false, Bool.not_true, Bool.not_false, if_true, Bool.false_eq_true, if_false, not_false_eq_true] using k0) (fun hh => by simpa only [ai_cc, ai_cmp, hh, decide_true, decide_false, Bool.not_true, Bool.not_false, if_true, Bool.false_eq_true, if_false, not_false_eq_true] using k0)
      · exact lv_if_ge hx hb hd (ai_t_inv ht) (fun hh => by simpa only [ai_cc, ai_cmp, hh, decide_true, decide_false, Bool.not_true, Bool.not_false, if_true, Bool.false_eq_true, if_false, not_false_eq_true] using k0) (fun hh => by simpa only [ai_cc, ai_cmp, hh, decide_true, decide_false, Bool.not_true, Bool.not_false, if_true, Bool.false_eq_true, if_false, not_false_eq_true] using k0)
      · exact lv_if_gt hx hb hd (ai_t_inv ht) (fun hh => by simpa only [ai_cc, ai_cmp, hh, decide_true, decide_false, Bool.not_true, Bool.not_false, if_true, Bool.false_eq_true, if_false, not_false_eq_true] using k0) (fun hh => by simpa only [ai_cc, ai_cmp, hh, decide_true, decide_false, Bool.not_true, Bool.not_false, if_true, Bool.false_eq_true, if_false, not_false_eq_true] using k0)
      · exact lv_if_le hx hb hd (ai_t_inv ht) (fun hh => by simpa only [ai_cc, ai_cmp, hh, decide_true, decide_false, Bool.not_true, Bool.not_false, if_true, Bool.false_eq_true, if_false, not_false_eq_true] using k0) (fun hh => by simpa only [ai_cc, ai_cmp, hh, decide_true, decide_false, Bool.not_true, Bool.not_false, if_true, Bool.false_eq_true, if_false, not_false_eq_true] using k0)
    · cases hs
  | iconst n =>
    obtain ⟨h1, he⟩ := ai_g_inv hr; cases he; omega
  | bipush n =>
    obtain ⟨h1, he⟩ := ai_g_inv hr; cases he; omega
  | sipush n =>
    obtain ⟨h1, he⟩ := ai_g_inv hr; cases he; omega
  | iload_n k =>
    obtain ⟨h1, he⟩ := ai_g_inv hr; cases he; omega
  | iload k =>
    obtain ⟨h1, he⟩ := ai_g_inv hr; cases he; omega
  | aload_n k =>
    obtain ⟨h1, he⟩ := ai_g_inv hr; cases he; omega
  | aload k =>
    obtain ⟨h1, he⟩ := ai_g_inv hr; cases he; omega
  | istore_n k =>
    obtain ⟨h1, he⟩ := ai_g_inv hr; cases he; omega
  | istore k =>
    obtain ⟨h1, he⟩ := ai_g_inv hr; cases he; omega
  | astore_n k =>
    obtain ⟨h1, he⟩ := ai_g_inv hr; cases he; omega
  | astore k =>
    obtain ⟨h1, he⟩ := ai_g_inv hr; cases he; omega
  | iinc k n =>
    obtain ⟨h1, he⟩ := ai_g_inv hr; cases he; omega
  | iadd =>
    obtain ⟨h1, he⟩ := ai_g_inv hr; cases he; omega
  | isub =>
    obtain ⟨h1, he⟩ := ai_g_inv hr; cases he; omega
  | imul =>
    obtain ⟨h1, he⟩ := ai_g_inv hr; cases he; omega
  | iand =>
    obtain ⟨h1, he⟩ := ai_g_inv hr; cases he; omega
  | ishl =>
    obtain ⟨h1, he⟩ := ai_g_inv hr; cases he; omega
  | ishr =>
    obtain ⟨h1, he⟩ := ai_g_inv hr; cases he; omega
  | ixor =>
    obtain ⟨h1, he⟩ := ai_g_inv hr; cases he; omega
  | idiv =>
    obtain ⟨h1, he⟩ := ai_g_inv hr; cases he; omega
  | irem =>
    obtain ⟨h1, he⟩ := ai_g_inv hr; cases he; omega
  | ineg =>
    obtain ⟨h1, he⟩ := ai_g_inv hr; cases he; omega
  | i2c =>
    obtain ⟨h1, he⟩ := ai_g_inv hr; cases he; omega
  | iaload =>
    obtain ⟨h1, he⟩ := ai_g_inv hr; cases he; omega
  | caload =>
    obtain ⟨h1, he⟩ := ai_g_inv hr; cases he; omega
  | aaload =>
    obtain ⟨h1, he⟩ := ai_g_inv hr; cases he; omega
  | iastore =>
    obtain ⟨h1, he⟩ := ai_g_inv hr; cases he; omega
  | castore =>
    obtain ⟨h1, he⟩ := ai_g_inv hr; cases he; omega
  | aastore =>
    obtain ⟨h1, he⟩ := ai_g_inv hr; cases he; omega
  | arraylength =>
    obtain ⟨h1, he⟩ := ai_g_inv hr; cases he; omega
  | ldc n =>
    obtain ⟨w, hw, hr⟩ := ai_bind_inv hr
    obtain ⟨h1, he⟩ := ai_g_inv hr; cases he; omega
  | getfield n =>
    obtain ⟨w, hw, hr⟩ := ai_bind_inv hr
    obtain ⟨h1, he⟩ := ai_g_inv hr
    cases he
    split at hop <;> omega
  | putfield n =>
    obtain ⟨w, hw, hr⟩ := ai_bind_inv hr
    obtain ⟨h1, he⟩ := ai_g_inv hr
    cases he
    split at hop <;> omega
  | new n =>
    obtain ⟨w, hw, hr⟩ := ai_bind_inv hr
    obtain ⟨w, hw, hr⟩ := ai_bind_inv hr
    obtain ⟨h1, he⟩ := ai_g_inv hr; cases he; omega
  | newarray t =>
    simp only [ai_res] at hr
    split at hr
    · obtain ⟨h1, he⟩ := ai_g_inv hr; cases he; omega
    · split at hr
      · obtain ⟨h1, he⟩ := ai_g_inv hr; cases he; omega
      · cases hr
  | anewarray n =>
    obtain ⟨w, hw, hr⟩ := ai_bind_inv hr
    split at hr
    · obtain ⟨h1, he⟩ := ai_g_inv hr; cases he; omega
    · split at hr
      · obtain ⟨h1, he⟩ := ai_g_inv hr; cases he; omega
      · cases hr
  | multianewarray n k =>
    obtain ⟨w, hw, hr⟩ := ai_bind_inv hr
    obtain ⟨h1, he⟩ := ai_g_inv hr; cases he; omega
  | ireturn | areturn | return_ =>
    simp only [ai_res] at hr
    repeat (split at hr; · (obtain ⟨h1, he⟩ := ai_g_inv hr; cases he; omega))
    cases hr
  | tableswitch df lo hi os =>
    obtain ⟨w, hw, hr⟩ := ai_bind_inv hr
    obtain ⟨w, hw, hr⟩ := ai_bind_inv hr
    obtain ⟨h1, he⟩ := ai_g_inv hr; cases he; omega
  | invokestatic n => exact absurd hop (by have := ai_res_inv hr (Or.inl ⟨n, rfl⟩); omega)
  | invokevirtual n => exact absurd hop (by have := ai_res_inv hr (Or.inr (Or.inl ⟨n, rfl⟩)); omega)
  | invokespecial n => exact absurd hop (by have := ai_res_inv hr (Or.inr (Or.inr ⟨n, rfl⟩)); omega)
  | _ => exact absurd hr (by simp [ai_res])
theorem ai_one5 (C : ai_Cx p s m args meth c q D cA) {i : Instr} {len pc op a b : Nat} {v : Int32} {tb : List Nat} {nx : Nat} (hd : decode q.2.1 pc = .ok (i, len)) (hr : ai_res q.1 q.2.2.2.1 pc i len = some (op, a, b, v, tb, nx)) (hop : 42 ≤ op)
    {als st : List Value} {h : ai_H} {o : Nat × List Value × List Value × ai_H} (hs : ai_st5 op a b v tb als st h = some (.inl o)) (kk : ai_K p l e R s m args below meth c Q q D cA sb N0 L0 S0 o)
    {ls : Array Slot} {H : Heap} {locs : List Loc} {cells slots : Nat} (hl : ai_L sb N0 q.2.2.1 als ls) (hP : ai_P N0 D cA h H) (hS : va_S (fun x => N0 ≤ x) s.heap H locs) (hc : cells + L0 = h.1.length) (hz : slots + S0 = ai_sum h) :
    W p l e R s m args below meth c H locs cells slots Q (F0 m pc ls (st.map (ai_cv sb N0))) := by
  obtain ⟨hx, hb, hml, hown, hts, hnm, hG⟩ := C
  cases i with
  | tableswitch df lo hi os =>
    obtain ⟨t0, ht, hr⟩ := ai_bind_inv hr
    obtain ⟨ts, hts2, hr⟩ := ai_bind_inv hr
    obtain ⟨h1, he⟩ := ai_g_inv hr
    cases he
    simp only [Bool.and_eq_true, beq_iff_eq] at h1
    obtain ⟨h1, h2⟩ := h1
    obtain ⟨g1, g2⟩ := ai_ts_get hts2
    simp only [ai_st5, reduceIte, Nat.reduceEqDiff, reduceCtorEq, if_false, Nat.one_ne_zero, Nat.succ_ne_zero] at hs
    split at hs
    · rename_i x0 st0
      cases hs
      have k0 := kk _ _ _ _ _ hl hP hS hc hz
      dsimp only at k0
      rw [h2] at k0
      by_cases hlo : x0.toInt < lo
      · rw [if_pos hlo] at k0
        exact lv_tableOut hx hb hd (Or.inl hlo) (ai_t_inv ht) k0
      · rw [if_neg hlo] at k0
        by_cases hhi : hi < x0.toInt
        · have hn : tb[(x0.toInt - lo).toNat]? = none := List.getElem?_eq_none (by rw [← g1]; omega)
          rw [hn] at k0
          exact lv_tableOut hx hb hd (Or.inr hhi) (ai_t_inv ht) k0
        · have hlt : (x0.toInt - lo).toNat < tb.length := by rw [← g1]; omega
          have hn : tb[(x0.toInt - lo).toNat]? = some tb[(x0.toInt - lo).toNat] := List.getElem?_eq_getElem hlt
          rw [hn] at k0
          obtain ⟨o2, e1, e2⟩ := g2 _ _ hn
          exact lv_tableIn hx hb hd hlo hhi (by rw [← Array.getElem?_toList]; exact e1) e2 k0
    · cases hs
  | ireturn | areturn | return_ =>
    exfalso
    simp only [ai_res] at hr
    repeat (split at hr; · (obtain ⟨h1, he⟩ := ai_g_inv hr; cases he; simp only [ai_st5, reduceIte, Nat.reduceEqDiff, reduceCtorEq, if_false, Nat.one_ne_zero, Nat.succ_ne_zero] at hs; (repeat (split at hs)) <;> simp at hs))
    cases hr
  | iconst n =>
    obtain ⟨h1, he⟩ := ai_g_inv hr; cases he; omega
  | bipush n =>
    obtain ⟨h1, he⟩ := ai_g_inv hr; cases he; omega
  | sipush n =>
    obtain ⟨h1, he⟩ := ai_g_inv hr; cases he; omega
  | iload_n k =>
    obtain ⟨h1, he⟩ := ai_g_inv hr; cases he; omega
  | iload k =>
    obtain ⟨h1, he⟩ := ai_g_inv hr; cases he; omega
  | aload_n k =>
    obtain ⟨h1, he⟩ := ai_g_inv hr; cases he; omega
  | aload k =>
    obtain ⟨h1, he⟩ := ai_g_inv hr; cases he; omega
  | istore_n k =>
    obtain ⟨h1, he⟩ := ai_g_inv hr; cases he; omega
  | istore k =>
    obtain ⟨h1, he⟩ := ai_g_inv hr; cases he; omega
  | astore_n k =>
    obtain ⟨h1, he⟩ := ai_g_inv hr; cases he; omega
  | astore k =>
    obtain ⟨h1, he⟩ := ai_g_inv hr; cases he; omega
  | iinc k n =>
    obtain ⟨h1, he⟩ := ai_g_inv hr; cases he; omega
  | iadd =>
    obtain ⟨h1, he⟩ := ai_g_inv hr; cases he; omega
  | isub =>
    obtain ⟨h1, he⟩ := ai_g_inv hr; cases he; omega
  | imul =>
    obtain ⟨h1, he⟩ := ai_g_inv hr; cases he; omega
  | iand =>
    obtain ⟨h1, he⟩ := ai_g_inv hr; cases he; omega
  | ishl =>
    obtain ⟨h1, he⟩ := ai_g_inv hr; cases he; omega
  | ishr =>
    obtain ⟨h1, he⟩ := ai_g_inv hr; cases he; omega
  | ixor =>
    obtain ⟨h1, he⟩ := ai_g_inv hr; cases he; omega
  | idiv =>
    obtain ⟨h1, he⟩ := ai_g_inv hr; cases he; omega
  | irem =>
    obtain ⟨h1, he⟩ := ai_g_inv hr; cases he; omega
  | ineg =>
    obtain ⟨h1, he⟩ := ai_g_inv hr; cases he; omega
  | i2c =>
    obtain ⟨h1, he⟩ := ai_g_inv hr; cases he; omega
  | dup =>
    obtain ⟨h1, he⟩ := ai_g_inv hr; cases he; omega
  | dup_x1 =>
    obtain ⟨h1, he⟩ := ai_g_inv hr; cases he; omega
  | dup_x2 =>
    obtain ⟨h1, he⟩ := ai_g_inv hr; cases he; omega
  | dup2 =>
    obtain ⟨h1, he⟩ := ai_g_inv hr; cases he; omega
  | pop =>
    obtain ⟨h1, he⟩ := ai_g_inv hr; cases he; omega
  | aconst_null =>
    obtain ⟨h1, he⟩ := ai_g_inv hr; cases he; omega
  | iaload =>
    obtain ⟨h1, he⟩ := ai_g_inv hr; cases he; omega
  | caload =>
    obtain ⟨h1, he⟩ := ai_g_inv hr; cases he; omega
  | aaload =>
    obtain ⟨h1, he⟩ := ai_g_inv hr; cases he; omega
  | iastore =>
    obtain ⟨h1, he⟩ := ai_g_inv hr; cases he; omega
  | castore =>
    obtain ⟨h1, he⟩ := ai_g_inv hr; cases he; omega
  | aastore =>
    obtain ⟨h1, he⟩ := ai_g_inv hr; cases he; omega
  | arraylength =>
    obtain ⟨h1, he⟩ := ai_g_inv hr; cases he; omega
  | ldc n =>
    obtain ⟨w, hw, hr⟩ := ai_bind_inv hr
    obtain ⟨h1, he⟩ := ai_g_inv hr; cases he; omega
  | goto o =>
    obtain ⟨w, hw, hr⟩ := ai_bind_inv hr
    obtain ⟨h1, he⟩ := ai_g_inv hr; cases he; omega
  | if_icmp c o =>
    obtain ⟨w, hw, hr⟩ := ai_bind_inv hr
    obtain ⟨h1, he⟩ := ai_g_inv hr; cases he; omega
  | ifCond c o =>
    obtain ⟨w, hw, hr⟩ := ai_bind_inv hr
    obtain ⟨h1, he⟩ := ai_g_inv hr; cases he; omega
  | ifnull o =>
    obtain ⟨w, hw, hr⟩ := ai_bind_inv hr
    obtain ⟨h1, he⟩ := ai_g_inv hr; cases he; omega
  | ifnonnull o =>
    obtain ⟨w, hw, hr⟩ := ai_bind_inv hr
    obtain ⟨h1, he⟩ := ai_g_inv hr; cases he; omega
  | getfield n =>
    obtain ⟨w, hw, hr⟩ := ai_bind_inv hr
    obtain ⟨h1, he⟩ := ai_g_inv hr
    cases he
    split at hop <;> omega
  | putfield n =>
    obtain ⟨w, hw, hr⟩ := ai_bind_inv hr
    obtain ⟨h1, he⟩ := ai_g_inv hr
    cases he
    split at hop <;> omega
  | new n =>
    obtain ⟨w, hw, hr⟩ := ai_bind_inv hr
    obtain ⟨w, hw, hr⟩ := ai_bind_inv hr
    obtain ⟨h1, he⟩ := ai_g_inv hr; cases he; omega
  | newarray t =>
    simp only [ai_res] at hr
    split at hr
    · obtain ⟨h1, he⟩ := ai_g_inv hr; cases he; omega
    · split at hr
      · obtain ⟨h1, he⟩ := ai_g_inv hr; cases he; omega
      · cases hr
  | anewarray n =>
    obtain ⟨w, hw, hr⟩ := ai_bind_inv hr
    split at hr
    · obtain ⟨h1, he⟩ := ai_g_inv hr; cases he; omega
    · split at hr
      · obtain ⟨h1, he⟩ := ai_g_inv hr; cases he; omega
      · cases hr
  | multianewarray n k =>
    obtain ⟨w, hw, hr⟩ := ai_bind_inv hr
    obtain ⟨h1, he⟩ := ai_g_inv hr; cases he; omega
  | invokestatic n => exact absurd hop (by have := ai_res_inv hr (Or.inl ⟨n, rfl⟩); omega)
  | invokevirtual n => exact absurd hop (by have := ai_res_inv hr (Or.inr (Or.inl ⟨n, rfl⟩)); omega)
  | invokespecial n => exact absurd hop (by have := ai_res_inv hr (Or.inr (Or.inr ⟨n, rfl⟩)); omega)
  | _ => exact absurd hr (by simp [ai_res])
end AIS2
end
section
/-! steps: the heap, reading and writing -/
theorem ai_in_vp {i : Int32} {n : Nat} (h : ai_in i n = true) : vp_in i n := by
  unfold ai_in at h
  unfold vp_in
  simpa using h
theorem ai_E_obj (N0 : Nat) (cA : Nat → ClassId) (fi : Nat → Int32) (fr : Nat → Nat) {k : Nat} (n : Nat) (h : k < 8) : ai_E N0 cA fi fr k n = .inr (k, ai_fs N0 k fi fr) := if_pos h
theorem ai_fs_get {N0 k j : Nat} {fi : Nat → Int32} {fr : Nat → Nat} {q : vw_C} (h : vwCl[k]? = some q) (hj : j < q.2.2) : (ai_fs N0 k fi fr)[j]? = some (if ai_isref k j then va_rf (ai_rn N0 (fr j)) else .int (fi j)) := by
  have e : ai_nf k = q.2.2 := by unfold ai_nf; rw [h]; rfl
  unfold ai_fs
  rw [List.getElem?_map, e, List.getElem?_range hj]
  rfl
theorem ai_fs_len {N0 k : Nat} {fi : Nat → Int32} {fr : Nat → Nat} {q : vw_C} (h : vwCl[k]? = some q) : (ai_fs N0 k fi fr).length = q.2.2 := by
  have e : ai_nf k = q.2.2 := by unfold ai_nf; rw [h]; rfl
  unfold ai_fs
  rw [List.length_map, List.length_range, e]
theorem ai_fs_seti {N0 k j : Nat} {fi : Nat → Int32} {fr : Nat → Nat} (hr : ai_isref k j = false) (x : Int32) : ai_fs N0 k (fun i => if i = j then x else fi i) fr = (ai_fs N0 k fi fr).set j (.int x) := by
  apply List.ext_getElem?
  intro i
  unfold ai_fs
  rw [List.getElem?_set]
  by_cases hi : i < ai_nf k
  · by_cases hj : j = i
    · subst hj
      simp [hi, hr]
    · simp [hi, hj, Ne.symm hj]
  · have e1 : ((List.range (ai_nf k)).map (fun j' => if ai_isref k j' then va_rf (ai_rn N0 (fr j')) else .int ((fun i => if i = j then x else fi i) j')))[i]? = none := List.getElem?_eq_none (by simp; omega)
    have e2 : ((List.range (ai_nf k)).map (fun j' => if ai_isref k j' then va_rf (ai_rn N0 (fr j')) else Value.int (fi j')))[i]? = none := List.getElem?_eq_none (by simp; omega)
    rw [e1, e2]
    simp
    omega
theorem ai_fs_setr {N0 k j : Nat} {fi : Nat → Int32} {fr : Nat → Nat} (hr : ai_isref k j = true) (x : Nat) : ai_fs N0 k fi (fun i => if i = j then x else fr i) = (ai_fs N0 k fi fr).set j (va_rf (ai_rn N0 x)) := by
  apply List.ext_getElem?
  intro i
  unfold ai_fs
  rw [List.getElem?_set]
  by_cases hi : i < ai_nf k
  · by_cases hj : j = i
    · subst hj
      simp [hi, hr]
    · simp [hi, hj, Ne.symm hj]
  · have e1 : ((List.range (ai_nf k)).map (fun j' => if ai_isref k j' then va_rf (ai_rn N0 ((fun i => if i = j then x else fr i) j')) else .int (fi j')))[i]? = none := List.getElem?_eq_none (by simp; omega)
    have e2 : ((List.range (ai_nf k)).map (fun j' => if ai_isref k j' then va_rf (ai_rn N0 (fr j')) else Value.int (fi j')))[i]? = none := List.getElem?_eq_none (by simp; omega)
    rw [e1, e2]
    simp
    omega
section AIS3
variable {p : Program} {l : Launch} {e : Env} {R : Room} {s : State} {m : MethodId} {args : Array Value} {below : List Frame} {meth : Method} {c : Code} {Q : State → Prop}
variable {q : ai_M} {D : va_G} {cA : Nat → ClassId} {sb N0 L0 S0 d : Nat} {X : ai_X}

theorem ai_k8 {k : Nat} {r : vw_C} (h : vwCl[k]? = some r) : k < 8 := (List.getElem?_eq_some_iff.mp h).1
/-- a field is written -/
theorem ai_putW (hx : p.tables.exec = Jvm.exec) (hb : c.code = q.2.1) (hown : s.vm.findClass q.1.cls = some m.cls) (hts : ∀ w ∈ ai_ws, w.before args s = true) (hnm : q.1.name = "<init>" → meth.name = "<init>") (hG : ai_G D cA s)
    {k j n a index pc : Nat} {r : vw_C} {v : Value} {rest : List Value} {h : ai_H} {H : Heap} {locs : List Loc} {cells slots : Nat} {ls : Array Slot} (hr1 : vwCl[k]? = some r) (hr2 : j < r.2.2) (hlink : Cond.fieldLink q.1.cls index r.1 (r.2.1 j).2.1 (r.2.1 j).2.2.1 ∈ ai_ws)
    (hfin : (!(ai_final k j) || (q.1.name == "<init>" && q.1.cls == ai_own k)) = true) (hn : h.1[a]? = some (k, n)) (hP : ai_P N0 D cA h H) (hS : va_S (fun x => N0 ≤ x) s.heap H locs)
    (hnar : narrow (ai_ty r j) v = v) (hfit : fits (ai_ty r j) v = true) (hd : decode q.2.1 pc = .ok (.putfield index, 3))
    (kk : ∀ (H1 : Heap) (locs1 : List Loc), H1.size = H.size → (∀ x : Nat, x ≠ N0 + a → H1[x]? = H[x]?) → va_at D vwCl (N0 + a, .inr (k, (ai_fs N0 k (h.2.1 a) (h.2.2 a)).set j v)) H1 → va_S (fun x => N0 ≤ x) s.heap H1 locs1 →
      W p l e R s m args below meth c H1 locs1 cells slots Q (F0 m (pc + 3) ls rest)) : W p l e R s m args below meth c H locs cells slots Q (F0 m pc ls (v :: .ref (N0 + a) :: rest)) := by
  have hin := (ai_cl_in hr1).1
  have hty := ai_ty_ok hr1
  have hnm2 := (ai_cl_b hr1).2
  have hdecl := ai_ty_own hr1 j hr2
  obtain ⟨C, T, N⟩ := r
  have hap := va_apart (own := C) hts hin _ hty hnm2 hG.1 hr1
  have hat := (hP.2 _ _ _ hn).1
  rw [ai_E_obj N0 cA _ _ n (ai_k8 hr1)] at hat
  obtain ⟨r9, h1, cell, q1, q2, q3, q4⟩ := hat
  have hr9 : r9 = (C, T, N) := Option.some.inj (h1.symm.trans hr1)
  subst hr9
  obtain ⟨hSl, hfc, kC, hkC, hkind⟩ := hG.1.1 k _ hr1
  obtain ⟨cf, kf, fi, f, hi, hsl⟩ := hSl j hr2
  have hlay := hts _ (hin _ (u_in_lay hr2))
  have hst := (u_facts hfc hkC (u_lays hts hin hr2) hi).1
  have hi2 : s.fieldFound? C (T j).2.1 (T j).2.2.1 = some (cf, kf, fi, f) := by
    have h9 : (T j).1 = C := hdecl
    rw [← h9]; exact hi
  have hlen : j < (ai_fs N0 k (h.2.1 a) (h.2.2 a)).length := by rw [ai_fs_len hr1]; exact hr2
  have fin : ∀ H' : Heap, H'[N0 + a]? = some (cell.setSlot f.slot v) → H'.size = H.size → (∀ x : Nat, x ≠ N0 + a → H'[x]? = H[x]?) → W p l e R s m args below meth c H' (locs ++ [⟨N0 + a, f.slot⟩]) cells slots Q (F0 m (pc + 3) ls rest) := by
    intro H' e1 e2 e3
    rw [hsl] at e1 ⊢
    exact kk H' _ e2 e3 ⟨_, hr1, t_OB.to (V := updV (vp_V (ai_fs N0 k (h.2.1 a) (h.2.2 a))) j v) ⟨_, e1, q2, q3, t_set q4 hap hr2 v⟩ (fun i _ => vp_updV_set hlen v i)⟩ (hS.put e2 e3 (Nat.le_add_right _ _))
  unfold u_lay at hlay
  have hfinal : ai_final k j = (T j).2.2.2 := by unfold ai_final; rw [hr1]; rfl
  have hownk : ai_own k = C := by unfold ai_own; rw [hr1]; rfl
  by_cases hf : (T j).2.2.2 = true
  · rw [if_pos hf] at hlay
    rw [hfinal, hf, hownk] at hfin
    simp only [Bool.not_true, Bool.false_or, Bool.and_eq_true, beq_iff_eq] at hfin
    have hcf : m.cls = cf := by
      obtain ⟨_, _, c', _, _, _, -, -, hf', -, -, -, hown2, -⟩ := Cond.laysFinal_spec hlay
      have e1 : c' = cf := by have := hi.symm.trans hf'; simp at this; exact this.1.symm
      have h9 : (T j).1 = C := hdecl
      rw [h9, ← hfin.2] at hown2
      rw [← e1]; exact Option.some.inj (hown.symm.trans hown2)
    have h6 := u_fits hfc hkC hkind (Or.inr hlay) hi (hty j hr2) hnar hfit
    exact W.putFinK hx hb hown (hts _ hlink) hi2 hst hcf (hnm hfin.1) (by rw [q2]; exact h6) q1 q3 (by rw [hsl]; exact k2_hasslot (q4 j hr2)) rfl rfl hd fin
  · rw [if_neg hf] at hlay
    have h6 := u_store hfc hkC hkind hlay hi (hty j hr2) hnar hfit
    exact W.putK hx hb (f := f) ⟨hown, hts _ hlink, ⟨_, _, _, hi2⟩, hst⟩ (by rw [q2]; exact h6) q1 q3 (by rw [hsl]; exact k2_hasslot (q4 j hr2)) rfl rfl hd fin
theorem ai_one3 (C : ai_Cx p s m args meth c q D cA) (hsx : ai_Sx X sb N0 s) {i : Instr} {len pc op a b : Nat} {v : Int32} {tb : List Nat} {nx : Nat} (hd : decode q.2.1 pc = .ok (i, len)) (hr : ai_res q.1 q.2.2.2.1 pc i len = some (op, a, b, v, tb, nx)) (hop : 22 ≤ op ∧ op ≤ 32)
    {als st : List Value} {h : ai_H} {o : Nat × List Value × List Value × ai_H} (hs : ai_st3 X op a b nx als st h = some (.inl o)) (kk : ai_K p l e R s m args below meth c Q q D cA sb N0 L0 S0 o)
    {ls : Array Slot} {H : Heap} {locs : List Loc} {cells slots : Nat} (hl : ai_L sb N0 q.2.2.1 als ls) (hP : ai_P N0 D cA h H) (hS : va_S (fun x => N0 ≤ x) s.heap H locs) (hc : cells + L0 = h.1.length) (hz : slots + S0 = ai_sum h) :
    W p l e R s m args below meth c H locs cells slots Q (F0 m pc ls (st.map (ai_cv sb N0))) := by
  obtain ⟨hx, hb, hml, hown, hts, hnm, hG⟩ := C
  cases i with
  | getfield n =>
    obtain ⟨⟨k, j⟩, hw, hr⟩ := ai_bind_inv hr
    obtain ⟨h1, he⟩ := ai_g_inv hr
    obtain rfl := ai_len h1
    obtain ⟨r, hr1, hr2, hr3⟩ := ai_fld_ok hw
    have hin := (ai_cl_in hr1).1
    have hdecl := ai_ty_own hr1 j hr2
    cases hrf : ai_isref k j with
    | true =>
      simp only [hrf, if_true] at he
      cases he
      simp only [ai_st3, reduceIte, Nat.reduceEqDiff, reduceCtorEq, if_false, Nat.one_ne_zero, Nat.succ_ne_zero] at hs
      split at hs
      · split at hs
        · rename_i a0 st0 hk
          cases hs
          obtain ⟨n', hn⟩ := ai_kd_at hk
          have k0 := kk _ _ _ _ _ hl hP hS hc hz
          dsimp only at k0
          rw [List.map_cons, ai_cv_rv] at k0
          refine va_get (D := D) (cl := vwCl) (C := r.1) (T := r.2.1) (N := r.2.2) (ci := a) (ref := r.1) (v := va_rf (ai_rn N0 (h.2.2 a0 b))) hx hb hts hin hown hG.1 (hP.hit hn) 0 (by rw [ai_E_obj N0 cA _ _ n' (ai_k8 hr1)]; rfl) hr1 b hr2 (hts _ hr3) (fun x9 h9 => by rw [← hdecl]; exact h9) (by rw [ai_fs_get hr1 hr2, hrf]; rfl) hd k0
        · cases hs
      · cases hs
    | false =>
      simp only [hrf, Bool.false_eq_true, if_false] at he
      cases he
      simp only [ai_st3, reduceIte, Nat.reduceEqDiff, reduceCtorEq, if_false, Nat.one_ne_zero, Nat.succ_ne_zero] at hs
      split at hs
      · split at hs
        · rename_i a0 st0 hk
          cases hs
          obtain ⟨n', hn⟩ := ai_kd_at hk
          have k0 := kk _ _ _ _ _ hl hP hS hc hz
          refine va_get (D := D) (cl := vwCl) (C := r.1) (T := r.2.1) (N := r.2.2) (ci := a) (ref := r.1) (v := .int (h.2.1 a0 b)) hx hb hts hin hown hG.1 (hP.hit hn) 0 (by rw [ai_E_obj N0 cA _ _ n' (ai_k8 hr1)]; rfl) hr1 b hr2 (hts _ hr3) (fun x9 h9 => by rw [← hdecl]; exact h9) (by rw [ai_fs_get hr1 hr2, hrf]; rfl) hd k0
        · cases hs
      · cases hs
  | putfield n =>
    obtain ⟨⟨k, j⟩, hw, hr⟩ := ai_bind_inv hr
    obtain ⟨h1, he⟩ := ai_g_inv hr
    rw [Bool.and_eq_true] at h1
    obtain ⟨h1, hfin⟩ := h1
    obtain rfl := ai_len h1
    obtain ⟨r, hr1, hr2, hr3⟩ := ai_fld_ok hw
    cases hrf : ai_isref k j with
    | true =>
      simp only [hrf, if_true] at he
      cases he
      simp only [ai_st3, reduceIte, Nat.reduceEqDiff, reduceCtorEq, if_false, Nat.one_ne_zero, Nat.succ_ne_zero] at hs
      split at hs
      · split at hs
        · rename_i x0 a0 st0 hk
          cases hs
          obtain ⟨n', hn⟩ := ai_kd_at hk
          refine ai_putW (v := .ref (N0 + x0)) hx hb hown hts hnm hG hr1 hr2 hr3 hfin hn hP hS ?_ ?_ hd (fun H1 locs1 z oq he hS1 => kk _ _ _ _ _ hl (hP.put hn rfl z oq (fun _ _ => rfl) (fun a9 h9 => ai_u_other _ _ _ _ h9) ?_) hS1 hc hz)
          · rcases ai_ty_ref hr1 hr2 hrf with ⟨n9, e9⟩ | ⟨t9, e9⟩ <;> rw [e9] <;> rfl
          · rcases ai_ty_ref hr1 hr2 hrf with ⟨n9, e9⟩ | ⟨t9, e9⟩ <;> rw [e9] <;> rfl
          · show va_at D vwCl (N0 + a0, ai_E N0 cA (h.2.1 a0) (ai_u h.2.2 a0 b (x0 + 1) a0) a n') H1
            rw [ai_E_obj N0 cA _ _ n' (ai_k8 hr1), ai_u_same, ai_fs_setr hrf]
            exact he
        · cases hs
      · cases hs
    | false =>
      simp only [hrf, Bool.false_eq_true, if_false] at he
      cases he
      simp only [ai_st3, reduceIte, Nat.reduceEqDiff, reduceCtorEq, if_false, Nat.one_ne_zero, Nat.succ_ne_zero] at hs
      split at hs
      · split at hs
        · rename_i x0 a0 st0 hk
          cases hs
          obtain ⟨hk, hbool⟩ := hk
          obtain ⟨n', hn⟩ := ai_kd_at hk
          have hb01 : ai_ty r b = .int ∨ (ai_ty r b = .boolean ∧ (x0 = 0 ∨ x0 = 1)) := by
            rcases ai_ty_int hr1 hr2 hrf with e9 | ⟨e9, e8⟩
            · exact Or.inl e9
            · rcases hbool with e7 | e7
              · rw [e8] at e7; cases e7
              · exact Or.inr ⟨e9, e7⟩
          refine ai_putW (v := .int x0) hx hb hown hts hnm hG hr1 hr2 hr3 hfin hn hP hS ?_ ?_ hd (fun H1 locs1 z oq he hS1 => kk _ _ _ _ _ hl (hP.put hn rfl z oq (fun a9 h9 => ai_u_other _ _ _ _ h9) (fun _ _ => rfl) ?_) hS1 hc hz)
          · rcases hb01 with e9 | ⟨e9, rfl | rfl⟩ <;> rw [e9] <;> rfl
          · rcases hb01 with e9 | ⟨e9, rfl | rfl⟩ <;> rw [e9] <;> rfl
          · show va_at D vwCl (N0 + a0, ai_E N0 cA (ai_u h.2.1 a0 b x0 a0) (h.2.2 a0) a n') H1
            rw [ai_E_obj N0 cA _ _ n' (ai_k8 hr1), ai_u_same, ai_fs_seti hrf]
            exact he
        · cases hs
      · cases hs
  | iaload =>
    obtain ⟨h1, he⟩ := ai_g_inv hr; cases he; obtain rfl := ai_len h1
    simp only [ai_st3, reduceIte, Nat.reduceEqDiff, reduceCtorEq, if_false, Nat.one_ne_zero, Nat.succ_ne_zero] at hs
    split at hs
    · split at hs
      · rename_i n' hn
        split at hs
        · rename_i hcnd
          obtain ⟨rfl, hin⟩ := hcnd
          cases hs
          exact va_iald hx hb hG.1 (hP.hit hn) 0 1 rfl rfl (ai_in_vp hin) hd (kk _ _ _ _ _ hl hP hS hc hz)
        · cases hs
      · cases hs
    · split at hs
      · rename_i hin
        cases hs
        rcases hsx with h0 | ⟨hX, hbl, hbA⟩
        · rw [h0] at hin
          have := ai_in_vp hin
          exact absurd (Or.inr (Nat.zero_le _)) this
        · exact va_sld hx hb hX hbl (Nat.not_le.mpr hbA) hS (ai_in_vp hin) hd (kk _ _ _ _ _ hl hP hS hc hz)
      · cases hs
    · cases hs
  | caload =>
    obtain ⟨h1, he⟩ := ai_g_inv hr; cases he; obtain rfl := ai_len h1
    simp only [ai_st3, reduceIte, Nat.reduceEqDiff, reduceCtorEq, if_false, Nat.one_ne_zero, Nat.succ_ne_zero] at hs
    split at hs
    · split at hs
      · rename_i n' hn
        split at hs
        · rename_i hcnd
          obtain ⟨rfl, hin⟩ := hcnd
          cases hs
          exact va_cald hx hb hG.1 (hP.hit hn) 0 0 rfl rfl (ai_in_vp hin) hd (kk _ _ _ _ _ hl hP hS hc hz)
        · cases hs
      · cases hs
    · cases hs
  | aaload =>
    obtain ⟨h1, he⟩ := ai_g_inv hr; cases he; obtain rfl := ai_len h1
    simp only [ai_st3, reduceIte, Nat.reduceEqDiff, reduceCtorEq, if_false, Nat.one_ne_zero, Nat.succ_ne_zero] at hs
    split at hs
    · split at hs
      · rename_i i0 a0 st0 _ kd n' hn
        split at hs
        · rename_i hcnd
          obtain ⟨hk1, hk2, hin⟩ := hcnd
          cases hs
          have k0 := kk _ _ _ _ _ hl hP hS hc hz
          dsimp only at k0
          rw [List.map_cons, ai_cv_rv] at k0
          have hin := ai_in_vp hin
          have hlt : i0.toNatClampNeg < n' := Nat.not_le.mp fun z => hin (Or.inr z)
          have hcell : H[N0 + a0]? = some (arrV (cA kd) n' (fun j => va_rf (ai_rn N0 (h.2.2 a0 j)))) := by
            have h9 := (hP.2 _ _ _ hn).1
            unfold ai_E at h9
            rw [if_neg (by omega), if_neg (by omega)] at h9
            exact h9
          have harr : ArrOfT s (cA kd) (ai_aty kd) ∧ (ai_aty kd).isReference = true := by
            rcases (by omega : kd = 10 ∨ kd = 11 ∨ kd = 12) with rfl | rfl | rfl
            · exact ⟨(hG.1.2 2 _ rfl).1, rfl⟩
            · exact ⟨(hG.1.2 3 _ rfl).1, rfl⟩
            · exact ⟨(hG.1.2 4 _ rfl).1, rfl⟩
          exact W.aald hx hb hcell (harr.1 n' _) harr.2 (fun z => by cases z) (by rw [arrV_size]; exact hin) (by rw [arrV_read _ _ hlt]) rfl rfl hd k0
        · cases hs
      · cases hs
    · cases hs
  | iastore =>
    obtain ⟨h1, he⟩ := ai_g_inv hr; cases he; obtain rfl := ai_len h1
    simp only [ai_st3, reduceIte, Nat.reduceEqDiff, reduceCtorEq, if_false, Nat.one_ne_zero, Nat.succ_ne_zero] at hs
    split at hs
    · split at hs
      · rename_i x0 i0 a0 st0 _ kd n' hn
        split at hs
        · rename_i hcnd
          obtain ⟨rfl, hin⟩ := hcnd
          cases hs
          have hcell : H[N0 + a0]? = some (vp_cell (cA 9) (n', .inl (h.2.1 a0))) := (hP.2 _ _ _ hn).1
          refine W.iast hx hb hcell ((hG.1.2 1 _ rfl).1 n' (fun j => .int (h.2.1 a0 j))) (fun z => by cases z) (by show ¬ (i0 < 0 ∨ (arrV _ _ _).slots.size ≤ _); rw [arrV_size]; exact ai_in_vp hin) rfl rfl hd fun H1 e1 z oq => ?_
          refine kk _ _ _ _ _ hl (hP.put hn rfl z oq (fun a9 h9 => ai_u_other _ _ _ _ h9) (fun _ _ => rfl) ?_) (hS.put z oq (Nat.le_add_right _ _)) hc hz
          show H1[N0 + a0]? = some (vp_cell (cA 9) (n', .inl (ai_u h.2.1 a0 i0.toNatClampNeg x0 a0)))
          rw [e1, vp_cell_i, vp_cell_i, arrV_store]
          congr 2
          funext z9
          by_cases hq9 : z9 = i0.toNatClampNeg
          · subst hq9
            simp [updV, ai_u]
          · simp [updV, ai_u, hq9]
        · cases hs
      · cases hs
    · cases hs
  | castore =>
    obtain ⟨h1, he⟩ := ai_g_inv hr; cases he; obtain rfl := ai_len h1
    simp only [ai_st3, reduceIte, Nat.reduceEqDiff, reduceCtorEq, if_false, Nat.one_ne_zero, Nat.succ_ne_zero] at hs
    split at hs
    · split at hs
      · rename_i x0 i0 a0 st0 _ kd n' hn
        split at hs
        · rename_i hcnd
          obtain ⟨rfl, hin⟩ := hcnd
          cases hs
          have hcell : H[N0 + a0]? = some (vp_cell (cA 8) (n', .inl (h.2.1 a0))) := (hP.2 _ _ _ hn).1
          refine W.cast hx hb hcell ((hG.1.2 0 _ rfl).1 n' (fun j => .int (h.2.1 a0 j))) (fun z => by cases z) (by show ¬ (i0 < 0 ∨ (arrV _ _ _).slots.size ≤ _); rw [arrV_size]; exact ai_in_vp hin) rfl rfl hd fun H1 e1 z oq => ?_
          refine kk _ _ _ _ _ hl (hP.put hn rfl z oq (fun a9 h9 => ai_u_other _ _ _ _ h9) (fun _ _ => rfl) ?_) (hS.put z oq (Nat.le_add_right _ _)) hc hz
          show H1[N0 + a0]? = some (vp_cell (cA 8) (n', .inl (ai_u h.2.1 a0 i0.toNatClampNeg (vp_nar .char x0) a0)))
          rw [e1, vp_cell_i, vp_cell_i, arrV_store]
          congr 2
          funext z9
          by_cases hq9 : z9 = i0.toNatClampNeg
          · subst hq9
            simp [updV, ai_u, vp_nar]
            try rfl
          · simp [updV, ai_u, hq9]
        · cases hs
      · cases hs
    · cases hs
  | aastore =>
    obtain ⟨h1, he⟩ := ai_g_inv hr; cases he; obtain rfl := ai_len h1
    simp only [ai_st3, reduceIte, Nat.reduceEqDiff, reduceCtorEq, if_false, Nat.one_ne_zero, Nat.succ_ne_zero] at hs
    split at hs
    · split at hs
      · rename_i w0 i0 a0 st0 _ kd n' hn
        split at hs
        · rename_i hcnd
          obtain ⟨hkd, hin⟩ := hcnd
          cases hs
          have hin := ai_in_vp hin
          have hlt : i0.toNatClampNeg < n' := Nat.not_le.mp fun z => hin (Or.inr z)
          have h0 : ¬ i0 < 0 := fun z => hin (Or.inl z)
          have hkd10 : kd = 10 ∨ kd = 11 := by rcases hkd with h9 | h9 <;> omega
          have hcell : H[N0 + a0]? = some (vp_cell (cA kd) (n', .inr (.inr (.inr (.inr (fun j => ai_rn N0 (h.2.2 a0 j))))))) := by
            have h9 := (hP.2 _ _ _ hn).1
            unfold ai_E at h9
            rw [if_neg (by omega), if_neg (by omega)] at h9
            exact h9
          obtain ⟨ci, r, hci, hwk, hra⟩ : ∃ ci r, vwCl[ci]? = some r ∧ ai_kd h w0 = some ci ∧ va_RA s (cA kd) (.object r.1) := by
            rcases hkd with ⟨rfl, h9⟩ | ⟨rfl, h9⟩
            · exact ⟨3, _, rfl, h9, (hG.1.2 2 _ rfl).2⟩
            · exact ⟨4, _, rfl, h9, (hG.1.2 3 _ rfl).2⟩
          obtain ⟨nw, hnw⟩ := ai_kd_at hwk
          have hatw := (hP.2 _ _ _ hnw).1
          rw [ai_E_obj N0 cA _ _ nw (ai_k8 hci)] at hatw
          obtain ⟨r', hr', cellV, g1, g2, g3, -⟩ := hatw
          have hcls := (hG.1.1 ci r hci).2
          obtain ⟨kA, comp, k1, k2, k3, -⟩ := hra
          have hcomp : comp = D.1 ci := Option.some.inj (k3.symm.trans hcls.1)
          subst hcomp
          obtain ⟨kC, hkC, -⟩ := hcls.2
          refine W.aast hx hb hcell (fun z h9 => by cases h9) (fun h9 => by cases h9) k1 k2 rfl hkC ⟨h0, by show _ < (arrV _ _ _).slots.size; rw [arrV_size]; exact hlt⟩ g1 (fun z h9 => by rw [g3] at h9; cases h9) (by rw [g2]; exact hkC) (by rw [g2]; exact va_assign hcls) rfl rfl hd fun H1 e1 z oq => ?_
          refine kk _ _ _ _ _ hl (hP.put hn rfl z oq (fun _ _ => rfl) (fun a9 h9 => ai_u_other _ _ _ _ h9) ?_) (hS.put z oq (Nat.le_add_right _ _)) hc hz
          have eE : ai_E N0 cA (h.2.1 a0) (ai_u h.2.2 a0 i0.toNatClampNeg (w0 + 1) a0) kd n' = .inl (cA kd, n', .inr (.inr (.inr (.inr (fun j => ai_rn N0 (ai_u h.2.2 a0 i0.toNatClampNeg (w0 + 1) a0 j)))))) := by
            unfold ai_E
            rw [if_neg (by omega), if_neg (by omega)]
          show va_at D vwCl (N0 + a0, ai_E N0 cA (h.2.1 a0) (ai_u h.2.2 a0 i0.toNatClampNeg (w0 + 1) a0) kd n') H1
          rw [eE]
          show H1[N0 + a0]? = some (vp_cell _ _)
          rw [e1, vp_cell_q, vp_cell_q, arrV_store]
          congr 2
          funext z9
          by_cases hq9 : z9 = i0.toNatClampNeg
          · subst hq9
            simp [updV, ai_u, ai_rn, va_rf]
          · simp [updV, ai_u, hq9]
        · cases hs
      · cases hs
    · cases hs
  | arraylength =>
    obtain ⟨h1, he⟩ := ai_g_inv hr; cases he; obtain rfl := ai_len h1
    simp only [ai_st3, reduceIte, Nat.reduceEqDiff, reduceCtorEq, if_false, Nat.one_ne_zero, Nat.succ_ne_zero] at hs
    split at hs
    · split at hs
      · cases hs
      · rename_i hne
        cases hs
        rcases hsx with h0 | ⟨hX, hbl, hbA⟩
        · exact absurd h0 hne
        · exact va_slen hx hb hX hbl (Nat.not_le.mpr hbA) hS hd (kk _ _ _ _ _ hl hP hS hc hz)
    · cases hs
  | iconst n =>
    obtain ⟨h1, he⟩ := ai_g_inv hr; cases he; omega
  | bipush n =>
    obtain ⟨h1, he⟩ := ai_g_inv hr; cases he; omega
  | sipush n =>
    obtain ⟨h1, he⟩ := ai_g_inv hr; cases he; omega
  | iload_n k =>
    obtain ⟨h1, he⟩ := ai_g_inv hr; cases he; omega
  | iload k =>
    obtain ⟨h1, he⟩ := ai_g_inv hr; cases he; omega
  | aload_n k =>
    obtain ⟨h1, he⟩ := ai_g_inv hr; cases he; omega
  | aload k =>
    obtain ⟨h1, he⟩ := ai_g_inv hr; cases he; omega
  | istore_n k =>
    obtain ⟨h1, he⟩ := ai_g_inv hr; cases he; omega
  | istore k =>
    obtain ⟨h1, he⟩ := ai_g_inv hr; cases he; omega
  | astore_n k =>
    obtain ⟨h1, he⟩ := ai_g_inv hr; cases he; omega
  | astore k =>
    obtain ⟨h1, he⟩ := ai_g_inv hr; cases he; omega
  | iinc k n =>
    obtain ⟨h1, he⟩ := ai_g_inv hr; cases he; omega
  | iadd =>
    obtain ⟨h1, he⟩ := ai_g_inv hr; cases he; omega
  | isub =>
    obtain ⟨h1, he⟩ := ai_g_inv hr; cases he; omega
  | imul =>
    obtain ⟨h1, he⟩ := ai_g_inv hr; cases he; omega
  | iand =>
    obtain ⟨h1, he⟩ := ai_g_inv hr; cases he; omega
  | ishl =>
    obtain ⟨h1, he⟩ := ai_g_inv hr; cases he; omega
  | ishr =>
    obtain ⟨h1, he⟩ := ai_g_inv hr; cases he; omega
  | ixor =>
    obtain ⟨h1, he⟩ := ai_g_inv hr; cases he; omega
  | idiv =>
    obtain ⟨h1, he⟩ := ai_g_inv hr; cases he; omega
  | irem =>
    obtain ⟨h1, he⟩ := ai_g_inv hr; cases he; omega
  | ineg =>
    obtain ⟨h1, he⟩ := ai_g_inv hr; cases he; omega
  | i2c =>
    obtain ⟨h1, he⟩ := ai_g_inv hr; cases he; omega
  | dup =>
    obtain ⟨h1, he⟩ := ai_g_inv hr; cases he; omega
  | dup_x1 =>
    obtain ⟨h1, he⟩ := ai_g_inv hr; cases he; omega
  | dup_x2 =>
    obtain ⟨h1, he⟩ := ai_g_inv hr; cases he; omega
  | dup2 =>
    obtain ⟨h1, he⟩ := ai_g_inv hr; cases he; omega
  | pop =>
    obtain ⟨h1, he⟩ := ai_g_inv hr; cases he; omega
  | aconst_null =>
    obtain ⟨h1, he⟩ := ai_g_inv hr; cases he; omega
  | ldc n =>
    obtain ⟨w, hw, hr⟩ := ai_bind_inv hr
    obtain ⟨h1, he⟩ := ai_g_inv hr; cases he; omega
  | goto o =>
    obtain ⟨w, hw, hr⟩ := ai_bind_inv hr
    obtain ⟨h1, he⟩ := ai_g_inv hr; cases he; omega
  | if_icmp c o =>
    obtain ⟨w, hw, hr⟩ := ai_bind_inv hr
    obtain ⟨h1, he⟩ := ai_g_inv hr; cases he; omega
  | ifCond c o =>
    obtain ⟨w, hw, hr⟩ := ai_bind_inv hr
    obtain ⟨h1, he⟩ := ai_g_inv hr; cases he; omega
  | ifnull o =>
    obtain ⟨w, hw, hr⟩ := ai_bind_inv hr
    obtain ⟨h1, he⟩ := ai_g_inv hr; cases he; omega
  | ifnonnull o =>
    obtain ⟨w, hw, hr⟩ := ai_bind_inv hr
    obtain ⟨h1, he⟩ := ai_g_inv hr; cases he; omega
  | new n =>
    obtain ⟨w, hw, hr⟩ := ai_bind_inv hr
    obtain ⟨w, hw, hr⟩ := ai_bind_inv hr
    obtain ⟨h1, he⟩ := ai_g_inv hr; cases he; omega
  | newarray t =>
    simp only [ai_res] at hr
    split at hr
    · obtain ⟨h1, he⟩ := ai_g_inv hr; cases he; omega
    · split at hr
      · obtain ⟨h1, he⟩ := ai_g_inv hr; cases he; omega
      · cases hr
  | anewarray n =>
    obtain ⟨w, hw, hr⟩ := ai_bind_inv hr
    split at hr
    · obtain ⟨h1, he⟩ := ai_g_inv hr; cases he; omega
    · split at hr
      · obtain ⟨h1, he⟩ := ai_g_inv hr; cases he; omega
      · cases hr
  | multianewarray n k =>
    obtain ⟨w, hw, hr⟩ := ai_bind_inv hr
    obtain ⟨h1, he⟩ := ai_g_inv hr; cases he; omega
  | ireturn | areturn | return_ =>
    simp only [ai_res] at hr
    repeat (split at hr; · (obtain ⟨h1, he⟩ := ai_g_inv hr; cases he; omega))
    cases hr
  | tableswitch df lo hi os =>
    obtain ⟨w, hw, hr⟩ := ai_bind_inv hr
    obtain ⟨w, hw, hr⟩ := ai_bind_inv hr
    obtain ⟨h1, he⟩ := ai_g_inv hr; cases he; omega
  | invokestatic n => exact absurd hop (by have := ai_res_inv hr (Or.inl ⟨n, rfl⟩); omega)
  | invokevirtual n => exact absurd hop (by have := ai_res_inv hr (Or.inr (Or.inl ⟨n, rfl⟩)); omega)
  | invokespecial n => exact absurd hop (by have := ai_res_inv hr (Or.inr (Or.inr ⟨n, rfl⟩)); omega)
  | _ => exact absurd hr (by simp [ai_res])
end AIS3
end
section
/-! steps: making cells, Object(), arraycopy -/
theorem ai_c1_sum {sb N0 : Nat} {st : List Value} (h : ai_c1 st = true) : ((st.map (ai_cv sb N0)).map fun v => v.category).sum = st.length := by
  induction st with
  | nil => rfl
  | cons v st ih =>
    unfold ai_c1 at h
    rw [List.all_cons, Bool.and_eq_true] at h
    have h1 : v.category = 1 := by simpa using h.1
    rw [List.map_cons, List.map_cons, List.sum_cons, ih h.2, ai_cv_cat, h1, List.length_cons, Nat.add_comm]
theorem ai_sum_push (K : List (Nat × Nat)) (x : Nat × Nat) (MI MI' : Nat → Nat → Int32) (MR MR' : Nat → Nat → Nat) : ai_sum (K ++ [x], MI', MR') = ai_sum (K, MI, MR) + x.2 := by
  simp [ai_sum]
theorem ai_sum_rep (K : List (Nat × Nat)) (x y : Nat × Nat) (n : Nat) (MI MI' : Nat → Nat → Int32) (MR MR' : Nat → Nat → Nat) : ai_sum ((K ++ [x]) ++ List.replicate n y, MI', MR') = ai_sum (K, MI, MR) + x.2 + n * y.2 := by
  simp [ai_sum]
  omega
theorem ai_vr_outer (c : ClassId) (N h0 : Nat) : ∀ i : Nat, Jvm.Free.Multi.outerC c N h0 i = arrV c N (fun j => va_rf (if j < i then some (h0 + 1 + j) else none))
  | 0 => by
    show ({ cls := c, slots := Array.replicate N .null, vm := .none } : Cell) = _
    rw [arrV_new]
    refine congrArg (arrV c N) (funext fun j => ?_)
    simp [va_rf]
  | i + 1 => by
    show (Jvm.Free.Multi.outerC c N h0 i).setSlot i (.ref (h0 + 1 + i)) = _
    rw [ai_vr_outer c N h0 i, arrV_store]
    refine congrArg (arrV c N) (funext fun j => ?_)
    by_cases e : j = i
    · subst e
      simp [updV, va_rf]
    · by_cases h : j < i
      · simp [updV, e, h, Nat.lt_succ_of_lt h]
      · simp [updV, e, h, show ¬ j < i + 1 by omega]
theorem ai_ot_in {own : String} {n : Nat} (h : ai_ot.contains (own, n) = true) : Cond.methodLink own n objectInit ∈ ai_ws := by
  have h1 : (own, n) ∈ ai_ot := by simpa using h
  have h3 : Cond.methodLink own n objectInit ∈ ai_ot.flatMap (fun e => [Cond.methodLink e.1 e.2 objectInit]) := List.mem_flatMap.mpr ⟨_, h1, List.mem_singleton.mpr rfl⟩
  unfold ai_ws
  simp only [List.mem_append]
  exact Or.inr (Or.inr (Or.inr (Or.inr (Or.inr (Or.inr (Or.inr (Or.inl h3)))))))
theorem ai_pt_in {own : String} {n : Nat} (h : ai_pt.contains (own, n) = true) : Cond.methodLink own n arraycopyName ∈ ai_ws := by
  have h1 : (own, n) ∈ ai_pt := by simpa using h
  have h3 : Cond.methodLink own n arraycopyName ∈ ai_pt.flatMap (fun e => [Cond.methodLink e.1 e.2 arraycopyName]) := List.mem_flatMap.mpr ⟨_, h1, List.mem_singleton.mpr rfl⟩
  unfold ai_ws
  simp only [List.mem_append]
  exact Or.inr (Or.inr (Or.inr (Or.inr (Or.inr (Or.inr (Or.inr (Or.inr (Or.inl h3))))))))
theorem ai_fs_zero {k : Nat} {r : vw_C} (h : vwCl[k]? = some r) (N0 : Nat) : ∀ j, j < r.2.2 → defaultValue (ai_ty r j) = vp_V (ai_fs N0 k (fun _ => 0) (fun _ => 0)) j := by
  intro j hj
  unfold vp_V
  rw [List.getD_eq_getElem?_getD, ai_fs_get h hj]
  cases e : ai_isref k j with
  | true => rcases ai_ty_ref h hj e with ⟨n, e9⟩ | ⟨t, e9⟩ <;> rw [e9] <;> rfl
  | false => rcases ai_ty_int h hj e with e9 | ⟨e9, -⟩ <;> rw [e9] <;> rfl
theorem ai_nn (z : Int32) (hz : ¬ z < 0) : z.toInt = (z.toNatClampNeg : Int) := by
  have hz0 : (0 : Int) ≤ z.toInt := by
    have := Int32.not_lt.mp hz
    simpa using Int32.le_iff_toInt_le.mp this
  show z.toInt = ((z.toInt.toNat : Nat) : Int)
  omega
section AIS4
variable {p : Program} {l : Launch} {e : Env} {R : Room} {s : State} {m : MethodId} {args : Array Value} {below : List Frame} {meth : Method} {c : Code} {Q : State → Prop}
variable {q : ai_M} {D : va_G} {cA : Nat → ClassId} {sb N0 L0 S0 d : Nat} {X : ai_X}

/-- new T[n][k] of ints -/
theorem ai_mna (hx : p.tables.exec = Jvm.exec) (hb : c.code = q.2.1) (hown : s.vm.findClass q.1.cls = some m.cls) (hts : ∀ w ∈ ai_ws, w.before args s = true) (hG : ai_G D cA s)
    {index pc : Nat} {n k : Int32} {rest : List Value} {h : ai_H} {H : Heap} {locs : List Loc} {cells slots : Nat} {ls : Array Slot} (hlink : Cond.classLink q.1.cls index "[[I" ∈ ai_ws) (hn : ¬ n < 0) (hk : ¬ k < 0) (hn1 : n.toNatClampNeg ≤ 1000) (hk1 : k.toNatClampNeg ≤ 1000)
    (hP : ai_P N0 D cA h H) (hS : va_S (fun x => N0 ≤ x) s.heap H locs) (hcells : cells + (1 + n.toNatClampNeg) ≤ R.cells) (hslots : slots + (n.toNatClampNeg + n.toNatClampNeg * k.toNatClampNeg) ≤ R.slots) (hd : decode q.2.1 pc = .ok (.multianewarray index 2, 4))
    (kk : ∀ (H1 : Heap), ai_P N0 D cA ((h.1 ++ [(12, n.toNatClampNeg)]) ++ List.replicate n.toNatClampNeg (9, k.toNatClampNeg), (fun q j => if h.1.length ≤ q then 0 else h.2.1 q j), (fun q j => if q = h.1.length then (if j < n.toNatClampNeg then h.1.length + 1 + j + 1 else 0) else if h.1.length ≤ q then 0 else h.2.2 q j)) H1 → va_S (fun x => N0 ≤ x) s.heap H1 locs →
      W p l e R s m args below meth c H1 locs (cells + 1 + n.toNatClampNeg) (slots + n.toNatClampNeg + n.toNatClampNeg * k.toNatClampNeg) Q (F0 m (pc + 4) ls (.ref (N0 + h.1.length) :: rest))) : W p l e R s m args below meth c H locs cells slots Q (F0 m pc ls (.int k :: .int n :: rest)) := by
  intro T hT Xs
  have hi1 : Cond.arrayClass .int ∈ ai_ws := ai_misc_in _ (by decide +kernel)
  obtain ⟨vm₁, cA', comp, -, fA, fC, hO, -, X', step⟩ := Xs.multianewarray2F hx (ty := .int) hown (hts _ hlink) (show (Cond.arrayOver (.array .int)).before args s = true from hG.2.2.2.2) (hts _ hi1) (g := F0 m pc ls (.int k :: .int n :: rest)) rfl (by rw [hb]; exact hd) rfl hn hk (by omega) (by show k.toNatClampNeg * 4 ≤ 536870912; omega) (by omega) rfl rfl hcells hslots
  have eA : cA' = cA 12 := Option.some.inj (fA.symm.trans (hG.1.2 4 _ rfl).2)
  have eC : comp = cA 9 := Option.some.inj (fC.symm.trans (hG.1.2 1 _ rfl).2)
  subst eA
  subst eC
  generalize hF : Jvm.Free.Multi.fill (T.setVm vm₁) (cA 12) (cA 9) n.toNatClampNeg k.toNatClampNeg (defaultValue .int) n.toNatClampNeg = F at X' step
  have hTh : (T.setVm vm₁).heap = H := hT
  obtain ⟨f1, f2, -, -⟩ := Jvm.Free.Multi.fill_facts (T.setVm vm₁) (cA 12) (cA 9) n.toNatClampNeg k.toNatClampNeg (defaultValue .int) n.toNatClampNeg
  rw [hF, hTh] at f1 f2
  have hold : ∀ x : Nat, x < H.size → F.heap[x]? = H[x]? := fun x hx => by
    have := Jvm.Free.Multi.fill_old (T.setVm vm₁) (cA 12) (cA 9) n.toNatClampNeg k.toNatClampNeg (defaultValue .int) (a := x) (by rw [hTh]; exact hx) n.toNatClampNeg
    rw [hF, hTh] at this
    exact this
  have hrow : ∀ j : Nat, j < n.toNatClampNeg → F.heap[H.size + 1 + j]? = some (arrV (cA 9) k.toNatClampNeg (fun _ => .int 0)) := fun j hj => by
    have := Jvm.Free.Multi.fill_inner (T.setVm vm₁) (cA 12) (cA 9) n.toNatClampNeg k.toNatClampNeg (defaultValue .int) n.toNatClampNeg j hj
    rw [hF, hTh] at this
    rw [this]
    exact congrArg some (arrV_new _ _ _)
  rw [ai_vr_outer] at f2
  have hz := hP.1
  have hP1 : ai_P N0 D cA ((h.1 ++ [(12, n.toNatClampNeg)]) ++ List.replicate n.toNatClampNeg (9, k.toNatClampNeg), (fun q j => if h.1.length ≤ q then 0 else h.2.1 q j), (fun q j => if q = h.1.length then (if j < n.toNatClampNeg then h.1.length + 1 + j + 1 else 0) else if h.1.length ≤ q then 0 else h.2.2 q j)) F.heap := by
    refine ⟨by rw [f1, hz]; simp; omega, fun a kd n' ha => ?_⟩
    dsimp only at ha ⊢
    by_cases h1 : a < h.1.length
    · rw [List.append_assoc, List.getElem?_append_left h1] at ha
      have r1 : (fun j => if h.1.length ≤ a then (0 : Int32) else h.2.1 a j) = h.2.1 a := funext fun j => if_neg (by omega)
      have r2 : (fun j => if a = h.1.length then (if j < n.toNatClampNeg then h.1.length + 1 + j + 1 else 0) else if h.1.length ≤ a then 0 else h.2.2 a j) = h.2.2 a := funext fun j => by rw [if_neg (by omega), if_neg (by omega)]
      rw [r1, r2]
      exact ⟨(hP.2 _ _ _ ha).1.kept (hold _ (by show N0 + a < H.size; omega)), (hP.2 _ _ _ ha).2⟩
    · by_cases h2 : a = h.1.length
      · subst h2
        rw [List.append_assoc, List.getElem?_append_right (Nat.le_refl _), Nat.sub_self] at ha
        cases ha
        refine ⟨?_, by omega⟩
        show F.heap[N0 + h.1.length]? = some (arrV (cA 12) n.toNatClampNeg (fun j => va_rf (ai_rn N0 (if h.1.length = h.1.length then (if j < n.toNatClampNeg then h.1.length + 1 + j + 1 else 0) else if h.1.length ≤ h.1.length then 0 else h.2.2 h.1.length j))))
        rw [← hz, f2]
        refine congrArg some (congrArg (arrV (cA 12) n.toNatClampNeg) (funext fun j => ?_))
        rw [if_pos rfl]
        by_cases h3 : j < n.toNatClampNeg
        · simp only [if_pos h3, hz]
          exact congrArg Value.ref (show N0 + h.1.length + 1 + j = N0 + (h.1.length + 1 + j) by omega)
        · simp only [if_neg h3]
          rfl
      · rw [List.getElem?_append_right (by simp; omega)] at ha
        have hlt : a - (h.1 ++ [(12, n.toNatClampNeg)]).length < n.toNatClampNeg := by
          have := (List.getElem?_eq_some_iff.mp ha).1
          simpa using this
        rw [List.getElem?_replicate, if_pos hlt] at ha
        cases ha
        refine ⟨?_, by omega⟩
        have r1 : (fun j => if h.1.length ≤ a then (0 : Int32) else h.2.1 a j) = fun _ => 0 := funext fun j => if_pos (by omega)
        rw [r1]
        show F.heap[N0 + a]? = some (arrV (cA 9) k.toNatClampNeg (fun _ => .int 0))
        have h4 := hrow _ hlt
        have e4 : H.size + 1 + (a - (h.1 ++ [(12, n.toNatClampNeg)]).length) = N0 + a := by simp; omega
        rw [e4] at h4
        exact h4
  obtain ⟨t, a1, b1⟩ := kk F.heap hP1 (ai_S.grow hS (by rw [f1]; omega) hold) F rfl X'
  refine ⟨t, step t ?_, b1⟩
  have e9 : T.heap.size = N0 + h.1.length := by rw [hT]; exact hz
  rw [e9]
  exact a1
/-- System.arraycopy between rows of ints -/
theorem ai_cpy (hx : p.tables.exec = Jvm.exec) (hb : c.code = q.2.1) (hml : c.maxLocals = q.2.2.1) (hown : s.vm.findClass q.1.cls = some m.cls) (hts : ∀ w ∈ ai_ws, w.before args s = true) (hG : ai_G D cA s)
    {index pc : Nat} {rest : List Value} {h : ai_H} {H : Heap} {locs : List Loc} {cells slots : Nat} {ls : Array Slot} (hls : ls.size = q.2.2.1) (hlink : Cond.methodLink q.1.cls index arraycopyName ∈ ai_ws)
    {q0 q1 n0 n1 : Nat} {sp dp n : Int32} (ha0 : h.1[q0]? = some (9, n0)) (ha1 : h.1[q1]? = some (9, n1)) (h1 : ¬ sp < 0) (h2 : ¬ dp < 0) (h3 : ¬ n < 0) (h4 : sp.toNatClampNeg + n.toNatClampNeg ≤ n0) (h5 : dp.toNatClampNeg + n.toNatClampNeg ≤ n1)
    (hP : ai_P N0 D cA h H) (hS : va_S (fun x => N0 ≤ x) s.heap H locs) (hframes : 1 ≤ R.frames) (hlocals : (rest.map fun v => v.category).sum + 56 ≤ R.locals) (hd : decode q.2.1 pc = .ok (.invokestatic index, 3))
    (kk : ∀ (H1 : Heap) (locs1 : List Loc), ai_P N0 D cA (h.1, (fun q j => if q = q1 ∧ dp.toNatClampNeg ≤ j ∧ j < dp.toNatClampNeg + n.toNatClampNeg then h.2.1 q0 (sp.toNatClampNeg + (j - dp.toNatClampNeg)) else h.2.1 q j), h.2.2) H1 → va_S (fun x => N0 ≤ x) s.heap H1 locs1 →
      W p l e R s m args below meth c H1 locs1 cells slots Q (F0 m (pc + 3) ls rest)) : W p l e R s m args below meth c H locs cells slots Q (F0 m pc ls (.int n :: .int dp :: .ref (N0 + q1) :: .int sp :: .ref (N0 + q0) :: rest)) := by
  intro T hT Xs
  have h56 : nativeFrameWords "java/lang/System" "arraycopy" 5 + 11 ≤ 56 := by decide +kernel
  have w1 := hts _ (ai_misc_in (.native arraycopyName) (by decide +kernel))
  have w2 := hts _ (ai_misc_in (.static arraycopyName) (by decide +kernel))
  have w3 := hts _ (ai_misc_in (.initialized "java/lang/System") (by decide +kernel))
  have hc0 : H[N0 + q0]? = some (vp_cell (cA 9) (n0, .inl (h.2.1 q0))) := (hP.2 _ _ _ ha0).1
  have hc1 : H[N0 + q1]? = some (vp_cell (cA 9) (n1, .inl (h.2.1 q1))) := (hP.2 _ _ _ ha1).1
  obtain ⟨-, k0, hk0, cm0, hkk0⟩ := (hG.1.2 1 _ rfl).1 n0 (fun j => .int (h.2.1 q0 j))
  obtain ⟨-, k1, hk1, cm1, hkk1⟩ := (hG.1.2 1 _ rfl).1 n1 (fun j => .int (h.2.1 q1 j))
  obtain ⟨vm', X', step⟩ := Xs.arraycopy hx hown (hts _ hlink) w1 w2 w3 (src := N0 + q0) (dst := N0 + q1) (cs := vp_cell (cA 9) (n0, .inl (h.2.1 q0))) (cd := vp_cell (cA 9) (n1, .inl (h.2.1 q1))) (srcPos := sp) (destPos := dp) (n := n) (by rw [hT]; exact hc0) (by rw [hT]; exact hc1)
    (fun _ h => by cases h) (fun _ h => by cases h) (fun h => by cases h) (fun h => by cases h) hk0 hk1 hkk0 hkk1 (by simp [refKind]) h1 h2 h3
    (by rw [ai_nn sp h1, ai_nn n h3]; show ¬ _ > ((arrV (cA 9) n0 (fun j => .int (h.2.1 q0 j))).slots.size : Int); rw [arrV_size]; omega)
    (by rw [ai_nn dp h2, ai_nn n h3]; show ¬ _ > ((arrV (cA 9) n1 (fun j => .int (h.2.1 q1 j))).slots.size : Int); rw [arrV_size]; omega)
    (fun vm₁ _ i hi => by
      have e : (vp_cell (cA 9) (n0, .inl (h.2.1 q0))).slots.getD (sp.toNatClampNeg + i) .null = .int (h.2.1 q0 (sp.toNatClampNeg + i)) := by
        show (arrV (cA 9) n0 (fun j => .int (h.2.1 q0 j))).slots.getD _ _ = _
        rw [Array.getD_eq_getD_getElem?, arrV_read _ _ (by omega)]
        rfl
      refine ⟨?_, ?_⟩
      · rw [e]
        rfl
      · rw [e]
        exact trivial)
    (g := F0 m pc ls (.int n :: .int dp :: .ref (N0 + q1) :: .int sp :: .ref (N0 + q0) :: rest)) rfl (by rw [hml]; exact hls) (rest := rest) rfl (by rw [hb]; exact hd) hframes (by show 2 * 0 + _ + _ ≤ _; omega)
  have e1 : copied (vp_cell (cA 9) (n0, .inl (h.2.1 q0))) (vp_cell (cA 9) (n1, .inl (h.2.1 q1))) sp dp n = vp_cell (cA 9) (n1, .inl (va_cpy (h.2.1 q0) (h.2.1 q1) sp.toNatClampNeg dp.toNatClampNeg n.toNatClampNeg)) := va_copied (fun z => .int z) (cA 9) (cA 9) (h.2.1 q0) (h.2.1 q1) h4
  rw [e1] at X' step
  have hl : N0 + q1 < H.size := (Array.getElem?_eq_some_iff.mp hc1).1
  generalize hcell : vp_cell (cA 9) (n1, .inl (va_cpy (h.2.1 q0) (h.2.1 q1) sp.toNatClampNeg dp.toNatClampNeg n.toNatClampNeg)) = cell at X' step
  have hheap : ((T.setVm vm').setCell (N0 + q1) cell).heap = H.setIfInBounds (N0 + q1) cell := by rw [← hT]; rfl
  have oq : ∀ x : Nat, x ≠ N0 + q1 → (H.setIfInBounds (N0 + q1) cell)[x]? = H[x]? := fun x hx => by simp [Array.getElem?_setIfInBounds, Ne.symm hx]
  have hself : (H.setIfInBounds (N0 + q1) cell)[N0 + q1]? = some cell := by simp [Array.getElem?_setIfInBounds, hl]
  have hP1 : ai_P N0 D cA (h.1, (fun q j => if q = q1 ∧ dp.toNatClampNeg ≤ j ∧ j < dp.toNatClampNeg + n.toNatClampNeg then h.2.1 q0 (sp.toNatClampNeg + (j - dp.toNatClampNeg)) else h.2.1 q j), h.2.2) (H.setIfInBounds (N0 + q1) cell) := by
    refine hP.put ha1 rfl (by simp) oq (fun a9 h9 => funext fun j => ?_) (fun _ _ => rfl) ?_
    · exact if_neg (fun hh => h9 hh.1)
    · show (H.setIfInBounds (N0 + q1) cell)[N0 + q1]? = some (vp_cell (cA 9) (n1, .inl (fun j => if q1 = q1 ∧ dp.toNatClampNeg ≤ j ∧ j < dp.toNatClampNeg + n.toNatClampNeg then h.2.1 q0 (sp.toNatClampNeg + (j - dp.toNatClampNeg)) else h.2.1 q1 j)))
      rw [hself, ← hcell]
      congr 4
      funext j
      simp [va_cpy]
  obtain ⟨t, a1, b1⟩ := kk _ _ hP1 ⟨by simp; exact hS.1, fun x g1 g2 => by
      rw [oq x (fun e => g2 (by rw [e]; exact Nat.le_add_right _ _))]
      exact hS.2.1 x g1 g2, fun x hq => by
      rcases List.mem_append.mp hq with h | h
      · exact hS.2.2 x h
      · obtain ⟨z, -, hz⟩ := List.mem_map.mp h
        rw [← hz]
        exact Nat.le_add_right _ _⟩ _ hheap X'
  exact ⟨t, step t a1, b1⟩
theorem ai_one4 (C : ai_Cx p s m args meth c q D cA) (hN : N0 ≤ s.heap.size) (hRd : d ≤ R.frames ∧ 64 * d ≤ R.locals) {i : Instr} {len pc op a b : Nat} {v : Int32} {tb : List Nat} {nx : Nat} (hd : decode q.2.1 pc = .ok (i, len)) (hr : ai_res q.1 q.2.2.2.1 pc i len = some (op, a, b, v, tb, nx)) (hop : 33 ≤ op ∧ op ≤ 36 ∨ op = 40 ∨ op = 41)
    {als st : List Value} {h : ai_H} {o : Nat × List Value × List Value × ai_H} (hs : ai_st4 d op a b tb nx als st h = some (.inl o)) (hRc : o.2.2.2.1.length ≤ R.cells + L0) (hRs : ai_sum o.2.2.2 ≤ R.slots + S0) (kk : ai_K p l e R s m args below meth c Q q D cA sb N0 L0 S0 o)
    {ls : Array Slot} {H : Heap} {locs : List Loc} {cells slots : Nat} (hl : ai_L sb N0 q.2.2.1 als ls) (hP : ai_P N0 D cA h H) (hS : va_S (fun x => N0 ≤ x) s.heap H locs) (hc : cells + L0 = h.1.length) (hz : slots + S0 = ai_sum h) :
    W p l e R s m args below meth c H locs cells slots Q (F0 m pc ls (st.map (ai_cv sb N0))) := by
  obtain ⟨hx, hb, hml, hown, hts, hnm, hG⟩ := C
  cases i with
  | new n =>
    obtain ⟨k, hw, hr⟩ := ai_bind_inv hr
    obtain ⟨r, hr1, hr⟩ := ai_bind_inv hr
    obtain ⟨h1, he⟩ := ai_g_inv hr; cases he; obtain rfl := ai_len h1
    simp only [ai_st4, reduceIte, Nat.reduceEqDiff, reduceCtorEq, if_false, Nat.one_ne_zero, Nat.succ_ne_zero] at hs
    cases hs
    have hcl := ai_cl_in hr1
    have hKn := hG.1.1 a _ hr1
    dsimp only at hRc hRs
    rw [List.length_append, List.length_singleton] at hRc
    rw [ai_sum_push h.1 (a, r.2.2) h.2.1 _ h.2.2 _] at hRs
    have es : ai_sum (h.1, h.2.1, h.2.2) = ai_sum h := rfl
    dsimp only at hRs
    refine W.newcK hx hb hown (hts _ ((ai_kls_in hw).1 r hr1)) (hts _ hcl.2.1) (hts _ hcl.2.2) rfl hd (by omega) (by omega) hKn.2.1 rfl fun H1 kC hkC e1 z1 o1 => ?_
    have hP1 : ai_P N0 D cA (h.1 ++ [(a, r.2.2)], ai_z h.2.1 h.1.length 0, ai_z h.2.2 h.1.length 0) H1 := by
      refine hP.push (Nat.le_of_lt (Nat.lt_trans (ai_k8 hr1) (by omega))) rfl z1 o1 (fun a9 h9 => ai_z_other _ _ _ (by omega)) (fun a9 h9 => ai_z_other _ _ _ (by omega)) ?_
      dsimp only
      rw [ai_z_same, ai_z_same, ai_E_obj N0 cA _ _ _ (ai_k8 hr1), ← hP.1]
      exact ⟨_, hr1, (u_born (ai_ty r) hts hcl.1 hKn hkC e1 (ai_ty_ok hr1)).to (ai_fs_zero hr1 N0)⟩
    have k0 := kk ls H1 locs (cells + 1) (slots + r.2.2) hl hP1 (ai_S.grow hS (by omega) o1) (by dsimp only; rw [List.length_append, List.length_singleton]; omega) (by dsimp only; rw [ai_sum_push h.1 (a, r.2.2) h.2.1 _ h.2.2 _]; dsimp only; omega)
    rw [hP.1]
    exact k0
  | newarray t =>
    simp only [ai_res] at hr
    split at hr
    · rename_i ht
      subst ht
      obtain ⟨h1, he⟩ := ai_g_inv hr; cases he; obtain rfl := ai_len h1
      simp only [ai_st4, reduceIte, Nat.reduceEqDiff, reduceCtorEq, if_false, Nat.one_ne_zero, Nat.succ_ne_zero] at hs
      split at hs
      · rename_i n st0
        split at hs
        · cases hs
        · rename_i hcnd
          cases hs
          have hn0 : ¬ n < 0 := fun z => hcnd (Or.inl z)
          have hn1 : n.toNatClampNeg ≤ 1000 := Nat.le_of_not_lt (fun z => hcnd (Or.inr z))
          dsimp only at hRc hRs
          rw [List.length_append, List.length_singleton] at hRc
          rw [ai_sum_push h.1 (9, n.toNatClampNeg) h.2.1 _ h.2.2 _] at hRs
          have es : ai_sum (h.1, h.2.1, h.2.2) = ai_sum h := rfl
          dsimp only at hRs
          refine va_newaK (atype := .int) hx hb (hts _ (ai_misc_in (.arrayClass .int) (by decide +kernel))) rfl hd rfl hn0 rfl (by show n.toNatClampNeg * 4 ≤ _; omega) (by omega) (by omega) rfl fun H1 cA' e1 z1 o1 hAr hNm => ?_
          have eA : cA' = cA 9 := Option.some.inj (hNm.symm.trans (hG.1.2 1 _ rfl).2)
          subst eA
          have hP1 : ai_P N0 D cA (h.1 ++ [(9, n.toNatClampNeg)], ai_z h.2.1 h.1.length 0, ai_z h.2.2 h.1.length 0) H1 := by
            refine hP.push (by omega) rfl z1 o1 (fun a9 h9 => ai_z_other _ _ _ (by omega)) (fun a9 h9 => ai_z_other _ _ _ (by omega)) ?_
            dsimp only
            rw [ai_z_same, ai_z_same, ← hP.1]
            exact e1
          have k0 := kk ls H1 locs (cells + 1) (slots + n.toNatClampNeg) hl hP1 (ai_S.grow hS (by omega) o1) (by dsimp only; rw [List.length_append, List.length_singleton]; omega) (by dsimp only; rw [ai_sum_push h.1 (9, n.toNatClampNeg) h.2.1 _ h.2.2 _]; dsimp only; omega)
          rw [hP.1]
          exact k0
      · cases hs
    · split at hr
      · rename_i ht
        subst ht
        obtain ⟨h1, he⟩ := ai_g_inv hr; cases he; obtain rfl := ai_len h1
        simp only [ai_st4, reduceIte, Nat.reduceEqDiff, reduceCtorEq, if_false, Nat.one_ne_zero, Nat.succ_ne_zero] at hs
        split at hs
        · rename_i n st0
          split at hs
          · cases hs
          · rename_i hcnd
            cases hs
            have hn0 : ¬ n < 0 := fun z => hcnd (Or.inl z)
            have hn1 : n.toNatClampNeg ≤ 1000 := Nat.le_of_not_lt (fun z => hcnd (Or.inr z))
            dsimp only at hRc hRs
            rw [List.length_append, List.length_singleton] at hRc
            rw [ai_sum_push h.1 (8, n.toNatClampNeg) h.2.1 _ h.2.2 _] at hRs
            have es : ai_sum (h.1, h.2.1, h.2.2) = ai_sum h := rfl
            dsimp only at hRs
            refine va_newaK (atype := .char) hx hb (hts _ (ai_misc_in (.arrayClass .char) (by decide +kernel))) rfl hd rfl hn0 rfl (by show n.toNatClampNeg * 2 ≤ _; omega) (by omega) (by omega) rfl fun H1 cA' e1 z1 o1 hAr hNm => ?_
            have eA : cA' = cA 8 := Option.some.inj (hNm.symm.trans (hG.1.2 0 _ rfl).2)
            subst eA
            have hP1 : ai_P N0 D cA (h.1 ++ [(8, n.toNatClampNeg)], ai_z h.2.1 h.1.length 0, ai_z h.2.2 h.1.length 0) H1 := by
              refine hP.push (by omega) rfl z1 o1 (fun a9 h9 => ai_z_other _ _ _ (by omega)) (fun a9 h9 => ai_z_other _ _ _ (by omega)) ?_
              dsimp only
              rw [ai_z_same, ai_z_same, ← hP.1]
              exact e1
            have k0 := kk ls H1 locs (cells + 1) (slots + n.toNatClampNeg) hl hP1 (ai_S.grow hS (by omega) o1) (by dsimp only; rw [List.length_append, List.length_singleton]; omega) (by dsimp only; rw [ai_sum_push h.1 (8, n.toNatClampNeg) h.2.1 _ h.2.2 _]; dsimp only; omega)
            rw [hP.1]
            exact k0
        · cases hs
      · cases hr
  | anewarray n =>
    obtain ⟨k, hw, hr⟩ := ai_bind_inv hr
    split at hr
    · rename_i hk3
      subst hk3
      obtain ⟨h1, he⟩ := ai_g_inv hr; cases he; obtain rfl := ai_len h1
      simp only [ai_st4, reduceIte, Nat.reduceEqDiff, reduceCtorEq, if_false, Nat.one_ne_zero, Nat.succ_ne_zero] at hs
      split at hs
      · rename_i n st0
        split at hs
        · cases hs
        · rename_i hcnd
          cases hs
          have hn0 : ¬ n < 0 := fun z => hcnd (Or.inl z)
          have hn1 : n.toNatClampNeg ≤ 1000 := Nat.le_of_not_lt (fun z => hcnd (Or.inr z))
          dsimp only at hRc hRs
          rw [List.length_append, List.length_singleton] at hRc
          rw [ai_sum_push h.1 (10, n.toNatClampNeg) h.2.1 _ h.2.2 _] at hRs
          have es : ai_sum (h.1, h.2.1, h.2.2) = ai_sum h := rfl
          dsimp only at hRs
          refine W.anew hx hb (C := RX3) hown (hts _ ((ai_kls_in hw).1 _ rfl)) (va_AO.use hG.2.2.1) rfl hd rfl hn0 (by omega) (by omega) (by omega) fun cA' kA comp f1 f2 f3 f4 => ?_
          have eA : cA' = cA 10 := by
            obtain ⟨kA9, comp9, k1, k2, k3, k4⟩ := (hG.1.2 2 _ rfl).2
            exact Option.some.inj (f1.symm.trans k4)
          subst eA
          generalize hH1 : H.push ({ cls := cA 10, slots := Array.replicate n.toNatClampNeg .null, vm := .none } : Cell) = H1
          have z1 : H1.size = H.size + 1 := by rw [← hH1, Array.size_push]
          have e1 : H1[H.size]? = some (arrV (cA 10) n.toNatClampNeg (fun _ => .null)) := by rw [← hH1, Array.getElem?_push_size, ← arrV_new]
          have o1 : ∀ x : Nat, x < H.size → H1[x]? = H[x]? := fun x hq => by rw [← hH1, Array.getElem?_push, if_neg (Nat.ne_of_lt hq)]
          have hP1 : ai_P N0 D cA (h.1 ++ [(10, n.toNatClampNeg)], ai_z h.2.1 h.1.length 0, ai_z h.2.2 h.1.length 0) H1 := by
            refine hP.push (by omega) rfl z1 o1 (fun a9 h9 => ai_z_other _ _ _ (by omega)) (fun a9 h9 => ai_z_other _ _ _ (by omega)) ?_
            dsimp only
            rw [ai_z_same, ai_z_same, ← hP.1]
            exact e1
          have k0 := kk ls H1 locs (cells + 1) (slots + n.toNatClampNeg) hl hP1 (ai_S.grow hS (by omega) o1) (by dsimp only; rw [List.length_append, List.length_singleton]; omega) (by dsimp only; rw [ai_sum_push h.1 (10, n.toNatClampNeg) h.2.1 _ h.2.2 _]; dsimp only; omega)
          rw [hP.1]
          exact k0
      · cases hs
    · split at hr
      · rename_i hk3
        subst hk3
        obtain ⟨h1, he⟩ := ai_g_inv hr; cases he; obtain rfl := ai_len h1
        simp only [ai_st4, reduceIte, Nat.reduceEqDiff, reduceCtorEq, if_false, Nat.one_ne_zero, Nat.succ_ne_zero] at hs
        split at hs
        · rename_i n st0
          split at hs
          · cases hs
          · rename_i hcnd
            cases hs
            have hn0 : ¬ n < 0 := fun z => hcnd (Or.inl z)
            have hn1 : n.toNatClampNeg ≤ 1000 := Nat.le_of_not_lt (fun z => hcnd (Or.inr z))
            dsimp only at hRc hRs
            rw [List.length_append, List.length_singleton] at hRc
            rw [ai_sum_push h.1 (11, n.toNatClampNeg) h.2.1 _ h.2.2 _] at hRs
            have es : ai_sum (h.1, h.2.1, h.2.2) = ai_sum h := rfl
            dsimp only at hRs
            refine W.anew hx hb (C := RX4) hown (hts _ ((ai_kls_in hw).1 _ rfl)) (va_AO.use hG.2.2.2.1) rfl hd rfl hn0 (by omega) (by omega) (by omega) fun cA' kA comp f1 f2 f3 f4 => ?_
            have eA : cA' = cA 11 := by
              obtain ⟨kA9, comp9, k1, k2, k3, k4⟩ := (hG.1.2 3 _ rfl).2
              exact Option.some.inj (f1.symm.trans k4)
            subst eA
            generalize hH1 : H.push ({ cls := cA 11, slots := Array.replicate n.toNatClampNeg .null, vm := .none } : Cell) = H1
            have z1 : H1.size = H.size + 1 := by rw [← hH1, Array.size_push]
            have e1 : H1[H.size]? = some (arrV (cA 11) n.toNatClampNeg (fun _ => .null)) := by rw [← hH1, Array.getElem?_push_size, ← arrV_new]
            have o1 : ∀ x : Nat, x < H.size → H1[x]? = H[x]? := fun x hq => by rw [← hH1, Array.getElem?_push, if_neg (Nat.ne_of_lt hq)]
            have hP1 : ai_P N0 D cA (h.1 ++ [(11, n.toNatClampNeg)], ai_z h.2.1 h.1.length 0, ai_z h.2.2 h.1.length 0) H1 := by
              refine hP.push (by omega) rfl z1 o1 (fun a9 h9 => ai_z_other _ _ _ (by omega)) (fun a9 h9 => ai_z_other _ _ _ (by omega)) ?_
              dsimp only
              rw [ai_z_same, ai_z_same, ← hP.1]
              exact e1
            have k0 := kk ls H1 locs (cells + 1) (slots + n.toNatClampNeg) hl hP1 (ai_S.grow hS (by omega) o1) (by dsimp only; rw [List.length_append, List.length_singleton]; omega) (by dsimp only; rw [ai_sum_push h.1 (11, n.toNatClampNeg) h.2.1 _ h.2.2 _]; dsimp only; omega)
            rw [hP.1]
            exact k0
        · cases hs
      · cases hr
  | multianewarray n dd =>
    obtain ⟨k, hw, hr⟩ := ai_bind_inv hr
    obtain ⟨h1, he⟩ := ai_g_inv hr
    cases he
    simp only [Bool.and_eq_true, beq_iff_eq] at h1
    obtain ⟨⟨rfl, rfl⟩, rfl⟩ := h1
    simp only [ai_st4, reduceIte, Nat.reduceEqDiff, reduceCtorEq, if_false, Nat.one_ne_zero, Nat.succ_ne_zero] at hs
    split at hs
    · rename_i k0 n0 st0
      split at hs
      · cases hs
      · rename_i hcnd
        cases hs
        have hn0 : ¬ n0 < 0 := fun z => hcnd (Or.inl z)
        have hn1 : n0.toNatClampNeg ≤ 1000 := Nat.le_of_not_lt (fun z => hcnd (Or.inr (Or.inl z)))
        have hk0 : ¬ k0 < 0 := fun z => hcnd (Or.inr (Or.inr (Or.inl z)))
        have hk1 : k0.toNatClampNeg ≤ 1000 := Nat.le_of_not_lt (fun z => hcnd (Or.inr (Or.inr (Or.inr z))))
        dsimp only at hRc hRs
        rw [List.length_append, List.length_append, List.length_singleton, List.length_replicate] at hRc
        rw [ai_sum_rep h.1 (12, n0.toNatClampNeg) (9, k0.toNatClampNeg) n0.toNatClampNeg h.2.1 _ h.2.2 _] at hRs
        have es : ai_sum (h.1, h.2.1, h.2.2) = ai_sum h := rfl
        dsimp only at hRs
        refine ai_mna hx hb hown hts hG ((ai_kls_in hw).2 rfl) hn0 hk0 hn1 hk1 hP hS (by omega) (by omega) hd fun H1 hP1 hS1 => ?_
        exact kk ls H1 locs _ _ hl hP1 hS1 (by dsimp only; rw [List.length_append, List.length_append, List.length_singleton, List.length_replicate]; omega) (by dsimp only; rw [ai_sum_rep h.1 (12, n0.toNatClampNeg) (9, k0.toNatClampNeg) n0.toNatClampNeg h.2.1 _ h.2.2 _]; dsimp only; omega)
    · cases hs
  | invokespecial n =>
    simp only [ai_res] at hr
    split at hr
    · rename_i hot
      obtain ⟨h1, he⟩ := ai_g_inv hr; cases he; obtain rfl := ai_len h1
      simp only [ai_st4, reduceIte, Nat.reduceEqDiff, reduceCtorEq, if_false, Nat.one_ne_zero, Nat.succ_ne_zero] at hs
      split at hs
      · rename_i a0 st0
        split at hs
        · cases hs
        · rename_i hcnd
          cases hs
          have hd0 : d ≠ 0 := fun z => hcnd (Or.inl z)
          have hc1 : ai_c1 st0 = true := by
            cases hcc : ai_c1 st0 with
            | true => rfl
            | false => exact absurd (Or.inr (Or.inl hcc)) hcnd
          have h8 : st0.length ≤ 8 := Nat.le_of_not_lt (fun z => hcnd (Or.inr (Or.inr z)))
          have k0 := kk _ _ _ _ _ hl hP hS hc hz
          refine W.objInit hx hb hown (hts _ (ai_ot_in hot)) (hts _ (ai_misc_in (.instanceMethod objectInit) (by decide +kernel))) (hts _ (ai_misc_in (.code objectInit ⟨#[0xb1]⟩ 1 none) (by decide +kernel))) rfl (by show ls.size = _; rw [hml]; exact hl.1) rfl hd (by omega) (by show 2 * 0 + ((st0.map (ai_cv sb N0)).map fun v => v.category).sum + 12 ≤ _; rw [ai_c1_sum hc1]; omega) k0
      · cases hs
    · split at hr
      · split at hr
        · have := ai_inv_op hr; omega
        · obtain ⟨w, hw, hr⟩ := ai_bind_inv hr
          have := ai_inv_op hr; omega
      · cases hr
  | invokestatic n =>
    simp only [ai_res] at hr
    split at hr
    · rename_i hot
      obtain ⟨h1, he⟩ := ai_g_inv hr; cases he; obtain rfl := ai_len h1
      simp only [ai_st4, reduceIte, Nat.reduceEqDiff, reduceCtorEq, if_false, Nat.one_ne_zero, Nat.succ_ne_zero] at hs
      split at hs
      · rename_i n0 dp q1 sp q0 st0
        split at hs
        · cases hs
        · rename_i hcnd
          split at hs
          · rename_i k0 m0 k1 m1 e0 e1
            split at hs
            · rename_i hall
              obtain ⟨rfl, rfl, g1, g2, g3, g4, g5⟩ := hall
              cases hs
              have hd0 : d ≠ 0 := fun z => hcnd (Or.inl z)
              have hc1 : ai_c1 st0 = true := by
                cases hcc : ai_c1 st0 with
                | true => rfl
                | false => exact absurd (Or.inr (Or.inl hcc)) hcnd
              have h8 : st0.length ≤ 8 := Nat.le_of_not_lt (fun z => hcnd (Or.inr (Or.inr z)))
              exact ai_cpy hx hb hml hown hts hG hl.1 (ai_pt_in hot) e0 e1 g1 g2 g3 g4 g5 hP hS (by omega) (by rw [ai_c1_sum hc1]; omega) hd fun H1 locs1 hP1 hS1 => kk ls H1 locs1 cells slots hl hP1 hS1 hc hz
            · cases hs
          · cases hs
      · cases hs
    · split at hr
      · split at hr
        · have := ai_inv_op hr; omega
        · obtain ⟨w, hw, hr⟩ := ai_bind_inv hr
          have := ai_inv_op hr; omega
      · cases hr
  | invokevirtual n =>
    simp only [ai_res] at hr
    split at hr
    · obtain ⟨w, hw, hr⟩ := ai_bind_inv hr
      have := ai_inv_op hr; omega
    · cases hr
  | iconst n =>
    obtain ⟨h1, he⟩ := ai_g_inv hr; cases he; omega
  | bipush n =>
    obtain ⟨h1, he⟩ := ai_g_inv hr; cases he; omega
  | sipush n =>
    obtain ⟨h1, he⟩ := ai_g_inv hr; cases he; omega
  | iload_n k =>
    obtain ⟨h1, he⟩ := ai_g_inv hr; cases he; omega
  | iload k =>
    obtain ⟨h1, he⟩ := ai_g_inv hr; cases he; omega
  | aload_n k =>
    obtain ⟨h1, he⟩ := ai_g_inv hr; cases he; omega
  | aload k =>
    obtain ⟨h1, he⟩ := ai_g_inv hr; cases he; omega
  | istore_n k =>
    obtain ⟨h1, he⟩ := ai_g_inv hr; cases he; omega
  | istore k =>
    obtain ⟨h1, he⟩ := ai_g_inv hr; cases he; omega
  | astore_n k =>
    obtain ⟨h1, he⟩ := ai_g_inv hr; cases he; omega
  | astore k =>
    obtain ⟨h1, he⟩ := ai_g_inv hr; cases he; omega
  | iinc k n =>
    obtain ⟨h1, he⟩ := ai_g_inv hr; cases he; omega
  | iadd =>
    obtain ⟨h1, he⟩ := ai_g_inv hr; cases he; omega
  | isub =>
    obtain ⟨h1, he⟩ := ai_g_inv hr; cases he; omega
  | imul =>
    obtain ⟨h1, he⟩ := ai_g_inv hr; cases he; omega
  | iand =>
    obtain ⟨h1, he⟩ := ai_g_inv hr; cases he; omega
  | ishl =>
    obtain ⟨h1, he⟩ := ai_g_inv hr; cases he; omega
  | ishr =>
    obtain ⟨h1, he⟩ := ai_g_inv hr; cases he; omega
  | ixor =>
    obtain ⟨h1, he⟩ := ai_g_inv hr; cases he; omega
  | idiv =>
    obtain ⟨h1, he⟩ := ai_g_inv hr; cases he; omega
  | irem =>
    obtain ⟨h1, he⟩ := ai_g_inv hr; cases he; omega
  | ineg =>
    obtain ⟨h1, he⟩ := ai_g_inv hr; cases he; omega
  | i2c =>
    obtain ⟨h1, he⟩ := ai_g_inv hr; cases he; omega
  | dup =>
    obtain ⟨h1, he⟩ := ai_g_inv hr; cases he; omega
  | dup_x1 =>
    obtain ⟨h1, he⟩ := ai_g_inv hr; cases he; omega
  | dup_x2 =>
    obtain ⟨h1, he⟩ := ai_g_inv hr; cases he; omega
  | dup2 =>
    obtain ⟨h1, he⟩ := ai_g_inv hr; cases he; omega
  | pop =>
    obtain ⟨h1, he⟩ := ai_g_inv hr; cases he; omega
  | aconst_null =>
    obtain ⟨h1, he⟩ := ai_g_inv hr; cases he; omega
  | iaload =>
    obtain ⟨h1, he⟩ := ai_g_inv hr; cases he; omega
  | caload =>
    obtain ⟨h1, he⟩ := ai_g_inv hr; cases he; omega
  | aaload =>
    obtain ⟨h1, he⟩ := ai_g_inv hr; cases he; omega
  | iastore =>
    obtain ⟨h1, he⟩ := ai_g_inv hr; cases he; omega
  | castore =>
    obtain ⟨h1, he⟩ := ai_g_inv hr; cases he; omega
  | aastore =>
    obtain ⟨h1, he⟩ := ai_g_inv hr; cases he; omega
  | arraylength =>
    obtain ⟨h1, he⟩ := ai_g_inv hr; cases he; omega
  | ldc n =>
    obtain ⟨w, hw, hr⟩ := ai_bind_inv hr
    obtain ⟨h1, he⟩ := ai_g_inv hr; cases he; omega
  | goto o =>
    obtain ⟨w, hw, hr⟩ := ai_bind_inv hr
    obtain ⟨h1, he⟩ := ai_g_inv hr; cases he; omega
  | if_icmp c o =>
    obtain ⟨w, hw, hr⟩ := ai_bind_inv hr
    obtain ⟨h1, he⟩ := ai_g_inv hr; cases he; omega
  | ifCond c o =>
    obtain ⟨w, hw, hr⟩ := ai_bind_inv hr
    obtain ⟨h1, he⟩ := ai_g_inv hr; cases he; omega
  | ifnull o =>
    obtain ⟨w, hw, hr⟩ := ai_bind_inv hr
    obtain ⟨h1, he⟩ := ai_g_inv hr; cases he; omega
  | ifnonnull o =>
    obtain ⟨w, hw, hr⟩ := ai_bind_inv hr
    obtain ⟨h1, he⟩ := ai_g_inv hr; cases he; omega
  | getfield n =>
    obtain ⟨w, hw, hr⟩ := ai_bind_inv hr
    obtain ⟨h1, he⟩ := ai_g_inv hr
    cases he
    split at hop <;> omega
  | putfield n =>
    obtain ⟨w, hw, hr⟩ := ai_bind_inv hr
    obtain ⟨h1, he⟩ := ai_g_inv hr
    cases he
    split at hop <;> omega
  | ireturn | areturn | return_ =>
    simp only [ai_res] at hr
    repeat (split at hr; · (obtain ⟨h1, he⟩ := ai_g_inv hr; cases he; omega))
    cases hr
  | tableswitch df lo hi os =>
    obtain ⟨w, hw, hr⟩ := ai_bind_inv hr
    obtain ⟨w, hw, hr⟩ := ai_bind_inv hr
    obtain ⟨h1, he⟩ := ai_g_inv hr; cases he; omega
  | _ => exact absurd hr (by simp [ai_res])
end AIS4
end
section
/-! the small machine's run is the machine's run -/
set_option maxHeartbeats 2000000 in
theorem ai_st1_in {op a b : Nat} {v : Int32} {nx : Nat} {ls st : List Value} {h : ai_H} {o : ai_O} (hs : ai_st1 op a b v nx ls st h = some o) : ∃ x, o = .inl x ∧ x.2.2.2.1 = h.1 := by
  unfold ai_st1 at hs
  by_cases h0 : op = 0
  · rw [if_pos h0] at hs
    repeat' (split at hs)
    all_goals first | (cases hs; done) | (cases hs; exact ⟨_, rfl, rfl⟩)
  rw [if_neg h0] at hs
  by_cases h1 : op = 1
  · rw [if_pos h1] at hs
    repeat' (split at hs)
    all_goals first | (cases hs; done) | (cases hs; exact ⟨_, rfl, rfl⟩)
  rw [if_neg h1] at hs
  by_cases h2 : op = 2
  · rw [if_pos h2] at hs
    repeat' (split at hs)
    all_goals first | (cases hs; done) | (cases hs; exact ⟨_, rfl, rfl⟩)
  rw [if_neg h2] at hs
  by_cases h3 : op = 3
  · rw [if_pos h3] at hs
    repeat' (split at hs)
    all_goals first | (cases hs; done) | (cases hs; exact ⟨_, rfl, rfl⟩)
  rw [if_neg h3] at hs
  by_cases h4 : op = 4
  · rw [if_pos h4] at hs
    repeat' (split at hs)
    all_goals first | (cases hs; done) | (cases hs; exact ⟨_, rfl, rfl⟩)
  rw [if_neg h4] at hs
  by_cases h5 : op = 5
  · rw [if_pos h5] at hs
    repeat' (split at hs)
    all_goals first | (cases hs; done) | (cases hs; exact ⟨_, rfl, rfl⟩)
  rw [if_neg h5] at hs
  by_cases h6 : op = 6
  · rw [if_pos h6] at hs
    repeat' (split at hs)
    all_goals first | (cases hs; done) | (cases hs; exact ⟨_, rfl, rfl⟩)
  rw [if_neg h6] at hs
  by_cases h7 : op = 7
  · rw [if_pos h7] at hs
    repeat' (split at hs)
    all_goals first | (cases hs; done) | (cases hs; exact ⟨_, rfl, rfl⟩)
  rw [if_neg h7] at hs
  by_cases h8 : op = 8
  · rw [if_pos h8] at hs
    repeat' (split at hs)
    all_goals first | (cases hs; done) | (cases hs; exact ⟨_, rfl, rfl⟩)
  rw [if_neg h8] at hs
  by_cases h9 : op = 9
  · rw [if_pos h9] at hs
    repeat' (split at hs)
    all_goals first | (cases hs; done) | (cases hs; exact ⟨_, rfl, rfl⟩)
  rw [if_neg h9] at hs
  by_cases h10 : op = 10
  · rw [if_pos h10] at hs
    repeat' (split at hs)
    all_goals first | (cases hs; done) | (cases hs; exact ⟨_, rfl, rfl⟩)
  rw [if_neg h10] at hs
  cases hs
set_option maxHeartbeats 2000000 in
theorem ai_st2_in {op a b nx : Nat} {ls st : List Value} {h : ai_H} {o : ai_O} (hs : ai_st2 op a b nx ls st h = some o) : ∃ x, o = .inl x ∧ x.2.2.2.1 = h.1 := by
  unfold ai_st2 at hs
  by_cases h11 : op = 11
  · rw [if_pos h11] at hs
    repeat' (split at hs)
    all_goals first | (cases hs; done) | (cases hs; exact ⟨_, rfl, rfl⟩)
  rw [if_neg h11] at hs
  by_cases h12 : op = 12
  · rw [if_pos h12] at hs
    repeat' (split at hs)
    all_goals first | (cases hs; done) | (cases hs; exact ⟨_, rfl, rfl⟩)
  rw [if_neg h12] at hs
  by_cases h13 : op = 13
  · rw [if_pos h13] at hs
    repeat' (split at hs)
    all_goals first | (cases hs; done) | (cases hs; exact ⟨_, rfl, rfl⟩)
  rw [if_neg h13] at hs
  by_cases h14 : op = 14
  · rw [if_pos h14] at hs
    repeat' (split at hs)
    all_goals first | (cases hs; done) | (cases hs; exact ⟨_, rfl, rfl⟩)
  rw [if_neg h14] at hs
  by_cases h15 : op = 15
  · rw [if_pos h15] at hs
    repeat' (split at hs)
    all_goals first | (cases hs; done) | (cases hs; exact ⟨_, rfl, rfl⟩)
  rw [if_neg h15] at hs
  by_cases h16 : op = 16
  · rw [if_pos h16] at hs
    repeat' (split at hs)
    all_goals first | (cases hs; done) | (cases hs; exact ⟨_, rfl, rfl⟩)
  rw [if_neg h16] at hs
  by_cases h17 : op = 17
  · rw [if_pos h17] at hs
    repeat' (split at hs)
    all_goals first | (cases hs; done) | (cases hs; exact ⟨_, rfl, rfl⟩)
  rw [if_neg h17] at hs
  by_cases h18 : op = 18
  · rw [if_pos h18] at hs
    repeat' (split at hs)
    all_goals first | (cases hs; done) | (cases hs; exact ⟨_, rfl, rfl⟩)
  rw [if_neg h18] at hs
  by_cases h19 : op = 19
  · rw [if_pos h19] at hs
    repeat' (split at hs)
    all_goals first | (cases hs; done) | (cases hs; exact ⟨_, rfl, rfl⟩)
  rw [if_neg h19] at hs
  by_cases h20 : op = 20
  · rw [if_pos h20] at hs
    repeat' (split at hs)
    all_goals first | (cases hs; done) | (cases hs; exact ⟨_, rfl, rfl⟩)
  rw [if_neg h20] at hs
  by_cases h21 : op = 21
  · rw [if_pos h21] at hs
    repeat' (split at hs)
    all_goals first | (cases hs; done) | (cases hs; exact ⟨_, rfl, rfl⟩)
  rw [if_neg h21] at hs
  cases hs
set_option maxHeartbeats 2000000 in
theorem ai_st3_in {X : ai_X} {op a b nx : Nat} {ls st : List Value} {h : ai_H} {o : ai_O} (hs : ai_st3 X op a b nx ls st h = some o) : ∃ x, o = .inl x ∧ x.2.2.2.1 = h.1 := by
  unfold ai_st3 at hs
  by_cases h22 : op = 22
  · rw [if_pos h22] at hs
    repeat' (split at hs)
    all_goals first | (cases hs; done) | (cases hs; exact ⟨_, rfl, rfl⟩)
  rw [if_neg h22] at hs
  by_cases h23 : op = 23
  · rw [if_pos h23] at hs
    repeat' (split at hs)
    all_goals first | (cases hs; done) | (cases hs; exact ⟨_, rfl, rfl⟩)
  rw [if_neg h23] at hs
  by_cases h24 : op = 24
  · rw [if_pos h24] at hs
    repeat' (split at hs)
    all_goals first | (cases hs; done) | (cases hs; exact ⟨_, rfl, rfl⟩)
  rw [if_neg h24] at hs
  by_cases h25 : op = 25
  · rw [if_pos h25] at hs
    repeat' (split at hs)
    all_goals first | (cases hs; done) | (cases hs; exact ⟨_, rfl, rfl⟩)
  rw [if_neg h25] at hs
  by_cases h26 : op = 26
  · rw [if_pos h26] at hs
    repeat' (split at hs)
    all_goals first | (cases hs; done) | (cases hs; exact ⟨_, rfl, rfl⟩)
  rw [if_neg h26] at hs
  by_cases h27 : op = 27
  · rw [if_pos h27] at hs
    repeat' (split at hs)
    all_goals first | (cases hs; done) | (cases hs; exact ⟨_, rfl, rfl⟩)
  rw [if_neg h27] at hs
  by_cases h28 : op = 28
  · rw [if_pos h28] at hs
    repeat' (split at hs)
    all_goals first | (cases hs; done) | (cases hs; exact ⟨_, rfl, rfl⟩)
  rw [if_neg h28] at hs
  by_cases h29 : op = 29
  · rw [if_pos h29] at hs
    repeat' (split at hs)
    all_goals first | (cases hs; done) | (cases hs; exact ⟨_, rfl, rfl⟩)
  rw [if_neg h29] at hs
  by_cases h30 : op = 30
  · rw [if_pos h30] at hs
    repeat' (split at hs)
    all_goals first | (cases hs; done) | (cases hs; exact ⟨_, rfl, rfl⟩)
  rw [if_neg h30] at hs
  by_cases h31 : op = 31
  · rw [if_pos h31] at hs
    repeat' (split at hs)
    all_goals first | (cases hs; done) | (cases hs; exact ⟨_, rfl, rfl⟩)
  rw [if_neg h31] at hs
  by_cases h32 : op = 32
  · rw [if_pos h32] at hs
    repeat' (split at hs)
    all_goals first | (cases hs; done) | (cases hs; exact ⟨_, rfl, rfl⟩)
  rw [if_neg h32] at hs
  cases hs
set_option maxHeartbeats 2000000 in
theorem ai_st4_in {d op a b : Nat} {tb : List Nat} {nx : Nat} {ls st : List Value} {h : ai_H} {o : ai_O} (hs : ai_st4 d op a b tb nx ls st h = some o) : ∃ x, o = .inl x ∧ ∃ E, x.2.2.2.1 = h.1 ++ E := by
  unfold ai_st4 at hs
  repeat' (split at hs)
  all_goals first | (cases hs; done) | (cases hs; exact ⟨_, rfl, _, rfl⟩) | (cases hs; exact ⟨_, rfl, _, List.append_assoc _ _ _⟩) | (cases hs; exact ⟨_, rfl, [], (List.append_nil _).symm⟩)
theorem ai_step_in {X : ai_X} {d op a b : Nat} {v : Int32} {tb : List Nat} {nx : Nat} {ls st : List Value} {h : ai_H} {o : Nat × List Value × List Value × ai_H} (hs : ai_step X d op a b v tb nx ls st h = some (.inl o)) : ∃ E, o.2.2.2.1 = h.1 ++ E := by
  unfold ai_step at hs
  split at hs
  · obtain ⟨x, e, h1⟩ := ai_st1_in hs; cases e; exact ⟨[], by rw [h1, List.append_nil]⟩
  split at hs
  · obtain ⟨x, e, h1⟩ := ai_st2_in hs; cases e; exact ⟨[], by rw [h1, List.append_nil]⟩
  split at hs
  · obtain ⟨x, e, h1⟩ := ai_st3_in hs; cases e; exact ⟨[], by rw [h1, List.append_nil]⟩
  split at hs
  · obtain ⟨x, e, h1⟩ := ai_st4_in hs; cases e; exact h1
  split at hs
  · obtain ⟨x, e, h1⟩ := ai_st4_in hs; cases e; exact h1
  split at hs
  · obtain ⟨x, e, h1⟩ := ai_st4_in hs; cases e; exact h1
  refine ⟨[], ?_⟩
  rw [List.append_nil]
  unfold ai_st5 at hs
  repeat' (split at hs)
  all_goals first | (cases hs; done) | (cases hs; rfl)
theorem ai_step_not {X : ai_X} {d op a b : Nat} {v : Int32} {tb : List Nat} {nx : Nat} {ls st : List Value} {h : ai_H} {o : Option Value ⊕ (Nat × List Value × List Value)} (hs : ai_step X d op a b v tb nx ls st h = some (.inr o)) : ai_st5 op a b v tb ls st h = some (.inr o) ∧ 37 ≤ op := by
  unfold ai_step at hs
  split at hs
  · obtain ⟨x, e, h1⟩ := ai_st1_in hs; cases e
  split at hs
  · obtain ⟨x, e, h1⟩ := ai_st2_in hs; cases e
  split at hs
  · obtain ⟨x, e, h1⟩ := ai_st3_in hs; cases e
  split at hs
  · obtain ⟨x, e, h1⟩ := ai_st4_in hs; cases e
  split at hs
  · obtain ⟨x, e, h1⟩ := ai_st4_in hs; cases e
  split at hs
  · obtain ⟨x, e, h1⟩ := ai_st4_in hs; cases e
  exact ⟨hs, by omega⟩
theorem ai_sum_app {K E : List (Nat × Nat)} {h h' : ai_H} (e0 : h.1 = K) (e : h'.1 = K ++ E) : h.1.length ≤ h'.1.length ∧ ai_sum h ≤ ai_sum h' := by
  unfold ai_sum
  rw [e, e0]
  simp
theorem ai_exec_in : ∀ (n d : Nat) (X : ai_X) (f pc : Nat) (ls st : List Value) (h : ai_H) (r : Option Value) (h' : ai_H), ai_exec n d X f pc ls st h = some (r, h') → ∃ E, h'.1 = h.1 ++ E
  | 0, _, _, _, _, _, _, _, _, _, hs => by cases hs
  | n + 1, d, X, f, pc, ls, st, h, r, h', hs => by
    rw [ai_exec] at hs
    split at hs
    · cases hs
    · rename_i op a b v tb nx hf
      split at hs
      · cases hs
      · rename_i pc' ls' st' h1 hst
        obtain ⟨E, e⟩ := ai_step_in hst
        obtain ⟨E2, e2⟩ := ai_exec_in n d X f pc' ls' st' h1 r h' hs
        exact ⟨E ++ E2, by rw [e2, show h1.1 = h.1 ++ E from e, List.append_assoc]⟩
      · cases hs
        exact ⟨[], by rw [List.append_nil]⟩
      · split at hs
        · cases hs
        · split at hs
          · cases hs
          · rename_i r1 h1 hc
            obtain ⟨E, e⟩ := ai_exec_in n _ _ _ _ _ _ _ _ _ hc
            obtain ⟨E2, e2⟩ := ai_exec_in n _ _ _ _ _ _ _ _ _ hs
            exact ⟨E ++ E2, by rw [e2, e, List.append_assoc]⟩
section AISIM
variable {p : Program} {l : Launch} {e : Env} {R : Room} {s : State} {m : MethodId} {args : Array Value} {below : List Frame} {meth : Method} {c : Code} {Q : State → Prop}
variable {q : ai_M} {D : va_G} {cA : Nat → ClassId} {sb N0 L0 S0 d : Nat} {X : ai_X}
theorem ai_one (C : ai_Cx p s m args meth c q D cA) (hsx : ai_Sx X sb N0 s) (hN : N0 ≤ s.heap.size) (hRd : d ≤ R.frames ∧ 64 * d ≤ R.locals) {f pc op a b : Nat} {v : Int32} {tb : List Nat} {nx : Nat} (hm : ai_mt[f]? = some q) (hf : ai_fetch f pc = some (op, a, b, v, tb, nx))
    {als st : List Value} {h : ai_H} {o : Nat × List Value × List Value × ai_H} (hs : ai_step X d op a b v tb nx als st h = some (.inl o)) (hRc : o.2.2.2.1.length ≤ R.cells + L0) (hRs : ai_sum o.2.2.2 ≤ R.slots + S0) (kk : ai_K p l e R s m args below meth c Q q D cA sb N0 L0 S0 o)
    {ls : Array Slot} {H : Heap} {locs : List Loc} {cells slots : Nat} (hl : ai_L sb N0 q.2.2.1 als ls) (hP : ai_P N0 D cA h H) (hS : va_S (fun x => N0 ≤ x) s.heap H locs) (hc : cells + L0 = h.1.length) (hz : slots + S0 = ai_sum h) :
    W p l e R s m args below meth c H locs cells slots Q (F0 m pc ls (st.map (ai_cv sb N0))) := by
  obtain ⟨i, len, hd, hr⟩ := ai_fetch_inv hm hf
  unfold ai_step at hs
  split at hs
  · rename_i h1
    exact ai_one1 C hd hr h1 hs kk hl hP hS hc hz
  split at hs
  · rename_i h1 h2
    exact ai_one2 C hd hr ⟨by omega, h2⟩ hs kk hl hP hS hc hz
  split at hs
  · rename_i h1 h2 h3
    exact ai_one3 C hsx hd hr ⟨by omega, h3⟩ hs kk hl hP hS hc hz
  split at hs
  · rename_i h1 h2 h3 h4
    exact ai_one4 C hN hRd hd hr (Or.inl ⟨by omega, h4⟩) hs hRc hRs kk hl hP hS hc hz
  split at hs
  · rename_i h5
    exact ai_one4 C hN hRd hd hr (Or.inr (Or.inl h5)) hs hRc hRs kk hl hP hS hc hz
  split at hs
  · rename_i h6
    exact ai_one4 C hN hRd hd hr (Or.inr (Or.inr h6)) hs hRc hRs kk hl hP hS hc hz
  by_cases h42 : 42 ≤ op
  · exact ai_one5 C hd hr h42 hs kk hl hP hS hc hz
  · exfalso
    unfold ai_st5 at hs
    rcases (by omega : op = 37 ∨ op = 38 ∨ op = 39) with rfl | rfl | rfl
    · simp at hs
    · simp only [reduceIte, Nat.reduceEqDiff] at hs
      split at hs
      · split at hs <;> simp at hs
      · cases hs
    · simp only [reduceIte, Nat.reduceEqDiff] at hs
      split at hs
      · split at hs <;> simp at hs
      · cases hs
end AISIM
end
section
/-! calls, returns, and the small machine's run of a method as a contract -/
def ai_rm (d mc ms : Nat) : Room := { frames := d, cells := mc, slots := ms, locals := 64 * d }
def ai_Pc (sb N0 : Nat) (D : va_G) (cA : Nat → ClassId) (h : ai_H) (av : List Value) : Array Value → State → Prop := va_Pc (av.map (ai_cv sb N0)) (fun U => ai_P N0 D cA h U.heap ∧ ai_G D cA U)
def ai_Qc (sb N0 : Nat) (D : va_G) (cA : Nat → ClassId) (h' : ai_H) (r : Option Value) : Array Value → State → Outcome → State → Prop := fun _ st oc t => oc = .returned (r.map (ai_cv sb N0)) ∧ ai_P N0 D cA h' t.heap ∧ va_F (fun x => N0 ≤ x) st t
def ai_yw (q : ai_M) : List Cond := Cond.code q.1 q.2.1 q.2.2.1 q.2.2.2.1 :: ai_ws
/-- what a return tells -/
def ai_ro (q : ai_M) (pc : Nat) (r : Option Value) : Prop :=
  (∃ x : Int32, r = some (.int x) ∧ decode q.2.1 pc = .ok (.ireturn, 1) ∧ (q.2.2.2.1 = some .int ∨ (q.2.2.2.1 = some .boolean ∧ (x = 0 ∨ x = 1)))) ∨
  ((r = some .null ∨ ∃ a, r = some (.ref a)) ∧ decode q.2.1 pc = .ok (.areturn, 1) ∧ q.2.2.2.1 = some (.object RX3)) ∨
  (r = none ∧ decode q.2.1 pc = .ok (.return_, 1) ∧ q.2.2.2.1 = none)
/-- every run of at most n steps from a state that stands for one of the small machine's -/
def ai_SimW (l : Launch) (n : Nat) : Prop :=
  ∀ (p : Program) (e : Env) (R : Room) (s : State) (m : MethodId) (args : Array Value) (below : List Frame) (meth : Method) (c : Code) (Q : State → Prop) (q : ai_M) (D : va_G) (cA : Nat → ClassId) (sb N0 L0 S0 d : Nat) (X : ai_X) (f pc : Nat) (als st : List Value) (h : ai_H) (r : Option Value) (h' : ai_H) (ls : Array Slot) (H : Heap) (locs : List Loc) (cells slots : Nat),
    ai_Cx p s m args meth c q D cA → ai_mt[f]? = some q → ai_Sx X sb N0 s → N0 ≤ s.heap.size → d ≤ R.frames ∧ 64 * d ≤ R.locals → h'.1.length ≤ R.cells + L0 → ai_sum h' ≤ R.slots + S0 → ai_exec n d X f pc als st h = some (r, h') →
    ai_L sb N0 q.2.2.1 als ls → ai_P N0 D cA h H → va_S (fun x => N0 ≤ x) s.heap H locs → cells + L0 = h.1.length → slots + S0 = ai_sum h →
    (∀ (pcr : Nat) (lsr : Array Slot) (Hr : Heap) (locsr : List Loc) (k n : Nat), ai_ro q pcr r → ai_P N0 D cA h' Hr → va_S (fun x => N0 ≤ x) s.heap Hr locsr → k + L0 = h'.1.length → n + S0 = ai_sum h' → W p l e R s m args below meth c Hr locsr k n Q (F0 m pcr lsr (r.toList.map (ai_cv sb N0)))) →
    W p l e R s m args below meth c H locs cells slots Q (F0 m pc ls (st.map (ai_cv sb N0)))
def ai_SimM (l : Launch) (n : Nat) : Prop :=
  ∀ (d g : Nat) (q : ai_M) (av : List Value) (h : ai_H) (r : Option Value) (h' : ai_H) (D : va_G) (cA : Nat → ClassId) (sb N0 mc ms : Nat), ai_mt[g]? = some q → g < 162 → ai_c1 av = true → av.length ≤ q.2.2.1 → ai_exec n d (0, fun _ => 0) g 0 (ai_ent av (ai_ml g)) [] h = some (r, h') →
    mc + h.1.length = h'.1.length → ms + ai_sum h = ai_sum h' → Met l q.1 (ai_yw q) (ai_rm d mc ms) (ai_Pc sb N0 D cA h av) (ai_Qc sb N0 D cA h' r) mc ms (fun x => N0 ≤ x)
theorem ai_take {g : Nat} {q : ai_M} (h : ai_mt[g]? = some q) (hg : g < 162) : q ∈ ai_mt.take 162 := by
  refine List.mem_of_getElem? (i := g) ?_
  rw [List.getElem?_take, if_pos hg]
  exact h
theorem ai_mt_b {g : Nat} {q : ai_M} (h : ai_mt[g]? = some q) (hg : g < 162) : ai_mtb q = true := List.all_eq_true.mp ai_mtb_ok _ (ai_take h hg)
theorem ai_code_in {g : Nat} {q : ai_M} (h : ai_mt[g]? = some q) (hg : g < 162) : Cond.code q.1 q.2.1 q.2.2.1 q.2.2.2.1 ∈ ai_ws := by
  have h3 : Cond.code q.1 q.2.1 q.2.2.1 q.2.2.2.1 ∈ (ai_mt.take 162).flatMap ai_mw := List.mem_flatMap.mpr ⟨_, ai_take h hg, List.mem_singleton.mpr rfl⟩
  unfold ai_ws
  simp only [List.mem_append]
  exact Or.inl h3
theorem ai_good {g : Nat} {q : ai_M} (h : ai_mt[g]? = some q) (hg : g < 162) : GoodIn ai_ws (ai_yw q) := by
  intro w hw
  have hin : w ∈ ai_ws := by
    rcases List.mem_cons.mp hw with rfl | hw
    · exact ai_code_in h hg
    · exact hw
  exact ⟨hin, good_of_word (ai_ws_good w hin)⟩
theorem ai_ent_L {sb N0 ml : Nat} {av : List Value} (hc : ai_c1 av = true) (hl : av.length ≤ ml) : ai_L sb N0 ml (ai_ent av ml) ((lg_sl (av.map (ai_cv sb N0)) ++ List.replicate (ml - (lg_sl (av.map (ai_cv sb N0))).length) Slot.unset).toArray) := by
  have hsl : lg_sl (av.map (ai_cv sb N0)) = (av.map (ai_cv sb N0)).map Slot.val := by
    unfold lg_sl
    clear hl
    induction av with
    | nil => rfl
    | cons v av ih =>
      unfold ai_c1 at hc
      rw [List.all_cons, Bool.and_eq_true] at hc
      have h1 : v.category = 1 := by simpa using hc.1
      rw [List.map_cons, List.flatMap_cons, ih hc.2, List.map_cons, ai_cv_cat, if_neg (by omega)]
      rfl
  have hlen : (lg_sl (av.map (ai_cv sb N0))).length = av.length := by rw [hsl, List.length_map, List.length_map]
  have hE := lv_entry (av.map (ai_cv sb N0)) (n := ml) (by rw [hlen]; exact hl)
  refine ⟨hE.1, hE.2.1, by unfold ai_ent; simp; omega, fun i v e hcat => ?_⟩
  have hi : i < av.length := by
    apply Nat.lt_of_not_le
    intro hge
    unfold ai_ent at e
    rw [List.getElem?_append_right hge] at e
    have h9 := List.eq_of_mem_replicate (List.mem_of_getElem? e)
    rw [h9] at hcat
    cases hcat
  unfold ai_ent at e
  rw [List.getElem?_append_left hi] at e
  rw [List.getElem?_toArray, List.getElem?_append_left (by rw [hlen]; exact hi), hsl, List.getElem?_map, List.getElem?_map, e]
  rfl
theorem ai_G.moved {D : va_G} {cA : Nat → ClassId} {s U : State} (hW : s.WarmedH U.vm) (h : ai_G D cA s) : ai_G D cA U := by
  refine ⟨va_K.moved hW.alike h.1, fun w hw => ?_, va_AO.moved hW.alike h.2.2.1, va_AO.moved hW.alike h.2.2.2.1, ?_⟩
  · have h1 := h.2.1 w hw
    obtain ⟨x, hx, hw⟩ := List.mem_flatMap.mp hw
    unfold ai_nl at hw
    split at hw
    · rw [List.mem_singleton] at hw
      subst hw
      exact va_Nw.warmM hW h1
    · cases hw
  · exact Jvm.Stand.arrayOver_alikeB hW.alike h.2.2.2.2
theorem ai_G.same {D : va_G} {cA : Nat → ClassId} {s U : State} (hv : s.vm = U.vm) (h : ai_G D cA s) : ai_G D cA U := by
  have al : s.vm.Alike U.vm := by rw [hv]; exact Vm.Alike.refl _
  refine ⟨va_K.moved al h.1, fun w hw => ?_, va_AO.moved al h.2.2.1, va_AO.moved al h.2.2.2.1, Jvm.Stand.arrayOver_alikeB al h.2.2.2.2⟩
  have h1 := h.2.1 w hw
  obtain ⟨x, hx, hw⟩ := List.mem_flatMap.mp hw
  unfold ai_nl at hw
  split at hw
  · rw [List.mem_singleton] at hw
    subst hw
    exact va_Nw.same rfl hv h1
  · cases hw
theorem ai_inv_inv {g pc k : Nat} {op a b : Nat} {v : Int32} {tb : List Nat} {nx : Nat} (h : ai_inv g pc k = some (op, a, b, v, tb, nx)) : ∃ q', ai_mt[g]? = some q' ∧ q'.2.2.2.2 = k ∧ a = g ∧ nx = pc + 3 ∧ (k = 1 → op = 37 ∧ b = ai_nargs q'.1) ∧ (k ≠ 1 → op = 37 + (if k = 0 then 1 else 2) ∧ b = ai_nargs q'.1 + 1 ∧ tb = [ai_cno q'.1.cls]) := by
  unfold ai_inv at h
  obtain ⟨q', hq, hr⟩ := ai_bind_inv h
  split at hr
  · rename_i hk
    split at hr
    · rename_i h1
      cases hr
      exact ⟨q', hq, hk, rfl, rfl, fun _ => ⟨rfl, rfl⟩, fun hn => absurd h1 hn⟩
    · rename_i h1
      cases hr
      exact ⟨q', hq, hk, rfl, rfl, fun hn => absurd hn h1, fun _ => ⟨rfl, rfl, rfl⟩⟩
  · cases hr
set_option maxRecDepth 100000 in
theorem ai_lt_162 : ai_lt.all (fun e => decide (e.2.2 < 162)) = true := by decide +kernel
set_option maxRecDepth 100000 in
theorem ai_nt_162 : ai_nt.all (fun e => decide (e.2.2 < 162)) = true := by decide +kernel
theorem ai_call_ok {own : String} {i g : Nat} (h : ai_call own i = some g) : g < 162 ∧ ∀ w ∈ ai_lw (own, i, g), w ∈ ai_ws := by
  have h1 : (own, i, g) ∈ ai_lt := ai_find_in h
  refine ⟨of_decide_eq_true (List.all_eq_true.mp ai_lt_162 _ h1), fun w hw => ?_⟩
  have h3 : w ∈ ai_lt.flatMap ai_lw := List.mem_flatMap.mpr ⟨_, h1, hw⟩
  unfold ai_ws
  simp only [List.mem_append]
  exact Or.inr (Or.inl h3)
theorem ai_ncall_ok {own : String} {i g : Nat} (h : ai_ncall own i = some g) : g < 162 ∧ (∀ w ∈ ai_nw (own, i, g), w ∈ ai_ws) ∧ ∀ w ∈ ai_nl (own, i, g), w ∈ ai_nt.flatMap ai_nl := by
  have h1 : (own, i, g) ∈ ai_nt := ai_find_in h
  refine ⟨of_decide_eq_true (List.all_eq_true.mp ai_nt_162 _ h1), fun w hw => ?_, fun w hw => List.mem_flatMap.mpr ⟨_, h1, hw⟩⟩
  have h3 : w ∈ ai_nt.flatMap ai_nw := List.mem_flatMap.mpr ⟨_, h1, hw⟩
  unfold ai_ws
  simp only [List.mem_append]
  exact Or.inr (Or.inr (Or.inl h3))
section AIMET
variable {p : Program} {l : Launch} {e : Env} {R : Room} {s : State} {m : MethodId} {args : Array Value} {below : List Frame} {meth : Method} {c : Code} {Q : State → Prop}
variable {q : ai_M} {D : va_G} {cA : Nat → ClassId} {sb N0 L0 S0 d : Nat} {X : ai_X}
/-- behind a call -/
theorem ai_goon {H : Heap} {locs : List Loc} {cells slots mc ms pc : Nat} {ls : Array Slot} {rest st0 : List Value} {A0 : Nat → Prop} {H0 : Heap} {free : Addr → Prop} {Qa : State → Outcome → State → Prop} {v0 : Option Value} {B : Heap → Prop}
    (hr : va_Run p l e R s m args below meth c H locs cells slots mc ms (F0 m pc ls st0) rest Qa free) (hS : va_S A0 H0 H locs) (hf : ∀ q, free q → A0 q) (hQ : ∀ st oc t, Qa st oc t → oc = .returned v0 ∧ B t.heap ∧ va_F A0 st t)
    (kk : ∀ (H1 : Heap) (locs1 : List Loc), B H1 → va_S A0 H0 H1 locs1 → W p l e R s m args below meth c H1 locs1 (cells + mc) (slots + ms) Q (F0 m (pc + 3) ls (v0.toList ++ rest))) : W p l e R s m args below meth c H locs cells slots Q (F0 m pc ls st0) := by
  intro T hT X
  obtain ⟨v, st₀, t, T', L, h0, X', hL, e1, e2, hq, st⟩ := hr T hT X
  obtain ⟨hv, hb, hz, hk⟩ := hQ _ _ _ hq
  have hv : v = v0 := Outcome.returned.inj hv
  subst hv
  rw [h0] at hz hk
  obtain ⟨t2, a1, b1⟩ := kk T'.heap (locs ++ L) (by rw [e1]; exact hb) ⟨Nat.le_trans hS.1 (by rw [e1]; exact hz), fun q h1 h2 => by rw [e1, hk q (Nat.lt_of_lt_of_le h1 hS.1) h2]; exact hS.2.1 q h1 h2, fun q hq => by
      rcases List.mem_append.mp hq with h | h
      · exact hS.2.2 q h
      · exact hf _ (hL q h)⟩ T' rfl X'
  exact ⟨t2, st t2 a1, b1⟩
theorem ai_blind (sb N0 : Nat) (D : va_G) (cA : Nat → ClassId) (h : ai_H) (av : List Value) : FrameBlind (ai_Pc sb N0 D cA h av) := fun a U g mk qh => ⟨qh.1, qh.2.1, ai_G.same (s := U) (U := U.calling g mk a) rfl qh.2.2⟩
end AIMET
end
section
/-! the simulation: by induction on the steps -/
theorem ai_met_of {l : Launch} {n : Nat} (hW : ai_SimW l n) : ai_SimM l n := by
  intro d g q av h r h' D cA sb N0 mc ms hm hg hc1 hlen hex hmc hms
  have hb9 := ai_mt_b hm hg
  obtain ⟨y, cc, ml, ret, k⟩ := q
  unfold ai_mtb at hb9
  simp only [Bool.and_eq_true, decide_eq_true_eq] at hb9
  obtain ⟨⟨⟨⟨⟨⟨⟨⟨⟨hplain, hn1⟩, hn2⟩, hpar⟩, hml30⟩, hna⟩, hcl⟩, hk2⟩, hini⟩, hcls⟩ := hb9
  refine va_MetF (cc := cc) (maxL := ml) (ret := ret) (ws' := ai_ws) hplain rfl ?_
  intro p e s m args below meth c s₁ B hml hv
  obtain ⟨rfl, hP, hG⟩ := hv
  have hts := atoms_spec (ws := ai_yw (y, cc, ml, ret, k)) B.pre
  have hown : s.vm.findClass y.cls = some m.cls := findClass_of_methodNamed B.named
  have hname : meth.name = y.name := (name_of_methodNamed B.named B.method).1
  have hret : meth.sig.returnType = ret := B.returns
  have hlocks := B.notSynchronized
  have hx := B.exec
  have hb := B.bytes
  rw [lg_entry_eq]
  have hL := ai_ent_L (sb := sb) (N0 := N0) (ml := ml) hc1 hlen
  have hml2 : ai_ml g = ml := by unfold ai_ml; rw [hm]; rfl
  rw [hml2] at hex
  have hz := hP.1
  refine hW p e (ai_rm d mc ms) s m _ below meth c _ (y, cc, ml, ret, k) D cA sb N0 h.1.length (ai_sum h) d (0, fun _ => 0) g 0 _ [] h r h' _ s.heap [] 0 0
    ⟨hx, hb, hml, hown, fun w hw => hts w (List.mem_cons_of_mem _ hw), fun hi => hname.trans hi, hG⟩ hm (Or.inl rfl) (by omega) ⟨Nat.le_refl _, Nat.le_refl _⟩ (by show _ ≤ mc + _; omega) (by show _ ≤ ms + _; omega) hex hL hP va_S.rf (by omega) (by omega) ?_
  intro pcr lsr Hr locsr k9 n9 hro hPr hSr hk9 hn9
  have e1 : k9 = mc := by omega
  have e2 : n9 = ms := by omega
  subst e1
  subst e2
  have fin : ∀ v : Option Value, v = r.map (ai_cv sb N0) → ∀ t : State, t.heap = Hr → s.WarmedH t.vm → ai_Qc sb N0 D cA h' r (av.map (ai_cv sb N0)).toArray s (.returned v) t := fun v hv t ht hw => by
    subst hv
    exact ⟨rfl, by rw [ht]; exact hPr, hSr.F ht⟩
  rcases hro with ⟨x, rfl, hd, hi | ⟨hi, h01⟩⟩ | ⟨hrr, hd, hi⟩ | ⟨rfl, hd, hi⟩
  · dsimp only at hi hd
    subst hi
    exact W.iret hx hb hret (fin _ rfl) hSr.2.2 hd
  · dsimp only at hi hd
    subst hi
    exact W.zret hx hb hret (by rcases h01 with rfl | rfl <;> rfl) (fin _ rfl) hSr.2.2 hd
  · dsimp only at hi hd
    subst hi
    rcases hrr with rfl | ⟨a, rfl⟩
    · exact W.aret hx hb hret (Or.inl ⟨_, rfl⟩) (Or.inl rfl) (fin _ rfl) hSr.2.2 hd
    · exact W.aret hx hb hret (Or.inl ⟨_, rfl⟩) (Or.inr ⟨_, rfl⟩) (fin _ rfl) hSr.2.2 hd
  · dsimp only at hi hd
    subst hi
    exact W.vret hx hb hret (fin _ rfl) hSr.2.2 hd
section AISW
variable {p : Program} {l : Launch} {e : Env} {R : Room} {s : State} {m : MethodId} {args : Array Value} {below : List Frame} {meth : Method} {c : Code} {Q : State → Prop}
variable {q : ai_M} {D : va_G} {cA : Nat → ClassId} {sb N0 L0 S0 d : Nat} {X : ai_X}
theorem ai_ro_of {f pc op a b : Nat} {v : Int32} {tb : List Nat} {nx : Nat} {ls st : List Value} {h : ai_H} {r : Option Value} (hm : ai_mt[f]? = some q) (hf : ai_fetch f pc = some (op, a, b, v, tb, nx)) (hs : ai_st5 op a b v tb ls st h = some (.inr (.inl r))) : ai_ro q pc r ∧ st = r.toList := by
  obtain ⟨i, len, hd, hr⟩ := ai_fetch_inv hm hf
  have hop : op = 42 ∨ op = 43 := by
    unfold ai_st5 at hs
    by_cases h37 : op = 37
    · rw [if_pos h37] at hs
      split at hs <;> simp at hs
    rw [if_neg h37] at hs
    by_cases h38 : op = 38
    · rw [if_pos h38] at hs
      split at hs
      · split at hs <;> simp at hs
      · cases hs
    rw [if_neg h38] at hs
    by_cases h39 : op = 39
    · rw [if_pos h39] at hs
      split at hs
      · split at hs <;> simp at hs
      · cases hs
    rw [if_neg h39] at hs
    by_cases h42 : op = 42
    · exact Or.inl h42
    rw [if_neg h42] at hs
    by_cases h43 : op = 43
    · exact Or.inr h43
    rw [if_neg h43] at hs
    by_cases h44 : op = 44
    · rw [if_pos h44] at hs
      split at hs <;> simp at hs
    rw [if_neg h44] at hs
    cases hs
  cases i with
  | ireturn =>
    simp only [ai_res] at hr
    split at hr
    · rename_i ht
      obtain ⟨h1, he⟩ := ai_g_inv hr; cases he; obtain rfl := ai_len h1
      simp only [ai_st5, reduceIte, Nat.reduceEqDiff] at hs
      split at hs
      · cases hs
        exact ⟨Or.inl ⟨_, rfl, hd, Or.inl ht⟩, rfl⟩
      · simp at hs
      · simp at hs
      · cases hs
    · split at hr
      · rename_i ht
        obtain ⟨h1, he⟩ := ai_g_inv hr; cases he; obtain rfl := ai_len h1
        simp only [ai_st5, reduceIte, Nat.reduceEqDiff] at hs
        split at hs
        · split at hs
          · rename_i h01
            cases hs
            refine ⟨Or.inl ⟨_, rfl, hd, Or.inr ⟨ht, ?_⟩⟩, rfl⟩
            rcases h01 with h9 | ⟨-, h9⟩
            · exact absurd h9 (by simp)
            · exact h9
          · cases hs
        · simp at hs
        · simp at hs
        · cases hs
      · cases hr
  | areturn =>
    simp only [ai_res] at hr
    split at hr
    · rename_i ht
      obtain ⟨h1, he⟩ := ai_g_inv hr; cases he; obtain rfl := ai_len h1
      simp only [ai_st5, reduceIte, Nat.reduceEqDiff] at hs
      split at hs
      · simp at hs
      · cases hs
        exact ⟨Or.inr (Or.inl ⟨Or.inr ⟨_, rfl⟩, hd, ht⟩), rfl⟩
      · cases hs
        exact ⟨Or.inr (Or.inl ⟨Or.inl rfl, hd, ht⟩), rfl⟩
      · cases hs
    · cases hr
  | return_ =>
    simp only [ai_res] at hr
    split at hr
    · rename_i ht
      obtain ⟨h1, he⟩ := ai_g_inv hr; cases he; obtain rfl := ai_len h1
      simp only [ai_st5, reduceIte, Nat.reduceEqDiff] at hs
      split at hs
      · cases hs
        exact ⟨Or.inr (Or.inr ⟨rfl, hd, ht⟩), rfl⟩
      · cases hs
    · cases hr
  | iconst n =>
    obtain ⟨h1, he⟩ := ai_g_inv hr; cases he; omega
  | bipush n =>
    obtain ⟨h1, he⟩ := ai_g_inv hr; cases he; omega
  | sipush n =>
    obtain ⟨h1, he⟩ := ai_g_inv hr; cases he; omega
  | iload_n k =>
    obtain ⟨h1, he⟩ := ai_g_inv hr; cases he; omega
  | iload k =>
    obtain ⟨h1, he⟩ := ai_g_inv hr; cases he; omega
  | aload_n k =>
    obtain ⟨h1, he⟩ := ai_g_inv hr; cases he; omega
  | aload k =>
    obtain ⟨h1, he⟩ := ai_g_inv hr; cases he; omega
  | istore_n k =>
    obtain ⟨h1, he⟩ := ai_g_inv hr; cases he; omega
  | istore k =>
    obtain ⟨h1, he⟩ := ai_g_inv hr; cases he; omega
  | astore_n k =>
    obtain ⟨h1, he⟩ := ai_g_inv hr; cases he; omega
  | astore k =>
    obtain ⟨h1, he⟩ := ai_g_inv hr; cases he; omega
  | iinc k n =>
    obtain ⟨h1, he⟩ := ai_g_inv hr; cases he; omega
  | iadd =>
    obtain ⟨h1, he⟩ := ai_g_inv hr; cases he; omega
  | isub =>
    obtain ⟨h1, he⟩ := ai_g_inv hr; cases he; omega
  | imul =>
    obtain ⟨h1, he⟩ := ai_g_inv hr; cases he; omega
  | iand =>
    obtain ⟨h1, he⟩ := ai_g_inv hr; cases he; omega
  | ishl =>
    obtain ⟨h1, he⟩ := ai_g_inv hr; cases he; omega
  | ishr =>
    obtain ⟨h1, he⟩ := ai_g_inv hr; cases he; omega
  | ixor =>
    obtain ⟨h1, he⟩ := ai_g_inv hr; cases he; omega
  | idiv =>
    obtain ⟨h1, he⟩ := ai_g_inv hr; cases he; omega
  | irem =>
    obtain ⟨h1, he⟩ := ai_g_inv hr; cases he; omega
  | ineg =>
    obtain ⟨h1, he⟩ := ai_g_inv hr; cases he; omega
  | i2c =>
    obtain ⟨h1, he⟩ := ai_g_inv hr; cases he; omega
  | dup =>
    obtain ⟨h1, he⟩ := ai_g_inv hr; cases he; omega
  | dup_x1 =>
    obtain ⟨h1, he⟩ := ai_g_inv hr; cases he; omega
  | dup_x2 =>
    obtain ⟨h1, he⟩ := ai_g_inv hr; cases he; omega
  | dup2 =>
    obtain ⟨h1, he⟩ := ai_g_inv hr; cases he; omega
  | pop =>
    obtain ⟨h1, he⟩ := ai_g_inv hr; cases he; omega
  | aconst_null =>
    obtain ⟨h1, he⟩ := ai_g_inv hr; cases he; omega
  | iaload =>
    obtain ⟨h1, he⟩ := ai_g_inv hr; cases he; omega
  | caload =>
    obtain ⟨h1, he⟩ := ai_g_inv hr; cases he; omega
  | aaload =>
    obtain ⟨h1, he⟩ := ai_g_inv hr; cases he; omega
  | iastore =>
    obtain ⟨h1, he⟩ := ai_g_inv hr; cases he; omega
  | castore =>
    obtain ⟨h1, he⟩ := ai_g_inv hr; cases he; omega
  | aastore =>
    obtain ⟨h1, he⟩ := ai_g_inv hr; cases he; omega
  | arraylength =>
    obtain ⟨h1, he⟩ := ai_g_inv hr; cases he; omega
  | ldc n =>
    obtain ⟨w, hw, hr⟩ := ai_bind_inv hr
    obtain ⟨h1, he⟩ := ai_g_inv hr; cases he; omega
  | goto o =>
    obtain ⟨w, hw, hr⟩ := ai_bind_inv hr
    obtain ⟨h1, he⟩ := ai_g_inv hr; cases he; omega
  | if_icmp c o =>
    obtain ⟨w, hw, hr⟩ := ai_bind_inv hr
    obtain ⟨h1, he⟩ := ai_g_inv hr; cases he; omega
  | ifCond c o =>
    obtain ⟨w, hw, hr⟩ := ai_bind_inv hr
    obtain ⟨h1, he⟩ := ai_g_inv hr; cases he; omega
  | ifnull o =>
    obtain ⟨w, hw, hr⟩ := ai_bind_inv hr
    obtain ⟨h1, he⟩ := ai_g_inv hr; cases he; omega
  | ifnonnull o =>
    obtain ⟨w, hw, hr⟩ := ai_bind_inv hr
    obtain ⟨h1, he⟩ := ai_g_inv hr; cases he; omega
  | getfield n =>
    obtain ⟨w, hw, hr⟩ := ai_bind_inv hr
    obtain ⟨h1, he⟩ := ai_g_inv hr
    cases he
    split at hop <;> omega
  | putfield n =>
    obtain ⟨w, hw, hr⟩ := ai_bind_inv hr
    obtain ⟨h1, he⟩ := ai_g_inv hr
    cases he
    split at hop <;> omega
  | new n =>
    obtain ⟨w, hw, hr⟩ := ai_bind_inv hr
    obtain ⟨w, hw, hr⟩ := ai_bind_inv hr
    obtain ⟨h1, he⟩ := ai_g_inv hr; cases he; omega
  | newarray t =>
    simp only [ai_res] at hr
    split at hr
    · obtain ⟨h1, he⟩ := ai_g_inv hr; cases he; omega
    · split at hr
      · obtain ⟨h1, he⟩ := ai_g_inv hr; cases he; omega
      · cases hr
  | anewarray n =>
    obtain ⟨w, hw, hr⟩ := ai_bind_inv hr
    split at hr
    · obtain ⟨h1, he⟩ := ai_g_inv hr; cases he; omega
    · split at hr
      · obtain ⟨h1, he⟩ := ai_g_inv hr; cases he; omega
      · cases hr
  | multianewarray n k =>
    obtain ⟨w, hw, hr⟩ := ai_bind_inv hr
    obtain ⟨h1, he⟩ := ai_g_inv hr; cases he; omega
  | tableswitch df lo hi os =>
    obtain ⟨w, hw, hr⟩ := ai_bind_inv hr
    obtain ⟨w, hw, hr⟩ := ai_bind_inv hr
    obtain ⟨h1, he⟩ := ai_g_inv hr; cases he; omega
  | invokestatic n => exact absurd hop (by have := ai_res_inv hr (Or.inl ⟨n, rfl⟩); omega)
  | invokevirtual n => exact absurd hop (by have := ai_res_inv hr (Or.inr (Or.inl ⟨n, rfl⟩)); omega)
  | invokespecial n => exact absurd hop (by have := ai_res_inv hr (Or.inr (Or.inr ⟨n, rfl⟩)); omega)
  | _ => exact absurd hr (by simp [ai_res])
theorem ai_goodl {l : List Cond} (h : ∀ w ∈ l, w ∈ ai_ws) : GoodIn ai_ws l := fun w hw => ⟨h w hw, good_of_word (ai_ws_good w (h w hw))⟩
theorem ai_yw_in {g : Nat} {q : ai_M} (h : ai_mt[g]? = some q) (hg : g < 162) : ∀ w ∈ ai_yw q, w ∈ ai_ws := fun w hw => (ai_good h hg w hw).1
theorem ai_init_in {g : Nat} {q : ai_M} (h : ai_mt[g]? = some q) (hg : g < 162) : Cond.initialized q.1.cls ∈ ai_ws := by
  have hb9 := ai_mt_b h hg
  obtain ⟨y, cc, ml, ret, k⟩ := q
  unfold ai_mtb at hb9
  simp only [Bool.and_eq_true, decide_eq_true_eq, Bool.or_eq_true] at hb9
  have hcls := hb9.2
  dsimp only
  rcases hcls with (((((((e9 | e9) | e9) | e9) | e9) | e9) | e9) | e9) | e9
  · rw [e9]; exact (ai_cl_in (k := 0) rfl).2.2
  · rw [e9]; exact (ai_cl_in (k := 1) rfl).2.2
  · rw [e9]; exact (ai_cl_in (k := 2) rfl).2.2
  · rw [e9]; exact (ai_cl_in (k := 3) rfl).2.2
  · rw [e9]; exact (ai_cl_in (k := 4) rfl).2.2
  · rw [e9]; exact (ai_cl_in (k := 5) rfl).2.2
  · rw [e9]; exact (ai_cl_in (k := 6) rfl).2.2
  · rw [e9]; exact (ai_cl_in (k := 7) rfl).2.2
  · rw [e9]; exact ai_misc_in _ (by decide +kernel)
theorem ai_c1_mem {l l' : List Value} (h : ai_c1 l = true) (hs : ∀ v ∈ l', v ∈ l) : ai_c1 l' = true := by
  unfold ai_c1 at h ⊢
  exact List.all_eq_true.mpr fun v hv => List.all_eq_true.mp h v (hs v hv)
/-- what is decided of a callee -/
theorem ai_callee {g : Nat} {q : ai_M} (h : ai_mt[g]? = some q) (hg : g < 162) : (q.1.cls ≠ "java/lang/invoke/MethodHandle" ∧ q.1.cls ≠ "java/lang/invoke/VarHandle" ∧ (parseMethodDescriptor q.1.desc).map (fun d => d.parameters.length) = some (ai_nargs q.1)) ∧ q.2.2.1 ≤ 30 ∧
    (q.2.2.2.2 = 1 → ai_nargs q.1 ≤ q.2.2.1) ∧ (q.2.2.2.2 ≠ 1 → ai_nargs q.1 + 1 ≤ q.2.2.1 ∧ ∃ r, vwCl[ai_cno q.1.cls]? = some r ∧ r.1 = q.1.cls) ∧ (¬ q.2.2.2.2 ≤ 1 → q.1.name = "<init>" ∧ q.2.2.2.1 = none) := by
  have hb9 := ai_mt_b h hg
  obtain ⟨y, cc, ml, ret, k⟩ := q
  unfold ai_mtb at hb9
  simp only [Bool.and_eq_true, decide_eq_true_eq, Bool.or_eq_true] at hb9
  obtain ⟨⟨⟨⟨⟨⟨⟨⟨⟨hplain, hn1⟩, hn2⟩, hpar⟩, hml30⟩, hna⟩, hcl⟩, hk2⟩, hini⟩, hcls⟩ := hb9
  refine ⟨⟨hn1, hn2, hpar⟩, hml30, fun hk => ?_, fun hk => ⟨?_, ?_⟩, fun hk => ?_⟩
  · dsimp only at hk ⊢
    rw [if_pos hk] at hna
    omega
  · dsimp only at hk ⊢
    rw [if_neg hk] at hna
    omega
  · dsimp only at hk ⊢
    rcases hcl with h9 | h9
    · exact absurd h9 hk
    · cases e9 : vwCl[ai_cno y.cls]? with
      | none => rw [e9] at h9; cases h9
      | some r => rw [e9] at h9; exact ⟨r, rfl, of_decide_eq_true h9⟩
  · dsimp only at hk ⊢
    rcases hini with h9 | h9
    · exact absurd h9 hk
    · exact h9
/-- a call: what it needs, and what comes behind it -/
theorem ai_calls {n : Nat} (hM : ai_SimM l n) (C : ai_Cx p s m args meth c q D cA) (hRd : d + 1 ≤ R.frames ∧ 64 * (d + 1) ≤ R.locals) {f pc op a b : Nat} {v : Int32} {tb : List Nat} {nx : Nat} (hm : ai_mt[f]? = some q) (hf : ai_fetch f pc = some (op, a, b, v, tb, nx)) (hop : 37 ≤ op)
    {als st av rest : List Value} {h h1 : ai_H} {g : Nat} {r : Option Value} (hs : ai_st5 op a b v tb als st h = some (.inr (.inr (g, av, rest)))) (hex : ai_exec n d (0, fun _ => 0) g 0 (ai_ent av (ai_ml g)) [] h = some (r, h1))
    {ls : Array Slot} {H : Heap} {locs : List Loc} {cells slots : Nat} (hl : ai_L sb N0 q.2.2.1 als ls) (hP : ai_P N0 D cA h H) (hS : va_S (fun x => N0 ≤ x) s.heap H locs) {mc ms : Nat} (hmc : mc + h.1.length = h1.1.length) (hms : ms + ai_sum h = ai_sum h1) (hRc : cells + mc ≤ R.cells) (hRs : slots + ms ≤ R.slots)
    (kk : ∀ (H1 : Heap) (locs1 : List Loc), ai_P N0 D cA h1 H1 → va_S (fun x => N0 ≤ x) s.heap H1 locs1 → W p l e R s m args below meth c H1 locs1 (cells + mc) (slots + ms) Q (F0 m nx ls ((r.toList ++ rest).map (ai_cv sb N0)))) :
    W p l e R s m args below meth c H locs cells slots Q (F0 m pc ls (st.map (ai_cv sb N0))) := by
  obtain ⟨hx, hb, hml, hown, hts, hnm, hG⟩ := C
  obtain ⟨i, len, hd, hr⟩ := ai_fetch_inv hm hf
  -- the common end
  have fin : nx = pc + 3 → (∃ X : Array Value, va_Run p l e R s m args below meth c H locs cells slots mc ms (F0 m pc ls (st.map (ai_cv sb N0))) (rest.map (ai_cv sb N0)) (ai_Qc sb N0 D cA h1 r X) (fun x => N0 ≤ x)) → W p l e R s m args below meth c H locs cells slots Q (F0 m pc ls (st.map (ai_cv sb N0))) := by
    rintro rfl ⟨X, hrun⟩
    refine ai_goon (B := ai_P N0 D cA h1) hrun hS (fun _ h => h) (fun _ _ _ h => h) (fun H1 locs1 hP1 hS1 => ?_)
    have k0 := kk H1 locs1 hP1 hS1
    have e0 : (r.map (ai_cv sb N0)).toList ++ rest.map (ai_cv sb N0) = (r.toList ++ rest).map (ai_cv sb N0) := by cases r <;> rfl
    rw [e0]
    exact k0
  have pre : ∀ q' : ai_M, ∀ U : State, U.heap = H → s.WarmedH U.vm → ai_Pc sb N0 D cA h av (av.map (ai_cv sb N0)).toArray U := fun q' U hU hW => ⟨rfl, by rw [hU]; exact hP, ai_G.moved hW hG⟩
  -- static
  have stat : ∀ (idx g' : Nat) (q' : ai_M), i = .invokestatic idx → ai_mt[g']? = some q' → g' < 162 → q'.2.2.2.2 = 1 → ai_inv g' pc 1 = some (op, a, b, v, tb, nx) → len = 3 →
      ((Cond.methodLink q.1.cls idx q'.1 ∈ ai_ws ∧ Cond.static q'.1 ∈ ai_ws) ∨ (Cond.methodLinkNest q.1.cls idx q'.1 "PredictionMaker" ∈ ai_nt.flatMap ai_nl ∧ Cond.static q'.1 ∈ ai_ws)) → W p l e R s m args below meth c H locs cells slots Q (F0 m pc ls (st.map (ai_cv sb N0))) := by
    intro idx g' q' hi hq' hg' hk1 hinv hlen hw
    subst hi
    subst hlen
    obtain ⟨q9, hq9, -, rfl, rfl, h37, -⟩ := ai_inv_inv hinv
    cases hq9.symm.trans hq'
    obtain ⟨rfl, rfl⟩ := h37 rfl
    obtain ⟨hdd, hml30, hA, -, -⟩ := ai_callee hq' hg'
    simp only [ai_st5, reduceIte] at hs
    split at hs
    · rename_i hcnd
      obtain ⟨hb1, hc1, hr8⟩ := hcnd
      simp only [Option.some.injEq, Sum.inr.injEq, Prod.mk.injEq] at hs
      obtain ⟨rfl, rfl, rfl⟩ := hs
      have hav1 : ai_c1 (List.take (ai_nargs q'.1) st).reverse = true := ai_c1_mem hc1 (fun v hv => List.mem_of_mem_take (List.mem_reverse.mp hv))
      have hrest1 : ai_c1 (List.drop (ai_nargs q'.1) st) = true := ai_c1_mem hc1 (fun v hv => List.mem_of_mem_drop hv)
      have havl : (List.take (ai_nargs q'.1) st).reverse.length = ai_nargs q'.1 := by rw [List.length_reverse, List.length_take]; omega
      have hMet := hM d a q' _ h r h1 D cA sb N0 mc ms hq' hg' hav1 (by rw [havl]; exact hA hk1) hex hmc hms
      have hstack : st.map (ai_cv sb N0) = ((List.take (ai_nargs q'.1) st).reverse.map (ai_cv sb N0)).reverse ++ (List.drop (ai_nargs q'.1) st).map (ai_cv sb N0) := by
        rw [List.map_reverse, List.reverse_reverse, ← List.map_append, List.take_append_drop]
      have hroom : (((List.drop (ai_nargs q'.1) st).map (ai_cv sb N0)).map fun v => v.category).sum ≤ 8 := by rw [ai_c1_sum hrest1]; exact hr8
      refine fin rfl ⟨((List.take (ai_nargs q'.1) st).reverse.map (ai_cv sb N0)).toArray, ?_⟩
      rcases hw with ⟨w1, w2⟩ | ⟨w1, w2⟩
      · exact va_runS (As := (List.take (ai_nargs q'.1) st).reverse.map (ai_cv sb N0)) ⟨hx, hb, hml, hown, hts⟩ hMet (va_cwS (ai_nargs q'.1) hts (ai_goodl (fun w hw9 => by
            rcases List.mem_append.mp hw9 with h9 | h9
            · simp only [List.mem_cons, List.not_mem_nil, or_false] at h9
              rcases h9 with rfl | rfl | rfl
              · exact w1
              · exact w2
              · exact ai_init_in hq' hg'
            · exact ai_yw_in hq' hg' w h9)) rfl rfl rfl hdd ⟨hRd.1, by show 8 + (q'.2.2.1 + 11) + 64 * d ≤ _; omega⟩) ⟨ai_blind _ _ _ _ _ _, pre q'⟩ rfl (by rw [List.length_map, havl]) hl.1 hstack (lv_room hroom) hd ⟨hRc, hRs⟩
      · exact va_runSN (As := (List.take (ai_nargs q'.1) st).reverse.map (ai_cv sb N0)) ⟨hx, hb, hml, hown, hts⟩ hMet ⟨va_cnB (ai_nargs q'.1) hts (ai_good hq' hg') rfl rfl rfl (hG.2.1 _ w1) (hts _ (ai_init_in hq' hg')) hdd ⟨hRd.1, by show 8 + (q'.2.2.1 + 11) + 64 * d ≤ _; omega⟩, hts _ w2, trivial⟩ ⟨ai_blind _ _ _ _ _ _, pre q'⟩ rfl (by rw [List.length_map, havl]) hl.1 hstack (lv_room hroom) hd ⟨hRc, hRs⟩
    · cases hs
  -- the rest of an instance call, behind its receiver
  have inst : ∀ (g' k' : Nat) (q' : ai_M), ai_mt[g']? = some q' → g' < 162 → q'.2.2.2.2 = k' → k' ≠ 1 → ai_inv g' pc k' = some (op, a, b, v, tb, nx) →
      (∀ (q0 : Nat) (As : List Value), av.map (ai_cv sb N0) = .ref (N0 + q0) :: As → As.length = ai_nargs q'.1 → st.map (ai_cv sb N0) = As.reverse ++ .ref (N0 + q0) :: rest.map (ai_cv sb N0) → ((rest.map (ai_cv sb N0)).map fun v => v.category).sum ≤ 8 →
        (∃ cellB : Cell, H[N0 + q0]? = some cellB ∧ cellB.vm.isStatics = false ∧ s.vm.findClass q'.1.cls = some cellB.cls) → Met l q'.1 (ai_yw q') (ai_rm d mc ms) (ai_Pc sb N0 D cA h av) (ai_Qc sb N0 D cA h1 r) mc ms (fun x => N0 ≤ x) →
        va_Run p l e R s m args below meth c H locs cells slots mc ms (F0 m pc ls (st.map (ai_cv sb N0))) (rest.map (ai_cv sb N0)) (ai_Qc sb N0 D cA h1 r (Value.ref (N0 + q0) :: As).toArray) (fun x => N0 ≤ x)) →
      W p l e R s m args below meth c H locs cells slots Q (F0 m pc ls (st.map (ai_cv sb N0))) := by
    intro g' k' q' hq' hg' hk' hk1 hinv hgo
    obtain ⟨q9, hq9, -, rfl, rfl, -, h38⟩ := ai_inv_inv hinv
    cases hq9.symm.trans hq'
    obtain ⟨hop2, rfl, rfl⟩ := h38 hk1
    obtain ⟨hdd, hml30, -, hA, -⟩ := ai_callee hq' hg'
    rw [hk'] at hA
    obtain ⟨hA1, r9, hr9, hr9n⟩ := hA hk1
    have key : ∃ (q0 : Nat) (avt : List Value), (List.take (ai_nargs q'.1 + 1) st).reverse = .ref q0 :: avt ∧ (ai_kd h q0 = some (ai_cno q'.1.cls) ∧ ai_nargs q'.1 + 1 ≤ st.length ∧ ai_c1 st = true ∧ (st.drop (ai_nargs q'.1 + 1)).length ≤ 8) ∧ a = g ∧ (List.take (ai_nargs q'.1 + 1) st).reverse = av ∧ st.drop (ai_nargs q'.1 + 1) = rest := by
      rw [hop2] at hs
      by_cases h0 : k' = 0
      · rw [if_pos h0] at hs
        simp only [ai_st5, reduceIte, Nat.reduceEqDiff, Nat.reduceAdd] at hs
        split at hs
        · rename_i q0 avt hrev
          split at hs
          · rename_i hcnd
            simp only [Option.some.injEq, Sum.inr.injEq, Prod.mk.injEq] at hs
            exact ⟨q0, avt, hrev, hcnd, hs.1, hs.2.1, hs.2.2⟩
          · cases hs
        · cases hs
      · rw [if_neg h0] at hs
        simp only [ai_st5, reduceIte, Nat.reduceEqDiff, Nat.reduceAdd] at hs
        split at hs
        · rename_i q0 avt hrev
          split at hs
          · rename_i hcnd
            simp only [Option.some.injEq, Sum.inr.injEq, Prod.mk.injEq] at hs
            exact ⟨q0, avt, hrev, hcnd, hs.1, hs.2.1, hs.2.2⟩
          · cases hs
        · cases hs
    clear hs
    obtain ⟨q0, avt, hrev, ⟨hkd, hb1, hc1, hr8⟩, rfl, rfl, rfl⟩ := key
    have hav1 : ai_c1 (List.take (ai_nargs q'.1 + 1) st).reverse = true := ai_c1_mem hc1 (fun v hv => List.mem_of_mem_take (List.mem_reverse.mp hv))
    have hrest1 : ai_c1 (List.drop (ai_nargs q'.1 + 1) st) = true := ai_c1_mem hc1 (fun v hv => List.mem_of_mem_drop hv)
    have havl : (List.take (ai_nargs q'.1 + 1) st).reverse.length = ai_nargs q'.1 + 1 := by rw [List.length_reverse, List.length_take]; omega
    have hMet := hM d a q' _ h r h1 D cA sb N0 mc ms hq' hg' hav1 (by rw [havl]; exact hA1) hex hmc hms
    obtain ⟨n9, hn9⟩ := ai_kd_at hkd
    have hrec := va_recv hG.1 (hP.hit hn9) (ci := ai_cno q'.1.cls) (q := r9) (q0 := 0) hr9 (by rw [ai_E_obj N0 cA _ _ n9 (ai_k8 hr9)]; rfl)
    rw [hr9n] at hrec
    have hmapav : (List.take (ai_nargs q'.1 + 1) st).reverse.map (ai_cv sb N0) = .ref (N0 + q0) :: avt.map (ai_cv sb N0) := by rw [hrev]; rfl
    have hstack : st.map (ai_cv sb N0) = (avt.map (ai_cv sb N0)).reverse ++ .ref (N0 + q0) :: (List.drop (ai_nargs q'.1 + 1) st).map (ai_cv sb N0) := by
      have e1 : st.map (ai_cv sb N0) = ((List.take (ai_nargs q'.1 + 1) st).reverse.map (ai_cv sb N0)).reverse ++ (List.drop (ai_nargs q'.1 + 1) st).map (ai_cv sb N0) := by
        rw [List.map_reverse, List.reverse_reverse, ← List.map_append, List.take_append_drop]
      rw [e1, hmapav, List.reverse_cons, List.append_assoc]
      rfl
    have hlen : (avt.map (ai_cv sb N0)).length = ai_nargs q'.1 := by
      rw [hrev] at havl
      rw [List.length_map]
      simpa using havl
    refine fin rfl ⟨_, hgo q0 _ hmapav hlen hstack (by rw [ai_c1_sum hrest1]; exact hr8) hrec hMet⟩
  have bound : ∀ q' : ai_M, q'.2.2.1 ≤ 30 → 8 + (q'.2.2.1 + 11) + (ai_rm d mc ms).locals ≤ R.locals := fun q' h9 => by show 8 + (q'.2.2.1 + 11) + 64 * d ≤ _; omega
  have hop39 : op ≤ 39 := by
    unfold ai_st5 at hs
    apply Nat.le_of_not_lt
    intro h9
    rw [if_neg (by omega), if_neg (by omega), if_neg (by omega)] at hs
    repeat' (split at hs)
    all_goals simp at hs
  cases i with
  | invokestatic idx =>
    simp only [ai_res] at hr
    split at hr
    · obtain ⟨h1, he⟩ := ai_g_inv hr; cases he; omega
    · split at hr
      · rename_i hlen
        split at hr
        · rename_i g' hcall
          obtain ⟨hg', hw⟩ := ai_call_ok hcall
          obtain ⟨q', hq', hk', -, -, -, -⟩ := ai_inv_inv hr
          unfold ai_lw at hw
          rw [hq'] at hw
          obtain ⟨y', cc', ml', ret', k'⟩ := q'
          dsimp only at hk'
          subst hk'
          exact stat idx g' _ rfl hq' hg' rfl hr hlen (Or.inl ⟨hw _ (by simp), hw _ (by simp)⟩)
        · obtain ⟨g', hcall, hr⟩ := ai_bind_inv hr
          obtain ⟨hg', hw, hnl⟩ := ai_ncall_ok hcall
          obtain ⟨q', hq', hk', -, -, -, -⟩ := ai_inv_inv hr
          unfold ai_nw at hw
          unfold ai_nl at hnl
          rw [hq'] at hw hnl
          obtain ⟨y', cc', ml', ret', k'⟩ := q'
          dsimp only at hk'
          subst hk'
          exact stat idx g' _ rfl hq' hg' rfl hr hlen (Or.inr ⟨hnl _ (by simp), hw _ (by simp)⟩)
      · cases hr
  | invokevirtual idx =>
    simp only [ai_res] at hr
    split at hr
    · rename_i hlen
      subst hlen
      obtain ⟨g', hcall, hr⟩ := ai_bind_inv hr
      obtain ⟨hg', hw⟩ := ai_call_ok hcall
      obtain ⟨q', hq', hk', -, -, -, -⟩ := ai_inv_inv hr
      unfold ai_lw at hw
      rw [hq'] at hw
      obtain ⟨y', cc', ml', ret', k'⟩ := q'
      dsimp only at hk'
      subst hk'
      obtain ⟨hdd, hml30, -, -, -⟩ := ai_callee hq' hg'
      refine inst g' 0 _ hq' hg' rfl (by decide) hr fun q0 As hav hlen hstack hroom hrec hMet => ?_
      exact va_runV (As := As) ⟨hx, hb, hml, hown, hts⟩ hMet (cwV (ai_nargs y') hts (ai_goodl (fun w hw9 => by
            rcases List.mem_append.mp hw9 with h9 | h9
            · simp only [List.mem_cons, List.not_mem_nil, or_false] at h9
              rcases h9 with rfl | rfl | rfl | rfl
              · exact hw _ (by simp)
              · exact hw _ (by simp)
              · exact hw _ (by simp)
              · exact ai_init_in hq' hg'
            · exact ai_yw_in hq' hg' w h9)) rfl rfl rfl ⟨rfl, hdd⟩ ⟨hRd.1, bound _ hml30⟩) ⟨ai_blind _ _ _ _ _ _, hrec, fun U hU hW => by rw [← hav]; exact pre (y', cc', ml', ret', 0) U hU hW⟩ rfl hlen hl.1 hstack (lv_room hroom) hd ⟨hRc, hRs⟩
    · cases hr
  | invokespecial idx =>
    simp only [ai_res] at hr
    split at hr
    · obtain ⟨h1, he⟩ := ai_g_inv hr; cases he; omega
    · split at hr
      · rename_i hlen
        subst hlen
        split at hr
        · rename_i g' hcall
          obtain ⟨hg', hw⟩ := ai_call_ok hcall
          obtain ⟨q', hq', hk', -, -, -, -⟩ := ai_inv_inv hr
          unfold ai_lw at hw
          rw [hq'] at hw
          obtain ⟨y', cc', ml', ret', k'⟩ := q'
          dsimp only at hk'
          subst hk'
          obtain ⟨hdd, hml30, -, -, hini⟩ := ai_callee hq' hg'
          obtain ⟨hnm9, hret9⟩ := hini (by show ¬ 2 ≤ 1; omega)
          dsimp only at hret9
          subst hret9
          refine inst g' 2 _ hq' hg' rfl (by decide) hr fun q0 As hav hlen hstack hroom hrec hMet => ?_
          exact va_runI (As := As) ⟨hx, hb, hml, hown, hts⟩ hMet (cwI (ai_nargs y') hts (ai_good hq' hg') rfl rfl rfl (hts _ (ai_init_in hq' hg')) (hts _ (hw _ (by simp))) (hts _ (hw _ (by simp))) hnm9 hdd ⟨hRd.1, bound _ hml30⟩) ⟨ai_blind _ _ _ _ _ _, fun U hU hW => by rw [← hav]; exact pre (y', cc', ml', none, 2) U hU hW⟩ rfl hlen hl.1 hstack (lv_room hroom) hd ⟨hRc, hRs⟩
        · obtain ⟨g', hcall, hr⟩ := ai_bind_inv hr
          obtain ⟨hg', hw, hnl⟩ := ai_ncall_ok hcall
          obtain ⟨q', hq', hk', -, -, -, -⟩ := ai_inv_inv hr
          unfold ai_nw at hw
          unfold ai_nl at hnl
          rw [hq'] at hw hnl
          obtain ⟨y', cc', ml', ret', k'⟩ := q'
          dsimp only at hk'
          subst hk'
          obtain ⟨hdd, hml30, -, -, hini⟩ := ai_callee hq' hg'
          obtain ⟨hnm9, hret9⟩ := hini (by show ¬ 2 ≤ 1; omega)
          dsimp only at hret9
          subst hret9
          refine inst g' 2 _ hq' hg' rfl (by decide) hr fun q0 As hav hlen hstack hroom hrec hMet => ?_
          exact va_runIN (As := As) ⟨hx, hb, hml, hown, hts⟩ hMet ⟨va_cnB (ai_nargs y') hts (ai_good hq' hg') rfl rfl rfl (hG.2.1 _ (hnl (Cond.methodLinkNest q.1.cls idx y' "PredictionMaker") (by simp))) (hts _ (ai_init_in hq' hg')) hdd ⟨hRd.1, bound _ hml30⟩, hnm9, hts _ (hw _ (by simp))⟩ ⟨ai_blind _ _ _ _ _ _, fun U hU hW => by rw [← hav]; exact pre (y', cc', ml', none, 2) U hU hW⟩ rfl hlen hl.1 hstack (lv_room hroom) hd ⟨hRc, hRs⟩
      · cases hr
  | iconst n =>
    obtain ⟨h1, he⟩ := ai_g_inv hr; cases he; omega
  | bipush n =>
    obtain ⟨h1, he⟩ := ai_g_inv hr; cases he; omega
  | sipush n =>
    obtain ⟨h1, he⟩ := ai_g_inv hr; cases he; omega
  | iload_n k =>
    obtain ⟨h1, he⟩ := ai_g_inv hr; cases he; omega
  | iload k =>
    obtain ⟨h1, he⟩ := ai_g_inv hr; cases he; omega
  | aload_n k =>
    obtain ⟨h1, he⟩ := ai_g_inv hr; cases he; omega
  | aload k =>
    obtain ⟨h1, he⟩ := ai_g_inv hr; cases he; omega
  | istore_n k =>
    obtain ⟨h1, he⟩ := ai_g_inv hr; cases he; omega
  | istore k =>
    obtain ⟨h1, he⟩ := ai_g_inv hr; cases he; omega
  | astore_n k =>
    obtain ⟨h1, he⟩ := ai_g_inv hr; cases he; omega
  | astore k =>
    obtain ⟨h1, he⟩ := ai_g_inv hr; cases he; omega
  | iinc k n =>
    obtain ⟨h1, he⟩ := ai_g_inv hr; cases he; omega
  | iadd =>
    obtain ⟨h1, he⟩ := ai_g_inv hr; cases he; omega
  | isub =>
    obtain ⟨h1, he⟩ := ai_g_inv hr; cases he; omega
  | imul =>
    obtain ⟨h1, he⟩ := ai_g_inv hr; cases he; omega
  | iand =>
    obtain ⟨h1, he⟩ := ai_g_inv hr; cases he; omega
  | ishl =>
    obtain ⟨h1, he⟩ := ai_g_inv hr; cases he; omega
  | ishr =>
    obtain ⟨h1, he⟩ := ai_g_inv hr; cases he; omega
  | ixor =>
    obtain ⟨h1, he⟩ := ai_g_inv hr; cases he; omega
  | idiv =>
    obtain ⟨h1, he⟩ := ai_g_inv hr; cases he; omega
  | irem =>
    obtain ⟨h1, he⟩ := ai_g_inv hr; cases he; omega
  | ineg =>
    obtain ⟨h1, he⟩ := ai_g_inv hr; cases he; omega
  | i2c =>
    obtain ⟨h1, he⟩ := ai_g_inv hr; cases he; omega
  | dup =>
    obtain ⟨h1, he⟩ := ai_g_inv hr; cases he; omega
  | dup_x1 =>
    obtain ⟨h1, he⟩ := ai_g_inv hr; cases he; omega
  | dup_x2 =>
    obtain ⟨h1, he⟩ := ai_g_inv hr; cases he; omega
  | dup2 =>
    obtain ⟨h1, he⟩ := ai_g_inv hr; cases he; omega
  | pop =>
    obtain ⟨h1, he⟩ := ai_g_inv hr; cases he; omega
  | aconst_null =>
    obtain ⟨h1, he⟩ := ai_g_inv hr; cases he; omega
  | iaload =>
    obtain ⟨h1, he⟩ := ai_g_inv hr; cases he; omega
  | caload =>
    obtain ⟨h1, he⟩ := ai_g_inv hr; cases he; omega
  | aaload =>
    obtain ⟨h1, he⟩ := ai_g_inv hr; cases he; omega
  | iastore =>
    obtain ⟨h1, he⟩ := ai_g_inv hr; cases he; omega
  | castore =>
    obtain ⟨h1, he⟩ := ai_g_inv hr; cases he; omega
  | aastore =>
    obtain ⟨h1, he⟩ := ai_g_inv hr; cases he; omega
  | arraylength =>
    obtain ⟨h1, he⟩ := ai_g_inv hr; cases he; omega
  | ldc n =>
    obtain ⟨w, hw, hr⟩ := ai_bind_inv hr
    obtain ⟨h1, he⟩ := ai_g_inv hr; cases he; omega
  | goto o =>
    obtain ⟨w, hw, hr⟩ := ai_bind_inv hr
    obtain ⟨h1, he⟩ := ai_g_inv hr; cases he; omega
  | if_icmp c o =>
    obtain ⟨w, hw, hr⟩ := ai_bind_inv hr
    obtain ⟨h1, he⟩ := ai_g_inv hr; cases he; omega
  | ifCond c o =>
    obtain ⟨w, hw, hr⟩ := ai_bind_inv hr
    obtain ⟨h1, he⟩ := ai_g_inv hr; cases he; omega
  | ifnull o =>
    obtain ⟨w, hw, hr⟩ := ai_bind_inv hr
    obtain ⟨h1, he⟩ := ai_g_inv hr; cases he; omega
  | ifnonnull o =>
    obtain ⟨w, hw, hr⟩ := ai_bind_inv hr
    obtain ⟨h1, he⟩ := ai_g_inv hr; cases he; omega
  | getfield n =>
    obtain ⟨w, hw, hr⟩ := ai_bind_inv hr
    obtain ⟨h1, he⟩ := ai_g_inv hr
    cases he
    split at hop <;> omega
  | putfield n =>
    obtain ⟨w, hw, hr⟩ := ai_bind_inv hr
    obtain ⟨h1, he⟩ := ai_g_inv hr
    cases he
    split at hop <;> omega
  | new n =>
    obtain ⟨w, hw, hr⟩ := ai_bind_inv hr
    obtain ⟨w, hw, hr⟩ := ai_bind_inv hr
    obtain ⟨h1, he⟩ := ai_g_inv hr; cases he; omega
  | newarray t =>
    simp only [ai_res] at hr
    split at hr
    · obtain ⟨h1, he⟩ := ai_g_inv hr; cases he; omega
    · split at hr
      · obtain ⟨h1, he⟩ := ai_g_inv hr; cases he; omega
      · cases hr
  | anewarray n =>
    obtain ⟨w, hw, hr⟩ := ai_bind_inv hr
    split at hr
    · obtain ⟨h1, he⟩ := ai_g_inv hr; cases he; omega
    · split at hr
      · obtain ⟨h1, he⟩ := ai_g_inv hr; cases he; omega
      · cases hr
  | multianewarray n k =>
    obtain ⟨w, hw, hr⟩ := ai_bind_inv hr
    obtain ⟨h1, he⟩ := ai_g_inv hr; cases he; omega
  | tableswitch df lo hi os =>
    obtain ⟨w, hw, hr⟩ := ai_bind_inv hr
    obtain ⟨w, hw, hr⟩ := ai_bind_inv hr
    obtain ⟨h1, he⟩ := ai_g_inv hr; cases he; omega
  | ireturn | areturn | return_ =>
    simp only [ai_res] at hr
    repeat (split at hr; · (obtain ⟨h1, he⟩ := ai_g_inv hr; cases he; omega))
    cases hr
  | _ => exact absurd hr (by simp [ai_res])
theorem ai_simW (l : Launch) : ∀ n : Nat, ai_SimW l n
  | 0 => fun p e R s m args below meth c Q q D cA sb N0 L0 S0 d X f pc als st h r h' ls H locs cells slots C hm hsx hN hRd hRc hRs hex => by cases hex
  | n + 1 => fun p e R s m args below meth c Q q D cA sb N0 L0 S0 d X f pc als st h r h' ls H locs cells slots C hm hsx hN hRd hRc hRs hex hl hP hS hc hz kend => by
    have ih := ai_simW l n
    rw [ai_exec] at hex
    split at hex
    · cases hex
    · rename_i op a b v tb nx hf
      split at hex
      · cases hex
      · rename_i pc' ls' st' h1 hst
        obtain ⟨E, e1⟩ := ai_exec_in n d X f pc' ls' st' h1 r h' hex
        obtain ⟨g1, g2⟩ := ai_sum_app (h := h1) (h' := h') rfl e1
        refine ai_one C hsx hN hRd hm hf hst (by show h1.1.length ≤ _; omega) (by show ai_sum h1 ≤ _; omega) ?_ hl hP hS hc hz
        intro ls2 H2 locs2 cells2 slots2 hl2 hP2 hS2 hc2 hz2
        exact ih p e R s m args below meth c Q q D cA sb N0 L0 S0 d X f pc' ls' st' h1 r h' ls2 H2 locs2 cells2 slots2 C hm hsx hN hRd hRc hRs hex hl2 hP2 hS2 hc2 hz2 kend
      · rename_i r1 hst
        cases hex
        obtain ⟨hs5, -⟩ := ai_step_not hst
        obtain ⟨hro, rfl⟩ := ai_ro_of hm hf hs5
        exact kend pc ls H locs cells slots hro hP hS hc hz
      · rename_i g av rest hst
        obtain ⟨hs5, hop⟩ := ai_step_not hst
        split at hex
        · cases hex
        · rename_i d'
          split at hex
          · cases hex
          · rename_i r1 h1 hcall
            obtain ⟨E, e1⟩ := ai_exec_in n _ _ _ _ _ _ _ _ _ hcall
            obtain ⟨g1, g2⟩ := ai_sum_app (h := h) (h' := h1) rfl e1
            obtain ⟨E2, e2⟩ := ai_exec_in n _ _ _ _ _ _ _ _ _ hex
            obtain ⟨g3, g4⟩ := ai_sum_app (h := h1) (h' := h') rfl e2
            obtain ⟨mc, hmc⟩ : ∃ mc, mc + h.1.length = h1.1.length := ⟨h1.1.length - h.1.length, by omega⟩
            obtain ⟨ms, hms⟩ : ∃ ms, ms + ai_sum h = ai_sum h1 := ⟨ai_sum h1 - ai_sum h, by omega⟩
            refine ai_calls (ai_met_of ih) C hRd hm hf hop hs5 hcall hl hP hS hmc hms (by omega) (by omega) ?_
            intro H2 locs2 hP2 hS2
            exact ih p e R s m args below meth c Q q D cA sb N0 L0 S0 (d' + 1) X f nx als _ h1 r h' ls H2 locs2 (cells + mc) (slots + ms) C hm hsx hN hRd hRc hRs hex hl hP2 hS2 (by omega) (by omega) kend
end AISW
end
section
/-! the claim out of a run of the small machine on the law -/
def lw_P (b : Addr) (xs : List Int32) (args : Array Value) (s : State) : Prop := args = #[.ref b] ∧ s.IntsAt b xs ∧ xs.length ≤ 3072 ∧ (Jvm.Cond.and given_1 narrow_1).before args s = true
def lw_Q (_ : Array Value) (s : State) (o : Outcome) (t : State) : Prop := o = .returned (some (.int 1)) ∧ Framed s o t [] 600000 7302250
def lw_Z (below : List Frame) (a : Array Value) (s : State) : State → Prop := fun t => ∃ o, t.status = .running ∧ Ended t below o ∧ lw_Q a s o t
/-- the law's own end, with 1 on the stack, nothing written that was there before, its room as the claim has it -/
theorem lw_ret {p : Program} {l : Launch} {e : Env} {s : State} {m : MethodId} {below : List Frame} {meth : Method} {c : Code} {b : Nat} (hx : p.tables.exec = Jvm.exec) (hb : c.code = code) (hr : meth.sig.returnType = ret) (hlocks : meth.locks = false) {pc : Nat} {H : Heap} {ls : Array Slot} (hdg : decode code pc = .ok (.ireturn, 1)) : W p l e room_1 s m #[Value.ref b] below meth c H [] 600000 7302250 (lw_Z below #[Value.ref b] s) (F0 m pc ls [.int 1]) := by
  intro T hT X
  obtain ⟨fs, hret, hrun, hended, hW, hframe⟩ := X.leave (v := some (.int 1)) (hlocks := hlocks) (fun h => by rw [hr] at h; cases h)
  have hmeth' : T.vm.method? m = some meth := X.method'
  refine ⟨T.setFrames fs, ?_, .returned (some (.int 1)), hrun, hended, rfl, ⟨_, rfl⟩, hW, hframe⟩
  jvm_step X.here [X.here.top, hx, hb, hdg, hmeth', hr, ret, narrow_b1]
  (try refine ⟨rfl, ?_⟩); (try refine ⟨rfl, ?_⟩)
  first | (intro acts; rw [hret _ acts rfl rfl rfl]) | rw [hret _ _ rfl rfl rfl]
  exact Steps.refl _
/-- what holds at the law's entry: the machine, the code, the tables' words (any of lw_tbl by 'hts w (by decide +kernel)'), the script of L ints xs at the cell b, what the Statement gives of the start (any of its parts by flat_of_before) -/
def lw_At (p : Program) (s : State) (m : MethodId) (meth : Method) (c : Code) (b L : Nat) (xs : Nat → Int32) : Prop :=
  p.tables.exec = Jvm.exec ∧ c.code = code ∧ meth.sig.returnType = ret ∧ c.maxLocals = 4 ∧ s.vm.findClass R_law = some m.cls ∧ (∀ w ∈ lw_tbl, w.before #[Value.ref b] s = true) ∧ va_X b L xs s s.heap ∧ b < s.heap.size ∧ meth.locks = false ∧ (Jvm.Cond.and given_1 narrow_1).before #[Value.ref b] s = true
/-- what is owed of the small machine: on every script its run of the law ends with 1, within the room -/
def ai_Law : Prop := ∀ (L : Nat) (xs : Nat → Int32), L ≤ 3072 → ∃ (n : Nat) (h' : ai_H), ai_exec n 60 (L, xs) 162 0 (ai_ent [.retAddr 0] 4) [] ([], fun _ _ => 0, fun _ _ => 0) = some (some (.int 1), h') ∧ h'.1.length ≤ 600000 ∧ ai_sum h' ≤ 7302250
theorem ai_arr {s : State} {args : Array Value} (hts : ∀ w ∈ lw_tbl, w.before args s = true) : ∃ cA : Nat → ClassId, (∀ (k : Nat) (q : ClassId × FieldType), (ai_tys cA)[k]? = some q → ArrOfT s q.1 q.2 ∧ va_RA s q.1 q.2) := by
  have hov := ai_pls ai_over_pl
  have w1 : (Cond.arrayClass .int).before args s = true := hts _ (ai_ws_in _ (ai_misc_in _ (by decide +kernel)))
  have w2 : (Cond.arrayClass .char).before args s = true := hts _ (ai_ws_in _ (ai_misc_in _ (by decide +kernel)))
  have w3 : (Cond.arrayOver (.object RX3)).before args s = true := hts _ (hov _ (by simp [ai_over]))
  have w4 : (Cond.arrayOver (.object RX4)).before args s = true := hts _ (hov _ (by simp [ai_over]))
  have w5 : (Cond.arrayOver (.array .int)).before args s = true := hts _ (hov _ (by simp [ai_over]))
  obtain ⟨c9, k9, p9, n9, e9, f9⟩ := Cond.arrayClass_spec w1
  obtain ⟨c8, k8, p8, n8, e8, f8⟩ := Cond.arrayClass_spec w2
  obtain ⟨p10, c10, k10, m10, -, e10, f10, n10⟩ := Cond.arrayOver_spec w3
  obtain ⟨p11, c11, k11, m11, -, e11, f11, n11⟩ := Cond.arrayOver_spec w4
  obtain ⟨p12, c12, k12, m12, -, e12, f12, n12⟩ := arrayOverA_spec w5
  refine ⟨fun k => if k = 8 then c8 else if k = 9 then c9 else if k = 10 then c10 else if k = 11 then c11 else c12, fun k q hq => ?_⟩
  match k, hq with
  | 0, hq => cases hq; exact ⟨fun n z => ⟨fun k h => (by cases h), k8, e8, p8, f8⟩, n8⟩
  | 1, hq => cases hq; exact ⟨fun n z => ⟨fun k h => (by cases h), k9, e9, p9, f9⟩, n9⟩
  | 2, hq => cases hq; exact ⟨fun n z => ⟨fun k h => (by cases h), k10, e10, p10, f10⟩, k10, p10, e10, f10, m10, n10⟩
  | 3, hq => cases hq; exact ⟨fun n z => ⟨fun k h => (by cases h), k11, e11, p11, f11⟩, k11, p11, e11, f11, m11, n11⟩
  | 4, hq => cases hq; exact ⟨fun n z => ⟨fun k h => (by cases h), k12, e12, p12, f12⟩, n12⟩
  | k + 5, hq => simp [ai_tys] at hq
set_option maxHeartbeats 4000000 in
set_option maxRecDepth 100000 in
theorem ai_top (hlaw : ai_Law) {p : Program} {e : Env} {s : State} {m : MethodId} {below : List Frame} {meth : Method} {c : Code} (l : Launch) {b L : Nat} {xs : Nat → Int32} (hL : L ≤ 3072) (C0 : lw_At p s m meth c b L xs) : W p l e room_1 s m #[Value.ref b] below meth c s.heap [] 0 0 (lw_Z below #[Value.ref b] s) (entryFrame m ([Value.ref b] : List Value).toArray 4) := by
  obtain ⟨hx, hb, hr, hml, hown, hts, hX, hbl, hlocks, hgv⟩ := id C0
  obtain ⟨n, h', hex, hc, hz⟩ := hlaw L xs hL
  have hts2 : ∀ w ∈ ai_ws, w.before #[Value.ref b] s = true := fun w hw => hts w (ai_ws_in w hw)
  have hkn : ∀ (k : Nat) (q : vw_C), vwCl[k]? = some q → ∃ (cC : ClassId) (iS : Nat → Nat), u_Kn s q.1 q.2.1 q.2.2 cC iS := fun k q hq => u_known hts2 (ai_cl_in hq).1 (hts2 _ (ai_cl_in hq).2.1)
  obtain ⟨D, hD⟩ : ∃ D : va_G, ∀ (k : Nat) (q : vw_C), vwCl[k]? = some q → u_Kn s q.1 q.2.1 q.2.2 (D.1 k) (D.2 k) := by
    have h1 : ∀ k : Nat, ∃ (cC : ClassId) (iS : Nat → Nat), ∀ q : vw_C, vwCl[k]? = some q → u_Kn s q.1 q.2.1 q.2.2 cC iS := fun k => by
      cases hk : vwCl[k]? with
      | none => exact ⟨0, fun _ => 0, fun q h => by cases h⟩
      | some q =>
        obtain ⟨cC, iS, h⟩ := hkn k q hk
        exact ⟨cC, iS, fun q' h' => by cases h'; exact h⟩
    exact ⟨(fun k => Classical.choose (h1 k), fun k => Classical.choose (Classical.choose_spec (h1 k))), fun k q hq => Classical.choose_spec (Classical.choose_spec (h1 k)) q hq⟩
  obtain ⟨cA, hcA⟩ := ai_arr hts
  have hov := ai_pls ai_over_pl
  have hG : ai_G D cA s := by
    refine ⟨⟨hD, hcA⟩, fun w hw => ?_, hts (.arrayOver (.object RX3)) (hov _ (by simp [ai_over])), hts (.arrayOver (.object RX4)) (hov _ (by simp [ai_over])), hts (.arrayOver (.array .int)) (hov _ (by simp [ai_over]))⟩
    have h1 := hts w (ai_pls ai_nl_pl w hw)
    obtain ⟨x, hx9, hw⟩ := List.mem_flatMap.mp hw
    unfold ai_nl at hw
    split at hw
    · rw [List.mem_singleton] at hw
      subst hw
      exact va_Nw.of rfl h1
    · cases hw
  have hmt : ai_mt[162]? = some (⟨RL, "law", "([I)Z"⟩, code, 4, some .boolean, 1) := rfl
  have hL0 := ai_ent_L (sb := b) (N0 := s.heap.size) (ml := 4) (av := [.retAddr 0]) rfl (by decide)
  rw [lg_entry_eq]
  refine ai_simW l n p e room_1 s m #[Value.ref b] below meth c _ _ D cA b s.heap.size 0 0 60 (L, xs) 162 0 _ [] _ _ h' _ s.heap [] 0 0 ⟨hx, hb, hml, hown, hts2, fun h => (by exact absurd h (by decide)), hG⟩ hmt (Or.inr ⟨hX, hbl, hbl⟩) (Nat.le_refl _) ⟨Nat.le_of_ble_eq_true rfl, Nat.le_of_ble_eq_true rfl⟩ (by show _ ≤ 600000 + 0; omega) (by show _ ≤ 7302250 + 0; omega) hex hL0 ⟨rfl, fun a kd n h => by simp at h⟩ va_S.rf rfl rfl ?_
  intro pcr lsr Hr locsr k9 n9 hro hP hS hk hn
  rcases hro with ⟨x, hx1, hd, -⟩ | ⟨hrr, -, -⟩ | ⟨hrr, -, -⟩
  · cases hx1
    refine va_forget hS.2.2 ?_
    refine W.widen (k := 600000) (n := 7302250) (by omega) (by omega) ?_
    exact lw_ret hx hb hr hlocks hd
  · rcases hrr with h9 | ⟨a, h9⟩ <;> cases h9
  · cases hrr
end
section
/-! the small machine's programs: what a run ends with, as a predicate (Ev), its rules, one an instruction -/
abbrev X0 : ai_X := (0, fun _ => 0)
abbrev UU : Value := .long 0
def ai_go (n d : Nat) (X : ai_X) (f : Nat) (r : ai_R) (ls st : List Value) (h : ai_H) : Option (Option Value × ai_H) :=
  match r with
  | (op, a, b, v, tb, nx) => match ai_step X d op a b v tb nx ls st h with
    | none => none
    | some (.inl (pc', ls', st', h')) => ai_exec n d X f pc' ls' st' h'
    | some (.inr (.inl r)) => some (r, h)
    | some (.inr (.inr (g, args, rest))) => match d with
      | 0 => none
      | d' + 1 => match ai_exec n d' (0, fun _ => 0) g 0 (ai_ent args (ai_ml g)) [] h with
        | none => none
        | some (r, h') => ai_exec n (d' + 1) X f nx ls (r.toList ++ rest) h'
theorem ai_exec_eq (n d : Nat) (X : ai_X) (f pc : Nat) (ls st : List Value) (h : ai_H) : ai_exec (n + 1) d X f pc ls st h = match ai_fetch f pc with
    | none => none
    | some r => ai_go n d X f r ls st h := by
  rw [ai_exec]
  cases ai_fetch f pc with
  | none => rfl
  | some r => obtain ⟨op, a, b, v, tb, nx⟩ := r; rfl
theorem ai_exec_up : ∀ (n d : Nat) (X : ai_X) (f pc : Nat) (ls st : List Value) (h : ai_H) (x : Option Value × ai_H), ai_exec n d X f pc ls st h = some x → ai_exec (n + 1) d X f pc ls st h = some x
  | 0, _, _, _, _, _, _, _, _, hs => by cases hs
  | n + 1, d, X, f, pc, ls, st, h, x, hs => by
    rw [ai_exec] at hs ⊢
    split at hs
    · cases hs
    · rename_i op a b v tb nx hf
      split at hs
      · cases hs
      · exact ai_exec_up n _ _ _ _ _ _ _ _ hs
      · exact hs
      · split at hs
        · cases hs
        · split at hs
          · cases hs
          · rename_i r1 h1 hc
            rw [ai_exec_up n _ _ _ _ _ _ _ _ hc]
            exact ai_exec_up n _ _ _ _ _ _ _ _ hs
theorem ai_exec_le {n n' d : Nat} {X : ai_X} {f pc : Nat} {ls st : List Value} {h : ai_H} {x : Option Value × ai_H} (hn : n ≤ n') (hs : ai_exec n d X f pc ls st h = some x) : ai_exec n' d X f pc ls st h = some x := by
  induction hn with
  | refl => exact hs
  | step _ ih => exact ai_exec_up _ _ _ _ _ _ _ _ _ ih
def Ev (d : Nat) (X : ai_X) (f pc : Nat) (ls st : List Value) (h : ai_H) (Q : Option Value → ai_H → Prop) : Prop := ∃ (n : Nat) (r : Option Value) (h' : ai_H), ai_exec n d X f pc ls st h = some (r, h') ∧ Q r h'
def EvI (d : Nat) (X : ai_X) (f : Nat) (i : ai_R) (ls st : List Value) (h : ai_H) (Q : Option Value → ai_H → Prop) : Prop := ∃ (n : Nat) (r : Option Value) (h' : ai_H), ai_go n d X f i ls st h = some (r, h') ∧ Q r h'
def Cl (d g : Nat) (av : List Value) (h : ai_H) (Q : Option Value → ai_H → Prop) : Prop := Ev d X0 g 0 (ai_ent av (ai_ml g)) [] h Q
theorem Ev_iff {d : Nat} {X : ai_X} {f pc : Nat} {i : ai_R} (hf : ai_fetch f pc = some i) {ls st : List Value} {h : ai_H} {Q : Option Value → ai_H → Prop} : Ev d X f pc ls st h Q ↔ EvI d X f i ls st h Q := by
  constructor
  · rintro ⟨n, r, h', e, q⟩
    cases n with
    | zero => cases e
    | succ n =>
      rw [ai_exec_eq, hf] at e
      exact ⟨n, r, h', e, q⟩
  · rintro ⟨n, r, h', e, q⟩
    refine ⟨n + 1, r, h', ?_, q⟩
    rw [ai_exec_eq, hf]
    exact e
theorem EvI_step {d : Nat} {X : ai_X} {f op a b : Nat} {v : Int32} {tb : List Nat} {nx : Nat} {ls st : List Value} {h : ai_H} {Q : Option Value → ai_H → Prop} {pc' : Nat} {ls' st' : List Value} {h' : ai_H} (hs : ai_step X d op a b v tb nx ls st h = some (.inl (pc', ls', st', h'))) : EvI d X f (op, a, b, v, tb, nx) ls st h Q ↔ Ev d X f pc' ls' st' h' Q := by
  unfold EvI Ev ai_go
  simp only [hs]
theorem EvI_none {d : Nat} {X : ai_X} {f op a b : Nat} {v : Int32} {tb : List Nat} {nx : Nat} {ls st : List Value} {h : ai_H} {Q : Option Value → ai_H → Prop} (hs : ai_step X d op a b v tb nx ls st h = none) : EvI d X f (op, a, b, v, tb, nx) ls st h Q ↔ False := by
  unfold EvI ai_go
  simp only [hs]
  simp
theorem EvI_ret {d : Nat} {X : ai_X} {f op a b : Nat} {v : Int32} {tb : List Nat} {nx : Nat} {ls st : List Value} {h : ai_H} {Q : Option Value → ai_H → Prop} {r : Option Value} (hs : ai_step X d op a b v tb nx ls st h = some (.inr (.inl r))) : EvI d X f (op, a, b, v, tb, nx) ls st h Q ↔ Q r h := by
  unfold EvI ai_go
  simp only [hs]
  constructor
  · rintro ⟨n, r', h', e, q⟩
    cases e
    exact q
  · intro q
    exact ⟨0, r, h, rfl, q⟩
theorem EvI_call {d : Nat} {X : ai_X} {f op a b : Nat} {v : Int32} {tb : List Nat} {nx : Nat} {ls st : List Value} {h : ai_H} {Q : Option Value → ai_H → Prop} {g : Nat} {av rest : List Value} (hs : ai_step X (d + 1) op a b v tb nx ls st h = some (.inr (.inr (g, av, rest)))) : EvI (d + 1) X f (op, a, b, v, tb, nx) ls st h Q ↔ Cl d g av h (fun r h' => Ev (d + 1) X f nx ls (r.toList ++ rest) h' Q) := by
  unfold EvI Cl Ev ai_go
  simp only [hs]
  constructor
  · rintro ⟨n, r, h', e, q⟩
    split at e
    · cases e
    · rename_i r1 h1 hc
      exact ⟨n, r1, h1, hc, n, r, h', e, q⟩
  · rintro ⟨n, r1, h1, hc, n2, r, h', e, q⟩
    refine ⟨max n n2, r, h', ?_, q⟩
    rw [ai_exec_le (Nat.le_max_left n n2) hc]
    exact ai_exec_le (Nat.le_max_right n n2) e
theorem Ev_mono {d : Nat} {X : ai_X} {f pc : Nat} {ls st : List Value} {h : ai_H} {P Q : Option Value → ai_H → Prop} (e : Ev d X f pc ls st h P) (k : ∀ r h', P r h' → Q r h') : Ev d X f pc ls st h Q := by
  obtain ⟨n, r, h', e, p⟩ := e
  exact ⟨n, r, h', e, k r h' p⟩
theorem Cl_mono {d g : Nat} {av : List Value} {h : ai_H} {P Q : Option Value → ai_H → Prop} (e : Cl d g av h P) (k : ∀ r h', P r h' → Q r h') : Cl d g av h Q := Ev_mono e k
/-- a contract whose end is one: as an equivalence -/
theorem Cl_one {d g : Nat} {av : List Value} {h : ai_H} {v : Option Value} {h1 : ai_H} (e : Cl d g av h (fun r h' => r = v ∧ h' = h1)) {Q : Option Value → ai_H → Prop} : Cl d g av h Q ↔ Q v h1 := by
  obtain ⟨n, r, h', e, rfl, rfl⟩ := e
  constructor
  · rintro ⟨n2, r2, h2, e2, q⟩
    have a1 := ai_exec_le (Nat.le_max_left n n2) e
    have a2 := ai_exec_le (Nat.le_max_right n n2) e2
    rw [a1] at a2
    cases a2
    exact q
  · intro q
    exact ⟨n, r, h', e, q⟩
def ai_kq (K : List (Nat × Nat)) (q : Nat) : Option Nat := (K[q]?).map (·.1)
def ai_ar (K : List (Nat × Nat)) (q k : Nat) (i : Int32) : Bool := match K[q]? with
  | some (kd, n) => decide (kd = k) && ai_in i n
  | none => false
def ai_ar3 (K : List (Nat × Nat)) (q : Nat) (i : Int32) : Bool := match K[q]? with
  | some (kd, n) => decide (10 ≤ kd ∧ kd ≤ 12) && ai_in i n
  | none => false
def ai_b (c : Prop) [Decidable c] : Int32 := if c then 1 else 0
theorem ai_b_0 (c : Prop) [Decidable c] : (ai_b c = nI 0) ↔ ¬ c := by
  unfold ai_b
  by_cases h : c
  · simp [h, nI]
  · simp [h, nI]
theorem ai_b_01 (c : Prop) [Decidable c] : (ai_b c = 0 ∨ ai_b c = 1) := by
  unfold ai_b
  by_cases h : c
  · simp [h]
  · simp [h]
section EVR
variable {d : Nat} {X : ai_X} {f a b : Nat} {v : Int32} {tb : List Nat} {nx : Nat} {ls st : List Value} {h : ai_H} {Q : Option Value → ai_H → Prop}
theorem e_const : EvI d X f (0, a, b, v, tb, nx) ls st h Q ↔ Ev d X f nx ls (.int v :: st) h Q := EvI_step rfl
theorem e_il0 {x : Int32} {l : List Value} : EvI d X f (1, 0, b, v, tb, nx) (.int x :: l) st h Q ↔ Ev d X f nx (.int x :: l) (.int x :: st) h Q := EvI_step rfl
theorem e_al0 {x : Nat} {l : List Value} : EvI d X f (2, 0, b, v, tb, nx) (.ref x :: l) st h Q ↔ Ev d X f nx (.ref x :: l) (.ref x :: st) h Q := EvI_step rfl
theorem e_an0 {l : List Value} : EvI d X f (2, 0, b, v, tb, nx) (.null :: l) st h Q ↔ Ev d X f nx (.null :: l) (.null :: st) h Q := EvI_step rfl
theorem e_is0 {w : Value} {x : Int32} {l : List Value} : EvI d X f (3, 0, b, v, tb, nx) (w :: l) (.int x :: st) h Q ↔ Ev d X f nx (.int x :: l) st h Q := EvI_step (by simp [ai_step, ai_st1])
theorem e_as0 {w : Value} {x : Nat} {l : List Value} : EvI d X f (4, 0, b, v, tb, nx) (w :: l) (.ref x :: st) h Q ↔ Ev d X f nx (.ref x :: l) st h Q := EvI_step (by simp [ai_step, ai_st1])
theorem e_az0 {w : Value} {l : List Value} : EvI d X f (4, 0, b, v, tb, nx) (w :: l) (.null :: st) h Q ↔ Ev d X f nx (.null :: l) st h Q := EvI_step (by simp [ai_step, ai_st1])
theorem e_ii0 {x : Int32} {l : List Value} : EvI d X f (5, 0, b, v, tb, nx) (.int x :: l) st h Q ↔ Ev d X f nx (.int (x + v) :: l) st h Q := EvI_step rfl
theorem e_il1 {v0 : Value} {x : Int32} {l : List Value} : EvI d X f (1, 1, b, v, tb, nx) (v0 :: .int x :: l) st h Q ↔ Ev d X f nx (v0 :: .int x :: l) (.int x :: st) h Q := EvI_step rfl
theorem e_al1 {v0 : Value} {x : Nat} {l : List Value} : EvI d X f (2, 1, b, v, tb, nx) (v0 :: .ref x :: l) st h Q ↔ Ev d X f nx (v0 :: .ref x :: l) (.ref x :: st) h Q := EvI_step rfl
theorem e_an1 {v0 : Value} {l : List Value} : EvI d X f (2, 1, b, v, tb, nx) (v0 :: .null :: l) st h Q ↔ Ev d X f nx (v0 :: .null :: l) (.null :: st) h Q := EvI_step rfl
theorem e_is1 {v0 : Value} {w : Value} {x : Int32} {l : List Value} : EvI d X f (3, 1, b, v, tb, nx) (v0 :: w :: l) (.int x :: st) h Q ↔ Ev d X f nx (v0 :: .int x :: l) st h Q := EvI_step (by simp [ai_step, ai_st1])
theorem e_as1 {v0 : Value} {w : Value} {x : Nat} {l : List Value} : EvI d X f (4, 1, b, v, tb, nx) (v0 :: w :: l) (.ref x :: st) h Q ↔ Ev d X f nx (v0 :: .ref x :: l) st h Q := EvI_step (by simp [ai_step, ai_st1])
theorem e_az1 {v0 : Value} {w : Value} {l : List Value} : EvI d X f (4, 1, b, v, tb, nx) (v0 :: w :: l) (.null :: st) h Q ↔ Ev d X f nx (v0 :: .null :: l) st h Q := EvI_step (by simp [ai_step, ai_st1])
theorem e_ii1 {v0 : Value} {x : Int32} {l : List Value} : EvI d X f (5, 1, b, v, tb, nx) (v0 :: .int x :: l) st h Q ↔ Ev d X f nx (v0 :: .int (x + v) :: l) st h Q := EvI_step rfl
theorem e_il2 {v0 v1 : Value} {x : Int32} {l : List Value} : EvI d X f (1, 2, b, v, tb, nx) (v0 :: v1 :: .int x :: l) st h Q ↔ Ev d X f nx (v0 :: v1 :: .int x :: l) (.int x :: st) h Q := EvI_step rfl
theorem e_al2 {v0 v1 : Value} {x : Nat} {l : List Value} : EvI d X f (2, 2, b, v, tb, nx) (v0 :: v1 :: .ref x :: l) st h Q ↔ Ev d X f nx (v0 :: v1 :: .ref x :: l) (.ref x :: st) h Q := EvI_step rfl
theorem e_an2 {v0 v1 : Value} {l : List Value} : EvI d X f (2, 2, b, v, tb, nx) (v0 :: v1 :: .null :: l) st h Q ↔ Ev d X f nx (v0 :: v1 :: .null :: l) (.null :: st) h Q := EvI_step rfl
theorem e_is2 {v0 v1 : Value} {w : Value} {x : Int32} {l : List Value} : EvI d X f (3, 2, b, v, tb, nx) (v0 :: v1 :: w :: l) (.int x :: st) h Q ↔ Ev d X f nx (v0 :: v1 :: .int x :: l) st h Q := EvI_step (by simp [ai_step, ai_st1])
theorem e_as2 {v0 v1 : Value} {w : Value} {x : Nat} {l : List Value} : EvI d X f (4, 2, b, v, tb, nx) (v0 :: v1 :: w :: l) (.ref x :: st) h Q ↔ Ev d X f nx (v0 :: v1 :: .ref x :: l) st h Q := EvI_step (by simp [ai_step, ai_st1])
theorem e_az2 {v0 v1 : Value} {w : Value} {l : List Value} : EvI d X f (4, 2, b, v, tb, nx) (v0 :: v1 :: w :: l) (.null :: st) h Q ↔ Ev d X f nx (v0 :: v1 :: .null :: l) st h Q := EvI_step (by simp [ai_step, ai_st1])
theorem e_ii2 {v0 v1 : Value} {x : Int32} {l : List Value} : EvI d X f (5, 2, b, v, tb, nx) (v0 :: v1 :: .int x :: l) st h Q ↔ Ev d X f nx (v0 :: v1 :: .int (x + v) :: l) st h Q := EvI_step rfl
theorem e_il3 {v0 v1 v2 : Value} {x : Int32} {l : List Value} : EvI d X f (1, 3, b, v, tb, nx) (v0 :: v1 :: v2 :: .int x :: l) st h Q ↔ Ev d X f nx (v0 :: v1 :: v2 :: .int x :: l) (.int x :: st) h Q := EvI_step rfl
theorem e_al3 {v0 v1 v2 : Value} {x : Nat} {l : List Value} : EvI d X f (2, 3, b, v, tb, nx) (v0 :: v1 :: v2 :: .ref x :: l) st h Q ↔ Ev d X f nx (v0 :: v1 :: v2 :: .ref x :: l) (.ref x :: st) h Q := EvI_step rfl
theorem e_an3 {v0 v1 v2 : Value} {l : List Value} : EvI d X f (2, 3, b, v, tb, nx) (v0 :: v1 :: v2 :: .null :: l) st h Q ↔ Ev d X f nx (v0 :: v1 :: v2 :: .null :: l) (.null :: st) h Q := EvI_step rfl
theorem e_is3 {v0 v1 v2 : Value} {w : Value} {x : Int32} {l : List Value} : EvI d X f (3, 3, b, v, tb, nx) (v0 :: v1 :: v2 :: w :: l) (.int x :: st) h Q ↔ Ev d X f nx (v0 :: v1 :: v2 :: .int x :: l) st h Q := EvI_step (by simp [ai_step, ai_st1])
theorem e_as3 {v0 v1 v2 : Value} {w : Value} {x : Nat} {l : List Value} : EvI d X f (4, 3, b, v, tb, nx) (v0 :: v1 :: v2 :: w :: l) (.ref x :: st) h Q ↔ Ev d X f nx (v0 :: v1 :: v2 :: .ref x :: l) st h Q := EvI_step (by simp [ai_step, ai_st1])
theorem e_az3 {v0 v1 v2 : Value} {w : Value} {l : List Value} : EvI d X f (4, 3, b, v, tb, nx) (v0 :: v1 :: v2 :: w :: l) (.null :: st) h Q ↔ Ev d X f nx (v0 :: v1 :: v2 :: .null :: l) st h Q := EvI_step (by simp [ai_step, ai_st1])
theorem e_ii3 {v0 v1 v2 : Value} {x : Int32} {l : List Value} : EvI d X f (5, 3, b, v, tb, nx) (v0 :: v1 :: v2 :: .int x :: l) st h Q ↔ Ev d X f nx (v0 :: v1 :: v2 :: .int (x + v) :: l) st h Q := EvI_step rfl
theorem e_il4 {v0 v1 v2 v3 : Value} {x : Int32} {l : List Value} : EvI d X f (1, 4, b, v, tb, nx) (v0 :: v1 :: v2 :: v3 :: .int x :: l) st h Q ↔ Ev d X f nx (v0 :: v1 :: v2 :: v3 :: .int x :: l) (.int x :: st) h Q := EvI_step rfl
theorem e_al4 {v0 v1 v2 v3 : Value} {x : Nat} {l : List Value} : EvI d X f (2, 4, b, v, tb, nx) (v0 :: v1 :: v2 :: v3 :: .ref x :: l) st h Q ↔ Ev d X f nx (v0 :: v1 :: v2 :: v3 :: .ref x :: l) (.ref x :: st) h Q := EvI_step rfl
theorem e_an4 {v0 v1 v2 v3 : Value} {l : List Value} : EvI d X f (2, 4, b, v, tb, nx) (v0 :: v1 :: v2 :: v3 :: .null :: l) st h Q ↔ Ev d X f nx (v0 :: v1 :: v2 :: v3 :: .null :: l) (.null :: st) h Q := EvI_step rfl
theorem e_is4 {v0 v1 v2 v3 : Value} {w : Value} {x : Int32} {l : List Value} : EvI d X f (3, 4, b, v, tb, nx) (v0 :: v1 :: v2 :: v3 :: w :: l) (.int x :: st) h Q ↔ Ev d X f nx (v0 :: v1 :: v2 :: v3 :: .int x :: l) st h Q := EvI_step (by simp [ai_step, ai_st1])
theorem e_as4 {v0 v1 v2 v3 : Value} {w : Value} {x : Nat} {l : List Value} : EvI d X f (4, 4, b, v, tb, nx) (v0 :: v1 :: v2 :: v3 :: w :: l) (.ref x :: st) h Q ↔ Ev d X f nx (v0 :: v1 :: v2 :: v3 :: .ref x :: l) st h Q := EvI_step (by simp [ai_step, ai_st1])
theorem e_az4 {v0 v1 v2 v3 : Value} {w : Value} {l : List Value} : EvI d X f (4, 4, b, v, tb, nx) (v0 :: v1 :: v2 :: v3 :: w :: l) (.null :: st) h Q ↔ Ev d X f nx (v0 :: v1 :: v2 :: v3 :: .null :: l) st h Q := EvI_step (by simp [ai_step, ai_st1])
theorem e_ii4 {v0 v1 v2 v3 : Value} {x : Int32} {l : List Value} : EvI d X f (5, 4, b, v, tb, nx) (v0 :: v1 :: v2 :: v3 :: .int x :: l) st h Q ↔ Ev d X f nx (v0 :: v1 :: v2 :: v3 :: .int (x + v) :: l) st h Q := EvI_step rfl
theorem e_il5 {v0 v1 v2 v3 v4 : Value} {x : Int32} {l : List Value} : EvI d X f (1, 5, b, v, tb, nx) (v0 :: v1 :: v2 :: v3 :: v4 :: .int x :: l) st h Q ↔ Ev d X f nx (v0 :: v1 :: v2 :: v3 :: v4 :: .int x :: l) (.int x :: st) h Q := EvI_step rfl
theorem e_al5 {v0 v1 v2 v3 v4 : Value} {x : Nat} {l : List Value} : EvI d X f (2, 5, b, v, tb, nx) (v0 :: v1 :: v2 :: v3 :: v4 :: .ref x :: l) st h Q ↔ Ev d X f nx (v0 :: v1 :: v2 :: v3 :: v4 :: .ref x :: l) (.ref x :: st) h Q := EvI_step rfl
theorem e_an5 {v0 v1 v2 v3 v4 : Value} {l : List Value} : EvI d X f (2, 5, b, v, tb, nx) (v0 :: v1 :: v2 :: v3 :: v4 :: .null :: l) st h Q ↔ Ev d X f nx (v0 :: v1 :: v2 :: v3 :: v4 :: .null :: l) (.null :: st) h Q := EvI_step rfl
theorem e_is5 {v0 v1 v2 v3 v4 : Value} {w : Value} {x : Int32} {l : List Value} : EvI d X f (3, 5, b, v, tb, nx) (v0 :: v1 :: v2 :: v3 :: v4 :: w :: l) (.int x :: st) h Q ↔ Ev d X f nx (v0 :: v1 :: v2 :: v3 :: v4 :: .int x :: l) st h Q := EvI_step (by simp [ai_step, ai_st1])
theorem e_as5 {v0 v1 v2 v3 v4 : Value} {w : Value} {x : Nat} {l : List Value} : EvI d X f (4, 5, b, v, tb, nx) (v0 :: v1 :: v2 :: v3 :: v4 :: w :: l) (.ref x :: st) h Q ↔ Ev d X f nx (v0 :: v1 :: v2 :: v3 :: v4 :: .ref x :: l) st h Q := EvI_step (by simp [ai_step, ai_st1])
theorem e_az5 {v0 v1 v2 v3 v4 : Value} {w : Value} {l : List Value} : EvI d X f (4, 5, b, v, tb, nx) (v0 :: v1 :: v2 :: v3 :: v4 :: w :: l) (.null :: st) h Q ↔ Ev d X f nx (v0 :: v1 :: v2 :: v3 :: v4 :: .null :: l) st h Q := EvI_step (by simp [ai_step, ai_st1])
theorem e_ii5 {v0 v1 v2 v3 v4 : Value} {x : Int32} {l : List Value} : EvI d X f (5, 5, b, v, tb, nx) (v0 :: v1 :: v2 :: v3 :: v4 :: .int x :: l) st h Q ↔ Ev d X f nx (v0 :: v1 :: v2 :: v3 :: v4 :: .int (x + v) :: l) st h Q := EvI_step rfl
theorem e_il6 {v0 v1 v2 v3 v4 v5 : Value} {x : Int32} {l : List Value} : EvI d X f (1, 6, b, v, tb, nx) (v0 :: v1 :: v2 :: v3 :: v4 :: v5 :: .int x :: l) st h Q ↔ Ev d X f nx (v0 :: v1 :: v2 :: v3 :: v4 :: v5 :: .int x :: l) (.int x :: st) h Q := EvI_step rfl
theorem e_al6 {v0 v1 v2 v3 v4 v5 : Value} {x : Nat} {l : List Value} : EvI d X f (2, 6, b, v, tb, nx) (v0 :: v1 :: v2 :: v3 :: v4 :: v5 :: .ref x :: l) st h Q ↔ Ev d X f nx (v0 :: v1 :: v2 :: v3 :: v4 :: v5 :: .ref x :: l) (.ref x :: st) h Q := EvI_step rfl
theorem e_an6 {v0 v1 v2 v3 v4 v5 : Value} {l : List Value} : EvI d X f (2, 6, b, v, tb, nx) (v0 :: v1 :: v2 :: v3 :: v4 :: v5 :: .null :: l) st h Q ↔ Ev d X f nx (v0 :: v1 :: v2 :: v3 :: v4 :: v5 :: .null :: l) (.null :: st) h Q := EvI_step rfl
theorem e_is6 {v0 v1 v2 v3 v4 v5 : Value} {w : Value} {x : Int32} {l : List Value} : EvI d X f (3, 6, b, v, tb, nx) (v0 :: v1 :: v2 :: v3 :: v4 :: v5 :: w :: l) (.int x :: st) h Q ↔ Ev d X f nx (v0 :: v1 :: v2 :: v3 :: v4 :: v5 :: .int x :: l) st h Q := EvI_step (by simp [ai_step, ai_st1])
theorem e_as6 {v0 v1 v2 v3 v4 v5 : Value} {w : Value} {x : Nat} {l : List Value} : EvI d X f (4, 6, b, v, tb, nx) (v0 :: v1 :: v2 :: v3 :: v4 :: v5 :: w :: l) (.ref x :: st) h Q ↔ Ev d X f nx (v0 :: v1 :: v2 :: v3 :: v4 :: v5 :: .ref x :: l) st h Q := EvI_step (by simp [ai_step, ai_st1])
theorem e_az6 {v0 v1 v2 v3 v4 v5 : Value} {w : Value} {l : List Value} : EvI d X f (4, 6, b, v, tb, nx) (v0 :: v1 :: v2 :: v3 :: v4 :: v5 :: w :: l) (.null :: st) h Q ↔ Ev d X f nx (v0 :: v1 :: v2 :: v3 :: v4 :: v5 :: .null :: l) st h Q := EvI_step (by simp [ai_step, ai_st1])
theorem e_ii6 {v0 v1 v2 v3 v4 v5 : Value} {x : Int32} {l : List Value} : EvI d X f (5, 6, b, v, tb, nx) (v0 :: v1 :: v2 :: v3 :: v4 :: v5 :: .int x :: l) st h Q ↔ Ev d X f nx (v0 :: v1 :: v2 :: v3 :: v4 :: v5 :: .int (x + v) :: l) st h Q := EvI_step rfl
theorem e_il7 {v0 v1 v2 v3 v4 v5 v6 : Value} {x : Int32} {l : List Value} : EvI d X f (1, 7, b, v, tb, nx) (v0 :: v1 :: v2 :: v3 :: v4 :: v5 :: v6 :: .int x :: l) st h Q ↔ Ev d X f nx (v0 :: v1 :: v2 :: v3 :: v4 :: v5 :: v6 :: .int x :: l) (.int x :: st) h Q := EvI_step rfl
theorem e_al7 {v0 v1 v2 v3 v4 v5 v6 : Value} {x : Nat} {l : List Value} : EvI d X f (2, 7, b, v, tb, nx) (v0 :: v1 :: v2 :: v3 :: v4 :: v5 :: v6 :: .ref x :: l) st h Q ↔ Ev d X f nx (v0 :: v1 :: v2 :: v3 :: v4 :: v5 :: v6 :: .ref x :: l) (.ref x :: st) h Q := EvI_step rfl
theorem e_an7 {v0 v1 v2 v3 v4 v5 v6 : Value} {l : List Value} : EvI d X f (2, 7, b, v, tb, nx) (v0 :: v1 :: v2 :: v3 :: v4 :: v5 :: v6 :: .null :: l) st h Q ↔ Ev d X f nx (v0 :: v1 :: v2 :: v3 :: v4 :: v5 :: v6 :: .null :: l) (.null :: st) h Q := EvI_step rfl
theorem e_is7 {v0 v1 v2 v3 v4 v5 v6 : Value} {w : Value} {x : Int32} {l : List Value} : EvI d X f (3, 7, b, v, tb, nx) (v0 :: v1 :: v2 :: v3 :: v4 :: v5 :: v6 :: w :: l) (.int x :: st) h Q ↔ Ev d X f nx (v0 :: v1 :: v2 :: v3 :: v4 :: v5 :: v6 :: .int x :: l) st h Q := EvI_step (by simp [ai_step, ai_st1])
theorem e_as7 {v0 v1 v2 v3 v4 v5 v6 : Value} {w : Value} {x : Nat} {l : List Value} : EvI d X f (4, 7, b, v, tb, nx) (v0 :: v1 :: v2 :: v3 :: v4 :: v5 :: v6 :: w :: l) (.ref x :: st) h Q ↔ Ev d X f nx (v0 :: v1 :: v2 :: v3 :: v4 :: v5 :: v6 :: .ref x :: l) st h Q := EvI_step (by simp [ai_step, ai_st1])
theorem e_az7 {v0 v1 v2 v3 v4 v5 v6 : Value} {w : Value} {l : List Value} : EvI d X f (4, 7, b, v, tb, nx) (v0 :: v1 :: v2 :: v3 :: v4 :: v5 :: v6 :: w :: l) (.null :: st) h Q ↔ Ev d X f nx (v0 :: v1 :: v2 :: v3 :: v4 :: v5 :: v6 :: .null :: l) st h Q := EvI_step (by simp [ai_step, ai_st1])
theorem e_ii7 {v0 v1 v2 v3 v4 v5 v6 : Value} {x : Int32} {l : List Value} : EvI d X f (5, 7, b, v, tb, nx) (v0 :: v1 :: v2 :: v3 :: v4 :: v5 :: v6 :: .int x :: l) st h Q ↔ Ev d X f nx (v0 :: v1 :: v2 :: v3 :: v4 :: v5 :: v6 :: .int (x + v) :: l) st h Q := EvI_step rfl
theorem e_b0 {x y : Int32} : EvI d X f (6, a, 0, v, tb, nx) ls (.int y :: .int x :: st) h Q ↔ Ev d X f nx ls (.int (x + y) :: st) h Q := EvI_step rfl
theorem e_b1 {x y : Int32} : EvI d X f (6, a, 1, v, tb, nx) ls (.int y :: .int x :: st) h Q ↔ Ev d X f nx ls (.int (x - y) :: st) h Q := EvI_step rfl
theorem e_b2 {x y : Int32} : EvI d X f (6, a, 2, v, tb, nx) ls (.int y :: .int x :: st) h Q ↔ Ev d X f nx ls (.int (x * y) :: st) h Q := EvI_step rfl
theorem e_b3 {x y : Int32} : EvI d X f (6, a, 3, v, tb, nx) ls (.int y :: .int x :: st) h Q ↔ Ev d X f nx ls (.int (x &&& y) :: st) h Q := EvI_step rfl
theorem e_b4 {x y : Int32} : EvI d X f (6, a, 4, v, tb, nx) ls (.int y :: .int x :: st) h Q ↔ Ev d X f nx ls (.int (x <<< (y &&& 31)) :: st) h Q := EvI_step rfl
theorem e_b5 {x y : Int32} : EvI d X f (6, a, 5, v, tb, nx) ls (.int y :: .int x :: st) h Q ↔ Ev d X f nx ls (.int (x >>> (y &&& 31)) :: st) h Q := EvI_step rfl
theorem e_b6 {x y : Int32} : EvI d X f (6, a, 6, v, tb, nx) ls (.int y :: .int x :: st) h Q ↔ Ev d X f nx ls (.int (x ^^^ y) :: st) h Q := EvI_step rfl
theorem e_div {x y : Int32} : EvI d X f (7, a, b, v, tb, nx) ls (.int y :: .int x :: st) h Q ↔ (¬ y = nI 0 ∧ Ev d X f nx ls (.int (x / y) :: st) h Q) := by
  by_cases h0 : y = 0
  · subst h0; rw [EvI_none (by rfl)]; simp [nI]
  · rw [EvI_step (show ai_step X d 7 a b v tb nx ls (.int y :: .int x :: st) h = some (.inl (nx, ls, .int (x / y) :: st, h)) by simp [ai_step, ai_st1, h0])]; exact (and_iff_right h0).symm
theorem e_rem {x y : Int32} : EvI d X f (8, a, b, v, tb, nx) ls (.int y :: .int x :: st) h Q ↔ (¬ y = nI 0 ∧ Ev d X f nx ls (.int (x - x / y * y) :: st) h Q) := by
  by_cases h0 : y = 0
  · subst h0; rw [EvI_none (by rfl)]; simp [nI]
  · rw [EvI_step (show ai_step X d 8 a b v tb nx ls (.int y :: .int x :: st) h = some (.inl (nx, ls, .int (x - x / y * y) :: st, h)) by simp [ai_step, ai_st1, h0])]; exact (and_iff_right h0).symm
theorem e_neg {x : Int32} : EvI d X f (9, a, b, v, tb, nx) ls (.int x :: st) h Q ↔ Ev d X f nx ls (.int (-x) :: st) h Q := EvI_step rfl
theorem e_i2c {x : Int32} : EvI d X f (10, a, b, v, tb, nx) ls (.int x :: st) h Q ↔ Ev d X f nx ls (.int (x.toUInt32 % 65536).toInt32 :: st) h Q := EvI_step rfl
theorem e_dupi {x : Int32} : EvI d X f (11, a, b, v, tb, nx) ls (.int x :: st) h Q ↔ Ev d X f nx ls (.int x :: .int x :: st) h Q := EvI_step rfl
theorem e_dupr {x : Nat} : EvI d X f (11, a, b, v, tb, nx) ls (.ref x :: st) h Q ↔ Ev d X f nx ls (.ref x :: .ref x :: st) h Q := EvI_step rfl
theorem e_dx1 {x : Int32} {y : Nat} : EvI d X f (12, a, b, v, tb, nx) ls (.int x :: .ref y :: st) h Q ↔ Ev d X f nx ls (.int x :: .ref y :: .int x :: st) h Q := EvI_step rfl
theorem e_dx2 {x y : Int32} {z : Nat} : EvI d X f (13, a, b, v, tb, nx) ls (.int x :: .int y :: .ref z :: st) h Q ↔ Ev d X f nx ls (.int x :: .int y :: .ref z :: .int x :: st) h Q := EvI_step rfl
theorem e_dup2 {x : Int32} {y : Nat} : EvI d X f (14, a, b, v, tb, nx) ls (.int x :: .ref y :: st) h Q ↔ Ev d X f nx ls (.int x :: .ref y :: .int x :: .ref y :: st) h Q := EvI_step rfl
theorem e_popi {x : Int32} : EvI d X f (15, a, b, v, tb, nx) ls (.int x :: st) h Q ↔ Ev d X f nx ls st h Q := EvI_step rfl
theorem e_popr {x : Nat} : EvI d X f (15, a, b, v, tb, nx) ls (.ref x :: st) h Q ↔ Ev d X f nx ls st h Q := EvI_step rfl
theorem e_goto : EvI d X f (16, a, b, v, tb, nx) ls st h Q ↔ Ev d X f a ls st h Q := EvI_step rfl
theorem ai_2way {c : Bool} {p q : Nat} : Ev d X f (if c then p else q) ls st h Q ↔ ((c = true → Ev d X f p ls st h Q) ∧ (¬ c = true → Ev d X f q ls st h Q)) := by cases c <;> simp
theorem e_c0 {x y : Int32} : EvI d X f (17, a, 0, v, tb, nx) ls (.int y :: .int x :: st) h Q ↔ ((x = y → Ev d X f a ls st h Q) ∧ (¬ x = y → Ev d X f nx ls st h Q)) := by
  rw [EvI_step (show ai_step X d 17 a 0 v tb nx ls (.int y :: .int x :: st) h = some (.inl (if ai_cmp 0 x y then a else nx, ls, st, h)) from rfl), ai_2way]; simp [ai_cmp]
theorem e_c1 {x y : Int32} : EvI d X f (17, a, 1, v, tb, nx) ls (.int y :: .int x :: st) h Q ↔ ((¬ x = y → Ev d X f a ls st h Q) ∧ (x = y → Ev d X f nx ls st h Q)) := by
  rw [EvI_step (show ai_step X d 17 a 1 v tb nx ls (.int y :: .int x :: st) h = some (.inl (if ai_cmp 1 x y then a else nx, ls, st, h)) from rfl), ai_2way]; simp [ai_cmp]
theorem e_c2 {x y : Int32} : EvI d X f (17, a, 2, v, tb, nx) ls (.int y :: .int x :: st) h Q ↔ ((x < y → Ev d X f a ls st h Q) ∧ (¬ x < y → Ev d X f nx ls st h Q)) := by
  rw [EvI_step (show ai_step X d 17 a 2 v tb nx ls (.int y :: .int x :: st) h = some (.inl (if ai_cmp 2 x y then a else nx, ls, st, h)) from rfl), ai_2way]; simp [ai_cmp]
theorem e_c3 {x y : Int32} : EvI d X f (17, a, 3, v, tb, nx) ls (.int y :: .int x :: st) h Q ↔ ((y ≤ x → Ev d X f a ls st h Q) ∧ (¬ y ≤ x → Ev d X f nx ls st h Q)) := by
  rw [EvI_step (show ai_step X d 17 a 3 v tb nx ls (.int y :: .int x :: st) h = some (.inl (if ai_cmp 3 x y then a else nx, ls, st, h)) from rfl), ai_2way]; simp [ai_cmp]
theorem e_c4 {x y : Int32} : EvI d X f (17, a, 4, v, tb, nx) ls (.int y :: .int x :: st) h Q ↔ ((y < x → Ev d X f a ls st h Q) ∧ (¬ y < x → Ev d X f nx ls st h Q)) := by
  rw [EvI_step (show ai_step X d 17 a 4 v tb nx ls (.int y :: .int x :: st) h = some (.inl (if ai_cmp 4 x y then a else nx, ls, st, h)) from rfl), ai_2way]; simp [ai_cmp]
theorem e_c5 {x y : Int32} : EvI d X f (17, a, 5, v, tb, nx) ls (.int y :: .int x :: st) h Q ↔ ((x ≤ y → Ev d X f a ls st h Q) ∧ (¬ x ≤ y → Ev d X f nx ls st h Q)) := by
  rw [EvI_step (show ai_step X d 17 a 5 v tb nx ls (.int y :: .int x :: st) h = some (.inl (if ai_cmp 5 x y then a else nx, ls, st, h)) from rfl), ai_2way]; simp [ai_cmp]
theorem e_z0 {x : Int32} : EvI d X f (18, a, 0, v, tb, nx) ls (.int x :: st) h Q ↔ ((x = nI 0 → Ev d X f a ls st h Q) ∧ (¬ x = nI 0 → Ev d X f nx ls st h Q)) := by
  rw [EvI_step (show ai_step X d 18 a 0 v tb nx ls (.int x :: st) h = some (.inl (if ai_cmp 0 x 0 then a else nx, ls, st, h)) from rfl), ai_2way]; simp [ai_cmp, nI]
theorem e_z1 {x : Int32} : EvI d X f (18, a, 1, v, tb, nx) ls (.int x :: st) h Q ↔ ((¬ x = nI 0 → Ev d X f a ls st h Q) ∧ (x = nI 0 → Ev d X f nx ls st h Q)) := by
  rw [EvI_step (show ai_step X d 18 a 1 v tb nx ls (.int x :: st) h = some (.inl (if ai_cmp 1 x 0 then a else nx, ls, st, h)) from rfl), ai_2way]; simp [ai_cmp, nI]
theorem e_z2 {x : Int32} : EvI d X f (18, a, 2, v, tb, nx) ls (.int x :: st) h Q ↔ ((x < nI 0 → Ev d X f a ls st h Q) ∧ (¬ x < nI 0 → Ev d X f nx ls st h Q)) := by
  rw [EvI_step (show ai_step X d 18 a 2 v tb nx ls (.int x :: st) h = some (.inl (if ai_cmp 2 x 0 then a else nx, ls, st, h)) from rfl), ai_2way]; simp [ai_cmp, nI]
theorem e_z3 {x : Int32} : EvI d X f (18, a, 3, v, tb, nx) ls (.int x :: st) h Q ↔ ((nI 0 ≤ x → Ev d X f a ls st h Q) ∧ (¬ nI 0 ≤ x → Ev d X f nx ls st h Q)) := by
  rw [EvI_step (show ai_step X d 18 a 3 v tb nx ls (.int x :: st) h = some (.inl (if ai_cmp 3 x 0 then a else nx, ls, st, h)) from rfl), ai_2way]; simp [ai_cmp, nI]
theorem e_z4 {x : Int32} : EvI d X f (18, a, 4, v, tb, nx) ls (.int x :: st) h Q ↔ ((nI 0 < x → Ev d X f a ls st h Q) ∧ (¬ nI 0 < x → Ev d X f nx ls st h Q)) := by
  rw [EvI_step (show ai_step X d 18 a 4 v tb nx ls (.int x :: st) h = some (.inl (if ai_cmp 4 x 0 then a else nx, ls, st, h)) from rfl), ai_2way]; simp [ai_cmp, nI]
theorem e_z5 {x : Int32} : EvI d X f (18, a, 5, v, tb, nx) ls (.int x :: st) h Q ↔ ((x ≤ nI 0 → Ev d X f a ls st h Q) ∧ (¬ x ≤ nI 0 → Ev d X f nx ls st h Q)) := by
  rw [EvI_step (show ai_step X d 18 a 5 v tb nx ls (.int x :: st) h = some (.inl (if ai_cmp 5 x 0 then a else nx, ls, st, h)) from rfl), ai_2way]; simp [ai_cmp, nI]
theorem e_nn : EvI d X f (19, a, b, v, tb, nx) ls (.null :: st) h Q ↔ Ev d X f a ls st h Q := EvI_step rfl
theorem e_nr {x : Nat} : EvI d X f (19, a, b, v, tb, nx) ls (.ref x :: st) h Q ↔ Ev d X f nx ls st h Q := EvI_step rfl
theorem e_xn : EvI d X f (20, a, b, v, tb, nx) ls (.null :: st) h Q ↔ Ev d X f nx ls st h Q := EvI_step rfl
theorem e_xr {x : Nat} : EvI d X f (20, a, b, v, tb, nx) ls (.ref x :: st) h Q ↔ Ev d X f a ls st h Q := EvI_step rfl
theorem e_null : EvI d X f (21, a, b, v, tb, nx) ls st h Q ↔ Ev d X f nx ls (.null :: st) h Q := EvI_step rfl
theorem ai_if_and {c : Prop} [Decidable c] {A : Prop} {o : Nat × List Value × List Value × ai_H} {op : Nat} (e : ai_step X d op a b v tb nx ls st h = if c then some (.inl o) else none) (hA : Ev d X f o.1 o.2.1 o.2.2.1 o.2.2.2 Q ↔ A) : EvI d X f (op, a, b, v, tb, nx) ls st h Q ↔ (c ∧ A) := by
  by_cases hc : c
  · rw [if_pos hc] at e
    obtain ⟨o1, o2, o3, o4⟩ := o
    rw [EvI_step e, hA]
    simp [hc]
  · rw [if_neg hc] at e
    rw [EvI_none e]
    simp [hc]
theorem e_getI {q : Nat} {K : List (Nat × Nat)} {I : Nat → Nat → Int32} {M : Nat → Nat → Nat} : EvI d X f (22, a, b, v, tb, nx) ls (.ref q :: st) (K, I, M) Q ↔ (ai_kq K q = some a ∧ Ev d X f nx ls (.int (I q b) :: st) (K, I, M) Q) := ai_if_and (c := ai_kq K q = some a) (o := (nx, ls, .int (I q b) :: st, (K, I, M))) rfl Iff.rfl
theorem e_getR {q : Nat} {K : List (Nat × Nat)} {I : Nat → Nat → Int32} {M : Nat → Nat → Nat} : EvI d X f (23, a, b, v, tb, nx) ls (.ref q :: st) (K, I, M) Q ↔ (ai_kq K q = some a ∧ Ev d X f nx ls (ai_rv (M q b) :: st) (K, I, M) Q) := ai_if_and (c := ai_kq K q = some a) (o := (nx, ls, ai_rv (M q b) :: st, (K, I, M))) rfl Iff.rfl
theorem e_putI {q : Nat} {x : Int32} {K : List (Nat × Nat)} {I : Nat → Nat → Int32} {M : Nat → Nat → Nat} : EvI d X f (24, a, b, v, tb, nx) ls (.int x :: .ref q :: st) (K, I, M) Q ↔ ((ai_kq K q = some a ∧ (ai_bool a b = false ∨ x = 0 ∨ x = 1)) ∧ Ev d X f nx ls st (K, ai_u I q b x, M) Q) := ai_if_and (c := ai_kq K q = some a ∧ (ai_bool a b = false ∨ x = 0 ∨ x = 1)) (o := (nx, ls, st, (K, ai_u I q b x, M))) rfl Iff.rfl
theorem e_putR {q x : Nat} {K : List (Nat × Nat)} {I : Nat → Nat → Int32} {M : Nat → Nat → Nat} : EvI d X f (25, a, b, v, tb, nx) ls (.ref x :: .ref q :: st) (K, I, M) Q ↔ (ai_kq K q = some a ∧ Ev d X f nx ls st (K, I, ai_u M q b (x + 1)) Q) := ai_if_and (c := ai_kq K q = some a) (o := (nx, ls, st, (K, I, ai_u M q b (x + 1)))) rfl Iff.rfl
theorem ai_ar_if {K : List (Nat × Nat)} {q k : Nat} {i : Int32} {o : Option ai_O} : (match K[q]? with
      | some (kd, n) => if kd = k ∧ ai_in i n = true then o else none
      | none => none) = if ai_ar K q k i = true then o else none := by
  unfold ai_ar
  cases K[q]? with
  | none => simp
  | some x => obtain ⟨kd, n⟩ := x; simp
theorem e_iald {q : Nat} {i : Int32} {K : List (Nat × Nat)} {I : Nat → Nat → Int32} {M : Nat → Nat → Nat} : EvI d X f (26, a, b, v, tb, nx) ls (.int i :: .ref q :: st) (K, I, M) Q ↔ (ai_ar K q 9 i = true ∧ Ev d X f nx ls (.int (I q i.toNatClampNeg) :: st) (K, I, M) Q) := ai_if_and (c := ai_ar K q 9 i = true) (o := (nx, ls, .int (I q i.toNatClampNeg) :: st, (K, I, M))) ai_ar_if Iff.rfl
theorem e_cald {q : Nat} {i : Int32} {K : List (Nat × Nat)} {I : Nat → Nat → Int32} {M : Nat → Nat → Nat} : EvI d X f (27, a, b, v, tb, nx) ls (.int i :: .ref q :: st) (K, I, M) Q ↔ (ai_ar K q 8 i = true ∧ Ev d X f nx ls (.int (I q i.toNatClampNeg) :: st) (K, I, M) Q) := ai_if_and (c := ai_ar K q 8 i = true) (o := (nx, ls, .int (I q i.toNatClampNeg) :: st, (K, I, M))) ai_ar_if Iff.rfl
theorem e_aald {q : Nat} {i : Int32} {K : List (Nat × Nat)} {I : Nat → Nat → Int32} {M : Nat → Nat → Nat} : EvI d X f (28, a, b, v, tb, nx) ls (.int i :: .ref q :: st) (K, I, M) Q ↔ (ai_ar3 K q i = true ∧ Ev d X f nx ls (ai_rv (M q i.toNatClampNeg) :: st) (K, I, M) Q) := ai_if_and (c := ai_ar3 K q i = true) (o := (nx, ls, ai_rv (M q i.toNatClampNeg) :: st, (K, I, M))) (by
    show (match K[q]? with
      | some (kd, n) => if 10 ≤ kd ∧ kd ≤ 12 ∧ ai_in i n = true then _ else none
      | none => none) = _
    unfold ai_ar3
    cases K[q]? with
    | none => simp
    | some x => obtain ⟨kd, n⟩ := x; simp [and_assoc]) Iff.rfl
theorem e_iast {q : Nat} {i x : Int32} {K : List (Nat × Nat)} {I : Nat → Nat → Int32} {M : Nat → Nat → Nat} : EvI d X f (29, a, b, v, tb, nx) ls (.int x :: .int i :: .ref q :: st) (K, I, M) Q ↔ (ai_ar K q 9 i = true ∧ Ev d X f nx ls st (K, ai_u I q i.toNatClampNeg x, M) Q) := ai_if_and (c := ai_ar K q 9 i = true) (o := (nx, ls, st, (K, ai_u I q i.toNatClampNeg x, M))) ai_ar_if Iff.rfl
theorem e_cast {q : Nat} {i x : Int32} {K : List (Nat × Nat)} {I : Nat → Nat → Int32} {M : Nat → Nat → Nat} : EvI d X f (30, a, b, v, tb, nx) ls (.int x :: .int i :: .ref q :: st) (K, I, M) Q ↔ (ai_ar K q 8 i = true ∧ Ev d X f nx ls st (K, ai_u I q i.toNatClampNeg (vp_nar .char x), M) Q) := ai_if_and (c := ai_ar K q 8 i = true) (o := (nx, ls, st, (K, ai_u I q i.toNatClampNeg (vp_nar .char x), M))) ai_ar_if Iff.rfl
theorem e_aast {q w : Nat} {i : Int32} {K : List (Nat × Nat)} {I : Nat → Nat → Int32} {M : Nat → Nat → Nat} : EvI d X f (31, a, b, v, tb, nx) ls (.ref w :: .int i :: .ref q :: st) (K, I, M) Q ↔ (((ai_kq K q = some 10 ∧ ai_kq K w = some 3 ∨ ai_kq K q = some 11 ∧ ai_kq K w = some 4) ∧ ai_ar3 K q i = true) ∧ Ev d X f nx ls st (K, I, ai_u M q i.toNatClampNeg (w + 1)) Q) := ai_if_and (c := (ai_kq K q = some 10 ∧ ai_kq K w = some 3 ∨ ai_kq K q = some 11 ∧ ai_kq K w = some 4) ∧ ai_ar3 K q i = true) (o := (nx, ls, st, (K, I, ai_u M q i.toNatClampNeg (w + 1)))) (by
    show (match K[q]? with
      | some (kd, n) => if ((kd = 10 ∧ ai_kd (K, I, M) w = some 3) ∨ (kd = 11 ∧ ai_kd (K, I, M) w = some 4)) ∧ ai_in i n = true then _ else none
      | none => none) = _
    unfold ai_ar3
    have e9 : ai_kd (K, I, M) w = ai_kq K w := rfl
    rw [e9]
    have e8 : ai_kq K q = (K[q]?).map (·.1) := rfl
    rw [e8]
    cases K[q]? with
    | none => simp
    | some x =>
      obtain ⟨kd, n⟩ := x
      by_cases h10 : kd = 10
      · subst h10; simp
      · by_cases h11 : kd = 11
        · subst h11; simp
        · simp [h10, h11]) Iff.rfl
theorem e_copy {n dp sp : Int32} {q0 q1 : Nat} {K : List (Nat × Nat)} {I : Nat → Nat → Int32} {M : Nat → Nat → Nat} : EvI (d + 1) X f (41, a, b, v, tb, nx) ls [.int n, .int dp, .ref q1, .int sp, .ref q0] (K, I, M) Q ↔ ((∃ n0 n1, K[q0]? = some (9, n0) ∧ K[q1]? = some (9, n1) ∧ ¬ sp < 0 ∧ ¬ dp < 0 ∧ ¬ n < 0 ∧ sp.toNatClampNeg + n.toNatClampNeg ≤ n0 ∧ dp.toNatClampNeg + n.toNatClampNeg ≤ n1) ∧
    Ev (d + 1) X f nx ls [] (K, (fun q j => if q = q1 ∧ dp.toNatClampNeg ≤ j ∧ j < dp.toNatClampNeg + n.toNatClampNeg then I q0 (sp.toNatClampNeg + (j - dp.toNatClampNeg)) else I q j), M) Q) := by
  have e : ai_step X (d + 1) 41 a b v tb nx ls [.int n, .int dp, .ref q1, .int sp, .ref q0] (K, I, M) = (match K[q0]?, K[q1]? with
        | some (k0, n0), some (k1, n1) => if k0 = 9 ∧ k1 = 9 ∧ ¬ sp < 0 ∧ ¬ dp < 0 ∧ ¬ n < 0 ∧ sp.toNatClampNeg + n.toNatClampNeg ≤ n0 ∧ dp.toNatClampNeg + n.toNatClampNeg ≤ n1 then
          some (.inl (nx, ls, [], (K, (fun q j => if q = q1 ∧ dp.toNatClampNeg ≤ j ∧ j < dp.toNatClampNeg + n.toNatClampNeg then I q0 (sp.toNatClampNeg + (j - dp.toNatClampNeg)) else I q j), M))) else none
        | _, _ => none) := by simp [ai_step, ai_st4, ai_c1]; rfl
  cases h0 : K[q0]? with
  | none => rw [EvI_none (by rw [e, h0])]; simp
  | some x =>
    cases h1 : K[q1]? with
    | none => rw [EvI_none (by rw [e, h0, h1])]; simp
    | some y =>
      obtain ⟨k0, n0⟩ := x
      obtain ⟨k1, n1⟩ := y
      by_cases hc : k0 = 9 ∧ k1 = 9 ∧ ¬ sp < 0 ∧ ¬ dp < 0 ∧ ¬ n < 0 ∧ sp.toNatClampNeg + n.toNatClampNeg ≤ n0 ∧ dp.toNatClampNeg + n.toNatClampNeg ≤ n1
      · rw [EvI_step (by rw [e, h0, h1]; exact if_pos hc)]
        obtain ⟨rfl, rfl, hc⟩ := hc
        constructor
        · intro g; exact ⟨⟨n0, n1, rfl, rfl, hc⟩, g⟩
        · intro g; exact g.2
      · rw [EvI_none (by rw [e, h0, h1]; exact if_neg hc)]
        constructor
        · intro g; cases g
        · rintro ⟨⟨n0', n1', e1, e2, g⟩, -⟩
          cases e1
          cases e2
          exact hc ⟨rfl, rfl, g⟩
theorem e_reti {x : Int32} : EvI d X f (42, 0, b, v, tb, nx) ls [.int x] h Q ↔ Q (some (.int x)) h := EvI_ret (by simp [ai_step, ai_st5])
theorem e_retb {x : Int32} : EvI d X f (42, 1, b, v, tb, nx) ls [.int x] h Q ↔ ((x = 0 ∨ x = 1) ∧ Q (some (.int x)) h) := by
  by_cases hc : x = 0 ∨ x = 1
  · rw [EvI_ret (r := some (.int x)) (by simp [ai_step, ai_st5, hc])]; simp [hc]
  · rw [EvI_none (by simp [ai_step, ai_st5, hc])]; simp [hc]
theorem e_retr {x : Nat} : EvI d X f (42, 2, b, v, tb, nx) ls [.ref x] h Q ↔ Q (some (.ref x)) h := EvI_ret (by simp [ai_step, ai_st5])
theorem e_retn : EvI d X f (42, 2, b, v, tb, nx) ls [.null] h Q ↔ Q (some .null) h := EvI_ret (by simp [ai_step, ai_st5])
theorem e_ret : EvI d X f (43, a, b, v, tb, nx) ls [] h Q ↔ Q none h := EvI_ret rfl
theorem e_sw {x : Int32} : EvI d X f (44, a, b, v, tb, nx) ls (.int x :: st) h Q ↔ Ev d X f (if x.toInt < v.toInt then a else (tb[(x.toInt - v.toInt).toNat]?).getD a) ls st h Q := EvI_step rfl
theorem ai_c1n : ai_c1 [] = true := rfl
theorem ai_c1i {x : Int32} {l : List Value} : ai_c1 (.int x :: l) = ai_c1 l := rfl
theorem ai_c1r {x : Nat} {l : List Value} : ai_c1 (.ref x :: l) = ai_c1 l := rfl
theorem e_cs1 {a0 : Value} : EvI (d + 1) X f (37, a, 1, v, tb, nx) ls (a0 :: st) h Q ↔ ((ai_c1 (a0 :: st) = true ∧ st.length ≤ 8) ∧ Cl d a [a0] h (fun r h' => Ev (d + 1) X f nx ls (r.toList ++ st) h' Q)) := by
  by_cases hc : ai_c1 (a0 :: st) = true ∧ st.length ≤ 8
  · rw [EvI_call (g := a) (av := [a0]) (rest := st) (by simp [ai_step, ai_st5]; simpa using hc)]; simp [hc]
  · rw [EvI_none (by simp [ai_step, ai_st5]; intro h1; exact Nat.lt_of_not_le (fun h2 => hc ⟨h1, h2⟩))]; simp [hc]
theorem e_cs2 {a0 a1 : Value} : EvI (d + 1) X f (37, a, 2, v, tb, nx) ls (a1 :: a0 :: st) h Q ↔ ((ai_c1 (a1 :: a0 :: st) = true ∧ st.length ≤ 8) ∧ Cl d a [a0, a1] h (fun r h' => Ev (d + 1) X f nx ls (r.toList ++ st) h' Q)) := by
  by_cases hc : ai_c1 (a1 :: a0 :: st) = true ∧ st.length ≤ 8
  · rw [EvI_call (g := a) (av := [a0, a1]) (rest := st) (by simp [ai_step, ai_st5]; simpa using hc)]; simp [hc]
  · rw [EvI_none (by simp [ai_step, ai_st5]; intro h1; exact Nat.lt_of_not_le (fun h2 => hc ⟨h1, h2⟩))]; simp [hc]
theorem e_cs3 {a0 a1 a2 : Value} : EvI (d + 1) X f (37, a, 3, v, tb, nx) ls (a2 :: a1 :: a0 :: st) h Q ↔ ((ai_c1 (a2 :: a1 :: a0 :: st) = true ∧ st.length ≤ 8) ∧ Cl d a [a0, a1, a2] h (fun r h' => Ev (d + 1) X f nx ls (r.toList ++ st) h' Q)) := by
  by_cases hc : ai_c1 (a2 :: a1 :: a0 :: st) = true ∧ st.length ≤ 8
  · rw [EvI_call (g := a) (av := [a0, a1, a2]) (rest := st) (by simp [ai_step, ai_st5]; simpa using hc)]; simp [hc]
  · rw [EvI_none (by simp [ai_step, ai_st5]; intro h1; exact Nat.lt_of_not_le (fun h2 => hc ⟨h1, h2⟩))]; simp [hc]
theorem e_cs4 {a0 a1 a2 a3 : Value} : EvI (d + 1) X f (37, a, 4, v, tb, nx) ls (a3 :: a2 :: a1 :: a0 :: st) h Q ↔ ((ai_c1 (a3 :: a2 :: a1 :: a0 :: st) = true ∧ st.length ≤ 8) ∧ Cl d a [a0, a1, a2, a3] h (fun r h' => Ev (d + 1) X f nx ls (r.toList ++ st) h' Q)) := by
  by_cases hc : ai_c1 (a3 :: a2 :: a1 :: a0 :: st) = true ∧ st.length ≤ 8
  · rw [EvI_call (g := a) (av := [a0, a1, a2, a3]) (rest := st) (by simp [ai_step, ai_st5]; simpa using hc)]; simp [hc]
  · rw [EvI_none (by simp [ai_step, ai_st5]; intro h1; exact Nat.lt_of_not_le (fun h2 => hc ⟨h1, h2⟩))]; simp [hc]
theorem e_cs5 {a0 a1 a2 a3 a4 : Value} : EvI (d + 1) X f (37, a, 5, v, tb, nx) ls (a4 :: a3 :: a2 :: a1 :: a0 :: st) h Q ↔ ((ai_c1 (a4 :: a3 :: a2 :: a1 :: a0 :: st) = true ∧ st.length ≤ 8) ∧ Cl d a [a0, a1, a2, a3, a4] h (fun r h' => Ev (d + 1) X f nx ls (r.toList ++ st) h' Q)) := by
  by_cases hc : ai_c1 (a4 :: a3 :: a2 :: a1 :: a0 :: st) = true ∧ st.length ≤ 8
  · rw [EvI_call (g := a) (av := [a0, a1, a2, a3, a4]) (rest := st) (by simp [ai_step, ai_st5]; simpa using hc)]; simp [hc]
  · rw [EvI_none (by simp [ai_step, ai_st5]; intro h1; exact Nat.lt_of_not_le (fun h2 => hc ⟨h1, h2⟩))]; simp [hc]
theorem e_cs6 {a0 a1 a2 a3 a4 a5 : Value} : EvI (d + 1) X f (37, a, 6, v, tb, nx) ls (a5 :: a4 :: a3 :: a2 :: a1 :: a0 :: st) h Q ↔ ((ai_c1 (a5 :: a4 :: a3 :: a2 :: a1 :: a0 :: st) = true ∧ st.length ≤ 8) ∧ Cl d a [a0, a1, a2, a3, a4, a5] h (fun r h' => Ev (d + 1) X f nx ls (r.toList ++ st) h' Q)) := by
  by_cases hc : ai_c1 (a5 :: a4 :: a3 :: a2 :: a1 :: a0 :: st) = true ∧ st.length ≤ 8
  · rw [EvI_call (g := a) (av := [a0, a1, a2, a3, a4, a5]) (rest := st) (by simp [ai_step, ai_st5]; simpa using hc)]; simp [hc]
  · rw [EvI_none (by simp [ai_step, ai_st5]; intro h1; exact Nat.lt_of_not_le (fun h2 => hc ⟨h1, h2⟩))]; simp [hc]
theorem e_cs7 {a0 a1 a2 a3 a4 a5 a6 : Value} : EvI (d + 1) X f (37, a, 7, v, tb, nx) ls (a6 :: a5 :: a4 :: a3 :: a2 :: a1 :: a0 :: st) h Q ↔ ((ai_c1 (a6 :: a5 :: a4 :: a3 :: a2 :: a1 :: a0 :: st) = true ∧ st.length ≤ 8) ∧ Cl d a [a0, a1, a2, a3, a4, a5, a6] h (fun r h' => Ev (d + 1) X f nx ls (r.toList ++ st) h' Q)) := by
  by_cases hc : ai_c1 (a6 :: a5 :: a4 :: a3 :: a2 :: a1 :: a0 :: st) = true ∧ st.length ≤ 8
  · rw [EvI_call (g := a) (av := [a0, a1, a2, a3, a4, a5, a6]) (rest := st) (by simp [ai_step, ai_st5]; simpa using hc)]; simp [hc]
  · rw [EvI_none (by simp [ai_step, ai_st5]; intro h1; exact Nat.lt_of_not_le (fun h2 => hc ⟨h1, h2⟩))]; simp [hc]
theorem e_cv1 {q k : Nat} {K : List (Nat × Nat)} {I : Nat → Nat → Int32} {M : Nat → Nat → Nat} : EvI (d + 1) X f (38, a, 1, v, [k], nx) ls (.ref q :: st) (K, I, M) Q ↔ ((ai_kq K q = some k ∧ ai_c1 (.ref q :: st) = true ∧ st.length ≤ 8) ∧ Cl d a [.ref q] (K, I, M) (fun r h' => Ev (d + 1) X f nx ls (r.toList ++ st) h' Q)) := by
  have e9 : ai_kd (K, I, M) q = ai_kq K q := rfl
  by_cases hc : ai_kq K q = some k ∧ ai_c1 (.ref q :: st) = true ∧ st.length ≤ 8
  · rw [EvI_call (g := a) (av := [.ref q]) (rest := st) (by simp [ai_step, ai_st5, e9]; simpa using hc)]; simp [hc]
  · rw [EvI_none (by simp [ai_step, ai_st5, e9]; intro h1 h2; exact Nat.lt_of_not_le (fun h3 => hc ⟨h1, h2, h3⟩))]; simp [hc]
theorem e_cv2 {q k : Nat} {a1 : Value} {K : List (Nat × Nat)} {I : Nat → Nat → Int32} {M : Nat → Nat → Nat} : EvI (d + 1) X f (38, a, 2, v, [k], nx) ls (a1 :: .ref q :: st) (K, I, M) Q ↔ ((ai_kq K q = some k ∧ ai_c1 (a1 :: .ref q :: st) = true ∧ st.length ≤ 8) ∧ Cl d a [.ref q, a1] (K, I, M) (fun r h' => Ev (d + 1) X f nx ls (r.toList ++ st) h' Q)) := by
  have e9 : ai_kd (K, I, M) q = ai_kq K q := rfl
  by_cases hc : ai_kq K q = some k ∧ ai_c1 (a1 :: .ref q :: st) = true ∧ st.length ≤ 8
  · rw [EvI_call (g := a) (av := [.ref q, a1]) (rest := st) (by simp [ai_step, ai_st5, e9]; simpa using hc)]; simp [hc]
  · rw [EvI_none (by simp [ai_step, ai_st5, e9]; intro h1 h2; exact Nat.lt_of_not_le (fun h3 => hc ⟨h1, h2, h3⟩))]; simp [hc]
theorem e_cv3 {q k : Nat} {a1 a2 : Value} {K : List (Nat × Nat)} {I : Nat → Nat → Int32} {M : Nat → Nat → Nat} : EvI (d + 1) X f (38, a, 3, v, [k], nx) ls (a2 :: a1 :: .ref q :: st) (K, I, M) Q ↔ ((ai_kq K q = some k ∧ ai_c1 (a2 :: a1 :: .ref q :: st) = true ∧ st.length ≤ 8) ∧ Cl d a [.ref q, a1, a2] (K, I, M) (fun r h' => Ev (d + 1) X f nx ls (r.toList ++ st) h' Q)) := by
  have e9 : ai_kd (K, I, M) q = ai_kq K q := rfl
  by_cases hc : ai_kq K q = some k ∧ ai_c1 (a2 :: a1 :: .ref q :: st) = true ∧ st.length ≤ 8
  · rw [EvI_call (g := a) (av := [.ref q, a1, a2]) (rest := st) (by simp [ai_step, ai_st5, e9]; simpa using hc)]; simp [hc]
  · rw [EvI_none (by simp [ai_step, ai_st5, e9]; intro h1 h2; exact Nat.lt_of_not_le (fun h3 => hc ⟨h1, h2, h3⟩))]; simp [hc]
theorem e_cv4 {q k : Nat} {a1 a2 a3 : Value} {K : List (Nat × Nat)} {I : Nat → Nat → Int32} {M : Nat → Nat → Nat} : EvI (d + 1) X f (38, a, 4, v, [k], nx) ls (a3 :: a2 :: a1 :: .ref q :: st) (K, I, M) Q ↔ ((ai_kq K q = some k ∧ ai_c1 (a3 :: a2 :: a1 :: .ref q :: st) = true ∧ st.length ≤ 8) ∧ Cl d a [.ref q, a1, a2, a3] (K, I, M) (fun r h' => Ev (d + 1) X f nx ls (r.toList ++ st) h' Q)) := by
  have e9 : ai_kd (K, I, M) q = ai_kq K q := rfl
  by_cases hc : ai_kq K q = some k ∧ ai_c1 (a3 :: a2 :: a1 :: .ref q :: st) = true ∧ st.length ≤ 8
  · rw [EvI_call (g := a) (av := [.ref q, a1, a2, a3]) (rest := st) (by simp [ai_step, ai_st5, e9]; simpa using hc)]; simp [hc]
  · rw [EvI_none (by simp [ai_step, ai_st5, e9]; intro h1 h2; exact Nat.lt_of_not_le (fun h3 => hc ⟨h1, h2, h3⟩))]; simp [hc]
theorem e_cv5 {q k : Nat} {a1 a2 a3 a4 : Value} {K : List (Nat × Nat)} {I : Nat → Nat → Int32} {M : Nat → Nat → Nat} : EvI (d + 1) X f (38, a, 5, v, [k], nx) ls (a4 :: a3 :: a2 :: a1 :: .ref q :: st) (K, I, M) Q ↔ ((ai_kq K q = some k ∧ ai_c1 (a4 :: a3 :: a2 :: a1 :: .ref q :: st) = true ∧ st.length ≤ 8) ∧ Cl d a [.ref q, a1, a2, a3, a4] (K, I, M) (fun r h' => Ev (d + 1) X f nx ls (r.toList ++ st) h' Q)) := by
  have e9 : ai_kd (K, I, M) q = ai_kq K q := rfl
  by_cases hc : ai_kq K q = some k ∧ ai_c1 (a4 :: a3 :: a2 :: a1 :: .ref q :: st) = true ∧ st.length ≤ 8
  · rw [EvI_call (g := a) (av := [.ref q, a1, a2, a3, a4]) (rest := st) (by simp [ai_step, ai_st5, e9]; simpa using hc)]; simp [hc]
  · rw [EvI_none (by simp [ai_step, ai_st5, e9]; intro h1 h2; exact Nat.lt_of_not_le (fun h3 => hc ⟨h1, h2, h3⟩))]; simp [hc]
theorem e_cv6 {q k : Nat} {a1 a2 a3 a4 a5 : Value} {K : List (Nat × Nat)} {I : Nat → Nat → Int32} {M : Nat → Nat → Nat} : EvI (d + 1) X f (38, a, 6, v, [k], nx) ls (a5 :: a4 :: a3 :: a2 :: a1 :: .ref q :: st) (K, I, M) Q ↔ ((ai_kq K q = some k ∧ ai_c1 (a5 :: a4 :: a3 :: a2 :: a1 :: .ref q :: st) = true ∧ st.length ≤ 8) ∧ Cl d a [.ref q, a1, a2, a3, a4, a5] (K, I, M) (fun r h' => Ev (d + 1) X f nx ls (r.toList ++ st) h' Q)) := by
  have e9 : ai_kd (K, I, M) q = ai_kq K q := rfl
  by_cases hc : ai_kq K q = some k ∧ ai_c1 (a5 :: a4 :: a3 :: a2 :: a1 :: .ref q :: st) = true ∧ st.length ≤ 8
  · rw [EvI_call (g := a) (av := [.ref q, a1, a2, a3, a4, a5]) (rest := st) (by simp [ai_step, ai_st5, e9]; simpa using hc)]; simp [hc]
  · rw [EvI_none (by simp [ai_step, ai_st5, e9]; intro h1 h2; exact Nat.lt_of_not_le (fun h3 => hc ⟨h1, h2, h3⟩))]; simp [hc]
theorem e_cv7 {q k : Nat} {a1 a2 a3 a4 a5 a6 : Value} {K : List (Nat × Nat)} {I : Nat → Nat → Int32} {M : Nat → Nat → Nat} : EvI (d + 1) X f (38, a, 7, v, [k], nx) ls (a6 :: a5 :: a4 :: a3 :: a2 :: a1 :: .ref q :: st) (K, I, M) Q ↔ ((ai_kq K q = some k ∧ ai_c1 (a6 :: a5 :: a4 :: a3 :: a2 :: a1 :: .ref q :: st) = true ∧ st.length ≤ 8) ∧ Cl d a [.ref q, a1, a2, a3, a4, a5, a6] (K, I, M) (fun r h' => Ev (d + 1) X f nx ls (r.toList ++ st) h' Q)) := by
  have e9 : ai_kd (K, I, M) q = ai_kq K q := rfl
  by_cases hc : ai_kq K q = some k ∧ ai_c1 (a6 :: a5 :: a4 :: a3 :: a2 :: a1 :: .ref q :: st) = true ∧ st.length ≤ 8
  · rw [EvI_call (g := a) (av := [.ref q, a1, a2, a3, a4, a5, a6]) (rest := st) (by simp [ai_step, ai_st5, e9]; simpa using hc)]; simp [hc]
  · rw [EvI_none (by simp [ai_step, ai_st5, e9]; intro h1 h2; exact Nat.lt_of_not_le (fun h3 => hc ⟨h1, h2, h3⟩))]; simp [hc]
theorem e_ci1 {q k : Nat} {K : List (Nat × Nat)} {I : Nat → Nat → Int32} {M : Nat → Nat → Nat} : EvI (d + 1) X f (39, a, 1, v, [k], nx) ls (.ref q :: st) (K, I, M) Q ↔ ((ai_kq K q = some k ∧ ai_c1 (.ref q :: st) = true ∧ st.length ≤ 8) ∧ Cl d a [.ref q] (K, I, M) (fun r h' => Ev (d + 1) X f nx ls (r.toList ++ st) h' Q)) := by
  have e9 : ai_kd (K, I, M) q = ai_kq K q := rfl
  by_cases hc : ai_kq K q = some k ∧ ai_c1 (.ref q :: st) = true ∧ st.length ≤ 8
  · rw [EvI_call (g := a) (av := [.ref q]) (rest := st) (by simp [ai_step, ai_st5, e9]; simpa using hc)]; simp [hc]
  · rw [EvI_none (by simp [ai_step, ai_st5, e9]; intro h1 h2; exact Nat.lt_of_not_le (fun h3 => hc ⟨h1, h2, h3⟩))]; simp [hc]
theorem e_ci2 {q k : Nat} {a1 : Value} {K : List (Nat × Nat)} {I : Nat → Nat → Int32} {M : Nat → Nat → Nat} : EvI (d + 1) X f (39, a, 2, v, [k], nx) ls (a1 :: .ref q :: st) (K, I, M) Q ↔ ((ai_kq K q = some k ∧ ai_c1 (a1 :: .ref q :: st) = true ∧ st.length ≤ 8) ∧ Cl d a [.ref q, a1] (K, I, M) (fun r h' => Ev (d + 1) X f nx ls (r.toList ++ st) h' Q)) := by
  have e9 : ai_kd (K, I, M) q = ai_kq K q := rfl
  by_cases hc : ai_kq K q = some k ∧ ai_c1 (a1 :: .ref q :: st) = true ∧ st.length ≤ 8
  · rw [EvI_call (g := a) (av := [.ref q, a1]) (rest := st) (by simp [ai_step, ai_st5, e9]; simpa using hc)]; simp [hc]
  · rw [EvI_none (by simp [ai_step, ai_st5, e9]; intro h1 h2; exact Nat.lt_of_not_le (fun h3 => hc ⟨h1, h2, h3⟩))]; simp [hc]
theorem e_ci3 {q k : Nat} {a1 a2 : Value} {K : List (Nat × Nat)} {I : Nat → Nat → Int32} {M : Nat → Nat → Nat} : EvI (d + 1) X f (39, a, 3, v, [k], nx) ls (a2 :: a1 :: .ref q :: st) (K, I, M) Q ↔ ((ai_kq K q = some k ∧ ai_c1 (a2 :: a1 :: .ref q :: st) = true ∧ st.length ≤ 8) ∧ Cl d a [.ref q, a1, a2] (K, I, M) (fun r h' => Ev (d + 1) X f nx ls (r.toList ++ st) h' Q)) := by
  have e9 : ai_kd (K, I, M) q = ai_kq K q := rfl
  by_cases hc : ai_kq K q = some k ∧ ai_c1 (a2 :: a1 :: .ref q :: st) = true ∧ st.length ≤ 8
  · rw [EvI_call (g := a) (av := [.ref q, a1, a2]) (rest := st) (by simp [ai_step, ai_st5, e9]; simpa using hc)]; simp [hc]
  · rw [EvI_none (by simp [ai_step, ai_st5, e9]; intro h1 h2; exact Nat.lt_of_not_le (fun h3 => hc ⟨h1, h2, h3⟩))]; simp [hc]
theorem e_ci4 {q k : Nat} {a1 a2 a3 : Value} {K : List (Nat × Nat)} {I : Nat → Nat → Int32} {M : Nat → Nat → Nat} : EvI (d + 1) X f (39, a, 4, v, [k], nx) ls (a3 :: a2 :: a1 :: .ref q :: st) (K, I, M) Q ↔ ((ai_kq K q = some k ∧ ai_c1 (a3 :: a2 :: a1 :: .ref q :: st) = true ∧ st.length ≤ 8) ∧ Cl d a [.ref q, a1, a2, a3] (K, I, M) (fun r h' => Ev (d + 1) X f nx ls (r.toList ++ st) h' Q)) := by
  have e9 : ai_kd (K, I, M) q = ai_kq K q := rfl
  by_cases hc : ai_kq K q = some k ∧ ai_c1 (a3 :: a2 :: a1 :: .ref q :: st) = true ∧ st.length ≤ 8
  · rw [EvI_call (g := a) (av := [.ref q, a1, a2, a3]) (rest := st) (by simp [ai_step, ai_st5, e9]; simpa using hc)]; simp [hc]
  · rw [EvI_none (by simp [ai_step, ai_st5, e9]; intro h1 h2; exact Nat.lt_of_not_le (fun h3 => hc ⟨h1, h2, h3⟩))]; simp [hc]
theorem e_ci5 {q k : Nat} {a1 a2 a3 a4 : Value} {K : List (Nat × Nat)} {I : Nat → Nat → Int32} {M : Nat → Nat → Nat} : EvI (d + 1) X f (39, a, 5, v, [k], nx) ls (a4 :: a3 :: a2 :: a1 :: .ref q :: st) (K, I, M) Q ↔ ((ai_kq K q = some k ∧ ai_c1 (a4 :: a3 :: a2 :: a1 :: .ref q :: st) = true ∧ st.length ≤ 8) ∧ Cl d a [.ref q, a1, a2, a3, a4] (K, I, M) (fun r h' => Ev (d + 1) X f nx ls (r.toList ++ st) h' Q)) := by
  have e9 : ai_kd (K, I, M) q = ai_kq K q := rfl
  by_cases hc : ai_kq K q = some k ∧ ai_c1 (a4 :: a3 :: a2 :: a1 :: .ref q :: st) = true ∧ st.length ≤ 8
  · rw [EvI_call (g := a) (av := [.ref q, a1, a2, a3, a4]) (rest := st) (by simp [ai_step, ai_st5, e9]; simpa using hc)]; simp [hc]
  · rw [EvI_none (by simp [ai_step, ai_st5, e9]; intro h1 h2; exact Nat.lt_of_not_le (fun h3 => hc ⟨h1, h2, h3⟩))]; simp [hc]
theorem e_ci6 {q k : Nat} {a1 a2 a3 a4 a5 : Value} {K : List (Nat × Nat)} {I : Nat → Nat → Int32} {M : Nat → Nat → Nat} : EvI (d + 1) X f (39, a, 6, v, [k], nx) ls (a5 :: a4 :: a3 :: a2 :: a1 :: .ref q :: st) (K, I, M) Q ↔ ((ai_kq K q = some k ∧ ai_c1 (a5 :: a4 :: a3 :: a2 :: a1 :: .ref q :: st) = true ∧ st.length ≤ 8) ∧ Cl d a [.ref q, a1, a2, a3, a4, a5] (K, I, M) (fun r h' => Ev (d + 1) X f nx ls (r.toList ++ st) h' Q)) := by
  have e9 : ai_kd (K, I, M) q = ai_kq K q := rfl
  by_cases hc : ai_kq K q = some k ∧ ai_c1 (a5 :: a4 :: a3 :: a2 :: a1 :: .ref q :: st) = true ∧ st.length ≤ 8
  · rw [EvI_call (g := a) (av := [.ref q, a1, a2, a3, a4, a5]) (rest := st) (by simp [ai_step, ai_st5, e9]; simpa using hc)]; simp [hc]
  · rw [EvI_none (by simp [ai_step, ai_st5, e9]; intro h1 h2; exact Nat.lt_of_not_le (fun h3 => hc ⟨h1, h2, h3⟩))]; simp [hc]
theorem e_ci7 {q k : Nat} {a1 a2 a3 a4 a5 a6 : Value} {K : List (Nat × Nat)} {I : Nat → Nat → Int32} {M : Nat → Nat → Nat} : EvI (d + 1) X f (39, a, 7, v, [k], nx) ls (a6 :: a5 :: a4 :: a3 :: a2 :: a1 :: .ref q :: st) (K, I, M) Q ↔ ((ai_kq K q = some k ∧ ai_c1 (a6 :: a5 :: a4 :: a3 :: a2 :: a1 :: .ref q :: st) = true ∧ st.length ≤ 8) ∧ Cl d a [.ref q, a1, a2, a3, a4, a5, a6] (K, I, M) (fun r h' => Ev (d + 1) X f nx ls (r.toList ++ st) h' Q)) := by
  have e9 : ai_kd (K, I, M) q = ai_kq K q := rfl
  by_cases hc : ai_kq K q = some k ∧ ai_c1 (a6 :: a5 :: a4 :: a3 :: a2 :: a1 :: .ref q :: st) = true ∧ st.length ≤ 8
  · rw [EvI_call (g := a) (av := [.ref q, a1, a2, a3, a4, a5, a6]) (rest := st) (by simp [ai_step, ai_st5, e9]; simpa using hc)]; simp [hc]
  · rw [EvI_none (by simp [ai_step, ai_st5, e9]; intro h1 h2; exact Nat.lt_of_not_le (fun h3 => hc ⟨h1, h2, h3⟩))]; simp [hc]
end EVR
end
section
/-! the law's run, and the claim -/
theorem whole_start {p : Program} {e : Env} {s : State} {m : MethodId} {below : List Frame} {meth : Method} {c : Code} (l : Launch) (hflags : l.flags = flags0) {b L : Nat} {xs : Nat → Int32} (hL : L ≤ 3072) (C0 : lw_At p s m meth c b L xs) : W p l e room_1 s m #[Value.ref b] below meth c s.heap [] 0 0 (lw_Z below #[Value.ref b] s) (entryFrame m ([Value.ref b] : List Value).toArray 4) := ai_top sorry l hL C0
set_option maxHeartbeats 4000000 in
theorem lw_walk (l : Launch) (hflags : l.flags = flags0) (b : Addr) (xs : List Int32) : MetFree l x (headSpec (Jvm.Cond.code x code maxLocals ret :: tables_1) room_1) (lw_P b xs) (fun _ _ _ _ _ => True) lw_Q := by
  refine MetFree.of_bodyS (code := code) (maxLocals := maxLocals) (ret := ret) (by decide) ?_ ?_
  · intro args s m h hn
    obtain ⟨meth, c, h1, h2, h3, h4, h5, h6, -, -⟩ := Cond.code_spec hn (atoms_spec (ws := Jvm.Cond.code x code maxLocals ret :: tables_1) h _ List.mem_cons_self)
    exact ⟨meth, c, h1, h2, h3, h4, h5, h6⟩
  · intro p e s m args below meth c s₁ B hml0 hP _
    obtain ⟨rfl, hx, hbd, hgv⟩ := hP
    obtain ⟨scr, harrAt, hlist, hof, hsmall⟩ := hx
    obtain ⟨hcb, hkn, -, -⟩ := State.arrayAt?_spec harrAt
    have hown : s.vm.findClass R_law = some m.cls := findClass_of_methodNamed B.named
    have hts0 : ∀ c ∈ (Jvm.Cond.code x code maxLocals ret :: tables_1), c.before #[Value.ref b] s = true := atoms_spec (ws := Jvm.Cond.code x code maxLocals ret :: tables_1) B.pre
    have hts : ∀ w ∈ lw_tbl, w.before #[Value.ref b] s = true := k2_hts_sels lw_privs (fun w hw => hts0 w (List.mem_cons_of_mem _ hw)) lw_privs_ok
    have hml : c.maxLocals = 4 := B.maxLocals_eq (hts0 _ List.mem_cons_self)
    have X₀ : Stand p l e room_1 s m #[Value.ref b] below meth c s₁ [] 0 0 := Stand.of_body B
    have hh0 : s₁.heap = s.heap := by rw [B.state]; rfl
    have hsz : scr.slots.size = xs.length := by rw [← Array.length_toList, hlist, List.length_map]
    have hval : ∀ j : Nat, j < xs.length → scr.slots[j]? = some (.int (xs.getD j 0)) := fun j hj => by
      rw [← Array.getElem?_toList, hlist]
      simp [hj]
    have hbl : b < s.heap.size := (Array.getElem?_eq_some_iff.mp hcb).1
    have hX : va_X b xs.length (fun j => xs.getD j 0) s s.heap := ⟨scr, hcb, hof, hkn, hsz, hval⟩
    have K : W p l e room_1 s m #[Value.ref b] below meth c s₁.heap [] 0 0 (lw_Z below #[Value.ref b] s) (entryFrame m ([Value.ref b] : List Value).toArray 4) := by
      rw [hh0]
      exact whole_start l hflags hbd ⟨B.exec, B.bytes, B.returns, hml, hown, hts, hX, hbl, B.notSynchronized, hgv⟩
    obtain ⟨t, a1, o, b1, b2, b3⟩ := K s₁ rfl X₀
    exact ⟨t, o, a1, b1, b2, b3⟩
theorem lw_pre_spec {args : Array Value} {s : State} (h : (Jvm.Cond.and given_1 narrow_1).before args s = true) (hr : rest_1_c.before args s = true) : ∃ (b : Addr) (xs : List Int32), lw_P b xs args s := by
  have hs := flat_of_before _ h
  have hq := flat_of_before _ hr
  have hc : (Cond.count 1).before args s = true := hs _ (by decide +kernel)
  have harr : (Cond.arrayOf (.arg 0) .int).before args s = true := hs _ (by decide +kernel)
  have hle : (Cond.le (.length (.arg 0)) (.int 3072)).before args s = true := hs _ (by decide +kernel)
  have hlen : (Cond.isInt (.length (.arg 0))).before args s = true := hq _ (by decide +kernel)
  have hall : (Cond.all (.arg 0) (.isInt (.elem (.arg 0) (.index 0)))).before args s = true := hq _ (by decide +kernel)
  obtain ⟨b, xs, hb, hx⟩ := State.ints_of_pre rfl harr hlen hall
  have hsm : xs.length < 2 ^ 31 := hx.choose_spec.2.2.2
  have hev : (Term.length (.arg 0)).eval args s none [] s = some (.int xs.length.toInt32) := hx.length_eval hb
  have hv := Cond.le_ints hev (show (Term.int 3072).eval args s none [] s = some (.int 3072) from rfl)
  have hd : xs.length.toInt32 ≤ 3072 := by
    simpa [Cond.before, Cond.holds, hv] using hle
  have hN : xs.length ≤ 3072 := (Int32.ofNat_le_ofNat hsm (by decide)).mp (show Int32.ofNat xs.length ≤ Int32.ofNat 3072 from hd)
  exact ⟨b, xs, Cond.one_arg hc (show args[0]? = some (.ref b) from hb), hx, hN, h⟩
theorem lw_comes (l : Launch) (hflags : l.flags = flags0) : Comes l x (Jvm.Cond.code x code maxLocals ret :: tables_1) room_1 (fun tb e args s => Calls_1 tb e args s ∧ rest_1 tb e args s ∧ Pre_1 tb e args s)
    (fun _ _ args s o t => lw_Q args s o t) := by
  intro p e ha hc hk s m args below hf hfit hheap happ hpre
  obtain ⟨b, xs, hP⟩ := lw_pre_spec hpre.2.2 hpre.2.1
  obtain ⟨k, o, h1, h2, h3, hQ⟩ := lw_walk l hflags b xs p e ha hc hk s m args below hf ((Spec.applies_iff_loose hf).mp happ).1 hP trivial
  exact ⟨k, o, h1, h2, h3, hQ⟩
theorem lw_frame {s t : State} {o : Outcome} {args : Array Value} (h : Framed s o t [] 600000 7302250) :
    Framed s o t (fieldLocs frame_1_writes args s ++ arrayLocs frame_1_arrays args s ++ staticLocs frame_1_statics s) 600000 7302250 := h
theorem lw_limb (L : Cond) (hL : ∀ (args : Array Value) (s t : State), L.after args s (.returned (some (.int 1))) t = true) :
    ArmFor flags0 classFile x code maxLocals ret World_1 tables_1 room_1 Calls_1 rest_1 Pre_1
      (fun tb e a s o t => postC L tb e a s o t ∧ Framed s o t (fieldLocs frame_1_writes a s ++ arrayLocs frame_1_arrays a s ++ staticLocs frame_1_statics s) 600000 7302250) := by
  intro l hflags _ _ p e ha hc hk s m args below hf hfit hheap happ hpre
  obtain ⟨k, o, h1, h2, h3, rfl, hF⟩ := lw_comes l hflags p e ha hc hk s m args below hf hfit hheap happ hpre
  exact ⟨k, _, h1, h2, h3, hL args s _, lw_frame hF⟩
theorem i_vc : Claimed_1_1 ∧ Claimed_1_2 := ⟨lw_limb limb_1_1 (fun args s t => by simp [limb_1_1, Cond.after, Cond.holds, Cond.value]), lw_limb limb_1_2 (fun args s t => Cond.after_iff.mpr (by
  first | (rw [show limb_1_2 = Cond.eq .result (.int 1) from rfl, Cond.eq_ints (x := 1) (y := 1) rfl rfl]; simp; done) | (simp [limb_1_2, Cond.value, Term.eval]; done)))⟩
end
