/-! names: the tables' words of the skeleton, then the printed names (classes, fields, methods): made by wip/whole/gen.py -/
/-- a private method of a class that the tables say can be made, by its rows of tables_1 -/
def lw_okq (q : MethodName × Nat) : Prop := (q.1.cls ≠ "java/lang/invoke/MethodHandle" ∧ q.1.cls ≠ "java/lang/invoke/VarHandle") ∧ Cond.instantiable q.1.cls q.2 ∈ tables_1 ∧ Cond.privateMethod q.1 ∈ tables_1 ∧ Cond.instanceMethod q.1 ∈ tables_1
theorem lw_p0 : lw_okq (⟨"PredictionMaker", "canOpen", "(III)Z"⟩, 4) := ⟨⟨by decide +kernel, by decide +kernel⟩, List.mem_of_getElem? (i := 12) (by decide +kernel), List.mem_of_getElem? (i := 259) (by decide +kernel), List.mem_of_getElem? (i := 260) (by decide +kernel)⟩
theorem lw_p1 : lw_okq (⟨"PredictionMaker$Exchange", "firstExecutable", "(LPredictionMaker$Market;)I"⟩, 6) := ⟨⟨by decide +kernel, by decide +kernel⟩, List.mem_of_getElem? (i := 20) (by decide +kernel), List.mem_of_getElem? (i := 307) (by decide +kernel), List.mem_of_getElem? (i := 308) (by decide +kernel)⟩
theorem lw_p2 : lw_okq (⟨"PredictionMaker$Market", "level", "()I"⟩, 16) := ⟨⟨by decide +kernel, by decide +kernel⟩, List.mem_of_getElem? (i := 27) (by decide +kernel), List.mem_of_getElem? (i := 315) (by decide +kernel), List.mem_of_getElem? (i := 316) (by decide +kernel)⟩
theorem lw_p3 : lw_okq (⟨"PredictionMaker$Market", "measure", "()V"⟩, 16) := ⟨⟨by decide +kernel, by decide +kernel⟩, List.mem_of_getElem? (i := 27) (by decide +kernel), List.mem_of_getElem? (i := 319) (by decide +kernel), List.mem_of_getElem? (i := 320) (by decide +kernel)⟩
theorem lw_p4 : lw_okq (⟨"PredictionMaker$Exchange", "obstacle", "(LPredictionMaker$Order;II)I"⟩, 6) := ⟨⟨by decide +kernel, by decide +kernel⟩, List.mem_of_getElem? (i := 20) (by decide +kernel), List.mem_of_getElem? (i := 323) (by decide +kernel), List.mem_of_getElem? (i := 324) (by decide +kernel)⟩
theorem lw_p5 : lw_okq (⟨"PredictionMaker$Market", "addSet", "(II)V"⟩, 16) := ⟨⟨by decide +kernel, by decide +kernel⟩, List.mem_of_getElem? (i := 27) (by decide +kernel), List.mem_of_getElem? (i := 384) (by decide +kernel), List.mem_of_getElem? (i := 385) (by decide +kernel)⟩
theorem lw_p6 : lw_okq (⟨"PredictionMaker$Exchange", "reasonByCondition", "(LPredictionMaker$Market;)I"⟩, 6) := ⟨⟨by decide +kernel, by decide +kernel⟩, List.mem_of_getElem? (i := 20) (by decide +kernel), List.mem_of_getElem? (i := 451) (by decide +kernel), List.mem_of_getElem? (i := 452) (by decide +kernel)⟩
theorem lw_p7 : lw_okq (⟨"PredictionMaker$Market", "lossBound", "()I"⟩, 16) := ⟨⟨by decide +kernel, by decide +kernel⟩, List.mem_of_getElem? (i := 27) (by decide +kernel), List.mem_of_getElem? (i := 481) (by decide +kernel), List.mem_of_getElem? (i := 482) (by decide +kernel)⟩
theorem lw_p8 : lw_okq (⟨"PredictionMaker$Market", "mostShares", "()I"⟩, 16) := ⟨⟨by decide +kernel, by decide +kernel⟩, List.mem_of_getElem? (i := 27) (by decide +kernel), List.mem_of_getElem? (i := 485) (by decide +kernel), List.mem_of_getElem? (i := 486) (by decide +kernel)⟩
theorem lw_p9 : lw_okq (⟨"PredictionMaker$TradeText", "note", "(IC)V"⟩, 7) := ⟨⟨by decide +kernel, by decide +kernel⟩, List.mem_of_getElem? (i := 207) (by decide +kernel), List.mem_of_getElem? (i := 604) (by decide +kernel), List.mem_of_getElem? (i := 605) (by decide +kernel)⟩
theorem lw_p10 : lw_okq (⟨"PredictionMakerModel", "isFine", "(III)Z"⟩, 7) := ⟨⟨by decide +kernel, by decide +kernel⟩, List.mem_of_getElem? (i := 646) (by decide +kernel), List.mem_of_getElem? (i := 678) (by decide +kernel), List.mem_of_getElem? (i := 679) (by decide +kernel)⟩
theorem lw_p11 : lw_okq (⟨"PredictionMakerModel", "opens", "(IIIII)I"⟩, 7) := ⟨⟨by decide +kernel, by decide +kernel⟩, List.mem_of_getElem? (i := 646) (by decide +kernel), List.mem_of_getElem? (i := 685) (by decide +kernel), List.mem_of_getElem? (i := 686) (by decide +kernel)⟩
theorem lw_p12 : lw_okq (⟨"PredictionMakerModel", "isOutcome", "(II)Z"⟩, 7) := ⟨⟨by decide +kernel, by decide +kernel⟩, List.mem_of_getElem? (i := 646) (by decide +kernel), List.mem_of_getElem? (i := 698) (by decide +kernel), List.mem_of_getElem? (i := 699) (by decide +kernel)⟩
theorem lw_p13 : lw_okq (⟨"PredictionMakerModel", "isMarket", "(I)Z"⟩, 7) := ⟨⟨by decide +kernel, by decide +kernel⟩, List.mem_of_getElem? (i := 646) (by decide +kernel), List.mem_of_getElem? (i := 702) (by decide +kernel), List.mem_of_getElem? (i := 703) (by decide +kernel)⟩
theorem lw_p14 : lw_okq (⟨"PredictionMakerModel", "of", "(II)I"⟩, 7) := ⟨⟨by decide +kernel, by decide +kernel⟩, List.mem_of_getElem? (i := 646) (by decide +kernel), List.mem_of_getElem? (i := 706) (by decide +kernel), List.mem_of_getElem? (i := 707) (by decide +kernel)⟩
theorem lw_p15 : lw_okq (⟨"PredictionMakerModel", "executes", "(I)V"⟩, 7) := ⟨⟨by decide +kernel, by decide +kernel⟩, List.mem_of_getElem? (i := 646) (by decide +kernel), List.mem_of_getElem? (i := 720) (by decide +kernel), List.mem_of_getElem? (i := 721) (by decide +kernel)⟩
def lw_privs_1 : List (MethodName × Nat) := [(⟨"PredictionMaker", "canOpen", "(III)Z"⟩, 4), (⟨"PredictionMaker$Exchange", "firstExecutable", "(LPredictionMaker$Market;)I"⟩, 6), (⟨"PredictionMaker$Market", "level", "()I"⟩, 16), (⟨"PredictionMaker$Market", "measure", "()V"⟩, 16), (⟨"PredictionMaker$Exchange", "obstacle", "(LPredictionMaker$Order;II)I"⟩, 6), (⟨"PredictionMaker$Market", "addSet", "(II)V"⟩, 16), (⟨"PredictionMaker$Exchange", "reasonByCondition", "(LPredictionMaker$Market;)I"⟩, 6), (⟨"PredictionMaker$Market", "lossBound", "()I"⟩, 16), (⟨"PredictionMaker$Market", "mostShares", "()I"⟩, 16), (⟨"PredictionMaker$TradeText", "note", "(IC)V"⟩, 7), (⟨"PredictionMakerModel", "isFine", "(III)Z"⟩, 7), (⟨"PredictionMakerModel", "opens", "(IIIII)I"⟩, 7), (⟨"PredictionMakerModel", "isOutcome", "(II)Z"⟩, 7), (⟨"PredictionMakerModel", "isMarket", "(I)Z"⟩, 7), (⟨"PredictionMakerModel", "of", "(II)I"⟩, 7), (⟨"PredictionMakerModel", "executes", "(I)V"⟩, 7)]
theorem lw_r1 : ∀ q ∈ lw_privs_1, lw_okq q := List.forall_mem_cons.mpr ⟨lw_p0, List.forall_mem_cons.mpr ⟨lw_p1, List.forall_mem_cons.mpr ⟨lw_p2, List.forall_mem_cons.mpr ⟨lw_p3, List.forall_mem_cons.mpr ⟨lw_p4, List.forall_mem_cons.mpr ⟨lw_p5, List.forall_mem_cons.mpr ⟨lw_p6, List.forall_mem_cons.mpr ⟨lw_p7, List.forall_mem_cons.mpr ⟨lw_p8, List.forall_mem_cons.mpr ⟨lw_p9, List.forall_mem_cons.mpr ⟨lw_p10, List.forall_mem_cons.mpr ⟨lw_p11, List.forall_mem_cons.mpr ⟨lw_p12, List.forall_mem_cons.mpr ⟨lw_p13, List.forall_mem_cons.mpr ⟨lw_p14, List.forall_mem_cons.mpr ⟨lw_p15, fun _ h => absurd h List.not_mem_nil⟩⟩⟩⟩⟩⟩⟩⟩⟩⟩⟩⟩⟩⟩⟩⟩
theorem lw_p16 : lw_okq (⟨"PredictionMakerModel", "isTriedAhead", "(II)Z"⟩, 7) := ⟨⟨by decide +kernel, by decide +kernel⟩, List.mem_of_getElem? (i := 646) (by decide +kernel), List.mem_of_getElem? (i := 727) (by decide +kernel), List.mem_of_getElem? (i := 728) (by decide +kernel)⟩
theorem lw_p17 : lw_okq (⟨"PredictionMakerModel", "bar", "(I)I"⟩, 7) := ⟨⟨by decide +kernel, by decide +kernel⟩, List.mem_of_getElem? (i := 646) (by decide +kernel), List.mem_of_getElem? (i := 731) (by decide +kernel), List.mem_of_getElem? (i := 732) (by decide +kernel)⟩
theorem lw_p18 : lw_okq (⟨"PredictionMakerModel", "costOf", "(III)I"⟩, 7) := ⟨⟨by decide +kernel, by decide +kernel⟩, List.mem_of_getElem? (i := 646) (by decide +kernel), List.mem_of_getElem? (i := 735) (by decide +kernel), List.mem_of_getElem? (i := 736) (by decide +kernel)⟩
theorem lw_p19 : lw_okq (⟨"PredictionMakerModel", "level", "(I)I"⟩, 7) := ⟨⟨by decide +kernel, by decide +kernel⟩, List.mem_of_getElem? (i := 646) (by decide +kernel), List.mem_of_getElem? (i := 739) (by decide +kernel), List.mem_of_getElem? (i := 740) (by decide +kernel)⟩
theorem lw_p20 : lw_okq (⟨"PredictionMakerModel", "active", "(I)I"⟩, 7) := ⟨⟨by decide +kernel, by decide +kernel⟩, List.mem_of_getElem? (i := 646) (by decide +kernel), List.mem_of_getElem? (i := 743) (by decide +kernel), List.mem_of_getElem? (i := 744) (by decide +kernel)⟩
theorem lw_p21 : lw_okq (⟨"PredictionMakerModel", "ranked", "(II)I"⟩, 7) := ⟨⟨by decide +kernel, by decide +kernel⟩, List.mem_of_getElem? (i := 646) (by decide +kernel), List.mem_of_getElem? (i := 747) (by decide +kernel), List.mem_of_getElem? (i := 748) (by decide +kernel)⟩
theorem lw_p22 : lw_okq (⟨"PredictionMakerModel", "isAhead", "(III)Z"⟩, 7) := ⟨⟨by decide +kernel, by decide +kernel⟩, List.mem_of_getElem? (i := 646) (by decide +kernel), List.mem_of_getElem? (i := 751) (by decide +kernel), List.mem_of_getElem? (i := 752) (by decide +kernel)⟩
theorem lw_p23 : lw_okq (⟨"PredictionMakerModel", "trades", "(IIIII)I"⟩, 7) := ⟨⟨by decide +kernel, by decide +kernel⟩, List.mem_of_getElem? (i := 646) (by decide +kernel), List.mem_of_getElem? (i := 755) (by decide +kernel), List.mem_of_getElem? (i := 756) (by decide +kernel)⟩
theorem lw_p24 : lw_okq (⟨"PredictionMakerModel", "removes", "(I)V"⟩, 7) := ⟨⟨by decide +kernel, by decide +kernel⟩, List.mem_of_getElem? (i := 646) (by decide +kernel), List.mem_of_getElem? (i := 762) (by decide +kernel), List.mem_of_getElem? (i := 763) (by decide +kernel)⟩
theorem lw_p25 : lw_okq (⟨"PredictionMakerModel", "has", "(II)Z"⟩, 7) := ⟨⟨by decide +kernel, by decide +kernel⟩, List.mem_of_getElem? (i := 646) (by decide +kernel), List.mem_of_getElem? (i := 783) (by decide +kernel), List.mem_of_getElem? (i := 784) (by decide +kernel)⟩
theorem lw_p26 : lw_okq (⟨"PredictionMakerModel", "grows", "(III)V"⟩, 7) := ⟨⟨by decide +kernel, by decide +kernel⟩, List.mem_of_getElem? (i := 646) (by decide +kernel), List.mem_of_getElem? (i := 787) (by decide +kernel), List.mem_of_getElem? (i := 788) (by decide +kernel)⟩
theorem lw_p27 : lw_okq (⟨"PredictionMakerModel", "find", "(I)I"⟩, 7) := ⟨⟨by decide +kernel, by decide +kernel⟩, List.mem_of_getElem? (i := 646) (by decide +kernel), List.mem_of_getElem? (i := 803) (by decide +kernel), List.mem_of_getElem? (i := 804) (by decide +kernel)⟩
theorem lw_p28 : lw_okq (⟨"PredictionMakerModel", "ticks", "()V"⟩, 7) := ⟨⟨by decide +kernel, by decide +kernel⟩, List.mem_of_getElem? (i := 646) (by decide +kernel), List.mem_of_getElem? (i := 819) (by decide +kernel), List.mem_of_getElem? (i := 820) (by decide +kernel)⟩
theorem lw_p29 : lw_okq (⟨"PredictionMakerModel", "earliest", "(II)I"⟩, 7) := ⟨⟨by decide +kernel, by decide +kernel⟩, List.mem_of_getElem? (i := 646) (by decide +kernel), List.mem_of_getElem? (i := 823) (by decide +kernel), List.mem_of_getElem? (i := 824) (by decide +kernel)⟩
theorem lw_p30 : lw_okq (⟨"PredictionMakerModel", "cancelsAll", "(I)V"⟩, 7) := ⟨⟨by decide +kernel, by decide +kernel⟩, List.mem_of_getElem? (i := 646) (by decide +kernel), List.mem_of_getElem? (i := 827) (by decide +kernel), List.mem_of_getElem? (i := 828) (by decide +kernel)⟩
theorem lw_p31 : lw_okq (⟨"PredictionMakerModel", "voids", "(II)V"⟩, 7) := ⟨⟨by decide +kernel, by decide +kernel⟩, List.mem_of_getElem? (i := 646) (by decide +kernel), List.mem_of_getElem? (i := 831) (by decide +kernel), List.mem_of_getElem? (i := 832) (by decide +kernel)⟩
def lw_privs_2 : List (MethodName × Nat) := [(⟨"PredictionMakerModel", "isTriedAhead", "(II)Z"⟩, 7), (⟨"PredictionMakerModel", "bar", "(I)I"⟩, 7), (⟨"PredictionMakerModel", "costOf", "(III)I"⟩, 7), (⟨"PredictionMakerModel", "level", "(I)I"⟩, 7), (⟨"PredictionMakerModel", "active", "(I)I"⟩, 7), (⟨"PredictionMakerModel", "ranked", "(II)I"⟩, 7), (⟨"PredictionMakerModel", "isAhead", "(III)Z"⟩, 7), (⟨"PredictionMakerModel", "trades", "(IIIII)I"⟩, 7), (⟨"PredictionMakerModel", "removes", "(I)V"⟩, 7), (⟨"PredictionMakerModel", "has", "(II)Z"⟩, 7), (⟨"PredictionMakerModel", "grows", "(III)V"⟩, 7), (⟨"PredictionMakerModel", "find", "(I)I"⟩, 7), (⟨"PredictionMakerModel", "ticks", "()V"⟩, 7), (⟨"PredictionMakerModel", "earliest", "(II)I"⟩, 7), (⟨"PredictionMakerModel", "cancelsAll", "(I)V"⟩, 7), (⟨"PredictionMakerModel", "voids", "(II)V"⟩, 7)]
theorem lw_r2 : ∀ q ∈ lw_privs_2, lw_okq q := List.forall_mem_cons.mpr ⟨lw_p16, List.forall_mem_cons.mpr ⟨lw_p17, List.forall_mem_cons.mpr ⟨lw_p18, List.forall_mem_cons.mpr ⟨lw_p19, List.forall_mem_cons.mpr ⟨lw_p20, List.forall_mem_cons.mpr ⟨lw_p21, List.forall_mem_cons.mpr ⟨lw_p22, List.forall_mem_cons.mpr ⟨lw_p23, List.forall_mem_cons.mpr ⟨lw_p24, List.forall_mem_cons.mpr ⟨lw_p25, List.forall_mem_cons.mpr ⟨lw_p26, List.forall_mem_cons.mpr ⟨lw_p27, List.forall_mem_cons.mpr ⟨lw_p28, List.forall_mem_cons.mpr ⟨lw_p29, List.forall_mem_cons.mpr ⟨lw_p30, List.forall_mem_cons.mpr ⟨lw_p31, fun _ h => absurd h List.not_mem_nil⟩⟩⟩⟩⟩⟩⟩⟩⟩⟩⟩⟩⟩⟩⟩⟩
theorem lw_p32 : lw_okq (⟨"PredictionMakerModel", "greatestShares", "(I)I"⟩, 7) := ⟨⟨by decide +kernel, by decide +kernel⟩, List.mem_of_getElem? (i := 646) (by decide +kernel), List.mem_of_getElem? (i := 847) (by decide +kernel), List.mem_of_getElem? (i := 848) (by decide +kernel)⟩
theorem lw_p33 : lw_okq (⟨"PredictionMakerModel", "priceOf", "(II)I"⟩, 7) := ⟨⟨by decide +kernel, by decide +kernel⟩, List.mem_of_getElem? (i := 646) (by decide +kernel), List.mem_of_getElem? (i := 855) (by decide +kernel), List.mem_of_getElem? (i := 856) (by decide +kernel)⟩
theorem lw_p34 : lw_okq (⟨"PredictionMakerModel", "worth", "(IIZ)I"⟩, 7) := ⟨⟨by decide +kernel, by decide +kernel⟩, List.mem_of_getElem? (i := 646) (by decide +kernel), List.mem_of_getElem? (i := 879) (by decide +kernel), List.mem_of_getElem? (i := 880) (by decide +kernel)⟩
theorem lw_p35 : lw_okq (⟨"PredictionMakerModel", "isTrade", "()Z"⟩, 7) := ⟨⟨by decide +kernel, by decide +kernel⟩, List.mem_of_getElem? (i := 646) (by decide +kernel), List.mem_of_getElem? (i := 908) (by decide +kernel), List.mem_of_getElem? (i := 909) (by decide +kernel)⟩
theorem lw_p36 : lw_okq (⟨"PredictionMakerModel", "takes", "(II)Z"⟩, 7) := ⟨⟨by decide +kernel, by decide +kernel⟩, List.mem_of_getElem? (i := 646) (by decide +kernel), List.mem_of_getElem? (i := 912) (by decide +kernel), List.mem_of_getElem? (i := 913) (by decide +kernel)⟩
theorem lw_p37 : lw_okq (⟨"PredictionMakerModel", "does", "(I)Z"⟩, 7) := ⟨⟨by decide +kernel, by decide +kernel⟩, List.mem_of_getElem? (i := 646) (by decide +kernel), List.mem_of_getElem? (i := 916) (by decide +kernel), List.mem_of_getElem? (i := 917) (by decide +kernel)⟩
def lw_privs_3 : List (MethodName × Nat) := [(⟨"PredictionMakerModel", "greatestShares", "(I)I"⟩, 7), (⟨"PredictionMakerModel", "priceOf", "(II)I"⟩, 7), (⟨"PredictionMakerModel", "worth", "(IIZ)I"⟩, 7), (⟨"PredictionMakerModel", "isTrade", "()Z"⟩, 7), (⟨"PredictionMakerModel", "takes", "(II)Z"⟩, 7), (⟨"PredictionMakerModel", "does", "(I)Z"⟩, 7)]
theorem lw_r3 : ∀ q ∈ lw_privs_3, lw_okq q := List.forall_mem_cons.mpr ⟨lw_p32, List.forall_mem_cons.mpr ⟨lw_p33, List.forall_mem_cons.mpr ⟨lw_p34, List.forall_mem_cons.mpr ⟨lw_p35, List.forall_mem_cons.mpr ⟨lw_p36, List.forall_mem_cons.mpr ⟨lw_p37, fun _ h => absurd h List.not_mem_nil⟩⟩⟩⟩⟩⟩
def lw_privs : List (MethodName × Nat) := lw_privs_1 ++ (lw_privs_2 ++ (lw_privs_3))
def lw_tbl : List Cond := k2_sels lw_privs ++ tables_1
theorem lw_privs_ok : ∀ q ∈ lw_privs, lw_okq q := by
  show ∀ q ∈ lw_privs_1 ++ (lw_privs_2 ++ (lw_privs_3)), lw_okq q
  exact List.forall_mem_append.mpr ⟨lw_r1, List.forall_mem_append.mpr ⟨lw_r2, lw_r3⟩⟩
def R_law : String := "PredictionMakerLaw"
def RX0 : String := "PredictionMaker$Book"
def TX0 : u_T := fun k => match k with
  | 0 => ("PredictionMaker$Book", "orders", "[LPredictionMaker$Order;", true)
  | 1 => ("PredictionMaker$Book", "open", "I", false)
  | _ => ("PredictionMaker$Book", "placed", "I", false)
def tyX0 : Nat → FieldType := fun k => match k with
  | 0 => .array (.object "PredictionMaker$Order")
  | 1 => .int
  | _ => .int
abbrev wsX00 : List Cond := u_ws RX0 TX0 3
theorem nmX0 : ∀ a, a < 3 → ∀ b, b < 3 → a ≠ b → (TX0 a).2.1 ≠ (TX0 b).2.1 := by decide +kernel
theorem tyX0_ok : ∀ k, k < 3 → parseFieldDescriptor (TX0 k).2.2.1 = some (tyX0 k) := by decide +kernel
abbrev cX0_init : ByteArray := prog_2_method_1_code
def yX0_init : MethodName := ⟨RX0, "<init>", "()V"⟩
abbrev cX0_copyFrom : ByteArray := prog_2_method_2_code
def yX0_copyFrom : MethodName := ⟨RX0, "copyFrom", "(LPredictionMaker$Book;)V"⟩
abbrev cX0_insert : ByteArray := prog_2_method_3_code
def yX0_insert : MethodName := ⟨RX0, "insert", "(IIIII)I"⟩
abbrev cX0_positionOf : ByteArray := prog_2_method_4_code
def yX0_positionOf : MethodName := ⟨RX0, "positionOf", "(I)I"⟩
abbrev cX0_remove : ByteArray := prog_2_method_5_code
def yX0_remove : MethodName := ⟨RX0, "remove", "(I)V"⟩
abbrev cX0_removeAll : ByteArray := prog_2_method_6_code
def yX0_removeAll : MethodName := ⟨RX0, "removeAll", "(I)V"⟩
abbrev cX0_openOf : ByteArray := prog_2_method_7_code
def yX0_openOf : MethodName := ⟨RX0, "openOf", "(I)I"⟩
def RX1 : String := "PredictionMaker$Exchange"
def TX1 : u_T := fun k => match k with
  | 0 => ("PredictionMaker$Exchange", "balances", "[I", true)
  | 1 => ("PredictionMaker$Exchange", "markets", "[LPredictionMaker$Market;", true)
  | 2 => ("PredictionMaker$Exchange", "book", "LPredictionMaker$Book;", true)
  | 3 => ("PredictionMaker$Exchange", "history", "LPredictionMaker$History;", true)
  | 4 => ("PredictionMaker$Exchange", "marketCount", "I", false)
  | _ => ("PredictionMaker$Exchange", "time", "I", false)
def tyX1 : Nat → FieldType := fun k => match k with
  | 0 => .array .int
  | 1 => .array (.object "PredictionMaker$Market")
  | 2 => .object "PredictionMaker$Book"
  | 3 => .object "PredictionMaker$History"
  | 4 => .int
  | _ => .int
abbrev wsX10 : List Cond := u_ws RX1 TX1 6
theorem nmX1 : ∀ a, a < 6 → ∀ b, b < 6 → a ≠ b → (TX1 a).2.1 ≠ (TX1 b).2.1 := by decide +kernel
theorem tyX1_ok : ∀ k, k < 6 → parseFieldDescriptor (TX1 k).2.2.1 = some (tyX1 k) := by decide +kernel
abbrev cX1_init : ByteArray := prog_3_method_1_code
def yX1_init : MethodName := ⟨RX1, "<init>", "()V"⟩
abbrev cX1_copyFrom : ByteArray := prog_3_method_2_code
def yX1_copyFrom : MethodName := ⟨RX1, "copyFrom", "(LPredictionMaker$Exchange;)V"⟩
abbrev cX1_marketAt : ByteArray := prog_3_method_3_code
def yX1_marketAt : MethodName := ⟨RX1, "marketAt", "(I)LPredictionMaker$Market;"⟩
abbrev cX1_marketWith : ByteArray := prog_3_method_4_code
def yX1_marketWith : MethodName := ⟨RX1, "marketWith", "(II)LPredictionMaker$Market;"⟩
abbrev cX1_addMarket : ByteArray := prog_3_method_5_code
def yX1_addMarket : MethodName := ⟨RX1, "addMarket", "(IIIII)I"⟩
abbrev cX1_exchange : ByteArray := prog_3_method_6_code
def yX1_exchange : MethodName := ⟨RX1, "exchange", "(LPredictionMaker$Market;IIII)I"⟩
abbrev cX1_exchangeSet : ByteArray := prog_3_method_7_code
def yX1_exchangeSet : MethodName := ⟨RX1, "exchangeSet", "(LPredictionMaker$Market;III)V"⟩
abbrev cX1_executeAllOrders : ByteArray := prog_3_method_8_code
def yX1_executeAllOrders : MethodName := ⟨RX1, "executeAllOrders", "()V"⟩
abbrev cX1_executeOrders : ByteArray := prog_3_method_9_code
def yX1_executeOrders : MethodName := ⟨RX1, "executeOrders", "(LPredictionMaker$Market;)V"⟩
abbrev cX1_firstExecutable : ByteArray := prog_3_method_10_code
def yX1_firstExecutable : MethodName := ⟨RX1, "firstExecutable", "(LPredictionMaker$Market;)I"⟩
abbrev cX1_obstacleOf : ByteArray := prog_3_method_11_code
def yX1_obstacleOf : MethodName := ⟨RX1, "obstacleOf", "(LPredictionMaker$Order;)I"⟩
abbrev cX1_obstacle : ByteArray := prog_3_method_12_code
def yX1_obstacle : MethodName := ⟨RX1, "obstacle", "(LPredictionMaker$Order;II)I"⟩
abbrev cX1_passTick : ByteArray := prog_3_method_13_code
def yX1_passTick : MethodName := ⟨RX1, "passTick", "()V"⟩
abbrev cX1_waitsForCondition : ByteArray := prog_3_method_14_code
def yX1_waitsForCondition : MethodName := ⟨RX1, "waitsForCondition", "(LPredictionMaker$Market;)Z"⟩
abbrev cX1_payWinners : ByteArray := prog_3_method_15_code
def yX1_payWinners : MethodName := ⟨RX1, "payWinners", "(LPredictionMaker$Market;I)I"⟩
abbrev cX1_makeVoid : ByteArray := prog_3_method_16_code
def yX1_makeVoid : MethodName := ⟨RX1, "makeVoid", "(LPredictionMaker$Market;I)V"⟩
abbrev cX1_voidFollowers : ByteArray := prog_3_method_17_code
def yX1_voidFollowers : MethodName := ⟨RX1, "voidFollowers", "()I"⟩
abbrev cX1_reasonByCondition : ByteArray := prog_3_method_18_code
def yX1_reasonByCondition : MethodName := ⟨RX1, "reasonByCondition", "(LPredictionMaker$Market;)I"⟩
abbrev cX1_worthOf : ByteArray := prog_3_method_19_code
def yX1_worthOf : MethodName := ⟨RX1, "worthOf", "(I)I"⟩
abbrev cX1_mostCoinsOf : ByteArray := prog_3_method_20_code
def yX1_mostCoinsOf : MethodName := ⟨RX1, "mostCoinsOf", "(I)I"⟩
abbrev cX1_openMarkets : ByteArray := prog_3_method_21_code
def yX1_openMarkets : MethodName := ⟨RX1, "openMarkets", "()I"⟩
abbrev cX1_sumOfBalances : ByteArray := prog_3_method_22_code
def yX1_sumOfBalances : MethodName := ⟨RX1, "sumOfBalances", "()I"⟩
abbrev cX1_sumOfAccounts : ByteArray := prog_3_method_23_code
def yX1_sumOfAccounts : MethodName := ⟨RX1, "sumOfAccounts", "()I"⟩
def RX2 : String := "PredictionMaker$History"
def TX2 : u_T := fun k => match k with
  | 0 => ("PredictionMaker$History", "rows", "[[I", true)
  | _ => ("PredictionMaker$History", "total", "I", false)
def tyX2 : Nat → FieldType := fun k => match k with
  | 0 => .array (.array .int)
  | _ => .int
abbrev wsX20 : List Cond := u_ws RX2 TX2 2
theorem nmX2 : ∀ a, a < 2 → ∀ b, b < 2 → a ≠ b → (TX2 a).2.1 ≠ (TX2 b).2.1 := by decide +kernel
theorem tyX2_ok : ∀ k, k < 2 → parseFieldDescriptor (TX2 k).2.2.1 = some (tyX2 k) := by decide +kernel
abbrev cX2_init : ByteArray := prog_4_method_1_code
def yX2_init : MethodName := ⟨RX2, "<init>", "()V"⟩
abbrev cX2_copyFrom : ByteArray := prog_4_method_2_code
def yX2_copyFrom : MethodName := ⟨RX2, "copyFrom", "(LPredictionMaker$History;)V"⟩
abbrev cX2_add : ByteArray := prog_4_method_3_code
def yX2_add : MethodName := ⟨RX2, "add", "(IIIIII)V"⟩
abbrev cX2_keeps : ByteArray := prog_4_method_4_code
def yX2_keeps : MethodName := ⟨RX2, "keeps", "(I)Z"⟩
abbrev cX2_partOf : ByteArray := prog_4_method_5_code
def yX2_partOf : MethodName := ⟨RX2, "partOf", "(II)I"⟩
def RX3 : String := "PredictionMaker$Market"
def TX3 : u_T := fun k => match k with
  | 0 => ("PredictionMaker$Market", "number", "I", true)
  | 1 => ("PredictionMaker$Market", "shares", "[I", true)
  | 2 => ("PredictionMaker$Market", "held", "[[I", true)
  | 3 => ("PredictionMaker$Market", "paidBy", "[I", true)
  | 4 => ("PredictionMaker$Market", "liquidity", "I", false)
  | 5 => ("PredictionMaker$Market", "outcomes", "I", false)
  | 6 => ("PredictionMaker$Market", "expiry", "I", false)
  | 7 => ("PredictionMaker$Market", "conditionMarket", "I", false)
  | 8 => ("PredictionMaker$Market", "conditionOutcome", "I", false)
  | 9 => ("PredictionMaker$Market", "state", "I", false)
  | 10 => ("PredictionMaker$Market", "winner", "I", false)
  | 11 => ("PredictionMaker$Market", "reason", "I", false)
  | 12 => ("PredictionMaker$Market", "account", "I", false)
  | 13 => ("PredictionMaker$Market", "active", "I", false)
  | 14 => ("PredictionMaker$Market", "activeSum", "I", false)
  | _ => ("PredictionMaker$Market", "activeSquares", "I", false)
def tyX3 : Nat → FieldType := fun k => match k with
  | 0 => .int
  | 1 => .array .int
  | 2 => .array (.array .int)
  | 3 => .array .int
  | 4 => .int
  | 5 => .int
  | 6 => .int
  | 7 => .int
  | 8 => .int
  | 9 => .int
  | 10 => .int
  | 11 => .int
  | 12 => .int
  | 13 => .int
  | 14 => .int
  | _ => .int
abbrev wsX30 : List Cond := u_ws RX3 TX3 16
theorem nmX3 : ∀ a, a < 16 → ∀ b, b < 16 → a ≠ b → (TX3 a).2.1 ≠ (TX3 b).2.1 := by decide +kernel
theorem tyX3_ok : ∀ k, k < 16 → parseFieldDescriptor (TX3 k).2.2.1 = some (tyX3 k) := by decide +kernel
abbrev cX3_init : ByteArray := prog_5_method_1_code
def yX3_init : MethodName := ⟨RX3, "<init>", "(I)V"⟩
abbrev cX3_copyFrom : ByteArray := prog_5_method_2_code
def yX3_copyFrom : MethodName := ⟨RX3, "copyFrom", "(LPredictionMaker$Market;)V"⟩
abbrev cX3_isLive : ByteArray := prog_5_method_3_code
def yX3_isLive : MethodName := ⟨RX3, "isLive", "()Z"⟩
abbrev cX3_property : ByteArray := prog_5_method_4_code
def yX3_property : MethodName := ⟨RX3, "property", "(I)I"⟩
abbrev cX3_lossBound : ByteArray := prog_5_method_5_code
def yX3_lossBound : MethodName := ⟨RX3, "lossBound", "()I"⟩
abbrev cX3_mostShares : ByteArray := prog_5_method_6_code
def yX3_mostShares : MethodName := ⟨RX3, "mostShares", "()I"⟩
abbrev cX3_measure : ByteArray := prog_5_method_7_code
def yX3_measure : MethodName := ⟨RX3, "measure", "()V"⟩
abbrev cX3_level : ByteArray := prog_5_method_8_code
def yX3_level : MethodName := ⟨RX3, "level", "()I"⟩
abbrev cX3_costOf : ByteArray := prog_5_method_9_code
def yX3_costOf : MethodName := ⟨RX3, "costOf", "(II)I"⟩
abbrev cX3_costOfSet : ByteArray := prog_5_method_10_code
def yX3_costOfSet : MethodName := ⟨RX3, "costOfSet", "(II)I"⟩
abbrev cX3_addSet : ByteArray := prog_5_method_11_code
def yX3_addSet : MethodName := ⟨RX3, "addSet", "(II)V"⟩
abbrev cX3_priceWith : ByteArray := prog_5_method_12_code
def yX3_priceWith : MethodName := ⟨RX3, "priceWith", "(II)I"⟩
abbrev cX3_canHave : ByteArray := prog_5_method_13_code
def yX3_canHave : MethodName := ⟨RX3, "canHave", "(II)Z"⟩
abbrev cX3_canHaveSet : ByteArray := prog_5_method_14_code
def yX3_canHaveSet : MethodName := ⟨RX3, "canHaveSet", "(II)Z"⟩
abbrev cX3_hasSet : ByteArray := prog_5_method_15_code
def yX3_hasSet : MethodName := ⟨RX3, "hasSet", "(I)Z"⟩
abbrev cX3_worthOf : ByteArray := prog_5_method_16_code
def yX3_worthOf : MethodName := ⟨RX3, "worthOf", "(I)I"⟩
abbrev cX3_mostHeldBy : ByteArray := prog_5_method_17_code
def yX3_mostHeldBy : MethodName := ⟨RX3, "mostHeldBy", "(I)I"⟩
def RX4 : String := "PredictionMaker$Order"
def TX4 : u_T := fun k => match k with
  | 0 => ("PredictionMaker$Order", "number", "I", false)
  | 1 => ("PredictionMaker$Order", "trader", "I", false)
  | 2 => ("PredictionMaker$Order", "market", "I", false)
  | 3 => ("PredictionMaker$Order", "outcome", "I", false)
  | 4 => ("PredictionMaker$Order", "left", "I", false)
  | _ => ("PredictionMaker$Order", "limit", "I", false)
def tyX4 : Nat → FieldType := fun k => match k with
  | 0 => .int
  | 1 => .int
  | 2 => .int
  | 3 => .int
  | 4 => .int
  | _ => .int
abbrev wsX40 : List Cond := u_ws RX4 TX4 6
theorem nmX4 : ∀ a, a < 6 → ∀ b, b < 6 → a ≠ b → (TX4 a).2.1 ≠ (TX4 b).2.1 := by decide +kernel
theorem tyX4_ok : ∀ k, k < 6 → parseFieldDescriptor (TX4 k).2.2.1 = some (tyX4 k) := by decide +kernel
abbrev cX4_init : ByteArray := prog_6_method_1_code
def yX4_init : MethodName := ⟨RX4, "<init>", "()V"⟩
abbrev cX4_copyFrom : ByteArray := prog_6_method_2_code
def yX4_copyFrom : MethodName := ⟨RX4, "copyFrom", "(LPredictionMaker$Order;)V"⟩
def RX5 : String := "PredictionMaker$TradeText"
def TX5 : u_T := fun k => match k with
  | 0 => ("PredictionMaker$TradeText", "signs", "[C", true)
  | 1 => ("PredictionMaker$TradeText", "length", "I", false)
  | 2 => ("PredictionMaker$TradeText", "trader", "I", false)
  | 3 => ("PredictionMaker$TradeText", "selling", "Z", false)
  | 4 => ("PredictionMaker$TradeText", "number", "I", false)
  | 5 => ("PredictionMaker$TradeText", "market", "I", false)
  | _ => ("PredictionMaker$TradeText", "outcome", "I", false)
def tyX5 : Nat → FieldType := fun k => match k with
  | 0 => .array .char
  | 1 => .int
  | 2 => .int
  | 3 => .boolean
  | 4 => .int
  | 5 => .int
  | _ => .int
abbrev wsX50 : List Cond := u_ws RX5 TX5 7
theorem nmX5 : ∀ a, a < 7 → ∀ b, b < 7 → a ≠ b → (TX5 a).2.1 ≠ (TX5 b).2.1 := by decide +kernel
theorem tyX5_ok : ∀ k, k < 7 → parseFieldDescriptor (TX5 k).2.2.1 = some (tyX5 k) := by decide +kernel
abbrev cX5_init : ByteArray := prog_7_method_1_code
def yX5_init : MethodName := ⟨RX5, "<init>", "()V"⟩
abbrev cX5_add : ByteArray := prog_7_method_2_code
def yX5_add : MethodName := ⟨RX5, "add", "(CI)I"⟩
abbrev cX5_errorOffset : ByteArray := prog_7_method_3_code
def yX5_errorOffset : MethodName := ⟨RX5, "errorOffset", "()I"⟩
abbrev cX5_stepAfter : ByteArray := prog_7_method_4_code
def yX5_stepAfter : MethodName := ⟨RX5, "stepAfter", "(IC)I"⟩
abbrev cX5_readTrade : ByteArray := prog_7_method_5_code
def yX5_readTrade : MethodName := ⟨RX5, "readTrade", "(I)I"⟩
abbrev cX5_note : ByteArray := prog_7_method_6_code
def yX5_note : MethodName := ⟨RX5, "note", "(IC)V"⟩
def RX6 : String := "PredictionMaker"
def TX6 : u_T := fun k => match k with
  | 0 => ("PredictionMaker", "now", "LPredictionMaker$Exchange;", true)
  | 1 => ("PredictionMaker", "saved", "LPredictionMaker$Exchange;", true)
  | 2 => ("PredictionMaker", "text", "LPredictionMaker$TradeText;", true)
  | _ => ("PredictionMaker", "hasSnapshot", "Z", false)
def tyX6 : Nat → FieldType := fun k => match k with
  | 0 => .object "PredictionMaker$Exchange"
  | 1 => .object "PredictionMaker$Exchange"
  | 2 => .object "PredictionMaker$TradeText"
  | _ => .boolean
abbrev wsX60 : List Cond := u_ws RX6 TX6 4
theorem nmX6 : ∀ a, a < 4 → ∀ b, b < 4 → a ≠ b → (TX6 a).2.1 ≠ (TX6 b).2.1 := by decide +kernel
theorem tyX6_ok : ∀ k, k < 4 → parseFieldDescriptor (TX6 k).2.2.1 = some (tyX6 k) := by decide +kernel
abbrev cX6_init : ByteArray := prog_1_method_1_code
def yX6_init : MethodName := ⟨RX6, "<init>", "()V"⟩
abbrev cX6_openMarket : ByteArray := prog_1_method_2_code
def yX6_openMarket : MethodName := ⟨RX6, "openMarket", "(III)I"⟩
abbrev cX6_openLinked : ByteArray := prog_1_method_3_code
def yX6_openLinked : MethodName := ⟨RX6, "openLinked", "(IIIII)I"⟩
abbrev cX6_deposit : ByteArray := prog_1_method_4_code
def yX6_deposit : MethodName := ⟨RX6, "deposit", "(II)I"⟩
abbrev cX6_withdraw : ByteArray := prog_1_method_5_code
def yX6_withdraw : MethodName := ⟨RX6, "withdraw", "(II)I"⟩
abbrev cX6_cost : ByteArray := prog_1_method_6_code
def yX6_cost : MethodName := ⟨RX6, "cost", "(III)I"⟩
abbrev cX6_buy : ByteArray := prog_1_method_7_code
def yX6_buy : MethodName := ⟨RX6, "buy", "(IIII)I"⟩
abbrev cX6_buySet : ByteArray := prog_1_method_8_code
def yX6_buySet : MethodName := ⟨RX6, "buySet", "(IIII)I"⟩
abbrev cX6_sell : ByteArray := prog_1_method_9_code
def yX6_sell : MethodName := ⟨RX6, "sell", "(IIII)I"⟩
abbrev cX6_place : ByteArray := prog_1_method_10_code
def yX6_place : MethodName := ⟨RX6, "place", "(IIIII)I"⟩
abbrev cX6_cancel : ByteArray := prog_1_method_11_code
def yX6_cancel : MethodName := ⟨RX6, "cancel", "(I)I"⟩
abbrev cX6_order : ByteArray := prog_1_method_12_code
def yX6_order : MethodName := ⟨RX6, "order", "(II)I"⟩
abbrev cX6_waiting : ByteArray := prog_1_method_13_code
def yX6_waiting : MethodName := ⟨RX6, "waiting", "(II)I"⟩
abbrev cX6_tick : ByteArray := prog_1_method_14_code
def yX6_tick : MethodName := ⟨RX6, "tick", "(I)I"⟩
abbrev cX6_settle : ByteArray := prog_1_method_15_code
def yX6_settle : MethodName := ⟨RX6, "settle", "(II)I"⟩
abbrev cX6_cancelMarket : ByteArray := prog_1_method_16_code
def yX6_cancelMarket : MethodName := ⟨RX6, "cancelMarket", "(I)I"⟩
abbrev cX6_market : ByteArray := prog_1_method_17_code
def yX6_market : MethodName := ⟨RX6, "market", "(II)I"⟩
abbrev cX6_price : ByteArray := prog_1_method_18_code
def yX6_price : MethodName := ⟨RX6, "price", "(II)I"⟩
abbrev cX6_sharesFor : ByteArray := prog_1_method_19_code
def yX6_sharesFor : MethodName := ⟨RX6, "sharesFor", "(III)I"⟩
abbrev cX6_voidReason : ByteArray := prog_1_method_20_code
def yX6_voidReason : MethodName := ⟨RX6, "voidReason", "(II)I"⟩
abbrev cX6_shares : ByteArray := prog_1_method_21_code
def yX6_shares : MethodName := ⟨RX6, "shares", "(II)I"⟩
abbrev cX6_holding : ByteArray := prog_1_method_22_code
def yX6_holding : MethodName := ⟨RX6, "holding", "(III)I"⟩
abbrev cX6_trader : ByteArray := prog_1_method_23_code
def yX6_trader : MethodName := ⟨RX6, "trader", "(II)I"⟩
abbrev cX6_paid : ByteArray := prog_1_method_24_code
def yX6_paid : MethodName := ⟨RX6, "paid", "(II)I"⟩
abbrev cX6_affordable : ByteArray := prog_1_method_25_code
def yX6_affordable : MethodName := ⟨RX6, "affordable", "(III)I"⟩
abbrev cX6_history : ByteArray := prog_1_method_26_code
def yX6_history : MethodName := ⟨RX6, "history", "(II)I"⟩
abbrev cX6_count : ByteArray := prog_1_method_27_code
def yX6_count : MethodName := ⟨RX6, "count", "(I)I"⟩
abbrev cX6_append : ByteArray := prog_1_method_28_code
def yX6_append : MethodName := ⟨RX6, "append", "(II)I"⟩
abbrev cX6_trade : ByteArray := prog_1_method_29_code
def yX6_trade : MethodName := ⟨RX6, "trade", "()I"⟩
abbrev cX6_save : ByteArray := prog_1_method_30_code
def yX6_save : MethodName := ⟨RX6, "save", "()I"⟩
abbrev cX6_restore : ByteArray := prog_1_method_31_code
def yX6_restore : MethodName := ⟨RX6, "restore", "()I"⟩
abbrev cX6_canOpen : ByteArray := prog_1_method_32_code
def yX6_canOpen : MethodName := ⟨RX6, "canOpen", "(III)Z"⟩
abbrev cX6_isTrader : ByteArray := prog_1_method_33_code
def yX6_isTrader : MethodName := ⟨RX6, "isTrader", "(I)Z"⟩
abbrev cX6_isRefusal : ByteArray := prog_1_method_34_code
def yX6_isRefusal : MethodName := ⟨RX6, "isRefusal", "(I)Z"⟩
abbrev cX6_isIn : ByteArray := prog_1_method_35_code
def yX6_isIn : MethodName := ⟨RX6, "isIn", "(II)Z"⟩
abbrev cX6_isBetween : ByteArray := prog_1_method_36_code
def yX6_isBetween : MethodName := ⟨RX6, "isBetween", "(III)Z"⟩
def RX7 : String := "PredictionMakerModel"
def TX7 : u_T := fun k => match k with
  | 0 => ("PredictionMakerModel", "now", "[I", true)
  | 1 => ("PredictionMakerModel", "saved", "[I", true)
  | 2 => ("PredictionMakerModel", "isSaved", "Z", false)
  | 3 => ("PredictionMakerModel", "text", "[I", true)
  | 4 => ("PredictionMakerModel", "length", "I", false)
  | 5 => ("PredictionMakerModel", "at", "I", false)
  | _ => ("PredictionMakerModel", "voids", "I", false)
def tyX7 : Nat → FieldType := fun k => match k with
  | 0 => .array .int
  | 1 => .array .int
  | 2 => .boolean
  | 3 => .array .int
  | 4 => .int
  | 5 => .int
  | _ => .int
abbrev wsX70 : List Cond := u_ws RX7 TX7 7
theorem nmX7 : ∀ a, a < 7 → ∀ b, b < 7 → a ≠ b → (TX7 a).2.1 ≠ (TX7 b).2.1 := by decide +kernel
theorem tyX7_ok : ∀ k, k < 7 → parseFieldDescriptor (TX7 k).2.2.1 = some (tyX7 k) := by decide +kernel
abbrev cX7_init : ByteArray := prog_9_method_1_code
def yX7_init : MethodName := ⟨RX7, "<init>", "()V"⟩
abbrev cX7_in : ByteArray := prog_9_method_2_code
def yX7_in : MethodName := ⟨RX7, "in", "(III)Z"⟩
abbrev cX7_marketAt : ByteArray := prog_9_method_3_code
def yX7_marketAt : MethodName := ⟨RX7, "marketAt", "(I)I"⟩
abbrev cX7_orderAt : ByteArray := prog_9_method_4_code
def yX7_orderAt : MethodName := ⟨RX7, "orderAt", "(I)I"⟩
abbrev cX7_of : ByteArray := prog_9_method_5_code
def yX7_of : MethodName := ⟨RX7, "of", "(II)I"⟩
abbrev cX7_isMarket : ByteArray := prog_9_method_6_code
def yX7_isMarket : MethodName := ⟨RX7, "isMarket", "(I)Z"⟩
abbrev cX7_isOutcome : ByteArray := prog_9_method_7_code
def yX7_isOutcome : MethodName := ⟨RX7, "isOutcome", "(II)Z"⟩
abbrev cX7_isTrader : ByteArray := prog_9_method_8_code
def yX7_isTrader : MethodName := ⟨RX7, "isTrader", "(I)Z"⟩
abbrev cX7_isAhead : ByteArray := prog_9_method_9_code
def yX7_isAhead : MethodName := ⟨RX7, "isAhead", "(III)Z"⟩
abbrev cX7_ranked : ByteArray := prog_9_method_10_code
def yX7_ranked : MethodName := ⟨RX7, "ranked", "(II)I"⟩
abbrev cX7_active : ByteArray := prog_9_method_11_code
def yX7_active : MethodName := ⟨RX7, "active", "(I)I"⟩
abbrev cX7_level : ByteArray := prog_9_method_12_code
def yX7_level : MethodName := ⟨RX7, "level", "(I)I"⟩
abbrev cX7_priceOf : ByteArray := prog_9_method_13_code
def yX7_priceOf : MethodName := ⟨RX7, "priceOf", "(II)I"⟩
abbrev cX7_costOf : ByteArray := prog_9_method_14_code
def yX7_costOf : MethodName := ⟨RX7, "costOf", "(III)I"⟩
abbrev cX7_isFine : ByteArray := prog_9_method_15_code
def yX7_isFine : MethodName := ⟨RX7, "isFine", "(III)Z"⟩
abbrev cX7_opens : ByteArray := prog_9_method_16_code
def yX7_opens : MethodName := ⟨RX7, "opens", "(IIIII)I"⟩
abbrev cX7_openMarket : ByteArray := prog_9_method_17_code
def yX7_openMarket : MethodName := ⟨RX7, "openMarket", "(III)I"⟩
abbrev cX7_openLinked : ByteArray := prog_9_method_18_code
def yX7_openLinked : MethodName := ⟨RX7, "openLinked", "(IIIII)I"⟩
abbrev cX7_deposit : ByteArray := prog_9_method_19_code
def yX7_deposit : MethodName := ⟨RX7, "deposit", "(II)I"⟩
abbrev cX7_withdraw : ByteArray := prog_9_method_20_code
def yX7_withdraw : MethodName := ⟨RX7, "withdraw", "(II)I"⟩
abbrev cX7_cost : ByteArray := prog_9_method_21_code
def yX7_cost : MethodName := ⟨RX7, "cost", "(III)I"⟩
abbrev cX7_trades : ByteArray := prog_9_method_22_code
def yX7_trades : MethodName := ⟨RX7, "trades", "(IIIII)I"⟩
abbrev cX7_buy : ByteArray := prog_9_method_23_code
def yX7_buy : MethodName := ⟨RX7, "buy", "(IIII)I"⟩
abbrev cX7_has : ByteArray := prog_9_method_24_code
def yX7_has : MethodName := ⟨RX7, "has", "(II)Z"⟩
abbrev cX7_grows : ByteArray := prog_9_method_25_code
def yX7_grows : MethodName := ⟨RX7, "grows", "(III)V"⟩
abbrev cX7_buySet : ByteArray := prog_9_method_26_code
def yX7_buySet : MethodName := ⟨RX7, "buySet", "(IIII)I"⟩
abbrev cX7_sell : ByteArray := prog_9_method_27_code
def yX7_sell : MethodName := ⟨RX7, "sell", "(IIII)I"⟩
abbrev cX7_bar : ByteArray := prog_9_method_28_code
def yX7_bar : MethodName := ⟨RX7, "bar", "(I)I"⟩
abbrev cX7_isTriedAhead : ByteArray := prog_9_method_29_code
def yX7_isTriedAhead : MethodName := ⟨RX7, "isTriedAhead", "(II)Z"⟩
abbrev cX7_removes : ByteArray := prog_9_method_30_code
def yX7_removes : MethodName := ⟨RX7, "removes", "(I)V"⟩
abbrev cX7_executes : ByteArray := prog_9_method_31_code
def yX7_executes : MethodName := ⟨RX7, "executes", "(I)V"⟩
abbrev cX7_place : ByteArray := prog_9_method_32_code
def yX7_place : MethodName := ⟨RX7, "place", "(IIIII)I"⟩
abbrev cX7_find : ByteArray := prog_9_method_33_code
def yX7_find : MethodName := ⟨RX7, "find", "(I)I"⟩
abbrev cX7_cancel : ByteArray := prog_9_method_34_code
def yX7_cancel : MethodName := ⟨RX7, "cancel", "(I)I"⟩
abbrev cX7_order : ByteArray := prog_9_method_35_code
def yX7_order : MethodName := ⟨RX7, "order", "(II)I"⟩
abbrev cX7_waiting : ByteArray := prog_9_method_36_code
def yX7_waiting : MethodName := ⟨RX7, "waiting", "(II)I"⟩
abbrev cX7_cancelsAll : ByteArray := prog_9_method_37_code
def yX7_cancelsAll : MethodName := ⟨RX7, "cancelsAll", "(I)V"⟩
abbrev cX7_voids : ByteArray := prog_9_method_38_code
def yX7_voids : MethodName := ⟨RX7, "voids", "(II)V"⟩
abbrev cX7_earliest : ByteArray := prog_9_method_39_code
def yX7_earliest : MethodName := ⟨RX7, "earliest", "(II)I"⟩
abbrev cX7_ticks : ByteArray := prog_9_method_40_code
def yX7_ticks : MethodName := ⟨RX7, "ticks", "()V"⟩
abbrev cX7_tick : ByteArray := prog_9_method_41_code
def yX7_tick : MethodName := ⟨RX7, "tick", "(I)I"⟩
abbrev cX7_settle : ByteArray := prog_9_method_42_code
def yX7_settle : MethodName := ⟨RX7, "settle", "(II)I"⟩
abbrev cX7_cancelMarket : ByteArray := prog_9_method_43_code
def yX7_cancelMarket : MethodName := ⟨RX7, "cancelMarket", "(I)I"⟩
abbrev cX7_greatestShares : ByteArray := prog_9_method_44_code
def yX7_greatestShares : MethodName := ⟨RX7, "greatestShares", "(I)I"⟩
abbrev cX7_market : ByteArray := prog_9_method_45_code
def yX7_market : MethodName := ⟨RX7, "market", "(II)I"⟩
abbrev cX7_price : ByteArray := prog_9_method_46_code
def yX7_price : MethodName := ⟨RX7, "price", "(II)I"⟩
abbrev cX7_sharesFor : ByteArray := prog_9_method_47_code
def yX7_sharesFor : MethodName := ⟨RX7, "sharesFor", "(III)I"⟩
abbrev cX7_voidReason : ByteArray := prog_9_method_48_code
def yX7_voidReason : MethodName := ⟨RX7, "voidReason", "(II)I"⟩
abbrev cX7_shares : ByteArray := prog_9_method_49_code
def yX7_shares : MethodName := ⟨RX7, "shares", "(II)I"⟩
abbrev cX7_holding : ByteArray := prog_9_method_50_code
def yX7_holding : MethodName := ⟨RX7, "holding", "(III)I"⟩
abbrev cX7_worth : ByteArray := prog_9_method_51_code
def yX7_worth : MethodName := ⟨RX7, "worth", "(IIZ)I"⟩
abbrev cX7_trader : ByteArray := prog_9_method_52_code
def yX7_trader : MethodName := ⟨RX7, "trader", "(II)I"⟩
abbrev cX7_paid : ByteArray := prog_9_method_53_code
def yX7_paid : MethodName := ⟨RX7, "paid", "(II)I"⟩
abbrev cX7_affordable : ByteArray := prog_9_method_54_code
def yX7_affordable : MethodName := ⟨RX7, "affordable", "(III)I"⟩
abbrev cX7_history : ByteArray := prog_9_method_55_code
def yX7_history : MethodName := ⟨RX7, "history", "(II)I"⟩
abbrev cX7_count : ByteArray := prog_9_method_56_code
def yX7_count : MethodName := ⟨RX7, "count", "(I)I"⟩
abbrev cX7_append : ByteArray := prog_9_method_57_code
def yX7_append : MethodName := ⟨RX7, "append", "(II)I"⟩
abbrev cX7_takes : ByteArray := prog_9_method_58_code
def yX7_takes : MethodName := ⟨RX7, "takes", "(II)Z"⟩
abbrev cX7_isTrade : ByteArray := prog_9_method_59_code
def yX7_isTrade : MethodName := ⟨RX7, "isTrade", "()Z"⟩
abbrev cX7_does : ByteArray := prog_9_method_60_code
def yX7_does : MethodName := ⟨RX7, "does", "(I)Z"⟩
abbrev cX7_trade : ByteArray := prog_9_method_61_code
def yX7_trade : MethodName := ⟨RX7, "trade", "()I"⟩
abbrev cX7_save : ByteArray := prog_9_method_62_code
def yX7_save : MethodName := ⟨RX7, "save", "()I"⟩
abbrev cX7_restore : ByteArray := prog_9_method_63_code
def yX7_restore : MethodName := ⟨RX7, "restore", "()I"⟩
def RJ9 : String := "java/lang/Math"
def TJ9 : u_T := fun k => match k with
  | _ => ("", "", "", false)
def tyJ9 : Nat → FieldType := fun k => match k with
  | _ => .int
abbrev wsJ90 : List Cond := u_ws RJ9 TJ9 0
theorem nmJ9 : ∀ a, a < 0 → ∀ b, b < 0 → a ≠ b → (TJ9 a).2.1 ≠ (TJ9 b).2.1 := by decide +kernel
theorem tyJ9_ok : ∀ k, k < 0 → parseFieldDescriptor (TJ9 k).2.2.1 = some (tyJ9 k) := by decide +kernel
abbrev cJ9_floorMod_7cf53 : ByteArray := prog_10_method_50_code
def yJ9_floorMod_7cf53 : MethodName := ⟨RJ9, "floorMod", "(II)I"⟩
abbrev cJ9_max_7cf53 : ByteArray := prog_10_method_65_code
def yJ9_max_7cf53 : MethodName := ⟨RJ9, "max", "(II)I"⟩
abbrev cJ9_min_7cf53 : ByteArray := prog_10_method_69_code
def yJ9_min_7cf53 : MethodName := ⟨RJ9, "min", "(II)I"⟩
def RJ10 : String := "java/lang/System"
def TJ10 : u_T := fun k => match k with
  | _ => ("", "", "", false)
def tyJ10 : Nat → FieldType := fun k => match k with
  | _ => .int
abbrev wsJ100 : List Cond := u_ws RJ10 TJ10 0
theorem nmJ10 : ∀ a, a < 0 → ∀ b, b < 0 → a ≠ b → (TJ10 a).2.1 ≠ (TJ10 b).2.1 := by decide +kernel
theorem tyJ10_ok : ∀ k, k < 0 → parseFieldDescriptor (TJ10 k).2.2.1 = some (tyJ10 k) := by decide +kernel
def RL : String := "PredictionMakerLaw"
abbrev cL_law : ByteArray := code
def yL_law : MethodName := ⟨RL, "law", "([I)Z"⟩
abbrev vwCl : List vw_C := [(RX0, TX0, 3), (RX1, TX1, 6), (RX2, TX2, 2), (RX3, TX3, 16), (RX4, TX4, 6), (RX5, TX5, 7), (RX6, TX6, 4), (RX7, TX7, 7)]
