-- ===== PART A: goes FIRST, ahead of the names: the tables' words, and 'selects' of the private methods out of them =====
/-- a private method of a class that the tables say can be made, by its rows of tables_1 -/
def lw_okq (q : MethodName × Nat) : Prop := (q.1.cls ≠ "java/lang/invoke/MethodHandle" ∧ q.1.cls ≠ "java/lang/invoke/VarHandle") ∧ Cond.instantiable q.1.cls q.2 ∈ tables_1 ∧ Cond.privateMethod q.1 ∈ tables_1 ∧ Cond.instanceMethod q.1 ∈ tables_1
theorem lw_p0 : lw_okq (⟨"MasksAtDawn", "isPerson", "(I)Z"⟩, 10) := ⟨⟨by decide +kernel, by decide +kernel⟩, List.mem_of_getElem? (i := 14) (by decide +kernel), List.mem_of_getElem? (i := 349) (by decide +kernel), List.mem_of_getElem? (i := 350) (by decide +kernel)⟩
theorem lw_p1 : lw_okq (⟨"MasksAtDawn", "isKind", "(I)Z"⟩, 10) := ⟨⟨by decide +kernel, by decide +kernel⟩, List.mem_of_getElem? (i := 14) (by decide +kernel), List.mem_of_getElem? (i := 367) (by decide +kernel), List.mem_of_getElem? (i := 368) (by decide +kernel)⟩
theorem lw_p2 : lw_okq (⟨"MasksAtDawn", "isMask", "(I)Z"⟩, 10) := ⟨⟨by decide +kernel, by decide +kernel⟩, List.mem_of_getElem? (i := 14) (by decide +kernel), List.mem_of_getElem? (i := 379) (by decide +kernel), List.mem_of_getElem? (i := 380) (by decide +kernel)⟩
theorem lw_p3 : lw_okq (⟨"MasksAtDawn", "mayChangeHands", "(I)Z"⟩, 10) := ⟨⟨by decide +kernel, by decide +kernel⟩, List.mem_of_getElem? (i := 14) (by decide +kernel), List.mem_of_getElem? (i := 427) (by decide +kernel), List.mem_of_getElem? (i := 428) (by decide +kernel)⟩
theorem lw_p4 : lw_okq (⟨"MasksAtDawn", "isJudge", "(I)Z"⟩, 10) := ⟨⟨by decide +kernel, by decide +kernel⟩, List.mem_of_getElem? (i := 14) (by decide +kernel), List.mem_of_getElem? (i := 448) (by decide +kernel), List.mem_of_getElem? (i := 449) (by decide +kernel)⟩
theorem lw_p5 : lw_okq (⟨"MasksAtDawn", "bestAnew", "()I"⟩, 10) := ⟨⟨by decide +kernel, by decide +kernel⟩, List.mem_of_getElem? (i := 14) (by decide +kernel), List.mem_of_getElem? (i := 508) (by decide +kernel), List.mem_of_getElem? (i := 509) (by decide +kernel)⟩
theorem lw_p6 : lw_okq (⟨"MasksAtDawnModel", "begins", "()V"⟩, 20) := ⟨⟨by decide +kernel, by decide +kernel⟩, List.mem_of_getElem? (i := 660) (by decide +kernel), List.mem_of_getElem? (i := 666) (by decide +kernel), List.mem_of_getElem? (i := 667) (by decide +kernel)⟩
theorem lw_p7 : lw_okq (⟨"MasksAtDawnModel", "takes", "()V"⟩, 20) := ⟨⟨by decide +kernel, by decide +kernel⟩, List.mem_of_getElem? (i := 660) (by decide +kernel), List.mem_of_getElem? (i := 670) (by decide +kernel), List.mem_of_getElem? (i := 671) (by decide +kernel)⟩
theorem lw_p8 : lw_okq (⟨"MasksAtDawnModel", "isItem", "()Z"⟩, 20) := ⟨⟨by decide +kernel, by decide +kernel⟩, List.mem_of_getElem? (i := 660) (by decide +kernel), List.mem_of_getElem? (i := 752) (by decide +kernel), List.mem_of_getElem? (i := 753) (by decide +kernel)⟩
theorem lw_p9 : lw_okq (⟨"MasksAtDawnModel", "isWorth", "()Z"⟩, 20) := ⟨⟨by decide +kernel, by decide +kernel⟩, List.mem_of_getElem? (i := 660) (by decide +kernel), List.mem_of_getElem? (i := 756) (by decide +kernel), List.mem_of_getElem? (i := 757) (by decide +kernel)⟩
theorem lw_p10 : lw_okq (⟨"MasksAtDawnModel", "number", "()I"⟩, 20) := ⟨⟨by decide +kernel, by decide +kernel⟩, List.mem_of_getElem? (i := 660) (by decide +kernel), List.mem_of_getElem? (i := 762) (by decide +kernel), List.mem_of_getElem? (i := 763) (by decide +kernel)⟩
theorem lw_p11 : lw_okq (⟨"MasksAtDawnModel", "isGood", "(I)Z"⟩, 20) := ⟨⟨by decide +kernel, by decide +kernel⟩, List.mem_of_getElem? (i := 660) (by decide +kernel), List.mem_of_getElem? (i := 767) (by decide +kernel), List.mem_of_getElem? (i := 768) (by decide +kernel)⟩
theorem lw_p12 : lw_okq (⟨"MasksAtDawnModel", "masks", "()I"⟩, 20) := ⟨⟨by decide +kernel, by decide +kernel⟩, List.mem_of_getElem? (i := 660) (by decide +kernel), List.mem_of_getElem? (i := 779) (by decide +kernel), List.mem_of_getElem? (i := 780) (by decide +kernel)⟩
theorem lw_p13 : lw_okq (⟨"MasksAtDawnModel", "isMan", "(I)Z"⟩, 20) := ⟨⟨by decide +kernel, by decide +kernel⟩, List.mem_of_getElem? (i := 660) (by decide +kernel), List.mem_of_getElem? (i := 787) (by decide +kernel), List.mem_of_getElem? (i := 788) (by decide +kernel)⟩
theorem lw_p14 : lw_okq (⟨"MasksAtDawnModel", "kindOf", "(II)I"⟩, 20) := ⟨⟨by decide +kernel, by decide +kernel⟩, List.mem_of_getElem? (i := 660) (by decide +kernel), List.mem_of_getElem? (i := 792) (by decide +kernel), List.mem_of_getElem? (i := 793) (by decide +kernel)⟩
theorem lw_p15 : lw_okq (⟨"MasksAtDawnModel", "isKind", "(I)Z"⟩, 20) := ⟨⟨by decide +kernel, by decide +kernel⟩, List.mem_of_getElem? (i := 660) (by decide +kernel), List.mem_of_getElem? (i := 800) (by decide +kernel), List.mem_of_getElem? (i := 801) (by decide +kernel)⟩
def lw_privs_1 : List (MethodName × Nat) := [(⟨"MasksAtDawn", "isPerson", "(I)Z"⟩, 10), (⟨"MasksAtDawn", "isKind", "(I)Z"⟩, 10), (⟨"MasksAtDawn", "isMask", "(I)Z"⟩, 10), (⟨"MasksAtDawn", "mayChangeHands", "(I)Z"⟩, 10), (⟨"MasksAtDawn", "isJudge", "(I)Z"⟩, 10), (⟨"MasksAtDawn", "bestAnew", "()I"⟩, 10), (⟨"MasksAtDawnModel", "begins", "()V"⟩, 20), (⟨"MasksAtDawnModel", "takes", "()V"⟩, 20), (⟨"MasksAtDawnModel", "isItem", "()Z"⟩, 20), (⟨"MasksAtDawnModel", "isWorth", "()Z"⟩, 20), (⟨"MasksAtDawnModel", "number", "()I"⟩, 20), (⟨"MasksAtDawnModel", "isGood", "(I)Z"⟩, 20), (⟨"MasksAtDawnModel", "masks", "()I"⟩, 20), (⟨"MasksAtDawnModel", "isMan", "(I)Z"⟩, 20), (⟨"MasksAtDawnModel", "kindOf", "(II)I"⟩, 20), (⟨"MasksAtDawnModel", "isKind", "(I)Z"⟩, 20)]
theorem lw_r1 : ∀ q ∈ lw_privs_1, lw_okq q := List.forall_mem_cons.mpr ⟨lw_p0, List.forall_mem_cons.mpr ⟨lw_p1, List.forall_mem_cons.mpr ⟨lw_p2, List.forall_mem_cons.mpr ⟨lw_p3, List.forall_mem_cons.mpr ⟨lw_p4, List.forall_mem_cons.mpr ⟨lw_p5, List.forall_mem_cons.mpr ⟨lw_p6, List.forall_mem_cons.mpr ⟨lw_p7, List.forall_mem_cons.mpr ⟨lw_p8, List.forall_mem_cons.mpr ⟨lw_p9, List.forall_mem_cons.mpr ⟨lw_p10, List.forall_mem_cons.mpr ⟨lw_p11, List.forall_mem_cons.mpr ⟨lw_p12, List.forall_mem_cons.mpr ⟨lw_p13, List.forall_mem_cons.mpr ⟨lw_p14, List.forall_mem_cons.mpr ⟨lw_p15, fun _ h => absurd h List.not_mem_nil⟩⟩⟩⟩⟩⟩⟩⟩⟩⟩⟩⟩⟩⟩⟩⟩
theorem lw_p16 : lw_okq (⟨"MasksAtDawnModel", "known", "()V"⟩, 20) := ⟨⟨by decide +kernel, by decide +kernel⟩, List.mem_of_getElem? (i := 660) (by decide +kernel), List.mem_of_getElem? (i := 814) (by decide +kernel), List.mem_of_getElem? (i := 815) (by decide +kernel)⟩
theorem lw_p17 : lw_okq (⟨"MasksAtDawnModel", "copies", "(II)V"⟩, 20) := ⟨⟨by decide +kernel, by decide +kernel⟩, List.mem_of_getElem? (i := 660) (by decide +kernel), List.mem_of_getElem? (i := 818) (by decide +kernel), List.mem_of_getElem? (i := 819) (by decide +kernel)⟩
theorem lw_p18 : lw_okq (⟨"MasksAtDawnModel", "dawns", "(II)V"⟩, 20) := ⟨⟨by decide +kernel, by decide +kernel⟩, List.mem_of_getElem? (i := 660) (by decide +kernel), List.mem_of_getElem? (i := 822) (by decide +kernel), List.mem_of_getElem? (i := 823) (by decide +kernel)⟩
theorem lw_p19 : lw_okq (⟨"MasksAtDawnModel", "mayGo", "(II)Z"⟩, 20) := ⟨⟨by decide +kernel, by decide +kernel⟩, List.mem_of_getElem? (i := 660) (by decide +kernel), List.mem_of_getElem? (i := 834) (by decide +kernel), List.mem_of_getElem? (i := 835) (by decide +kernel)⟩
theorem lw_p20 : lw_okq (⟨"MasksAtDawnModel", "trades", "(III)V"⟩, 20) := ⟨⟨by decide +kernel, by decide +kernel⟩, List.mem_of_getElem? (i := 660) (by decide +kernel), List.mem_of_getElem? (i := 838) (by decide +kernel), List.mem_of_getElem? (i := 839) (by decide +kernel)⟩
theorem lw_p21 : lw_okq (⟨"MasksAtDawnModel", "isRight", "(III)Z"⟩, 20) := ⟨⟨by decide +kernel, by decide +kernel⟩, List.mem_of_getElem? (i := 660) (by decide +kernel), List.mem_of_getElem? (i := 846) (by decide +kernel), List.mem_of_getElem? (i := 847) (by decide +kernel)⟩
theorem lw_p22 : lw_okq (⟨"MasksAtDawnModel", "judges", "(III)I"⟩, 20) := ⟨⟨by decide +kernel, by decide +kernel⟩, List.mem_of_getElem? (i := 660) (by decide +kernel), List.mem_of_getElem? (i := 854) (by decide +kernel), List.mem_of_getElem? (i := 855) (by decide +kernel)⟩
theorem lw_p23 : lw_okq (⟨"MasksAtDawnModel", "held", "()I"⟩, 20) := ⟨⟨by decide +kernel, by decide +kernel⟩, List.mem_of_getElem? (i := 660) (by decide +kernel), List.mem_of_getElem? (i := 858) (by decide +kernel), List.mem_of_getElem? (i := 859) (by decide +kernel)⟩
theorem lw_p24 : lw_okq (⟨"MasksAtDawnModel", "working", "()I"⟩, 20) := ⟨⟨by decide +kernel, by decide +kernel⟩, List.mem_of_getElem? (i := 660) (by decide +kernel), List.mem_of_getElem? (i := 874) (by decide +kernel), List.mem_of_getElem? (i := 875) (by decide +kernel)⟩
theorem lw_p25 : lw_okq (⟨"MasksAtDawnModel", "firstWay", "()V"⟩, 20) := ⟨⟨by decide +kernel, by decide +kernel⟩, List.mem_of_getElem? (i := 660) (by decide +kernel), List.mem_of_getElem? (i := 878) (by decide +kernel), List.mem_of_getElem? (i := 879) (by decide +kernel)⟩
theorem lw_p26 : lw_okq (⟨"MasksAtDawnModel", "nextWay", "()Z"⟩, 20) := ⟨⟨by decide +kernel, by decide +kernel⟩, List.mem_of_getElem? (i := 660) (by decide +kernel), List.mem_of_getElem? (i := 882) (by decide +kernel), List.mem_of_getElem? (i := 883) (by decide +kernel)⟩
theorem lw_p27 : lw_okq (⟨"MasksAtDawnModel", "all", "()I"⟩, 20) := ⟨⟨by decide +kernel, by decide +kernel⟩, List.mem_of_getElem? (i := 660) (by decide +kernel), List.mem_of_getElem? (i := 886) (by decide +kernel), List.mem_of_getElem? (i := 887) (by decide +kernel)⟩
theorem lw_p28 : lw_okq (⟨"MasksAtDawnModel", "firstLiked", "(I)I"⟩, 20) := ⟨⟨by decide +kernel, by decide +kernel⟩, List.mem_of_getElem? (i := 660) (by decide +kernel), List.mem_of_getElem? (i := 898) (by decide +kernel), List.mem_of_getElem? (i := 899) (by decide +kernel)⟩
theorem lw_p29 : lw_okq (⟨"MasksAtDawnModel", "isLiked", "(III)Z"⟩, 20) := ⟨⟨by decide +kernel, by decide +kernel⟩, List.mem_of_getElem? (i := 660) (by decide +kernel), List.mem_of_getElem? (i := 902) (by decide +kernel), List.mem_of_getElem? (i := 903) (by decide +kernel)⟩
theorem lw_p30 : lw_okq (⟨"MasksAtDawnModel", "pointed", "(II)I"⟩, 20) := ⟨⟨by decide +kernel, by decide +kernel⟩, List.mem_of_getElem? (i := 660) (by decide +kernel), List.mem_of_getElem? (i := 915) (by decide +kernel), List.mem_of_getElem? (i := 916) (by decide +kernel)⟩
theorem lw_p31 : lw_okq (⟨"MasksAtDawnModel", "counts", "(I)I"⟩, 20) := ⟨⟨by decide +kernel, by decide +kernel⟩, List.mem_of_getElem? (i := 660) (by decide +kernel), List.mem_of_getElem? (i := 931) (by decide +kernel), List.mem_of_getElem? (i := 932) (by decide +kernel)⟩
def lw_privs_2 : List (MethodName × Nat) := [(⟨"MasksAtDawnModel", "known", "()V"⟩, 20), (⟨"MasksAtDawnModel", "copies", "(II)V"⟩, 20), (⟨"MasksAtDawnModel", "dawns", "(II)V"⟩, 20), (⟨"MasksAtDawnModel", "mayGo", "(II)Z"⟩, 20), (⟨"MasksAtDawnModel", "trades", "(III)V"⟩, 20), (⟨"MasksAtDawnModel", "isRight", "(III)Z"⟩, 20), (⟨"MasksAtDawnModel", "judges", "(III)I"⟩, 20), (⟨"MasksAtDawnModel", "held", "()I"⟩, 20), (⟨"MasksAtDawnModel", "working", "()I"⟩, 20), (⟨"MasksAtDawnModel", "firstWay", "()V"⟩, 20), (⟨"MasksAtDawnModel", "nextWay", "()Z"⟩, 20), (⟨"MasksAtDawnModel", "all", "()I"⟩, 20), (⟨"MasksAtDawnModel", "firstLiked", "(I)I"⟩, 20), (⟨"MasksAtDawnModel", "isLiked", "(III)Z"⟩, 20), (⟨"MasksAtDawnModel", "pointed", "(II)I"⟩, 20), (⟨"MasksAtDawnModel", "counts", "(I)I"⟩, 20)]
theorem lw_r2 : ∀ q ∈ lw_privs_2, lw_okq q := List.forall_mem_cons.mpr ⟨lw_p16, List.forall_mem_cons.mpr ⟨lw_p17, List.forall_mem_cons.mpr ⟨lw_p18, List.forall_mem_cons.mpr ⟨lw_p19, List.forall_mem_cons.mpr ⟨lw_p20, List.forall_mem_cons.mpr ⟨lw_p21, List.forall_mem_cons.mpr ⟨lw_p22, List.forall_mem_cons.mpr ⟨lw_p23, List.forall_mem_cons.mpr ⟨lw_p24, List.forall_mem_cons.mpr ⟨lw_p25, List.forall_mem_cons.mpr ⟨lw_p26, List.forall_mem_cons.mpr ⟨lw_p27, List.forall_mem_cons.mpr ⟨lw_p28, List.forall_mem_cons.mpr ⟨lw_p29, List.forall_mem_cons.mpr ⟨lw_p30, List.forall_mem_cons.mpr ⟨lw_p31, fun _ h => absurd h List.not_mem_nil⟩⟩⟩⟩⟩⟩⟩⟩⟩⟩⟩⟩⟩⟩⟩⟩
def lw_privs : List (MethodName × Nat) := lw_privs_1 ++ (lw_privs_2)
def lw_tbl : List Cond := k2_sels lw_privs ++ tables_1
theorem lw_privs_ok : ∀ q ∈ lw_privs, lw_okq q := by
  show ∀ q ∈ lw_privs_1 ++ (lw_privs_2), lw_okq q
  exact List.forall_mem_append.mpr ⟨lw_r1, lw_r2⟩
def RX0 : String := "MasksAtDawn$Alley"
def TX0 : u_T := fun k => match k with
  | 0 => ("MasksAtDawn$Alley", "worn", "[I", true)
  | 1 => ("MasksAtDawn$Alley", "kindOf", "[I", true)
  | 2 => ("MasksAtDawn$Alley", "worths", "[I", true)
  | 3 => ("MasksAtDawn$Alley", "pointsTo", "[I", true)
  | 4 => ("MasksAtDawn$Alley", "taken", "[I", true)
  | 5 => ("MasksAtDawn$Alley", "persons", "I", false)
  | _ => ("MasksAtDawn$Alley", "locked", "I", false)
def tyX0 : Nat → FieldType := fun k => match k with
  | 0 => .array .int
  | 1 => .array .int
  | 2 => .array .int
  | 3 => .array .int
  | 4 => .array .int
  | 5 => .int
  | _ => .int
theorem nmX0 : ∀ a, a < 7 → ∀ b, b < 7 → a ≠ b → (TX0 a).2.1 ≠ (TX0 b).2.1 := by decide +kernel
theorem tyX0_ok : ∀ k, k < 7 → parseFieldDescriptor (TX0 k).2.2.1 = some (tyX0 k) := by decide +kernel
abbrev cX0_init : ByteArray := prog_2_method_1_code
def yX0_init : MethodName := ⟨RX0, "<init>", "()V"⟩
abbrev cX0_enter : ByteArray := prog_2_method_2_code
def yX0_enter : MethodName := ⟨RX0, "enter", "(LMasksAtDawn$Town;LMasksAtDawn$Day;)V"⟩
abbrev cX0_kindWornBy : ByteArray := prog_2_method_3_code
def yX0_kindWornBy : MethodName := ⟨RX0, "kindWornBy", "(I)I"⟩
abbrev cX0_isFree : ByteArray := prog_2_method_4_code
def yX0_isFree : MethodName := ⟨RX0, "isFree", "(I)Z"⟩
abbrev cX0_worth : ByteArray := prog_2_method_5_code
def yX0_worth : MethodName := ⟨RX0, "worth", "(II)I"⟩
abbrev cX0_wouldBoth : ByteArray := prog_2_method_6_code
def yX0_wouldBoth : MethodName := ⟨RX0, "wouldBoth", "(II)Z"⟩
abbrev cX0_howManyLiked : ByteArray := prog_2_method_7_code
def yX0_howManyLiked : MethodName := ⟨RX0, "howManyLiked", "()I"⟩
abbrev cX0_firstLiked : ByteArray := prog_2_method_8_code
def yX0_firstLiked : MethodName := ⟨RX0, "firstLiked", "()I"⟩
abbrev cX0_changeAllLiked : ByteArray := prog_2_method_9_code
def yX0_changeAllLiked : MethodName := ⟨RX0, "changeAllLiked", "()I"⟩
abbrev cX0_goRound : ByteArray := prog_2_method_10_code
def yX0_goRound : MethodName := ⟨RX0, "goRound", "()V"⟩
abbrev cX0_bestOf : ByteArray := prog_2_method_11_code
def yX0_bestOf : MethodName := ⟨RX0, "bestOf", "(II)I"⟩
abbrev cX0_leaveInRings : ByteArray := prog_2_method_12_code
def yX0_leaveInRings : MethodName := ⟨RX0, "leaveInRings", "(I)I"⟩
abbrev cX0_isInRing : ByteArray := prog_2_method_13_code
def yX0_isInRing : MethodName := ⟨RX0, "isInRing", "(I)Z"⟩
def RX1 : String := "MasksAtDawn$Day"
def TX1 : u_T := fun k => match k with
  | 0 => ("MasksAtDawn$Day", "number", "I", false)
  | 1 => ("MasksAtDawn$Day", "held", "I", false)
  | 2 => ("MasksAtDawn$Day", "worn", "[I", true)
  | 3 => ("MasksAtDawn$Day", "kindOf", "[I", true)
  | 4 => ("MasksAtDawn$Day", "earned", "[I", true)
  | 5 => ("MasksAtDawn$Day", "wrong", "[I", true)
  | _ => ("MasksAtDawn$Day", "times", "[I", true)
def tyX1 : Nat → FieldType := fun k => match k with
  | 0 => .int
  | 1 => .int
  | 2 => .array .int
  | 3 => .array .int
  | 4 => .array .int
  | 5 => .array .int
  | _ => .array .int
theorem nmX1 : ∀ a, a < 7 → ∀ b, b < 7 → a ≠ b → (TX1 a).2.1 ≠ (TX1 b).2.1 := by decide +kernel
theorem tyX1_ok : ∀ k, k < 7 → parseFieldDescriptor (TX1 k).2.2.1 = some (tyX1 k) := by decide +kernel
abbrev cX1_init : ByteArray := prog_3_method_1_code
def yX1_init : MethodName := ⟨RX1, "<init>", "()V"⟩
abbrev cX1_begin : ByteArray := prog_3_method_2_code
def yX1_begin : MethodName := ⟨RX1, "begin", "(LMasksAtDawn$Town;)V"⟩
abbrev cX1_copyFrom : ByteArray := prog_3_method_3_code
def yX1_copyFrom : MethodName := ⟨RX1, "copyFrom", "(LMasksAtDawn$Day;)V"⟩
abbrev cX1_turn : ByteArray := prog_3_method_4_code
def yX1_turn : MethodName := ⟨RX1, "turn", "(LMasksAtDawn$Town;I)V"⟩
abbrev cX1_lot : ByteArray := prog_3_method_5_code
def yX1_lot : MethodName := ⟨RX1, "lot", "(II)I"⟩
abbrev cX1_kindWornBy : ByteArray := prog_3_method_6_code
def yX1_kindWornBy : MethodName := ⟨RX1, "kindWornBy", "(I)I"⟩
abbrev cX1_timesHad : ByteArray := prog_3_method_7_code
def yX1_timesHad : MethodName := ⟨RX1, "timesHad", "(II)I"⟩
abbrev cX1_howManyHeld : ByteArray := prog_3_method_8_code
def yX1_howManyHeld : MethodName := ⟨RX1, "howManyHeld", "()I"⟩
def RX2 : String := "MasksAtDawn$Shelf"
def TX2 : u_T := fun k => match k with
  | 0 => ("MasksAtDawn$Shelf", "days", "[LMasksAtDawn$Day;", true)
  | _ => ("MasksAtDawn$Shelf", "size", "I", false)
def tyX2 : Nat → FieldType := fun k => match k with
  | 0 => .array (.object "MasksAtDawn$Day")
  | _ => .int
theorem nmX2 : ∀ a, a < 2 → ∀ b, b < 2 → a ≠ b → (TX2 a).2.1 ≠ (TX2 b).2.1 := by decide +kernel
theorem tyX2_ok : ∀ k, k < 2 → parseFieldDescriptor (TX2 k).2.2.1 = some (tyX2 k) := by decide +kernel
abbrev cX2_init : ByteArray := prog_4_method_1_code
def yX2_init : MethodName := ⟨RX2, "<init>", "(I)V"⟩
abbrev cX2_push : ByteArray := prog_4_method_2_code
def yX2_push : MethodName := ⟨RX2, "push", "(LMasksAtDawn$Day;)V"⟩
abbrev cX2_dropOldest : ByteArray := prog_4_method_3_code
def yX2_dropOldest : MethodName := ⟨RX2, "dropOldest", "()V"⟩
abbrev cX2_popInto : ByteArray := prog_4_method_4_code
def yX2_popInto : MethodName := ⟨RX2, "popInto", "(LMasksAtDawn$Day;)Z"⟩
def RX3 : String := "MasksAtDawn$Sightings"
def TX3 : u_T := fun k => match k with
  | 0 => ("MasksAtDawn$Sightings", "could", "[I", true)
  | 1 => ("MasksAtDawn$Sightings", "couldNot", "[I", true)
  | _ => ("MasksAtDawn$Sightings", "size", "I", false)
def tyX3 : Nat → FieldType := fun k => match k with
  | 0 => .array .int
  | 1 => .array .int
  | _ => .int
theorem nmX3 : ∀ a, a < 3 → ∀ b, b < 3 → a ≠ b → (TX3 a).2.1 ≠ (TX3 b).2.1 := by decide +kernel
theorem tyX3_ok : ∀ k, k < 3 → parseFieldDescriptor (TX3 k).2.2.1 = some (tyX3 k) := by decide +kernel
abbrev cX3_init : ByteArray := prog_5_method_1_code
def yX3_init : MethodName := ⟨RX3, "<init>", "()V"⟩
abbrev cX3_add : ByteArray := prog_5_method_2_code
def yX3_add : MethodName := ⟨RX3, "add", "(IIZ)Z"⟩
abbrev cX3_clear : ByteArray := prog_5_method_3_code
def yX3_clear : MethodName := ⟨RX3, "clear", "()V"⟩
abbrev cX3_allow : ByteArray := prog_5_method_4_code
def yX3_allow : MethodName := ⟨RX3, "allow", "(II)Z"⟩
def RX4 : String := "MasksAtDawn$Text"
def TX4 : u_T := fun k => match k with
  | 0 => ("MasksAtDawn$Text", "bytes", "[I", true)
  | 1 => ("MasksAtDawn$Text", "length", "I", false)
  | _ => ("MasksAtDawn$Text", "place", "I", false)
def tyX4 : Nat → FieldType := fun k => match k with
  | 0 => .array .int
  | 1 => .int
  | _ => .int
theorem nmX4 : ∀ a, a < 3 → ∀ b, b < 3 → a ≠ b → (TX4 a).2.1 ≠ (TX4 b).2.1 := by decide +kernel
theorem tyX4_ok : ∀ k, k < 3 → parseFieldDescriptor (TX4 k).2.2.1 = some (tyX4 k) := by decide +kernel
abbrev cX4_init : ByteArray := prog_6_method_1_code
def yX4_init : MethodName := ⟨RX4, "<init>", "()V"⟩
abbrev cX4_append : ByteArray := prog_6_method_2_code
def yX4_append : MethodName := ⟨RX4, "append", "(IJ)Z"⟩
abbrev cX4_readInto : ByteArray := prog_6_method_3_code
def yX4_readInto : MethodName := ⟨RX4, "readInto", "(LMasksAtDawn$Town;)I"⟩
abbrev cX4_readItem : ByteArray := prog_6_method_4_code
def yX4_readItem : MethodName := ⟨RX4, "readItem", "(LMasksAtDawn$Town;)Z"⟩
abbrev cX4_readKind : ByteArray := prog_6_method_5_code
def yX4_readKind : MethodName := ⟨RX4, "readKind", "(LMasksAtDawn$Town;)Z"⟩
abbrev cX4_readWorths : ByteArray := prog_6_method_6_code
def yX4_readWorths : MethodName := ⟨RX4, "readWorths", "(LMasksAtDawn$Town;)Z"⟩
abbrev cX4_readWork : ByteArray := prog_6_method_7_code
def yX4_readWork : MethodName := ⟨RX4, "readWork", "(LMasksAtDawn$Town;)Z"⟩
abbrev cX4_readNumber : ByteArray := prog_6_method_8_code
def yX4_readNumber : MethodName := ⟨RX4, "readNumber", "(IIC)I"⟩
abbrev cX4_nextByte : ByteArray := prog_6_method_9_code
def yX4_nextByte : MethodName := ⟨RX4, "nextByte", "()I"⟩
abbrev cX4_figure : ByteArray := prog_6_method_10_code
def yX4_figure : MethodName := ⟨RX4, "figure", "(I)I"⟩
def RX5 : String := "MasksAtDawn$Town"
def TX5 : u_T := fun k => match k with
  | 0 => ("MasksAtDawn$Town", "kinds", "I", false)
  | 1 => ("MasksAtDawn$Town", "persons", "I", false)
  | 2 => ("MasksAtDawn$Town", "masks", "I", false)
  | 3 => ("MasksAtDawn$Town", "work", "I", false)
  | 4 => ("MasksAtDawn$Town", "locked", "I", false)
  | 5 => ("MasksAtDawn$Town", "rights", "[I", true)
  | 6 => ("MasksAtDawn$Town", "wages", "[I", true)
  | 7 => ("MasksAtDawn$Town", "told", "[I", true)
  | 8 => ("MasksAtDawn$Town", "skills", "[I", true)
  | _ => ("MasksAtDawn$Town", "worths", "[I", true)
def tyX5 : Nat → FieldType := fun k => match k with
  | 0 => .int
  | 1 => .int
  | 2 => .int
  | 3 => .int
  | 4 => .int
  | 5 => .array .int
  | 6 => .array .int
  | 7 => .array .int
  | 8 => .array .int
  | _ => .array .int
theorem nmX5 : ∀ a, a < 10 → ∀ b, b < 10 → a ≠ b → (TX5 a).2.1 ≠ (TX5 b).2.1 := by decide +kernel
theorem tyX5_ok : ∀ k, k < 10 → parseFieldDescriptor (TX5 k).2.2.1 = some (tyX5 k) := by decide +kernel
abbrev cX5_init : ByteArray := prog_7_method_1_code
def yX5_init : MethodName := ⟨RX5, "<init>", "()V"⟩
abbrev cX5_clear : ByteArray := prog_7_method_2_code
def yX5_clear : MethodName := ⟨RX5, "clear", "()V"⟩
abbrev cX5_addKind : ByteArray := prog_7_method_3_code
def yX5_addKind : MethodName := ⟨RX5, "addKind", "(III)Z"⟩
abbrev cX5_addPerson : ByteArray := prog_7_method_4_code
def yX5_addPerson : MethodName := ⟨RX5, "addPerson", "(I)Z"⟩
abbrev cX5_setWorth : ByteArray := prog_7_method_5_code
def yX5_setWorth : MethodName := ⟨RX5, "setWorth", "(II)V"⟩
abbrev cX5_lock : ByteArray := prog_7_method_6_code
def yX5_lock : MethodName := ⟨RX5, "lock", "(I)Z"⟩
abbrev cX5_canBeLaid : ByteArray := prog_7_method_7_code
def yX5_canBeLaid : MethodName := ⟨RX5, "canBeLaid", "()Z"⟩
abbrev cX5_rightDeeds : ByteArray := prog_7_method_8_code
def yX5_rightDeeds : MethodName := ⟨RX5, "rightDeeds", "(II)I"⟩
def RX6 : String := "MasksAtDawn$Ways"
def TX6 : u_T := fun k => match k with
  | 0 => ("MasksAtDawn$Ways", "masks", "[I", true)
  | 1 => ("MasksAtDawn$Ways", "best", "[I", true)
  | 2 => ("MasksAtDawn$Ways", "rightDeeds", "[I", true)
  | 3 => ("MasksAtDawn$Ways", "persons", "I", false)
  | _ => ("MasksAtDawn$Ways", "total", "I", false)
def tyX6 : Nat → FieldType := fun k => match k with
  | 0 => .array .int
  | 1 => .array .int
  | 2 => .array .int
  | 3 => .int
  | _ => .int
theorem nmX6 : ∀ a, a < 5 → ∀ b, b < 5 → a ≠ b → (TX6 a).2.1 ≠ (TX6 b).2.1 := by decide +kernel
theorem tyX6_ok : ∀ k, k < 5 → parseFieldDescriptor (TX6 k).2.2.1 = some (tyX6 k) := by decide +kernel
abbrev cX6_init : ByteArray := prog_8_method_1_code
def yX6_init : MethodName := ⟨RX6, "<init>", "()V"⟩
abbrev cX6_start : ByteArray := prog_8_method_2_code
def yX6_start : MethodName := ⟨RX6, "start", "(LMasksAtDawn$Town;LMasksAtDawn$Day;)V"⟩
abbrev cX6_step : ByteArray := prog_8_method_3_code
def yX6_step : MethodName := ⟨RX6, "step", "()V"⟩
abbrev cX6_doingAllWork : ByteArray := prog_8_method_4_code
def yX6_doingAllWork : MethodName := ⟨RX6, "doingAllWork", "(LMasksAtDawn$Town;LMasksAtDawn$Day;)I"⟩
abbrev cX6_allRightDeeds : ByteArray := prog_8_method_5_code
def yX6_allRightDeeds : MethodName := ⟨RX6, "allRightDeeds", "()I"⟩
abbrev cX6_fitting : ByteArray := prog_8_method_6_code
def yX6_fitting : MethodName := ⟨RX6, "fitting", "(LMasksAtDawn$Town;LMasksAtDawn$Day;LMasksAtDawn$Sightings;)I"⟩
abbrev cX6_sureKind : ByteArray := prog_8_method_7_code
def yX6_sureKind : MethodName := ⟨RX6, "sureKind", "(LMasksAtDawn$Town;LMasksAtDawn$Day;LMasksAtDawn$Sightings;I)I"⟩
abbrev cX6_isAsSeen : ByteArray := prog_8_method_8_code
def yX6_isAsSeen : MethodName := ⟨RX6, "isAsSeen", "(LMasksAtDawn$Sightings;)Z"⟩
abbrev cX6_findFairest : ByteArray := prog_8_method_9_code
def yX6_findFairest : MethodName := ⟨RX6, "findFairest", "(LMasksAtDawn$Town;LMasksAtDawn$Day;)I"⟩
abbrev cX6_sumHad : ByteArray := prog_8_method_10_code
def yX6_sumHad : MethodName := ⟨RX6, "sumHad", "(LMasksAtDawn$Day;)I"⟩
abbrev cX6_kindWornBy : ByteArray := prog_8_method_11_code
def yX6_kindWornBy : MethodName := ⟨RX6, "kindWornBy", "(ILMasksAtDawn$Day;)I"⟩
def RX7 : String := "MasksAtDawn"
def TX7 : u_T := fun k => match k with
  | 0 => ("MasksAtDawn", "text", "LMasksAtDawn$Text;", true)
  | 1 => ("MasksAtDawn", "town", "LMasksAtDawn$Town;", false)
  | 2 => ("MasksAtDawn", "draft", "LMasksAtDawn$Town;", false)
  | 3 => ("MasksAtDawn", "today", "LMasksAtDawn$Day;", true)
  | 4 => ("MasksAtDawn", "supposed", "LMasksAtDawn$Day;", true)
  | 5 => ("MasksAtDawn", "past", "LMasksAtDawn$Shelf;", true)
  | 6 => ("MasksAtDawn", "kept", "LMasksAtDawn$Shelf;", true)
  | 7 => ("MasksAtDawn", "sightings", "LMasksAtDawn$Sightings;", true)
  | 8 => ("MasksAtDawn", "ways", "LMasksAtDawn$Ways;", true)
  | _ => ("MasksAtDawn", "alley", "LMasksAtDawn$Alley;", true)
def tyX7 : Nat → FieldType := fun k => match k with
  | 0 => .object "MasksAtDawn$Text"
  | 1 => .object "MasksAtDawn$Town"
  | 2 => .object "MasksAtDawn$Town"
  | 3 => .object "MasksAtDawn$Day"
  | 4 => .object "MasksAtDawn$Day"
  | 5 => .object "MasksAtDawn$Shelf"
  | 6 => .object "MasksAtDawn$Shelf"
  | 7 => .object "MasksAtDawn$Sightings"
  | 8 => .object "MasksAtDawn$Ways"
  | _ => .object "MasksAtDawn$Alley"
theorem nmX7 : ∀ a, a < 10 → ∀ b, b < 10 → a ≠ b → (TX7 a).2.1 ≠ (TX7 b).2.1 := by decide +kernel
theorem tyX7_ok : ∀ k, k < 10 → parseFieldDescriptor (TX7 k).2.2.1 = some (tyX7 k) := by decide +kernel
abbrev cX7_init : ByteArray := prog_1_method_1_code
def yX7_init : MethodName := ⟨RX7, "<init>", "()V"⟩
abbrev cX7_write : ByteArray := prog_1_method_2_code
def yX7_write : MethodName := ⟨RX7, "write", "(IJ)I"⟩
abbrev cX7_wipe : ByteArray := prog_1_method_3_code
def yX7_wipe : MethodName := ⟨RX7, "wipe", "()I"⟩
abbrev cX7_fault : ByteArray := prog_1_method_4_code
def yX7_fault : MethodName := ⟨RX7, "fault", "()I"⟩
abbrev cX7_lay : ByteArray := prog_1_method_5_code
def yX7_lay : MethodName := ⟨RX7, "lay", "()I"⟩
abbrev cX7_person : ByteArray := prog_1_method_6_code
def yX7_person : MethodName := ⟨RX7, "person", "(II)I"⟩
abbrev cX7_had : ByteArray := prog_1_method_7_code
def yX7_had : MethodName := ⟨RX7, "had", "(II)I"⟩
abbrev cX7_mask : ByteArray := prog_1_method_8_code
def yX7_mask : MethodName := ⟨RX7, "mask", "(II)I"⟩
abbrev cX7_dawn : ByteArray := prog_1_method_9_code
def yX7_dawn : MethodName := ⟨RX7, "dawn", "(I)I"⟩
abbrev cX7_change : ByteArray := prog_1_method_10_code
def yX7_change : MethodName := ⟨RX7, "change", "(II)I"⟩
abbrev cX7_deed : ByteArray := prog_1_method_11_code
def yX7_deed : MethodName := ⟨RX7, "deed", "(II)I"⟩
abbrev cX7_sentence : ByteArray := prog_1_method_12_code
def yX7_sentence : MethodName := ⟨RX7, "sentence", "(II)I"⟩
abbrev cX7_pardon : ByteArray := prog_1_method_13_code
def yX7_pardon : MethodName := ⟨RX7, "pardon", "(II)I"⟩
abbrev cX7_undo : ByteArray := prog_1_method_14_code
def yX7_undo : MethodName := ⟨RX7, "undo", "()I"⟩
abbrev cX7_chance : ByteArray := prog_1_method_15_code
def yX7_chance : MethodName := ⟨RX7, "chance", "(I)I"⟩
abbrev cX7_anew : ByteArray := prog_1_method_16_code
def yX7_anew : MethodName := ⟨RX7, "anew", "(I)I"⟩
abbrev cX7_liked : ByteArray := prog_1_method_17_code
def yX7_liked : MethodName := ⟨RX7, "liked", "(I)I"⟩
abbrev cX7_allChange : ByteArray := prog_1_method_18_code
def yX7_allChange : MethodName := ⟨RX7, "allChange", "(I)I"⟩
abbrev cX7_rounds : ByteArray := prog_1_method_19_code
def yX7_rounds : MethodName := ⟨RX7, "rounds", "(I)I"⟩
abbrev cX7_seen : ByteArray := prog_1_method_20_code
def yX7_seen : MethodName := ⟨RX7, "seen", "(IIZ)I"⟩
abbrev cX7_forget : ByteArray := prog_1_method_21_code
def yX7_forget : MethodName := ⟨RX7, "forget", "()I"⟩
abbrev cX7_fits : ByteArray := prog_1_method_22_code
def yX7_fits : MethodName := ⟨RX7, "fits", "()I"⟩
abbrev cX7_sure : ByteArray := prog_1_method_23_code
def yX7_sure : MethodName := ⟨RX7, "sure", "(I)I"⟩
abbrev cX7_fairest : ByteArray := prog_1_method_24_code
def yX7_fairest : MethodName := ⟨RX7, "fairest", "(I)I"⟩
abbrev cX7_make : ByteArray := prog_1_method_25_code
def yX7_make : MethodName := ⟨RX7, "make", "(II)I"⟩
abbrev cX7_falseOne : ByteArray := prog_1_method_26_code
def yX7_falseOne : MethodName := ⟨RX7, "falseOne", "()I"⟩
abbrev cX7_year : ByteArray := prog_1_method_27_code
def yX7_year : MethodName := ⟨RX7, "year", "(IIII)I"⟩
abbrev cX7_keep : ByteArray := prog_1_method_28_code
def yX7_keep : MethodName := ⟨RX7, "keep", "()I"⟩
abbrev cX7_back : ByteArray := prog_1_method_29_code
def yX7_back : MethodName := ⟨RX7, "back", "()I"⟩
abbrev cX7_count : ByteArray := prog_1_method_30_code
def yX7_count : MethodName := ⟨RX7, "count", "(I)I"⟩
abbrev cX7_isPerson : ByteArray := prog_1_method_31_code
def yX7_isPerson : MethodName := ⟨RX7, "isPerson", "(I)Z"⟩
abbrev cX7_isMask : ByteArray := prog_1_method_32_code
def yX7_isMask : MethodName := ⟨RX7, "isMask", "(I)Z"⟩
abbrev cX7_isKind : ByteArray := prog_1_method_33_code
def yX7_isKind : MethodName := ⟨RX7, "isKind", "(I)Z"⟩
abbrev cX7_isDeed : ByteArray := prog_1_method_34_code
def yX7_isDeed : MethodName := ⟨RX7, "isDeed", "(I)Z"⟩
abbrev cX7_isDraw : ByteArray := prog_1_method_35_code
def yX7_isDraw : MethodName := ⟨RX7, "isDraw", "(I)Z"⟩
abbrev cX7_isJudge : ByteArray := prog_1_method_36_code
def yX7_isJudge : MethodName := ⟨RX7, "isJudge", "(I)Z"⟩
abbrev cX7_mayChangeHands : ByteArray := prog_1_method_37_code
def yX7_mayChangeHands : MethodName := ⟨RX7, "mayChangeHands", "(I)Z"⟩
abbrev cX7_bestAnew : ByteArray := prog_1_method_38_code
def yX7_bestAnew : MethodName := ⟨RX7, "bestAnew", "()I"⟩
abbrev cX7_isWithin : ByteArray := prog_1_method_39_code
def yX7_isWithin : MethodName := ⟨RX7, "isWithin", "(III)Z"⟩
abbrev cX7_has : ByteArray := prog_1_method_40_code
def yX7_has : MethodName := ⟨RX7, "has", "(II)Z"⟩
abbrev cX7_at : ByteArray := prog_1_method_41_code
def yX7_at : MethodName := ⟨RX7, "at", "([II)I"⟩
abbrev cX7_swap : ByteArray := prog_1_method_42_code
def yX7_swap : MethodName := ⟨RX7, "swap", "([III)V"⟩
abbrev cX7_commonDivisor : ByteArray := prog_1_method_43_code
def yX7_commonDivisor : MethodName := ⟨RX7, "commonDivisor", "(II)I"⟩
def RX8 : String := "MasksAtDawnModel"
def TX8 : u_T := fun k => match k with
  | 0 => ("MasksAtDawnModel", "length", "I", false)
  | 1 => ("MasksAtDawnModel", "text", "[B", true)
  | 2 => ("MasksAtDawnModel", "at", "I", false)
  | 3 => ("MasksAtDawnModel", "told", "[I", true)
  | 4 => ("MasksAtDawnModel", "kinds", "[I", true)
  | 5 => ("MasksAtDawnModel", "kind", "[I", true)
  | 6 => ("MasksAtDawnModel", "people", "[I", true)
  | 7 => ("MasksAtDawnModel", "skill", "[I", true)
  | 8 => ("MasksAtDawnModel", "worth", "[I", true)
  | 9 => ("MasksAtDawnModel", "slot", "[I", true)
  | 10 => ("MasksAtDawnModel", "kept", "I", false)
  | 11 => ("MasksAtDawnModel", "done", "I", false)
  | 12 => ("MasksAtDawnModel", "seen", "I", false)
  | 13 => ("MasksAtDawnModel", "saw", "[I", true)
  | 14 => ("MasksAtDawnModel", "way", "[I", true)
  | 15 => ("MasksAtDawnModel", "best", "[I", true)
  | 16 => ("MasksAtDawnModel", "points", "[I", true)
  | 17 => ("MasksAtDawnModel", "has", "[I", true)
  | 18 => ("MasksAtDawnModel", "fitting", "I", false)
  | _ => ("MasksAtDawnModel", "got", "[I", true)
def tyX8 : Nat → FieldType := fun k => match k with
  | 0 => .int
  | 1 => .array .byte
  | 2 => .int
  | 3 => .array .int
  | 4 => .array .int
  | 5 => .array .int
  | 6 => .array .int
  | 7 => .array .int
  | 8 => .array .int
  | 9 => .array .int
  | 10 => .int
  | 11 => .int
  | 12 => .int
  | 13 => .array .int
  | 14 => .array .int
  | 15 => .array .int
  | 16 => .array .int
  | 17 => .array .int
  | 18 => .int
  | _ => .array .int
theorem nmX8 : ∀ a, a < 20 → ∀ b, b < 20 → a ≠ b → (TX8 a).2.1 ≠ (TX8 b).2.1 := by decide +kernel
theorem tyX8_ok : ∀ k, k < 20 → parseFieldDescriptor (TX8 k).2.2.1 = some (tyX8 k) := by decide +kernel
abbrev cX8_init : ByteArray := prog_10_method_1_code
def yX8_init : MethodName := ⟨RX8, "<init>", "()V"⟩
abbrev cX8_in : ByteArray := prog_10_method_2_code
def yX8_in : MethodName := ⟨RX8, "in", "(JJJ)Z"⟩
abbrev cX8_write : ByteArray := prog_10_method_3_code
def yX8_write : MethodName := ⟨RX8, "write", "(IJ)I"⟩
abbrev cX8_wipe : ByteArray := prog_10_method_4_code
def yX8_wipe : MethodName := ⟨RX8, "wipe", "()I"⟩
abbrev cX8_number : ByteArray := prog_10_method_5_code
def yX8_number : MethodName := ⟨RX8, "number", "()I"⟩
abbrev cX8_isWorth : ByteArray := prog_10_method_6_code
def yX8_isWorth : MethodName := ⟨RX8, "isWorth", "()Z"⟩
abbrev cX8_isItem : ByteArray := prog_10_method_7_code
def yX8_isItem : MethodName := ⟨RX8, "isItem", "()Z"⟩
abbrev cX8_isGood : ByteArray := prog_10_method_8_code
def yX8_isGood : MethodName := ⟨RX8, "isGood", "(I)Z"⟩
abbrev cX8_begins : ByteArray := prog_10_method_9_code
def yX8_begins : MethodName := ⟨RX8, "begins", "()V"⟩
abbrev cX8_masks : ByteArray := prog_10_method_10_code
def yX8_masks : MethodName := ⟨RX8, "masks", "()I"⟩
abbrev cX8_takes : ByteArray := prog_10_method_11_code
def yX8_takes : MethodName := ⟨RX8, "takes", "()V"⟩
abbrev cX8_fault : ByteArray := prog_10_method_12_code
def yX8_fault : MethodName := ⟨RX8, "fault", "()I"⟩
abbrev cX8_lay : ByteArray := prog_10_method_13_code
def yX8_lay : MethodName := ⟨RX8, "lay", "()I"⟩
abbrev cX8_isMan : ByteArray := prog_10_method_14_code
def yX8_isMan : MethodName := ⟨RX8, "isMan", "(I)Z"⟩
abbrev cX8_isKind : ByteArray := prog_10_method_15_code
def yX8_isKind : MethodName := ⟨RX8, "isKind", "(I)Z"⟩
abbrev cX8_kindOf : ByteArray := prog_10_method_16_code
def yX8_kindOf : MethodName := ⟨RX8, "kindOf", "(II)I"⟩
abbrev cX8_person : ByteArray := prog_10_method_17_code
def yX8_person : MethodName := ⟨RX8, "person", "(II)I"⟩
abbrev cX8_had : ByteArray := prog_10_method_18_code
def yX8_had : MethodName := ⟨RX8, "had", "(II)I"⟩
abbrev cX8_mask : ByteArray := prog_10_method_19_code
def yX8_mask : MethodName := ⟨RX8, "mask", "(II)I"⟩
abbrev cX8_copies : ByteArray := prog_10_method_20_code
def yX8_copies : MethodName := ⟨RX8, "copies", "(II)V"⟩
abbrev cX8_known : ByteArray := prog_10_method_21_code
def yX8_known : MethodName := ⟨RX8, "known", "()V"⟩
abbrev cX8_dawns : ByteArray := prog_10_method_22_code
def yX8_dawns : MethodName := ⟨RX8, "dawns", "(II)V"⟩
abbrev cX8_dawn : ByteArray := prog_10_method_23_code
def yX8_dawn : MethodName := ⟨RX8, "dawn", "(I)I"⟩
abbrev cX8_mayGo : ByteArray := prog_10_method_24_code
def yX8_mayGo : MethodName := ⟨RX8, "mayGo", "(II)Z"⟩
abbrev cX8_trades : ByteArray := prog_10_method_25_code
def yX8_trades : MethodName := ⟨RX8, "trades", "(III)V"⟩
abbrev cX8_change : ByteArray := prog_10_method_26_code
def yX8_change : MethodName := ⟨RX8, "change", "(II)I"⟩
abbrev cX8_isRight : ByteArray := prog_10_method_27_code
def yX8_isRight : MethodName := ⟨RX8, "isRight", "(III)Z"⟩
abbrev cX8_deed : ByteArray := prog_10_method_28_code
def yX8_deed : MethodName := ⟨RX8, "deed", "(II)I"⟩
abbrev cX8_held : ByteArray := prog_10_method_29_code
def yX8_held : MethodName := ⟨RX8, "held", "()I"⟩
abbrev cX8_judges : ByteArray := prog_10_method_30_code
def yX8_judges : MethodName := ⟨RX8, "judges", "(III)I"⟩
abbrev cX8_sentence : ByteArray := prog_10_method_31_code
def yX8_sentence : MethodName := ⟨RX8, "sentence", "(II)I"⟩
abbrev cX8_pardon : ByteArray := prog_10_method_32_code
def yX8_pardon : MethodName := ⟨RX8, "pardon", "(II)I"⟩
abbrev cX8_undo : ByteArray := prog_10_method_33_code
def yX8_undo : MethodName := ⟨RX8, "undo", "()I"⟩
abbrev cX8_firstWay : ByteArray := prog_10_method_34_code
def yX8_firstWay : MethodName := ⟨RX8, "firstWay", "()V"⟩
abbrev cX8_nextWay : ByteArray := prog_10_method_35_code
def yX8_nextWay : MethodName := ⟨RX8, "nextWay", "()Z"⟩
abbrev cX8_all : ByteArray := prog_10_method_36_code
def yX8_all : MethodName := ⟨RX8, "all", "()I"⟩
abbrev cX8_working : ByteArray := prog_10_method_37_code
def yX8_working : MethodName := ⟨RX8, "working", "()I"⟩
abbrev cX8_chance : ByteArray := prog_10_method_38_code
def yX8_chance : MethodName := ⟨RX8, "chance", "(I)I"⟩
abbrev cX8_anew : ByteArray := prog_10_method_39_code
def yX8_anew : MethodName := ⟨RX8, "anew", "(I)I"⟩
abbrev cX8_isLiked : ByteArray := prog_10_method_40_code
def yX8_isLiked : MethodName := ⟨RX8, "isLiked", "(III)Z"⟩
abbrev cX8_firstLiked : ByteArray := prog_10_method_41_code
def yX8_firstLiked : MethodName := ⟨RX8, "firstLiked", "(I)I"⟩
abbrev cX8_liked : ByteArray := prog_10_method_42_code
def yX8_liked : MethodName := ⟨RX8, "liked", "(I)I"⟩
abbrev cX8_allChange : ByteArray := prog_10_method_43_code
def yX8_allChange : MethodName := ⟨RX8, "allChange", "(I)I"⟩
abbrev cX8_pointed : ByteArray := prog_10_method_44_code
def yX8_pointed : MethodName := ⟨RX8, "pointed", "(II)I"⟩
abbrev cX8_rounds : ByteArray := prog_10_method_45_code
def yX8_rounds : MethodName := ⟨RX8, "rounds", "(I)I"⟩
abbrev cX8_seen : ByteArray := prog_10_method_46_code
def yX8_seen : MethodName := ⟨RX8, "seen", "(IIZ)I"⟩
abbrev cX8_forget : ByteArray := prog_10_method_47_code
def yX8_forget : MethodName := ⟨RX8, "forget", "()I"⟩
abbrev cX8_counts : ByteArray := prog_10_method_48_code
def yX8_counts : MethodName := ⟨RX8, "counts", "(I)I"⟩
abbrev cX8_fits : ByteArray := prog_10_method_49_code
def yX8_fits : MethodName := ⟨RX8, "fits", "()I"⟩
abbrev cX8_sure : ByteArray := prog_10_method_50_code
def yX8_sure : MethodName := ⟨RX8, "sure", "(I)I"⟩
abbrev cX8_fairest : ByteArray := prog_10_method_51_code
def yX8_fairest : MethodName := ⟨RX8, "fairest", "(I)I"⟩
abbrev cX8_make : ByteArray := prog_10_method_52_code
def yX8_make : MethodName := ⟨RX8, "make", "(II)I"⟩
abbrev cX8_falseOne : ByteArray := prog_10_method_53_code
def yX8_falseOne : MethodName := ⟨RX8, "falseOne", "()I"⟩
abbrev cX8_year : ByteArray := prog_10_method_54_code
def yX8_year : MethodName := ⟨RX8, "year", "(IIII)I"⟩
abbrev cX8_keep : ByteArray := prog_10_method_55_code
def yX8_keep : MethodName := ⟨RX8, "keep", "()I"⟩
abbrev cX8_back : ByteArray := prog_10_method_56_code
def yX8_back : MethodName := ⟨RX8, "back", "()I"⟩
abbrev cX8_count : ByteArray := prog_10_method_57_code
def yX8_count : MethodName := ⟨RX8, "count", "(I)I"⟩
def RJ6 : String := "java/lang/Integer"
def TJ6 : u_T := fun k => match k with
  | _ => ("", "", "", false)
def tyJ6 : Nat → FieldType := fun k => match k with
  | _ => .int
theorem nmJ6 : ∀ a, a < 0 → ∀ b, b < 0 → a ≠ b → (TJ6 a).2.1 ≠ (TJ6 b).2.1 := by decide +kernel
theorem tyJ6_ok : ∀ k, k < 0 → parseFieldDescriptor (TJ6 k).2.2.1 = some (tyJ6 k) := by decide +kernel
abbrev cJ6_bitCount_0f7a4 : ByteArray := prog_11_method_49_code
def yJ6_bitCount_0f7a4 : MethodName := ⟨RJ6, "bitCount", "(I)I"⟩
def RJ9 : String := "java/lang/Math"
def TJ9 : u_T := fun k => match k with
  | _ => ("", "", "", false)
def tyJ9 : Nat → FieldType := fun k => match k with
  | _ => .int
theorem nmJ9 : ∀ a, a < 0 → ∀ b, b < 0 → a ≠ b → (TJ9 a).2.1 ≠ (TJ9 b).2.1 := by decide +kernel
theorem tyJ9_ok : ∀ k, k < 0 → parseFieldDescriptor (TJ9 k).2.2.1 = some (tyJ9 k) := by decide +kernel
abbrev cJ9_max_7cf53 : ByteArray := prog_12_method_65_code
def yJ9_max_7cf53 : MethodName := ⟨RJ9, "max", "(II)I"⟩
abbrev cJ9_min_7cf53 : ByteArray := prog_12_method_69_code
def yJ9_min_7cf53 : MethodName := ⟨RJ9, "min", "(II)I"⟩
def RJ10 : String := "java/lang/System"
def TJ10 : u_T := fun k => match k with
  | _ => ("", "", "", false)
def tyJ10 : Nat → FieldType := fun k => match k with
  | _ => .int
theorem nmJ10 : ∀ a, a < 0 → ∀ b, b < 0 → a ≠ b → (TJ10 a).2.1 ≠ (TJ10 b).2.1 := by decide +kernel
theorem tyJ10_ok : ∀ k, k < 0 → parseFieldDescriptor (TJ10 k).2.2.1 = some (tyJ10 k) := by decide +kernel
def RL : String := "MasksAtDawnLaw"
abbrev cL_law : ByteArray := code
def yL_law : MethodName := ⟨RL, "law", "([I)Z"⟩
def zcl : List vw_C := [(RX0, TX0, 7), (RX1, TX1, 7), (RX2, TX2, 2), (RX3, TX3, 3), (RX4, TX4, 3), (RX5, TX5, 10), (RX6, TX6, 5), (RX7, TX7, 10), (RX8, TX8, 20)]
def zcn (o : Nat) : String := match o with
  | 0 => RX0
  | 1 => RX1
  | 2 => RX2
  | 3 => RX3
  | 4 => RX4
  | 5 => RX5
  | 6 => RX6
  | 7 => RX7
  | 8 => RX8
  | 9 => RL
  | 10 => RJ6
  | _ => RJ9
def zms0 : List (Nat × MethodName × ByteArray × Nat × Option FieldType × Nat × List Nat × Nat × Nat) := [
  (0, yX0_init, cX0_init, 1, none, 1, [], 1, 20),
  (0, yX0_enter, cX0_enter, 3, none, 3, [], 1, 26),
  (0, yX0_kindWornBy, cX0_kindWornBy, 2, (some .int), 2, [], 1, 21),
  (0, yX0_isFree, cX0_isFree, 2, (some .boolean), 2, [], 2, 42),
  (0, yX0_worth, cX0_worth, 3, (some .int), 3, [], 2, 42),
  (0, yX0_wouldBoth, cX0_wouldBoth, 3, (some .boolean), 3, [], 3, 64),
  (0, yX0_howManyLiked, cX0_howManyLiked, 4, (some .int), 1, [], 4, 86),
  (0, yX0_firstLiked, cX0_firstLiked, 3, (some .int), 1, [], 4, 86),
  (0, yX0_changeAllLiked, cX0_changeAllLiked, 3, (some .int), 1, [], 5, 108),
  (0, yX0_goRound, cX0_goRound, 4, none, 1, [], 4, 88),
  (0, yX0_bestOf, cX0_bestOf, 5, (some .int), 3, [], 3, 64),
  (0, yX0_leaveInRings, cX0_leaveInRings, 4, (some .int), 2, [], 2, 44),
  (0, yX0_isInRing, cX0_isInRing, 4, (some .boolean), 2, [], 1, 21),
  (1, yX1_init, cX1_init, 1, none, 1, [], 1, 20),
  (1, yX1_begin, cX1_begin, 5, none, 2, [], 0, 0),
  (1, yX1_copyFrom, cX1_copyFrom, 2, none, 2, [], 1, 26),
  (1, yX1_turn, cX1_turn, 6, none, 3, [], 2, 45),
  (1, yX1_lot, cX1_lot, 5, (some .int), 3, [3], 0, 0),
  (1, yX1_kindWornBy, cX1_kindWornBy, 2, (some .int), 2, [], 1, 21),
  (1, yX1_timesHad, cX1_timesHad, 3, (some .int), 3, [], 1, 21),
  (1, yX1_howManyHeld, cX1_howManyHeld, 1, (some .int), 1, [], 1, 20),
  (2, yX2_init, cX2_init, 3, none, 2, [], 2, 40),
  (2, yX2_push, cX2_push, 2, none, 2, [], 2, 47),
  (2, yX2_dropOldest, cX2_dropOldest, 3, none, 1, [], 0, 0),
  (2, yX2_popInto, cX2_popInto, 2, (some .boolean), 2, [], 2, 47),
  (3, yX3_init, cX3_init, 1, none, 1, [], 1, 20),
  (3, yX3_add, cX3_add, 4, (some .boolean), 4, [], 1, 22)]
def zms1 : List (Nat × MethodName × ByteArray × Nat × Option FieldType × Nat × List Nat × Nat × Nat) := [
  (3, yX3_clear, cX3_clear, 2, none, 1, [], 0, 0),
  (3, yX3_allow, cX3_allow, 3, (some .boolean), 3, [], 1, 21),
  (4, yX4_init, cX4_init, 1, none, 1, [], 1, 20),
  (4, yX4_append, cX4_append, 5, (some .boolean), 3, [2], 0, 0),
  (4, yX4_readInto, cX4_readInto, 4, (some .int), 2, [], 4, 93),
  (4, yX4_readItem, cX4_readItem, 2, (some .boolean), 2, [], 3, 72),
  (4, yX4_readKind, cX4_readKind, 5, (some .boolean), 2, [], 2, 48),
  (4, yX4_readWorths, cX4_readWorths, 4, (some .boolean), 2, [], 2, 45),
  (4, yX4_readWork, cX4_readWork, 2, (some .boolean), 2, [], 2, 48),
  (4, yX4_readNumber, cX4_readNumber, 7, (some .int), 4, [], 1, 22),
  (4, yX4_nextByte, cX4_nextByte, 2, (some .int), 1, [], 0, 0),
  (4, yX4_figure, cX4_figure, 1, (some .int), 1, [], 0, 0),
  (5, yX5_init, cX5_init, 1, none, 1, [], 1, 20),
  (5, yX5_clear, cX5_clear, 1, none, 1, [], 0, 0),
  (5, yX5_addKind, cX5_addKind, 4, (some .boolean), 4, [], 0, 0),
  (5, yX5_addPerson, cX5_addPerson, 3, (some .boolean), 2, [], 2, 45),
  (5, yX5_setWorth, cX5_setWorth, 4, none, 3, [], 1, 22),
  (5, yX5_lock, cX5_lock, 2, (some .boolean), 2, [], 0, 0),
  (5, yX5_canBeLaid, cX5_canBeLaid, 1, (some .boolean), 1, [], 0, 0),
  (5, yX5_rightDeeds, cX5_rightDeeds, 3, (some .int), 3, [], 1, 21),
  (6, yX6_init, cX6_init, 1, none, 1, [], 1, 20),
  (6, yX6_start, cX6_start, 5, none, 3, [], 2, 43),
  (6, yX6_step, cX6_step, 5, none, 1, [], 2, 45),
  (6, yX6_doingAllWork, cX6_doingAllWork, 5, (some .int), 3, [], 3, 69),
  (6, yX6_allRightDeeds, cX6_allRightDeeds, 3, (some .int), 1, [], 1, 21),
  (6, yX6_fitting, cX6_fitting, 6, (some .int), 4, [], 3, 69),
  (6, yX6_sureKind, cX6_sureKind, 8, (some .int), 5, [], 3, 69)]
def zms2 : List (Nat × MethodName × ByteArray × Nat × Option FieldType × Nat × List Nat × Nat × Nat) := [
  (6, yX6_isAsSeen, cX6_isAsSeen, 3, (some .boolean), 2, [], 2, 43),
  (6, yX6_findFairest, cX6_findFairest, 6, (some .int), 3, [], 3, 69),
  (6, yX6_sumHad, cX6_sumHad, 4, (some .int), 2, [], 2, 43),
  (6, yX6_kindWornBy, cX6_kindWornBy, 3, (some .int), 3, [], 1, 21),
  (7, yX7_init, cX7_init, 1, none, 1, [], 3, 67),
  (7, yX7_write, cX7_write, 4, (some .int), 3, [2], 1, 24),
  (7, yX7_wipe, cX7_wipe, 2, (some .int), 1, [], 0, 0),
  (7, yX7_fault, cX7_fault, 1, (some .int), 1, [], 5, 116),
  (7, yX7_lay, cX7_lay, 2, (some .int), 1, [], 5, 116),
  (7, yX7_person, cX7_person, 3, (some .int), 3, [], 2, 42),
  (7, yX7_had, cX7_had, 3, (some .int), 3, [], 2, 43),
  (7, yX7_mask, cX7_mask, 4, (some .int), 3, [], 1, 21),
  (7, yX7_dawn, cX7_dawn, 2, (some .int), 2, [], 3, 70),
  (7, yX7_change, cX7_change, 3, (some .int), 3, [], 3, 68),
  (7, yX7_deed, cX7_deed, 3, (some .int), 3, [], 3, 68),
  (7, yX7_sentence, cX7_sentence, 3, (some .int), 3, [], 3, 68),
  (7, yX7_pardon, cX7_pardon, 3, (some .int), 3, [], 3, 68),
  (7, yX7_undo, cX7_undo, 1, (some .int), 1, [], 3, 68),
  (7, yX7_chance, cX7_chance, 5, (some .int), 2, [], 4, 93),
  (7, yX7_anew, cX7_anew, 3, (some .int), 2, [], 5, 118),
  (7, yX7_liked, cX7_liked, 2, (some .int), 2, [], 5, 109),
  (7, yX7_allChange, cX7_allChange, 3, (some .int), 2, [], 6, 130),
  (7, yX7_rounds, cX7_rounds, 2, (some .int), 2, [], 5, 111),
  (7, yX7_seen, cX7_seen, 4, (some .int), 4, [], 2, 45),
  (7, yX7_forget, cX7_forget, 2, (some .int), 1, [], 1, 21),
  (7, yX7_fits, cX7_fits, 1, (some .int), 1, [], 4, 94),
  (7, yX7_sure, cX7_sure, 2, (some .int), 2, [], 4, 96)]
def zms3 : List (Nat × MethodName × ByteArray × Nat × Option FieldType × Nat × List Nat × Nat × Nat) := [
  (7, yX7_fairest, cX7_fairest, 3, (some .int), 2, [], 4, 94),
  (7, yX7_make, cX7_make, 4, (some .int), 3, [], 3, 68),
  (7, yX7_falseOne, cX7_falseOne, 4, (some .int), 1, [], 0, 0),
  (7, yX7_year, cX7_year, 6, (some .int), 5, [], 3, 70),
  (7, yX7_keep, cX7_keep, 1, (some .int), 1, [], 3, 68),
  (7, yX7_back, cX7_back, 1, (some .int), 1, [], 3, 68),
  (7, yX7_count, cX7_count, 2, (some .int), 2, [], 2, 40),
  (7, yX7_isPerson, cX7_isPerson, 2, (some .boolean), 2, [], 0, 0),
  (7, yX7_isMask, cX7_isMask, 2, (some .boolean), 2, [], 0, 0),
  (7, yX7_isKind, cX7_isKind, 2, (some .boolean), 2, [], 0, 0),
  (7, yX7_isDeed, cX7_isDeed, 1, (some .boolean), 1, [], 0, 0),
  (7, yX7_isDraw, cX7_isDraw, 1, (some .boolean), 1, [], 0, 0),
  (7, yX7_isJudge, cX7_isJudge, 2, (some .boolean), 2, [], 2, 42),
  (7, yX7_mayChangeHands, cX7_mayChangeHands, 2, (some .boolean), 2, [], 2, 42),
  (7, yX7_bestAnew, cX7_bestAnew, 6, (some .int), 1, [], 4, 93),
  (7, yX7_isWithin, cX7_isWithin, 3, (some .boolean), 3, [], 0, 0),
  (7, yX7_has, cX7_has, 2, (some .boolean), 2, [], 0, 0),
  (7, yX7_at, cX7_at, 2, (some .int), 2, [], 0, 0),
  (7, yX7_swap, cX7_swap, 4, none, 3, [], 1, 22),
  (7, yX7_commonDivisor, cX7_commonDivisor, 4, (some .int), 2, [], 0, 0),
  (8, yX8_init, cX8_init, 1, none, 1, [], 1, 23),
  (8, yX8_in, cX8_in, 6, (some .boolean), 3, [0, 2, 4], 0, 0),
  (8, yX8_write, cX8_write, 5, (some .int), 3, [2], 1, 25),
  (8, yX8_wipe, cX8_wipe, 2, (some .int), 1, [], 0, 0),
  (8, yX8_number, cX8_number, 3, (some .int), 1, [], 1, 25),
  (8, yX8_isWorth, cX8_isWorth, 2, (some .boolean), 1, [], 1, 25),
  (8, yX8_isItem, cX8_isItem, 5, (some .boolean), 1, [], 2, 48)]
def zms4 : List (Nat × MethodName × ByteArray × Nat × Option FieldType × Nat × List Nat × Nat × Nat) := [
  (8, yX8_isGood, cX8_isGood, 4, (some .boolean), 2, [], 1, 25),
  (8, yX8_begins, cX8_begins, 1, none, 1, [], 0, 0),
  (8, yX8_masks, cX8_masks, 3, (some .int), 1, [], 0, 0),
  (8, yX8_takes, cX8_takes, 4, none, 1, [], 0, 0),
  (8, yX8_fault, cX8_fault, 2, (some .int), 1, [], 3, 72),
  (8, yX8_lay, cX8_lay, 1, (some .int), 1, [], 4, 93),
  (8, yX8_isMan, cX8_isMan, 2, (some .boolean), 2, [], 1, 25),
  (8, yX8_isKind, cX8_isKind, 2, (some .boolean), 2, [], 1, 25),
  (8, yX8_kindOf, cX8_kindOf, 3, (some .int), 3, [], 0, 0),
  (8, yX8_person, cX8_person, 3, (some .int), 3, [], 2, 46),
  (8, yX8_had, cX8_had, 3, (some .int), 3, [], 2, 46),
  (8, yX8_mask, cX8_mask, 4, (some .int), 3, [], 2, 46),
  (8, yX8_copies, cX8_copies, 4, none, 3, [], 0, 0),
  (8, yX8_known, cX8_known, 2, none, 1, [], 1, 23),
  (8, yX8_dawns, cX8_dawns, 9, none, 3, [5], 1, 22),
  (8, yX8_dawn, cX8_dawn, 2, (some .int), 2, [], 2, 50),
  (8, yX8_mayGo, cX8_mayGo, 3, (some .boolean), 3, [], 1, 22),
  (8, yX8_trades, cX8_trades, 5, none, 4, [], 0, 0),
  (8, yX8_change, cX8_change, 3, (some .int), 3, [], 2, 46),
  (8, yX8_isRight, cX8_isRight, 4, (some .boolean), 4, [], 0, 0),
  (8, yX8_deed, cX8_deed, 3, (some .int), 3, [], 2, 46),
  (8, yX8_held, cX8_held, 3, (some .int), 1, [], 0, 0),
  (8, yX8_judges, cX8_judges, 4, (some .int), 4, [], 2, 46),
  (8, yX8_sentence, cX8_sentence, 3, (some .int), 3, [], 3, 69),
  (8, yX8_pardon, cX8_pardon, 3, (some .int), 3, [], 3, 69),
  (8, yX8_undo, cX8_undo, 1, (some .int), 1, [], 1, 23),
  (8, yX8_firstWay, cX8_firstWay, 2, none, 1, [], 0, 0)]
def zms5 : List (Nat × MethodName × ByteArray × Nat × Option FieldType × Nat × List Nat × Nat × Nat) := [
  (8, yX8_nextWay, cX8_nextWay, 7, (some .boolean), 1, [], 0, 0),
  (8, yX8_all, cX8_all, 3, (some .int), 1, [], 0, 0),
  (8, yX8_working, cX8_working, 5, (some .int), 1, [], 1, 26),
  (8, yX8_chance, cX8_chance, 6, (some .int), 2, [], 2, 50),
  (8, yX8_anew, cX8_anew, 9, (some .int), 2, [], 2, 50),
  (8, yX8_isLiked, cX8_isLiked, 6, (some .boolean), 4, [], 2, 44),
  (8, yX8_firstLiked, cX8_firstLiked, 4, (some .int), 2, [], 3, 69),
  (8, yX8_liked, cX8_liked, 5, (some .int), 2, [], 4, 92),
  (8, yX8_allChange, cX8_allChange, 4, (some .int), 2, [], 4, 92),
  (8, yX8_pointed, cX8_pointed, 6, (some .int), 3, [], 2, 44),
  (8, yX8_rounds, cX8_rounds, 7, (some .int), 2, [], 3, 69),
  (8, yX8_seen, cX8_seen, 4, (some .int), 4, [], 2, 46),
  (8, yX8_forget, cX8_forget, 2, (some .int), 1, [], 0, 0),
  (8, yX8_counts, cX8_counts, 7, (some .int), 2, [], 1, 26),
  (8, yX8_fits, cX8_fits, 1, (some .int), 1, [], 2, 52),
  (8, yX8_sure, cX8_sure, 2, (some .int), 2, [], 2, 52),
  (8, yX8_fairest, cX8_fairest, 6, (some .int), 2, [], 1, 26),
  (8, yX8_make, cX8_make, 4, (some .int), 3, [], 2, 46),
  (8, yX8_falseOne, cX8_falseOne, 4, (some .int), 1, [], 0, 0),
  (8, yX8_year, cX8_year, 6, (some .int), 5, [], 2, 50),
  (8, yX8_keep, cX8_keep, 1, (some .int), 1, [], 1, 23),
  (8, yX8_back, cX8_back, 1, (some .int), 1, [], 1, 23),
  (8, yX8_count, cX8_count, 2, (some .int), 2, [], 1, 22),
  (10, yJ6_bitCount_0f7a4, cJ6_bitCount_0f7a4, 1, (some .int), 1, [], 0, 0),
  (11, yJ9_max_7cf53, cJ9_max_7cf53, 2, (some .int), 2, [], 0, 0),
  (11, yJ9_min_7cf53, cJ9_min_7cf53, 2, (some .int), 2, [], 0, 0),
  (9, yL_law, cL_law, 4, (some .boolean), 1, [], 7, 152)]
def zms : List (Nat × MethodName × ByteArray × Nat × Option FieldType × Nat × List Nat × Nat × Nat) := zms0 ++ (zms1 ++ (zms2 ++ (zms3 ++ (zms4 ++ (zms5)))))
def zFL : List (Nat × Nat × Nat × Nat × Nat) := [(4, 9, 4, 0, 59), (4, 15, 4, 1, 60), (7, 88, 4, 1, 61), (4, 24, 4, 2, 62), (5, 27, 5, 0, 77), (1, 34, 5, 0, 78), (4, 62, 5, 0, 79), (7, 254, 5, 0, 80), (6, 21, 5, 1, 81), (0, 27, 5, 1, 82), (5, 31, 5, 1, 83), (1, 48, 5, 1, 84), (7, 106, 5, 1, 85), (4, 59, 5, 1, 86), (5, 34, 5, 2, 87), (5, 37, 5, 3, 88), (6, 52, 5, 3, 89), (4, 73, 5, 3, 90), (0, 40, 5, 4, 91), (5, 40, 5, 4, 92), (7, 263, 5, 4, 93), (5, 9, 5, 5, 94), (7, 156, 5, 5, 95), (5, 15, 5, 6, 96), (1, 55, 5, 6, 97), (7, 149, 5, 6, 98), (5, 18, 5, 7, 99), (1, 39, 5, 7, 100), (7, 257, 5, 7, 101), (5, 21, 5, 8, 102), (7, 112, 5, 8, 103), (5, 24, 5, 9, 104), (0, 54, 5, 9, 105), (1, 27, 1, 0, 133), (7, 162, 1, 0, 134), (1, 31, 1, 1, 135), (7, 129, 1, 1, 136), (1, 9, 1, 2, 137), (0, 44, 1, 2, 138), (7, 116, 1, 2, 139), (1, 15, 1, 3, 140), (0, 53, 1, 3, 141), (6, 37, 1, 3, 142), (7, 146, 1, 3, 143), (1, 18, 1, 4, 144), (7, 123, 1, 4, 145), (1, 21, 1, 5, 146), (7, 126, 1, 5, 147), (1, 24, 1, 6, 148), (2, 15, 2, 0, 176), (2, 22, 2, 1, 177), (7, 100, 2, 1, 178), (3, 9, 3, 0, 190), (3, 15, 3, 1, 191), (3, 18, 3, 2, 192), (7, 239, 3, 2, 193), (6, 9, 6, 0, 207), (6, 15, 6, 1, 208), (7, 251, 6, 1, 209), (6, 18, 6, 2, 210), (6, 33, 6, 3, 211), (6, 34, 6, 4, 212), (7, 201, 6, 4, 213), (0, 9, 0, 0, 231), (0, 15, 0, 1, 232), (0, 18, 0, 2, 233), (0, 21, 0, 3, 234), (0, 24, 0, 4, 235), (7, 232, 0, 4, 236), (0, 39, 0, 5, 237), (0, 43, 0, 6, 238), (7, 12, 7, 0, 273), (7, 19, 7, 1, 274), (7, 23, 7, 2, 275), (7, 29, 7, 3, 276), (7, 33, 7, 4, 277), (7, 41, 7, 5, 278), (7, 45, 7, 6, 279), (7, 51, 7, 7, 280), (7, 58, 7, 8, 281), (7, 65, 7, 9, 282), (8, 65, 8, 0, 705), (8, 7, 8, 1, 706), (8, 69, 8, 2, 707), (8, 13, 8, 3, 708), (8, 17, 8, 4, 709), (8, 20, 8, 5, 710), (8, 23, 8, 6, 711), (8, 26, 8, 7, 712), (8, 29, 8, 8, 713), (8, 32, 8, 9, 714), (8, 102, 8, 10, 715), (8, 99, 8, 11, 716), (8, 96, 8, 12, 717), (8, 35, 8, 13, 718), (8, 38, 8, 14, 719), (8, 41, 8, 15, 720), (8, 44, 8, 16, 721), (8, 47, 8, 17, 722), (8, 191, 8, 18, 723), (8, 50, 8, 19, 724)]
def zML : List (Nat × Nat × Nat × Nat × Nat × Nat × Nat × Nat × Nat) := [(0, 3, 0, 8, 230, 51, 0, 0, 52), (0, 33, 0, 11, 552, 518, 0, 38, 519), (0, 47, 0, 9, 553, 435, 436, 43, 0), (0, 55, 98, 3, 570, 389, 0, 33, 390), (0, 59, 2, 0, 566, 567, 568, 41, 569), (0, 63, 97, 3, 571, 392, 0, 33, 393), (0, 67, 3, 0, 562, 563, 564, 41, 565), (0, 71, 4, 0, 572, 573, 574, 41, 575), (0, 74, 5, 0, 558, 559, 560, 41, 561), (0, 77, 7, 0, 588, 577, 578, 41, 579), (0, 81, 99, 3, 589, 452, 0, 33, 453), (0, 85, 10, 0, 599, 600, 601, 41, 602), (0, 88, 11, 0, 603, 604, 605, 41, 606), (0, 91, 12, 0, 607, 608, 609, 41, 610), (1, 3, 0, 8, 132, 51, 0, 0, 52), (1, 42, 0, 9, 434, 435, 436, 43, 0), (1, 51, 18, 0, 441, 385, 386, 36, 387), (1, 58, 98, 3, 388, 389, 0, 33, 390), (1, 62, 96, 3, 442, 267, 0, 33, 268), (1, 66, 17, 0, 443, 444, 445, 36, 446), (1, 70, 99, 3, 451, 452, 0, 33, 453), (1, 82, 158, 1, 487, 488, 0, 44, 489), (2, 1, 0, 8, 169, 51, 0, 0, 52), (2, 7, 0, 10, 170, 171, 0, 38, 172), (2, 21, 13, 4, 175, 130, 0, 36, 131), (2, 26, 23, 0, 426, 427, 428, 37, 429), (2, 29, 15, 0, 430, 431, 432, 36, 433), (3, 3, 0, 8, 189, 51, 0, 0, 52), (3, 22, 96, 3, 619, 267, 0, 33, 268), (3, 26, 98, 3, 640, 389, 0, 33, 390), (4, 3, 0, 8, 58, 51, 0, 0, 52), (4, 19, 40, 0, 325, 326, 327, 35, 328), (4, 27, 32, 0, 329, 330, 331, 34, 332), (4, 31, 37, 0, 333, 334, 335, 34, 336), (4, 35, 33, 0, 337, 338, 339, 34, 340), (4, 38, 36, 0, 341, 342, 343, 34, 344), (4, 42, 42, 0, 350, 259, 260, 35, 261), (4, 46, 34, 0, 351, 352, 353, 34, 354), (4, 49, 35, 0, 356, 357, 358, 34, 359), (4, 52, 44, 0, 360, 361, 362, 35, 363), (4, 55, 41, 0, 349, 255, 256, 35, 257), (4, 65, 38, 1, 345, 346, 0, 34, 347), (4, 69, 43, 0, 355, 263, 264, 35, 265), (4, 76, 96, 3, 348, 267, 0, 33, 268), (5, 3, 0, 8, 76, 51, 0, 0, 52), (5, 43, 43, 0, 262, 263, 264, 35, 265), (5, 47, 96, 3, 266, 267, 0, 33, 268), (5, 51, 98, 3, 474, 389, 0, 33, 390), (6, 3, 0, 8, 206, 51, 0, 0, 52), (6, 27, 0, 11, 517, 518, 0, 38, 519), (6, 42, 46, 0, 520, 471, 472, 35, 473), (6, 44, 99, 3, 530, 452, 0, 33, 453), (6, 48, 48, 0, 513, 514, 515, 40, 516), (6, 55, 51, 0, 521, 522, 523, 40, 524), (6, 59, 49, 0, 526, 527, 528, 40, 529), (6, 62, 98, 3, 525, 389, 0, 33, 390), (6, 66, 54, 0, 632, 633, 634, 40, 635), (6, 70, 57, 0, 649, 650, 651, 40, 652), (6, 74, 28, 0, 636, 637, 638, 39, 639), (6, 80, 56, 0, 661, 662, 663, 40, 664), (6, 84, 0, 9, 666, 435, 436, 43, 0), (6, 90, 19, 0, 665, 403, 404, 36, 405), (7, 3, 0, 8, 50, 51, 0, 0, 52), (7, 11, 29, 4, 55, 56, 0, 34, 57), (7, 18, 39, 4, 73, 74, 0, 35, 75), (7, 28, 13, 4, 129, 130, 0, 36, 131), (7, 38, 21, 2, 166, 167, 0, 37, 168), (7, 50, 25, 4, 186, 187, 0, 39, 188), (7, 57, 47, 4, 203, 204, 0, 40, 205), (7, 64, 0, 4, 227, 228, 0, 41, 229), (7, 69, 41, 0, 254, 255, 256, 35, 257), (7, 73, 42, 0, 258, 259, 260, 35, 261), (7, 77, 14, 0, 269, 270, 271, 36, 272), (7, 81, 96, 1, 308, 267, 0, 33, 268), (7, 84, 30, 0, 309, 310, 311, 34, 312), (7, 92, 31, 0, 321, 322, 323, 34, 324), (7, 96, 45, 0, 368, 369, 370, 35, 371), (7, 103, 27, 0, 372, 373, 374, 39, 375), (7, 109, 88, 0, 380, 382, 0, 33, 383), (7, 119, 18, 0, 384, 385, 386, 36, 387), (7, 132, 97, 1, 391, 392, 0, 33, 393), (7, 136, 90, 0, 398, 400, 1, 33, 401), (7, 139, 19, 0, 402, 403, 404, 36, 405), (7, 143, 89, 0, 410, 412, 2, 33, 413), (7, 152, 98, 1, 414, 389, 0, 33, 390), (7, 159, 92, 1, 419, 420, 0, 33, 421), (7, 165, 22, 0, 422, 423, 424, 37, 425), (7, 169, 16, 0, 437, 438, 439, 36, 440), (7, 173, 94, 0, 458, 460, 3, 33, 461), (7, 176, 99, 1, 462, 452, 0, 33, 453), (7, 180, 91, 1, 467, 468, 0, 33, 469), (7, 183, 46, 0, 470, 471, 472, 35, 473), (7, 186, 93, 0, 479, 481, 4, 33, 482), (7, 189, 20, 0, 483, 484, 485, 36, 486), (7, 193, 24, 0, 501, 502, 503, 37, 504), (7, 197, 50, 0, 509, 510, 511, 40, 512), (7, 204, 100, 1, 531, 532, 0, 33, 533), (7, 207, 0, 10, 534, 171, 0, 38, 172), (7, 212, 95, 0, 539, 541, 5, 33, 542), (7, 215, 1, 0, 548, 549, 550, 41, 551), (7, 219, 6, 0, 554, 555, 556, 41, 557), (7, 222, 7, 0, 576, 577, 578, 41, 579), (7, 225, 8, 0, 584, 585, 586, 41, 587), (7, 228, 2, 0, 590, 567, 568, 41, 569), (7, 229, 9, 0, 595, 596, 597, 41, 598), (7, 235, 26, 0, 615, 616, 617, 39, 618), (7, 240, 52, 0, 628, 629, 630, 40, 631), (7, 244, 53, 0, 645, 646, 647, 40, 648), (7, 248, 55, 0, 657, 658, 659, 40, 660), (7, 260, 15, 0, 543, 431, 432, 36, 433), (8, 1, 0, 8, 696, 51, 0, 0, 52), (8, 53, 109, 0, 697, 699, 6, 42, 700), (8, 56, 111, 0, 701, 703, 7, 42, 704), (8, 61, 102, 1, 772, 773, 0, 42, 774), (8, 78, 106, 0, 787, 789, 9, 42, 790), (8, 82, 105, 0, 793, 795, 10, 42, 796), (8, 86, 108, 0, 798, 800, 11, 42, 801), (8, 105, 107, 0, 783, 785, 8, 42, 786), (8, 108, 112, 0, 809, 780, 781, 42, 782), (8, 111, 110, 0, 810, 812, 12, 42, 813), (8, 114, 114, 0, 818, 820, 13, 42, 821), (8, 119, 116, 0, 823, 825, 14, 42, 826), (8, 123, 115, 0, 831, 833, 15, 42, 834), (8, 128, 120, 0, 849, 851, 17, 42, 852), (8, 142, 121, 0, 845, 847, 16, 42, 848), (8, 145, 122, 0, 853, 855, 18, 42, 856), (8, 148, 124, 0, 865, 867, 19, 42, 868), (8, 152, 125, 0, 869, 871, 20, 42, 872), (8, 156, 127, 0, 877, 879, 21, 42, 880), (8, 160, 129, 0, 889, 891, 23, 42, 892), (8, 163, 130, 0, 885, 887, 22, 42, 888), (8, 167, 134, 0, 909, 911, 25, 42, 912), (8, 170, 135, 0, 913, 915, 26, 42, 916), (8, 173, 137, 0, 905, 907, 24, 42, 908), (8, 176, 136, 0, 917, 919, 27, 42, 920), (8, 179, 140, 0, 933, 935, 29, 42, 936), (8, 182, 141, 0, 929, 931, 28, 42, 932), (8, 188, 144, 0, 946, 948, 30, 42, 949), (8, 194, 148, 0, 962, 964, 31, 42, 965), (9, 9, 58, 2, 47, 48, 0, 33, 49), (9, 12, 101, 2, 693, 694, 0, 42, 695), (9, 15, 59, 0, 304, 305, 306, 33, 307), (9, 19, 103, 0, 767, 768, 769, 42, 770), (9, 20, 60, 0, 313, 314, 315, 33, 316), (9, 24, 104, 0, 775, 776, 777, 42, 778), (9, 25, 61, 0, 317, 318, 319, 33, 320), (9, 28, 112, 0, 779, 780, 781, 42, 782), (9, 29, 62, 0, 364, 365, 366, 33, 367), (9, 32, 113, 0, 805, 806, 807, 42, 808), (9, 33, 63, 0, 376, 377, 378, 33, 379), (9, 37, 117, 0, 814, 815, 816, 42, 817), (9, 38, 64, 0, 394, 395, 396, 33, 397), (9, 41, 118, 0, 827, 828, 829, 42, 830), (9, 42, 65, 0, 406, 407, 408, 33, 409), (9, 45, 119, 0, 835, 836, 837, 42, 838), (9, 46, 66, 0, 415, 416, 417, 33, 418), (9, 50, 123, 0, 840, 841, 842, 42, 843), (9, 51, 67, 0, 454, 455, 456, 33, 457), (9, 54, 126, 0, 861, 862, 863, 42, 864), (9, 55, 68, 0, 463, 464, 465, 33, 466), (9, 58, 128, 0, 873, 874, 875, 42, 876), (9, 59, 69, 0, 475, 476, 477, 33, 478), (9, 62, 131, 0, 881, 882, 883, 42, 884), (9, 63, 70, 0, 493, 494, 495, 33, 496), (9, 66, 132, 0, 893, 894, 895, 42, 896), (9, 67, 71, 0, 497, 498, 499, 33, 500), (9, 70, 133, 0, 897, 898, 899, 42, 900), (9, 71, 72, 0, 505, 506, 507, 33, 508), (9, 74, 138, 0, 901, 902, 903, 42, 904), (9, 75, 73, 0, 535, 536, 537, 33, 538), (9, 78, 139, 0, 921, 922, 923, 42, 924), (9, 79, 74, 0, 544, 545, 546, 33, 547), (9, 82, 142, 0, 925, 926, 927, 42, 928), (9, 83, 75, 0, 580, 581, 582, 33, 583), (9, 86, 143, 0, 937, 938, 939, 42, 940), (9, 87, 76, 0, 591, 592, 593, 33, 594), (9, 90, 145, 0, 942, 943, 944, 42, 945), (9, 91, 77, 0, 611, 612, 613, 33, 614), (9, 95, 146, 0, 950, 951, 952, 42, 953), (9, 96, 78, 0, 620, 621, 622, 33, 623), (9, 99, 147, 0, 954, 955, 956, 42, 957), (9, 100, 79, 0, 624, 625, 626, 33, 627), (9, 103, 149, 0, 958, 959, 960, 42, 961), (9, 104, 80, 0, 641, 642, 643, 33, 644), (9, 107, 150, 0, 966, 967, 968, 42, 969), (9, 108, 81, 0, 653, 654, 655, 33, 656), (9, 111, 151, 0, 970, 971, 972, 42, 973), (9, 112, 82, 0, 667, 668, 669, 33, 670), (9, 115, 152, 0, 974, 975, 976, 42, 977), (9, 116, 83, 0, 671, 672, 673, 33, 674), (9, 119, 153, 0, 978, 979, 980, 42, 981), (9, 120, 84, 0, 675, 676, 677, 33, 678), (9, 124, 154, 0, 982, 983, 984, 42, 985), (9, 125, 85, 0, 679, 680, 681, 33, 682), (9, 128, 155, 0, 987, 988, 989, 42, 990), (9, 129, 86, 0, 683, 684, 685, 33, 686), (9, 132, 156, 0, 991, 992, 993, 42, 994), (9, 133, 87, 0, 687, 688, 689, 33, 690), (9, 136, 157, 0, 995, 996, 997, 42, 998)]
def zKL : List (Nat × Nat × Int64 × Nat) := [(1, 74, 7919, 447), (1, 76, 6151, 448), (1, 78, 3571, 449), (1, 80, 65521, 450), (8, 59, 8, 771), (8, 72, 48, 791), (8, 74, 57, 792), (8, 76, 3, 797), (8, 90, 63, 802), (8, 92, 99, 803), (8, 94, 6, 804), (8, 117, 5, 822), (8, 126, 2, 839), (8, 140, 9999, 844), (8, 132, 7919, 857), (8, 134, 6151, 858), (8, 136, 3571, 859), (8, 138, 65521, 860), (8, 186, -1, 941), (8, 197, 60, 986), (9, 13, 4294967295, 999)]
def zKI : List (Nat × Nat × Int32 × Nat) := [(10, 265, 1431655765, 490), (10, 266, 858993459, 491), (10, 267, 252645135, 492)]
/-- new: class link, the class, where the words stand -/
def zNL : List (Nat × Nat × Nat × Nat × Nat × Nat) := [(9, 7, 7, 45, 46, 33), (7, 9, 4, 53, 54, 34), (7, 16, 5, 71, 72, 35), (7, 26, 1, 127, 128, 36), (7, 36, 2, 164, 165, 37), (2, 13, 1, 173, 128, 36), (7, 48, 3, 184, 185, 39), (7, 55, 6, 201, 202, 40), (7, 62, 0, 225, 226, 41), (9, 10, 8, 691, 692, 42)]
def zNW : List Cond := lw_tbl.filter (fun w => match w with | .methodLinkNest _ _ _ _ => true | _ => false)
