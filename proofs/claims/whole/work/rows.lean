section
-- ===== PART A: goes FIRST, ahead of the names: the tables' words, and 'selects' of the private methods out of them =====
/-- a private method of a class that the tables say can be made, by its rows of tables_1 -/
def lw_okq (q : MethodName × Nat) : Prop := (q.1.cls ≠ "java/lang/invoke/MethodHandle" ∧ q.1.cls ≠ "java/lang/invoke/VarHandle") ∧ Cond.instantiable q.1.cls q.2 ∈ tables_1 ∧ Cond.privateMethod q.1 ∈ tables_1 ∧ Cond.instanceMethod q.1 ∈ tables_1
theorem lw_p0 : lw_okq (⟨"MasksAtDawn", "isPerson", "(I)Z"⟩, 10) := ⟨⟨by decide +kernel, by decide +kernel⟩, List.mem_of_getElem? (i := 14) (by decide +kernel), List.mem_of_getElem? (i := 346) (by decide +kernel), List.mem_of_getElem? (i := 347) (by decide +kernel)⟩
theorem lw_p1 : lw_okq (⟨"MasksAtDawn", "isKind", "(I)Z"⟩, 10) := ⟨⟨by decide +kernel, by decide +kernel⟩, List.mem_of_getElem? (i := 14) (by decide +kernel), List.mem_of_getElem? (i := 364) (by decide +kernel), List.mem_of_getElem? (i := 365) (by decide +kernel)⟩
theorem lw_p2 : lw_okq (⟨"MasksAtDawn", "isMask", "(I)Z"⟩, 10) := ⟨⟨by decide +kernel, by decide +kernel⟩, List.mem_of_getElem? (i := 14) (by decide +kernel), List.mem_of_getElem? (i := 376) (by decide +kernel), List.mem_of_getElem? (i := 377) (by decide +kernel)⟩
theorem lw_p3 : lw_okq (⟨"MasksAtDawn", "mayChangeHands", "(I)Z"⟩, 10) := ⟨⟨by decide +kernel, by decide +kernel⟩, List.mem_of_getElem? (i := 14) (by decide +kernel), List.mem_of_getElem? (i := 424) (by decide +kernel), List.mem_of_getElem? (i := 425) (by decide +kernel)⟩
theorem lw_p4 : lw_okq (⟨"MasksAtDawn", "isJudge", "(I)Z"⟩, 10) := ⟨⟨by decide +kernel, by decide +kernel⟩, List.mem_of_getElem? (i := 14) (by decide +kernel), List.mem_of_getElem? (i := 445) (by decide +kernel), List.mem_of_getElem? (i := 446) (by decide +kernel)⟩
theorem lw_p5 : lw_okq (⟨"MasksAtDawn", "bestAnew", "()I"⟩, 10) := ⟨⟨by decide +kernel, by decide +kernel⟩, List.mem_of_getElem? (i := 14) (by decide +kernel), List.mem_of_getElem? (i := 509) (by decide +kernel), List.mem_of_getElem? (i := 510) (by decide +kernel)⟩
theorem lw_p6 : lw_okq (⟨"MasksAtDawnModel", "begins", "()V"⟩, 20) := ⟨⟨by decide +kernel, by decide +kernel⟩, List.mem_of_getElem? (i := 657) (by decide +kernel), List.mem_of_getElem? (i := 663) (by decide +kernel), List.mem_of_getElem? (i := 664) (by decide +kernel)⟩
theorem lw_p7 : lw_okq (⟨"MasksAtDawnModel", "takes", "()V"⟩, 20) := ⟨⟨by decide +kernel, by decide +kernel⟩, List.mem_of_getElem? (i := 657) (by decide +kernel), List.mem_of_getElem? (i := 667) (by decide +kernel), List.mem_of_getElem? (i := 668) (by decide +kernel)⟩
theorem lw_p8 : lw_okq (⟨"MasksAtDawnModel", "isItem", "()Z"⟩, 20) := ⟨⟨by decide +kernel, by decide +kernel⟩, List.mem_of_getElem? (i := 657) (by decide +kernel), List.mem_of_getElem? (i := 749) (by decide +kernel), List.mem_of_getElem? (i := 750) (by decide +kernel)⟩
theorem lw_p9 : lw_okq (⟨"MasksAtDawnModel", "isWorth", "()Z"⟩, 20) := ⟨⟨by decide +kernel, by decide +kernel⟩, List.mem_of_getElem? (i := 657) (by decide +kernel), List.mem_of_getElem? (i := 753) (by decide +kernel), List.mem_of_getElem? (i := 754) (by decide +kernel)⟩
theorem lw_p10 : lw_okq (⟨"MasksAtDawnModel", "number", "()I"⟩, 20) := ⟨⟨by decide +kernel, by decide +kernel⟩, List.mem_of_getElem? (i := 657) (by decide +kernel), List.mem_of_getElem? (i := 759) (by decide +kernel), List.mem_of_getElem? (i := 760) (by decide +kernel)⟩
theorem lw_p11 : lw_okq (⟨"MasksAtDawnModel", "isGood", "(I)Z"⟩, 20) := ⟨⟨by decide +kernel, by decide +kernel⟩, List.mem_of_getElem? (i := 657) (by decide +kernel), List.mem_of_getElem? (i := 764) (by decide +kernel), List.mem_of_getElem? (i := 765) (by decide +kernel)⟩
theorem lw_p12 : lw_okq (⟨"MasksAtDawnModel", "masks", "()I"⟩, 20) := ⟨⟨by decide +kernel, by decide +kernel⟩, List.mem_of_getElem? (i := 657) (by decide +kernel), List.mem_of_getElem? (i := 776) (by decide +kernel), List.mem_of_getElem? (i := 777) (by decide +kernel)⟩
theorem lw_p13 : lw_okq (⟨"MasksAtDawnModel", "isMan", "(I)Z"⟩, 20) := ⟨⟨by decide +kernel, by decide +kernel⟩, List.mem_of_getElem? (i := 657) (by decide +kernel), List.mem_of_getElem? (i := 784) (by decide +kernel), List.mem_of_getElem? (i := 785) (by decide +kernel)⟩
theorem lw_p14 : lw_okq (⟨"MasksAtDawnModel", "kindOf", "(II)I"⟩, 20) := ⟨⟨by decide +kernel, by decide +kernel⟩, List.mem_of_getElem? (i := 657) (by decide +kernel), List.mem_of_getElem? (i := 789) (by decide +kernel), List.mem_of_getElem? (i := 790) (by decide +kernel)⟩
theorem lw_p15 : lw_okq (⟨"MasksAtDawnModel", "isKind", "(I)Z"⟩, 20) := ⟨⟨by decide +kernel, by decide +kernel⟩, List.mem_of_getElem? (i := 657) (by decide +kernel), List.mem_of_getElem? (i := 797) (by decide +kernel), List.mem_of_getElem? (i := 798) (by decide +kernel)⟩
def lw_privs_1 : List (MethodName × Nat) := [(⟨"MasksAtDawn", "isPerson", "(I)Z"⟩, 10), (⟨"MasksAtDawn", "isKind", "(I)Z"⟩, 10), (⟨"MasksAtDawn", "isMask", "(I)Z"⟩, 10), (⟨"MasksAtDawn", "mayChangeHands", "(I)Z"⟩, 10), (⟨"MasksAtDawn", "isJudge", "(I)Z"⟩, 10), (⟨"MasksAtDawn", "bestAnew", "()I"⟩, 10), (⟨"MasksAtDawnModel", "begins", "()V"⟩, 20), (⟨"MasksAtDawnModel", "takes", "()V"⟩, 20), (⟨"MasksAtDawnModel", "isItem", "()Z"⟩, 20), (⟨"MasksAtDawnModel", "isWorth", "()Z"⟩, 20), (⟨"MasksAtDawnModel", "number", "()I"⟩, 20), (⟨"MasksAtDawnModel", "isGood", "(I)Z"⟩, 20), (⟨"MasksAtDawnModel", "masks", "()I"⟩, 20), (⟨"MasksAtDawnModel", "isMan", "(I)Z"⟩, 20), (⟨"MasksAtDawnModel", "kindOf", "(II)I"⟩, 20), (⟨"MasksAtDawnModel", "isKind", "(I)Z"⟩, 20)]
theorem lw_r1 : ∀ q ∈ lw_privs_1, lw_okq q := List.forall_mem_cons.mpr ⟨lw_p0, List.forall_mem_cons.mpr ⟨lw_p1, List.forall_mem_cons.mpr ⟨lw_p2, List.forall_mem_cons.mpr ⟨lw_p3, List.forall_mem_cons.mpr ⟨lw_p4, List.forall_mem_cons.mpr ⟨lw_p5, List.forall_mem_cons.mpr ⟨lw_p6, List.forall_mem_cons.mpr ⟨lw_p7, List.forall_mem_cons.mpr ⟨lw_p8, List.forall_mem_cons.mpr ⟨lw_p9, List.forall_mem_cons.mpr ⟨lw_p10, List.forall_mem_cons.mpr ⟨lw_p11, List.forall_mem_cons.mpr ⟨lw_p12, List.forall_mem_cons.mpr ⟨lw_p13, List.forall_mem_cons.mpr ⟨lw_p14, List.forall_mem_cons.mpr ⟨lw_p15, fun _ h => absurd h List.not_mem_nil⟩⟩⟩⟩⟩⟩⟩⟩⟩⟩⟩⟩⟩⟩⟩⟩
theorem lw_p16 : lw_okq (⟨"MasksAtDawnModel", "known", "()V"⟩, 20) := ⟨⟨by decide +kernel, by decide +kernel⟩, List.mem_of_getElem? (i := 657) (by decide +kernel), List.mem_of_getElem? (i := 811) (by decide +kernel), List.mem_of_getElem? (i := 812) (by decide +kernel)⟩
theorem lw_p17 : lw_okq (⟨"MasksAtDawnModel", "copies", "(II)V"⟩, 20) := ⟨⟨by decide +kernel, by decide +kernel⟩, List.mem_of_getElem? (i := 657) (by decide +kernel), List.mem_of_getElem? (i := 815) (by decide +kernel), List.mem_of_getElem? (i := 816) (by decide +kernel)⟩
theorem lw_p18 : lw_okq (⟨"MasksAtDawnModel", "dawns", "(II)V"⟩, 20) := ⟨⟨by decide +kernel, by decide +kernel⟩, List.mem_of_getElem? (i := 657) (by decide +kernel), List.mem_of_getElem? (i := 819) (by decide +kernel), List.mem_of_getElem? (i := 820) (by decide +kernel)⟩
theorem lw_p19 : lw_okq (⟨"MasksAtDawnModel", "mayGo", "(II)Z"⟩, 20) := ⟨⟨by decide +kernel, by decide +kernel⟩, List.mem_of_getElem? (i := 657) (by decide +kernel), List.mem_of_getElem? (i := 831) (by decide +kernel), List.mem_of_getElem? (i := 832) (by decide +kernel)⟩
theorem lw_p20 : lw_okq (⟨"MasksAtDawnModel", "trades", "(III)V"⟩, 20) := ⟨⟨by decide +kernel, by decide +kernel⟩, List.mem_of_getElem? (i := 657) (by decide +kernel), List.mem_of_getElem? (i := 835) (by decide +kernel), List.mem_of_getElem? (i := 836) (by decide +kernel)⟩
theorem lw_p21 : lw_okq (⟨"MasksAtDawnModel", "isRight", "(III)Z"⟩, 20) := ⟨⟨by decide +kernel, by decide +kernel⟩, List.mem_of_getElem? (i := 657) (by decide +kernel), List.mem_of_getElem? (i := 843) (by decide +kernel), List.mem_of_getElem? (i := 844) (by decide +kernel)⟩
theorem lw_p22 : lw_okq (⟨"MasksAtDawnModel", "judges", "(III)I"⟩, 20) := ⟨⟨by decide +kernel, by decide +kernel⟩, List.mem_of_getElem? (i := 657) (by decide +kernel), List.mem_of_getElem? (i := 851) (by decide +kernel), List.mem_of_getElem? (i := 852) (by decide +kernel)⟩
theorem lw_p23 : lw_okq (⟨"MasksAtDawnModel", "held", "()I"⟩, 20) := ⟨⟨by decide +kernel, by decide +kernel⟩, List.mem_of_getElem? (i := 657) (by decide +kernel), List.mem_of_getElem? (i := 855) (by decide +kernel), List.mem_of_getElem? (i := 856) (by decide +kernel)⟩
theorem lw_p24 : lw_okq (⟨"MasksAtDawnModel", "working", "()I"⟩, 20) := ⟨⟨by decide +kernel, by decide +kernel⟩, List.mem_of_getElem? (i := 657) (by decide +kernel), List.mem_of_getElem? (i := 871) (by decide +kernel), List.mem_of_getElem? (i := 872) (by decide +kernel)⟩
theorem lw_p25 : lw_okq (⟨"MasksAtDawnModel", "firstWay", "()V"⟩, 20) := ⟨⟨by decide +kernel, by decide +kernel⟩, List.mem_of_getElem? (i := 657) (by decide +kernel), List.mem_of_getElem? (i := 875) (by decide +kernel), List.mem_of_getElem? (i := 876) (by decide +kernel)⟩
theorem lw_p26 : lw_okq (⟨"MasksAtDawnModel", "nextWay", "()Z"⟩, 20) := ⟨⟨by decide +kernel, by decide +kernel⟩, List.mem_of_getElem? (i := 657) (by decide +kernel), List.mem_of_getElem? (i := 879) (by decide +kernel), List.mem_of_getElem? (i := 880) (by decide +kernel)⟩
theorem lw_p27 : lw_okq (⟨"MasksAtDawnModel", "all", "()I"⟩, 20) := ⟨⟨by decide +kernel, by decide +kernel⟩, List.mem_of_getElem? (i := 657) (by decide +kernel), List.mem_of_getElem? (i := 883) (by decide +kernel), List.mem_of_getElem? (i := 884) (by decide +kernel)⟩
theorem lw_p28 : lw_okq (⟨"MasksAtDawnModel", "firstLiked", "(I)I"⟩, 20) := ⟨⟨by decide +kernel, by decide +kernel⟩, List.mem_of_getElem? (i := 657) (by decide +kernel), List.mem_of_getElem? (i := 895) (by decide +kernel), List.mem_of_getElem? (i := 896) (by decide +kernel)⟩
theorem lw_p29 : lw_okq (⟨"MasksAtDawnModel", "isLiked", "(III)Z"⟩, 20) := ⟨⟨by decide +kernel, by decide +kernel⟩, List.mem_of_getElem? (i := 657) (by decide +kernel), List.mem_of_getElem? (i := 899) (by decide +kernel), List.mem_of_getElem? (i := 900) (by decide +kernel)⟩
theorem lw_p30 : lw_okq (⟨"MasksAtDawnModel", "pointed", "(II)I"⟩, 20) := ⟨⟨by decide +kernel, by decide +kernel⟩, List.mem_of_getElem? (i := 657) (by decide +kernel), List.mem_of_getElem? (i := 912) (by decide +kernel), List.mem_of_getElem? (i := 913) (by decide +kernel)⟩
theorem lw_p31 : lw_okq (⟨"MasksAtDawnModel", "counts", "(I)I"⟩, 20) := ⟨⟨by decide +kernel, by decide +kernel⟩, List.mem_of_getElem? (i := 657) (by decide +kernel), List.mem_of_getElem? (i := 928) (by decide +kernel), List.mem_of_getElem? (i := 929) (by decide +kernel)⟩
def lw_privs_2 : List (MethodName × Nat) := [(⟨"MasksAtDawnModel", "known", "()V"⟩, 20), (⟨"MasksAtDawnModel", "copies", "(II)V"⟩, 20), (⟨"MasksAtDawnModel", "dawns", "(II)V"⟩, 20), (⟨"MasksAtDawnModel", "mayGo", "(II)Z"⟩, 20), (⟨"MasksAtDawnModel", "trades", "(III)V"⟩, 20), (⟨"MasksAtDawnModel", "isRight", "(III)Z"⟩, 20), (⟨"MasksAtDawnModel", "judges", "(III)I"⟩, 20), (⟨"MasksAtDawnModel", "held", "()I"⟩, 20), (⟨"MasksAtDawnModel", "working", "()I"⟩, 20), (⟨"MasksAtDawnModel", "firstWay", "()V"⟩, 20), (⟨"MasksAtDawnModel", "nextWay", "()Z"⟩, 20), (⟨"MasksAtDawnModel", "all", "()I"⟩, 20), (⟨"MasksAtDawnModel", "firstLiked", "(I)I"⟩, 20), (⟨"MasksAtDawnModel", "isLiked", "(III)Z"⟩, 20), (⟨"MasksAtDawnModel", "pointed", "(II)I"⟩, 20), (⟨"MasksAtDawnModel", "counts", "(I)I"⟩, 20)]
theorem lw_r2 : ∀ q ∈ lw_privs_2, lw_okq q := List.forall_mem_cons.mpr ⟨lw_p16, List.forall_mem_cons.mpr ⟨lw_p17, List.forall_mem_cons.mpr ⟨lw_p18, List.forall_mem_cons.mpr ⟨lw_p19, List.forall_mem_cons.mpr ⟨lw_p20, List.forall_mem_cons.mpr ⟨lw_p21, List.forall_mem_cons.mpr ⟨lw_p22, List.forall_mem_cons.mpr ⟨lw_p23, List.forall_mem_cons.mpr ⟨lw_p24, List.forall_mem_cons.mpr ⟨lw_p25, List.forall_mem_cons.mpr ⟨lw_p26, List.forall_mem_cons.mpr ⟨lw_p27, List.forall_mem_cons.mpr ⟨lw_p28, List.forall_mem_cons.mpr ⟨lw_p29, List.forall_mem_cons.mpr ⟨lw_p30, List.forall_mem_cons.mpr ⟨lw_p31, fun _ h => absurd h List.not_mem_nil⟩⟩⟩⟩⟩⟩⟩⟩⟩⟩⟩⟩⟩⟩⟩⟩
def lw_privs : List (MethodName × Nat) := lw_privs_1 ++ (lw_privs_2)
def lw_tbl : List Cond := k2_sels lw_privs ++ tables_1
theorem lw_privs_ok : ∀ q ∈ lw_privs, lw_okq q := by
  show ∀ q ∈ lw_privs_1 ++ (lw_privs_2), lw_okq q
  exact List.forall_mem_append.mpr ⟨lw_r1, lw_r2⟩
def RX0 : String := "MasksAtDawn$Alley"
def TX0 : u_T := fun k => match k with
  | 0 => ("MasksAtDawn$Alley", "worn", "[I", true)
  | 1 => ("MasksAtDawn$Alley", "kindOf", "[I", true)
  | 2 => ("MasksAtDawn$Alley", "worths", "[I", true)
  | 3 => ("MasksAtDawn$Alley", "pointsTo", "[I", true)
  | 4 => ("MasksAtDawn$Alley", "taken", "[I", true)
  | 5 => ("MasksAtDawn$Alley", "persons", "I", false)
  | _ => ("MasksAtDawn$Alley", "locked", "I", false)
def tyX0 : Nat → FieldType := fun k => match k with
  | 0 => .array .int
  | 1 => .array .int
  | 2 => .array .int
  | 3 => .array .int
  | 4 => .array .int
  | 5 => .int
  | _ => .int
theorem nmX0 : ∀ a, a < 7 → ∀ b, b < 7 → a ≠ b → (TX0 a).2.1 ≠ (TX0 b).2.1 := by decide +kernel
theorem tyX0_ok : ∀ k, k < 7 → parseFieldDescriptor (TX0 k).2.2.1 = some (tyX0 k) := by decide +kernel
abbrev cX0_init : ByteArray := prog_2_method_1_code
def yX0_init : MethodName := ⟨RX0, "<init>", "()V"⟩
abbrev cX0_enter : ByteArray := prog_2_method_2_code
def yX0_enter : MethodName := ⟨RX0, "enter", "(LMasksAtDawn$Town;LMasksAtDawn$Day;)V"⟩
abbrev cX0_kindWornBy : ByteArray := prog_2_method_3_code
def yX0_kindWornBy : MethodName := ⟨RX0, "kindWornBy", "(I)I"⟩
abbrev cX0_isFree : ByteArray := prog_2_method_4_code
def yX0_isFree : MethodName := ⟨RX0, "isFree", "(I)Z"⟩
abbrev cX0_worth : ByteArray := prog_2_method_5_code
def yX0_worth : MethodName := ⟨RX0, "worth", "(II)I"⟩
abbrev cX0_wouldBoth : ByteArray := prog_2_method_6_code
def yX0_wouldBoth : MethodName := ⟨RX0, "wouldBoth", "(II)Z"⟩
abbrev cX0_howManyLiked : ByteArray := prog_2_method_7_code
def yX0_howManyLiked : MethodName := ⟨RX0, "howManyLiked", "()I"⟩
abbrev cX0_firstLiked : ByteArray := prog_2_method_8_code
def yX0_firstLiked : MethodName := ⟨RX0, "firstLiked", "()I"⟩
abbrev cX0_changeAllLiked : ByteArray := prog_2_method_9_code
def yX0_changeAllLiked : MethodName := ⟨RX0, "changeAllLiked", "()I"⟩
abbrev cX0_goRound : ByteArray := prog_2_method_10_code
def yX0_goRound : MethodName := ⟨RX0, "goRound", "()V"⟩
abbrev cX0_bestOf : ByteArray := prog_2_method_11_code
def yX0_bestOf : MethodName := ⟨RX0, "bestOf", "(II)I"⟩
abbrev cX0_leaveInRings : ByteArray := prog_2_method_12_code
def yX0_leaveInRings : MethodName := ⟨RX0, "leaveInRings", "(I)I"⟩
abbrev cX0_isInRing : ByteArray := prog_2_method_13_code
def yX0_isInRing : MethodName := ⟨RX0, "isInRing", "(I)Z"⟩
def RX1 : String := "MasksAtDawn$Day"
def TX1 : u_T := fun k => match k with
  | 0 => ("MasksAtDawn$Day", "number", "I", false)
  | 1 => ("MasksAtDawn$Day", "held", "I", false)
  | 2 => ("MasksAtDawn$Day", "worn", "[I", true)
  | 3 => ("MasksAtDawn$Day", "kindOf", "[I", true)
  | 4 => ("MasksAtDawn$Day", "earned", "[I", true)
  | 5 => ("MasksAtDawn$Day", "wrong", "[I", true)
  | _ => ("MasksAtDawn$Day", "times", "[I", true)
def tyX1 : Nat → FieldType := fun k => match k with
  | 0 => .int
  | 1 => .int
  | 2 => .array .int
  | 3 => .array .int
  | 4 => .array .int
  | 5 => .array .int
  | _ => .array .int
theorem nmX1 : ∀ a, a < 7 → ∀ b, b < 7 → a ≠ b → (TX1 a).2.1 ≠ (TX1 b).2.1 := by decide +kernel
theorem tyX1_ok : ∀ k, k < 7 → parseFieldDescriptor (TX1 k).2.2.1 = some (tyX1 k) := by decide +kernel
abbrev cX1_init : ByteArray := prog_3_method_1_code
def yX1_init : MethodName := ⟨RX1, "<init>", "()V"⟩
abbrev cX1_begin : ByteArray := prog_3_method_2_code
def yX1_begin : MethodName := ⟨RX1, "begin", "(LMasksAtDawn$Town;)V"⟩
abbrev cX1_copyFrom : ByteArray := prog_3_method_3_code
def yX1_copyFrom : MethodName := ⟨RX1, "copyFrom", "(LMasksAtDawn$Day;)V"⟩
abbrev cX1_turn : ByteArray := prog_3_method_4_code
def yX1_turn : MethodName := ⟨RX1, "turn", "(LMasksAtDawn$Town;I)V"⟩
abbrev cX1_lot : ByteArray := prog_3_method_5_code
def yX1_lot : MethodName := ⟨RX1, "lot", "(II)I"⟩
abbrev cX1_kindWornBy : ByteArray := prog_3_method_6_code
def yX1_kindWornBy : MethodName := ⟨RX1, "kindWornBy", "(I)I"⟩
abbrev cX1_timesHad : ByteArray := prog_3_method_7_code
def yX1_timesHad : MethodName := ⟨RX1, "timesHad", "(II)I"⟩
abbrev cX1_howManyHeld : ByteArray := prog_3_method_8_code
def yX1_howManyHeld : MethodName := ⟨RX1, "howManyHeld", "()I"⟩
def RX2 : String := "MasksAtDawn$Shelf"
def TX2 : u_T := fun k => match k with
  | 0 => ("MasksAtDawn$Shelf", "days", "[LMasksAtDawn$Day;", true)
  | _ => ("MasksAtDawn$Shelf", "size", "I", false)
def tyX2 : Nat → FieldType := fun k => match k with
  | 0 => .array (.object "MasksAtDawn$Day")
  | _ => .int
theorem nmX2 : ∀ a, a < 2 → ∀ b, b < 2 → a ≠ b → (TX2 a).2.1 ≠ (TX2 b).2.1 := by decide +kernel
theorem tyX2_ok : ∀ k, k < 2 → parseFieldDescriptor (TX2 k).2.2.1 = some (tyX2 k) := by decide +kernel
abbrev cX2_init : ByteArray := prog_4_method_1_code
def yX2_init : MethodName := ⟨RX2, "<init>", "(I)V"⟩
abbrev cX2_push : ByteArray := prog_4_method_2_code
def yX2_push : MethodName := ⟨RX2, "push", "(LMasksAtDawn$Day;)V"⟩
abbrev cX2_dropOldest : ByteArray := prog_4_method_3_code
def yX2_dropOldest : MethodName := ⟨RX2, "dropOldest", "()V"⟩
abbrev cX2_popInto : ByteArray := prog_4_method_4_code
def yX2_popInto : MethodName := ⟨RX2, "popInto", "(LMasksAtDawn$Day;)Z"⟩
def RX3 : String := "MasksAtDawn$Sightings"
def TX3 : u_T := fun k => match k with
  | 0 => ("MasksAtDawn$Sightings", "could", "[I", true)
  | 1 => ("MasksAtDawn$Sightings", "couldNot", "[I", true)
  | _ => ("MasksAtDawn$Sightings", "size", "I", false)
def tyX3 : Nat → FieldType := fun k => match k with
  | 0 => .array .int
  | 1 => .array .int
  | _ => .int
theorem nmX3 : ∀ a, a < 3 → ∀ b, b < 3 → a ≠ b → (TX3 a).2.1 ≠ (TX3 b).2.1 := by decide +kernel
theorem tyX3_ok : ∀ k, k < 3 → parseFieldDescriptor (TX3 k).2.2.1 = some (tyX3 k) := by decide +kernel
abbrev cX3_init : ByteArray := prog_5_method_1_code
def yX3_init : MethodName := ⟨RX3, "<init>", "()V"⟩
abbrev cX3_add : ByteArray := prog_5_method_2_code
def yX3_add : MethodName := ⟨RX3, "add", "(IIZ)Z"⟩
abbrev cX3_clear : ByteArray := prog_5_method_3_code
def yX3_clear : MethodName := ⟨RX3, "clear", "()V"⟩
abbrev cX3_allow : ByteArray := prog_5_method_4_code
def yX3_allow : MethodName := ⟨RX3, "allow", "(II)Z"⟩
def RX4 : String := "MasksAtDawn$Text"
def TX4 : u_T := fun k => match k with
  | 0 => ("MasksAtDawn$Text", "bytes", "[I", true)
  | 1 => ("MasksAtDawn$Text", "length", "I", false)
  | _ => ("MasksAtDawn$Text", "place", "I", false)
def tyX4 : Nat → FieldType := fun k => match k with
  | 0 => .array .int
  | 1 => .int
  | _ => .int
theorem nmX4 : ∀ a, a < 3 → ∀ b, b < 3 → a ≠ b → (TX4 a).2.1 ≠ (TX4 b).2.1 := by decide +kernel
theorem tyX4_ok : ∀ k, k < 3 → parseFieldDescriptor (TX4 k).2.2.1 = some (tyX4 k) := by decide +kernel
abbrev cX4_init : ByteArray := prog_6_method_1_code
def yX4_init : MethodName := ⟨RX4, "<init>", "()V"⟩
abbrev cX4_append : ByteArray := prog_6_method_2_code
def yX4_append : MethodName := ⟨RX4, "append", "(IJ)Z"⟩
abbrev cX4_readInto : ByteArray := prog_6_method_3_code
def yX4_readInto : MethodName := ⟨RX4, "readInto", "(LMasksAtDawn$Town;)I"⟩
abbrev cX4_readItem : ByteArray := prog_6_method_4_code
def yX4_readItem : MethodName := ⟨RX4, "readItem", "(LMasksAtDawn$Town;)Z"⟩
abbrev cX4_readKind : ByteArray := prog_6_method_5_code
def yX4_readKind : MethodName := ⟨RX4, "readKind", "(LMasksAtDawn$Town;)Z"⟩
abbrev cX4_readWorths : ByteArray := prog_6_method_6_code
def yX4_readWorths : MethodName := ⟨RX4, "readWorths", "(LMasksAtDawn$Town;)Z"⟩
abbrev cX4_readWork : ByteArray := prog_6_method_7_code
def yX4_readWork : MethodName := ⟨RX4, "readWork", "(LMasksAtDawn$Town;)Z"⟩
abbrev cX4_readNumber : ByteArray := prog_6_method_8_code
def yX4_readNumber : MethodName := ⟨RX4, "readNumber", "(IIC)I"⟩
abbrev cX4_nextByte : ByteArray := prog_6_method_9_code
def yX4_nextByte : MethodName := ⟨RX4, "nextByte", "()I"⟩
abbrev cX4_figure : ByteArray := prog_6_method_10_code
def yX4_figure : MethodName := ⟨RX4, "figure", "(I)I"⟩
def RX5 : String := "MasksAtDawn$Town"
def TX5 : u_T := fun k => match k with
  | 0 => ("MasksAtDawn$Town", "kinds", "I", false)
  | 1 => ("MasksAtDawn$Town", "persons", "I", false)
  | 2 => ("MasksAtDawn$Town", "masks", "I", false)
  | 3 => ("MasksAtDawn$Town", "work", "I", false)
  | 4 => ("MasksAtDawn$Town", "locked", "I", false)
  | 5 => ("MasksAtDawn$Town", "rights", "[I", true)
  | 6 => ("MasksAtDawn$Town", "wages", "[I", true)
  | 7 => ("MasksAtDawn$Town", "told", "[I", true)
  | 8 => ("MasksAtDawn$Town", "skills", "[I", true)
  | _ => ("MasksAtDawn$Town", "worths", "[I", true)
def tyX5 : Nat → FieldType := fun k => match k with
  | 0 => .int
  | 1 => .int
  | 2 => .int
  | 3 => .int
  | 4 => .int
  | 5 => .array .int
  | 6 => .array .int
  | 7 => .array .int
  | 8 => .array .int
  | _ => .array .int
theorem nmX5 : ∀ a, a < 10 → ∀ b, b < 10 → a ≠ b → (TX5 a).2.1 ≠ (TX5 b).2.1 := by decide +kernel
theorem tyX5_ok : ∀ k, k < 10 → parseFieldDescriptor (TX5 k).2.2.1 = some (tyX5 k) := by decide +kernel
abbrev cX5_init : ByteArray := prog_7_method_1_code
def yX5_init : MethodName := ⟨RX5, "<init>", "()V"⟩
abbrev cX5_clear : ByteArray := prog_7_method_2_code
def yX5_clear : MethodName := ⟨RX5, "clear", "()V"⟩
abbrev cX5_addKind : ByteArray := prog_7_method_3_code
def yX5_addKind : MethodName := ⟨RX5, "addKind", "(III)Z"⟩
abbrev cX5_addPerson : ByteArray := prog_7_method_4_code
def yX5_addPerson : MethodName := ⟨RX5, "addPerson", "(I)Z"⟩
abbrev cX5_setWorth : ByteArray := prog_7_method_5_code
def yX5_setWorth : MethodName := ⟨RX5, "setWorth", "(II)V"⟩
abbrev cX5_lock : ByteArray := prog_7_method_6_code
def yX5_lock : MethodName := ⟨RX5, "lock", "(I)Z"⟩
abbrev cX5_canBeLaid : ByteArray := prog_7_method_7_code
def yX5_canBeLaid : MethodName := ⟨RX5, "canBeLaid", "()Z"⟩
abbrev cX5_rightDeeds : ByteArray := prog_7_method_8_code
def yX5_rightDeeds : MethodName := ⟨RX5, "rightDeeds", "(II)I"⟩
def RX6 : String := "MasksAtDawn$Ways"
def TX6 : u_T := fun k => match k with
  | 0 => ("MasksAtDawn$Ways", "masks", "[I", true)
  | 1 => ("MasksAtDawn$Ways", "best", "[I", true)
  | 2 => ("MasksAtDawn$Ways", "persons", "I", false)
  | _ => ("MasksAtDawn$Ways", "total", "I", false)
def tyX6 : Nat → FieldType := fun k => match k with
  | 0 => .array .int
  | 1 => .array .int
  | 2 => .int
  | _ => .int
theorem nmX6 : ∀ a, a < 4 → ∀ b, b < 4 → a ≠ b → (TX6 a).2.1 ≠ (TX6 b).2.1 := by decide +kernel
theorem tyX6_ok : ∀ k, k < 4 → parseFieldDescriptor (TX6 k).2.2.1 = some (tyX6 k) := by decide +kernel
abbrev cX6_init : ByteArray := prog_8_method_1_code
def yX6_init : MethodName := ⟨RX6, "<init>", "()V"⟩
abbrev cX6_start : ByteArray := prog_8_method_2_code
def yX6_start : MethodName := ⟨RX6, "start", "(LMasksAtDawn$Town;)V"⟩
abbrev cX6_step : ByteArray := prog_8_method_3_code
def yX6_step : MethodName := ⟨RX6, "step", "()V"⟩
abbrev cX6_doingAllWork : ByteArray := prog_8_method_4_code
def yX6_doingAllWork : MethodName := ⟨RX6, "doingAllWork", "(LMasksAtDawn$Town;LMasksAtDawn$Day;)I"⟩
abbrev cX6_allRightDeeds : ByteArray := prog_8_method_5_code
def yX6_allRightDeeds : MethodName := ⟨RX6, "allRightDeeds", "(LMasksAtDawn$Town;LMasksAtDawn$Day;)I"⟩
abbrev cX6_fitting : ByteArray := prog_8_method_6_code
def yX6_fitting : MethodName := ⟨RX6, "fitting", "(LMasksAtDawn$Town;LMasksAtDawn$Day;LMasksAtDawn$Sightings;)I"⟩
abbrev cX6_sureKind : ByteArray := prog_8_method_7_code
def yX6_sureKind : MethodName := ⟨RX6, "sureKind", "(LMasksAtDawn$Town;LMasksAtDawn$Day;LMasksAtDawn$Sightings;I)I"⟩
abbrev cX6_isAsSeen : ByteArray := prog_8_method_8_code
def yX6_isAsSeen : MethodName := ⟨RX6, "isAsSeen", "(LMasksAtDawn$Town;LMasksAtDawn$Day;LMasksAtDawn$Sightings;)Z"⟩
abbrev cX6_findFairest : ByteArray := prog_8_method_9_code
def yX6_findFairest : MethodName := ⟨RX6, "findFairest", "(LMasksAtDawn$Town;LMasksAtDawn$Day;)I"⟩
abbrev cX6_sumHad : ByteArray := prog_8_method_10_code
def yX6_sumHad : MethodName := ⟨RX6, "sumHad", "(LMasksAtDawn$Day;)I"⟩
abbrev cX6_kindWornBy : ByteArray := prog_8_method_11_code
def yX6_kindWornBy : MethodName := ⟨RX6, "kindWornBy", "(ILMasksAtDawn$Day;)I"⟩
def RX7 : String := "MasksAtDawn"
def TX7 : u_T := fun k => match k with
  | 0 => ("MasksAtDawn", "text", "LMasksAtDawn$Text;", true)
  | 1 => ("MasksAtDawn", "town", "LMasksAtDawn$Town;", false)
  | 2 => ("MasksAtDawn", "draft", "LMasksAtDawn$Town;", false)
  | 3 => ("MasksAtDawn", "today", "LMasksAtDawn$Day;", true)
  | 4 => ("MasksAtDawn", "supposed", "LMasksAtDawn$Day;", true)
  | 5 => ("MasksAtDawn", "past", "LMasksAtDawn$Shelf;", true)
  | 6 => ("MasksAtDawn", "kept", "LMasksAtDawn$Shelf;", true)
  | 7 => ("MasksAtDawn", "sightings", "LMasksAtDawn$Sightings;", true)
  | 8 => ("MasksAtDawn", "ways", "LMasksAtDawn$Ways;", true)
  | _ => ("MasksAtDawn", "alley", "LMasksAtDawn$Alley;", true)
def tyX7 : Nat → FieldType := fun k => match k with
  | 0 => .object "MasksAtDawn$Text"
  | 1 => .object "MasksAtDawn$Town"
  | 2 => .object "MasksAtDawn$Town"
  | 3 => .object "MasksAtDawn$Day"
  | 4 => .object "MasksAtDawn$Day"
  | 5 => .object "MasksAtDawn$Shelf"
  | 6 => .object "MasksAtDawn$Shelf"
  | 7 => .object "MasksAtDawn$Sightings"
  | 8 => .object "MasksAtDawn$Ways"
  | _ => .object "MasksAtDawn$Alley"
theorem nmX7 : ∀ a, a < 10 → ∀ b, b < 10 → a ≠ b → (TX7 a).2.1 ≠ (TX7 b).2.1 := by decide +kernel
theorem tyX7_ok : ∀ k, k < 10 → parseFieldDescriptor (TX7 k).2.2.1 = some (tyX7 k) := by decide +kernel
abbrev cX7_init : ByteArray := prog_1_method_1_code
def yX7_init : MethodName := ⟨RX7, "<init>", "()V"⟩
abbrev cX7_write : ByteArray := prog_1_method_2_code
def yX7_write : MethodName := ⟨RX7, "write", "(IJ)I"⟩
abbrev cX7_wipe : ByteArray := prog_1_method_3_code
def yX7_wipe : MethodName := ⟨RX7, "wipe", "()I"⟩
abbrev cX7_fault : ByteArray := prog_1_method_4_code
def yX7_fault : MethodName := ⟨RX7, "fault", "()I"⟩
abbrev cX7_lay : ByteArray := prog_1_method_5_code
def yX7_lay : MethodName := ⟨RX7, "lay", "()I"⟩
abbrev cX7_person : ByteArray := prog_1_method_6_code
def yX7_person : MethodName := ⟨RX7, "person", "(II)I"⟩
abbrev cX7_had : ByteArray := prog_1_method_7_code
def yX7_had : MethodName := ⟨RX7, "had", "(II)I"⟩
abbrev cX7_mask : ByteArray := prog_1_method_8_code
def yX7_mask : MethodName := ⟨RX7, "mask", "(II)I"⟩
abbrev cX7_dawn : ByteArray := prog_1_method_9_code
def yX7_dawn : MethodName := ⟨RX7, "dawn", "(I)I"⟩
abbrev cX7_change : ByteArray := prog_1_method_10_code
def yX7_change : MethodName := ⟨RX7, "change", "(II)I"⟩
abbrev cX7_deed : ByteArray := prog_1_method_11_code
def yX7_deed : MethodName := ⟨RX7, "deed", "(II)I"⟩
abbrev cX7_sentence : ByteArray := prog_1_method_12_code
def yX7_sentence : MethodName := ⟨RX7, "sentence", "(II)I"⟩
abbrev cX7_pardon : ByteArray := prog_1_method_13_code
def yX7_pardon : MethodName := ⟨RX7, "pardon", "(II)I"⟩
abbrev cX7_undo : ByteArray := prog_1_method_14_code
def yX7_undo : MethodName := ⟨RX7, "undo", "()I"⟩
abbrev cX7_chance : ByteArray := prog_1_method_15_code
def yX7_chance : MethodName := ⟨RX7, "chance", "(I)I"⟩
abbrev cX7_anew : ByteArray := prog_1_method_16_code
def yX7_anew : MethodName := ⟨RX7, "anew", "(I)I"⟩
abbrev cX7_liked : ByteArray := prog_1_method_17_code
def yX7_liked : MethodName := ⟨RX7, "liked", "(I)I"⟩
abbrev cX7_allChange : ByteArray := prog_1_method_18_code
def yX7_allChange : MethodName := ⟨RX7, "allChange", "(I)I"⟩
abbrev cX7_rounds : ByteArray := prog_1_method_19_code
def yX7_rounds : MethodName := ⟨RX7, "rounds", "(I)I"⟩
abbrev cX7_seen : ByteArray := prog_1_method_20_code
def yX7_seen : MethodName := ⟨RX7, "seen", "(IIZ)I"⟩
abbrev cX7_forget : ByteArray := prog_1_method_21_code
def yX7_forget : MethodName := ⟨RX7, "forget", "()I"⟩
abbrev cX7_fits : ByteArray := prog_1_method_22_code
def yX7_fits : MethodName := ⟨RX7, "fits", "()I"⟩
abbrev cX7_sure : ByteArray := prog_1_method_23_code
def yX7_sure : MethodName := ⟨RX7, "sure", "(I)I"⟩
abbrev cX7_fairest : ByteArray := prog_1_method_24_code
def yX7_fairest : MethodName := ⟨RX7, "fairest", "(I)I"⟩
abbrev cX7_make : ByteArray := prog_1_method_25_code
def yX7_make : MethodName := ⟨RX7, "make", "(II)I"⟩
abbrev cX7_falseOne : ByteArray := prog_1_method_26_code
def yX7_falseOne : MethodName := ⟨RX7, "falseOne", "()I"⟩
abbrev cX7_year : ByteArray := prog_1_method_27_code
def yX7_year : MethodName := ⟨RX7, "year", "(IIII)I"⟩
abbrev cX7_keep : ByteArray := prog_1_method_28_code
def yX7_keep : MethodName := ⟨RX7, "keep", "()I"⟩
abbrev cX7_back : ByteArray := prog_1_method_29_code
def yX7_back : MethodName := ⟨RX7, "back", "()I"⟩
abbrev cX7_count : ByteArray := prog_1_method_30_code
def yX7_count : MethodName := ⟨RX7, "count", "(I)I"⟩
abbrev cX7_isPerson : ByteArray := prog_1_method_31_code
def yX7_isPerson : MethodName := ⟨RX7, "isPerson", "(I)Z"⟩
abbrev cX7_isMask : ByteArray := prog_1_method_32_code
def yX7_isMask : MethodName := ⟨RX7, "isMask", "(I)Z"⟩
abbrev cX7_isKind : ByteArray := prog_1_method_33_code
def yX7_isKind : MethodName := ⟨RX7, "isKind", "(I)Z"⟩
abbrev cX7_isDeed : ByteArray := prog_1_method_34_code
def yX7_isDeed : MethodName := ⟨RX7, "isDeed", "(I)Z"⟩
abbrev cX7_isDraw : ByteArray := prog_1_method_35_code
def yX7_isDraw : MethodName := ⟨RX7, "isDraw", "(I)Z"⟩
abbrev cX7_isJudge : ByteArray := prog_1_method_36_code
def yX7_isJudge : MethodName := ⟨RX7, "isJudge", "(I)Z"⟩
abbrev cX7_mayChangeHands : ByteArray := prog_1_method_37_code
def yX7_mayChangeHands : MethodName := ⟨RX7, "mayChangeHands", "(I)Z"⟩
abbrev cX7_bestAnew : ByteArray := prog_1_method_38_code
def yX7_bestAnew : MethodName := ⟨RX7, "bestAnew", "()I"⟩
abbrev cX7_isWithin : ByteArray := prog_1_method_39_code
def yX7_isWithin : MethodName := ⟨RX7, "isWithin", "(III)Z"⟩
abbrev cX7_has : ByteArray := prog_1_method_40_code
def yX7_has : MethodName := ⟨RX7, "has", "(II)Z"⟩
abbrev cX7_at : ByteArray := prog_1_method_41_code
def yX7_at : MethodName := ⟨RX7, "at", "([II)I"⟩
abbrev cX7_swap : ByteArray := prog_1_method_42_code
def yX7_swap : MethodName := ⟨RX7, "swap", "([III)V"⟩
abbrev cX7_commonDivisor : ByteArray := prog_1_method_43_code
def yX7_commonDivisor : MethodName := ⟨RX7, "commonDivisor", "(II)I"⟩
def RX8 : String := "MasksAtDawnModel"
def TX8 : u_T := fun k => match k with
  | 0 => ("MasksAtDawnModel", "length", "I", false)
  | 1 => ("MasksAtDawnModel", "text", "[B", true)
  | 2 => ("MasksAtDawnModel", "at", "I", false)
  | 3 => ("MasksAtDawnModel", "told", "[I", true)
  | 4 => ("MasksAtDawnModel", "kinds", "[I", true)
  | 5 => ("MasksAtDawnModel", "kind", "[I", true)
  | 6 => ("MasksAtDawnModel", "people", "[I", true)
  | 7 => ("MasksAtDawnModel", "skill", "[I", true)
  | 8 => ("MasksAtDawnModel", "worth", "[I", true)
  | 9 => ("MasksAtDawnModel", "slot", "[I", true)
  | 10 => ("MasksAtDawnModel", "kept", "I", false)
  | 11 => ("MasksAtDawnModel", "done", "I", false)
  | 12 => ("MasksAtDawnModel", "seen", "I", false)
  | 13 => ("MasksAtDawnModel", "saw", "[I", true)
  | 14 => ("MasksAtDawnModel", "way", "[I", true)
  | 15 => ("MasksAtDawnModel", "best", "[I", true)
  | 16 => ("MasksAtDawnModel", "points", "[I", true)
  | 17 => ("MasksAtDawnModel", "has", "[I", true)
  | 18 => ("MasksAtDawnModel", "fitting", "I", false)
  | _ => ("MasksAtDawnModel", "got", "[I", true)
def tyX8 : Nat → FieldType := fun k => match k with
  | 0 => .int
  | 1 => .array .byte
  | 2 => .int
  | 3 => .array .int
  | 4 => .array .int
  | 5 => .array .int
  | 6 => .array .int
  | 7 => .array .int
  | 8 => .array .int
  | 9 => .array .int
  | 10 => .int
  | 11 => .int
  | 12 => .int
  | 13 => .array .int
  | 14 => .array .int
  | 15 => .array .int
  | 16 => .array .int
  | 17 => .array .int
  | 18 => .int
  | _ => .array .int
theorem nmX8 : ∀ a, a < 20 → ∀ b, b < 20 → a ≠ b → (TX8 a).2.1 ≠ (TX8 b).2.1 := by decide +kernel
theorem tyX8_ok : ∀ k, k < 20 → parseFieldDescriptor (TX8 k).2.2.1 = some (tyX8 k) := by decide +kernel
abbrev cX8_init : ByteArray := prog_10_method_1_code
def yX8_init : MethodName := ⟨RX8, "<init>", "()V"⟩
abbrev cX8_in : ByteArray := prog_10_method_2_code
def yX8_in : MethodName := ⟨RX8, "in", "(JJJ)Z"⟩
abbrev cX8_write : ByteArray := prog_10_method_3_code
def yX8_write : MethodName := ⟨RX8, "write", "(IJ)I"⟩
abbrev cX8_wipe : ByteArray := prog_10_method_4_code
def yX8_wipe : MethodName := ⟨RX8, "wipe", "()I"⟩
abbrev cX8_number : ByteArray := prog_10_method_5_code
def yX8_number : MethodName := ⟨RX8, "number", "()I"⟩
abbrev cX8_isWorth : ByteArray := prog_10_method_6_code
def yX8_isWorth : MethodName := ⟨RX8, "isWorth", "()Z"⟩
abbrev cX8_isItem : ByteArray := prog_10_method_7_code
def yX8_isItem : MethodName := ⟨RX8, "isItem", "()Z"⟩
abbrev cX8_isGood : ByteArray := prog_10_method_8_code
def yX8_isGood : MethodName := ⟨RX8, "isGood", "(I)Z"⟩
abbrev cX8_begins : ByteArray := prog_10_method_9_code
def yX8_begins : MethodName := ⟨RX8, "begins", "()V"⟩
abbrev cX8_masks : ByteArray := prog_10_method_10_code
def yX8_masks : MethodName := ⟨RX8, "masks", "()I"⟩
abbrev cX8_takes : ByteArray := prog_10_method_11_code
def yX8_takes : MethodName := ⟨RX8, "takes", "()V"⟩
abbrev cX8_fault : ByteArray := prog_10_method_12_code
def yX8_fault : MethodName := ⟨RX8, "fault", "()I"⟩
abbrev cX8_lay : ByteArray := prog_10_method_13_code
def yX8_lay : MethodName := ⟨RX8, "lay", "()I"⟩
abbrev cX8_isMan : ByteArray := prog_10_method_14_code
def yX8_isMan : MethodName := ⟨RX8, "isMan", "(I)Z"⟩
abbrev cX8_isKind : ByteArray := prog_10_method_15_code
def yX8_isKind : MethodName := ⟨RX8, "isKind", "(I)Z"⟩
abbrev cX8_kindOf : ByteArray := prog_10_method_16_code
def yX8_kindOf : MethodName := ⟨RX8, "kindOf", "(II)I"⟩
abbrev cX8_person : ByteArray := prog_10_method_17_code
def yX8_person : MethodName := ⟨RX8, "person", "(II)I"⟩
abbrev cX8_had : ByteArray := prog_10_method_18_code
def yX8_had : MethodName := ⟨RX8, "had", "(II)I"⟩
abbrev cX8_mask : ByteArray := prog_10_method_19_code
def yX8_mask : MethodName := ⟨RX8, "mask", "(II)I"⟩
abbrev cX8_copies : ByteArray := prog_10_method_20_code
def yX8_copies : MethodName := ⟨RX8, "copies", "(II)V"⟩
abbrev cX8_known : ByteArray := prog_10_method_21_code
def yX8_known : MethodName := ⟨RX8, "known", "()V"⟩
abbrev cX8_dawns : ByteArray := prog_10_method_22_code
def yX8_dawns : MethodName := ⟨RX8, "dawns", "(II)V"⟩
abbrev cX8_dawn : ByteArray := prog_10_method_23_code
def yX8_dawn : MethodName := ⟨RX8, "dawn", "(I)I"⟩
abbrev cX8_mayGo : ByteArray := prog_10_method_24_code
def yX8_mayGo : MethodName := ⟨RX8, "mayGo", "(II)Z"⟩
abbrev cX8_trades : ByteArray := prog_10_method_25_code
def yX8_trades : MethodName := ⟨RX8, "trades", "(III)V"⟩
abbrev cX8_change : ByteArray := prog_10_method_26_code
def yX8_change : MethodName := ⟨RX8, "change", "(II)I"⟩
abbrev cX8_isRight : ByteArray := prog_10_method_27_code
def yX8_isRight : MethodName := ⟨RX8, "isRight", "(III)Z"⟩
abbrev cX8_deed : ByteArray := prog_10_method_28_code
def yX8_deed : MethodName := ⟨RX8, "deed", "(II)I"⟩
abbrev cX8_held : ByteArray := prog_10_method_29_code
def yX8_held : MethodName := ⟨RX8, "held", "()I"⟩
abbrev cX8_judges : ByteArray := prog_10_method_30_code
def yX8_judges : MethodName := ⟨RX8, "judges", "(III)I"⟩
abbrev cX8_sentence : ByteArray := prog_10_method_31_code
def yX8_sentence : MethodName := ⟨RX8, "sentence", "(II)I"⟩
abbrev cX8_pardon : ByteArray := prog_10_method_32_code
def yX8_pardon : MethodName := ⟨RX8, "pardon", "(II)I"⟩
abbrev cX8_undo : ByteArray := prog_10_method_33_code
def yX8_undo : MethodName := ⟨RX8, "undo", "()I"⟩
abbrev cX8_firstWay : ByteArray := prog_10_method_34_code
def yX8_firstWay : MethodName := ⟨RX8, "firstWay", "()V"⟩
abbrev cX8_nextWay : ByteArray := prog_10_method_35_code
def yX8_nextWay : MethodName := ⟨RX8, "nextWay", "()Z"⟩
abbrev cX8_all : ByteArray := prog_10_method_36_code
def yX8_all : MethodName := ⟨RX8, "all", "()I"⟩
abbrev cX8_working : ByteArray := prog_10_method_37_code
def yX8_working : MethodName := ⟨RX8, "working", "()I"⟩
abbrev cX8_chance : ByteArray := prog_10_method_38_code
def yX8_chance : MethodName := ⟨RX8, "chance", "(I)I"⟩
abbrev cX8_anew : ByteArray := prog_10_method_39_code
def yX8_anew : MethodName := ⟨RX8, "anew", "(I)I"⟩
abbrev cX8_isLiked : ByteArray := prog_10_method_40_code
def yX8_isLiked : MethodName := ⟨RX8, "isLiked", "(III)Z"⟩
abbrev cX8_firstLiked : ByteArray := prog_10_method_41_code
def yX8_firstLiked : MethodName := ⟨RX8, "firstLiked", "(I)I"⟩
abbrev cX8_liked : ByteArray := prog_10_method_42_code
def yX8_liked : MethodName := ⟨RX8, "liked", "(I)I"⟩
abbrev cX8_allChange : ByteArray := prog_10_method_43_code
def yX8_allChange : MethodName := ⟨RX8, "allChange", "(I)I"⟩
abbrev cX8_pointed : ByteArray := prog_10_method_44_code
def yX8_pointed : MethodName := ⟨RX8, "pointed", "(II)I"⟩
abbrev cX8_rounds : ByteArray := prog_10_method_45_code
def yX8_rounds : MethodName := ⟨RX8, "rounds", "(I)I"⟩
abbrev cX8_seen : ByteArray := prog_10_method_46_code
def yX8_seen : MethodName := ⟨RX8, "seen", "(IIZ)I"⟩
abbrev cX8_forget : ByteArray := prog_10_method_47_code
def yX8_forget : MethodName := ⟨RX8, "forget", "()I"⟩
abbrev cX8_counts : ByteArray := prog_10_method_48_code
def yX8_counts : MethodName := ⟨RX8, "counts", "(I)I"⟩
abbrev cX8_fits : ByteArray := prog_10_method_49_code
def yX8_fits : MethodName := ⟨RX8, "fits", "()I"⟩
abbrev cX8_sure : ByteArray := prog_10_method_50_code
def yX8_sure : MethodName := ⟨RX8, "sure", "(I)I"⟩
abbrev cX8_fairest : ByteArray := prog_10_method_51_code
def yX8_fairest : MethodName := ⟨RX8, "fairest", "(I)I"⟩
abbrev cX8_make : ByteArray := prog_10_method_52_code
def yX8_make : MethodName := ⟨RX8, "make", "(II)I"⟩
abbrev cX8_falseOne : ByteArray := prog_10_method_53_code
def yX8_falseOne : MethodName := ⟨RX8, "falseOne", "()I"⟩
abbrev cX8_year : ByteArray := prog_10_method_54_code
def yX8_year : MethodName := ⟨RX8, "year", "(IIII)I"⟩
abbrev cX8_keep : ByteArray := prog_10_method_55_code
def yX8_keep : MethodName := ⟨RX8, "keep", "()I"⟩
abbrev cX8_back : ByteArray := prog_10_method_56_code
def yX8_back : MethodName := ⟨RX8, "back", "()I"⟩
abbrev cX8_count : ByteArray := prog_10_method_57_code
def yX8_count : MethodName := ⟨RX8, "count", "(I)I"⟩
def RJ6 : String := "java/lang/Integer"
def TJ6 : u_T := fun k => match k with
  | _ => ("", "", "", false)
def tyJ6 : Nat → FieldType := fun k => match k with
  | _ => .int
theorem nmJ6 : ∀ a, a < 0 → ∀ b, b < 0 → a ≠ b → (TJ6 a).2.1 ≠ (TJ6 b).2.1 := by decide +kernel
theorem tyJ6_ok : ∀ k, k < 0 → parseFieldDescriptor (TJ6 k).2.2.1 = some (tyJ6 k) := by decide +kernel
abbrev cJ6_bitCount_0f7a4 : ByteArray := prog_11_method_49_code
def yJ6_bitCount_0f7a4 : MethodName := ⟨RJ6, "bitCount", "(I)I"⟩
def RJ9 : String := "java/lang/Math"
def TJ9 : u_T := fun k => match k with
  | _ => ("", "", "", false)
def tyJ9 : Nat → FieldType := fun k => match k with
  | _ => .int
theorem nmJ9 : ∀ a, a < 0 → ∀ b, b < 0 → a ≠ b → (TJ9 a).2.1 ≠ (TJ9 b).2.1 := by decide +kernel
theorem tyJ9_ok : ∀ k, k < 0 → parseFieldDescriptor (TJ9 k).2.2.1 = some (tyJ9 k) := by decide +kernel
abbrev cJ9_max_7cf53 : ByteArray := prog_12_method_65_code
def yJ9_max_7cf53 : MethodName := ⟨RJ9, "max", "(II)I"⟩
abbrev cJ9_min_7cf53 : ByteArray := prog_12_method_69_code
def yJ9_min_7cf53 : MethodName := ⟨RJ9, "min", "(II)I"⟩
def RJ10 : String := "java/lang/System"
def TJ10 : u_T := fun k => match k with
  | _ => ("", "", "", false)
def tyJ10 : Nat → FieldType := fun k => match k with
  | _ => .int
theorem nmJ10 : ∀ a, a < 0 → ∀ b, b < 0 → a ≠ b → (TJ10 a).2.1 ≠ (TJ10 b).2.1 := by decide +kernel
theorem tyJ10_ok : ∀ k, k < 0 → parseFieldDescriptor (TJ10 k).2.2.1 = some (tyJ10 k) := by decide +kernel
def RL : String := "MasksAtDawnLaw"
abbrev cL_law : ByteArray := code
def yL_law : MethodName := ⟨RL, "law", "([I)Z"⟩
def zcl : List vw_C := [(RX0, TX0, 7), (RX1, TX1, 7), (RX2, TX2, 2), (RX3, TX3, 3), (RX4, TX4, 3), (RX5, TX5, 10), (RX6, TX6, 4), (RX7, TX7, 10), (RX8, TX8, 20)]
def zcn (o : Nat) : String := match o with
  | 0 => RX0
  | 1 => RX1
  | 2 => RX2
  | 3 => RX3
  | 4 => RX4
  | 5 => RX5
  | 6 => RX6
  | 7 => RX7
  | 8 => RX8
  | 9 => RL
  | 10 => RJ6
  | _ => RJ9
def zms0 : List (Nat × MethodName × ByteArray × Nat × Option FieldType × Nat × List Nat × Nat × Nat) := [
  (0, yX0_init, cX0_init, 1, none, 1, [], 1, 20),
  (0, yX0_enter, cX0_enter, 3, none, 3, [], 1, 26),
  (0, yX0_kindWornBy, cX0_kindWornBy, 2, (some .int), 2, [], 1, 21),
  (0, yX0_isFree, cX0_isFree, 2, (some .boolean), 2, [], 2, 42),
  (0, yX0_worth, cX0_worth, 3, (some .int), 3, [], 2, 42),
  (0, yX0_wouldBoth, cX0_wouldBoth, 3, (some .boolean), 3, [], 3, 64),
  (0, yX0_howManyLiked, cX0_howManyLiked, 4, (some .int), 1, [], 4, 86),
  (0, yX0_firstLiked, cX0_firstLiked, 3, (some .int), 1, [], 4, 86),
  (0, yX0_changeAllLiked, cX0_changeAllLiked, 3, (some .int), 1, [], 5, 108),
  (0, yX0_goRound, cX0_goRound, 4, none, 1, [], 4, 88),
  (0, yX0_bestOf, cX0_bestOf, 5, (some .int), 3, [], 3, 64),
  (0, yX0_leaveInRings, cX0_leaveInRings, 4, (some .int), 2, [], 2, 44),
  (0, yX0_isInRing, cX0_isInRing, 4, (some .boolean), 2, [], 1, 21),
  (1, yX1_init, cX1_init, 1, none, 1, [], 1, 20),
  (1, yX1_begin, cX1_begin, 5, none, 2, [], 0, 0),
  (1, yX1_copyFrom, cX1_copyFrom, 2, none, 2, [], 1, 26),
  (1, yX1_turn, cX1_turn, 6, none, 3, [], 2, 45),
  (1, yX1_lot, cX1_lot, 5, (some .int), 3, [3], 0, 0),
  (1, yX1_kindWornBy, cX1_kindWornBy, 2, (some .int), 2, [], 1, 21),
  (1, yX1_timesHad, cX1_timesHad, 3, (some .int), 3, [], 1, 21),
  (1, yX1_howManyHeld, cX1_howManyHeld, 1, (some .int), 1, [], 1, 20),
  (2, yX2_init, cX2_init, 3, none, 2, [], 2, 40),
  (2, yX2_push, cX2_push, 2, none, 2, [], 2, 47),
  (2, yX2_dropOldest, cX2_dropOldest, 3, none, 1, [], 0, 0),
  (2, yX2_popInto, cX2_popInto, 2, (some .boolean), 2, [], 2, 47),
  (3, yX3_init, cX3_init, 1, none, 1, [], 1, 20),
  (3, yX3_add, cX3_add, 4, (some .boolean), 4, [], 1, 22)]
def zms1 : List (Nat × MethodName × ByteArray × Nat × Option FieldType × Nat × List Nat × Nat × Nat) := [
  (3, yX3_clear, cX3_clear, 2, none, 1, [], 0, 0),
  (3, yX3_allow, cX3_allow, 3, (some .boolean), 3, [], 1, 21),
  (4, yX4_init, cX4_init, 1, none, 1, [], 1, 20),
  (4, yX4_append, cX4_append, 5, (some .boolean), 3, [2], 0, 0),
  (4, yX4_readInto, cX4_readInto, 4, (some .int), 2, [], 4, 93),
  (4, yX4_readItem, cX4_readItem, 2, (some .boolean), 2, [], 3, 72),
  (4, yX4_readKind, cX4_readKind, 5, (some .boolean), 2, [], 2, 48),
  (4, yX4_readWorths, cX4_readWorths, 4, (some .boolean), 2, [], 2, 45),
  (4, yX4_readWork, cX4_readWork, 2, (some .boolean), 2, [], 2, 48),
  (4, yX4_readNumber, cX4_readNumber, 7, (some .int), 4, [], 1, 22),
  (4, yX4_nextByte, cX4_nextByte, 2, (some .int), 1, [], 0, 0),
  (4, yX4_figure, cX4_figure, 1, (some .int), 1, [], 0, 0),
  (5, yX5_init, cX5_init, 1, none, 1, [], 1, 20),
  (5, yX5_clear, cX5_clear, 1, none, 1, [], 0, 0),
  (5, yX5_addKind, cX5_addKind, 4, (some .boolean), 4, [], 0, 0),
  (5, yX5_addPerson, cX5_addPerson, 3, (some .boolean), 2, [], 2, 45),
  (5, yX5_setWorth, cX5_setWorth, 4, none, 3, [], 1, 22),
  (5, yX5_lock, cX5_lock, 2, (some .boolean), 2, [], 0, 0),
  (5, yX5_canBeLaid, cX5_canBeLaid, 1, (some .boolean), 1, [], 0, 0),
  (5, yX5_rightDeeds, cX5_rightDeeds, 3, (some .int), 3, [], 1, 21),
  (6, yX6_init, cX6_init, 1, none, 1, [], 1, 20),
  (6, yX6_start, cX6_start, 3, none, 2, [], 1, 21),
  (6, yX6_step, cX6_step, 5, none, 1, [], 2, 45),
  (6, yX6_doingAllWork, cX6_doingAllWork, 5, (some .int), 3, [], 3, 69),
  (6, yX6_allRightDeeds, cX6_allRightDeeds, 5, (some .int), 3, [], 2, 43),
  (6, yX6_fitting, cX6_fitting, 6, (some .int), 4, [], 3, 69),
  (6, yX6_sureKind, cX6_sureKind, 8, (some .int), 5, [], 3, 69)]
def zms2 : List (Nat × MethodName × ByteArray × Nat × Option FieldType × Nat × List Nat × Nat × Nat) := [
  (6, yX6_isAsSeen, cX6_isAsSeen, 5, (some .boolean), 4, [], 2, 43),
  (6, yX6_findFairest, cX6_findFairest, 6, (some .int), 3, [], 3, 69),
  (6, yX6_sumHad, cX6_sumHad, 4, (some .int), 2, [], 2, 43),
  (6, yX6_kindWornBy, cX6_kindWornBy, 3, (some .int), 3, [], 1, 21),
  (7, yX7_init, cX7_init, 1, none, 1, [], 3, 67),
  (7, yX7_write, cX7_write, 4, (some .int), 3, [2], 1, 24),
  (7, yX7_wipe, cX7_wipe, 2, (some .int), 1, [], 0, 0),
  (7, yX7_fault, cX7_fault, 1, (some .int), 1, [], 5, 116),
  (7, yX7_lay, cX7_lay, 2, (some .int), 1, [], 5, 116),
  (7, yX7_person, cX7_person, 3, (some .int), 3, [], 2, 42),
  (7, yX7_had, cX7_had, 3, (some .int), 3, [], 2, 43),
  (7, yX7_mask, cX7_mask, 4, (some .int), 3, [], 1, 21),
  (7, yX7_dawn, cX7_dawn, 2, (some .int), 2, [], 3, 70),
  (7, yX7_change, cX7_change, 3, (some .int), 3, [], 3, 68),
  (7, yX7_deed, cX7_deed, 3, (some .int), 3, [], 3, 68),
  (7, yX7_sentence, cX7_sentence, 3, (some .int), 3, [], 3, 68),
  (7, yX7_pardon, cX7_pardon, 3, (some .int), 3, [], 3, 68),
  (7, yX7_undo, cX7_undo, 1, (some .int), 1, [], 3, 68),
  (7, yX7_chance, cX7_chance, 5, (some .int), 2, [], 4, 93),
  (7, yX7_anew, cX7_anew, 3, (some .int), 2, [], 5, 118),
  (7, yX7_liked, cX7_liked, 2, (some .int), 2, [], 5, 109),
  (7, yX7_allChange, cX7_allChange, 3, (some .int), 2, [], 6, 130),
  (7, yX7_rounds, cX7_rounds, 2, (some .int), 2, [], 5, 111),
  (7, yX7_seen, cX7_seen, 4, (some .int), 4, [], 2, 45),
  (7, yX7_forget, cX7_forget, 2, (some .int), 1, [], 1, 21),
  (7, yX7_fits, cX7_fits, 1, (some .int), 1, [], 4, 94),
  (7, yX7_sure, cX7_sure, 2, (some .int), 2, [], 4, 96)]
def zms3 : List (Nat × MethodName × ByteArray × Nat × Option FieldType × Nat × List Nat × Nat × Nat) := [
  (7, yX7_fairest, cX7_fairest, 3, (some .int), 2, [], 4, 94),
  (7, yX7_make, cX7_make, 4, (some .int), 3, [], 3, 68),
  (7, yX7_falseOne, cX7_falseOne, 4, (some .int), 1, [], 0, 0),
  (7, yX7_year, cX7_year, 6, (some .int), 5, [], 3, 70),
  (7, yX7_keep, cX7_keep, 1, (some .int), 1, [], 3, 68),
  (7, yX7_back, cX7_back, 1, (some .int), 1, [], 3, 68),
  (7, yX7_count, cX7_count, 2, (some .int), 2, [], 2, 40),
  (7, yX7_isPerson, cX7_isPerson, 2, (some .boolean), 2, [], 0, 0),
  (7, yX7_isMask, cX7_isMask, 2, (some .boolean), 2, [], 0, 0),
  (7, yX7_isKind, cX7_isKind, 2, (some .boolean), 2, [], 0, 0),
  (7, yX7_isDeed, cX7_isDeed, 1, (some .boolean), 1, [], 0, 0),
  (7, yX7_isDraw, cX7_isDraw, 1, (some .boolean), 1, [], 0, 0),
  (7, yX7_isJudge, cX7_isJudge, 2, (some .boolean), 2, [], 2, 42),
  (7, yX7_mayChangeHands, cX7_mayChangeHands, 2, (some .boolean), 2, [], 2, 42),
  (7, yX7_bestAnew, cX7_bestAnew, 6, (some .int), 1, [], 4, 93),
  (7, yX7_isWithin, cX7_isWithin, 3, (some .boolean), 3, [], 0, 0),
  (7, yX7_has, cX7_has, 2, (some .boolean), 2, [], 0, 0),
  (7, yX7_at, cX7_at, 2, (some .int), 2, [], 0, 0),
  (7, yX7_swap, cX7_swap, 4, none, 3, [], 1, 22),
  (7, yX7_commonDivisor, cX7_commonDivisor, 4, (some .int), 2, [], 0, 0),
  (8, yX8_init, cX8_init, 1, none, 1, [], 1, 23),
  (8, yX8_in, cX8_in, 6, (some .boolean), 3, [0, 2, 4], 0, 0),
  (8, yX8_write, cX8_write, 5, (some .int), 3, [2], 1, 25),
  (8, yX8_wipe, cX8_wipe, 2, (some .int), 1, [], 0, 0),
  (8, yX8_number, cX8_number, 3, (some .int), 1, [], 1, 25),
  (8, yX8_isWorth, cX8_isWorth, 2, (some .boolean), 1, [], 1, 25),
  (8, yX8_isItem, cX8_isItem, 5, (some .boolean), 1, [], 2, 48)]
def zms4 : List (Nat × MethodName × ByteArray × Nat × Option FieldType × Nat × List Nat × Nat × Nat) := [
  (8, yX8_isGood, cX8_isGood, 4, (some .boolean), 2, [], 1, 25),
  (8, yX8_begins, cX8_begins, 1, none, 1, [], 0, 0),
  (8, yX8_masks, cX8_masks, 3, (some .int), 1, [], 0, 0),
  (8, yX8_takes, cX8_takes, 4, none, 1, [], 0, 0),
  (8, yX8_fault, cX8_fault, 2, (some .int), 1, [], 3, 72),
  (8, yX8_lay, cX8_lay, 1, (some .int), 1, [], 4, 93),
  (8, yX8_isMan, cX8_isMan, 2, (some .boolean), 2, [], 1, 25),
  (8, yX8_isKind, cX8_isKind, 2, (some .boolean), 2, [], 1, 25),
  (8, yX8_kindOf, cX8_kindOf, 3, (some .int), 3, [], 0, 0),
  (8, yX8_person, cX8_person, 3, (some .int), 3, [], 2, 46),
  (8, yX8_had, cX8_had, 3, (some .int), 3, [], 2, 46),
  (8, yX8_mask, cX8_mask, 4, (some .int), 3, [], 2, 46),
  (8, yX8_copies, cX8_copies, 4, none, 3, [], 0, 0),
  (8, yX8_known, cX8_known, 2, none, 1, [], 1, 23),
  (8, yX8_dawns, cX8_dawns, 9, none, 3, [5], 1, 22),
  (8, yX8_dawn, cX8_dawn, 2, (some .int), 2, [], 2, 50),
  (8, yX8_mayGo, cX8_mayGo, 3, (some .boolean), 3, [], 1, 22),
  (8, yX8_trades, cX8_trades, 5, none, 4, [], 0, 0),
  (8, yX8_change, cX8_change, 3, (some .int), 3, [], 2, 46),
  (8, yX8_isRight, cX8_isRight, 4, (some .boolean), 4, [], 0, 0),
  (8, yX8_deed, cX8_deed, 3, (some .int), 3, [], 2, 46),
  (8, yX8_held, cX8_held, 3, (some .int), 1, [], 0, 0),
  (8, yX8_judges, cX8_judges, 4, (some .int), 4, [], 2, 46),
  (8, yX8_sentence, cX8_sentence, 3, (some .int), 3, [], 3, 69),
  (8, yX8_pardon, cX8_pardon, 3, (some .int), 3, [], 3, 69),
  (8, yX8_undo, cX8_undo, 1, (some .int), 1, [], 1, 23),
  (8, yX8_firstWay, cX8_firstWay, 2, none, 1, [], 0, 0)]
def zms5 : List (Nat × MethodName × ByteArray × Nat × Option FieldType × Nat × List Nat × Nat × Nat) := [
  (8, yX8_nextWay, cX8_nextWay, 7, (some .boolean), 1, [], 0, 0),
  (8, yX8_all, cX8_all, 3, (some .int), 1, [], 0, 0),
  (8, yX8_working, cX8_working, 5, (some .int), 1, [], 1, 26),
  (8, yX8_chance, cX8_chance, 6, (some .int), 2, [], 2, 50),
  (8, yX8_anew, cX8_anew, 9, (some .int), 2, [], 2, 50),
  (8, yX8_isLiked, cX8_isLiked, 6, (some .boolean), 4, [], 2, 44),
  (8, yX8_firstLiked, cX8_firstLiked, 4, (some .int), 2, [], 3, 69),
  (8, yX8_liked, cX8_liked, 5, (some .int), 2, [], 4, 92),
  (8, yX8_allChange, cX8_allChange, 4, (some .int), 2, [], 4, 92),
  (8, yX8_pointed, cX8_pointed, 6, (some .int), 3, [], 2, 44),
  (8, yX8_rounds, cX8_rounds, 7, (some .int), 2, [], 3, 69),
  (8, yX8_seen, cX8_seen, 4, (some .int), 4, [], 2, 46),
  (8, yX8_forget, cX8_forget, 2, (some .int), 1, [], 0, 0),
  (8, yX8_counts, cX8_counts, 7, (some .int), 2, [], 1, 26),
  (8, yX8_fits, cX8_fits, 1, (some .int), 1, [], 2, 52),
  (8, yX8_sure, cX8_sure, 2, (some .int), 2, [], 2, 52),
  (8, yX8_fairest, cX8_fairest, 6, (some .int), 2, [], 1, 26),
  (8, yX8_make, cX8_make, 4, (some .int), 3, [], 2, 46),
  (8, yX8_falseOne, cX8_falseOne, 4, (some .int), 1, [], 0, 0),
  (8, yX8_year, cX8_year, 6, (some .int), 5, [], 2, 50),
  (8, yX8_keep, cX8_keep, 1, (some .int), 1, [], 1, 23),
  (8, yX8_back, cX8_back, 1, (some .int), 1, [], 1, 23),
  (8, yX8_count, cX8_count, 2, (some .int), 2, [], 1, 22),
  (10, yJ6_bitCount_0f7a4, cJ6_bitCount_0f7a4, 1, (some .int), 1, [], 0, 0),
  (11, yJ9_max_7cf53, cJ9_max_7cf53, 2, (some .int), 2, [], 0, 0),
  (11, yJ9_min_7cf53, cJ9_min_7cf53, 2, (some .int), 2, [], 0, 0),
  (9, yL_law, cL_law, 4, (some .boolean), 1, [], 7, 152)]
def zms : List (Nat × MethodName × ByteArray × Nat × Option FieldType × Nat × List Nat × Nat × Nat) := zms0 ++ (zms1 ++ (zms2 ++ (zms3 ++ (zms4 ++ (zms5)))))
def zFL : List (Nat × Nat × Nat × Nat × Nat) := [(4, 9, 4, 0, 59), (4, 15, 4, 1, 60), (7, 88, 4, 1, 61), (4, 24, 4, 2, 62), (5, 27, 5, 0, 77), (1, 34, 5, 0, 78), (4, 62, 5, 0, 79), (7, 254, 5, 0, 80), (6, 18, 5, 1, 81), (0, 27, 5, 1, 82), (5, 31, 5, 1, 83), (1, 48, 5, 1, 84), (7, 106, 5, 1, 85), (4, 59, 5, 1, 86), (5, 34, 5, 2, 87), (5, 37, 5, 3, 88), (6, 42, 5, 3, 89), (4, 73, 5, 3, 90), (0, 40, 5, 4, 91), (5, 40, 5, 4, 92), (7, 263, 5, 4, 93), (5, 9, 5, 5, 94), (7, 156, 5, 5, 95), (5, 15, 5, 6, 96), (1, 55, 5, 6, 97), (7, 149, 5, 6, 98), (5, 18, 5, 7, 99), (1, 39, 5, 7, 100), (7, 257, 5, 7, 101), (5, 21, 5, 8, 102), (7, 112, 5, 8, 103), (5, 24, 5, 9, 104), (0, 54, 5, 9, 105), (1, 27, 1, 0, 133), (7, 162, 1, 0, 134), (1, 31, 1, 1, 135), (7, 129, 1, 1, 136), (1, 9, 1, 2, 137), (0, 44, 1, 2, 138), (7, 116, 1, 2, 139), (1, 15, 1, 3, 140), (0, 53, 1, 3, 141), (7, 146, 1, 3, 142), (6, 84, 1, 3, 143), (1, 18, 1, 4, 144), (7, 123, 1, 4, 145), (1, 21, 1, 5, 146), (7, 126, 1, 5, 147), (1, 24, 1, 6, 148), (2, 15, 2, 0, 176), (2, 22, 2, 1, 177), (7, 100, 2, 1, 178), (3, 9, 3, 0, 190), (3, 15, 3, 1, 191), (3, 18, 3, 2, 192), (7, 239, 3, 2, 193), (6, 9, 6, 0, 207), (6, 15, 6, 1, 208), (7, 251, 6, 1, 209), (6, 30, 6, 2, 210), (6, 31, 6, 3, 211), (7, 201, 6, 3, 212), (0, 9, 0, 0, 228), (0, 15, 0, 1, 229), (0, 18, 0, 2, 230), (0, 21, 0, 3, 231), (0, 24, 0, 4, 232), (7, 232, 0, 4, 233), (0, 39, 0, 5, 234), (0, 43, 0, 6, 235), (7, 12, 7, 0, 270), (7, 19, 7, 1, 271), (7, 23, 7, 2, 272), (7, 29, 7, 3, 273), (7, 33, 7, 4, 274), (7, 41, 7, 5, 275), (7, 45, 7, 6, 276), (7, 51, 7, 7, 277), (7, 58, 7, 8, 278), (7, 65, 7, 9, 279), (8, 65, 8, 0, 702), (8, 7, 8, 1, 703), (8, 69, 8, 2, 704), (8, 13, 8, 3, 705), (8, 17, 8, 4, 706), (8, 20, 8, 5, 707), (8, 23, 8, 6, 708), (8, 26, 8, 7, 709), (8, 29, 8, 8, 710), (8, 32, 8, 9, 711), (8, 102, 8, 10, 712), (8, 99, 8, 11, 713), (8, 96, 8, 12, 714), (8, 35, 8, 13, 715), (8, 38, 8, 14, 716), (8, 41, 8, 15, 717), (8, 44, 8, 16, 718), (8, 47, 8, 17, 719), (8, 191, 8, 18, 720), (8, 50, 8, 19, 721)]
def zML : List (Nat × Nat × Nat × Nat × Nat × Nat × Nat × Nat × Nat) := [(0, 3, 0, 8, 227, 51, 0, 0, 52), (0, 33, 0, 11, 553, 515, 0, 38, 516), (0, 47, 0, 9, 554, 432, 433, 43, 0), (0, 55, 98, 3, 571, 386, 0, 33, 387), (0, 59, 2, 0, 567, 568, 569, 41, 570), (0, 63, 97, 3, 572, 389, 0, 33, 390), (0, 67, 3, 0, 563, 564, 565, 41, 566), (0, 71, 4, 0, 573, 574, 575, 41, 576), (0, 74, 5, 0, 559, 560, 561, 41, 562), (0, 77, 7, 0, 589, 578, 579, 41, 580), (0, 81, 99, 3, 590, 449, 0, 33, 450), (0, 85, 10, 0, 600, 601, 602, 41, 603), (0, 88, 11, 0, 604, 605, 606, 41, 607), (0, 91, 12, 0, 608, 609, 610, 41, 611), (1, 3, 0, 8, 132, 51, 0, 0, 52), (1, 42, 0, 9, 431, 432, 433, 43, 0), (1, 51, 18, 0, 438, 382, 383, 36, 384), (1, 58, 98, 3, 385, 386, 0, 33, 387), (1, 62, 96, 3, 439, 264, 0, 33, 265), (1, 66, 17, 0, 440, 441, 442, 36, 443), (1, 70, 99, 3, 448, 449, 0, 33, 450), (1, 82, 158, 1, 484, 485, 0, 44, 486), (2, 1, 0, 8, 169, 51, 0, 0, 52), (2, 7, 0, 10, 170, 171, 0, 38, 172), (2, 21, 13, 4, 175, 130, 0, 36, 131), (2, 26, 23, 0, 423, 424, 425, 37, 426), (2, 29, 15, 0, 427, 428, 429, 36, 430), (3, 3, 0, 8, 189, 51, 0, 0, 52), (3, 22, 96, 3, 620, 264, 0, 33, 265), (3, 26, 98, 3, 641, 386, 0, 33, 387), (4, 3, 0, 8, 58, 51, 0, 0, 52), (4, 19, 40, 0, 322, 323, 324, 35, 325), (4, 27, 32, 0, 326, 327, 328, 34, 329), (4, 31, 37, 0, 330, 331, 332, 34, 333), (4, 35, 33, 0, 334, 335, 336, 34, 337), (4, 38, 36, 0, 338, 339, 340, 34, 341), (4, 42, 42, 0, 347, 256, 257, 35, 258), (4, 46, 34, 0, 348, 349, 350, 34, 351), (4, 49, 35, 0, 353, 354, 355, 34, 356), (4, 52, 44, 0, 357, 358, 359, 35, 360), (4, 55, 41, 0, 346, 252, 253, 35, 254), (4, 65, 38, 1, 342, 343, 0, 34, 344), (4, 69, 43, 0, 352, 260, 261, 35, 262), (4, 76, 96, 3, 345, 264, 0, 33, 265), (5, 3, 0, 8, 76, 51, 0, 0, 52), (5, 43, 43, 0, 259, 260, 261, 35, 262), (5, 47, 96, 3, 263, 264, 0, 33, 265), (5, 51, 98, 3, 471, 386, 0, 33, 387), (6, 3, 0, 8, 206, 51, 0, 0, 52), (6, 24, 0, 11, 514, 515, 0, 38, 516), (6, 34, 99, 3, 531, 449, 0, 33, 450), (6, 38, 48, 0, 510, 511, 512, 40, 513), (6, 45, 51, 0, 517, 518, 519, 40, 520), (6, 49, 49, 0, 527, 528, 529, 40, 530), (6, 52, 57, 0, 521, 522, 523, 40, 524), (6, 56, 46, 0, 526, 468, 469, 35, 470), (6, 59, 54, 0, 633, 634, 635, 40, 636), (6, 63, 28, 0, 637, 638, 639, 39, 640), (6, 69, 56, 0, 658, 659, 660, 40, 661), (6, 73, 0, 9, 663, 432, 433, 43, 0), (6, 79, 19, 0, 662, 400, 401, 36, 402), (6, 87, 98, 3, 525, 386, 0, 33, 387), (7, 3, 0, 8, 50, 51, 0, 0, 52), (7, 11, 29, 4, 55, 56, 0, 34, 57), (7, 18, 39, 4, 73, 74, 0, 35, 75), (7, 28, 13, 4, 129, 130, 0, 36, 131), (7, 38, 21, 2, 166, 167, 0, 37, 168), (7, 50, 25, 4, 186, 187, 0, 39, 188), (7, 57, 47, 4, 203, 204, 0, 40, 205), (7, 64, 0, 4, 224, 225, 0, 41, 226), (7, 69, 41, 0, 251, 252, 253, 35, 254), (7, 73, 42, 0, 255, 256, 257, 35, 258), (7, 77, 14, 0, 266, 267, 268, 36, 269), (7, 81, 96, 1, 305, 264, 0, 33, 265), (7, 84, 30, 0, 306, 307, 308, 34, 309), (7, 92, 31, 0, 318, 319, 320, 34, 321), (7, 96, 45, 0, 365, 366, 367, 35, 368), (7, 103, 27, 0, 369, 370, 371, 39, 372), (7, 109, 88, 0, 377, 379, 0, 33, 380), (7, 119, 18, 0, 381, 382, 383, 36, 384), (7, 132, 97, 1, 388, 389, 0, 33, 390), (7, 136, 90, 0, 395, 397, 1, 33, 398), (7, 139, 19, 0, 399, 400, 401, 36, 402), (7, 143, 89, 0, 407, 409, 2, 33, 410), (7, 152, 98, 1, 411, 386, 0, 33, 387), (7, 159, 92, 1, 416, 417, 0, 33, 418), (7, 165, 22, 0, 419, 420, 421, 37, 422), (7, 169, 16, 0, 434, 435, 436, 36, 437), (7, 173, 94, 0, 455, 457, 3, 33, 458), (7, 176, 99, 1, 459, 449, 0, 33, 450), (7, 180, 91, 1, 464, 465, 0, 33, 466), (7, 183, 46, 0, 467, 468, 469, 35, 470), (7, 186, 93, 0, 476, 478, 4, 33, 479), (7, 189, 20, 0, 480, 481, 482, 36, 483), (7, 193, 24, 0, 498, 499, 500, 37, 501), (7, 197, 50, 0, 506, 507, 508, 40, 509), (7, 204, 100, 1, 532, 533, 0, 33, 534), (7, 207, 0, 10, 535, 171, 0, 38, 172), (7, 212, 95, 0, 540, 542, 5, 33, 543), (7, 215, 1, 0, 549, 550, 551, 41, 552), (7, 219, 6, 0, 555, 556, 557, 41, 558), (7, 222, 7, 0, 577, 578, 579, 41, 580), (7, 225, 8, 0, 585, 586, 587, 41, 588), (7, 228, 2, 0, 591, 568, 569, 41, 570), (7, 229, 9, 0, 596, 597, 598, 41, 599), (7, 235, 26, 0, 616, 617, 618, 39, 619), (7, 240, 52, 0, 629, 630, 631, 40, 632), (7, 244, 53, 0, 646, 647, 648, 40, 649), (7, 248, 55, 0, 654, 655, 656, 40, 657), (7, 260, 15, 0, 544, 428, 429, 36, 430), (8, 1, 0, 8, 693, 51, 0, 0, 52), (8, 53, 109, 0, 694, 696, 6, 42, 697), (8, 56, 111, 0, 698, 700, 7, 42, 701), (8, 61, 102, 1, 769, 770, 0, 42, 771), (8, 78, 106, 0, 784, 786, 9, 42, 787), (8, 82, 105, 0, 790, 792, 10, 42, 793), (8, 86, 108, 0, 795, 797, 11, 42, 798), (8, 105, 107, 0, 780, 782, 8, 42, 783), (8, 108, 112, 0, 806, 777, 778, 42, 779), (8, 111, 110, 0, 807, 809, 12, 42, 810), (8, 114, 114, 0, 815, 817, 13, 42, 818), (8, 119, 116, 0, 820, 822, 14, 42, 823), (8, 123, 115, 0, 828, 830, 15, 42, 831), (8, 128, 120, 0, 846, 848, 17, 42, 849), (8, 142, 121, 0, 842, 844, 16, 42, 845), (8, 145, 122, 0, 850, 852, 18, 42, 853), (8, 148, 124, 0, 862, 864, 19, 42, 865), (8, 152, 125, 0, 866, 868, 20, 42, 869), (8, 156, 127, 0, 874, 876, 21, 42, 877), (8, 160, 129, 0, 886, 888, 23, 42, 889), (8, 163, 130, 0, 882, 884, 22, 42, 885), (8, 167, 134, 0, 906, 908, 25, 42, 909), (8, 170, 135, 0, 910, 912, 26, 42, 913), (8, 173, 137, 0, 902, 904, 24, 42, 905), (8, 176, 136, 0, 914, 916, 27, 42, 917), (8, 179, 140, 0, 930, 932, 29, 42, 933), (8, 182, 141, 0, 926, 928, 28, 42, 929), (8, 188, 144, 0, 943, 945, 30, 42, 946), (8, 194, 148, 0, 959, 961, 31, 42, 962), (9, 9, 58, 2, 47, 48, 0, 33, 49), (9, 12, 101, 2, 690, 691, 0, 42, 692), (9, 15, 59, 0, 301, 302, 303, 33, 304), (9, 19, 103, 0, 764, 765, 766, 42, 767), (9, 20, 60, 0, 310, 311, 312, 33, 313), (9, 24, 104, 0, 772, 773, 774, 42, 775), (9, 25, 61, 0, 314, 315, 316, 33, 317), (9, 28, 112, 0, 776, 777, 778, 42, 779), (9, 29, 62, 0, 361, 362, 363, 33, 364), (9, 32, 113, 0, 802, 803, 804, 42, 805), (9, 33, 63, 0, 373, 374, 375, 33, 376), (9, 37, 117, 0, 811, 812, 813, 42, 814), (9, 38, 64, 0, 391, 392, 393, 33, 394), (9, 41, 118, 0, 824, 825, 826, 42, 827), (9, 42, 65, 0, 403, 404, 405, 33, 406), (9, 45, 119, 0, 832, 833, 834, 42, 835), (9, 46, 66, 0, 412, 413, 414, 33, 415), (9, 50, 123, 0, 837, 838, 839, 42, 840), (9, 51, 67, 0, 451, 452, 453, 33, 454), (9, 54, 126, 0, 858, 859, 860, 42, 861), (9, 55, 68, 0, 460, 461, 462, 33, 463), (9, 58, 128, 0, 870, 871, 872, 42, 873), (9, 59, 69, 0, 472, 473, 474, 33, 475), (9, 62, 131, 0, 878, 879, 880, 42, 881), (9, 63, 70, 0, 490, 491, 492, 33, 493), (9, 66, 132, 0, 890, 891, 892, 42, 893), (9, 67, 71, 0, 494, 495, 496, 33, 497), (9, 70, 133, 0, 894, 895, 896, 42, 897), (9, 71, 72, 0, 502, 503, 504, 33, 505), (9, 74, 138, 0, 898, 899, 900, 42, 901), (9, 75, 73, 0, 536, 537, 538, 33, 539), (9, 78, 139, 0, 918, 919, 920, 42, 921), (9, 79, 74, 0, 545, 546, 547, 33, 548), (9, 82, 142, 0, 922, 923, 924, 42, 925), (9, 83, 75, 0, 581, 582, 583, 33, 584), (9, 86, 143, 0, 934, 935, 936, 42, 937), (9, 87, 76, 0, 592, 593, 594, 33, 595), (9, 90, 145, 0, 939, 940, 941, 42, 942), (9, 91, 77, 0, 612, 613, 614, 33, 615), (9, 95, 146, 0, 947, 948, 949, 42, 950), (9, 96, 78, 0, 621, 622, 623, 33, 624), (9, 99, 147, 0, 951, 952, 953, 42, 954), (9, 100, 79, 0, 625, 626, 627, 33, 628), (9, 103, 149, 0, 955, 956, 957, 42, 958), (9, 104, 80, 0, 642, 643, 644, 33, 645), (9, 107, 150, 0, 963, 964, 965, 42, 966), (9, 108, 81, 0, 650, 651, 652, 33, 653), (9, 111, 151, 0, 967, 968, 969, 42, 970), (9, 112, 82, 0, 664, 665, 666, 33, 667), (9, 115, 152, 0, 971, 972, 973, 42, 974), (9, 116, 83, 0, 668, 669, 670, 33, 671), (9, 119, 153, 0, 975, 976, 977, 42, 978), (9, 120, 84, 0, 672, 673, 674, 33, 675), (9, 124, 154, 0, 979, 980, 981, 42, 982), (9, 125, 85, 0, 676, 677, 678, 33, 679), (9, 128, 155, 0, 984, 985, 986, 42, 987), (9, 129, 86, 0, 680, 681, 682, 33, 683), (9, 132, 156, 0, 988, 989, 990, 42, 991), (9, 133, 87, 0, 684, 685, 686, 33, 687), (9, 136, 157, 0, 992, 993, 994, 42, 995)]
def zKL : List (Nat × Nat × Int64 × Nat) := [(1, 74, 7919, 444), (1, 76, 6151, 445), (1, 78, 3571, 446), (1, 80, 65521, 447), (8, 59, 8, 768), (8, 72, 48, 788), (8, 74, 57, 789), (8, 76, 3, 794), (8, 90, 63, 799), (8, 92, 99, 800), (8, 94, 6, 801), (8, 117, 5, 819), (8, 126, 2, 836), (8, 140, 9999, 841), (8, 132, 7919, 854), (8, 134, 6151, 855), (8, 136, 3571, 856), (8, 138, 65521, 857), (8, 186, -1, 938), (8, 197, 60, 983), (9, 13, 4294967295, 996)]
def zKI : List (Nat × Nat × Int32 × Nat) := [(10, 265, 1431655765, 487), (10, 266, 858993459, 488), (10, 267, 252645135, 489)]
/-- new: class link, the class, where the words stand -/
def zNL : List (Nat × Nat × Nat × Nat × Nat × Nat) := [(9, 7, 7, 45, 46, 33), (7, 9, 4, 53, 54, 34), (7, 16, 5, 71, 72, 35), (7, 26, 1, 127, 128, 36), (7, 36, 2, 164, 165, 37), (2, 13, 1, 173, 128, 36), (7, 48, 3, 184, 185, 39), (7, 55, 6, 201, 202, 40), (7, 62, 0, 222, 223, 41), (9, 10, 8, 688, 689, 42)]
def zNW : List Cond := lw_tbl.filter (fun w => match w with | .methodLinkNest _ _ _ _ => true | _ => false)
end
section
/-! ===== the small machine: a heap is a list of cells (tag, contents); tags below 9: objects of that class; 20, 21, 22: rows of ints, bytes, days; a reference is a place in the heap; a float stands for the script ===== -/
abbrev ZC : Type := Nat × List Value
abbrev ZH : Type := List ZC
def zm (mt : Nat) : Nat × MethodName × ByteArray × Nat × Option FieldType × Nat × List Nat × Nat × Nat := zms.getD mt (0, yX0_init, cX0_init, 0, none, 0, [], 0, 0)
def zown (mt : Nat) : Nat := (zm mt).1
def zy (mt : Nat) : MethodName := (zm mt).2.1
def zco (mt : Nat) : ByteArray := (zm mt).2.2.1
def zml (mt : Nat) : Nat := (zm mt).2.2.2.1
def zrt (mt : Nat) : Option FieldType := (zm mt).2.2.2.2.1
def zna (mt : Nat) : Nat := (zm mt).2.2.2.2.2.1
def zj (mt : Nat) : List Nat := (zm mt).2.2.2.2.2.2.1
def zfr (mt : Nat) : Nat := (zm mt).2.2.2.2.2.2.2.1
def zlo (mt : Nat) : Nat := (zm mt).2.2.2.2.2.2.2.2
def zfl (o i : Nat) : Option (Nat × Nat) := (zFL.find? (fun q => q.1 == o && q.2.1 == i)).map (fun q => (q.2.2.1, q.2.2.2.1))
def zmk (o i : Nat) : Option (Nat × Nat) := (zML.find? (fun q => q.1 == o && q.2.1 == i)).map (fun q => (q.2.2.1, q.2.2.2.1))
def zki (o i : Nat) : Option Int32 := (zKI.find? (fun q => q.1 == o && q.2.1 == i)).map (fun q => q.2.2.1)
def zkl (o i : Nat) : Option Int64 := (zKL.find? (fun q => q.1 == o && q.2.1 == i)).map (fun q => q.2.2.1)
def znw (o i : Nat) : Option Nat := (zNL.find? (fun q => q.1 == o && q.2.1 == i)).map (fun q => q.2.2.1)
def zT (ci : Nat) : u_T := (zcl.getD ci (RX0, TX0, 7)).2.1
def zN (ci : Nat) : Nat := (zcl.getD ci (RX0, TX0, 7)).2.2
def zisI (ci k : Nat) : Bool := (zT ci k).2.2.1 == "I"
def zisF (ci k : Nat) : Bool := (zT ci k).2.2.2
def zdf (ci : Nat) : List Value := (List.range (zN ci)).map (fun k => if zisI ci k then .int 0 else .null)
/-- how long an instruction is -/
def zlen (i : Instr) (len : Nat) : Bool := match i with
  | .bipush _ | .iload _ | .istore _ | .aload _ | .astore _ | .lload _ | .lstore _ | .newarray _ => len == 2
  | .sipush _ | .ldc_w _ | .ldc2_w _ | .iinc _ _ | .ifCond _ _ | .if_icmp _ _ | .goto _ | .getfield _ | .putfield _ | .invokevirtual _ | .invokestatic _ | .invokespecial _ | .new _ | .anewarray _ => len == 3
  | .tableswitch _ _ _ _ | .lookupswitch _ _ => true
  | _ => len == 1
def zli (ls : List Value) (k : Nat) : Option Int32 := match ls[k]? with
  | some (.int x) => some x
  | _ => none
def zll (ls : List Value) (k : Nat) : Option Int64 := match ls[k]? with
  | some (.long x) => some x
  | _ => none
def zla (ls : List Value) (k : Nat) : Option Value := match ls[k]? with
  | some (.ref a) => some (.ref a)
  | some (.float z) => some (.float z)
  | _ => none
/-- a place that a value of one word may go to -/
def zok (mt k : Nat) : Bool := decide (k < zml mt) && !(zj mt).any (fun j => j + 1 == k)
def zokl (mt k : Nat) : Bool := decide (k + 1 < zml mt) && !(zj mt).any (fun j => j + 1 == k) && (zj mt).contains k
def zget (h : ZH) (a ci j : Nat) : Option Value := match h[a]? with
  | some c => if c.1 = ci then c.2[j]? else none
  | none => none
def zput (h : ZH) (a ci j : Nat) (v : Value) : Option ZH := match h[a]? with
  | some c => if c.1 = ci ∧ j < c.2.length then some (h.set a (c.1, c.2.set j v)) else none
  | none => none
def zald (h : ZH) (t a : Nat) (i : Int32) : Option Value := match h[a]? with
  | some c => if c.1 = t ∧ ¬ i < 0 then c.2[i.toNatClampNeg]? else none
  | none => none
def zast (h : ZH) (t a : Nat) (i : Int32) (v : Value) : Option ZH := match h[a]? with
  | some c => if c.1 = t ∧ ¬ i < 0 ∧ i.toNatClampNeg < c.2.length then some (h.set a (c.1, c.2.set i.toNatClampNeg v)) else none
  | none => none
def zaln (h : ZH) (a : Nat) : Option Nat := match h[a]? with
  | some c => if c.1 = 20 ∨ c.1 = 21 ∨ c.1 = 22 then some c.2.length else none
  | none => none
def ztag (h : ZH) (a : Nat) : Option Nat := (h[a]?).map (fun c => c.1)
/-- the first n of one row of ints over another's -/
def zcpy (h : ZH) (a0 a n : Nat) : Option ZH := match h[a0]?, h[a]? with
  | some c0, some c1 => if c0.1 = 20 ∧ c1.1 = 20 ∧ n ≤ c0.2.length ∧ n ≤ c1.2.length then some (h.set a (20, c0.2.take n ++ c1.2.drop n)) else none
  | _, _ => none
def ztg (pc : Nat) (off : Int) : Option Nat := if (pc : Int) + off = ((((pc : Int) + off).toNat : Nat) : Int) then some ((pc : Int) + off).toNat else none
def zcz (c : Jvm.ClassFile.Cond) (x : Int32) : Bool := match c with
  | .eq => decide (x = 0)
  | .ne => decide (¬ x = 0)
  | .lt => decide (x < 0)
  | .ge => decide (0 ≤ x)
  | .gt => decide (0 < x)
  | .le => decide (x ≤ 0)
def zcc (c : Jvm.ClassFile.Cond) (x y : Int32) : Bool := match c with
  | .eq => decide (x = y)
  | .ne => decide (¬ x = y)
  | .lt => decide (x < y)
  | .ge => decide (y ≤ x)
  | .gt => decide (y < x)
  | .le => decide (x ≤ y)
def zpv (ci k : Nat) (v : Value) : Bool := match v with
  | .int _ => zisI ci k
  | .ref _ => !zisI ci k
  | _ => false
def zpf (mt ci k : Nat) : Bool := !zisF ci k || ((zy mt).name == "<init>" && zown mt == ci)
/-- one instruction that neither calls nor returns -/
def zstep (xs : Nat → Int32) (L mt : Nat) (i : Instr) (pc : Nat) (ls st : List Value) (h : ZH) : Option (Nat × List Value × List Value × ZH) :=
  match i with
  | .iconst n => some (pc + 1, ls, .int (Int32.ofInt n) :: st, h)
  | .bipush n => some (pc + 2, ls, .int (Int8.ofInt n).toInt32 :: st, h)
  | .sipush n => some (pc + 3, ls, .int (Int16.ofInt n).toInt32 :: st, h)
  | .lconst n => some (pc + 1, ls, .long (Int64.ofNat n.val) :: st, h)
  | .ldc_w x => (zki (zown mt) x).map (fun v => (pc + 3, ls, .int v :: st, h))
  | .ldc2_w x => (zkl (zown mt) x).map (fun v => (pc + 3, ls, .long v :: st, h))
  | .iload_n k => (zli ls k.val).map (fun v => (pc + 1, ls, .int v :: st, h))
  | .iload k => (zli ls k).map (fun v => (pc + 2, ls, .int v :: st, h))
  | .lload_n k => (zll ls k.val).map (fun v => (pc + 1, ls, .long v :: st, h))
  | .lload k => (zll ls k).map (fun v => (pc + 2, ls, .long v :: st, h))
  | .aload_n k => (zla ls k.val).map (fun v => (pc + 1, ls, v :: st, h))
  | .aload k => (zla ls k).map (fun v => (pc + 2, ls, v :: st, h))
  | .istore_n k => match st with
    | .int x :: r => if zok mt k.val then some (pc + 1, ls.set k.val (.int x), r, h) else none
    | _ => none
  | .istore k => match st with
    | .int x :: r => if zok mt k then some (pc + 2, ls.set k (.int x), r, h) else none
    | _ => none
  | .astore_n k => match st with
    | .ref x :: r => if zok mt k.val then some (pc + 1, ls.set k.val (.ref x), r, h) else none
    | _ => none
  | .astore k => match st with
    | .ref x :: r => if zok mt k then some (pc + 2, ls.set k (.ref x), r, h) else none
    | _ => none
  | .lstore_n k => match st with
    | .long x :: r => if zokl mt k.val then some (pc + 1, (ls.set k.val (.long x)).set (k.val + 1) .null, r, h) else none
    | _ => none
  | .lstore k => match st with
    | .long x :: r => if zokl mt k then some (pc + 2, (ls.set k (.long x)).set (k + 1) .null, r, h) else none
    | _ => none
  | .iinc k n => match zli ls k with
    | some x => if zok mt k then some (pc + 3, ls.set k (.int (x + Int32.ofInt n)), st, h) else none
    | none => none
  | .iadd => match st with
    | .int y :: .int x :: r => some (pc + 1, ls, .int (x + y) :: r, h)
    | _ => none
  | .isub => match st with
    | .int y :: .int x :: r => some (pc + 1, ls, .int (x - y) :: r, h)
    | _ => none
  | .imul => match st with
    | .int y :: .int x :: r => some (pc + 1, ls, .int (x * y) :: r, h)
    | _ => none
  | .iand => match st with
    | .int y :: .int x :: r => some (pc + 1, ls, .int (x &&& y) :: r, h)
    | _ => none
  | .ior => match st with
    | .int y :: .int x :: r => some (pc + 1, ls, .int (x ||| y) :: r, h)
    | _ => none
  | .ixor => match st with
    | .int y :: .int x :: r => some (pc + 1, ls, .int (x ^^^ y) :: r, h)
    | _ => none
  | .ishl => match st with
    | .int y :: .int x :: r => some (pc + 1, ls, .int (x <<< (y &&& 31)) :: r, h)
    | _ => none
  | .ishr => match st with
    | .int y :: .int x :: r => some (pc + 1, ls, .int (x >>> (y &&& 31)) :: r, h)
    | _ => none
  | .iushr => match st with
    | .int y :: .int x :: r => some (pc + 1, ls, .int (x.toUInt32 >>> (y.toUInt32 &&& Int32.toUInt32 31)).toInt32 :: r, h)
    | _ => none
  | .idiv => match st with
    | .int y :: .int x :: r => if y = 0 then none else some (pc + 1, ls, .int (x / y) :: r, h)
    | _ => none
  | .irem => match st with
    | .int y :: .int x :: r => if y = 0 then none else some (pc + 1, ls, .int (x - x / y * y) :: r, h)
    | _ => none
  | .ladd => match st with
    | .long y :: .long x :: r => some (pc + 1, ls, .long (x + y) :: r, h)
    | _ => none
  | .lmul => match st with
    | .long y :: .long x :: r => some (pc + 1, ls, .long (x * y) :: r, h)
    | _ => none
  | .land => match st with
    | .long y :: .long x :: r => some (pc + 1, ls, .long (x &&& y) :: r, h)
    | _ => none
  | .lor => match st with
    | .long y :: .long x :: r => some (pc + 1, ls, .long (x ||| y) :: r, h)
    | _ => none
  | .lrem => match st with
    | .long y :: .long x :: r => if y = 0 then none else some (pc + 1, ls, .long (x - x / y * y) :: r, h)
    | _ => none
  | .lcmp => match st with
    | .long y :: .long x :: r => some (pc + 1, ls, .int (lg_cmp x y) :: r, h)
    | _ => none
  | .lshl => match st with
    | .int y :: .long x :: r => some (pc + 1, ls, .long (x <<< (y.toInt64 &&& 63)) :: r, h)
    | _ => none
  | .lshr => match st with
    | .int y :: .long x :: r => some (pc + 1, ls, .long (x >>> (y.toInt64 &&& 63)) :: r, h)
    | _ => none
  | .lushr => match st with
    | .int y :: .long x :: r => some (pc + 1, ls, .long (x.toUInt64 >>> (y.toInt64.toUInt64 &&& Int64.toUInt64 63)).toInt64 :: r, h)
    | _ => none
  | .i2l => match st with
    | .int x :: r => some (pc + 1, ls, .long x.toInt64 :: r, h)
    | _ => none
  | .l2i => match st with
    | .long x :: r => some (pc + 1, ls, .int x.toInt32 :: r, h)
    | _ => none
  | .i2b => match st with
    | .int x :: r => some (pc + 1, ls, .int x.toInt8.toInt32 :: r, h)
    | _ => none
  | .dup => match st with
    | .int x :: r => some (pc + 1, ls, .int x :: .int x :: r, h)
    | .ref x :: r => some (pc + 1, ls, .ref x :: .ref x :: r, h)
    | _ => none
  | .dup2 => match st with
    | .int x :: .ref a :: r => some (pc + 1, ls, .int x :: .ref a :: .int x :: .ref a :: r, h)
    | _ => none
  | .pop => match st with
    | .int _ :: r => some (pc + 1, ls, r, h)
    | _ => none
  | .ifCond c off => match st with
    | .int x :: r => (ztg pc off).map (fun t => (if zcz c x then t else pc + 3, ls, r, h))
    | _ => none
  | .if_icmp c off => match st with
    | .int y :: .int x :: r => (ztg pc off).map (fun t => (if zcc c x y then t else pc + 3, ls, r, h))
    | _ => none
  | .goto off => (ztg pc off).map (fun t => (t, ls, st, h))
  | .tableswitch d lo hi offs => match st with
    | .int x :: r => if x.toInt < lo ∨ hi < x.toInt then (ztg pc d).map (fun t => (t, ls, r, h)) else match offs[(x.toInt - lo).toNat]? with
      | some off => (ztg pc off).map (fun t => (t, ls, r, h))
      | none => none
    | _ => none
  | .lookupswitch d ps => match st with
    | .int x :: r => if (ps.toList.zip (ps.toList.drop 1)).all (fun (a, next) => a.1 < next.1) = true then (ztg pc (Op.lookupswitch.offset ps.toList d x.toInt)).map (fun t => (t, ls, r, h)) else none
    | _ => none
  | .getfield x => match st with
    | .ref a :: r => match zfl (zown mt) x with
      | some (ci, k) => (zget h a ci k).map (fun v => (pc + 3, ls, v :: r, h))
      | none => none
    | _ => none
  | .putfield x => match st with
    | v :: .ref a :: r => match zfl (zown mt) x with
      | some (ci, k) => if zpv ci k v && zpf mt ci k then (zput h a ci k v).map (fun h' => (pc + 3, ls, r, h')) else none
      | none => none
    | _ => none
  | .iaload => match st with
    | .int i :: .ref a :: r => match zald h 20 a i with
      | some (.int x) => some (pc + 1, ls, .int x :: r, h)
      | _ => none
    | .int i :: .float _ :: r => if ¬ i < 0 ∧ i.toNatClampNeg < L then some (pc + 1, ls, .int (xs i.toNatClampNeg) :: r, h) else none
    | _ => none
  | .baload => match st with
    | .int i :: .ref a :: r => match zald h 21 a i with
      | some (.int x) => some (pc + 1, ls, .int x :: r, h)
      | _ => none
    | _ => none
  | .aaload => match st with
    | .int i :: .ref a :: r => match zald h 22 a i with
      | some (.ref x) => some (pc + 1, ls, .ref x :: r, h)
      | _ => none
    | _ => none
  | .iastore => match st with
    | .int x :: .int i :: .ref a :: r => (zast h 20 a i (.int x)).map (fun h' => (pc + 1, ls, r, h'))
    | _ => none
  | .bastore => match st with
    | .int x :: .int i :: .ref a :: r => (zast h 21 a i (.int (vp_nar .byte x))).map (fun h' => (pc + 1, ls, r, h'))
    | _ => none
  | .aastore => match st with
    | .ref x :: .int i :: .ref a :: r => if ztag h x = some 1 then (zast h 22 a i (.ref x)).map (fun h' => (pc + 1, ls, r, h')) else none
    | _ => none
  | .arraylength => match st with
    | .ref a :: r => (zaln h a).map (fun n => (pc + 1, ls, .int (Int32.ofNat n) :: r, h))
    | .float _ :: r => some (pc + 1, ls, .int (Int32.ofNat L) :: r, h)
    | _ => none
  | .newarray t => match st with
    | .int n :: r => if ¬ n < 0 ∧ n.toNatClampNeg ≤ 1000 ∧ (t = .int ∨ t = .byte) then some (pc + 2, ls, .ref h.length :: r, h ++ [(if t = .int then 20 else 21, List.replicate n.toNatClampNeg (.int 0))]) else none
    | _ => none
  | .anewarray x => match st with
    | .int n :: r => if ¬ n < 0 ∧ n.toNatClampNeg ≤ 1000 ∧ znw (zown mt) x = some 1 then some (pc + 3, ls, .ref h.length :: r, h ++ [(22, List.replicate n.toNatClampNeg .null)]) else none
    | _ => none
  | .new x => match znw (zown mt) x with
    | some ci => some (pc + 3, ls, .ref h.length :: st, h ++ [(ci, zdf ci)])
    | none => none
  | .invokespecial x => match st with
    | .ref _ :: r => if (zmk (zown mt) x).map (fun q => q.2) = some 8 ∧ r.length ≤ 4 ∧ 1 ≤ zfr mt ∧ 20 ≤ zlo mt then some (pc + 3, ls, r, h) else none
    | _ => none
  | .invokestatic x => match (zmk (zown mt) x).map (fun q => q.2) with
    | some 9 => match st with
      | .int n :: .int dp :: .ref a :: .int sp :: .ref a0 :: r => if r.length ≤ 4 ∧ 1 ≤ zfr mt ∧ 26 ≤ zlo mt ∧ dp = 0 ∧ sp = 0 ∧ ¬ n < 0 then (zcpy h a0 a n.toNatClampNeg).map (fun h' => (pc + 3, ls, r, h')) else none
      | _ => none
    | some 10 => match st with
      | .int y :: .int x :: r => if r.length ≤ 4 ∧ 1 ≤ zfr mt ∧ 21 ≤ zlo mt then some (pc + 3, ls, .int (if x < y then y else x) :: r, h) else none
      | _ => none
    | some 11 => match st with
      | .int y :: .int x :: r => if r.length ≤ 4 ∧ 1 ≤ zfr mt ∧ 21 ≤ zlo mt then some (pc + 3, ls, .int (if y < x then y else x) :: r, h) else none
      | _ => none
    | _ => none
  | _ => none
/-- whom an instruction calls, and how -/
def zcallee (mt : Nat) (i : Instr) : Option (Nat × Nat) := match i with
  | .invokevirtual x => (zmk (zown mt) x).filter (fun q => q.2 == 0)
  | .invokestatic x => (zmk (zown mt) x).filter (fun q => q.2 == 1 || q.2 == 3)
  | .invokespecial x => (zmk (zown mt) x).filter (fun q => q.2 == 2 || q.2 == 4)
  | _ => none
def zent (n : Nat) (args : List Value) : List Value := let a := args.flatMap (fun v => if v.category = 2 then [v, .null] else [v]); a ++ List.replicate (n - a.length) .null
def zlok (J : List Nat) (ls : List Value) : Bool := ls.zipIdx.all (fun q => decide (q.1.category ≠ 2) || J.contains q.2)
def zrcv (kind cal : Nat) (st : List Value) (h : ZH) : Bool := match kind with
  | 0 => match st[zna cal - 1]? with
    | some (.ref a) => decide (0 < zna cal) && decide (ztag h a = some (zown cal))
    | _ => false
  | 2 | 4 => match st[zna cal - 1]? with
    | some (.ref _) => decide (0 < zna cal)
    | _ => false
  | _ => true
def zcok (mt kind cal : Nat) (st : List Value) (h : ZH) : Bool := decide (zna cal ≤ st.length) && decide (st.length ≤ zna cal + 4) && decide (zfr cal + 1 ≤ zfr mt) && decide (8 + (zml cal + 11) + zlo cal ≤ zlo mt) && zlok (zj cal) (zent (zml cal) (st.take (zna cal)).reverse) && decide ((zent (zml cal) (st.take (zna cal)).reverse).length = zml cal) && zrcv kind cal st h
def zret (mt : Nat) (i : Instr) (st : List Value) : Option (Option Value) := match i with
  | .ireturn => match st with
    | [.int x] => if zrt mt = some .int ∨ (zrt mt = some .boolean ∧ (x = 0 ∨ x = 1)) then some (some (.int x)) else none
    | _ => none
  | .return_ => match st with
    | [] => if zrt mt = none then some none else none
    | _ => none
  | _ => none
def zrun (xs : Nat → Int32) (L : Nat) : Nat → Nat → Nat → List Value → List Value → ZH → Option (Option Value × ZH)
  | 0, _, _, _, _, _ => none
  | n + 1, mt, pc, ls, st, h =>
    match decode (zco mt) pc with
    | .error _ => none
    | .ok (i, len) =>
      if zlen i len then
        match zcallee mt i with
        | some (cal, kind) =>
          if zcok mt kind cal st h then
            match zrun xs L n cal 0 (zent (zml cal) (st.take (zna cal)).reverse) [] h with
            | some (r, h1) => zrun xs L n mt (pc + 3) ls (r.toList ++ st.drop (zna cal)) h1
            | none => none
          else none
        | none =>
          match zret mt i st with
          | some r => some (r, h)
          | none =>
            match zstep xs L mt i pc ls st h with
            | some (pc', ls', st', h') => zrun xs L n mt pc' ls' st' h'
            | none => none
      else none
theorem zrun_mono (xs : Nat → Int32) (L : Nat) : ∀ (n mt pc : Nat) (ls st : List Value) (h : ZH) (R : Option Value × ZH), zrun xs L n mt pc ls st h = some R → zrun xs L (n + 1) mt pc ls st h = some R := by
  intro n
  induction n with
  | zero => intro mt pc ls st h R hh; simp [zrun] at hh
  | succ n ih =>
    intro mt pc ls st h R hh
    rw [zrun] at hh ⊢
    split at hh
    · cases hh
    · next i len hd =>
      simp only [hd] at *
      split at hh
      · next hz =>
        rw [if_pos hz]
        split at hh
        · next cal kind hc =>
          simp only [hc] at *
          split at hh
          · next hk =>
            rw [if_pos hk]
            split at hh
            · next r h1 hr =>
              rw [ih _ _ _ _ _ _ hr]
              exact ih _ _ _ _ _ _ hh
            · cases hh
          · cases hh
        · next hc =>
          simp only [hc] at *
          split at hh
          · next r hr => simp only [hr] at *; exact hh
          · next hr =>
            simp only [hr] at *
            split at hh
            · next pc' ls' st' h' hs => simp only [hs] at *; exact ih _ _ _ _ _ _ hh
            · cases hh
      · cases hh
theorem zrun_le (xs : Nat → Int32) (L : Nat) {n k mt pc : Nat} {ls st : List Value} {h : ZH} {R : Option Value × ZH} (hnk : n ≤ k) (hh : zrun xs L n mt pc ls st h = some R) : zrun xs L k mt pc ls st h = some R := by
  induction hnk with
  | refl => exact hh
  | step _ ih => exact zrun_mono xs L _ _ _ _ _ _ _ ih
theorem zrun_det (xs : Nat → Int32) (L : Nat) {n k mt pc : Nat} {ls st : List Value} {h : ZH} {R R' : Option Value × ZH} (h1 : zrun xs L n mt pc ls st h = some R) (h2 : zrun xs L k mt pc ls st h = some R') : R = R' := by
  have a := zrun_le xs L (Nat.le_max_left n k) h1
  have b := zrun_le xs L (Nat.le_max_right n k) h2
  exact Option.some.inj (a.symm.trans b)
/-- what the machine comes to -/
noncomputable def zev (xs : Nat → Int32) (L mt pc : Nat) (ls st : List Value) (h : ZH) : Option (Option Value × ZH) :=
  @dite _ (∃ (R : Option Value × ZH) (n : Nat), zrun xs L n mt pc ls st h = some R) (Classical.propDecidable _) (fun hh => some (Classical.choose hh)) (fun _ => none)
theorem zev_iff {xs : Nat → Int32} {L mt pc : Nat} {ls st : List Value} {h : ZH} {R : Option Value × ZH} : zev xs L mt pc ls st h = some R ↔ ∃ n, zrun xs L n mt pc ls st h = some R := by
  unfold zev
  constructor
  · intro hh
    split at hh
    · next hx =>
      obtain ⟨n, hn⟩ := Classical.choose_spec hx
      rw [Option.some.inj hh] at hn
      exact ⟨n, hn⟩
    · cases hh
  · rintro ⟨n, hn⟩
    have hx : ∃ (R : Option Value × ZH) (n : Nat), zrun xs L n mt pc ls st h = some R := ⟨R, n, hn⟩
    rw [dif_pos hx]
    obtain ⟨k, hk⟩ := Classical.choose_spec hx
    rw [zrun_det xs L hk hn]
theorem zev_ext {xs : Nat → Int32} {L mt pc : Nat} {ls st : List Value} {h : ZH} {o : Option (Option Value × ZH)} (hh : ∀ R, zev xs L mt pc ls st h = some R ↔ o = some R) : zev xs L mt pc ls st h = o := by
  cases o with
  | none =>
    cases hz : zev xs L mt pc ls st h with
    | none => rfl
    | some R => exact absurd ((hh R).mp hz) (by simp)
  | some R => exact (hh R).mpr rfl
theorem zv_step {xs : Nat → Int32} {L mt pc len pc' : Nat} {i : Instr} {ls st ls' st' : List Value} {h h' : ZH} (hd : decode (zco mt) pc = .ok (i, len)) (hz : zlen i len = true) (hc : zcallee mt i = none) (hr : zret mt i st = none) (hs : zstep xs L mt i pc ls st h = some (pc', ls', st', h')) : zev xs L mt pc ls st h = zev xs L mt pc' ls' st' h' := by
  have e : ∀ n, zrun xs L (n + 1) mt pc ls st h = zrun xs L n mt pc' ls' st' h' := fun n => by
    rw [zrun]; simp only [hd, hz, hc, hr, hs, if_true]
  refine zev_ext (fun R => ?_)
  rw [zev_iff, zev_iff]
  constructor
  · rintro ⟨n, hn⟩
    exact ⟨n, by rw [← e]; exact zrun_mono xs L _ _ _ _ _ _ _ hn⟩
  · rintro ⟨n, hn⟩
    exact ⟨n + 1, by rw [e]; exact hn⟩
theorem zv_none {xs : Nat → Int32} {L mt pc len : Nat} {i : Instr} {ls st : List Value} {h : ZH} (hd : decode (zco mt) pc = .ok (i, len)) (hz : zlen i len = true) (hc : zcallee mt i = none) (hr : zret mt i st = none) (hs : zstep xs L mt i pc ls st h = none) : zev xs L mt pc ls st h = none := by
  refine zev_ext (fun R => ?_)
  rw [zev_iff]
  constructor
  · rintro ⟨n, hn⟩
    cases n with
    | zero => simp [zrun] at hn
    | succ n => rw [zrun] at hn; simp only [hd, hz, hc, hr, hs, if_true] at hn; cases hn
  · intro hh; cases hh
theorem zv_ret {xs : Nat → Int32} {L mt pc len : Nat} {i : Instr} {ls st : List Value} {h : ZH} {r : Option Value} (hd : decode (zco mt) pc = .ok (i, len)) (hz : zlen i len = true) (hc : zcallee mt i = none) (hr : zret mt i st = some r) : zev xs L mt pc ls st h = some (r, h) := by
  rw [zev_iff]
  exact ⟨1, by rw [zrun]; simp only [hd, hz, hc, hr, if_true]⟩
theorem zv_call {xs : Nat → Int32} {L mt pc len cal kind : Nat} {i : Instr} {ls st la rest : List Value} {h : ZH} (hd : decode (zco mt) pc = .ok (i, len)) (hz : zlen i len = true) (hc : zcallee mt i = some (cal, kind)) (hk : zcok mt kind cal st h = true) (ha : zent (zml cal) (st.take (zna cal)).reverse = la) (hr : st.drop (zna cal) = rest) : zev xs L mt pc ls st h = (zev xs L cal 0 la [] h).bind (fun q => zev xs L mt (pc + 3) ls (q.1.toList ++ rest) q.2) := by
  subst ha; subst hr
  have e : ∀ n, zrun xs L (n + 1) mt pc ls st h = (zrun xs L n cal 0 (zent (zml cal) (st.take (zna cal)).reverse) [] h).bind (fun q => zrun xs L n mt (pc + 3) ls (q.1.toList ++ st.drop (zna cal)) q.2) := fun n => by
    rw [zrun]; simp only [hd, hz, hc, hk, if_true]
    cases zrun xs L n cal 0 (zent (zml cal) (st.take (zna cal)).reverse) [] h <;> rfl
  refine zev_ext (fun R => ?_)
  rw [zev_iff]
  constructor
  · rintro ⟨n, hn⟩
    have hn := zrun_mono xs L _ _ _ _ _ _ _ hn
    rw [e] at hn
    cases hq : zrun xs L n cal 0 (zent (zml cal) (st.take (zna cal)).reverse) [] h with
    | none => rw [hq] at hn; cases hn
    | some q =>
      rw [hq] at hn
      rw [zev_iff.mpr ⟨n, hq⟩]
      exact zev_iff.mpr ⟨n, hn⟩
  · intro hh
    cases hq : zev xs L cal 0 (zent (zml cal) (st.take (zna cal)).reverse) [] h with
    | none => rw [hq] at hh; cases hh
    | some q =>
      rw [hq] at hh
      obtain ⟨n1, h1⟩ := zev_iff.mp hq
      obtain ⟨n2, h2⟩ := zev_iff.mp hh
      refine ⟨max n1 n2 + 1, ?_⟩
      rw [e, zrun_le xs L (Nat.le_max_left n1 n2) h1]
      exact zrun_le xs L (Nat.le_max_right n1 n2) h2
end
section
/-! ===== the tables of the small machine are the Statement's words ===== -/
def zTG : List Cond := lw_tbl.filter goodWord
def zzat (p : Nat) (w : Cond) : Bool := decide (lw_tbl[p]? = some w) && goodWord w
theorem zzat_mem {p : Nat} {w : Cond} (h : zzat p w = true) : w ∈ zTG := by
  unfold zzat at h
  rw [Bool.and_eq_true, decide_eq_true_eq] at h
  exact List.mem_filter.mpr ⟨List.mem_of_getElem? h.1, h.2⟩
theorem zTG_good {w : Cond} (h : w ∈ zTG) : ((w.onTables && w.keeps) = true ∨ ∃ ty, w = .arrayClass ty) := good_of_word (List.mem_filter.mp h).2
theorem zTG_in {ws : List Cond} (h : ∀ w ∈ ws, w ∈ zTG) : GoodIn zTG ws := fun w hw => ⟨h w hw, zTG_good (h w hw)⟩
def zFLc (q : Nat × Nat × Nat × Nat × Nat) : Bool := zzat q.2.2.2.2 (.fieldLink (zcn q.1) q.2.1 (zT q.2.2.1 q.2.2.2.1).1 (zT q.2.2.1 q.2.2.2.1).2.1 (zT q.2.2.1 q.2.2.2.1).2.2.1) && decide (q.2.2.1 < 9) && decide (q.2.2.2.1 < zN q.2.2.1)
set_option maxRecDepth 100000 in
theorem zFL_ok : zFL.all zFLc = true := by decide +kernel
theorem zfl_ok {o i ci k : Nat} (h : zfl o i = some (ci, k)) : ci < 9 ∧ k < zN ci ∧ Cond.fieldLink (zcn o) i (zT ci k).1 (zT ci k).2.1 (zT ci k).2.2.1 ∈ zTG := by
  unfold zfl at h
  cases hf : zFL.find? (fun q => q.1 == o && q.2.1 == i) with
  | none => rw [hf] at h; cases h
  | some q =>
    rw [hf] at h
    have hm := List.mem_of_find?_eq_some hf
    have hp := List.find?_some hf
    simp only [Bool.and_eq_true, beq_iff_eq] at hp
    have hc := List.all_eq_true.mp zFL_ok q hm
    unfold zFLc at hc
    simp only [Bool.and_eq_true, decide_eq_true_eq] at hc
    simp only [Option.map_some, Option.some.injEq, Prod.mk.injEq] at h
    obtain ⟨h1, h2⟩ := h
    rw [h1, h2, hp.1, hp.2] at hc
    exact ⟨hc.1.2, hc.2, zzat_mem hc.1.1⟩
set_option maxRecDepth 100000 in
theorem zcd_0 : Cond.code (zy 0) (zco 0) (zml 0) (zrt 0) ∈ zTG := List.mem_filter.mpr ⟨List.mem_of_getElem? (i := 226) rfl, rfl⟩
set_option maxRecDepth 100000 in
theorem zcd_1 : Cond.code (zy 1) (zco 1) (zml 1) (zrt 1) ∈ zTG := List.mem_filter.mpr ⟨List.mem_of_getElem? (i := 552) rfl, rfl⟩
set_option maxRecDepth 100000 in
theorem zcd_2 : Cond.code (zy 2) (zco 2) (zml 2) (zrt 2) ∈ zTG := List.mem_filter.mpr ⟨List.mem_of_getElem? (i := 570) rfl, rfl⟩
set_option maxRecDepth 100000 in
theorem zcd_3 : Cond.code (zy 3) (zco 3) (zml 3) (zrt 3) ∈ zTG := List.mem_filter.mpr ⟨List.mem_of_getElem? (i := 566) rfl, rfl⟩
set_option maxRecDepth 100000 in
theorem zcd_4 : Cond.code (zy 4) (zco 4) (zml 4) (zrt 4) ∈ zTG := List.mem_filter.mpr ⟨List.mem_of_getElem? (i := 576) rfl, rfl⟩
set_option maxRecDepth 100000 in
theorem zcd_5 : Cond.code (zy 5) (zco 5) (zml 5) (zrt 5) ∈ zTG := List.mem_filter.mpr ⟨List.mem_of_getElem? (i := 562) rfl, rfl⟩
set_option maxRecDepth 100000 in
theorem zcd_6 : Cond.code (zy 6) (zco 6) (zml 6) (zrt 6) ∈ zTG := List.mem_filter.mpr ⟨List.mem_of_getElem? (i := 558) rfl, rfl⟩
set_option maxRecDepth 100000 in
theorem zcd_7 : Cond.code (zy 7) (zco 7) (zml 7) (zrt 7) ∈ zTG := List.mem_filter.mpr ⟨List.mem_of_getElem? (i := 580) rfl, rfl⟩
set_option maxRecDepth 100000 in
theorem zcd_8 : Cond.code (zy 8) (zco 8) (zml 8) (zrt 8) ∈ zTG := List.mem_filter.mpr ⟨List.mem_of_getElem? (i := 588) rfl, rfl⟩
set_option maxRecDepth 100000 in
theorem zcd_9 : Cond.code (zy 9) (zco 9) (zml 9) (zrt 9) ∈ zTG := List.mem_filter.mpr ⟨List.mem_of_getElem? (i := 599) rfl, rfl⟩
set_option maxRecDepth 100000 in
theorem zcd_10 : Cond.code (zy 10) (zco 10) (zml 10) (zrt 10) ∈ zTG := List.mem_filter.mpr ⟨List.mem_of_getElem? (i := 603) rfl, rfl⟩
set_option maxRecDepth 100000 in
theorem zcd_11 : Cond.code (zy 11) (zco 11) (zml 11) (zrt 11) ∈ zTG := List.mem_filter.mpr ⟨List.mem_of_getElem? (i := 607) rfl, rfl⟩
set_option maxRecDepth 100000 in
theorem zcd_12 : Cond.code (zy 12) (zco 12) (zml 12) (zrt 12) ∈ zTG := List.mem_filter.mpr ⟨List.mem_of_getElem? (i := 611) rfl, rfl⟩
set_option maxRecDepth 100000 in
theorem zcd_13 : Cond.code (zy 13) (zco 13) (zml 13) (zrt 13) ∈ zTG := List.mem_filter.mpr ⟨List.mem_of_getElem? (i := 131) rfl, rfl⟩
set_option maxRecDepth 100000 in
theorem zcd_14 : Cond.code (zy 14) (zco 14) (zml 14) (zrt 14) ∈ zTG := List.mem_filter.mpr ⟨List.mem_of_getElem? (i := 269) rfl, rfl⟩
set_option maxRecDepth 100000 in
theorem zcd_15 : Cond.code (zy 15) (zco 15) (zml 15) (zrt 15) ∈ zTG := List.mem_filter.mpr ⟨List.mem_of_getElem? (i := 430) rfl, rfl⟩
set_option maxRecDepth 100000 in
theorem zcd_16 : Cond.code (zy 16) (zco 16) (zml 16) (zrt 16) ∈ zTG := List.mem_filter.mpr ⟨List.mem_of_getElem? (i := 437) rfl, rfl⟩
set_option maxRecDepth 100000 in
theorem zcd_17 : Cond.code (zy 17) (zco 17) (zml 17) (zrt 17) ∈ zTG := List.mem_filter.mpr ⟨List.mem_of_getElem? (i := 443) rfl, rfl⟩
set_option maxRecDepth 100000 in
theorem zcd_18 : Cond.code (zy 18) (zco 18) (zml 18) (zrt 18) ∈ zTG := List.mem_filter.mpr ⟨List.mem_of_getElem? (i := 384) rfl, rfl⟩
set_option maxRecDepth 100000 in
theorem zcd_19 : Cond.code (zy 19) (zco 19) (zml 19) (zrt 19) ∈ zTG := List.mem_filter.mpr ⟨List.mem_of_getElem? (i := 402) rfl, rfl⟩
set_option maxRecDepth 100000 in
theorem zcd_20 : Cond.code (zy 20) (zco 20) (zml 20) (zrt 20) ∈ zTG := List.mem_filter.mpr ⟨List.mem_of_getElem? (i := 483) rfl, rfl⟩
set_option maxRecDepth 100000 in
theorem zcd_21 : Cond.code (zy 21) (zco 21) (zml 21) (zrt 21) ∈ zTG := List.mem_filter.mpr ⟨List.mem_of_getElem? (i := 168) rfl, rfl⟩
set_option maxRecDepth 100000 in
theorem zcd_22 : Cond.code (zy 22) (zco 22) (zml 22) (zrt 22) ∈ zTG := List.mem_filter.mpr ⟨List.mem_of_getElem? (i := 422) rfl, rfl⟩
set_option maxRecDepth 100000 in
theorem zcd_23 : Cond.code (zy 23) (zco 23) (zml 23) (zrt 23) ∈ zTG := List.mem_filter.mpr ⟨List.mem_of_getElem? (i := 426) rfl, rfl⟩
set_option maxRecDepth 100000 in
theorem zcd_24 : Cond.code (zy 24) (zco 24) (zml 24) (zrt 24) ∈ zTG := List.mem_filter.mpr ⟨List.mem_of_getElem? (i := 501) rfl, rfl⟩
set_option maxRecDepth 100000 in
theorem zcd_25 : Cond.code (zy 25) (zco 25) (zml 25) (zrt 25) ∈ zTG := List.mem_filter.mpr ⟨List.mem_of_getElem? (i := 188) rfl, rfl⟩
set_option maxRecDepth 100000 in
theorem zcd_26 : Cond.code (zy 26) (zco 26) (zml 26) (zrt 26) ∈ zTG := List.mem_filter.mpr ⟨List.mem_of_getElem? (i := 619) rfl, rfl⟩
set_option maxRecDepth 100000 in
theorem zcd_27 : Cond.code (zy 27) (zco 27) (zml 27) (zrt 27) ∈ zTG := List.mem_filter.mpr ⟨List.mem_of_getElem? (i := 372) rfl, rfl⟩
set_option maxRecDepth 100000 in
theorem zcd_28 : Cond.code (zy 28) (zco 28) (zml 28) (zrt 28) ∈ zTG := List.mem_filter.mpr ⟨List.mem_of_getElem? (i := 640) rfl, rfl⟩
set_option maxRecDepth 100000 in
theorem zcd_29 : Cond.code (zy 29) (zco 29) (zml 29) (zrt 29) ∈ zTG := List.mem_filter.mpr ⟨List.mem_of_getElem? (i := 57) rfl, rfl⟩
set_option maxRecDepth 100000 in
theorem zcd_30 : Cond.code (zy 30) (zco 30) (zml 30) (zrt 30) ∈ zTG := List.mem_filter.mpr ⟨List.mem_of_getElem? (i := 309) rfl, rfl⟩
set_option maxRecDepth 100000 in
theorem zcd_31 : Cond.code (zy 31) (zco 31) (zml 31) (zrt 31) ∈ zTG := List.mem_filter.mpr ⟨List.mem_of_getElem? (i := 321) rfl, rfl⟩
set_option maxRecDepth 100000 in
theorem zcd_32 : Cond.code (zy 32) (zco 32) (zml 32) (zrt 32) ∈ zTG := List.mem_filter.mpr ⟨List.mem_of_getElem? (i := 329) rfl, rfl⟩
set_option maxRecDepth 100000 in
theorem zcd_33 : Cond.code (zy 33) (zco 33) (zml 33) (zrt 33) ∈ zTG := List.mem_filter.mpr ⟨List.mem_of_getElem? (i := 337) rfl, rfl⟩
set_option maxRecDepth 100000 in
theorem zcd_34 : Cond.code (zy 34) (zco 34) (zml 34) (zrt 34) ∈ zTG := List.mem_filter.mpr ⟨List.mem_of_getElem? (i := 351) rfl, rfl⟩
set_option maxRecDepth 100000 in
theorem zcd_35 : Cond.code (zy 35) (zco 35) (zml 35) (zrt 35) ∈ zTG := List.mem_filter.mpr ⟨List.mem_of_getElem? (i := 356) rfl, rfl⟩
set_option maxRecDepth 100000 in
theorem zcd_36 : Cond.code (zy 36) (zco 36) (zml 36) (zrt 36) ∈ zTG := List.mem_filter.mpr ⟨List.mem_of_getElem? (i := 341) rfl, rfl⟩
set_option maxRecDepth 100000 in
theorem zcd_37 : Cond.code (zy 37) (zco 37) (zml 37) (zrt 37) ∈ zTG := List.mem_filter.mpr ⟨List.mem_of_getElem? (i := 333) rfl, rfl⟩
set_option maxRecDepth 100000 in
theorem zcd_38 : Cond.code (zy 38) (zco 38) (zml 38) (zrt 38) ∈ zTG := List.mem_filter.mpr ⟨List.mem_of_getElem? (i := 344) rfl, rfl⟩
set_option maxRecDepth 100000 in
theorem zcd_39 : Cond.code (zy 39) (zco 39) (zml 39) (zrt 39) ∈ zTG := List.mem_filter.mpr ⟨List.mem_of_getElem? (i := 75) rfl, rfl⟩
set_option maxRecDepth 100000 in
theorem zcd_40 : Cond.code (zy 40) (zco 40) (zml 40) (zrt 40) ∈ zTG := List.mem_filter.mpr ⟨List.mem_of_getElem? (i := 325) rfl, rfl⟩
set_option maxRecDepth 100000 in
theorem zcd_41 : Cond.code (zy 41) (zco 41) (zml 41) (zrt 41) ∈ zTG := List.mem_filter.mpr ⟨List.mem_of_getElem? (i := 254) rfl, rfl⟩
set_option maxRecDepth 100000 in
theorem zcd_42 : Cond.code (zy 42) (zco 42) (zml 42) (zrt 42) ∈ zTG := List.mem_filter.mpr ⟨List.mem_of_getElem? (i := 258) rfl, rfl⟩
set_option maxRecDepth 100000 in
theorem zcd_43 : Cond.code (zy 43) (zco 43) (zml 43) (zrt 43) ∈ zTG := List.mem_filter.mpr ⟨List.mem_of_getElem? (i := 262) rfl, rfl⟩
set_option maxRecDepth 100000 in
theorem zcd_44 : Cond.code (zy 44) (zco 44) (zml 44) (zrt 44) ∈ zTG := List.mem_filter.mpr ⟨List.mem_of_getElem? (i := 360) rfl, rfl⟩
set_option maxRecDepth 100000 in
theorem zcd_45 : Cond.code (zy 45) (zco 45) (zml 45) (zrt 45) ∈ zTG := List.mem_filter.mpr ⟨List.mem_of_getElem? (i := 368) rfl, rfl⟩
set_option maxRecDepth 100000 in
theorem zcd_46 : Cond.code (zy 46) (zco 46) (zml 46) (zrt 46) ∈ zTG := List.mem_filter.mpr ⟨List.mem_of_getElem? (i := 470) rfl, rfl⟩
set_option maxRecDepth 100000 in
theorem zcd_47 : Cond.code (zy 47) (zco 47) (zml 47) (zrt 47) ∈ zTG := List.mem_filter.mpr ⟨List.mem_of_getElem? (i := 205) rfl, rfl⟩
set_option maxRecDepth 100000 in
theorem zcd_48 : Cond.code (zy 48) (zco 48) (zml 48) (zrt 48) ∈ zTG := List.mem_filter.mpr ⟨List.mem_of_getElem? (i := 513) rfl, rfl⟩
set_option maxRecDepth 100000 in
theorem zcd_49 : Cond.code (zy 49) (zco 49) (zml 49) (zrt 49) ∈ zTG := List.mem_filter.mpr ⟨List.mem_of_getElem? (i := 530) rfl, rfl⟩
set_option maxRecDepth 100000 in
theorem zcd_50 : Cond.code (zy 50) (zco 50) (zml 50) (zrt 50) ∈ zTG := List.mem_filter.mpr ⟨List.mem_of_getElem? (i := 509) rfl, rfl⟩
set_option maxRecDepth 100000 in
theorem zcd_51 : Cond.code (zy 51) (zco 51) (zml 51) (zrt 51) ∈ zTG := List.mem_filter.mpr ⟨List.mem_of_getElem? (i := 520) rfl, rfl⟩
set_option maxRecDepth 100000 in
theorem zcd_52 : Cond.code (zy 52) (zco 52) (zml 52) (zrt 52) ∈ zTG := List.mem_filter.mpr ⟨List.mem_of_getElem? (i := 632) rfl, rfl⟩
set_option maxRecDepth 100000 in
theorem zcd_53 : Cond.code (zy 53) (zco 53) (zml 53) (zrt 53) ∈ zTG := List.mem_filter.mpr ⟨List.mem_of_getElem? (i := 649) rfl, rfl⟩
set_option maxRecDepth 100000 in
theorem zcd_54 : Cond.code (zy 54) (zco 54) (zml 54) (zrt 54) ∈ zTG := List.mem_filter.mpr ⟨List.mem_of_getElem? (i := 636) rfl, rfl⟩
set_option maxRecDepth 100000 in
theorem zcd_55 : Cond.code (zy 55) (zco 55) (zml 55) (zrt 55) ∈ zTG := List.mem_filter.mpr ⟨List.mem_of_getElem? (i := 657) rfl, rfl⟩
set_option maxRecDepth 100000 in
theorem zcd_56 : Cond.code (zy 56) (zco 56) (zml 56) (zrt 56) ∈ zTG := List.mem_filter.mpr ⟨List.mem_of_getElem? (i := 661) rfl, rfl⟩
set_option maxRecDepth 100000 in
theorem zcd_57 : Cond.code (zy 57) (zco 57) (zml 57) (zrt 57) ∈ zTG := List.mem_filter.mpr ⟨List.mem_of_getElem? (i := 524) rfl, rfl⟩
set_option maxRecDepth 100000 in
theorem zcd_58 : Cond.code (zy 58) (zco 58) (zml 58) (zrt 58) ∈ zTG := List.mem_filter.mpr ⟨List.mem_of_getElem? (i := 49) rfl, rfl⟩
set_option maxRecDepth 100000 in
theorem zcd_59 : Cond.code (zy 59) (zco 59) (zml 59) (zrt 59) ∈ zTG := List.mem_filter.mpr ⟨List.mem_of_getElem? (i := 304) rfl, rfl⟩
set_option maxRecDepth 100000 in
theorem zcd_60 : Cond.code (zy 60) (zco 60) (zml 60) (zrt 60) ∈ zTG := List.mem_filter.mpr ⟨List.mem_of_getElem? (i := 313) rfl, rfl⟩
set_option maxRecDepth 100000 in
theorem zcd_61 : Cond.code (zy 61) (zco 61) (zml 61) (zrt 61) ∈ zTG := List.mem_filter.mpr ⟨List.mem_of_getElem? (i := 317) rfl, rfl⟩
set_option maxRecDepth 100000 in
theorem zcd_62 : Cond.code (zy 62) (zco 62) (zml 62) (zrt 62) ∈ zTG := List.mem_filter.mpr ⟨List.mem_of_getElem? (i := 364) rfl, rfl⟩
set_option maxRecDepth 100000 in
theorem zcd_63 : Cond.code (zy 63) (zco 63) (zml 63) (zrt 63) ∈ zTG := List.mem_filter.mpr ⟨List.mem_of_getElem? (i := 376) rfl, rfl⟩
set_option maxRecDepth 100000 in
theorem zcd_64 : Cond.code (zy 64) (zco 64) (zml 64) (zrt 64) ∈ zTG := List.mem_filter.mpr ⟨List.mem_of_getElem? (i := 394) rfl, rfl⟩
set_option maxRecDepth 100000 in
theorem zcd_65 : Cond.code (zy 65) (zco 65) (zml 65) (zrt 65) ∈ zTG := List.mem_filter.mpr ⟨List.mem_of_getElem? (i := 406) rfl, rfl⟩
set_option maxRecDepth 100000 in
theorem zcd_66 : Cond.code (zy 66) (zco 66) (zml 66) (zrt 66) ∈ zTG := List.mem_filter.mpr ⟨List.mem_of_getElem? (i := 415) rfl, rfl⟩
set_option maxRecDepth 100000 in
theorem zcd_67 : Cond.code (zy 67) (zco 67) (zml 67) (zrt 67) ∈ zTG := List.mem_filter.mpr ⟨List.mem_of_getElem? (i := 454) rfl, rfl⟩
set_option maxRecDepth 100000 in
theorem zcd_68 : Cond.code (zy 68) (zco 68) (zml 68) (zrt 68) ∈ zTG := List.mem_filter.mpr ⟨List.mem_of_getElem? (i := 463) rfl, rfl⟩
set_option maxRecDepth 100000 in
theorem zcd_69 : Cond.code (zy 69) (zco 69) (zml 69) (zrt 69) ∈ zTG := List.mem_filter.mpr ⟨List.mem_of_getElem? (i := 475) rfl, rfl⟩
set_option maxRecDepth 100000 in
theorem zcd_70 : Cond.code (zy 70) (zco 70) (zml 70) (zrt 70) ∈ zTG := List.mem_filter.mpr ⟨List.mem_of_getElem? (i := 493) rfl, rfl⟩
set_option maxRecDepth 100000 in
theorem zcd_71 : Cond.code (zy 71) (zco 71) (zml 71) (zrt 71) ∈ zTG := List.mem_filter.mpr ⟨List.mem_of_getElem? (i := 497) rfl, rfl⟩
set_option maxRecDepth 100000 in
theorem zcd_72 : Cond.code (zy 72) (zco 72) (zml 72) (zrt 72) ∈ zTG := List.mem_filter.mpr ⟨List.mem_of_getElem? (i := 505) rfl, rfl⟩
set_option maxRecDepth 100000 in
theorem zcd_73 : Cond.code (zy 73) (zco 73) (zml 73) (zrt 73) ∈ zTG := List.mem_filter.mpr ⟨List.mem_of_getElem? (i := 539) rfl, rfl⟩
set_option maxRecDepth 100000 in
theorem zcd_74 : Cond.code (zy 74) (zco 74) (zml 74) (zrt 74) ∈ zTG := List.mem_filter.mpr ⟨List.mem_of_getElem? (i := 548) rfl, rfl⟩
set_option maxRecDepth 100000 in
theorem zcd_75 : Cond.code (zy 75) (zco 75) (zml 75) (zrt 75) ∈ zTG := List.mem_filter.mpr ⟨List.mem_of_getElem? (i := 584) rfl, rfl⟩
set_option maxRecDepth 100000 in
theorem zcd_76 : Cond.code (zy 76) (zco 76) (zml 76) (zrt 76) ∈ zTG := List.mem_filter.mpr ⟨List.mem_of_getElem? (i := 595) rfl, rfl⟩
set_option maxRecDepth 100000 in
theorem zcd_77 : Cond.code (zy 77) (zco 77) (zml 77) (zrt 77) ∈ zTG := List.mem_filter.mpr ⟨List.mem_of_getElem? (i := 615) rfl, rfl⟩
set_option maxRecDepth 100000 in
theorem zcd_78 : Cond.code (zy 78) (zco 78) (zml 78) (zrt 78) ∈ zTG := List.mem_filter.mpr ⟨List.mem_of_getElem? (i := 624) rfl, rfl⟩
set_option maxRecDepth 100000 in
theorem zcd_79 : Cond.code (zy 79) (zco 79) (zml 79) (zrt 79) ∈ zTG := List.mem_filter.mpr ⟨List.mem_of_getElem? (i := 628) rfl, rfl⟩
set_option maxRecDepth 100000 in
theorem zcd_80 : Cond.code (zy 80) (zco 80) (zml 80) (zrt 80) ∈ zTG := List.mem_filter.mpr ⟨List.mem_of_getElem? (i := 645) rfl, rfl⟩
set_option maxRecDepth 100000 in
theorem zcd_81 : Cond.code (zy 81) (zco 81) (zml 81) (zrt 81) ∈ zTG := List.mem_filter.mpr ⟨List.mem_of_getElem? (i := 653) rfl, rfl⟩
set_option maxRecDepth 100000 in
theorem zcd_82 : Cond.code (zy 82) (zco 82) (zml 82) (zrt 82) ∈ zTG := List.mem_filter.mpr ⟨List.mem_of_getElem? (i := 667) rfl, rfl⟩
set_option maxRecDepth 100000 in
theorem zcd_83 : Cond.code (zy 83) (zco 83) (zml 83) (zrt 83) ∈ zTG := List.mem_filter.mpr ⟨List.mem_of_getElem? (i := 671) rfl, rfl⟩
set_option maxRecDepth 100000 in
theorem zcd_84 : Cond.code (zy 84) (zco 84) (zml 84) (zrt 84) ∈ zTG := List.mem_filter.mpr ⟨List.mem_of_getElem? (i := 675) rfl, rfl⟩
set_option maxRecDepth 100000 in
theorem zcd_85 : Cond.code (zy 85) (zco 85) (zml 85) (zrt 85) ∈ zTG := List.mem_filter.mpr ⟨List.mem_of_getElem? (i := 679) rfl, rfl⟩
set_option maxRecDepth 100000 in
theorem zcd_86 : Cond.code (zy 86) (zco 86) (zml 86) (zrt 86) ∈ zTG := List.mem_filter.mpr ⟨List.mem_of_getElem? (i := 683) rfl, rfl⟩
set_option maxRecDepth 100000 in
theorem zcd_87 : Cond.code (zy 87) (zco 87) (zml 87) (zrt 87) ∈ zTG := List.mem_filter.mpr ⟨List.mem_of_getElem? (i := 687) rfl, rfl⟩
set_option maxRecDepth 100000 in
theorem zcd_88 : Cond.code (zy 88) (zco 88) (zml 88) (zrt 88) ∈ zTG := List.mem_filter.mpr ⟨List.mem_of_getElem? (i := 380) rfl, rfl⟩
set_option maxRecDepth 100000 in
theorem zcd_89 : Cond.code (zy 89) (zco 89) (zml 89) (zrt 89) ∈ zTG := List.mem_filter.mpr ⟨List.mem_of_getElem? (i := 410) rfl, rfl⟩
set_option maxRecDepth 100000 in
theorem zcd_90 : Cond.code (zy 90) (zco 90) (zml 90) (zrt 90) ∈ zTG := List.mem_filter.mpr ⟨List.mem_of_getElem? (i := 398) rfl, rfl⟩
set_option maxRecDepth 100000 in
theorem zcd_91 : Cond.code (zy 91) (zco 91) (zml 91) (zrt 91) ∈ zTG := List.mem_filter.mpr ⟨List.mem_of_getElem? (i := 466) rfl, rfl⟩
set_option maxRecDepth 100000 in
theorem zcd_92 : Cond.code (zy 92) (zco 92) (zml 92) (zrt 92) ∈ zTG := List.mem_filter.mpr ⟨List.mem_of_getElem? (i := 418) rfl, rfl⟩
set_option maxRecDepth 100000 in
theorem zcd_93 : Cond.code (zy 93) (zco 93) (zml 93) (zrt 93) ∈ zTG := List.mem_filter.mpr ⟨List.mem_of_getElem? (i := 479) rfl, rfl⟩
set_option maxRecDepth 100000 in
theorem zcd_94 : Cond.code (zy 94) (zco 94) (zml 94) (zrt 94) ∈ zTG := List.mem_filter.mpr ⟨List.mem_of_getElem? (i := 458) rfl, rfl⟩
set_option maxRecDepth 100000 in
theorem zcd_95 : Cond.code (zy 95) (zco 95) (zml 95) (zrt 95) ∈ zTG := List.mem_filter.mpr ⟨List.mem_of_getElem? (i := 543) rfl, rfl⟩
set_option maxRecDepth 100000 in
theorem zcd_96 : Cond.code (zy 96) (zco 96) (zml 96) (zrt 96) ∈ zTG := List.mem_filter.mpr ⟨List.mem_of_getElem? (i := 265) rfl, rfl⟩
set_option maxRecDepth 100000 in
theorem zcd_97 : Cond.code (zy 97) (zco 97) (zml 97) (zrt 97) ∈ zTG := List.mem_filter.mpr ⟨List.mem_of_getElem? (i := 390) rfl, rfl⟩
set_option maxRecDepth 100000 in
theorem zcd_98 : Cond.code (zy 98) (zco 98) (zml 98) (zrt 98) ∈ zTG := List.mem_filter.mpr ⟨List.mem_of_getElem? (i := 387) rfl, rfl⟩
set_option maxRecDepth 100000 in
theorem zcd_99 : Cond.code (zy 99) (zco 99) (zml 99) (zrt 99) ∈ zTG := List.mem_filter.mpr ⟨List.mem_of_getElem? (i := 450) rfl, rfl⟩
set_option maxRecDepth 100000 in
theorem zcd_100 : Cond.code (zy 100) (zco 100) (zml 100) (zrt 100) ∈ zTG := List.mem_filter.mpr ⟨List.mem_of_getElem? (i := 534) rfl, rfl⟩
set_option maxRecDepth 100000 in
theorem zcd_101 : Cond.code (zy 101) (zco 101) (zml 101) (zrt 101) ∈ zTG := List.mem_filter.mpr ⟨List.mem_of_getElem? (i := 692) rfl, rfl⟩
set_option maxRecDepth 100000 in
theorem zcd_102 : Cond.code (zy 102) (zco 102) (zml 102) (zrt 102) ∈ zTG := List.mem_filter.mpr ⟨List.mem_of_getElem? (i := 771) rfl, rfl⟩
set_option maxRecDepth 100000 in
theorem zcd_103 : Cond.code (zy 103) (zco 103) (zml 103) (zrt 103) ∈ zTG := List.mem_filter.mpr ⟨List.mem_of_getElem? (i := 767) rfl, rfl⟩
set_option maxRecDepth 100000 in
theorem zcd_104 : Cond.code (zy 104) (zco 104) (zml 104) (zrt 104) ∈ zTG := List.mem_filter.mpr ⟨List.mem_of_getElem? (i := 775) rfl, rfl⟩
set_option maxRecDepth 100000 in
theorem zcd_105 : Cond.code (zy 105) (zco 105) (zml 105) (zrt 105) ∈ zTG := List.mem_filter.mpr ⟨List.mem_of_getElem? (i := 793) rfl, rfl⟩
set_option maxRecDepth 100000 in
theorem zcd_106 : Cond.code (zy 106) (zco 106) (zml 106) (zrt 106) ∈ zTG := List.mem_filter.mpr ⟨List.mem_of_getElem? (i := 787) rfl, rfl⟩
set_option maxRecDepth 100000 in
theorem zcd_107 : Cond.code (zy 107) (zco 107) (zml 107) (zrt 107) ∈ zTG := List.mem_filter.mpr ⟨List.mem_of_getElem? (i := 783) rfl, rfl⟩
set_option maxRecDepth 100000 in
theorem zcd_108 : Cond.code (zy 108) (zco 108) (zml 108) (zrt 108) ∈ zTG := List.mem_filter.mpr ⟨List.mem_of_getElem? (i := 798) rfl, rfl⟩
set_option maxRecDepth 100000 in
theorem zcd_109 : Cond.code (zy 109) (zco 109) (zml 109) (zrt 109) ∈ zTG := List.mem_filter.mpr ⟨List.mem_of_getElem? (i := 697) rfl, rfl⟩
set_option maxRecDepth 100000 in
theorem zcd_110 : Cond.code (zy 110) (zco 110) (zml 110) (zrt 110) ∈ zTG := List.mem_filter.mpr ⟨List.mem_of_getElem? (i := 810) rfl, rfl⟩
set_option maxRecDepth 100000 in
theorem zcd_111 : Cond.code (zy 111) (zco 111) (zml 111) (zrt 111) ∈ zTG := List.mem_filter.mpr ⟨List.mem_of_getElem? (i := 701) rfl, rfl⟩
set_option maxRecDepth 100000 in
theorem zcd_112 : Cond.code (zy 112) (zco 112) (zml 112) (zrt 112) ∈ zTG := List.mem_filter.mpr ⟨List.mem_of_getElem? (i := 779) rfl, rfl⟩
set_option maxRecDepth 100000 in
theorem zcd_113 : Cond.code (zy 113) (zco 113) (zml 113) (zrt 113) ∈ zTG := List.mem_filter.mpr ⟨List.mem_of_getElem? (i := 805) rfl, rfl⟩
set_option maxRecDepth 100000 in
theorem zcd_114 : Cond.code (zy 114) (zco 114) (zml 114) (zrt 114) ∈ zTG := List.mem_filter.mpr ⟨List.mem_of_getElem? (i := 818) rfl, rfl⟩
set_option maxRecDepth 100000 in
theorem zcd_115 : Cond.code (zy 115) (zco 115) (zml 115) (zrt 115) ∈ zTG := List.mem_filter.mpr ⟨List.mem_of_getElem? (i := 831) rfl, rfl⟩
set_option maxRecDepth 100000 in
theorem zcd_116 : Cond.code (zy 116) (zco 116) (zml 116) (zrt 116) ∈ zTG := List.mem_filter.mpr ⟨List.mem_of_getElem? (i := 823) rfl, rfl⟩
set_option maxRecDepth 100000 in
theorem zcd_117 : Cond.code (zy 117) (zco 117) (zml 117) (zrt 117) ∈ zTG := List.mem_filter.mpr ⟨List.mem_of_getElem? (i := 814) rfl, rfl⟩
set_option maxRecDepth 100000 in
theorem zcd_118 : Cond.code (zy 118) (zco 118) (zml 118) (zrt 118) ∈ zTG := List.mem_filter.mpr ⟨List.mem_of_getElem? (i := 827) rfl, rfl⟩
set_option maxRecDepth 100000 in
theorem zcd_119 : Cond.code (zy 119) (zco 119) (zml 119) (zrt 119) ∈ zTG := List.mem_filter.mpr ⟨List.mem_of_getElem? (i := 835) rfl, rfl⟩
set_option maxRecDepth 100000 in
theorem zcd_120 : Cond.code (zy 120) (zco 120) (zml 120) (zrt 120) ∈ zTG := List.mem_filter.mpr ⟨List.mem_of_getElem? (i := 849) rfl, rfl⟩
set_option maxRecDepth 100000 in
theorem zcd_121 : Cond.code (zy 121) (zco 121) (zml 121) (zrt 121) ∈ zTG := List.mem_filter.mpr ⟨List.mem_of_getElem? (i := 845) rfl, rfl⟩
set_option maxRecDepth 100000 in
theorem zcd_122 : Cond.code (zy 122) (zco 122) (zml 122) (zrt 122) ∈ zTG := List.mem_filter.mpr ⟨List.mem_of_getElem? (i := 853) rfl, rfl⟩
set_option maxRecDepth 100000 in
theorem zcd_123 : Cond.code (zy 123) (zco 123) (zml 123) (zrt 123) ∈ zTG := List.mem_filter.mpr ⟨List.mem_of_getElem? (i := 840) rfl, rfl⟩
set_option maxRecDepth 100000 in
theorem zcd_124 : Cond.code (zy 124) (zco 124) (zml 124) (zrt 124) ∈ zTG := List.mem_filter.mpr ⟨List.mem_of_getElem? (i := 865) rfl, rfl⟩
set_option maxRecDepth 100000 in
theorem zcd_125 : Cond.code (zy 125) (zco 125) (zml 125) (zrt 125) ∈ zTG := List.mem_filter.mpr ⟨List.mem_of_getElem? (i := 869) rfl, rfl⟩
set_option maxRecDepth 100000 in
theorem zcd_126 : Cond.code (zy 126) (zco 126) (zml 126) (zrt 126) ∈ zTG := List.mem_filter.mpr ⟨List.mem_of_getElem? (i := 861) rfl, rfl⟩
set_option maxRecDepth 100000 in
theorem zcd_127 : Cond.code (zy 127) (zco 127) (zml 127) (zrt 127) ∈ zTG := List.mem_filter.mpr ⟨List.mem_of_getElem? (i := 877) rfl, rfl⟩
set_option maxRecDepth 100000 in
theorem zcd_128 : Cond.code (zy 128) (zco 128) (zml 128) (zrt 128) ∈ zTG := List.mem_filter.mpr ⟨List.mem_of_getElem? (i := 873) rfl, rfl⟩
set_option maxRecDepth 100000 in
theorem zcd_129 : Cond.code (zy 129) (zco 129) (zml 129) (zrt 129) ∈ zTG := List.mem_filter.mpr ⟨List.mem_of_getElem? (i := 889) rfl, rfl⟩
set_option maxRecDepth 100000 in
theorem zcd_130 : Cond.code (zy 130) (zco 130) (zml 130) (zrt 130) ∈ zTG := List.mem_filter.mpr ⟨List.mem_of_getElem? (i := 885) rfl, rfl⟩
set_option maxRecDepth 100000 in
theorem zcd_131 : Cond.code (zy 131) (zco 131) (zml 131) (zrt 131) ∈ zTG := List.mem_filter.mpr ⟨List.mem_of_getElem? (i := 881) rfl, rfl⟩
set_option maxRecDepth 100000 in
theorem zcd_132 : Cond.code (zy 132) (zco 132) (zml 132) (zrt 132) ∈ zTG := List.mem_filter.mpr ⟨List.mem_of_getElem? (i := 893) rfl, rfl⟩
set_option maxRecDepth 100000 in
theorem zcd_133 : Cond.code (zy 133) (zco 133) (zml 133) (zrt 133) ∈ zTG := List.mem_filter.mpr ⟨List.mem_of_getElem? (i := 897) rfl, rfl⟩
set_option maxRecDepth 100000 in
theorem zcd_134 : Cond.code (zy 134) (zco 134) (zml 134) (zrt 134) ∈ zTG := List.mem_filter.mpr ⟨List.mem_of_getElem? (i := 909) rfl, rfl⟩
set_option maxRecDepth 100000 in
theorem zcd_135 : Cond.code (zy 135) (zco 135) (zml 135) (zrt 135) ∈ zTG := List.mem_filter.mpr ⟨List.mem_of_getElem? (i := 913) rfl, rfl⟩
set_option maxRecDepth 100000 in
theorem zcd_136 : Cond.code (zy 136) (zco 136) (zml 136) (zrt 136) ∈ zTG := List.mem_filter.mpr ⟨List.mem_of_getElem? (i := 917) rfl, rfl⟩
set_option maxRecDepth 100000 in
theorem zcd_137 : Cond.code (zy 137) (zco 137) (zml 137) (zrt 137) ∈ zTG := List.mem_filter.mpr ⟨List.mem_of_getElem? (i := 905) rfl, rfl⟩
set_option maxRecDepth 100000 in
theorem zcd_138 : Cond.code (zy 138) (zco 138) (zml 138) (zrt 138) ∈ zTG := List.mem_filter.mpr ⟨List.mem_of_getElem? (i := 901) rfl, rfl⟩
set_option maxRecDepth 100000 in
theorem zcd_139 : Cond.code (zy 139) (zco 139) (zml 139) (zrt 139) ∈ zTG := List.mem_filter.mpr ⟨List.mem_of_getElem? (i := 921) rfl, rfl⟩
set_option maxRecDepth 100000 in
theorem zcd_140 : Cond.code (zy 140) (zco 140) (zml 140) (zrt 140) ∈ zTG := List.mem_filter.mpr ⟨List.mem_of_getElem? (i := 933) rfl, rfl⟩
set_option maxRecDepth 100000 in
theorem zcd_141 : Cond.code (zy 141) (zco 141) (zml 141) (zrt 141) ∈ zTG := List.mem_filter.mpr ⟨List.mem_of_getElem? (i := 929) rfl, rfl⟩
set_option maxRecDepth 100000 in
theorem zcd_142 : Cond.code (zy 142) (zco 142) (zml 142) (zrt 142) ∈ zTG := List.mem_filter.mpr ⟨List.mem_of_getElem? (i := 925) rfl, rfl⟩
set_option maxRecDepth 100000 in
theorem zcd_143 : Cond.code (zy 143) (zco 143) (zml 143) (zrt 143) ∈ zTG := List.mem_filter.mpr ⟨List.mem_of_getElem? (i := 937) rfl, rfl⟩
set_option maxRecDepth 100000 in
theorem zcd_144 : Cond.code (zy 144) (zco 144) (zml 144) (zrt 144) ∈ zTG := List.mem_filter.mpr ⟨List.mem_of_getElem? (i := 946) rfl, rfl⟩
set_option maxRecDepth 100000 in
theorem zcd_145 : Cond.code (zy 145) (zco 145) (zml 145) (zrt 145) ∈ zTG := List.mem_filter.mpr ⟨List.mem_of_getElem? (i := 942) rfl, rfl⟩
set_option maxRecDepth 100000 in
theorem zcd_146 : Cond.code (zy 146) (zco 146) (zml 146) (zrt 146) ∈ zTG := List.mem_filter.mpr ⟨List.mem_of_getElem? (i := 950) rfl, rfl⟩
set_option maxRecDepth 100000 in
theorem zcd_147 : Cond.code (zy 147) (zco 147) (zml 147) (zrt 147) ∈ zTG := List.mem_filter.mpr ⟨List.mem_of_getElem? (i := 954) rfl, rfl⟩
set_option maxRecDepth 100000 in
theorem zcd_148 : Cond.code (zy 148) (zco 148) (zml 148) (zrt 148) ∈ zTG := List.mem_filter.mpr ⟨List.mem_of_getElem? (i := 962) rfl, rfl⟩
set_option maxRecDepth 100000 in
theorem zcd_149 : Cond.code (zy 149) (zco 149) (zml 149) (zrt 149) ∈ zTG := List.mem_filter.mpr ⟨List.mem_of_getElem? (i := 958) rfl, rfl⟩
set_option maxRecDepth 100000 in
theorem zcd_150 : Cond.code (zy 150) (zco 150) (zml 150) (zrt 150) ∈ zTG := List.mem_filter.mpr ⟨List.mem_of_getElem? (i := 966) rfl, rfl⟩
set_option maxRecDepth 100000 in
theorem zcd_151 : Cond.code (zy 151) (zco 151) (zml 151) (zrt 151) ∈ zTG := List.mem_filter.mpr ⟨List.mem_of_getElem? (i := 970) rfl, rfl⟩
set_option maxRecDepth 100000 in
theorem zcd_152 : Cond.code (zy 152) (zco 152) (zml 152) (zrt 152) ∈ zTG := List.mem_filter.mpr ⟨List.mem_of_getElem? (i := 974) rfl, rfl⟩
set_option maxRecDepth 100000 in
theorem zcd_153 : Cond.code (zy 153) (zco 153) (zml 153) (zrt 153) ∈ zTG := List.mem_filter.mpr ⟨List.mem_of_getElem? (i := 978) rfl, rfl⟩
set_option maxRecDepth 100000 in
theorem zcd_154 : Cond.code (zy 154) (zco 154) (zml 154) (zrt 154) ∈ zTG := List.mem_filter.mpr ⟨List.mem_of_getElem? (i := 982) rfl, rfl⟩
set_option maxRecDepth 100000 in
theorem zcd_155 : Cond.code (zy 155) (zco 155) (zml 155) (zrt 155) ∈ zTG := List.mem_filter.mpr ⟨List.mem_of_getElem? (i := 987) rfl, rfl⟩
set_option maxRecDepth 100000 in
theorem zcd_156 : Cond.code (zy 156) (zco 156) (zml 156) (zrt 156) ∈ zTG := List.mem_filter.mpr ⟨List.mem_of_getElem? (i := 991) rfl, rfl⟩
set_option maxRecDepth 100000 in
theorem zcd_157 : Cond.code (zy 157) (zco 157) (zml 157) (zrt 157) ∈ zTG := List.mem_filter.mpr ⟨List.mem_of_getElem? (i := 995) rfl, rfl⟩
set_option maxRecDepth 100000 in
theorem zcd_158 : Cond.code (zy 158) (zco 158) (zml 158) (zrt 158) ∈ zTG := List.mem_filter.mpr ⟨List.mem_of_getElem? (i := 486) rfl, rfl⟩
def zCD0 : List Nat := [0, 1, 2, 3, 4, 5, 6, 7, 8, 9, 10, 11, 12, 13, 14, 15]
theorem zCD0_ok : ∀ k ∈ zCD0, Cond.code (zy k) (zco k) (zml k) (zrt k) ∈ zTG := List.forall_mem_cons.mpr ⟨zcd_0, List.forall_mem_cons.mpr ⟨zcd_1, List.forall_mem_cons.mpr ⟨zcd_2, List.forall_mem_cons.mpr ⟨zcd_3, List.forall_mem_cons.mpr ⟨zcd_4, List.forall_mem_cons.mpr ⟨zcd_5, List.forall_mem_cons.mpr ⟨zcd_6, List.forall_mem_cons.mpr ⟨zcd_7, List.forall_mem_cons.mpr ⟨zcd_8, List.forall_mem_cons.mpr ⟨zcd_9, List.forall_mem_cons.mpr ⟨zcd_10, List.forall_mem_cons.mpr ⟨zcd_11, List.forall_mem_cons.mpr ⟨zcd_12, List.forall_mem_cons.mpr ⟨zcd_13, List.forall_mem_cons.mpr ⟨zcd_14, List.forall_mem_cons.mpr ⟨zcd_15, fun _ h => absurd h List.not_mem_nil⟩⟩⟩⟩⟩⟩⟩⟩⟩⟩⟩⟩⟩⟩⟩⟩
def zCD1 : List Nat := [16, 17, 18, 19, 20, 21, 22, 23, 24, 25, 26, 27, 28, 29, 30, 31]
theorem zCD1_ok : ∀ k ∈ zCD1, Cond.code (zy k) (zco k) (zml k) (zrt k) ∈ zTG := List.forall_mem_cons.mpr ⟨zcd_16, List.forall_mem_cons.mpr ⟨zcd_17, List.forall_mem_cons.mpr ⟨zcd_18, List.forall_mem_cons.mpr ⟨zcd_19, List.forall_mem_cons.mpr ⟨zcd_20, List.forall_mem_cons.mpr ⟨zcd_21, List.forall_mem_cons.mpr ⟨zcd_22, List.forall_mem_cons.mpr ⟨zcd_23, List.forall_mem_cons.mpr ⟨zcd_24, List.forall_mem_cons.mpr ⟨zcd_25, List.forall_mem_cons.mpr ⟨zcd_26, List.forall_mem_cons.mpr ⟨zcd_27, List.forall_mem_cons.mpr ⟨zcd_28, List.forall_mem_cons.mpr ⟨zcd_29, List.forall_mem_cons.mpr ⟨zcd_30, List.forall_mem_cons.mpr ⟨zcd_31, fun _ h => absurd h List.not_mem_nil⟩⟩⟩⟩⟩⟩⟩⟩⟩⟩⟩⟩⟩⟩⟩⟩
def zCD2 : List Nat := [32, 33, 34, 35, 36, 37, 38, 39, 40, 41, 42, 43, 44, 45, 46, 47]
theorem zCD2_ok : ∀ k ∈ zCD2, Cond.code (zy k) (zco k) (zml k) (zrt k) ∈ zTG := List.forall_mem_cons.mpr ⟨zcd_32, List.forall_mem_cons.mpr ⟨zcd_33, List.forall_mem_cons.mpr ⟨zcd_34, List.forall_mem_cons.mpr ⟨zcd_35, List.forall_mem_cons.mpr ⟨zcd_36, List.forall_mem_cons.mpr ⟨zcd_37, List.forall_mem_cons.mpr ⟨zcd_38, List.forall_mem_cons.mpr ⟨zcd_39, List.forall_mem_cons.mpr ⟨zcd_40, List.forall_mem_cons.mpr ⟨zcd_41, List.forall_mem_cons.mpr ⟨zcd_42, List.forall_mem_cons.mpr ⟨zcd_43, List.forall_mem_cons.mpr ⟨zcd_44, List.forall_mem_cons.mpr ⟨zcd_45, List.forall_mem_cons.mpr ⟨zcd_46, List.forall_mem_cons.mpr ⟨zcd_47, fun _ h => absurd h List.not_mem_nil⟩⟩⟩⟩⟩⟩⟩⟩⟩⟩⟩⟩⟩⟩⟩⟩
def zCD3 : List Nat := [48, 49, 50, 51, 52, 53, 54, 55, 56, 57, 58, 59, 60, 61, 62, 63]
theorem zCD3_ok : ∀ k ∈ zCD3, Cond.code (zy k) (zco k) (zml k) (zrt k) ∈ zTG := List.forall_mem_cons.mpr ⟨zcd_48, List.forall_mem_cons.mpr ⟨zcd_49, List.forall_mem_cons.mpr ⟨zcd_50, List.forall_mem_cons.mpr ⟨zcd_51, List.forall_mem_cons.mpr ⟨zcd_52, List.forall_mem_cons.mpr ⟨zcd_53, List.forall_mem_cons.mpr ⟨zcd_54, List.forall_mem_cons.mpr ⟨zcd_55, List.forall_mem_cons.mpr ⟨zcd_56, List.forall_mem_cons.mpr ⟨zcd_57, List.forall_mem_cons.mpr ⟨zcd_58, List.forall_mem_cons.mpr ⟨zcd_59, List.forall_mem_cons.mpr ⟨zcd_60, List.forall_mem_cons.mpr ⟨zcd_61, List.forall_mem_cons.mpr ⟨zcd_62, List.forall_mem_cons.mpr ⟨zcd_63, fun _ h => absurd h List.not_mem_nil⟩⟩⟩⟩⟩⟩⟩⟩⟩⟩⟩⟩⟩⟩⟩⟩
def zCD4 : List Nat := [64, 65, 66, 67, 68, 69, 70, 71, 72, 73, 74, 75, 76, 77, 78, 79]
theorem zCD4_ok : ∀ k ∈ zCD4, Cond.code (zy k) (zco k) (zml k) (zrt k) ∈ zTG := List.forall_mem_cons.mpr ⟨zcd_64, List.forall_mem_cons.mpr ⟨zcd_65, List.forall_mem_cons.mpr ⟨zcd_66, List.forall_mem_cons.mpr ⟨zcd_67, List.forall_mem_cons.mpr ⟨zcd_68, List.forall_mem_cons.mpr ⟨zcd_69, List.forall_mem_cons.mpr ⟨zcd_70, List.forall_mem_cons.mpr ⟨zcd_71, List.forall_mem_cons.mpr ⟨zcd_72, List.forall_mem_cons.mpr ⟨zcd_73, List.forall_mem_cons.mpr ⟨zcd_74, List.forall_mem_cons.mpr ⟨zcd_75, List.forall_mem_cons.mpr ⟨zcd_76, List.forall_mem_cons.mpr ⟨zcd_77, List.forall_mem_cons.mpr ⟨zcd_78, List.forall_mem_cons.mpr ⟨zcd_79, fun _ h => absurd h List.not_mem_nil⟩⟩⟩⟩⟩⟩⟩⟩⟩⟩⟩⟩⟩⟩⟩⟩
def zCD5 : List Nat := [80, 81, 82, 83, 84, 85, 86, 87, 88, 89, 90, 91, 92, 93, 94, 95]
theorem zCD5_ok : ∀ k ∈ zCD5, Cond.code (zy k) (zco k) (zml k) (zrt k) ∈ zTG := List.forall_mem_cons.mpr ⟨zcd_80, List.forall_mem_cons.mpr ⟨zcd_81, List.forall_mem_cons.mpr ⟨zcd_82, List.forall_mem_cons.mpr ⟨zcd_83, List.forall_mem_cons.mpr ⟨zcd_84, List.forall_mem_cons.mpr ⟨zcd_85, List.forall_mem_cons.mpr ⟨zcd_86, List.forall_mem_cons.mpr ⟨zcd_87, List.forall_mem_cons.mpr ⟨zcd_88, List.forall_mem_cons.mpr ⟨zcd_89, List.forall_mem_cons.mpr ⟨zcd_90, List.forall_mem_cons.mpr ⟨zcd_91, List.forall_mem_cons.mpr ⟨zcd_92, List.forall_mem_cons.mpr ⟨zcd_93, List.forall_mem_cons.mpr ⟨zcd_94, List.forall_mem_cons.mpr ⟨zcd_95, fun _ h => absurd h List.not_mem_nil⟩⟩⟩⟩⟩⟩⟩⟩⟩⟩⟩⟩⟩⟩⟩⟩
def zCD6 : List Nat := [96, 97, 98, 99, 100, 101, 102, 103, 104, 105, 106, 107, 108, 109, 110, 111]
theorem zCD6_ok : ∀ k ∈ zCD6, Cond.code (zy k) (zco k) (zml k) (zrt k) ∈ zTG := List.forall_mem_cons.mpr ⟨zcd_96, List.forall_mem_cons.mpr ⟨zcd_97, List.forall_mem_cons.mpr ⟨zcd_98, List.forall_mem_cons.mpr ⟨zcd_99, List.forall_mem_cons.mpr ⟨zcd_100, List.forall_mem_cons.mpr ⟨zcd_101, List.forall_mem_cons.mpr ⟨zcd_102, List.forall_mem_cons.mpr ⟨zcd_103, List.forall_mem_cons.mpr ⟨zcd_104, List.forall_mem_cons.mpr ⟨zcd_105, List.forall_mem_cons.mpr ⟨zcd_106, List.forall_mem_cons.mpr ⟨zcd_107, List.forall_mem_cons.mpr ⟨zcd_108, List.forall_mem_cons.mpr ⟨zcd_109, List.forall_mem_cons.mpr ⟨zcd_110, List.forall_mem_cons.mpr ⟨zcd_111, fun _ h => absurd h List.not_mem_nil⟩⟩⟩⟩⟩⟩⟩⟩⟩⟩⟩⟩⟩⟩⟩⟩
def zCD7 : List Nat := [112, 113, 114, 115, 116, 117, 118, 119, 120, 121, 122, 123, 124, 125, 126, 127]
theorem zCD7_ok : ∀ k ∈ zCD7, Cond.code (zy k) (zco k) (zml k) (zrt k) ∈ zTG := List.forall_mem_cons.mpr ⟨zcd_112, List.forall_mem_cons.mpr ⟨zcd_113, List.forall_mem_cons.mpr ⟨zcd_114, List.forall_mem_cons.mpr ⟨zcd_115, List.forall_mem_cons.mpr ⟨zcd_116, List.forall_mem_cons.mpr ⟨zcd_117, List.forall_mem_cons.mpr ⟨zcd_118, List.forall_mem_cons.mpr ⟨zcd_119, List.forall_mem_cons.mpr ⟨zcd_120, List.forall_mem_cons.mpr ⟨zcd_121, List.forall_mem_cons.mpr ⟨zcd_122, List.forall_mem_cons.mpr ⟨zcd_123, List.forall_mem_cons.mpr ⟨zcd_124, List.forall_mem_cons.mpr ⟨zcd_125, List.forall_mem_cons.mpr ⟨zcd_126, List.forall_mem_cons.mpr ⟨zcd_127, fun _ h => absurd h List.not_mem_nil⟩⟩⟩⟩⟩⟩⟩⟩⟩⟩⟩⟩⟩⟩⟩⟩
def zCD8 : List Nat := [128, 129, 130, 131, 132, 133, 134, 135, 136, 137, 138, 139, 140, 141, 142, 143]
theorem zCD8_ok : ∀ k ∈ zCD8, Cond.code (zy k) (zco k) (zml k) (zrt k) ∈ zTG := List.forall_mem_cons.mpr ⟨zcd_128, List.forall_mem_cons.mpr ⟨zcd_129, List.forall_mem_cons.mpr ⟨zcd_130, List.forall_mem_cons.mpr ⟨zcd_131, List.forall_mem_cons.mpr ⟨zcd_132, List.forall_mem_cons.mpr ⟨zcd_133, List.forall_mem_cons.mpr ⟨zcd_134, List.forall_mem_cons.mpr ⟨zcd_135, List.forall_mem_cons.mpr ⟨zcd_136, List.forall_mem_cons.mpr ⟨zcd_137, List.forall_mem_cons.mpr ⟨zcd_138, List.forall_mem_cons.mpr ⟨zcd_139, List.forall_mem_cons.mpr ⟨zcd_140, List.forall_mem_cons.mpr ⟨zcd_141, List.forall_mem_cons.mpr ⟨zcd_142, List.forall_mem_cons.mpr ⟨zcd_143, fun _ h => absurd h List.not_mem_nil⟩⟩⟩⟩⟩⟩⟩⟩⟩⟩⟩⟩⟩⟩⟩⟩
def zCD9 : List Nat := [144, 145, 146, 147, 148, 149, 150, 151, 152, 153, 154, 155, 156, 157, 158]
theorem zCD9_ok : ∀ k ∈ zCD9, Cond.code (zy k) (zco k) (zml k) (zrt k) ∈ zTG := List.forall_mem_cons.mpr ⟨zcd_144, List.forall_mem_cons.mpr ⟨zcd_145, List.forall_mem_cons.mpr ⟨zcd_146, List.forall_mem_cons.mpr ⟨zcd_147, List.forall_mem_cons.mpr ⟨zcd_148, List.forall_mem_cons.mpr ⟨zcd_149, List.forall_mem_cons.mpr ⟨zcd_150, List.forall_mem_cons.mpr ⟨zcd_151, List.forall_mem_cons.mpr ⟨zcd_152, List.forall_mem_cons.mpr ⟨zcd_153, List.forall_mem_cons.mpr ⟨zcd_154, List.forall_mem_cons.mpr ⟨zcd_155, List.forall_mem_cons.mpr ⟨zcd_156, List.forall_mem_cons.mpr ⟨zcd_157, List.forall_mem_cons.mpr ⟨zcd_158, fun _ h => absurd h List.not_mem_nil⟩⟩⟩⟩⟩⟩⟩⟩⟩⟩⟩⟩⟩⟩⟩
def zCD : List Nat := zCD0 ++ (zCD1 ++ (zCD2 ++ (zCD3 ++ (zCD4 ++ (zCD5 ++ (zCD6 ++ (zCD7 ++ (zCD8 ++ (zCD9)))))))))
theorem zCD_ok : ∀ k ∈ zCD, Cond.code (zy k) (zco k) (zml k) (zrt k) ∈ zTG := List.forall_mem_append.mpr ⟨zCD0_ok, List.forall_mem_append.mpr ⟨zCD1_ok, List.forall_mem_append.mpr ⟨zCD2_ok, List.forall_mem_append.mpr ⟨zCD3_ok, List.forall_mem_append.mpr ⟨zCD4_ok, List.forall_mem_append.mpr ⟨zCD5_ok, List.forall_mem_append.mpr ⟨zCD6_ok, List.forall_mem_append.mpr ⟨zCD7_ok, List.forall_mem_append.mpr ⟨zCD8_ok, zCD9_ok⟩⟩⟩⟩⟩⟩⟩⟩⟩
def zMH (y : MethodName) : Bool := !(y.cls == "java/lang/invoke/MethodHandle") && !(y.cls == "java/lang/invoke/VarHandle")
/-- what the tables must say of a call -/
def zMLc (q : Nat × Nat × Nat × Nat × Nat × Nat × Nat × Nat × Nat) : Bool :=
  let o := q.1; let i := q.2.1; let cal := q.2.2.1; let y := zy cal
  match q.2.2.2 with
  | (8, p1, p2, _, _, p5) => zzat p1 (.methodLink (zcn o) i objectInit) && zzat p2 (.instanceMethod objectInit) && zzat p5 (.code objectInit ⟨#[0xb1]⟩ 1 none)
  | (9, p1, p2, p3, p4, _) => zzat p1 (.methodLink (zcn o) i arraycopyName) && zzat p2 (.static arraycopyName) && zzat p3 (.native arraycopyName) && zzat p4 (.initialized "java/lang/System")
  | (10, p1, p2, _, p4, p5) => zzat p1 (.methodLink (zcn o) i Lib.Math.max.name) && zzat p2 (.static Lib.Math.max.name) && zzat p4 (.initialized "java/lang/Math") && zzat p5 (.code Lib.Math.max.name Lib.Math.max.code 2 (some .int))
  | (11, p1, p2, _, p4, p5) => zzat p1 (.methodLink (zcn o) i Lib.Math.min.name) && zzat p2 (.static Lib.Math.min.name) && zzat p4 (.initialized "java/lang/Math") && zzat p5 (.code Lib.Math.min.name Lib.Math.min.code 2 (some .int))
  | (k, p1, p2, p3, p4, _) => decide (k < 5) && zzat p4 (.initialized y.cls) && zCD.contains cal && zMH y && plainName y.cls && (y.cls == zcn (zown cal)) &&
    (match k with
     | 0 => zzat p1 (.methodLink (zcn o) i y) && zzat p2 (.instanceMethod y) && zzat p3 (.selects y.cls y y) && decide (zown cal < 9) && decide ((parseMethodDescriptor y.desc).map (fun d => d.parameters.length) = some (zna cal - 1)) && decide (0 < zna cal)
     | 1 => zzat p1 (.methodLink (zcn o) i y) && zzat p2 (.static y) && decide ((parseMethodDescriptor y.desc).map (fun d => d.parameters.length) = some (zna cal))
     | 2 => zzat p1 (.methodLink (zcn o) i y) && zzat p2 (.instanceMethod y) && (y.name == "<init>") && decide (zrt cal = none) && decide ((parseMethodDescriptor y.desc).map (fun d => d.parameters.length) = some (zna cal - 1)) && decide (0 < zna cal)
     | 3 => decide (lw_tbl[p1]? = some (.methodLinkNest (zcn o) i y RX7)) && zzat p2 (.static y) && decide ((parseMethodDescriptor y.desc).map (fun d => d.parameters.length) = some (zna cal))
     | _ => decide (lw_tbl[p1]? = some (.methodLinkNest (zcn o) i y RX7)) && zzat p2 (.instanceMethod y) && (y.name == "<init>") && decide (zrt cal = none) && decide ((parseMethodDescriptor y.desc).map (fun d => d.parameters.length) = some (zna cal - 1)) && decide (0 < zna cal))
set_option maxRecDepth 100000 in
theorem zML_ok : zML.all zMLc = true := by decide +kernel
theorem zmk_in {o i cal k : Nat} (h : zmk o i = some (cal, k)) : ∃ p : Nat × Nat × Nat × Nat × Nat, zMLc (o, i, cal, k, p) = true := by
  unfold zmk at h
  cases hf : zML.find? (fun q => q.1 == o && q.2.1 == i) with
  | none => rw [hf] at h; cases h
  | some q =>
    rw [hf] at h
    have hm := List.mem_of_find?_eq_some hf
    have hp := List.find?_some hf
    simp only [Bool.and_eq_true, beq_iff_eq] at hp
    have hc := List.all_eq_true.mp zML_ok q hm
    simp only [Option.map_some, Option.some.injEq, Prod.mk.injEq] at h
    obtain ⟨q1, q2, q3, q4, q5⟩ := q
    obtain ⟨h1, h2⟩ := h
    obtain ⟨e1, e2⟩ := hp
    simp only at h1 h2 e1 e2
    subst h1; subst h2; subst e1; subst e2
    exact ⟨q5, hc⟩
def zKIc (q : Nat × Nat × Int32 × Nat) : Bool := zzat q.2.2.2 (.constant (zcn q.1) q.2.1 q.2.2.1)
def zKLc (q : Nat × Nat × Int64 × Nat) : Bool := zzat q.2.2.2 (.constantLong (zcn q.1) q.2.1 q.2.2.1)
set_option maxRecDepth 100000 in
theorem zKI_ok : zKI.all zKIc = true := by decide +kernel
set_option maxRecDepth 100000 in
theorem zKL_ok : zKL.all zKLc = true := by decide +kernel
theorem zki_ok {o i : Nat} {v : Int32} (h : zki o i = some v) : Cond.constant (zcn o) i v ∈ zTG := by
  unfold zki at h
  cases hf : zKI.find? (fun q => q.1 == o && q.2.1 == i) with
  | none => rw [hf] at h; cases h
  | some q =>
    rw [hf] at h
    have hp := List.find?_some hf
    simp only [Bool.and_eq_true, beq_iff_eq] at hp
    have hc := List.all_eq_true.mp zKI_ok q (List.mem_of_find?_eq_some hf)
    unfold zKIc at hc
    simp only [Option.map_some, Option.some.injEq] at h
    rw [h, hp.1, hp.2] at hc
    exact zzat_mem hc
theorem zkl_ok {o i : Nat} {v : Int64} (h : zkl o i = some v) : Cond.constantLong (zcn o) i v ∈ zTG := by
  unfold zkl at h
  cases hf : zKL.find? (fun q => q.1 == o && q.2.1 == i) with
  | none => rw [hf] at h; cases h
  | some q =>
    rw [hf] at h
    have hp := List.find?_some hf
    simp only [Bool.and_eq_true, beq_iff_eq] at hp
    have hc := List.all_eq_true.mp zKL_ok q (List.mem_of_find?_eq_some hf)
    unfold zKLc at hc
    simp only [Option.map_some, Option.some.injEq] at h
    rw [h, hp.1, hp.2] at hc
    exact zzat_mem hc
def zCn (ci : Nat) : String := (zcl.getD ci (RX0, TX0, 7)).1
def zNLc (q : Nat × Nat × Nat × Nat × Nat × Nat) : Bool := zzat q.2.2.2.1 (.classLink (zcn q.1) q.2.1 (zCn q.2.2.1)) && zzat q.2.2.2.2.1 (.instantiable (zCn q.2.2.1) (zN q.2.2.1)) && zzat q.2.2.2.2.2 (.initialized (zCn q.2.2.1)) && decide (q.2.2.1 < 9)
set_option maxRecDepth 100000 in
theorem zNL_ok : zNL.all zNLc = true := by decide +kernel
theorem znw_ok {o i ci : Nat} (h : znw o i = some ci) : ci < 9 ∧ Cond.classLink (zcn o) i (zCn ci) ∈ zTG ∧ Cond.instantiable (zCn ci) (zN ci) ∈ zTG ∧ Cond.initialized (zCn ci) ∈ zTG := by
  unfold znw at h
  cases hf : zNL.find? (fun q => q.1 == o && q.2.1 == i) with
  | none => rw [hf] at h; cases h
  | some q =>
    rw [hf] at h
    have hp := List.find?_some hf
    simp only [Bool.and_eq_true, beq_iff_eq] at hp
    have hc := List.all_eq_true.mp zNL_ok q (List.mem_of_find?_eq_some hf)
    unfold zNLc at hc
    simp only [Bool.and_eq_true, decide_eq_true_eq] at hc
    simp only [Option.map_some, Option.some.injEq] at h
    rw [h, hp.1, hp.2] at hc
    exact ⟨hc.2, zzat_mem hc.1.1.1, zzat_mem hc.1.1.2, zzat_mem hc.1.2⟩
/-- types of fields -/
def zrf (t : FieldType) : Bool := match t with
  | .array _ => true
  | .object _ => true
  | _ => false
theorem zrf_ok {t : FieldType} (h : zrf t = true) (a : Nat) : narrow t (.ref a) = .ref a ∧ fits t (.ref a) = true := by
  cases t <;> first | exact ⟨rfl, rfl⟩ | cases h
def zty (ci : Nat) : Nat → FieldType := match ci with
  | 0 => tyX0
  | 1 => tyX1
  | 2 => tyX2
  | 3 => tyX3
  | 4 => tyX4
  | 5 => tyX5
  | 6 => tyX6
  | 7 => tyX7
  | _ => tyX8
def ztyc (ci k : Nat) : Bool := decide (parseFieldDescriptor (zT ci k).2.2.1 = some (zty ci k)) && (if zisI ci k then decide (zty ci k = .int) else zrf (zty ci k))
def zwin (ci : Nat) : Bool := (List.range (zN ci)).all (fun k => goodWord (u_lay (zCn ci) (zT ci) k) && decide (u_lay (zCn ci) (zT ci) k ∈ lw_tbl))
set_option maxRecDepth 100000 in
theorem ztyc_ok : (List.range 9).all (fun ci => (List.range (zN ci)).all (ztyc ci)) = true := by decide +kernel
set_option maxRecDepth 100000 in
theorem zwin_ok : (List.range 9).all zwin = true := by decide +kernel
set_option maxRecDepth 100000 in
theorem znm_ok : (List.range 9).all (fun ci => (List.range (zN ci)).all (fun a => (List.range (zN ci)).all (fun b => decide (a = b) || decide ((zT ci a).2.1 ≠ (zT ci b).2.1)))) = true := by decide +kernel
theorem zcl_at {ci : Nat} (h : ci < 9) : zcl[ci]? = some (zCn ci, zT ci, zN ci) := by
  have hl : zcl.length = 9 := rfl
  unfold zCn zT zN
  rw [List.getD_eq_getElem?_getD, List.getElem?_eq_getElem (by omega)]
  rfl
theorem zws_in {ci : Nat} (h : ci < 9) : ∀ w ∈ u_ws (zCn ci) (zT ci) (zN ci), w ∈ zTG := by
  intro w hw
  unfold u_ws at hw
  obtain ⟨k, hk, rfl⟩ := List.mem_map.mp hw
  have h1 := List.all_eq_true.mp zwin_ok ci (List.mem_range.mpr h)
  have h2 := List.all_eq_true.mp h1 k hk
  rw [Bool.and_eq_true, decide_eq_true_eq] at h2
  exact List.mem_filter.mpr ⟨h2.2, h2.1⟩
theorem zty_ok {ci : Nat} (h : ci < 9) : ∀ k, k < zN ci → parseFieldDescriptor (zT ci k).2.2.1 = some (zty ci k) := by
  intro k hk
  have h1 := List.all_eq_true.mp (List.all_eq_true.mp ztyc_ok ci (List.mem_range.mpr h)) k (List.mem_range.mpr hk)
  unfold ztyc at h1
  rw [Bool.and_eq_true, decide_eq_true_eq] at h1
  exact h1.1
theorem zty_v {ci : Nat} (h : ci < 9) {k : Nat} (hk : k < zN ci) : if zisI ci k then zty ci k = .int else zrf (zty ci k) = true := by
  have h1 := List.all_eq_true.mp (List.all_eq_true.mp ztyc_ok ci (List.mem_range.mpr h)) k (List.mem_range.mpr hk)
  unfold ztyc at h1
  rw [Bool.and_eq_true] at h1
  have h2 := h1.2
  split at h2
  · next hz => rw [if_pos hz]; exact of_decide_eq_true h2
  · next hz => rw [if_neg hz]; exact h2
theorem znm {ci : Nat} (h : ci < 9) : ∀ a, a < zN ci → ∀ b, b < zN ci → a ≠ b → (zT ci a).2.1 ≠ (zT ci b).2.1 := by
  intro a ha b hb hab
  have h1 := List.all_eq_true.mp (List.all_eq_true.mp (List.all_eq_true.mp znm_ok ci (List.mem_range.mpr h)) a (List.mem_range.mpr ha)) b (List.mem_range.mpr hb)
  simp only [Bool.or_eq_true, decide_eq_true_eq] at h1
  exact h1.resolve_left hab
theorem zdf_v {ci : Nat} (h : ci < 9) : ∀ j, j < zN ci → defaultValue (zty ci j) = vp_V (zdf ci) j := by
  intro j hj
  have h1 := zty_v h hj
  have e : vp_V (zdf ci) j = if zisI ci j then .int 0 else .null := by
    unfold vp_V zdf
    rw [List.getD_eq_getElem?_getD, List.getElem?_map, List.getElem?_range hj]
    rfl
  rw [e]
  split at h1
  · next hz => rw [if_pos hz, h1]; rfl
  · next hz =>
    rw [if_neg hz]
    revert h1
    cases zty ci j <;> intro h1 <;> first | rfl | cases h1
end
section
/-! ===== the simulation: values, cells, locals ===== -/
def zv (b B : Nat) (v : Value) : Value := match v with
  | .ref k => .ref (B + k)
  | .float _ => .ref b
  | v => v
def zi (v : Value) : Int32 := match v with
  | .int x => x
  | _ => 0
def zo (B : Nat) (v : Value) : Option Nat := match v with
  | .ref k => some (B + k)
  | _ => none
def zE (b B : Nat) (cI cB cD : ClassId) (c : ZC) : va_E :=
  if c.1 = 20 then .inl (cI, c.2.length, .inl (fun j => zi (c.2.getD j .null)))
  else if c.1 = 21 then .inl (cB, c.2.length, .inl (fun j => zi (c.2.getD j .null)))
  else if c.1 = 22 then .inl (cD, c.2.length, .inr (.inr (.inr (.inr (fun j => zo B (c.2.getD j .null))))))
  else .inr (c.1, c.2.map (zv b B))
def zws (b B : Nat) (cI cB cD : ClassId) (h : ZH) : va_W := h.zipIdx.map (fun q => (B + q.2, zE b B cI cB cD q.1))
def zsz (h : ZH) : Nat := (h.map (fun c => c.2.length)).sum
section ZW
variable {b B : Nat} {cI cB cD : ClassId} {h : ZH}
theorem zws_get (k : Nat) : (zws b B cI cB cD h)[k]? = (h[k]?).map (fun c => (B + k, zE b B cI cB cD c)) := by
  unfold zws
  rw [List.getElem?_map, List.getElem?_zipIdx]
  cases h[k]? <;> simp
theorem zws_len : (zws b B cI cB cD h).length = h.length := by simp [zws]
theorem zws_set {k : Nat} {c : ZC} : (zws b B cI cB cD h).set k (B + k, zE b B cI cB cD c) = zws b B cI cB cD (h.set k c) := by
  apply List.ext_getElem?
  intro j
  rw [zws_get, List.getElem?_set, List.getElem?_set, zws_get, zws_len]
  by_cases hjk : k = j
  · subst hjk
    by_cases hl : k < h.length <;> simp [hl]
  · simp [hjk]
theorem zws_app {c : ZC} : zws b B cI cB cD h ++ [(B + h.length, zE b B cI cB cD c)] = zws b B cI cB cD (h ++ [c]) := by
  apply List.ext_getElem?
  intro j
  rw [zws_get, List.getElem?_append, List.getElem?_append, zws_get, zws_len]
  by_cases hj : j < h.length
  · simp [hj]
  · rw [if_neg hj, if_neg hj]
    by_cases he : j = h.length
    · subst he; simp
    · rw [List.getElem?_eq_none (by simp; omega), List.getElem?_eq_none (by simp; omega)]; rfl
theorem zws_D : va_D (fun q => B ≤ q) (zws b B cI cB cD h) := by
  have key : ∀ (k : Nat) (q : Nat × va_E), (zws b B cI cB cD h)[k]? = some q → q.1 = B + k := by
    intro k q hq
    rw [zws_get] at hq
    cases hk : h[k]? with
    | none => rw [hk] at hq; cases hq
    | some c => rw [hk] at hq; cases hq; rfl
  refine ⟨fun i j p q hp hq he => ?_, fun k q hq => ?_⟩
  · have h1 := key i p hp
    have h2 := key j q hq
    omega
  · have h1 := key k q hq
    show B ≤ q.1
    omega
theorem zws_obj {a ci : Nat} {fs : List Value} (hci : ci < 9) (ha : h[a]? = some (ci, fs)) : (zws b B cI cB cD h)[a]? = some (B + a, .inr (ci, fs.map (zv b B))) := by
  rw [zws_get, ha]
  simp only [Option.map_some, zE]
  rw [if_neg (by omega), if_neg (by omega), if_neg (by omega)]
theorem zE_obj {ci : Nat} {fs : List Value} (hci : ci < 9) : zE b B cI cB cD (ci, fs) = .inr (ci, fs.map (zv b B)) := by
  simp only [zE]
  rw [if_neg (by omega), if_neg (by omega), if_neg (by omega)]
theorem zws_20 {a : Nat} {vs : List Value} (ha : h[a]? = some (20, vs)) : (zws b B cI cB cD h)[a]? = some (B + a, .inl (cI, vs.length, .inl (fun j => zi (vs.getD j .null)))) := by
  rw [zws_get, ha]; rfl
theorem zws_21 {a : Nat} {vs : List Value} (ha : h[a]? = some (21, vs)) : (zws b B cI cB cD h)[a]? = some (B + a, .inl (cB, vs.length, .inl (fun j => zi (vs.getD j .null)))) := by
  rw [zws_get, ha]; rfl
theorem zws_22 {a : Nat} {vs : List Value} (ha : h[a]? = some (22, vs)) : (zws b B cI cB cD h)[a]? = some (B + a, .inl (cD, vs.length, .inr (.inr (.inr (.inr (fun j => zo B (vs.getD j .null))))))) := by
  rw [zws_get, ha]; rfl
theorem zset_i {vs : List Value} {k : Nat} {x : Int32} (hk : k < vs.length) : (fun j => zi ((vs.set k (.int x)).getD j .null)) = upd (fun j => zi (vs.getD j .null)) k x := by
  funext j
  unfold upd
  simp only [List.getD_eq_getElem?_getD, List.getElem?_set]
  by_cases hj : k = j
  · subst hj; simp [hk, zi]
  · rw [if_neg hj, if_neg (fun q => hj q.symm)]
theorem zset_o {vs : List Value} {k x : Nat} (hk : k < vs.length) : (fun j => zo B ((vs.set k (.ref x)).getD j .null)) = va_up (fun j => zo B (vs.getD j .null)) k (some (B + x)) := by
  funext j
  unfold va_up
  simp only [List.getD_eq_getElem?_getD, List.getElem?_set]
  by_cases hj : k = j
  · subst hj; simp [hk, zo]
  · rw [if_neg hj, if_neg (fun q => hj q.symm)]
theorem zcpy_f {v0 v1 : List Value} {n : Nat} (h0 : n ≤ v0.length) (h1 : n ≤ v1.length) : (fun j => zi ((v0.take n ++ v1.drop n).getD j .null)) = va_cpy (fun j => zi (v0.getD j .null)) (fun j => zi (v1.getD j .null)) 0 0 n := by
  funext j
  unfold va_cpy
  simp only [List.getD_eq_getElem?_getD, List.getElem?_append, List.length_take, Nat.min_eq_left h0, Nat.zero_le, true_and, Nat.zero_add, Nat.sub_zero]
  by_cases hj : j < n
  · rw [if_pos hj, if_pos hj, List.getElem?_take_of_lt hj]
  · rw [if_neg hj, if_neg hj, List.getElem?_drop]
    congr 3
    omega
theorem zrep_i (n : Nat) : (fun j => zi ((List.replicate n (.int 0) : List Value).getD j .null)) = fun _ => 0 := by
  funext j
  rw [List.getD_eq_getElem?_getD, List.getElem?_replicate]
  split <;> rfl
theorem zrep_o (n : Nat) : (fun j => zo B ((List.replicate n .null : List Value).getD j .null)) = fun _ => none := by
  funext j
  rw [List.getD_eq_getElem?_getD, List.getElem?_replicate]
  split <;> rfl
theorem zsz_set {k : Nat} {c c' : ZC} (hk : h[k]? = some c) (hc : c'.2.length = c.2.length) : zsz (h.set k c') = zsz h := by
  unfold zsz
  rw [List.map_set]
  have hk' : (h.map (fun c => c.2.length))[k]? = some c.2.length := by rw [List.getElem?_map, hk]; rfl
  rw [hc]
  congr 1
  apply List.ext_getElem?
  intro j
  rw [List.getElem?_set]
  split
  · next hj => subst hj; rw [hk']; have := (List.getElem?_eq_some_iff.mp hk').1; simp only [this, if_true]
  · rfl
theorem zsz_app {c : ZC} : zsz (h ++ [c]) = zsz h + c.2.length := by simp [zsz]
theorem zget_ok {a ci k : Nat} {v : Value} (hv : zget h a ci k = some v) : ∃ fs, h[a]? = some (ci, fs) ∧ fs[k]? = some v := by
  unfold zget at hv
  split at hv
  · next c hc =>
    split at hv
    · next e => exact ⟨c.2, by rw [hc, ← e], hv⟩
    · cases hv
  · cases hv
theorem zput_ok {a ci k : Nat} {v : Value} {h' : ZH} (hv : zput h a ci k v = some h') : ∃ fs, h[a]? = some (ci, fs) ∧ k < fs.length ∧ h' = h.set a (ci, fs.set k v) := by
  unfold zput at hv
  split at hv
  · next c hc =>
    split at hv
    · next e => cases hv; exact ⟨c.2, by rw [hc, ← e.1], e.2, by rw [e.1]⟩
    · cases hv
  · cases hv
theorem zald_ok {t a : Nat} {i : Int32} {v : Value} (hv : zald h t a i = some v) : ∃ vs, h[a]? = some (t, vs) ∧ vp_in i vs.length ∧ vs[i.toNatClampNeg]? = some v := by
  unfold zald at hv
  split at hv
  · next c hc =>
    split at hv
    · next e =>
      refine ⟨c.2, by rw [hc, ← e.1], ?_, hv⟩
      have hl := (List.getElem?_eq_some_iff.mp hv).1
      exact fun q => q.elim e.2 (fun q => by omega)
    · cases hv
  · cases hv
theorem zast_ok {t a : Nat} {i : Int32} {v : Value} {h' : ZH} (hv : zast h t a i v = some h') : ∃ vs, h[a]? = some (t, vs) ∧ vp_in i vs.length ∧ i.toNatClampNeg < vs.length ∧ h' = h.set a (t, vs.set i.toNatClampNeg v) := by
  unfold zast at hv
  split at hv
  · next c hc =>
    split at hv
    · next e => cases hv; exact ⟨c.2, by rw [hc, ← e.1], fun q => q.elim e.2.1 (fun q => by have := e.2.2; omega), e.2.2, by rw [e.1]⟩
    · cases hv
  · cases hv
theorem ztag_ok {a t : Nat} (hv : ztag h a = some t) : ∃ vs, h[a]? = some (t, vs) := by
  unfold ztag at hv
  cases hc : h[a]? with
  | none => rw [hc] at hv; cases hv
  | some c => rw [hc] at hv; cases hv; exact ⟨c.2, rfl⟩
end ZW
theorem ztg_ok {pc t : Nat} {off : Int} (h : ztg pc off = some t) : (pc : Int) + off = (t : Int) := by
  unfold ztg at h
  split at h
  · next e => cases h; exact e
  · cases h
theorem zv_cat (b B : Nat) (v : Value) : (zv b B v).category = v.category := by cases v <;> rfl
def zlv (b B : Nat) : Nat → List Value → List (Nat × Value)
  | _, [] => []
  | i, v :: r => if v = .null then zlv b B (i + 1) r else (i, zv b B v) :: zlv b B (i + 1) r
theorem zlv_mem {b B : Nat} : ∀ {ls : List Value} {i : Nat} {q : Nat × Value}, q ∈ zlv b B i ls ↔ ∃ (k : Nat) (v : Value), ls[k]? = some v ∧ v ≠ .null ∧ q = (i + k, zv b B v)
  | [], i, q => by simp [zlv]
  | v :: r, i, q => by
    have ih := @zlv_mem b B r (i + 1) q
    unfold zlv
    constructor
    · intro hq
      split at hq
      · obtain ⟨k, w, h1, h2, h3⟩ := ih.mp hq
        exact ⟨k + 1, w, by simpa using h1, h2, by rw [h3]; congr 1; omega⟩
      · next hv =>
        rcases List.mem_cons.mp hq with hq | hq
        · exact ⟨0, v, rfl, hv, hq⟩
        · obtain ⟨k, w, h1, h2, h3⟩ := ih.mp hq
          exact ⟨k + 1, w, by simpa using h1, h2, by rw [h3]; congr 1; omega⟩
    · rintro ⟨k, w, h1, h2, h3⟩
      cases k with
      | zero =>
        simp at h1
        subst h1
        rw [if_neg h2]
        exact List.mem_cons.mpr (Or.inl h3)
      | succ k =>
        have : q ∈ zlv b B (i + 1) r := ih.mpr ⟨k, w, by simpa using h1, h2, by rw [h3]; congr 1; omega⟩
        split
        · exact this
        · exact List.mem_cons_of_mem _ this
def zL (b B mt : Nat) (ls : List Value) (lsA : Array Slot) : Prop := ls.length = zml mt ∧ lv_has lsA (zml mt) (zlv b B 0 ls) ∧ ∀ (i : Nat) (v : Value), ls[i]? = some v → v.category = 2 → i ∈ zj mt
section ZLs
variable {b B mt : Nat} {ls : List Value} {lsA lsA' : Array Slot}
theorem zL_mem (h : zL b B mt ls lsA) {k : Nat} {v : Value} (hv : ls[k]? = some v) (hn : v ≠ .null) : (k, zv b B v) ∈ zlv b B 0 ls := zlv_mem.mpr ⟨k, v, hv, hn, by rw [Nat.zero_add]⟩
theorem zL_get (h : zL b B mt ls lsA) {k : Nat} {v : Value} (hv : ls[k]? = some v) (hn : v ≠ .null) : lsA[k]? = some (.val (zv b B v)) := h.2.1.2.2 _ (zL_mem h hv hn)
theorem zL_i (h : zL b B mt ls lsA) {k : Nat} {x : Int32} (hv : zli ls k = some x) : lsA[k]? = some (.val (.int x)) := by
  unfold zli at hv
  split at hv
  · next e => cases hv; exact zL_get h e (by simp)
  · cases hv
theorem zL_l (h : zL b B mt ls lsA) {k : Nat} {x : Int64} (hv : zll ls k = some x) : lsA[k]? = some (.val (.long x)) := by
  unfold zll at hv
  split at hv
  · next e => cases hv; exact zL_get h e (by simp)
  · cases hv
theorem zL_a (h : zL b B mt ls lsA) {k : Nat} {v : Value} (hv : zla ls k = some v) : ∃ q : Nat, zv b B v = .ref q ∧ lsA[k]? = some (.val (.ref q)) := by
  unfold zla at hv
  split at hv
  · next e => cases hv; exact ⟨_, rfl, zL_get h e (by simp)⟩
  · next e => cases hv; exact ⟨_, rfl, zL_get h e (by simp)⟩
  · cases hv
theorem zok_lt {k : Nat} (h : zok mt k = true) : k < zml mt := by
  unfold zok at h
  rw [Bool.and_eq_true, decide_eq_true_eq] at h
  exact h.1
theorem zok_j {k j : Nat} (h : zok mt k = true) (hj : j ∈ zj mt) : ¬ j + 1 = k := by
  unfold zok at h
  rw [Bool.and_eq_true, Bool.not_eq_true', List.any_eq_false] at h
  intro e
  exact h.2 j hj (by rw [e]; exact beq_self_eq_true k)
theorem zL_set1 (h : zL b B mt ls lsA) {k : Nat} (hok : zok mt k = true) {v : Value} (hc : v.category = 1) (h' : lv_has lsA' (zml mt) ((k, zv b B v) :: (zlv b B 0 ls).filter (fun q => !(q.1 == k) && !(q.1 + 1 == k && q.2.category == 2)))) : zL b B mt (ls.set k v) lsA' := by
  have hk : k < ls.length := by rw [h.1]; exact zok_lt hok
  refine ⟨by rw [List.length_set]; exact h.1, ⟨h'.1, h'.2.1, fun q hq => h'.2.2 q ?_⟩, fun i w hi hw => ?_⟩
  · obtain ⟨j, w, h1, h2, h3⟩ := zlv_mem.mp hq
    rw [Nat.zero_add] at h3
    rw [List.getElem?_set] at h1
    by_cases hj : k = j
    · subst hj
      rw [if_pos rfl, if_pos hk] at h1
      cases h1
      exact List.mem_cons.mpr (Or.inl h3)
    · rw [if_neg hj] at h1
      refine List.mem_cons_of_mem _ (List.mem_filter.mpr ⟨zlv_mem.mpr ⟨j, w, h1, h2, by rw [Nat.zero_add]; exact h3⟩, ?_⟩)
      subst h3
      simp only [zv_cat, Bool.and_eq_true, Bool.not_eq_true', beq_eq_false_iff_ne, Bool.and_eq_false_iff]
      refine ⟨fun e => hj e.symm, ?_⟩
      by_cases hw : w.category = 2
      · exact Or.inl (zok_j hok (h.2.2 j w h1 hw))
      · exact Or.inr hw
  · rw [List.getElem?_set] at hi
    by_cases hj : k = i
    · subst hj
      rw [if_pos rfl, if_pos hk] at hi
      cases hi
      omega
    · rw [if_neg hj] at hi
      exact h.2.2 i w hi hw
theorem zokl_lt {k : Nat} (h : zokl mt k = true) : k + 1 < zml mt ∧ (∀ j ∈ zj mt, ¬ j + 1 = k) ∧ k ∈ zj mt := by
  unfold zokl at h
  rw [Bool.and_eq_true, Bool.and_eq_true, decide_eq_true_eq, Bool.not_eq_true', List.any_eq_false] at h
  refine ⟨h.1.1, fun j hj e => h.1.2 j hj (by rw [e]; exact beq_self_eq_true k), ?_⟩
  simpa using h.2
theorem zL_set2 (h : zL b B mt ls lsA) {k : Nat} (hok : zokl mt k = true) {x : Int64} (h' : lv_has lsA' (zml mt) ((k, .long x) :: (zlv b B 0 ls).filter (fun q => !(q.1 == k) && (!(q.1 == k + 1) && !(q.1 + 1 == k && q.2.category == 2))))) : zL b B mt ((ls.set k (.long x)).set (k + 1) .null) lsA' := by
  obtain ⟨hl, hj0, hkj⟩ := zokl_lt hok
  have hk : k < ls.length := by rw [h.1]; omega
  have hk1 : k + 1 < ls.length := by rw [h.1]; omega
  refine ⟨by rw [List.length_set, List.length_set]; exact h.1, ⟨h'.1, h'.2.1, fun q hq => h'.2.2 q ?_⟩, fun i w hi hw => ?_⟩
  · obtain ⟨j, w, h1, h2, h3⟩ := zlv_mem.mp hq
    rw [Nat.zero_add] at h3
    rw [List.getElem?_set] at h1
    by_cases hj1 : k + 1 = j
    · rw [if_pos hj1, if_pos (by rw [List.length_set]; omega)] at h1
      cases h1
      exact absurd rfl h2
    · rw [if_neg hj1, List.getElem?_set] at h1
      by_cases hj : k = j
      · subst hj
        rw [if_pos rfl, if_pos hk] at h1
        cases h1
        exact List.mem_cons.mpr (Or.inl h3)
      · rw [if_neg hj] at h1
        refine List.mem_cons_of_mem _ (List.mem_filter.mpr ⟨zlv_mem.mpr ⟨j, w, h1, h2, by rw [Nat.zero_add]; exact h3⟩, ?_⟩)
        subst h3
        simp only [zv_cat, Bool.and_eq_true, Bool.not_eq_true', beq_eq_false_iff_ne, Bool.and_eq_false_iff]
        refine ⟨fun e => hj e.symm, fun e => hj1 e.symm, ?_⟩
        by_cases hw : w.category = 2
        · exact Or.inl (hj0 j (h.2.2 j w h1 hw))
        · exact Or.inr hw
  · rw [List.getElem?_set] at hi
    by_cases hj1 : k + 1 = i
    · rw [if_pos hj1, if_pos (by rw [List.length_set]; omega)] at hi
      cases hi
      cases hw
    · rw [if_neg hj1, List.getElem?_set] at hi
      by_cases hj : k = i
      · subst hj; exact hkj
      · rw [if_neg hj] at hi
        exact h.2.2 i w hi hw
end ZLs
theorem zcat_sum (b B : Nat) : ∀ r : List Value, ((r.map (zv b B)).map fun v => v.category).sum ≤ 2 * r.length
  | [] => by simp
  | v :: r => by
    have ih := zcat_sum b B r
    have hv : (zv b B v).category ≤ 2 := by cases v <;> simp [zv, Value.category]
    simp only [List.map_cons, List.sum_cons, List.length_cons]
    omega
/-- what holds wherever a method runs -/
def zC (xs : Nat → Int32) (L b B : Nat) (cI cB cD : ClassId) (D : va_G) (p : Program) (s : State) (m : MethodId) (args : Array Value) (meth : Method) (c : Code) (mt : Nat) : Prop :=
  p.tables.exec = Jvm.exec ∧ c.code = zco mt ∧ c.maxLocals = zml mt ∧ s.vm.findClass (zcn (zown mt)) = some m.cls ∧ (∀ w ∈ zTG, w.before args s = true) ∧ ((zy mt).name = "<init>" → meth.name = "<init>") ∧
  va_K D zcl [(cI, .int), (cB, .byte), (cD, .object RX1)] s ∧ va_X b L xs s s.heap ∧ b < s.heap.size ∧ b < B ∧ B ≤ s.heap.size ∧ (∀ w ∈ zNW, va_Nw w s) ∧ va_AO RX1 s
set_option maxRecDepth 100000 in
theorem zT_own : (List.range 9).all (fun ci => (List.range (zN ci)).all (fun k => decide ((zT ci k).1 = zcn ci))) = true := by decide +kernel
theorem zT_own' {ci k : Nat} (h : ci < 9) (hk : k < zN ci) : (zT ci k).1 = zcn ci := of_decide_eq_true (List.all_eq_true.mp (List.all_eq_true.mp zT_own ci (List.mem_range.mpr h)) k (List.mem_range.mpr hk))
set_option maxRecDepth 100000 in
theorem zw_arr : Cond.arrayClass .int ∈ zTG ∧ Cond.arrayClass .byte ∈ zTG := ⟨List.mem_filter.mpr ⟨by decide +kernel, rfl⟩, List.mem_filter.mpr ⟨by decide +kernel, rfl⟩⟩
theorem zW_sz {p : Program} {l : Launch} {e : Env} {R : Room} {s : State} {m : MethodId} {args : Array Value} {below : List Frame} {meth : Method} {c : Code} {H : Heap} {locs : List Loc} {cells slots : Nat} {Q : State → Prop} {g : JFrame} (k : H.size ≤ s.heap.size + cells → W p l e R s m args below meth c H locs cells slots Q g) : W p l e R s m args below meth c H locs cells slots Q g := fun T hT X => k (by rw [← hT]; exact X.heapSize) T hT X
/-- the new cell is the next -/
theorem z_next {b B : Nat} {cI cB cD : ClassId} {D : va_G} {h : ZH} {q : Nat} {E : va_E} {H : Heap} (hP : va_P D zcl (zws b B cI cB cD h ++ [(q, E)]) H) (hD : va_D (fun q => B ≤ q) (zws b B cI cB cD h ++ [(q, E)])) (hz : H.size ≤ B + h.length + 1) : q = B + h.length := by
  have hq : (zws b B cI cB cD h ++ [(q, E)])[h.length]? = some (q, E) := by
    rw [List.getElem?_append_right (by rw [zws_len]; omega), zws_len, Nat.sub_self]; rfl
  have h1 : q < H.size := (hP _ _ hq).lt
  have h2 : B ≤ q := hD.2 _ _ hq
  by_cases he : q = B + h.length
  · exact he
  · have hk : q - B < h.length := by omega
    obtain ⟨c0, hc0⟩ : ∃ c0, h[q - B]? = some c0 := ⟨_, List.getElem?_eq_getElem hk⟩
    have h3 : (zws b B cI cB cD h ++ [(q, E)])[q - B]? = some (B + (q - B), zE b B cI cB cD c0) := by
      rw [List.getElem?_append_left (by rw [zws_len]; exact hk), zws_get, hc0]; rfl
    have h4 := hD.1 _ _ _ _ h3 hq (by show B + (q - B) = q; omega)
    omega
section ZONE
variable {xs : Nat → Int32} {L b B : Nat} {cI cB cD : ClassId} {D : va_G}
variable {p : Program} {l : Launch} {e : Env} {R : Room} {s : State} {m : MethodId} {args : Array Value} {below : List Frame} {meth : Method} {c : Code} {H : Heap} {locs : List Loc} {cells slots : Nat} {Q : State → Prop}
set_option maxHeartbeats 4000000 in
set_option maxRecDepth 100000 in
theorem zs_one {mt pc len pc' z0 : Nat} {i : Instr} {ls st ls' st' : List Value} {h h' : ZH} {lsA : Array Slot}
    (C0 : zC xs L b B cI cB cD D p s m args meth c mt) (hR : zfr mt ≤ R.frames ∧ zlo mt ≤ R.locals)
    (hd : decode (zco mt) pc = .ok (i, len)) (hz : zlen i len = true) (hs : zstep xs L mt i pc ls st h = some (pc', ls', st', h'))
    (hP : va_P D zcl (zws b B cI cB cD h) H) (hS : va_S (fun q => B ≤ q) s.heap H locs) (hL : zL b B mt ls lsA)
    (hn : s.heap.size + cells = B + h.length) (hm : zsz h = z0 + slots) (hn' : B + h'.length ≤ s.heap.size + R.cells) (hm' : zsz h' ≤ z0 + R.slots)
    (kk : ∀ (H' : Heap) (locs' : List Loc) (lsA' : Array Slot) (cells' slots' : Nat), va_P D zcl (zws b B cI cB cD h') H' → va_S (fun q => B ≤ q) s.heap H' locs' → zL b B mt ls' lsA' → s.heap.size + cells' = B + h'.length → zsz h' = z0 + slots' → W p l e R s m args below meth c H' locs' cells' slots' Q (F0 m pc' lsA' (st'.map (zv b B)))) :
    W p l e R s m args below meth c H locs cells slots Q (F0 m pc lsA (st.map (zv b B))) := by
  obtain ⟨hx, hb, hml, hown, hts, hin, hK, hX, hbl, hbB, hBs, hNw, hAO⟩ := C0
  have hD : va_D (fun q => B ≤ q) (zws b B cI cB cD h) := zws_D
  have hA : ∀ q : Nat, s.heap.size ≤ q → (fun q => B ≤ q) q := fun q hq => Nat.le_trans hBs hq
  have k0 := kk H locs lsA cells slots
  cases i
  case iconst n =>
    simp only [zlen, beq_iff_eq] at hz; subst hz
    simp only [zstep] at hs
    cases hs
    exact lv_iconst hx hb hd rfl (k0 hP hS hL hn hm)
  case bipush n =>
    simp only [zlen, beq_iff_eq] at hz; subst hz
    simp only [zstep] at hs
    cases hs
    exact lv_bipush hx hb hd rfl (k0 hP hS hL hn hm)
  case sipush n =>
    simp only [zlen, beq_iff_eq] at hz; subst hz
    simp only [zstep] at hs
    cases hs
    exact lv_sipush hx hb hd rfl (k0 hP hS hL hn hm)
  case lconst n =>
    simp only [zlen, beq_iff_eq] at hz; subst hz
    simp only [zstep] at hs
    cases hs
    exact lv_lconst hx hb hd rfl (k0 hP hS hL hn hm)
  case ldc_w x =>
    simp only [zlen, beq_iff_eq] at hz; subst hz
    simp only [zstep] at hs
    cases hv : zki (zown mt) x with
    | none => rw [hv] at hs; cases hs
    | some v => rw [hv] at hs; cases hs; exact lv_ldcw hx hb hown (hts _ (zki_ok hv)) hd (k0 hP hS hL hn hm)
  case ldc2_w x =>
    simp only [zlen, beq_iff_eq] at hz; subst hz
    simp only [zstep] at hs
    cases hv : zkl (zown mt) x with
    | none => rw [hv] at hs; cases hs
    | some v => rw [hv] at hs; cases hs; exact lv_ldc2 hx hb hown (hts _ (zkl_ok hv)) hd (k0 hP hS hL hn hm)
  case iload_n k =>
    simp only [zlen, beq_iff_eq] at hz; subst hz
    simp only [zstep] at hs
    cases hv : zli ls k.val with
    | none => rw [hv] at hs; cases hs
    | some v => rw [hv] at hs; cases hs; exact lv_iload_n hx hb hd rfl (zL_i hL hv) (k0 hP hS hL hn hm)
  case iload k =>
    simp only [zlen, beq_iff_eq] at hz; subst hz
    simp only [zstep] at hs
    cases hv : zli ls k with
    | none => rw [hv] at hs; cases hs
    | some v => rw [hv] at hs; cases hs; exact lv_iload hx hb hd (zL_i hL hv) (k0 hP hS hL hn hm)
  case lload_n k =>
    simp only [zlen, beq_iff_eq] at hz; subst hz
    simp only [zstep] at hs
    cases hv : zll ls k.val with
    | none => rw [hv] at hs; cases hs
    | some v => rw [hv] at hs; cases hs; exact lv_lload_n hx hb hd rfl (zL_l hL hv) (k0 hP hS hL hn hm)
  case lload k =>
    simp only [zlen, beq_iff_eq] at hz; subst hz
    simp only [zstep] at hs
    cases hv : zll ls k with
    | none => rw [hv] at hs; cases hs
    | some v => rw [hv] at hs; cases hs; exact lv_lload hx hb hd (zL_l hL hv) (k0 hP hS hL hn hm)
  case aload_n k =>
    simp only [zlen, beq_iff_eq] at hz; subst hz
    simp only [zstep] at hs
    cases hv : zla ls k.val with
    | none => rw [hv] at hs; cases hs
    | some v =>
      rw [hv] at hs; cases hs
      obtain ⟨q, e1, hq⟩ := zL_a hL hv
      have k1 := (k0 hP hS hL hn hm)
      rw [List.map_cons, e1] at k1
      exact lv_aload_n hx hb hd rfl hq k1
  case aload k =>
    simp only [zlen, beq_iff_eq] at hz; subst hz
    simp only [zstep] at hs
    cases hv : zla ls k with
    | none => rw [hv] at hs; cases hs
    | some v =>
      rw [hv] at hs; cases hs
      obtain ⟨q, e1, hq⟩ := zL_a hL hv
      have k1 := (k0 hP hS hL hn hm)
      rw [List.map_cons, e1] at k1
      exact lv_aload hx hb hd hq k1
  case istore_n k =>
    simp only [zlen, beq_iff_eq] at hz; subst hz
    simp only [zstep] at hs
    split at hs
    · split at hs
      · next hok => cases hs; exact lv_istore_n hx hb hd rfl hL.2.1 (zok_lt hok) rfl (fun lsA1 h1 => kk _ _ _ _ _ hP hS (zL_set1 hL hok rfl h1) hn hm)
      · cases hs
    · cases hs
  case istore k =>
    simp only [zlen, beq_iff_eq] at hz; subst hz
    simp only [zstep] at hs
    split at hs
    · split at hs
      · next hok => cases hs; exact lv_istore hx hb hd hL.2.1 (zok_lt hok) rfl (fun lsA1 h1 => kk _ _ _ _ _ hP hS (zL_set1 hL hok rfl h1) hn hm)
      · cases hs
    · cases hs
  case astore_n k =>
    simp only [zlen, beq_iff_eq] at hz; subst hz
    simp only [zstep] at hs
    split at hs
    · split at hs
      · next hok => cases hs; exact lv_astore_n hx hb hd rfl hL.2.1 (zok_lt hok) rfl (fun lsA1 h1 => kk _ _ _ _ _ hP hS (zL_set1 hL hok rfl h1) hn hm)
      · cases hs
    · cases hs
  case astore k =>
    simp only [zlen, beq_iff_eq] at hz; subst hz
    simp only [zstep] at hs
    split at hs
    · split at hs
      · next hok => cases hs; exact lv_astore hx hb hd hL.2.1 (zok_lt hok) rfl (fun lsA1 h1 => kk _ _ _ _ _ hP hS (zL_set1 hL hok rfl h1) hn hm)
      · cases hs
    · cases hs
  case lstore_n k =>
    simp only [zlen, beq_iff_eq] at hz; subst hz
    simp only [zstep] at hs
    split at hs
    · split at hs
      · next hok => cases hs; exact lv_lstore_n hx hb hd rfl hL.2.1 (zokl_lt hok).1 rfl (fun lsA1 h1 => kk _ _ _ _ _ hP hS (zL_set2 hL hok h1) hn hm)
      · cases hs
    · cases hs
  case lstore k =>
    simp only [zlen, beq_iff_eq] at hz; subst hz
    simp only [zstep] at hs
    split at hs
    · split at hs
      · next hok => cases hs; exact lv_lstore hx hb hd hL.2.1 (zokl_lt hok).1 rfl (fun lsA1 h1 => kk _ _ _ _ _ hP hS (zL_set2 hL hok h1) hn hm)
      · cases hs
    · cases hs
  case iinc k n =>
    simp only [zlen, beq_iff_eq] at hz; subst hz
    simp only [zstep] at hs
    split at hs
    · next x hv =>
      split at hs
      · next hok =>
        cases hs
        have hv1 : ls[k]? = some (.int x) := by
          unfold zli at hv
          split at hv
          · next e => cases hv; exact e
          · cases hv
        obtain ⟨j, hj⟩ := List.getElem?_of_mem (zL_mem hL hv1 (by simp))
        exact lv_iinc hx hb hd hL.2.1 (k := j) hj rfl (zok_lt hok) rfl (fun lsA1 h1 => kk _ _ _ _ _ hP hS (zL_set1 hL hok rfl h1) hn hm)
      · cases hs
    · cases hs
  case iadd =>
    simp only [zlen, beq_iff_eq] at hz; subst hz
    simp only [zstep] at hs
    split at hs
    · cases hs; exact lv_iadd hx hb hd (k0 hP hS hL hn hm)
    · cases hs
  case isub =>
    simp only [zlen, beq_iff_eq] at hz; subst hz
    simp only [zstep] at hs
    split at hs
    · cases hs; exact lv_isub hx hb hd (k0 hP hS hL hn hm)
    · cases hs
  case imul =>
    simp only [zlen, beq_iff_eq] at hz; subst hz
    simp only [zstep] at hs
    split at hs
    · cases hs; exact lv_imul hx hb hd (k0 hP hS hL hn hm)
    · cases hs
  case iand =>
    simp only [zlen, beq_iff_eq] at hz; subst hz
    simp only [zstep] at hs
    split at hs
    · cases hs; exact lv_iand hx hb hd (k0 hP hS hL hn hm)
    · cases hs
  case ior =>
    simp only [zlen, beq_iff_eq] at hz; subst hz
    simp only [zstep] at hs
    split at hs
    · cases hs; exact lv_ior hx hb hd (k0 hP hS hL hn hm)
    · cases hs
  case ixor =>
    simp only [zlen, beq_iff_eq] at hz; subst hz
    simp only [zstep] at hs
    split at hs
    · cases hs; exact lv_ixor hx hb hd (k0 hP hS hL hn hm)
    · cases hs
  case ishl =>
    simp only [zlen, beq_iff_eq] at hz; subst hz
    simp only [zstep] at hs
    split at hs
    · cases hs; exact lv_ishl hx hb hd (k0 hP hS hL hn hm)
    · cases hs
  case ishr =>
    simp only [zlen, beq_iff_eq] at hz; subst hz
    simp only [zstep] at hs
    split at hs
    · cases hs; exact lv_ishr hx hb hd (k0 hP hS hL hn hm)
    · cases hs
  case ladd =>
    simp only [zlen, beq_iff_eq] at hz; subst hz
    simp only [zstep] at hs
    split at hs
    · cases hs; exact lv_ladd hx hb hd (k0 hP hS hL hn hm)
    · cases hs
  case lmul =>
    simp only [zlen, beq_iff_eq] at hz; subst hz
    simp only [zstep] at hs
    split at hs
    · cases hs; exact lv_lmul hx hb hd (k0 hP hS hL hn hm)
    · cases hs
  case land =>
    simp only [zlen, beq_iff_eq] at hz; subst hz
    simp only [zstep] at hs
    split at hs
    · cases hs; exact lv_land hx hb hd (k0 hP hS hL hn hm)
    · cases hs
  case lor =>
    simp only [zlen, beq_iff_eq] at hz; subst hz
    simp only [zstep] at hs
    split at hs
    · cases hs; exact lv_lor hx hb hd (k0 hP hS hL hn hm)
    · cases hs
  case iushr =>
    simp only [zlen, beq_iff_eq] at hz; subst hz
    simp only [zstep] at hs
    split at hs
    · cases hs; exact lv_iushr hx hb hd rfl (k0 hP hS hL hn hm)
    · cases hs
  case lshl =>
    simp only [zlen, beq_iff_eq] at hz; subst hz
    simp only [zstep] at hs
    split at hs
    · cases hs; exact lv_lshl hx hb hd rfl (k0 hP hS hL hn hm)
    · cases hs
  case lshr =>
    simp only [zlen, beq_iff_eq] at hz; subst hz
    simp only [zstep] at hs
    split at hs
    · cases hs; exact lv_lshr hx hb hd rfl (k0 hP hS hL hn hm)
    · cases hs
  case lushr =>
    simp only [zlen, beq_iff_eq] at hz; subst hz
    simp only [zstep] at hs
    split at hs
    · cases hs; exact lv_lushr hx hb hd rfl (k0 hP hS hL hn hm)
    · cases hs
  case i2l =>
    simp only [zlen, beq_iff_eq] at hz; subst hz
    simp only [zstep] at hs
    split at hs
    · cases hs; exact lv_i2l hx hb hd rfl (k0 hP hS hL hn hm)
    · cases hs
  case l2i =>
    simp only [zlen, beq_iff_eq] at hz; subst hz
    simp only [zstep] at hs
    split at hs
    · cases hs; exact lv_l2i hx hb hd rfl (k0 hP hS hL hn hm)
    · cases hs
  case i2b =>
    simp only [zlen, beq_iff_eq] at hz; subst hz
    simp only [zstep] at hs
    split at hs
    · cases hs; exact lv_i2b hx hb hd rfl (k0 hP hS hL hn hm)
    · cases hs
  case lcmp =>
    simp only [zlen, beq_iff_eq] at hz; subst hz
    simp only [zstep] at hs
    split at hs
    · cases hs; exact W.lcmp hx hb hd (k0 hP hS hL hn hm)
    · cases hs
  case idiv =>
    simp only [zlen, beq_iff_eq] at hz; subst hz
    simp only [zstep] at hs
    split at hs
    · split at hs
      · cases hs
      · next hne => cases hs; exact lv_idiv hx hb hd hne (k0 hP hS hL hn hm)
    · cases hs
  case irem =>
    simp only [zlen, beq_iff_eq] at hz; subst hz
    simp only [zstep] at hs
    split at hs
    · split at hs
      · cases hs
      · next hne => cases hs; exact lv_irem hx hb hd hne (k0 hP hS hL hn hm)
    · cases hs
  case lrem =>
    simp only [zlen, beq_iff_eq] at hz; subst hz
    simp only [zstep] at hs
    split at hs
    · split at hs
      · cases hs
      · next hne => cases hs; exact lv_lrem hx hb hd hne (k0 hP hS hL hn hm)
    · cases hs
  case dup =>
    simp only [zlen, beq_iff_eq] at hz; subst hz
    simp only [zstep] at hs
    split at hs
    · cases hs; exact lv_dup hx hb hd rfl (k0 hP hS hL hn hm)
    · cases hs; exact lv_dup hx hb hd rfl (k0 hP hS hL hn hm)
    · cases hs
  case dup2 =>
    simp only [zlen, beq_iff_eq] at hz; subst hz
    simp only [zstep] at hs
    split at hs
    · cases hs; exact lv_dup2_11 hx hb hd rfl rfl (k0 hP hS hL hn hm)
    · cases hs
  case pop =>
    simp only [zlen, beq_iff_eq] at hz; subst hz
    simp only [zstep] at hs
    split at hs
    · cases hs; exact lv_pop hx hb hd rfl (k0 hP hS hL hn hm)
    · cases hs
  case ifCond cnd off =>
    simp only [zlen, beq_iff_eq] at hz; subst hz
    simp only [zstep] at hs
    split at hs
    · next x r =>
      cases ht : ztg pc off with
      | none => rw [ht] at hs; cases hs
      | some t =>
        rw [ht] at hs; cases hs
        have ht1 := ztg_ok ht
        cases cnd with
        | eq =>
          refine lv_if_eq hx hb hd ht1 (fun q => ?_) (fun q => ?_)
          · have e1 : zcz .eq x = true := decide_eq_true q
            rw [if_pos e1] at k0; exact (k0 hP hS hL hn hm)
          · have e1 : zcz .eq x = false := decide_eq_false q
            rw [if_neg (by rw [e1]; exact Bool.false_ne_true)] at k0; exact (k0 hP hS hL hn hm)
        | ne =>
          refine lv_if_ne hx hb hd ht1 (fun q => ?_) (fun q => ?_)
          · have e1 : zcz .ne x = true := decide_eq_true q
            rw [if_pos e1] at k0; exact (k0 hP hS hL hn hm)
          · have e1 : zcz .ne x = false := decide_eq_false (fun n => n q)
            rw [if_neg (by rw [e1]; exact Bool.false_ne_true)] at k0; exact (k0 hP hS hL hn hm)
        | lt =>
          refine lv_if_lt hx hb hd ht1 (fun q => ?_) (fun q => ?_)
          · have e1 : zcz .lt x = true := decide_eq_true q
            rw [if_pos e1] at k0; exact (k0 hP hS hL hn hm)
          · have e1 : zcz .lt x = false := decide_eq_false q
            rw [if_neg (by rw [e1]; exact Bool.false_ne_true)] at k0; exact (k0 hP hS hL hn hm)
        | ge =>
          refine lv_if_ge hx hb hd ht1 (fun q => ?_) (fun q => ?_)
          · have e1 : zcz .ge x = true := decide_eq_true q
            rw [if_pos e1] at k0; exact (k0 hP hS hL hn hm)
          · have e1 : zcz .ge x = false := decide_eq_false q
            rw [if_neg (by rw [e1]; exact Bool.false_ne_true)] at k0; exact (k0 hP hS hL hn hm)
        | gt =>
          refine lv_if_gt hx hb hd ht1 (fun q => ?_) (fun q => ?_)
          · have e1 : zcz .gt x = true := decide_eq_true q
            rw [if_pos e1] at k0; exact (k0 hP hS hL hn hm)
          · have e1 : zcz .gt x = false := decide_eq_false q
            rw [if_neg (by rw [e1]; exact Bool.false_ne_true)] at k0; exact (k0 hP hS hL hn hm)
        | le =>
          refine lv_if_le hx hb hd ht1 (fun q => ?_) (fun q => ?_)
          · have e1 : zcz .le x = true := decide_eq_true q
            rw [if_pos e1] at k0; exact (k0 hP hS hL hn hm)
          · have e1 : zcz .le x = false := decide_eq_false q
            rw [if_neg (by rw [e1]; exact Bool.false_ne_true)] at k0; exact (k0 hP hS hL hn hm)
    · cases hs
  case if_icmp cnd off =>
    simp only [zlen, beq_iff_eq] at hz; subst hz
    simp only [zstep] at hs
    split at hs
    · next y x r =>
      cases ht : ztg pc off with
      | none => rw [ht] at hs; cases hs
      | some t =>
        rw [ht] at hs; cases hs
        have ht1 := ztg_ok ht
        cases cnd with
        | eq =>
          refine lv_icmp_eq hx hb hd ht1 (fun q => ?_) (fun q => ?_)
          · have e1 : zcc .eq x y = true := decide_eq_true q
            rw [if_pos e1] at k0; exact (k0 hP hS hL hn hm)
          · have e1 : zcc .eq x y = false := decide_eq_false q
            rw [if_neg (by rw [e1]; exact Bool.false_ne_true)] at k0; exact (k0 hP hS hL hn hm)
        | ne =>
          refine lv_icmp_ne hx hb hd ht1 (fun q => ?_) (fun q => ?_)
          · have e1 : zcc .ne x y = true := decide_eq_true q
            rw [if_pos e1] at k0; exact (k0 hP hS hL hn hm)
          · have e1 : zcc .ne x y = false := decide_eq_false (fun n => n q)
            rw [if_neg (by rw [e1]; exact Bool.false_ne_true)] at k0; exact (k0 hP hS hL hn hm)
        | lt =>
          refine lv_icmp_lt hx hb hd ht1 (fun q => ?_) (fun q => ?_)
          · have e1 : zcc .lt x y = true := decide_eq_true q
            rw [if_pos e1] at k0; exact (k0 hP hS hL hn hm)
          · have e1 : zcc .lt x y = false := decide_eq_false q
            rw [if_neg (by rw [e1]; exact Bool.false_ne_true)] at k0; exact (k0 hP hS hL hn hm)
        | ge =>
          refine lv_icmp_ge hx hb hd ht1 (fun q => ?_) (fun q => ?_)
          · have e1 : zcc .ge x y = true := decide_eq_true q
            rw [if_pos e1] at k0; exact (k0 hP hS hL hn hm)
          · have e1 : zcc .ge x y = false := decide_eq_false q
            rw [if_neg (by rw [e1]; exact Bool.false_ne_true)] at k0; exact (k0 hP hS hL hn hm)
        | gt =>
          refine lv_icmp_gt hx hb hd ht1 (fun q => ?_) (fun q => ?_)
          · have e1 : zcc .gt x y = true := decide_eq_true q
            rw [if_pos e1] at k0; exact (k0 hP hS hL hn hm)
          · have e1 : zcc .gt x y = false := decide_eq_false q
            rw [if_neg (by rw [e1]; exact Bool.false_ne_true)] at k0; exact (k0 hP hS hL hn hm)
        | le =>
          refine lv_icmp_le hx hb hd ht1 (fun q => ?_) (fun q => ?_)
          · have e1 : zcc .le x y = true := decide_eq_true q
            rw [if_pos e1] at k0; exact (k0 hP hS hL hn hm)
          · have e1 : zcc .le x y = false := decide_eq_false q
            rw [if_neg (by rw [e1]; exact Bool.false_ne_true)] at k0; exact (k0 hP hS hL hn hm)
    · cases hs
  case goto off =>
    simp only [zlen, beq_iff_eq] at hz; subst hz
    simp only [zstep] at hs
    cases ht : ztg pc off with
    | none => rw [ht] at hs; cases hs
    | some t => rw [ht] at hs; cases hs; exact lv_goto hx hb hd (ztg_ok ht) (k0 hP hS hL hn hm)
  case tableswitch d lo hi offs =>
    simp only [zstep] at hs
    split at hs
    · next x r =>
      split at hs
      · next ho =>
        cases ht : ztg pc d with
        | none => rw [ht] at hs; cases hs
        | some t => rw [ht] at hs; cases hs; exact lv_tableOut hx hb hd ho (ztg_ok ht) (k0 hP hS hL hn hm)
      · next ho =>
        split at hs
        · next off hof =>
          cases ht : ztg pc off with
          | none => rw [ht] at hs; cases hs
          | some t => rw [ht] at hs; cases hs; exact lv_tableIn hx hb hd (fun q => ho (Or.inl q)) (fun q => ho (Or.inr q)) hof (ztg_ok ht) (k0 hP hS hL hn hm)
        · cases hs
    · cases hs
  case lookupswitch d ps =>
    simp only [zstep] at hs
    split at hs
    · next x r =>
      split at hs
      · next ho =>
        cases ht : ztg pc (Op.lookupswitch.offset ps.toList d x.toInt) with
        | none => rw [ht] at hs; cases hs
        | some t => rw [ht] at hs; cases hs; exact lv_lookup hx hb hd ho rfl (ztg_ok ht) (k0 hP hS hL hn hm)
      · cases hs
    · cases hs
  case getfield x =>
    simp only [zlen, beq_iff_eq] at hz; subst hz
    simp only [zstep] at hs
    split at hs
    · next a r =>
      split at hs
      · next ci k hf =>
        obtain ⟨hci, hk, hw⟩ := zfl_ok hf
        cases hv : zget h a ci k with
        | none => rw [hv] at hs; cases hs
        | some v =>
          rw [hv] at hs; cases hs
          obtain ⟨fs, ha, hv⟩ := zget_ok hv
          exact va_get (D := D) (v := zv b B v) (C := zCn ci) (T := zT ci) (N := zN ci) hx hb hts (zws_in hci) hown hK hP a (zws_obj hci ha) (zcl_at hci) k hk (hts _ hw) (fun _ h9 => h9) (by rw [List.getElem?_map, hv]; rfl) hd (k0 hP hS hL hn hm)
      · cases hs
    · cases hs
  case putfield x =>
    simp only [zlen, beq_iff_eq] at hz; subst hz
    simp only [zstep] at hs
    split at hs
    · next v a r =>
      split at hs
      · next ci k hf =>
        obtain ⟨hci, hk, hw⟩ := zfl_ok hf
        split at hs
        · next hpp =>
          rw [Bool.and_eq_true] at hpp
          cases hv : zput h a ci k v with
          | none => rw [hv] at hs; cases hs
          | some h1 =>
            rw [hv] at hs; cases hs
            obtain ⟨fs, ha, hkl, rfl⟩ := zput_ok hv
            have hnar : narrow (zty ci k) (zv b B v) = zv b B v ∧ fits (zty ci k) (zv b B v) = true := by
              have ht := zty_v hci hk
              have hpv := hpp.1
              unfold zpv at hpv
              split at hpv
              · next y => rw [if_pos hpv] at ht; rw [ht]; exact ⟨vp_nar_int y, rfl⟩
              · next y =>
                rw [Bool.not_eq_true'] at hpv
                rw [if_neg (by rw [hpv]; exact Bool.false_ne_true)] at ht
                exact zrf_ok ht _
              · cases hpv
            cases hfin : zisF ci k with
            | false => exact va_put (D := D) (v := zv b B v) (C := zCn ci) (T := zT ci) (N := zN ci) hx hb hts (zws_in hci) (zty ci) (zty_ok hci) (znm hci) hown hK hP hD hS a (zws_obj hci ha) (zcl_at hci) k hk (hts _ hw) (fun _ h9 => h9) hfin (zty_ok hci k hk) hnar.1 hnar.2 (by rw [List.length_map]; exact hkl) hd (fun H1 locs1 hP1 hD1 hS1 => kk _ _ _ _ _ (by rw [← zws_set, zE_obj hci, List.map_set]; exact hP1) hS1 hL (by rw [List.length_set]; exact hn) (by rw [zsz_set ha (by simp)]; exact hm))
            | true =>
              have hpf := hpp.2
              unfold zpf at hpf
              rw [hfin] at hpf
              simp only [Bool.not_true, Bool.false_or, Bool.and_eq_true, beq_iff_eq] at hpf
              exact va_putF (D := D) (v := zv b B v) (C := zCn ci) (T := zT ci) (N := zN ci) hx hb hts (zws_in hci) (zty ci) (zty_ok hci) (znm hci) hown hK hP hD hS a (zws_obj hci ha) (zcl_at hci) k hk (hts _ hw) (fun _ h9 => h9) hfin (hin hpf.1) (by rw [zT_own' hci hk, hpf.2]) (zty_ok hci k hk) hnar.1 hnar.2 (by rw [List.length_map]; exact hkl) hd (fun H1 locs1 hP1 hD1 hS1 => kk _ _ _ _ _ (by rw [← zws_set, zE_obj hci, List.map_set]; exact hP1) hS1 hL (by rw [List.length_set]; exact hn) (by rw [zsz_set ha (by simp)]; exact hm))
        · cases hs
      · cases hs
    · cases hs
  case iaload =>
    simp only [zlen, beq_iff_eq] at hz; subst hz
    simp only [zstep] at hs
    split at hs
    · next i a r =>
      split at hs
      · next x hv =>
        cases hs
        obtain ⟨vs, ha, hi, hv⟩ := zald_ok hv
        refine va_iald (D := D) hx hb hK hP a 0 (zws_20 ha) rfl hi hd ?_
        have e1 : zi (vs.getD i.toNatClampNeg .null) = x := by rw [List.getD_eq_getElem?_getD, hv]; rfl
        rw [e1]
        exact (k0 hP hS hL hn hm)
      · cases hs
    · next i z r =>
      split at hs
      · next hi => cases hs; exact va_sld hx hb hX hbl (Nat.not_le.mpr hbB) hS (fun q => q.elim hi.1 (fun q => by have := hi.2; omega)) hd (k0 hP hS hL hn hm)
      · cases hs
    · cases hs
  case baload =>
    simp only [zlen, beq_iff_eq] at hz; subst hz
    simp only [zstep] at hs
    split at hs
    · next i a r =>
      split at hs
      · next x hv =>
        cases hs
        obtain ⟨vs, ha, hi, hv⟩ := zald_ok hv
        refine va_bald (D := D) hx hb hK hP a 1 (zws_21 ha) rfl hi hd ?_
        have e1 : zi (vs.getD i.toNatClampNeg .null) = x := by rw [List.getD_eq_getElem?_getD, hv]; rfl
        rw [e1]
        exact (k0 hP hS hL hn hm)
      · cases hs
    · cases hs
  case aaload =>
    simp only [zlen, beq_iff_eq] at hz; subst hz
    simp only [zstep] at hs
    split at hs
    · next i a r =>
      split at hs
      · next x hv =>
        cases hs
        obtain ⟨vs, ha, hi, hv⟩ := zald_ok hv
        refine va_aldq (D := D) hx hb hK hP a 2 (zws_22 ha) rfl hi hd ?_
        have e1 : zo B (vs.getD i.toNatClampNeg .null) = some (B + x) := by rw [List.getD_eq_getElem?_getD, hv]; rfl
        rw [e1]
        exact (k0 hP hS hL hn hm)
      · cases hs
    · cases hs
  case iastore =>
    simp only [zlen, beq_iff_eq] at hz; subst hz
    simp only [zstep] at hs
    split at hs
    · next x i a r =>
      cases hv : zast h 20 a i (.int x) with
      | none => rw [hv] at hs; cases hs
      | some h1 =>
        rw [hv] at hs; cases hs
        obtain ⟨vs, ha, hi, hl, rfl⟩ := zast_ok hv
        refine va_iast (D := D) hx hb hK hP hD hS a 0 (zws_20 ha) rfl hi hd (fun H1 locs1 hP1 hD1 hS1 => kk _ _ _ _ _ ?_ hS1 hL (by rw [List.length_set]; exact hn) (by rw [zsz_set ha (by simp)]; exact hm))
        rw [← zws_set]
        rw [← zset_i hl] at hP1
        have e1 : zE b B cI cB cD (20, vs.set i.toNatClampNeg (.int x)) = .inl (cI, vs.length, .inl (fun j => zi ((vs.set i.toNatClampNeg (.int x)).getD j .null))) := by simp [zE]
        rw [e1]
        exact hP1
    · cases hs
  case bastore =>
    simp only [zlen, beq_iff_eq] at hz; subst hz
    simp only [zstep] at hs
    split at hs
    · next x i a r =>
      cases hv : zast h 21 a i (.int (vp_nar .byte x)) with
      | none => rw [hv] at hs; cases hs
      | some h1 =>
        rw [hv] at hs; cases hs
        obtain ⟨vs, ha, hi, hl, rfl⟩ := zast_ok hv
        refine va_bast (D := D) hx hb hK hP hD hS a 1 (zws_21 ha) rfl hi hd (fun H1 locs1 hP1 hD1 hS1 => kk _ _ _ _ _ ?_ hS1 hL (by rw [List.length_set]; exact hn) (by rw [zsz_set ha (by simp)]; exact hm))
        rw [← zws_set]
        rw [← zset_i hl] at hP1
        have e1 : zE b B cI cB cD (21, vs.set i.toNatClampNeg (.int (vp_nar .byte x))) = .inl (cB, vs.length, .inl (fun j => zi ((vs.set i.toNatClampNeg (.int (vp_nar .byte x))).getD j .null))) := by simp [zE]
        rw [e1]
        exact hP1
    · cases hs
  case aastore =>
    simp only [zlen, beq_iff_eq] at hz; subst hz
    simp only [zstep] at hs
    split at hs
    · next x i a r =>
      split at hs
      · next hxt =>
        cases hv : zast h 22 a i (.ref x) with
        | none => rw [hv] at hs; cases hs
        | some h1 =>
          rw [hv] at hs; cases hs
          obtain ⟨vs, ha, hi, hl, rfl⟩ := zast_ok hv
          obtain ⟨ws, hxw⟩ := ztag_ok hxt
          refine va_astq (D := D) hx hb hK hP hD hS a 2 x 1 (r := (RX1, TX1, 7)) (zws_22 ha) rfl (zws_obj (by decide) hxw) rfl hi hd (fun H1 locs1 hP1 hD1 hS1 => kk _ _ _ _ _ ?_ hS1 hL (by rw [List.length_set]; exact hn) (by rw [zsz_set ha (by simp)]; exact hm))
          rw [← zws_set]
          rw [← zset_o hl] at hP1
          have e1 : zE b B cI cB cD (22, vs.set i.toNatClampNeg (.ref x)) = .inl (cD, vs.length, .inr (.inr (.inr (.inr (fun j => zo B ((vs.set i.toNatClampNeg (.ref x)).getD j .null)))))) := by simp [zE]
          rw [e1]
          exact hP1
      · cases hs
    · cases hs
  case arraylength =>
    simp only [zlen, beq_iff_eq] at hz; subst hz
    simp only [zstep] at hs
    split at hs
    · next a r =>
      cases hv : zaln h a with
      | none => rw [hv] at hs; cases hs
      | some n =>
        rw [hv] at hs; cases hs
        unfold zaln at hv
        split at hv
        · next c0 hc0 =>
          obtain ⟨t, vs⟩ := c0
          split at hv
          · next ht =>
            cases hv
            rcases ht with rfl | rfl | rfl
            · exact va_alen (D := D) hx hb hK hP a 0 (zws_20 hc0) rfl rfl hd (k0 hP hS hL hn hm)
            · exact va_alen (D := D) hx hb hK hP a 1 (zws_21 hc0) rfl rfl hd (k0 hP hS hL hn hm)
            · exact va_alen (D := D) hx hb hK hP a 2 (zws_22 hc0) rfl rfl hd (k0 hP hS hL hn hm)
          · cases hv
        · cases hv
    · next z r => cases hs; exact va_slen hx hb hX hbl (Nat.not_le.mpr hbB) hS hd (k0 hP hS hL hn hm)
    · cases hs
  case newarray t =>
    simp only [zlen, beq_iff_eq] at hz; subst hz
    simp only [zstep] at hs
    split at hs
    · next n r =>
      split at hs
      · next ho =>
        cases hs
        rcases ho.2.2 with ht | ht
        · subst ht
          have hn1 : s.heap.size + cells + 1 ≤ s.heap.size + R.cells := by simp at hn'; omega
          have hm1 : slots + n.toNatClampNeg ≤ R.slots := by rw [zsz_app] at hm'; simp at hm'; omega
          refine va_newa (D := D) (atype := .int) (ty := .int) (a0 := (n.toNatClampNeg, .inl (fun _ => 0))) hx hb (hts _ zw_arr.1) rfl hK hP hD hS hA (fun _ => rfl) ho.1 rfl (by show n.toNatClampNeg * 4 ≤ _; omega) (by omega) hm1 hd (fun q cA H1 hK1 hP1 hD1 hS1 => zW_sz (fun hz1 => ?_))
          have hq : q = B + h.length := z_next hP1 hD1 (by omega)
          have hcA : cI = cA := (Option.some.inj (((hK1.2 3 _ rfl).2 : s.vm.findClass _ = some cA).symm.trans ((hK.2 0 _ rfl).2))).symm
          subst hcA
          subst hq
          have e1 : zE b B cI cB cD (20, List.replicate n.toNatClampNeg (.int 0)) = .inl (cI, n.toNatClampNeg, .inl (fun _ => 0)) := by
            rw [← zrep_i n.toNatClampNeg]; simp [zE]
          rw [← e1] at hP1
          exact kk H1 locs lsA (cells + 1) (slots + n.toNatClampNeg) (by rw [zws_app] at hP1; exact hP1) hS1 hL (by simp; omega) (by rw [zsz_app]; simp; omega)
        · subst ht
          have hn1 : s.heap.size + cells + 1 ≤ s.heap.size + R.cells := by simp at hn'; omega
          have hm1 : slots + n.toNatClampNeg ≤ R.slots := by rw [zsz_app] at hm'; simp at hm'; omega
          refine va_newa (D := D) (atype := .byte) (ty := .byte) (a0 := (n.toNatClampNeg, .inl (fun _ => 0))) hx hb (hts _ zw_arr.2) rfl hK hP hD hS hA (fun _ => rfl) ho.1 rfl (by show n.toNatClampNeg * 1 ≤ _; omega) (by omega) hm1 hd (fun q cA H1 hK1 hP1 hD1 hS1 => zW_sz (fun hz1 => ?_))
          have hq : q = B + h.length := z_next hP1 hD1 (by omega)
          have hcA : cB = cA := (Option.some.inj (((hK1.2 3 _ rfl).2 : s.vm.findClass _ = some cA).symm.trans ((hK.2 1 _ rfl).2))).symm
          subst hcA
          subst hq
          have e1 : zE b B cI cB cD (21, List.replicate n.toNatClampNeg (.int 0)) = .inl (cB, n.toNatClampNeg, .inl (fun _ => 0)) := by
            rw [← zrep_i n.toNatClampNeg]; simp [zE]
          rw [← e1] at hP1
          exact kk H1 locs lsA (cells + 1) (slots + n.toNatClampNeg) (by rw [zws_app] at hP1; exact hP1) hS1 hL (by simp; omega) (by rw [zsz_app]; simp; omega)
      · cases hs
    · cases hs
  case anewarray x =>
    simp only [zlen, beq_iff_eq] at hz; subst hz
    simp only [zstep] at hs
    split at hs
    · next n r =>
      split at hs
      · next ho =>
        cases hs
        have hn1 : s.heap.size + cells + 1 ≤ s.heap.size + R.cells := by simp at hn'; omega
        have hm1 : slots + n.toNatClampNeg ≤ R.slots := by rw [zsz_app] at hm'; simp at hm'; omega
        refine va_newq (D := D) (C := RX1) hx hb hown (hts _ (znw_ok ho.2.2).2.1) hAO hK hP hD hS hA ho.1 rfl (by omega) (by omega) hm1 hd (fun q cA H1 hK1 hP1 hD1 hS1 => zW_sz (fun hz1 => ?_))
        have hq : q = B + h.length := z_next hP1 hD1 (by omega)
        have hcA : cA = cD := by
          obtain ⟨_, _, _, _, _, f1⟩ := (hK1.2 3 _ rfl).2
          obtain ⟨_, _, _, _, _, f2⟩ := (hK.2 2 _ rfl).2
          exact Option.some.inj (f1.symm.trans f2)
        subst hcA
        subst hq
        have e1 : zE b B cI cB cA (22, List.replicate n.toNatClampNeg .null) = .inl (cA, n.toNatClampNeg, .inr (.inr (.inr (.inr (fun _ => none))))) := by
          rw [← zrep_o (B := B) n.toNatClampNeg]; simp [zE]
        rw [← e1] at hP1
        exact kk H1 locs lsA (cells + 1) (slots + n.toNatClampNeg) (by rw [zws_app] at hP1; exact hP1) hS1 hL (by simp; omega) (by rw [zsz_app]; simp; omega)
      · cases hs
    · cases hs
  case new x =>
    simp only [zlen, beq_iff_eq] at hz; subst hz
    simp only [zstep] at hs
    split at hs
    · next ci hw =>
      cases hs
      obtain ⟨hci, h1, h2, h3⟩ := znw_ok hw
      have hdl : (zdf ci).length = zN ci := by simp [zdf]
      have hn1 : s.heap.size + cells + 1 ≤ s.heap.size + R.cells := by simp at hn'; omega
      have hm1 : slots + zN ci ≤ R.slots := by rw [zsz_app] at hm'; simp only [hdl] at hm'; omega
      refine va_new (D := D) (C := zCn ci) (T := zT ci) (N := zN ci) (ci := ci) (fs := zdf ci) hx hb hts (zws_in hci) (zty ci) (zty_ok hci) hown (hts _ h1) (hts _ h2) (hts _ h3) hK hP hD hS hA (zcl_at hci) (zdf_v hci) (by omega) hm1 hd (fun q H1 hP1 hD1 hS1 => zW_sz (fun hz1 => ?_))
      have hq : q = B + h.length := z_next hP1 hD1 (by omega)
      subst hq
      have e1 : zE b B cI cB cD (ci, zdf ci) = .inr (ci, zdf ci) := by
        rw [zE_obj hci]
        congr 2
        unfold zdf
        rw [List.map_map]
        apply List.map_congr_left
        intro k _
        show zv b B (if zisI ci k then .int 0 else .null) = _
        split <;> rfl
      rw [← e1] at hP1
      exact kk H1 locs lsA (cells + 1) (slots + zN ci) (by rw [zws_app] at hP1; exact hP1) hS1 hL (by simp; omega) (by rw [zsz_app]; simp only [hdl]; omega)
    · cases hs
  case invokespecial x =>
    simp only [zlen, beq_iff_eq] at hz; subst hz
    simp only [zstep] at hs
    split at hs
    · next a r =>
      split at hs
      · next ho =>
        cases hs
        obtain ⟨ho1, ho2, ho3, ho4⟩ := ho
        cases hmk : zmk (zown mt) x with
        | none => rw [hmk] at ho1; cases ho1
        | some q =>
          obtain ⟨cal, kd⟩ := q
          rw [hmk] at ho1
          cases ho1
          obtain ⟨⟨p1, p2, p3, p4, p5⟩, hml1⟩ := zmk_in hmk
          simp only [zMLc, Bool.and_eq_true] at hml1
          have hcs := zcat_sum b B st'
          exact W.objInit hx hb hown (hts _ (zzat_mem hml1.1.1)) (hts _ (zzat_mem hml1.1.2)) (hts _ (zzat_mem hml1.2)) rfl (by rw [hml]; exact hL.2.1.1) rfl hd (by omega) (by show 2 * 0 + _ + 12 ≤ _; omega) (k0 hP hS hL hn hm)
      · cases hs
    · cases hs
  case invokestatic x =>
    simp only [zlen, beq_iff_eq] at hz; subst hz
    simp only [zstep] at hs
    cases hmk : zmk (zown mt) x with
    | none => rw [hmk] at hs; cases hs
    | some q =>
      obtain ⟨cal, kd⟩ := q
      obtain ⟨⟨p1, p2, p3, p4, p5⟩, hml1⟩ := zmk_in hmk
      rw [hmk] at hs
      simp only [Option.map_some] at hs
      split at hs
      · next e9 =>
        cases e9
        simp only [zMLc, Bool.and_eq_true] at hml1
        split at hs
        · next n dp a sp a0 r =>
          split at hs
          · next ho =>
            obtain ⟨ho2, ho3, ho4, rfl, rfl, hn0⟩ := ho
            cases hv : zcpy h a0 a n.toNatClampNeg with
            | none => rw [hv] at hs; cases hs
            | some h1 =>
              rw [hv] at hs; cases hs
              unfold zcpy at hv
              split at hv
              · next c0 c1 hc0 hc1 =>
                obtain ⟨t0, v0⟩ := c0
                obtain ⟨t1, v1⟩ := c1
                split at hv
                · next hcc =>
                  obtain ⟨rfl, rfl, hl0, hl1⟩ := hcc
                  cases hv
                  have hcs := zcat_sum b B st'
                  have hz0 : (0 : Int32).toNatClampNeg = 0 := rfl
                  refine va_copyi (D := D) hx hb (by rw [hml]; exact hL.2.1.1.symm) hown (hts _ (zzat_mem hml1.1.1.1)) (hts _ (zzat_mem hml1.1.2)) (hts _ (zzat_mem hml1.1.1.2)) (hts _ (zzat_mem hml1.2)) hK hP hD hS a0 a 0 0 (ty := .int) (zws_20 hc0) (zws_20 hc1) rfl rfl rfl (by decide) (by decide) hn0 (by rw [hz0]; simpa using hl0) (by rw [hz0]; simpa using hl1) (fun _ _ => rfl) (by omega) (by show _ + (7 + 11) ≤ _; omega) hd (fun H1 locs1 hP1 hD1 hS1 => kk _ _ _ _ _ ?_ hS1 hL (by rw [List.length_set]; exact hn) (by rw [zsz_set hc1 (by simp at hl0 hl1 ⊢; omega)]; exact hm))
                  rw [← zws_set]
                  rw [hz0, ← zcpy_f hl0 hl1] at hP1
                  have e1 : zE b B cI cB cD (20, v0.take n.toNatClampNeg ++ v1.drop n.toNatClampNeg) = .inl (cI, v1.length, .inl (fun j => zi ((v0.take n.toNatClampNeg ++ v1.drop n.toNatClampNeg).getD j .null))) := by
                    have hl : (v0.take n.toNatClampNeg ++ v1.drop n.toNatClampNeg).length = v1.length := by simp at hl0 hl1 ⊢; omega
                    simp only [zE, if_true, hl]
                  rw [e1]
                  exact hP1
                · cases hv
              · cases hv
          · cases hs
        · cases hs
      · next e9 =>
        cases e9
        simp only [zMLc, Bool.and_eq_true] at hml1
        split at hs
        · next y x r =>
          split at hs
          · next ho =>
            cases hs
            have hcs := zcat_sum b B r
            exact va_mmax hx hb (by rw [hml]; exact hL.2.1.1.symm) hown (hts _ (zzat_mem hml1.1.1.1)) (hts _ (zzat_mem hml1.1.1.2)) (hts _ (zzat_mem hml1.1.2)) (hts _ (zzat_mem hml1.2)) (by omega) (by omega) (by omega) (by omega) hd (k0 hP hS hL hn hm)
          · cases hs
        · cases hs
      · next e9 =>
        cases e9
        simp only [zMLc, Bool.and_eq_true] at hml1
        split at hs
        · next y x r =>
          split at hs
          · next ho =>
            cases hs
            have hcs := zcat_sum b B r
            exact va_mmin hx hb (by rw [hml]; exact hL.2.1.1.symm) hown (hts _ (zzat_mem hml1.1.1.1)) (hts _ (zzat_mem hml1.1.1.2)) (hts _ (zzat_mem hml1.1.2)) (hts _ (zzat_mem hml1.2)) (by omega) (by omega) (by omega) (by omega) hd (k0 hP hS hL hn hm)
          · cases hs
        · cases hs
      · cases hs
  all_goals (simp only [zstep] at hs; cases hs)
end ZONE
end
section
/-! ===== the simulation: runs and calls ===== -/
set_option maxHeartbeats 4000000 in
set_option maxRecDepth 100000 in
theorem zstep_mono {xs : Nat → Int32} {L mt pc pc' : Nat} {i : Instr} {ls st ls' st' : List Value} {h h' : ZH} (hs : zstep xs L mt i pc ls st h = some (pc', ls', st', h')) : h.length ≤ h'.length ∧ zsz h ≤ zsz h' := by
  have hput : ∀ {a ci k : Nat} {v : Value} {h1 : ZH}, zput h a ci k v = some h1 → h.length ≤ h1.length ∧ zsz h ≤ zsz h1 := by
    intro a ci k v h1 hv
    obtain ⟨fs, ha, hk, rfl⟩ := zput_ok hv
    exact ⟨by rw [List.length_set]; exact Nat.le_refl _, by rw [zsz_set ha (by simp)]; exact Nat.le_refl _⟩
  have hast : ∀ {t a : Nat} {k : Int32} {v : Value} {h1 : ZH}, zast h t a k v = some h1 → h.length ≤ h1.length ∧ zsz h ≤ zsz h1 := by
    intro t a k v h1 hv
    obtain ⟨vs, ha, hi, hk, rfl⟩ := zast_ok hv
    exact ⟨by rw [List.length_set]; exact Nat.le_refl _, by rw [zsz_set ha (by simp)]; exact Nat.le_refl _⟩
  have hcpy : ∀ {a0 a n : Nat} {h1 : ZH}, zcpy h a0 a n = some h1 → h.length ≤ h1.length ∧ zsz h ≤ zsz h1 := by
    intro a0 a n h1 hv
    unfold zcpy at hv
    split at hv
    · next c0 c1 hc0 hc1 =>
      split at hv
      · next hcc => cases hv; exact ⟨by rw [List.length_set]; exact Nat.le_refl _, by rw [zsz_set hc1 (by simp; omega)]; exact Nat.le_refl _⟩
      · cases hv
    · cases hv
  have happ : ∀ {c0 : ZC}, h.length ≤ (h ++ [c0]).length ∧ zsz h ≤ zsz (h ++ [c0]) := fun {c0} => ⟨by simp, by rw [zsz_app]; exact Nat.le_add_right _ _⟩
  have hrf : h.length ≤ h.length ∧ zsz h ≤ zsz h := ⟨Nat.le_refl _, Nat.le_refl _⟩
  cases i <;> simp only [zstep, Option.map_eq_some_iff] at hs
  all_goals (repeat' (split at hs))
  all_goals (try simp only [Option.map_eq_some_iff] at hs)
  all_goals first
    | (cases hs; done)
    | (cases hs; exact hrf)
    | (cases hs; exact happ)
    | (obtain ⟨_, _, hs⟩ := hs; cases hs; exact hrf)
    | (obtain ⟨_, hv, hs⟩ := hs; cases hs; exact hput hv)
    | (obtain ⟨_, hv, hs⟩ := hs; cases hs; exact hast hv)
    | (obtain ⟨_, hv, hs⟩ := hs; cases hs; exact hcpy hv)
theorem zret_form {mt : Nat} {i : Instr} {st : List Value} {r : Option Value} (h : zret mt i st = some r) : (r = none ∧ i = .return_ ∧ st = [] ∧ zrt mt = none) ∨ ∃ x : Int32, r = some (.int x) ∧ i = .ireturn ∧ st = [.int x] ∧ (zrt mt = some .int ∨ (zrt mt = some .boolean ∧ (x = 0 ∨ x = 1))) := by
  unfold zret at h
  split at h
  · split at h
    · next x =>
      split at h
      · next hx => cases h; exact Or.inr ⟨x, rfl, rfl, rfl, hx⟩
      · cases h
    · cases h
  · split at h
    · split at h
      · next hx => cases h; exact Or.inl ⟨rfl, rfl, rfl, hx⟩
      · cases h
    · cases h
  · cases h
/-- what a run's answer and its heap's size can be -/
theorem zrun_facts {xs : Nat → Int32} {L : Nat} : ∀ (n mt pc : Nat) (ls st : List Value) (h : ZH) (r : Option Value) (hE : ZH), zrun xs L n mt pc ls st h = some (r, hE) → (h.length ≤ hE.length ∧ zsz h ≤ zsz hE) ∧ (r = none ∨ ∃ x : Int32, r = some (.int x)) := by
  intro n
  induction n with
  | zero => intro mt pc ls st h r hE hh; simp [zrun] at hh
  | succ n ih =>
    intro mt pc ls st h r hE hh
    rw [zrun] at hh
    split at hh
    · cases hh
    · next i len hd =>
      split at hh
      · split at hh
        · split at hh
          · split at hh
            · next r1 h1 hr =>
              obtain ⟨⟨a1, a2⟩, -⟩ := ih _ _ _ _ _ _ _ hr
              obtain ⟨⟨b1, b2⟩, b3⟩ := ih _ _ _ _ _ _ _ hh
              exact ⟨⟨by omega, by omega⟩, b3⟩
            · cases hh
          · cases hh
        · split at hh
          · next r1 hr =>
            cases hh
            refine ⟨⟨Nat.le_refl _, Nat.le_refl _⟩, ?_⟩
            rcases zret_form hr with h1 | ⟨x, h1, -⟩
            · exact Or.inl h1.1
            · exact Or.inr ⟨x, h1⟩
          · split at hh
            · next pc' ls' st' h' hs =>
              obtain ⟨a1, a2⟩ := zstep_mono hs
              obtain ⟨⟨b1, b2⟩, b3⟩ := ih _ _ _ _ _ _ _ hh
              exact ⟨⟨by omega, by omega⟩, b3⟩
            · cases hh
      · cases hh
theorem zNW_form {w : Cond} (h : w ∈ zNW) : ∃ (a : String) (i : Nat) (x : MethodName) (o : String), w = .methodLinkNest a i x o := by
  have h2 := (List.mem_filter.mp h).2
  split at h2
  · exact ⟨_, _, _, _, rfl⟩
  · cases h2
theorem zNW_mem {p i : Nat} {a o : String} {x : MethodName} (h : lw_tbl[p]? = some (.methodLinkNest a i x o)) : Cond.methodLinkNest a i x o ∈ zNW := List.mem_filter.mpr ⟨List.mem_of_getElem? h, rfl⟩
/-- what a method finds -/
def zPc (xs : Nat → Int32) (L b B : Nat) (cI cB cD : ClassId) (D : va_G) (av : List Value) (h : ZH) : Array Value → State → Prop :=
  va_Pc (av.map (zv b B)) (fun U => va_P D zcl (zws b B cI cB cD h) U.heap ∧ va_K D zcl [(cI, .int), (cB, .byte), (cD, .object RX1)] U ∧ va_X b L xs U U.heap ∧ b < U.heap.size ∧ U.heap.size = B + h.length ∧ (∀ w ∈ zNW, va_Nw w U) ∧ va_AO RX1 U)
def zQc (b B : Nat) (cI cB cD : ClassId) (D : va_G) (r : Option Value) (hE : ZH) : Array Value → State → Outcome → State → Prop := match r with
  | some (.int x) => va_Qi (fun (y : Int32) (_ : Unit) => y = x) (fun _ t => va_P D zcl (zws b B cI cB cD hE) t.heap) (fun q => B ≤ q)
  | _ => va_Qv (fun (_ : Unit) => True) (fun _ t => va_P D zcl (zws b B cI cB cD hE) t.heap) (fun q => B ≤ q)
def zRm (mt : Nat) (h hE : ZH) : Room := { frames := zfr mt, cells := hE.length - h.length, slots := zsz hE - zsz h, locals := zlo mt }
def zRi (mt : Nat) (r : Option Value) (pc : Nat) : Prop := match r with
  | some (.int x) => decode (zco mt) pc = .ok (.ireturn, 1) ∧ (zrt mt = some .int ∨ (zrt mt = some .boolean ∧ (x = 0 ∨ x = 1)))
  | none => decode (zco mt) pc = .ok (.return_, 1) ∧ zrt mt = none
  | _ => False
/-- the statement of the simulation at a fuel -/
def zSim (xs : Nat → Int32) (L b B : Nat) (cI cB cD : ClassId) (D : va_G) (l : Launch) (n : Nat) : Prop :=
  ∀ (mt pc : Nat) (ls st : List Value) (h : ZH) (r : Option Value) (hE : ZH), zrun xs L n mt pc ls st h = some (r, hE) →
  ∀ (p : Program) (e : Env) (R : Room) (s : State) (m : MethodId) (args : Array Value) (below : List Frame) (meth : Method) (c : Code) (H : Heap) (locs : List Loc) (cells slots : Nat) (Q : State → Prop) (lsA : Array Slot) (z0 : Nat),
  zC xs L b B cI cB cD D p s m args meth c mt → (zfr mt ≤ R.frames ∧ zlo mt ≤ R.locals) → va_P D zcl (zws b B cI cB cD h) H → va_S (fun q => B ≤ q) s.heap H locs → zL b B mt ls lsA → s.heap.size + cells = B + h.length → zsz h = z0 + slots → B + hE.length ≤ s.heap.size + R.cells → zsz hE ≤ z0 + R.slots →
  (∀ (pc' : Nat) (lsA' : Array Slot) (H' : Heap) (locs' : List Loc) (cells' slots' : Nat), zRi mt r pc' → va_P D zcl (zws b B cI cB cD hE) H' → va_S (fun q => B ≤ q) s.heap H' locs' → s.heap.size + cells' = B + hE.length → zsz hE = z0 + slots' → W p l e R s m args below meth c H' locs' cells' slots' Q (F0 m pc' lsA' r.toList)) →
  W p l e R s m args below meth c H locs cells slots Q (F0 m pc lsA (st.map (zv b B)))
def zfm (av : List Value) : List Value := av.flatMap (fun v => if v.category = 2 then [v, .null] else [v])
theorem zent_args (b B : Nat) : ∀ (av : List Value) (i k : Nat) (v : Value), (zfm av)[k]? = some v → v ≠ .null → (i + k, zv b B v) ∈ lv_args i (av.map (zv b B))
  | [], i, k, v, h, _ => by simp [zfm] at h
  | a :: t, i, k, v, h, hn => by
    have ih := zent_args b B t
    have e : zfm (a :: t) = (if a.category = 2 then [a, .null] else [a]) ++ zfm t := by simp [zfm, List.flatMap_cons]
    rw [e] at h
    rw [List.map_cons, lv_args, zv_cat]
    by_cases hc : a.category = 2
    · rw [if_pos hc] at h ⊢
      match k, h with
      | 0, h => simp at h; subst h; exact List.mem_cons_self
      | 1, h => simp at h; exact absurd h.symm hn
      | k + 2, h =>
        have := ih (i + 2) k v (by simpa using h) hn
        rw [show i + (k + 2) = i + 2 + k by omega]
        exact List.mem_cons_of_mem _ this
    · rw [if_neg hc] at h ⊢
      match k, h with
      | 0, h => simp at h; subst h; exact List.mem_cons_self
      | k + 1, h =>
        have := ih (i + 1) k v (by simpa using h) hn
        rw [show i + (k + 1) = i + 1 + k by omega]
        exact List.mem_cons_of_mem _ this
theorem zfm_len (b B : Nat) (av : List Value) : (lg_sl (av.map (zv b B))).length = (zfm av).length := by
  induction av with
  | nil => rfl
  | cons a t ih =>
    unfold lg_sl zfm at *
    rw [List.map_cons, List.flatMap_cons, List.flatMap_cons, List.length_append, List.length_append, ih, zv_cat]
    split <;> rfl
theorem zlok_ok {J : List Nat} {ls : List Value} (h : zlok J ls = true) {i : Nat} {v : Value} (hi : ls[i]? = some v) (hc : v.category = 2) : i ∈ J := by
  unfold zlok at h
  have hm : (v, i) ∈ ls.zipIdx := List.mk_mem_zipIdx_iff_getElem?.mpr hi
  have := List.all_eq_true.mp h _ hm
  simp only [Bool.or_eq_true, decide_eq_true_eq] at this
  rcases this with h1 | h1
  · exact absurd hc h1
  · simpa using h1
theorem z_lower {b B : Nat} {cI cB cD : ClassId} {D : va_G} {h : ZH} {H : Heap} (hP : va_P D zcl (zws b B cI cB cD h) H) (hB : B ≤ H.size) : B + h.length ≤ H.size := by
  cases hh : h.length with
  | zero => omega
  | succ k =>
    have hk : k < h.length := by omega
    have h3 : (zws b B cI cB cD h)[k]? = some (B + k, zE b B cI cB cD h[k]) := by rw [zws_get, List.getElem?_eq_getElem hk]; rfl
    have := (hP _ _ h3).lt
    simp only at this
    omega
section ZMET
variable {xs : Nat → Int32} {L b B : Nat} {cI cB cD : ClassId} {D : va_G} {l : Launch}
set_option maxHeartbeats 4000000 in
theorem zmet {n cal : Nat} (ih : zSim xs L b B cI cB cD D l n) (hbB : b < B) {av : List Value} {h hE : ZH} {r : Option Value} (hrun : zrun xs L n cal 0 (zent (zml cal) av) [] h = some (r, hE)) (hpl : plainName (zy cal).cls = true) (hcls : (zy cal).cls = zcn (zown cal)) (hlk : zlok (zj cal) (zent (zml cal) av) = true) (hlen : (zent (zml cal) av).length = zml cal) :
    Met l (zy cal) (Cond.code (zy cal) (zco cal) (zml cal) (zrt cal) :: zTG) (zRm cal h hE) (zPc xs L b B cI cB cD D av h) (zQc b B cI cB cD D r hE) (hE.length - h.length) (zsz hE - zsz h) (fun q => B ≤ q) := by
  obtain ⟨⟨hf1, hf2⟩, hf3⟩ := zrun_facts _ _ _ _ _ _ _ _ hrun
  refine Met.ofW (cc := zco cal) (maxL := zml cal) (ret := zrt cal) hpl rfl ?_
  intro p e s m args below meth c s₁ Bd hml hv
  obtain ⟨rfl, hP, hK, hX, hbl, hsz, hNw, hAO⟩ := hv
  have hts := atoms_spec (ws := Cond.code (zy cal) (zco cal) (zml cal) (zrt cal) :: zTG) Bd.pre
  have hown : s.vm.findClass (zcn (zown cal)) = some m.cls := by rw [← hcls]; exact findClass_of_methodNamed Bd.named
  have hlocks := Bd.notSynchronized
  have C0 : zC xs L b B cI cB cD D p s m (av.map (zv b B)).toArray meth c cal := ⟨Bd.exec, Bd.bytes, hml, hown, fun w hw => hts w (List.mem_cons_of_mem _ hw), fun hi => by rw [← hi]; exact (name_of_methodNamed Bd.named Bd.method).1, hK, hX, hbl, hbB, by omega, hNw, hAO⟩
  have hfl : (zfm av).length ≤ zml cal := by
    unfold zent at hlen
    rw [List.length_append, List.length_replicate] at hlen
    unfold zfm
    omega
  have hl := lv_entry (av.map (zv b B)) (n := zml cal) (by rw [zfm_len]; exact hfl)
  rw [lg_entry_eq]
  generalize (lg_sl (av.map (zv b B)) ++ List.replicate (zml cal - (lg_sl (av.map (zv b B))).length) Slot.unset).toArray = lsA at hl ⊢
  have hL : zL b B cal (zent (zml cal) av) lsA := by
    refine ⟨hlen, ⟨hl.1, hl.2.1, fun q hq => hl.2.2 q ?_⟩, fun i v hi hc => zlok_ok hlk hi hc⟩
    obtain ⟨k, v, h1, h2, rfl⟩ := zlv_mem.mp hq
    have h3 : (zfm av)[k]? = some v := by
      unfold zent at h1
      rw [List.getElem?_append] at h1
      split at h1
      · exact h1
      · rw [List.getElem?_replicate] at h1
        split at h1
        · cases h1; exact absurd rfl h2
        · cases h1
    exact zent_args b B av 0 k v h3 h2
  refine ih cal 0 _ [] h r hE hrun p e _ s m _ below meth c s.heap [] 0 0 _ lsA (zsz h) C0 ⟨Nat.le_refl _, Nat.le_refl _⟩ hP va_S.rf hL (by omega) rfl (by show _ ≤ _ + (hE.length - h.length); omega) (by show _ ≤ _ + (zsz hE - zsz h); omega) ?_
  intro pc' lsA' H' locs' cells' slots' hri hP' hS' hc' hs'
  have e1 : cells' = hE.length - h.length := by omega
  have e2 : slots' = zsz hE - zsz h := by omega
  subst e1; subst e2
  rcases hf3 with rfl | ⟨x, rfl⟩
  · exact W.vret Bd.exec Bd.bytes (Bd.returns.trans hri.2) (fun t ht hW => ⟨⟨(), rfl, trivial, by show va_P D zcl _ t.heap; rw [ht]; exact hP'⟩, hS'.F ht⟩) hS'.2.2 hri.1 hlocks
  · rcases hri.2 with hi | ⟨hi, hx⟩
    · exact W.zret Bd.exec Bd.bytes (Bd.returns.trans hi) (vp_nar_int x) (fun t ht hW => ⟨⟨x, (), rfl, rfl, by show va_P D zcl _ t.heap; rw [ht]; exact hP'⟩, hS'.F ht⟩) hS'.2.2 hri.1 hlocks
    · exact W.zret Bd.exec Bd.bytes (Bd.returns.trans hi) (by rcases hx with rfl | rfl <;> rfl) (fun t ht hW => ⟨⟨x, (), rfl, rfl, by show va_P D zcl _ t.heap; rw [ht]; exact hP'⟩, hS'.F ht⟩) hS'.2.2 hri.1 hlocks
theorem zPc_blind {av : List Value} {h : ZH} : FrameBlind (zPc xs L b B cI cB cD D av h) := by
  intro a U g mk q
  obtain ⟨q0, qP, qK, qX, q1, q2, qN, qA⟩ := q
  refine ⟨q0, qP, va_K.moved (u := U) (U := U.calling g mk a) (Vm.Alike.refl U.vm) qK, va_X.moved (u := U) (U := U.calling g mk a) (Vm.Alike.refl U.vm) qX, q1, q2, fun w hw => ?_, va_AO.moved (u := U) (U := U.calling g mk a) (Vm.Alike.refl U.vm) qA⟩
  obtain ⟨_, _, _, _, rfl⟩ := zNW_form hw
  exact va_Nw.same rfl (rfl : U.vm = (U.calling g mk a).vm) (qN _ hw)
end ZMET
end
section
/-! ===== the simulation: all runs ===== -/
theorem zcn_eq {ci : Nat} (h : ci < 9) : zCn ci = zcn ci := by
  match ci, h with
  | 0, _ | 1, _ | 2, _ | 3, _ | 4, _ | 5, _ | 6, _ | 7, _ | 8, _ => rfl
  | k + 9, h => omega
section ZRUN
variable {xs : Nat → Int32} {L b B : Nat} {cI cB cD : ClassId} {D : va_G} {l : Launch}
variable {p : Program} {e : Env} {R : Room} {s : State} {m : MethodId} {args : Array Value} {below : List Frame} {meth : Method} {c : Code} {H : Heap} {locs : List Loc} {cells slots : Nat} {Q : State → Prop}
theorem zpre {mt : Nat} {av : List Value} {h : ZH} (C0 : zC xs L b B cI cB cD D p s m args meth c mt) (hP : va_P D zcl (zws b B cI cB cD h) H) (hS : va_S (fun q => B ≤ q) s.heap H locs) (hsz : H.size = B + h.length) (U : State) (hU : U.heap = H) (hW : s.WarmedH U.vm) : zPc xs L b B cI cB cD D av h (av.map (zv b B)).toArray U := by
  obtain ⟨hx, hb, hml, hown, hts, hin, hK, hX, hbl, hbB, hBs, hNw, hAO⟩ := C0
  refine ⟨rfl, by rw [hU]; exact hP, va_K.moved hW.alike hK, ?_, by rw [hU]; exact Nat.lt_of_lt_of_le hbl hS.1, by rw [hU]; exact hsz, fun w hw => ?_, va_AO.moved hW.alike hAO⟩
  · rw [hU]
    exact (hX.moved hW.alike).kept (hS.2.1 b hbl (Nat.not_le.mpr hbB))
  · obtain ⟨_, _, _, _, rfl⟩ := zNW_form hw
    exact va_Nw.warmM hW (hNw _ hw)
set_option maxHeartbeats 4000000 in
set_option maxRecDepth 100000 in
/-- a call, whichever way -/
theorem zcall {n mt pc cal kind : Nat} {i : Instr} {ls st : List Value} {h h1 : ZH} {r1 : Option Value} {lsA : Array Slot} (ih : zSim xs L b B cI cB cD D l n)
    (C0 : zC xs L b B cI cB cD D p s m args meth c mt) (hR : zfr mt ≤ R.frames ∧ zlo mt ≤ R.locals) (hd : decode (zco mt) pc = .ok (i, 3)) (hc : zcallee mt i = some (cal, kind)) (hk : zcok mt kind cal st h = true)
    (hrun : zrun xs L n cal 0 (zent (zml cal) (st.take (zna cal)).reverse) [] h = some (r1, h1))
    (hP : va_P D zcl (zws b B cI cB cD h) H) (hS : va_S (fun q => B ≤ q) s.heap H locs) (hL : zL b B mt ls lsA) (hsz : H.size = B + h.length)
    (hf : cells + (h1.length - h.length) ≤ R.cells ∧ slots + (zsz h1 - zsz h) ≤ R.slots) :
    va_Run p l e R s m args below meth c H locs cells slots (h1.length - h.length) (zsz h1 - zsz h) (F0 m pc lsA (st.map (zv b B))) ((st.drop (zna cal)).map (zv b B)) (zQc b B cI cB cD D r1 h1 (((st.take (zna cal)).reverse).map (zv b B)).toArray) (fun q => B ≤ q) := by
  have C1 := C0
  obtain ⟨hx, hb, hml, hown, hts, hin, hK, hX, hbl, hbB, hBs, hNw, hAO⟩ := C1
  unfold zcok at hk
  simp only [Bool.and_eq_true, decide_eq_true_eq] at hk
  obtain ⟨⟨⟨⟨⟨⟨hk1, hk2⟩, hk3⟩, hk4⟩, hk5⟩, hk6⟩, hk7⟩ := hk
  have hrs : ((((st.drop (zna cal)).map (zv b B))).map fun v => v.category).sum ≤ 8 := by
    have := zcat_sum b B (st.drop (zna cal))
    rw [List.length_drop] at this
    omega
  have hst : st.map (zv b B) = (((st.take (zna cal)).reverse).map (zv b B)).reverse ++ (st.drop (zna cal)).map (zv b B) := by
    rw [← List.map_reverse, List.reverse_reverse, ← List.map_append, List.take_append_drop]
  have hlA : lsA.size = zml mt := hL.2.1.1
  have hmc : (zRm cal h h1).cells = h1.length - h.length := rfl
  have hms : (zRm cal h h1).slots = zsz h1 - zsz h := rfl
  have hRR : (zRm cal h h1).frames + 1 ≤ R.frames ∧ 8 + (zml cal + 11) + (zRm cal h h1).locals ≤ R.locals := ⟨by show zfr cal + 1 ≤ _; omega, by show 8 + (zml cal + 11) + zlo cal ≤ _; omega⟩
  have key : ∀ x : Nat, zmk (zown mt) x = some (cal, kind) → ∃ q : Nat × Nat × Nat × Nat × Nat, zMLc (zown mt, x, cal, kind, q) = true := fun x hx => zmk_in hx
  have hMH : ∀ {y : MethodName}, zMH y = true → y.cls ≠ "java/lang/invoke/MethodHandle" ∧ y.cls ≠ "java/lang/invoke/VarHandle" := by
    intro y hy
    unfold zMH at hy
    simp only [Bool.and_eq_true, Bool.not_eq_true', beq_eq_false_iff_ne] at hy
    exact hy
  have hrc : ∀ a : Nat, 0 < zna cal → st[zna cal - 1]? = some (.ref a) → (st.take (zna cal)).reverse = .ref a :: (st.take (zna cal - 1)).reverse := by
    intro a h0 ha
    have : st.take (zna cal) = st.take (zna cal - 1) ++ [.ref a] := by
      have hl : zna cal - 1 < st.length := by omega
      rw [show zna cal = (zna cal - 1) + 1 by omega, List.take_add_one, show (zna cal - 1) + 1 - 1 = zna cal - 1 by omega, ha]
      rfl
    rw [this, List.reverse_append]
    rfl
  have hln : ∀ a : Nat, 0 < zna cal → (((st.take (zna cal - 1)).reverse).map (zv b B)).length = zna cal - 1 := by
    intro a h0
    rw [List.length_map, List.length_reverse, List.length_take]
    omega
  cases i <;> simp only [zcallee] at hc <;> try (cases hc; done)
  case invokevirtual x =>
    obtain ⟨hmk, hkd⟩ := Option.filter_eq_some_iff.mp hc
    simp only [beq_iff_eq] at hkd
    subst hkd
    obtain ⟨⟨p1, p2, p3, p4, p5⟩, hm1⟩ := key x hmk
    simp only [zMLc, Bool.and_eq_true, decide_eq_true_eq, beq_iff_eq] at hm1
    obtain ⟨⟨⟨⟨⟨⟨h1a, h1b⟩, h1c⟩, h1d⟩, h1e⟩, h1f⟩, ⟨⟨⟨⟨⟨g1, g2⟩, g3⟩, g4⟩, g5⟩, g6⟩⟩ := hm1
    have hcd := zCD_ok cal (by simpa using h1c)
    unfold zrcv at hk7
    simp only at hk7
    split at hk7
    · next a ha =>
      simp only [Bool.and_eq_true, decide_eq_true_eq] at hk7
      obtain ⟨fs, hfs⟩ := ztag_ok hk7.2
      have hav := hrc a g6 ha
      have hM := zmet ih hbB hrun h1e h1f hk5 hk6
      rw [hav] at hM hst ⊢
      have hgi : GoodIn zTG (wsV (zcn (zown mt)) x (zy cal).cls (zy cal) (Cond.code (zy cal) (zco cal) (zml cal) (zrt cal) :: zTG)) := zTG_in (by
        intro w hw
        unfold wsV at hw
        simp only [List.cons_append, List.nil_append, List.mem_cons] at hw
        rcases hw with rfl | rfl | rfl | rfl | rfl | hw
        · exact zzat_mem g1
        · exact zzat_mem g2
        · exact zzat_mem g3
        · exact zzat_mem h1b
        · exact hcd
        · exact hw)
      have hrv := va_recv hK hP (ci := zown cal) (q := (zCn (zown cal), zT (zown cal), zN (zown cal))) (q0 := a) (zcl_at g4) (zws_obj g4 hfs)
      simp only [zcn_eq g4, ← h1f] at hrv
      exact va_runV (As := ((st.take (zna cal - 1)).reverse).map (zv b B)) ⟨hx, hb, hml, hown, hts⟩ hM (cwV (zna cal - 1) hts hgi rfl hmc hms ⟨rfl, (hMH h1d).1, (hMH h1d).2, g5⟩ hRR) ⟨zPc_blind, hrv, fun U hU hW => zpre C0 hP hS hsz U hU hW⟩ rfl (hln a g6) hlA (by rw [hst]; simp [zv]) (lv_room hrs) hd hf
    · cases hk7
  case invokestatic x =>
    obtain ⟨hmk, hkd⟩ := Option.filter_eq_some_iff.mp hc
    simp only [Bool.or_eq_true, beq_iff_eq] at hkd
    obtain ⟨⟨p1, p2, p3, p4, p5⟩, hm1⟩ := key x hmk
    rcases hkd with hkd | hkd
    · subst hkd
      simp only [zMLc, Bool.and_eq_true, decide_eq_true_eq, beq_iff_eq] at hm1
      obtain ⟨⟨⟨⟨⟨⟨h1a, h1b⟩, h1c⟩, h1d⟩, h1e⟩, h1f⟩, ⟨⟨g1, g2⟩, g3⟩⟩ := hm1
      have hcd := zCD_ok cal (by simpa using h1c)
      have hM := zmet ih hbB hrun h1e h1f hk5 hk6
      have hgi : GoodIn zTG (va_wsS (zcn (zown mt)) x (zy cal) (Cond.code (zy cal) (zco cal) (zml cal) (zrt cal) :: zTG)) := zTG_in (by
        intro w hw
        unfold va_wsS at hw
        simp only [List.cons_append, List.nil_append, List.mem_cons] at hw
        rcases hw with rfl | rfl | rfl | rfl | hw
        · exact zzat_mem g1
        · exact zzat_mem g2
        · exact zzat_mem h1b
        · exact hcd
        · exact hw)
      exact va_runS (As := ((st.take (zna cal)).reverse).map (zv b B)) ⟨hx, hb, hml, hown, hts⟩ hM (va_cwS (zna cal) hts hgi rfl hmc hms ⟨(hMH h1d).1, (hMH h1d).2, g3⟩ hRR) ⟨zPc_blind, fun U hU hW => zpre C0 hP hS hsz U hU hW⟩ rfl (by rw [List.length_map, List.length_reverse, List.length_take]; omega) hlA hst (lv_room hrs) hd hf
    · subst hkd
      simp only [zMLc, Bool.and_eq_true, decide_eq_true_eq, beq_iff_eq] at hm1
      obtain ⟨⟨⟨⟨⟨⟨h1a, h1b⟩, h1c⟩, h1d⟩, h1e⟩, h1f⟩, ⟨⟨g1, g2⟩, g3⟩⟩ := hm1
      have hcd := zCD_ok cal (by simpa using h1c)
      have hM := zmet ih hbB hrun h1e h1f hk5 hk6
      have hgi : GoodIn zTG (Cond.code (zy cal) (zco cal) (zml cal) (zrt cal) :: zTG) := zTG_in (by
        intro w hw
        rcases List.mem_cons.mp hw with rfl | hw
        · exact hcd
        · exact hw)
      exact va_runSN (As := ((st.take (zna cal)).reverse).map (zv b B)) ⟨hx, hb, hml, hown, hts⟩ hM ⟨va_cnB (zna cal) hts hgi rfl hmc hms (hNw _ (zNW_mem g1)) (hts _ (zzat_mem h1b)) ⟨(hMH h1d).1, (hMH h1d).2, g3⟩ hRR, hts _ (zzat_mem g2), trivial⟩ ⟨zPc_blind, fun U hU hW => zpre C0 hP hS hsz U hU hW⟩ rfl (by rw [List.length_map, List.length_reverse, List.length_take]; omega) hlA hst (lv_room hrs) hd hf
  case invokespecial x =>
    obtain ⟨hmk, hkd⟩ := Option.filter_eq_some_iff.mp hc
    simp only [Bool.or_eq_true, beq_iff_eq] at hkd
    obtain ⟨⟨p1, p2, p3, p4, p5⟩, hm1⟩ := key x hmk
    rcases hkd with hkd | hkd
    · subst hkd
      simp only [zMLc, Bool.and_eq_true, decide_eq_true_eq, beq_iff_eq] at hm1
      obtain ⟨⟨⟨⟨⟨⟨h1a, h1b⟩, h1c⟩, h1d⟩, h1e⟩, h1f⟩, ⟨⟨⟨⟨⟨g1, g2⟩, g3⟩, g4⟩, g5⟩, g6⟩⟩ := hm1
      have hcd := zCD_ok cal (by simpa using h1c)
      unfold zrcv at hk7
      simp only at hk7
      split at hk7
      · next a ha =>
        have hav := hrc a g6 ha
        have hM := zmet ih hbB hrun h1e h1f hk5 hk6
        rw [hav] at hM hst ⊢
        rw [g4] at hM hcd
        have hgi : GoodIn zTG (Cond.code (zy cal) (zco cal) (zml cal) none :: zTG) := zTG_in (by
          intro w hw
          rcases List.mem_cons.mp hw with rfl | hw
          · exact hcd
          · exact hw)
        exact va_runI (b := B + a) (As := ((st.take (zna cal - 1)).reverse).map (zv b B)) ⟨hx, hb, hml, hown, hts⟩ hM (cwI (zna cal - 1) hts hgi rfl hmc hms (hts _ (zzat_mem h1b)) (hts _ (zzat_mem g1)) (hts _ (zzat_mem g2)) g3 ⟨(hMH h1d).1, (hMH h1d).2, g5⟩ hRR) ⟨zPc_blind, fun U hU hW => zpre C0 hP hS hsz U hU hW⟩ rfl (hln a g6) hlA (by rw [hst]; simp [zv]) (lv_room hrs) hd hf
      · cases hk7
    · subst hkd
      simp only [zMLc, Bool.and_eq_true, decide_eq_true_eq, beq_iff_eq] at hm1
      obtain ⟨⟨⟨⟨⟨⟨h1a, h1b⟩, h1c⟩, h1d⟩, h1e⟩, h1f⟩, ⟨⟨⟨⟨⟨g1, g2⟩, g3⟩, g4⟩, g5⟩, g6⟩⟩ := hm1
      have hcd := zCD_ok cal (by simpa using h1c)
      unfold zrcv at hk7
      simp only at hk7
      split at hk7
      · next a ha =>
        have hav := hrc a g6 ha
        have hM := zmet ih hbB hrun h1e h1f hk5 hk6
        rw [hav] at hM hst ⊢
        rw [g4] at hM hcd
        have hgi : GoodIn zTG (Cond.code (zy cal) (zco cal) (zml cal) none :: zTG) := zTG_in (by
          intro w hw
          rcases List.mem_cons.mp hw with rfl | hw
          · exact hcd
          · exact hw)
        exact va_runIN (b := B + a) (As := ((st.take (zna cal - 1)).reverse).map (zv b B)) ⟨hx, hb, hml, hown, hts⟩ hM ⟨va_cnB (zna cal - 1) hts hgi rfl hmc hms (hNw _ (zNW_mem g1)) (hts _ (zzat_mem h1b)) ⟨(hMH h1d).1, (hMH h1d).2, g5⟩ hRR, g3, hts _ (zzat_mem g2)⟩ ⟨zPc_blind, fun U hU hW => zpre C0 hP hS hsz U hU hW⟩ rfl (hln a g6) hlA (by rw [hst]; simp [zv]) (lv_room hrs) hd hf
      · cases hk7
set_option maxHeartbeats 4000000 in
theorem zsim_all : ∀ n : Nat, zSim xs L b B cI cB cD D l n := by
  intro n
  induction n with
  | zero => intro mt pc ls st h r hE hh; simp [zrun] at hh
  | succ n ih =>
    intro mt pc ls st h r hE hh p e R s m args below meth c H locs cells slots Q lsA z0 C0 hR hP hS hL hn hm hnE hmE hret
    have hfE := (zrun_facts _ _ _ _ _ _ _ _ hh).1
    rw [zrun] at hh
    split at hh
    · cases hh
    · next i len hd =>
      split at hh
      · next hz =>
        split at hh
        · next cal kind hc =>
          split at hh
          · next hk =>
            split at hh
            · next r1 h1 hr =>
              have hlen : len = 3 := by
                cases i <;> simp only [zcallee] at hc <;> first | (cases hc; done) | (simpa [zlen] using hz)
              subst hlen
              obtain ⟨⟨f1, f2⟩, f3⟩ := zrun_facts _ _ _ _ _ _ _ _ hr
              obtain ⟨⟨f4, f5⟩, -⟩ := zrun_facts _ _ _ _ _ _ _ _ hh
              refine zW_sz (fun hsz1 => ?_)
              have hBs : B ≤ s.heap.size := C0.2.2.2.2.2.2.2.2.2.2.1
              have hsz : H.size = B + h.length := Nat.le_antisymm (by omega) (z_lower hP (Nat.le_trans hBs hS.1))
              have hRun := zcall (p := p) (e := e) (R := R) (below := below) (cells := cells) (slots := slots) ih C0 hR hd hc hk hr hP hS hL hsz ⟨by omega, by omega⟩
              have fin : ∀ (H1 : Heap) (locs1 : List Loc), va_P D zcl (zws b B cI cB cD h1) H1 → va_S (fun q => B ≤ q) s.heap H1 locs1 → W p l e R s m args below meth c H1 locs1 (cells + (h1.length - h.length)) (slots + (zsz h1 - zsz h)) Q (F0 m (pc + 3) lsA ((r1.toList ++ st.drop (zna cal)).map (zv b B))) :=
                fun H1 locs1 hP1 hS1 => ih _ _ _ _ _ _ _ hh p e R s m args below meth c H1 locs1 _ _ Q lsA z0 C0 hR hP1 hS1 hL (by omega) (by omega) hnE hmE hret
              rcases f3 with rfl | ⟨x, rfl⟩
              · exact va_callv (a := (((st.take (zna cal)).reverse).map (zv b B)).toArray) hRun hS (fun q _ hq => hq) (fun q hq => hq) (fun u t H1 locs1 ht hvm hw hB hz1 hk1 hS1 => fin H1 locs1 (by rw [← ht]; exact hB) hS1)
              · refine va_calli (a := (((st.take (zna cal)).reverse).map (zv b B)).toArray) hRun hS (fun q _ hq => hq) (fun q hq => hq) (fun y u t H1 locs1 ht hvm hw hB hz1 hk1 hS1 => ?_)
                have hw : y = x := hw
                subst hw
                exact fin H1 locs1 (by rw [← ht]; exact hB) hS1
            · cases hh
          · cases hh
        · next hc =>
          split at hh
          · next r1 hr =>
            cases hh
            rcases zret_form hr with ⟨rfl, rfl, rfl, ht⟩ | ⟨x, rfl, rfl, rfl, ht⟩
            · simp only [zlen, beq_iff_eq] at hz
              subst hz
              exact hret pc lsA H locs cells slots ⟨hd, ht⟩ hP hS hn hm
            · simp only [zlen, beq_iff_eq] at hz
              subst hz
              exact hret pc lsA H locs cells slots ⟨hd, ht⟩ hP hS hn hm
          · split at hh
            · next pc' ls' st' h' hs =>
              obtain ⟨⟨f4, f5⟩, -⟩ := zrun_facts _ _ _ _ _ _ _ _ hh
              exact zs_one C0 hR hd hz hs hP hS hL hn hm (by omega) (by omega) (fun H' locs' lsA' cells' slots' hP' hS' hL' hn' hm' => ih _ _ _ _ _ _ _ hh p e R s m args below meth c H' locs' cells' slots' Q lsA' z0 C0 hR hP' hS' hL' hn' hm' hnE hmE hret)
            · cases hh
      · cases hh
end ZRUN
end
section
theorem zpure (xs : Nat → Int32) (L : Nat) (hL : L ≤ 2560) : ∃ hE : ZH, zev xs L 161 0 [.float 0, .null, .null, .null] [] [] = some (some (.int 1), hE) ∧ hE.length ≤ 600000 ∧ zsz hE ≤ 7302250 := sorry
end
section
/-! THE CLAIM OUT OF ONE WALK OF THE LAW'S BODY. Your part is whole_start (and what it stands on); all else here is the same for every law, but numbers. -/
def R_law : String := "MasksAtDawnLaw"
def lw_P (b : Addr) (xs : List Int32) (args : Array Value) (s : State) : Prop := args = #[.ref b] ∧ s.IntsAt b xs ∧ xs.length ≤ 2560 ∧ (Jvm.Cond.and given_1 narrow_1).before args s = true
def lw_Q (_ : Array Value) (s : State) (o : Outcome) (t : State) : Prop := o = .returned (some (.int 1)) ∧ Framed s o t [] 600000 7302250
def lw_Z (below : List Frame) (a : Array Value) (s : State) : State → Prop := fun t => ∃ o, t.status = .running ∧ Ended t below o ∧ lw_Q a s o t
/-- the law's own end, with 1 on the stack, nothing written that was there before, its room as the claim has it -/
theorem lw_ret {p : Program} {l : Launch} {e : Env} {s : State} {m : MethodId} {below : List Frame} {meth : Method} {c : Code} {b : Nat} (hx : p.tables.exec = Jvm.exec) (hb : c.code = code) (hr : meth.sig.returnType = ret) (hlocks : meth.locks = false) {pc : Nat} {H : Heap} {ls : Array Slot} (hdg : decode code pc = .ok (.ireturn, 1)) : W p l e room_1 s m #[Value.ref b] below meth c H [] 600000 7302250 (lw_Z below #[Value.ref b] s) (F0 m pc ls [.int 1]) := by
  intro T hT X
  obtain ⟨fs, hret, hrun, hended, hW, hframe⟩ := X.leave (v := some (.int 1)) (hlocks := hlocks) (fun h => by rw [hr] at h; cases h)
  have hmeth' : T.vm.method? m = some meth := X.method'
  refine ⟨T.setFrames fs, ?_, .returned (some (.int 1)), hrun, hended, rfl, ⟨_, rfl⟩, hW, hframe⟩
  jvm_step X.here [X.here.top, hx, hb, hdg, hmeth', hr, ret, narrow_b1]
  (try refine ⟨rfl, ?_⟩); (try refine ⟨rfl, ?_⟩)
  first | (intro acts; rw [hret _ acts rfl rfl rfl]) | rw [hret _ _ rfl rfl rfl]
  exact Steps.refl _
/-- what holds at the law's entry: the machine, the code, the tables' words (any of lw_tbl by 'hts w (by decide +kernel)'), the script of L ints xs at the cell b, what the Statement gives of the start (any of its parts by flat_of_before) -/
def lw_At (p : Program) (s : State) (m : MethodId) (meth : Method) (c : Code) (b L : Nat) (xs : Nat → Int32) : Prop :=
  p.tables.exec = Jvm.exec ∧ c.code = code ∧ meth.sig.returnType = ret ∧ c.maxLocals = 4 ∧ s.vm.findClass R_law = some m.cls ∧ (∀ w ∈ lw_tbl, w.before #[Value.ref b] s = true) ∧ va_X b L xs s s.heap ∧ b < s.heap.size ∧ meth.locks = false ∧ (Jvm.Cond.and given_1 narrow_1).before #[Value.ref b] s = true
set_option maxRecDepth 100000 in
theorem zinst_ok : (List.range 9).all (fun ci => decide (Cond.instantiable (zCn ci) (zN ci) ∈ lw_tbl)) = true := by decide +kernel
set_option maxRecDepth 100000 in
theorem zover_ok : Cond.arrayOver (.object RX1) ∈ lw_tbl := by decide +kernel
set_option maxHeartbeats 4000000 in
set_option maxRecDepth 100000 in
/-- THE LAW, from its entry -/
theorem whole_start {p : Program} {e : Env} {s : State} {m : MethodId} {below : List Frame} {meth : Method} {c : Code} (l : Launch) {b L : Nat} {xs : Nat → Int32} (hL : L ≤ 2560) (C0 : lw_At p s m meth c b L xs) : W p l e room_1 s m #[Value.ref b] below meth c s.heap [] 0 0 (lw_Z below #[Value.ref b] s) (entryFrame m ([Value.ref b] : List Value).toArray 4) := by
  obtain ⟨hx, hb, hr, hml, hown, hts, hX, hbl, hlocks, hgv⟩ := id C0
  obtain ⟨hE, hev, hE1, hE2⟩ := zpure xs L hL
  obtain ⟨n, hrun⟩ := zev_iff.mp hev
  have hts' : ∀ w ∈ zTG, w.before #[Value.ref b] s = true := fun w hw => hts w (List.mem_filter.mp hw).1
  have hkn : ∀ ci : Nat, ∃ q : ClassId × (Nat → Nat), ci < 9 → u_Kn s (zCn ci) (zT ci) (zN ci) q.1 q.2 := by
    intro ci
    by_cases hci : ci < 9
    · obtain ⟨cC, iS, h1⟩ := u_known (C := zCn ci) (T := zT ci) (N := zN ci) (n := zN ci) hts' (zws_in hci) (hts _ (of_decide_eq_true (List.all_eq_true.mp zinst_ok ci (List.mem_range.mpr hci))))
      exact ⟨(cC, iS), fun _ => h1⟩
    · exact ⟨(0, fun _ => 0), fun h => absurd h hci⟩
  obtain ⟨f, hf⟩ := Classical.skolem.mp hkn
  obtain ⟨cI, kI, coI, i1, i2, i3⟩ := Cond.arrayClass_spec (hts' _ zw_arr.1)
  obtain ⟨cB, kB, coB, b1, b2, b3⟩ := Cond.arrayClass_spec (hts' _ zw_arr.2)
  obtain ⟨coD, cD, kD, d1, -, d2, d3, d4⟩ := Cond.arrayOver_spec (hts _ zover_ok)
  have hK : va_K (fun k => (f k).1, fun k => (f k).2) zcl [(cI, .int), (cB, .byte), (cD, .object RX1)] s := by
    refine ⟨fun k q hq => ?_, fun k q hq => ?_⟩
    · have hk : k < 9 := (List.getElem?_eq_some_iff.mp hq).1
      rw [zcl_at hk] at hq
      cases hq
      exact hf k hk
    · match k, hq with
      | 0, hq => cases hq; exact ⟨fun n z => ⟨(fun k h => by cases h), kI, i2, coI, i3⟩, i1⟩
      | 1, hq => cases hq; exact ⟨fun n z => ⟨(fun k h => by cases h), kB, b2, coB, b3⟩, b1⟩
      | 2, hq => cases hq; exact ⟨fun n z => ⟨(fun k h => by cases h), kD, d2, coD, d3⟩, kD, coD, d2, d3, d1, d4⟩
      | k + 3, hq => simp at hq
  have hC : zC xs L b s.heap.size cI cB cD (fun k => (f k).1, fun k => (f k).2) p s m #[Value.ref b] meth c 161 := by
    refine ⟨hx, hb, hml, hown, hts', fun h => absurd h (by decide +kernel), hK, hX, hbl, hbl, Nat.le_refl _, fun w hw => ?_, va_AO.of (hts _ zover_ok)⟩
    have hw2 := hts w (List.mem_filter.mp hw).1
    obtain ⟨_, _, _, _, rfl⟩ := zNW_form hw
    exact va_Nw.of rfl hw2
  have hl := lv_entry ([.ref b]) (n := 4) (Nat.le_of_ble_eq_true rfl)
  rw [lg_entry_eq]
  generalize (lg_sl ([.ref b]) ++ List.replicate (4 - (lg_sl ([.ref b])).length) Slot.unset).toArray = ls at hl ⊢
  have hZ : zL b s.heap.size 161 [.float 0, .null, .null, .null] ls := by
    refine ⟨rfl, ⟨hl.1, hl.2.1, fun q hq => hl.2.2 q ?_⟩, fun i v hi hc => ?_⟩
    · simpa [zlv, lv_args, zv] using hq
    · match i, hi with
      | 0, hi | 1, hi | 2, hi | 3, hi => cases hi; cases hc
      | i + 4, hi => simp at hi
  refine zsim_all n 161 0 _ [] [] _ hE hrun p e room_1 s m _ below meth c s.heap [] 0 0 _ ls 0 hC ⟨by decide +kernel, by decide +kernel⟩ (fun k q h => by simp [zws] at h) va_S.rf hZ rfl rfl (Nat.add_le_add_left hE1 _) (by rw [Nat.zero_add]; exact hE2) ?_
  intro pc' lsA' H' locs' cells' slots' hri hP' hS' hc' hs'
  refine va_forget (fun q hq => hS'.2.2 q hq) ?_
  refine W.widen (k := 600000) (n := 7302250) (by omega) (by omega) ?_
  exact lw_ret hx hb hr hlocks hri.1
set_option maxHeartbeats 4000000 in
theorem lw_walk (l : Launch) (b : Addr) (xs : List Int32) : MetFree l x (headSpec (Jvm.Cond.code x code maxLocals ret :: tables_1) room_1) (lw_P b xs) (fun _ _ _ _ _ => True) lw_Q := by
  refine MetFree.of_bodyS (code := code) (maxLocals := maxLocals) (ret := ret) (by decide) ?_ ?_
  · intro args s m h hn
    obtain ⟨meth, c, h1, h2, h3, h4, h5, h6, -, -⟩ := Cond.code_spec hn (atoms_spec (ws := Jvm.Cond.code x code maxLocals ret :: tables_1) h _ List.mem_cons_self)
    exact ⟨meth, c, h1, h2, h3, h4, h5, h6⟩
  · intro p e s m args below meth c s₁ B hml0 hP _
    obtain ⟨rfl, hx, hbd, hgv⟩ := hP
    obtain ⟨scr, harrAt, hlist, hof, hsmall⟩ := hx
    obtain ⟨hcb, hkn, -, -⟩ := State.arrayAt?_spec harrAt
    have hown : s.vm.findClass R_law = some m.cls := findClass_of_methodNamed B.named
    have hts0 : ∀ c ∈ (Jvm.Cond.code x code maxLocals ret :: tables_1), c.before #[Value.ref b] s = true := atoms_spec (ws := Jvm.Cond.code x code maxLocals ret :: tables_1) B.pre
    have hts : ∀ w ∈ lw_tbl, w.before #[Value.ref b] s = true := k2_hts_sels lw_privs (fun w hw => hts0 w (List.mem_cons_of_mem _ hw)) lw_privs_ok
    have hml : c.maxLocals = 4 := B.maxLocals_eq (hts0 _ List.mem_cons_self)
    have X₀ : Stand p l e room_1 s m #[Value.ref b] below meth c s₁ [] 0 0 := Stand.of_body B
    have hh0 : s₁.heap = s.heap := by rw [B.state]; rfl
    have hsz : scr.slots.size = xs.length := by rw [← Array.length_toList, hlist, List.length_map]
    have hval : ∀ j : Nat, j < xs.length → scr.slots[j]? = some (.int (xs.getD j 0)) := fun j hj => by
      rw [← Array.getElem?_toList, hlist]
      simp [hj]
    have hbl : b < s.heap.size := (Array.getElem?_eq_some_iff.mp hcb).1
    have hX : va_X b xs.length (fun j => xs.getD j 0) s s.heap := ⟨scr, hcb, hof, hkn, hsz, hval⟩
    have K : W p l e room_1 s m #[Value.ref b] below meth c s₁.heap [] 0 0 (lw_Z below #[Value.ref b] s) (entryFrame m ([Value.ref b] : List Value).toArray 4) := by
      rw [hh0]
      exact whole_start l hbd ⟨B.exec, B.bytes, B.returns, hml, hown, hts, hX, hbl, B.notSynchronized, hgv⟩
    obtain ⟨t, a1, o, b1, b2, b3⟩ := K s₁ rfl X₀
    exact ⟨t, o, a1, b1, b2, b3⟩
theorem lw_pre_spec {args : Array Value} {s : State} (h : (Jvm.Cond.and given_1 narrow_1).before args s = true) (hr : rest_1_c.before args s = true) : ∃ (b : Addr) (xs : List Int32), lw_P b xs args s := by
  have hs := flat_of_before _ h
  have hq := flat_of_before _ hr
  have hc : (Cond.count 1).before args s = true := hs _ (by decide +kernel)
  have harr : (Cond.arrayOf (.arg 0) .int).before args s = true := hs _ (by decide +kernel)
  have hle : (Cond.le (.length (.arg 0)) (.int 2560)).before args s = true := hs _ (by decide +kernel)
  have hlen : (Cond.isInt (.length (.arg 0))).before args s = true := hq _ (by decide +kernel)
  have hall : (Cond.all (.arg 0) (.isInt (.elem (.arg 0) (.index 0)))).before args s = true := hq _ (by decide +kernel)
  obtain ⟨b, xs, hb, hx⟩ := State.ints_of_pre rfl harr hlen hall
  have hsm : xs.length < 2 ^ 31 := hx.choose_spec.2.2.2
  have hev : (Term.length (.arg 0)).eval args s none [] s = some (.int xs.length.toInt32) := hx.length_eval hb
  have hv := Cond.le_ints hev (show (Term.int 2560).eval args s none [] s = some (.int 2560) from rfl)
  have hd : xs.length.toInt32 ≤ 2560 := by
    simpa [Cond.before, Cond.holds, hv] using hle
  have hN : xs.length ≤ 2560 := (Int32.ofNat_le_ofNat hsm (by decide)).mp (show Int32.ofNat xs.length ≤ Int32.ofNat 2560 from hd)
  exact ⟨b, xs, Cond.one_arg hc (show args[0]? = some (.ref b) from hb), hx, hN, h⟩
theorem lw_comes (l : Launch) : Comes l x (Jvm.Cond.code x code maxLocals ret :: tables_1) room_1 (fun tb e args s => Calls_1 tb e args s ∧ rest_1 tb e args s ∧ Pre_1 tb e args s)
    (fun _ _ args s o t => lw_Q args s o t) := by
  intro p e ha hc hk s m args below hf hfit hheap happ hpre
  obtain ⟨b, xs, hP⟩ := lw_pre_spec hpre.2.2 hpre.2.1
  obtain ⟨k, o, h1, h2, h3, hQ⟩ := lw_walk l b xs p e ha hc hk s m args below hf ((Spec.applies_iff_loose hf).mp happ).1 hP trivial
  exact ⟨k, o, h1, h2, h3, hQ⟩
theorem lw_frame {s t : State} {o : Outcome} {args : Array Value} (h : Framed s o t [] 600000 7302250) :
    Framed s o t (fieldLocs frame_1_writes args s ++ arrayLocs frame_1_arrays args s ++ staticLocs frame_1_statics s) 600000 7302250 := h
theorem lw_limb (L : Cond) (hL : ∀ (args : Array Value) (s t : State), L.after args s (.returned (some (.int 1))) t = true) :
    ArmFor flags0 classFile x code maxLocals ret World_1 tables_1 room_1 Calls_1 rest_1 Pre_1
      (fun tb e a s o t => postC L tb e a s o t ∧ Framed s o t (fieldLocs frame_1_writes a s ++ arrayLocs frame_1_arrays a s ++ staticLocs frame_1_statics s) 600000 7302250) := by
  intro l _ _ _ p e ha hc hk s m args below hf hfit hheap happ hpre
  obtain ⟨k, o, h1, h2, h3, rfl, hF⟩ := lw_comes l p e ha hc hk s m args below hf hfit hheap happ hpre
  exact ⟨k, _, h1, h2, h3, hL args s _, lw_frame hF⟩
theorem i_vc : Claimed_1_1 ∧ Claimed_1_2 := ⟨lw_limb limb_1_1 (fun args s t => by simp [limb_1_1, Cond.after, Cond.holds, Cond.value]), lw_limb limb_1_2 (fun args s t => Cond.after_iff.mpr (by
  first | (rw [show limb_1_2 = Cond.eq .result (.int 1) from rfl, Cond.eq_ints (x := 1) (y := 1) rfl rfl]; simp; done) | (simp [limb_1_2, Cond.value, Term.eval]; done)))⟩
end
