-- ===== PART A: goes FIRST, ahead of the names: the tables' words, and 'selects' of the private methods out of them =====
/-- a private method of a class that the tables say can be made, by its rows of tables_1 -/
def lw_okq (q : MethodName × Nat) : Prop := (q.1.cls ≠ "java/lang/invoke/MethodHandle" ∧ q.1.cls ≠ "java/lang/invoke/VarHandle") ∧ Cond.instantiable q.1.cls q.2 ∈ tables_1 ∧ Cond.privateMethod q.1 ∈ tables_1 ∧ Cond.instanceMethod q.1 ∈ tables_1
theorem lw_p0 : lw_okq (⟨"KeyRowsModel", "is", "(II)Z"⟩, 7) := ⟨⟨by decide +kernel, by decide +kernel⟩, List.mem_of_getElem? (i := 421) (by decide +kernel), List.mem_of_getElem? (i := 464) (by decide +kernel), List.mem_of_getElem? (i := 465) (by decide +kernel)⟩
theorem lw_p1 : lw_okq (⟨"KeyRowsModel", "change", "(IIIZ)I"⟩, 7) := ⟨⟨by decide +kernel, by decide +kernel⟩, List.mem_of_getElem? (i := 421) (by decide +kernel), List.mem_of_getElem? (i := 472) (by decide +kernel), List.mem_of_getElem? (i := 473) (by decide +kernel)⟩
theorem lw_p2 : lw_okq (⟨"KeyRowsModel", "many", "(III)I"⟩, 7) := ⟨⟨by decide +kernel, by decide +kernel⟩, List.mem_of_getElem? (i := 421) (by decide +kernel), List.mem_of_getElem? (i := 484) (by decide +kernel), List.mem_of_getElem? (i := 485) (by decide +kernel)⟩
theorem lw_p3 : lw_okq (⟨"KeyRowsModel", "nth", "(II)I"⟩, 7) := ⟨⟨by decide +kernel, by decide +kernel⟩, List.mem_of_getElem? (i := 421) (by decide +kernel), List.mem_of_getElem? (i := 504) (by decide +kernel), List.mem_of_getElem? (i := 505) (by decide +kernel)⟩
theorem lw_p4 : lw_okq (⟨"KeyRowsModel", "formOf", "(II)I"⟩, 7) := ⟨⟨by decide +kernel, by decide +kernel⟩, List.mem_of_getElem? (i := 421) (by decide +kernel), List.mem_of_getElem? (i := 524) (by decide +kernel), List.mem_of_getElem? (i := 525) (by decide +kernel)⟩
theorem lw_p5 : lw_okq (⟨"KeyRowsModel", "bitsOf", "(II)I"⟩, 7) := ⟨⟨by decide +kernel, by decide +kernel⟩, List.mem_of_getElem? (i := 421) (by decide +kernel), List.mem_of_getElem? (i := 528) (by decide +kernel), List.mem_of_getElem? (i := 529) (by decide +kernel)⟩
theorem lw_p6 : lw_okq (⟨"KeyRowsModel", "numbersOf", "(II)I"⟩, 7) := ⟨⟨by decide +kernel, by decide +kernel⟩, List.mem_of_getElem? (i := 421) (by decide +kernel), List.mem_of_getElem? (i := 532) (by decide +kernel), List.mem_of_getElem? (i := 533) (by decide +kernel)⟩
theorem lw_p7 : lw_okq (⟨"KeyRowsModel", "runsOf", "(II)I"⟩, 7) := ⟨⟨by decide +kernel, by decide +kernel⟩, List.mem_of_getElem? (i := 421) (by decide +kernel), List.mem_of_getElem? (i := 536) (by decide +kernel), List.mem_of_getElem? (i := 537) (by decide +kernel)⟩
theorem lw_p8 : lw_okq (⟨"KeyRowsModel", "begins", "(II)Z"⟩, 7) := ⟨⟨by decide +kernel, by decide +kernel⟩, List.mem_of_getElem? (i := 421) (by decide +kernel), List.mem_of_getElem? (i := 540) (by decide +kernel), List.mem_of_getElem? (i := 541) (by decide +kernel)⟩
theorem lw_p9 : lw_okq (⟨"KeyRowsModel", "code", "(III)V"⟩, 7) := ⟨⟨by decide +kernel, by decide +kernel⟩, List.mem_of_getElem? (i := 421) (by decide +kernel), List.mem_of_getElem? (i := 552) (by decide +kernel), List.mem_of_getElem? (i := 553) (by decide +kernel)⟩
theorem lw_p10 : lw_okq (⟨"KeyRowsModel", "tellParts", "(I)V"⟩, 7) := ⟨⟨by decide +kernel, by decide +kernel⟩, List.mem_of_getElem? (i := 421) (by decide +kernel), List.mem_of_getElem? (i := 556) (by decide +kernel), List.mem_of_getElem? (i := 557) (by decide +kernel)⟩
theorem lw_p11 : lw_okq (⟨"KeyRowsModel", "tellNumber", "(II)V"⟩, 7) := ⟨⟨by decide +kernel, by decide +kernel⟩, List.mem_of_getElem? (i := 421) (by decide +kernel), List.mem_of_getElem? (i := 560) (by decide +kernel), List.mem_of_getElem? (i := 561) (by decide +kernel)⟩
theorem lw_p12 : lw_okq (⟨"KeyRowsModel", "tell", "(Z)V"⟩, 7) := ⟨⟨by decide +kernel, by decide +kernel⟩, List.mem_of_getElem? (i := 421) (by decide +kernel), List.mem_of_getElem? (i := 564) (by decide +kernel), List.mem_of_getElem? (i := 565) (by decide +kernel)⟩
theorem lw_p13 : lw_okq (⟨"KeyRowsModel", "tellGaps", "(I)V"⟩, 7) := ⟨⟨by decide +kernel, by decide +kernel⟩, List.mem_of_getElem? (i := 421) (by decide +kernel), List.mem_of_getElem? (i := 571) (by decide +kernel), List.mem_of_getElem? (i := 572) (by decide +kernel)⟩
theorem lw_p14 : lw_okq (⟨"KeyRowsModel", "tellPieces", "(I)V"⟩, 7) := ⟨⟨by decide +kernel, by decide +kernel⟩, List.mem_of_getElem? (i := 421) (by decide +kernel), List.mem_of_getElem? (i := 575) (by decide +kernel), List.mem_of_getElem? (i := 576) (by decide +kernel)⟩
theorem lw_p15 : lw_okq (⟨"KeyRowsModel", "lengthOf", "(II)I"⟩, 7) := ⟨⟨by decide +kernel, by decide +kernel⟩, List.mem_of_getElem? (i := 421) (by decide +kernel), List.mem_of_getElem? (i := 579) (by decide +kernel), List.mem_of_getElem? (i := 580) (by decide +kernel)⟩
def lw_privs_1 : List (MethodName × Nat) := [(⟨"KeyRowsModel", "is", "(II)Z"⟩, 7), (⟨"KeyRowsModel", "change", "(IIIZ)I"⟩, 7), (⟨"KeyRowsModel", "many", "(III)I"⟩, 7), (⟨"KeyRowsModel", "nth", "(II)I"⟩, 7), (⟨"KeyRowsModel", "formOf", "(II)I"⟩, 7), (⟨"KeyRowsModel", "bitsOf", "(II)I"⟩, 7), (⟨"KeyRowsModel", "numbersOf", "(II)I"⟩, 7), (⟨"KeyRowsModel", "runsOf", "(II)I"⟩, 7), (⟨"KeyRowsModel", "begins", "(II)Z"⟩, 7), (⟨"KeyRowsModel", "code", "(III)V"⟩, 7), (⟨"KeyRowsModel", "tellParts", "(I)V"⟩, 7), (⟨"KeyRowsModel", "tellNumber", "(II)V"⟩, 7), (⟨"KeyRowsModel", "tell", "(Z)V"⟩, 7), (⟨"KeyRowsModel", "tellGaps", "(I)V"⟩, 7), (⟨"KeyRowsModel", "tellPieces", "(I)V"⟩, 7), (⟨"KeyRowsModel", "lengthOf", "(II)I"⟩, 7)]
theorem lw_r1 : ∀ q ∈ lw_privs_1, lw_okq q := List.forall_mem_cons.mpr ⟨lw_p0, List.forall_mem_cons.mpr ⟨lw_p1, List.forall_mem_cons.mpr ⟨lw_p2, List.forall_mem_cons.mpr ⟨lw_p3, List.forall_mem_cons.mpr ⟨lw_p4, List.forall_mem_cons.mpr ⟨lw_p5, List.forall_mem_cons.mpr ⟨lw_p6, List.forall_mem_cons.mpr ⟨lw_p7, List.forall_mem_cons.mpr ⟨lw_p8, List.forall_mem_cons.mpr ⟨lw_p9, List.forall_mem_cons.mpr ⟨lw_p10, List.forall_mem_cons.mpr ⟨lw_p11, List.forall_mem_cons.mpr ⟨lw_p12, List.forall_mem_cons.mpr ⟨lw_p13, List.forall_mem_cons.mpr ⟨lw_p14, List.forall_mem_cons.mpr ⟨lw_p15, fun _ h => absurd h List.not_mem_nil⟩⟩⟩⟩⟩⟩⟩⟩⟩⟩⟩⟩⟩⟩⟩⟩
theorem lw_p16 : lw_okq (⟨"KeyRowsModel", "isCode", "(I)Z"⟩, 7) := ⟨⟨by decide +kernel, by decide +kernel⟩, List.mem_of_getElem? (i := 421) (by decide +kernel), List.mem_of_getElem? (i := 591) (by decide +kernel), List.mem_of_getElem? (i := 592) (by decide +kernel)⟩
theorem lw_p17 : lw_okq (⟨"KeyRowsModel", "takeParts", "()V"⟩, 7) := ⟨⟨by decide +kernel, by decide +kernel⟩, List.mem_of_getElem? (i := 421) (by decide +kernel), List.mem_of_getElem? (i := 596) (by decide +kernel), List.mem_of_getElem? (i := 597) (by decide +kernel)⟩
theorem lw_p18 : lw_okq (⟨"KeyRowsModel", "takeNumber", "(I)I"⟩, 7) := ⟨⟨by decide +kernel, by decide +kernel⟩, List.mem_of_getElem? (i := 421) (by decide +kernel), List.mem_of_getElem? (i := 600) (by decide +kernel), List.mem_of_getElem? (i := 601) (by decide +kernel)⟩
theorem lw_p19 : lw_okq (⟨"KeyRowsModel", "take", "()Z"⟩, 7) := ⟨⟨by decide +kernel, by decide +kernel⟩, List.mem_of_getElem? (i := 421) (by decide +kernel), List.mem_of_getElem? (i := 604) (by decide +kernel), List.mem_of_getElem? (i := 605) (by decide +kernel)⟩
theorem lw_p20 : lw_okq (⟨"KeyRowsModel", "mark", "(I)V"⟩, 7) := ⟨⟨by decide +kernel, by decide +kernel⟩, List.mem_of_getElem? (i := 421) (by decide +kernel), List.mem_of_getElem? (i := 608) (by decide +kernel), List.mem_of_getElem? (i := 609) (by decide +kernel)⟩
theorem lw_p21 : lw_okq (⟨"KeyRowsModel", "takeGaps", "()V"⟩, 7) := ⟨⟨by decide +kernel, by decide +kernel⟩, List.mem_of_getElem? (i := 421) (by decide +kernel), List.mem_of_getElem? (i := 612) (by decide +kernel), List.mem_of_getElem? (i := 613) (by decide +kernel)⟩
theorem lw_p22 : lw_okq (⟨"KeyRowsModel", "takePieces", "()V"⟩, 7) := ⟨⟨by decide +kernel, by decide +kernel⟩, List.mem_of_getElem? (i := 421) (by decide +kernel), List.mem_of_getElem? (i := 616) (by decide +kernel), List.mem_of_getElem? (i := 617) (by decide +kernel)⟩
def lw_privs_2 : List (MethodName × Nat) := [(⟨"KeyRowsModel", "isCode", "(I)Z"⟩, 7), (⟨"KeyRowsModel", "takeParts", "()V"⟩, 7), (⟨"KeyRowsModel", "takeNumber", "(I)I"⟩, 7), (⟨"KeyRowsModel", "take", "()Z"⟩, 7), (⟨"KeyRowsModel", "mark", "(I)V"⟩, 7), (⟨"KeyRowsModel", "takeGaps", "()V"⟩, 7), (⟨"KeyRowsModel", "takePieces", "()V"⟩, 7)]
theorem lw_r2 : ∀ q ∈ lw_privs_2, lw_okq q := List.forall_mem_cons.mpr ⟨lw_p16, List.forall_mem_cons.mpr ⟨lw_p17, List.forall_mem_cons.mpr ⟨lw_p18, List.forall_mem_cons.mpr ⟨lw_p19, List.forall_mem_cons.mpr ⟨lw_p20, List.forall_mem_cons.mpr ⟨lw_p21, List.forall_mem_cons.mpr ⟨lw_p22, fun _ h => absurd h List.not_mem_nil⟩⟩⟩⟩⟩⟩⟩
def lw_privs : List (MethodName × Nat) := lw_privs_1 ++ (lw_privs_2)
def lw_tbl : List Cond := k2_sels lw_privs ++ tables_1
theorem lw_privs_ok : ∀ q ∈ lw_privs, lw_okq q := by
  show ∀ q ∈ lw_privs_1 ++ (lw_privs_2), lw_okq q
  exact List.forall_mem_append.mpr ⟨lw_r1, lw_r2⟩
def RX0 : String := "KeyRows$Code"
def TX0 : u_T := fun k => match k with
  | _ => ("", "", "", false)
def tyX0 : Nat → FieldType := fun k => match k with
  | _ => .int
theorem nmX0 : ∀ a, a < 0 → ∀ b, b < 0 → a ≠ b → (TX0 a).2.1 ≠ (TX0 b).2.1 := by decide +kernel
theorem tyX0_ok : ∀ k, k < 0 → parseFieldDescriptor (TX0 k).2.2.1 = some (tyX0 k) := by decide +kernel
abbrev cX0_init : ByteArray := prog_2_method_1_code
def yX0_init : MethodName := ⟨RX0, "<init>", "()V"⟩
def RX1 : String := "KeyRows$Gaps"
def TX1 : u_T := fun k => match k with
  | _ => ("", "", "", false)
def tyX1 : Nat → FieldType := fun k => match k with
  | _ => .int
theorem nmX1 : ∀ a, a < 0 → ∀ b, b < 0 → a ≠ b → (TX1 a).2.1 ≠ (TX1 b).2.1 := by decide +kernel
theorem tyX1_ok : ∀ k, k < 0 → parseFieldDescriptor (TX1 k).2.2.1 = some (tyX1 k) := by decide +kernel
abbrev cX1_init : ByteArray := prog_3_method_1_code
def yX1_init : MethodName := ⟨RX1, "<init>", "()V"⟩
abbrev cX1_bitsFor : ByteArray := prog_3_method_2_code
def yX1_bitsFor : MethodName := ⟨RX1, "bitsFor", "(LKeyRows$Numbers;)I"⟩
abbrev cX1_tell : ByteArray := prog_3_method_3_code
def yX1_tell : MethodName := ⟨RX1, "tell", "(LKeyRows$Numbers;LKeyRows$Tape;)V"⟩
abbrev cX1_learn : ByteArray := prog_3_method_4_code
def yX1_learn : MethodName := ⟨RX1, "learn", "(LKeyRows$Tape;LKeyRows$Numbers;)Z"⟩
abbrev cX1_takeZeros : ByteArray := prog_3_method_5_code
def yX1_takeZeros : MethodName := ⟨RX1, "takeZeros", "(LKeyRows$Tape;)I"⟩
abbrev cX1_widthOf : ByteArray := prog_3_method_6_code
def yX1_widthOf : MethodName := ⟨RX1, "widthOf", "(I)I"⟩
def RX2 : String := "KeyRows$Numbers"
def TX2 : u_T := fun k => match k with
  | _ => ("KeyRows$Numbers", "words", "[I", true)
def tyX2 : Nat → FieldType := fun k => match k with
  | _ => .array .int
theorem nmX2 : ∀ a, a < 1 → ∀ b, b < 1 → a ≠ b → (TX2 a).2.1 ≠ (TX2 b).2.1 := by decide +kernel
theorem tyX2_ok : ∀ k, k < 1 → parseFieldDescriptor (TX2 k).2.2.1 = some (tyX2 k) := by decide +kernel
abbrev cX2_init : ByteArray := prog_4_method_1_code
def yX2_init : MethodName := ⟨RX2, "<init>", "()V"⟩
abbrev cX2_holds : ByteArray := prog_4_method_2_code
def yX2_holds : MethodName := ⟨RX2, "holds", "(I)Z"⟩
abbrev cX2_amount : ByteArray := prog_4_method_3_code
def yX2_amount : MethodName := ⟨RX2, "amount", "()I"⟩
abbrev cX2_amountIn : ByteArray := prog_4_method_4_code
def yX2_amountIn : MethodName := ⟨RX2, "amountIn", "(II)I"⟩
abbrev cX2_amountBelow : ByteArray := prog_4_method_5_code
def yX2_amountBelow : MethodName := ⟨RX2, "amountBelow", "(I)I"⟩
abbrev cX2_amountShared : ByteArray := prog_4_method_6_code
def yX2_amountShared : MethodName := ⟨RX2, "amountShared", "(LKeyRows$Numbers;)I"⟩
abbrev cX2_nth : ByteArray := prog_4_method_7_code
def yX2_nth : MethodName := ⟨RX2, "nth", "(I)I"⟩
abbrev cX2_leastFrom : ByteArray := prog_4_method_8_code
def yX2_leastFrom : MethodName := ⟨RX2, "leastFrom", "(I)I"⟩
abbrev cX2_add : ByteArray := prog_4_method_9_code
def yX2_add : MethodName := ⟨RX2, "add", "(I)V"⟩
abbrev cX2_include : ByteArray := prog_4_method_10_code
def yX2_include : MethodName := ⟨RX2, "include", "(II)V"⟩
abbrev cX2_exclude : ByteArray := prog_4_method_11_code
def yX2_exclude : MethodName := ⟨RX2, "exclude", "(II)V"⟩
abbrev cX2_become : ByteArray := prog_4_method_12_code
def yX2_become : MethodName := ⟨RX2, "become", "(LKeyRows$Numbers;LKeyRows$Numbers;I)V"⟩
abbrev cX2_copyFrom : ByteArray := prog_4_method_13_code
def yX2_copyFrom : MethodName := ⟨RX2, "copyFrom", "(LKeyRows$Numbers;)V"⟩
abbrev cX2_clear : ByteArray := prog_4_method_14_code
def yX2_clear : MethodName := ⟨RX2, "clear", "()V"⟩
abbrev cX2_pieceAmount : ByteArray := prog_4_method_15_code
def yX2_pieceAmount : MethodName := ⟨RX2, "pieceAmount", "(I)I"⟩
abbrev cX2_pieceRuns : ByteArray := prog_4_method_16_code
def yX2_pieceRuns : MethodName := ⟨RX2, "pieceRuns", "(I)I"⟩
abbrev cX2_pieceForm : ByteArray := prog_4_method_17_code
def yX2_pieceForm : MethodName := ⟨RX2, "pieceForm", "(I)I"⟩
abbrev cX2_pieceBits : ByteArray := prog_4_method_18_code
def yX2_pieceBits : MethodName := ⟨RX2, "pieceBits", "(I)I"⟩
abbrev cX2_joined : ByteArray := prog_4_method_19_code
def yX2_joined : MethodName := ⟨RX2, "joined", "(III)I"⟩
abbrev cX2_maskInWord : ByteArray := prog_4_method_20_code
def yX2_maskInWord : MethodName := ⟨RX2, "maskInWord", "(III)I"⟩
abbrev cX2_nthOne : ByteArray := prog_4_method_21_code
def yX2_nthOne : MethodName := ⟨RX2, "nthOne", "(II)I"⟩
def RX3 : String := "KeyRows$Pieces"
def TX3 : u_T := fun k => match k with
  | _ => ("", "", "", false)
def tyX3 : Nat → FieldType := fun k => match k with
  | _ => .int
theorem nmX3 : ∀ a, a < 0 → ∀ b, b < 0 → a ≠ b → (TX3 a).2.1 ≠ (TX3 b).2.1 := by decide +kernel
theorem tyX3_ok : ∀ k, k < 0 → parseFieldDescriptor (TX3 k).2.2.1 = some (tyX3 k) := by decide +kernel
abbrev cX3_init : ByteArray := prog_5_method_1_code
def yX3_init : MethodName := ⟨RX3, "<init>", "()V"⟩
abbrev cX3_bitsFor : ByteArray := prog_5_method_2_code
def yX3_bitsFor : MethodName := ⟨RX3, "bitsFor", "(LKeyRows$Numbers;)I"⟩
abbrev cX3_tell : ByteArray := prog_5_method_3_code
def yX3_tell : MethodName := ⟨RX3, "tell", "(LKeyRows$Numbers;LKeyRows$Tape;)V"⟩
abbrev cX3_learn : ByteArray := prog_5_method_4_code
def yX3_learn : MethodName := ⟨RX3, "learn", "(LKeyRows$Tape;LKeyRows$Numbers;)Z"⟩
abbrev cX3_tellList : ByteArray := prog_5_method_5_code
def yX3_tellList : MethodName := ⟨RX3, "tellList", "(LKeyRows$Numbers;IILKeyRows$Tape;)V"⟩
abbrev cX3_tellBits : ByteArray := prog_5_method_6_code
def yX3_tellBits : MethodName := ⟨RX3, "tellBits", "(LKeyRows$Numbers;ILKeyRows$Tape;)V"⟩
abbrev cX3_tellRuns : ByteArray := prog_5_method_7_code
def yX3_tellRuns : MethodName := ⟨RX3, "tellRuns", "(LKeyRows$Numbers;IILKeyRows$Tape;)V"⟩
abbrev cX3_learnList : ByteArray := prog_5_method_8_code
def yX3_learnList : MethodName := ⟨RX3, "learnList", "(LKeyRows$Tape;LKeyRows$Numbers;I)Z"⟩
abbrev cX3_learnBits : ByteArray := prog_5_method_9_code
def yX3_learnBits : MethodName := ⟨RX3, "learnBits", "(LKeyRows$Tape;LKeyRows$Numbers;I)V"⟩
abbrev cX3_learnRuns : ByteArray := prog_5_method_10_code
def yX3_learnRuns : MethodName := ⟨RX3, "learnRuns", "(LKeyRows$Tape;LKeyRows$Numbers;I)Z"⟩
def RX4 : String := "KeyRows$Tape"
def TX4 : u_T := fun k => match k with
  | 0 => ("KeyRows$Tape", "words", "[I", true)
  | 1 => ("KeyRows$Tape", "held", "I", false)
  | _ => ("KeyRows$Tape", "place", "I", false)
def tyX4 : Nat → FieldType := fun k => match k with
  | 0 => .array .int
  | 1 => .int
  | _ => .int
theorem nmX4 : ∀ a, a < 3 → ∀ b, b < 3 → a ≠ b → (TX4 a).2.1 ≠ (TX4 b).2.1 := by decide +kernel
theorem tyX4_ok : ∀ k, k < 3 → parseFieldDescriptor (TX4 k).2.2.1 = some (tyX4 k) := by decide +kernel
abbrev cX4_init : ByteArray := prog_6_method_1_code
def yX4_init : MethodName := ⟨RX4, "<init>", "()V"⟩
abbrev cX4_held : ByteArray := prog_6_method_2_code
def yX4_held : MethodName := ⟨RX4, "held", "()I"⟩
abbrev cX4_reaches : ByteArray := prog_6_method_3_code
def yX4_reaches : MethodName := ⟨RX4, "reaches", "(I)Z"⟩
abbrev cX4_bitAt : ByteArray := prog_6_method_4_code
def yX4_bitAt : MethodName := ⟨RX4, "bitAt", "(I)I"⟩
abbrev cX4_turn : ByteArray := prog_6_method_5_code
def yX4_turn : MethodName := ⟨RX4, "turn", "(I)V"⟩
abbrev cX4_keepFirst : ByteArray := prog_6_method_6_code
def yX4_keepFirst : MethodName := ⟨RX4, "keepFirst", "(I)V"⟩
abbrev cX4_append : ByteArray := prog_6_method_7_code
def yX4_append : MethodName := ⟨RX4, "append", "(II)V"⟩
abbrev cX4_valueAt : ByteArray := prog_6_method_8_code
def yX4_valueAt : MethodName := ⟨RX4, "valueAt", "(II)I"⟩
abbrev cX4_rewind : ByteArray := prog_6_method_9_code
def yX4_rewind : MethodName := ⟨RX4, "rewind", "()V"⟩
abbrev cX4_take : ByteArray := prog_6_method_10_code
def yX4_take : MethodName := ⟨RX4, "take", "(I)I"⟩
abbrev cX4_isReadToItsEnd : ByteArray := prog_6_method_11_code
def yX4_isReadToItsEnd : MethodName := ⟨RX4, "isReadToItsEnd", "()Z"⟩
def RX5 : String := "KeyRows$TwoParts"
def TX5 : u_T := fun k => match k with
  | _ => ("", "", "", false)
def tyX5 : Nat → FieldType := fun k => match k with
  | _ => .int
theorem nmX5 : ∀ a, a < 0 → ∀ b, b < 0 → a ≠ b → (TX5 a).2.1 ≠ (TX5 b).2.1 := by decide +kernel
theorem tyX5_ok : ∀ k, k < 0 → parseFieldDescriptor (TX5 k).2.2.1 = some (tyX5 k) := by decide +kernel
abbrev cX5_init : ByteArray := prog_7_method_1_code
def yX5_init : MethodName := ⟨RX5, "<init>", "()V"⟩
abbrev cX5_bitsFor : ByteArray := prog_7_method_2_code
def yX5_bitsFor : MethodName := ⟨RX5, "bitsFor", "(LKeyRows$Numbers;)I"⟩
abbrev cX5_tell : ByteArray := prog_7_method_3_code
def yX5_tell : MethodName := ⟨RX5, "tell", "(LKeyRows$Numbers;LKeyRows$Tape;)V"⟩
abbrev cX5_learn : ByteArray := prog_7_method_4_code
def yX5_learn : MethodName := ⟨RX5, "learn", "(LKeyRows$Tape;LKeyRows$Numbers;)Z"⟩
abbrev cX5_tellLowParts : ByteArray := prog_7_method_5_code
def yX5_tellLowParts : MethodName := ⟨RX5, "tellLowParts", "(LKeyRows$Numbers;ILKeyRows$Tape;)V"⟩
abbrev cX5_tellHighParts : ByteArray := prog_7_method_6_code
def yX5_tellHighParts : MethodName := ⟨RX5, "tellHighParts", "(LKeyRows$Numbers;ILKeyRows$Tape;)V"⟩
abbrev cX5_bitsForAmount : ByteArray := prog_7_method_7_code
def yX5_bitsForAmount : MethodName := ⟨RX5, "bitsForAmount", "(I)I"⟩
abbrev cX5_lowBits : ByteArray := prog_7_method_8_code
def yX5_lowBits : MethodName := ⟨RX5, "lowBits", "(I)I"⟩
abbrev cX5_highParts : ByteArray := prog_7_method_9_code
def yX5_highParts : MethodName := ⟨RX5, "highParts", "(I)I"⟩
def RX6 : String := "KeyRows"
def TX6 : u_T := fun k => match k with
  | 0 => ("KeyRows", "sets", "[LKeyRows$Numbers;", true)
  | 1 => ("KeyRows", "codes", "[LKeyRows$Code;", true)
  | 2 => ("KeyRows", "tape", "LKeyRows$Tape;", true)
  | _ => ("KeyRows", "told", "LKeyRows$Numbers;", true)
def tyX6 : Nat → FieldType := fun k => match k with
  | 0 => .array (.object "KeyRows$Numbers")
  | 1 => .array (.object "KeyRows$Code")
  | 2 => .object "KeyRows$Tape"
  | _ => .object "KeyRows$Numbers"
theorem nmX6 : ∀ a, a < 4 → ∀ b, b < 4 → a ≠ b → (TX6 a).2.1 ≠ (TX6 b).2.1 := by decide +kernel
theorem tyX6_ok : ∀ k, k < 4 → parseFieldDescriptor (TX6 k).2.2.1 = some (tyX6 k) := by decide +kernel
abbrev cX6_init : ByteArray := prog_1_method_1_code
def yX6_init : MethodName := ⟨RX6, "<init>", "()V"⟩
abbrev cX6_put : ByteArray := prog_1_method_2_code
def yX6_put : MethodName := ⟨RX6, "put", "(II)I"⟩
abbrev cX6_fill : ByteArray := prog_1_method_3_code
def yX6_fill : MethodName := ⟨RX6, "fill", "(III)I"⟩
abbrev cX6_drop : ByteArray := prog_1_method_4_code
def yX6_drop : MethodName := ⟨RX6, "drop", "(III)I"⟩
abbrev cX6_join : ByteArray := prog_1_method_5_code
def yX6_join : MethodName := ⟨RX6, "join", "(IIII)I"⟩
abbrev cX6_has : ByteArray := prog_1_method_6_code
def yX6_has : MethodName := ⟨RX6, "has", "(II)I"⟩
abbrev cX6_count : ByteArray := prog_1_method_7_code
def yX6_count : MethodName := ⟨RX6, "count", "(I)I"⟩
abbrev cX6_rank : ByteArray := prog_1_method_8_code
def yX6_rank : MethodName := ⟨RX6, "rank", "(II)I"⟩
abbrev cX6_select : ByteArray := prog_1_method_9_code
def yX6_select : MethodName := ⟨RX6, "select", "(II)I"⟩
abbrev cX6_next : ByteArray := prog_1_method_10_code
def yX6_next : MethodName := ⟨RX6, "next", "(II)I"⟩
abbrev cX6_before : ByteArray := prog_1_method_11_code
def yX6_before : MethodName := ⟨RX6, "before", "(II)I"⟩
abbrev cX6_common : ByteArray := prog_1_method_12_code
def yX6_common : MethodName := ⟨RX6, "common", "(II)I"⟩
abbrev cX6_piece : ByteArray := prog_1_method_13_code
def yX6_piece : MethodName := ⟨RX6, "piece", "(III)I"⟩
abbrev cX6_cost : ByteArray := prog_1_method_14_code
def yX6_cost : MethodName := ⟨RX6, "cost", "(I)I"⟩
abbrev cX6_length : ByteArray := prog_1_method_15_code
def yX6_length : MethodName := ⟨RX6, "length", "(II)I"⟩
abbrev cX6_write : ByteArray := prog_1_method_16_code
def yX6_write : MethodName := ⟨RX6, "write", "(II)I"⟩
abbrev cX6_read : ByteArray := prog_1_method_17_code
def yX6_read : MethodName := ⟨RX6, "read", "(II)I"⟩
abbrev cX6_ask : ByteArray := prog_1_method_18_code
def yX6_ask : MethodName := ⟨RX6, "ask", "(II)I"⟩
abbrev cX6_sign : ByteArray := prog_1_method_19_code
def yX6_sign : MethodName := ⟨RX6, "sign", "(Z)I"⟩
abbrev cX6_cut : ByteArray := prog_1_method_20_code
def yX6_cut : MethodName := ⟨RX6, "cut", "(I)I"⟩
abbrev cX6_flip : ByteArray := prog_1_method_21_code
def yX6_flip : MethodName := ⟨RX6, "flip", "(I)I"⟩
abbrev cX6_bit : ByteArray := prog_1_method_22_code
def yX6_bit : MethodName := ⟨RX6, "bit", "(I)I"⟩
abbrev cX6_size : ByteArray := prog_1_method_23_code
def yX6_size : MethodName := ⟨RX6, "size", "()I"⟩
abbrev cX6_isSet : ByteArray := prog_1_method_24_code
def yX6_isSet : MethodName := ⟨RX6, "isSet", "(I)Z"⟩
abbrev cX6_isNumber : ByteArray := prog_1_method_25_code
def yX6_isNumber : MethodName := ⟨RX6, "isNumber", "(I)Z"⟩
abbrev cX6_isBorder : ByteArray := prog_1_method_26_code
def yX6_isBorder : MethodName := ⟨RX6, "isBorder", "(I)Z"⟩
abbrev cX6_isSpan : ByteArray := prog_1_method_27_code
def yX6_isSpan : MethodName := ⟨RX6, "isSpan", "(II)Z"⟩
abbrev cX6_isKind : ByteArray := prog_1_method_28_code
def yX6_isKind : MethodName := ⟨RX6, "isKind", "(I)Z"⟩
def RX7 : String := "KeyRowsModel"
def TX7 : u_T := fun k => match k with
  | 0 => ("KeyRowsModel", "isIn", "[Z", true)
  | 1 => ("KeyRowsModel", "tape", "[Z", true)
  | 2 => ("KeyRowsModel", "bits", "I", false)
  | 3 => ("KeyRowsModel", "mode", "I", false)
  | 4 => ("KeyRowsModel", "told", "I", false)
  | 5 => ("KeyRowsModel", "agrees", "Z", false)
  | _ => ("KeyRowsModel", "at", "I", false)
def tyX7 : Nat → FieldType := fun k => match k with
  | 0 => .array .boolean
  | 1 => .array .boolean
  | 2 => .int
  | 3 => .int
  | 4 => .int
  | 5 => .boolean
  | _ => .int
theorem nmX7 : ∀ a, a < 7 → ∀ b, b < 7 → a ≠ b → (TX7 a).2.1 ≠ (TX7 b).2.1 := by decide +kernel
theorem tyX7_ok : ∀ k, k < 7 → parseFieldDescriptor (TX7 k).2.2.1 = some (tyX7 k) := by decide +kernel
abbrev cX7_init : ByteArray := prog_9_method_1_code
def yX7_init : MethodName := ⟨RX7, "<init>", "()V"⟩
abbrev cX7_within : ByteArray := prog_9_method_3_code
def yX7_within : MethodName := ⟨RX7, "within", "(III)Z"⟩
abbrev cX7_isSet : ByteArray := prog_9_method_4_code
def yX7_isSet : MethodName := ⟨RX7, "isSet", "(I)Z"⟩
abbrev cX7_isNumber : ByteArray := prog_9_method_5_code
def yX7_isNumber : MethodName := ⟨RX7, "isNumber", "(I)Z"⟩
abbrev cX7_is : ByteArray := prog_9_method_6_code
def yX7_is : MethodName := ⟨RX7, "is", "(II)Z"⟩
abbrev cX7_put : ByteArray := prog_9_method_7_code
def yX7_put : MethodName := ⟨RX7, "put", "(II)I"⟩
abbrev cX7_change : ByteArray := prog_9_method_8_code
def yX7_change : MethodName := ⟨RX7, "change", "(IIIZ)I"⟩
abbrev cX7_fill : ByteArray := prog_9_method_9_code
def yX7_fill : MethodName := ⟨RX7, "fill", "(III)I"⟩
abbrev cX7_drop : ByteArray := prog_9_method_10_code
def yX7_drop : MethodName := ⟨RX7, "drop", "(III)I"⟩
abbrev cX7_join : ByteArray := prog_9_method_11_code
def yX7_join : MethodName := ⟨RX7, "join", "(IIII)I"⟩
abbrev cX7_many : ByteArray := prog_9_method_12_code
def yX7_many : MethodName := ⟨RX7, "many", "(III)I"⟩
abbrev cX7_has : ByteArray := prog_9_method_13_code
def yX7_has : MethodName := ⟨RX7, "has", "(II)I"⟩
abbrev cX7_count : ByteArray := prog_9_method_14_code
def yX7_count : MethodName := ⟨RX7, "count", "(I)I"⟩
abbrev cX7_rank : ByteArray := prog_9_method_15_code
def yX7_rank : MethodName := ⟨RX7, "rank", "(II)I"⟩
abbrev cX7_nth : ByteArray := prog_9_method_16_code
def yX7_nth : MethodName := ⟨RX7, "nth", "(II)I"⟩
abbrev cX7_select : ByteArray := prog_9_method_17_code
def yX7_select : MethodName := ⟨RX7, "select", "(II)I"⟩
abbrev cX7_next : ByteArray := prog_9_method_18_code
def yX7_next : MethodName := ⟨RX7, "next", "(II)I"⟩
abbrev cX7_before : ByteArray := prog_9_method_19_code
def yX7_before : MethodName := ⟨RX7, "before", "(II)I"⟩
abbrev cX7_common : ByteArray := prog_9_method_20_code
def yX7_common : MethodName := ⟨RX7, "common", "(II)I"⟩
abbrev cX7_numbersOf : ByteArray := prog_9_method_21_code
def yX7_numbersOf : MethodName := ⟨RX7, "numbersOf", "(II)I"⟩
abbrev cX7_begins : ByteArray := prog_9_method_22_code
def yX7_begins : MethodName := ⟨RX7, "begins", "(II)Z"⟩
abbrev cX7_runsOf : ByteArray := prog_9_method_23_code
def yX7_runsOf : MethodName := ⟨RX7, "runsOf", "(II)I"⟩
abbrev cX7_bitsOf : ByteArray := prog_9_method_24_code
def yX7_bitsOf : MethodName := ⟨RX7, "bitsOf", "(II)I"⟩
abbrev cX7_formOf : ByteArray := prog_9_method_25_code
def yX7_formOf : MethodName := ⟨RX7, "formOf", "(II)I"⟩
abbrev cX7_piece : ByteArray := prog_9_method_26_code
def yX7_piece : MethodName := ⟨RX7, "piece", "(III)I"⟩
abbrev cX7_cost : ByteArray := prog_9_method_27_code
def yX7_cost : MethodName := ⟨RX7, "cost", "(I)I"⟩
abbrev cX7_tell : ByteArray := prog_9_method_28_code
def yX7_tell : MethodName := ⟨RX7, "tell", "(Z)V"⟩
abbrev cX7_tellNumber : ByteArray := prog_9_method_29_code
def yX7_tellNumber : MethodName := ⟨RX7, "tellNumber", "(II)V"⟩
abbrev cX7_code : ByteArray := prog_9_method_30_code
def yX7_code : MethodName := ⟨RX7, "code", "(III)V"⟩
abbrev cX7_lowOf : ByteArray := prog_9_method_31_code
def yX7_lowOf : MethodName := ⟨RX7, "lowOf", "(I)I"⟩
abbrev cX7_tellParts : ByteArray := prog_9_method_32_code
def yX7_tellParts : MethodName := ⟨RX7, "tellParts", "(I)V"⟩
abbrev cX7_tellGaps : ByteArray := prog_9_method_33_code
def yX7_tellGaps : MethodName := ⟨RX7, "tellGaps", "(I)V"⟩
abbrev cX7_tellPieces : ByteArray := prog_9_method_34_code
def yX7_tellPieces : MethodName := ⟨RX7, "tellPieces", "(I)V"⟩
abbrev cX7_lengthOf : ByteArray := prog_9_method_35_code
def yX7_lengthOf : MethodName := ⟨RX7, "lengthOf", "(II)I"⟩
abbrev cX7_length : ByteArray := prog_9_method_36_code
def yX7_length : MethodName := ⟨RX7, "length", "(II)I"⟩
abbrev cX7_write : ByteArray := prog_9_method_37_code
def yX7_write : MethodName := ⟨RX7, "write", "(II)I"⟩
abbrev cX7_take : ByteArray := prog_9_method_38_code
def yX7_take : MethodName := ⟨RX7, "take", "()Z"⟩
abbrev cX7_takeNumber : ByteArray := prog_9_method_39_code
def yX7_takeNumber : MethodName := ⟨RX7, "takeNumber", "(I)I"⟩
abbrev cX7_mark : ByteArray := prog_9_method_40_code
def yX7_mark : MethodName := ⟨RX7, "mark", "(I)V"⟩
abbrev cX7_isCode : ByteArray := prog_9_method_41_code
def yX7_isCode : MethodName := ⟨RX7, "isCode", "(I)Z"⟩
abbrev cX7_takeParts : ByteArray := prog_9_method_42_code
def yX7_takeParts : MethodName := ⟨RX7, "takeParts", "()V"⟩
abbrev cX7_takeGaps : ByteArray := prog_9_method_43_code
def yX7_takeGaps : MethodName := ⟨RX7, "takeGaps", "()V"⟩
abbrev cX7_takePieces : ByteArray := prog_9_method_44_code
def yX7_takePieces : MethodName := ⟨RX7, "takePieces", "()V"⟩
abbrev cX7_read : ByteArray := prog_9_method_45_code
def yX7_read : MethodName := ⟨RX7, "read", "(II)I"⟩
abbrev cX7_ask : ByteArray := prog_9_method_46_code
def yX7_ask : MethodName := ⟨RX7, "ask", "(II)I"⟩
abbrev cX7_sign : ByteArray := prog_9_method_47_code
def yX7_sign : MethodName := ⟨RX7, "sign", "(Z)I"⟩
abbrev cX7_cut : ByteArray := prog_9_method_48_code
def yX7_cut : MethodName := ⟨RX7, "cut", "(I)I"⟩
abbrev cX7_flip : ByteArray := prog_9_method_49_code
def yX7_flip : MethodName := ⟨RX7, "flip", "(I)I"⟩
abbrev cX7_bit : ByteArray := prog_9_method_50_code
def yX7_bit : MethodName := ⟨RX7, "bit", "(I)I"⟩
abbrev cX7_size : ByteArray := prog_9_method_51_code
def yX7_size : MethodName := ⟨RX7, "size", "()I"⟩
def RJ6 : String := "java/lang/Integer"
def TJ6 : u_T := fun k => match k with
  | _ => ("", "", "", false)
def tyJ6 : Nat → FieldType := fun k => match k with
  | _ => .int
theorem nmJ6 : ∀ a, a < 0 → ∀ b, b < 0 → a ≠ b → (TJ6 a).2.1 ≠ (TJ6 b).2.1 := by decide +kernel
theorem tyJ6_ok : ∀ k, k < 0 → parseFieldDescriptor (TJ6 k).2.2.1 = some (tyJ6 k) := by decide +kernel
abbrev cJ6_bitCount_0f7a4 : ByteArray := prog_10_method_49_code
def yJ6_bitCount_0f7a4 : MethodName := ⟨RJ6, "bitCount", "(I)I"⟩
def RL : String := "KeyRowsLaw"
abbrev cL_law : ByteArray := code
def yL_law : MethodName := ⟨RL, "law", "([I)Z"⟩
abbrev vwCl : List vw_C := [(RX1, TX1, 0), (RX2, TX2, 1), (RX3, TX3, 0), (RX4, TX4, 3), (RX5, TX5, 0), (RX6, TX6, 4), (RX7, TX7, 7)]
