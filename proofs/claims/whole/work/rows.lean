section
-- ===== PART A: goes FIRST, ahead of the names: the tables' words, and 'selects' of the private methods out of them =====
/-- a private method of a class that the tables say can be made, by its rows of tables_1 -/
def lw_okq (q : MethodName × Nat) : Prop := (q.1.cls ≠ "java/lang/invoke/MethodHandle" ∧ q.1.cls ≠ "java/lang/invoke/VarHandle") ∧ Cond.instantiable q.1.cls q.2 ∈ tables_1 ∧ Cond.privateMethod q.1 ∈ tables_1 ∧ Cond.instanceMethod q.1 ∈ tables_1
theorem lw_p0 : lw_okq (⟨"KeyRowsModel", "is", "(II)Z"⟩, 7) := ⟨⟨by decide +kernel, by decide +kernel⟩, List.mem_of_getElem? (i := 421) (by decide +kernel), List.mem_of_getElem? (i := 464) (by decide +kernel), List.mem_of_getElem? (i := 465) (by decide +kernel)⟩
theorem lw_p1 : lw_okq (⟨"KeyRowsModel", "change", "(IIIZ)I"⟩, 7) := ⟨⟨by decide +kernel, by decide +kernel⟩, List.mem_of_getElem? (i := 421) (by decide +kernel), List.mem_of_getElem? (i := 472) (by decide +kernel), List.mem_of_getElem? (i := 473) (by decide +kernel)⟩
theorem lw_p2 : lw_okq (⟨"KeyRowsModel", "many", "(III)I"⟩, 7) := ⟨⟨by decide +kernel, by decide +kernel⟩, List.mem_of_getElem? (i := 421) (by decide +kernel), List.mem_of_getElem? (i := 484) (by decide +kernel), List.mem_of_getElem? (i := 485) (by decide +kernel)⟩
theorem lw_p3 : lw_okq (⟨"KeyRowsModel", "nth", "(II)I"⟩, 7) := ⟨⟨by decide +kernel, by decide +kernel⟩, List.mem_of_getElem? (i := 421) (by decide +kernel), List.mem_of_getElem? (i := 504) (by decide +kernel), List.mem_of_getElem? (i := 505) (by decide +kernel)⟩
theorem lw_p4 : lw_okq (⟨"KeyRowsModel", "formOf", "(II)I"⟩, 7) := ⟨⟨by decide +kernel, by decide +kernel⟩, List.mem_of_getElem? (i := 421) (by decide +kernel), List.mem_of_getElem? (i := 524) (by decide +kernel), List.mem_of_getElem? (i := 525) (by decide +kernel)⟩
theorem lw_p5 : lw_okq (⟨"KeyRowsModel", "bitsOf", "(II)I"⟩, 7) := ⟨⟨by decide +kernel, by decide +kernel⟩, List.mem_of_getElem? (i := 421) (by decide +kernel), List.mem_of_getElem? (i := 528) (by decide +kernel), List.mem_of_getElem? (i := 529) (by decide +kernel)⟩
theorem lw_p6 : lw_okq (⟨"KeyRowsModel", "numbersOf", "(II)I"⟩, 7) := ⟨⟨by decide +kernel, by decide +kernel⟩, List.mem_of_getElem? (i := 421) (by decide +kernel), List.mem_of_getElem? (i := 532) (by decide +kernel), List.mem_of_getElem? (i := 533) (by decide +kernel)⟩
theorem lw_p7 : lw_okq (⟨"KeyRowsModel", "runsOf", "(II)I"⟩, 7) := ⟨⟨by decide +kernel, by decide +kernel⟩, List.mem_of_getElem? (i := 421) (by decide +kernel), List.mem_of_getElem? (i := 536) (by decide +kernel), List.mem_of_getElem? (i := 537) (by decide +kernel)⟩
theorem lw_p8 : lw_okq (⟨"KeyRowsModel", "begins", "(II)Z"⟩, 7) := ⟨⟨by decide +kernel, by decide +kernel⟩, List.mem_of_getElem? (i := 421) (by decide +kernel), List.mem_of_getElem? (i := 540) (by decide +kernel), List.mem_of_getElem? (i := 541) (by decide +kernel)⟩
theorem lw_p9 : lw_okq (⟨"KeyRowsModel", "code", "(III)V"⟩, 7) := ⟨⟨by decide +kernel, by decide +kernel⟩, List.mem_of_getElem? (i := 421) (by decide +kernel), List.mem_of_getElem? (i := 552) (by decide +kernel), List.mem_of_getElem? (i := 553) (by decide +kernel)⟩
theorem lw_p10 : lw_okq (⟨"KeyRowsModel", "tellParts", "(I)V"⟩, 7) := ⟨⟨by decide +kernel, by decide +kernel⟩, List.mem_of_getElem? (i := 421) (by decide +kernel), List.mem_of_getElem? (i := 556) (by decide +kernel), List.mem_of_getElem? (i := 557) (by decide +kernel)⟩
theorem lw_p11 : lw_okq (⟨"KeyRowsModel", "tellNumber", "(II)V"⟩, 7) := ⟨⟨by decide +kernel, by decide +kernel⟩, List.mem_of_getElem? (i := 421) (by decide +kernel), List.mem_of_getElem? (i := 560) (by decide +kernel), List.mem_of_getElem? (i := 561) (by decide +kernel)⟩
theorem lw_p12 : lw_okq (⟨"KeyRowsModel", "tell", "(Z)V"⟩, 7) := ⟨⟨by decide +kernel, by decide +kernel⟩, List.mem_of_getElem? (i := 421) (by decide +kernel), List.mem_of_getElem? (i := 564) (by decide +kernel), List.mem_of_getElem? (i := 565) (by decide +kernel)⟩
theorem lw_p13 : lw_okq (⟨"KeyRowsModel", "tellGaps", "(I)V"⟩, 7) := ⟨⟨by decide +kernel, by decide +kernel⟩, List.mem_of_getElem? (i := 421) (by decide +kernel), List.mem_of_getElem? (i := 571) (by decide +kernel), List.mem_of_getElem? (i := 572) (by decide +kernel)⟩
theorem lw_p14 : lw_okq (⟨"KeyRowsModel", "tellPieces", "(I)V"⟩, 7) := ⟨⟨by decide +kernel, by decide +kernel⟩, List.mem_of_getElem? (i := 421) (by decide +kernel), List.mem_of_getElem? (i := 575) (by decide +kernel), List.mem_of_getElem? (i := 576) (by decide +kernel)⟩
theorem lw_p15 : lw_okq (⟨"KeyRowsModel", "lengthOf", "(II)I"⟩, 7) := ⟨⟨by decide +kernel, by decide +kernel⟩, List.mem_of_getElem? (i := 421) (by decide +kernel), List.mem_of_getElem? (i := 579) (by decide +kernel), List.mem_of_getElem? (i := 580) (by decide +kernel)⟩
def lw_privs_1 : List (MethodName × Nat) := [(⟨"KeyRowsModel", "is", "(II)Z"⟩, 7), (⟨"KeyRowsModel", "change", "(IIIZ)I"⟩, 7), (⟨"KeyRowsModel", "many", "(III)I"⟩, 7), (⟨"KeyRowsModel", "nth", "(II)I"⟩, 7), (⟨"KeyRowsModel", "formOf", "(II)I"⟩, 7), (⟨"KeyRowsModel", "bitsOf", "(II)I"⟩, 7), (⟨"KeyRowsModel", "numbersOf", "(II)I"⟩, 7), (⟨"KeyRowsModel", "runsOf", "(II)I"⟩, 7), (⟨"KeyRowsModel", "begins", "(II)Z"⟩, 7), (⟨"KeyRowsModel", "code", "(III)V"⟩, 7), (⟨"KeyRowsModel", "tellParts", "(I)V"⟩, 7), (⟨"KeyRowsModel", "tellNumber", "(II)V"⟩, 7), (⟨"KeyRowsModel", "tell", "(Z)V"⟩, 7), (⟨"KeyRowsModel", "tellGaps", "(I)V"⟩, 7), (⟨"KeyRowsModel", "tellPieces", "(I)V"⟩, 7), (⟨"KeyRowsModel", "lengthOf", "(II)I"⟩, 7)]
theorem lw_r1 : ∀ q ∈ lw_privs_1, lw_okq q := List.forall_mem_cons.mpr ⟨lw_p0, List.forall_mem_cons.mpr ⟨lw_p1, List.forall_mem_cons.mpr ⟨lw_p2, List.forall_mem_cons.mpr ⟨lw_p3, List.forall_mem_cons.mpr ⟨lw_p4, List.forall_mem_cons.mpr ⟨lw_p5, List.forall_mem_cons.mpr ⟨lw_p6, List.forall_mem_cons.mpr ⟨lw_p7, List.forall_mem_cons.mpr ⟨lw_p8, List.forall_mem_cons.mpr ⟨lw_p9, List.forall_mem_cons.mpr ⟨lw_p10, List.forall_mem_cons.mpr ⟨lw_p11, List.forall_mem_cons.mpr ⟨lw_p12, List.forall_mem_cons.mpr ⟨lw_p13, List.forall_mem_cons.mpr ⟨lw_p14, List.forall_mem_cons.mpr ⟨lw_p15, fun _ h => absurd h List.not_mem_nil⟩⟩⟩⟩⟩⟩⟩⟩⟩⟩⟩⟩⟩⟩⟩⟩
theorem lw_p16 : lw_okq (⟨"KeyRowsModel", "isCode", "(I)Z"⟩, 7) := ⟨⟨by decide +kernel, by decide +kernel⟩, List.mem_of_getElem? (i := 421) (by decide +kernel), List.mem_of_getElem? (i := 591) (by decide +kernel), List.mem_of_getElem? (i := 592) (by decide +kernel)⟩
theorem lw_p17 : lw_okq (⟨"KeyRowsModel", "takeParts", "()V"⟩, 7) := ⟨⟨by decide +kernel, by decide +kernel⟩, List.mem_of_getElem? (i := 421) (by decide +kernel), List.mem_of_getElem? (i := 596) (by decide +kernel), List.mem_of_getElem? (i := 597) (by decide +kernel)⟩
theorem lw_p18 : lw_okq (⟨"KeyRowsModel", "takeNumber", "(I)I"⟩, 7) := ⟨⟨by decide +kernel, by decide +kernel⟩, List.mem_of_getElem? (i := 421) (by decide +kernel), List.mem_of_getElem? (i := 600) (by decide +kernel), List.mem_of_getElem? (i := 601) (by decide +kernel)⟩
theorem lw_p19 : lw_okq (⟨"KeyRowsModel", "take", "()Z"⟩, 7) := ⟨⟨by decide +kernel, by decide +kernel⟩, List.mem_of_getElem? (i := 421) (by decide +kernel), List.mem_of_getElem? (i := 604) (by decide +kernel), List.mem_of_getElem? (i := 605) (by decide +kernel)⟩
theorem lw_p20 : lw_okq (⟨"KeyRowsModel", "mark", "(I)V"⟩, 7) := ⟨⟨by decide +kernel, by decide +kernel⟩, List.mem_of_getElem? (i := 421) (by decide +kernel), List.mem_of_getElem? (i := 608) (by decide +kernel), List.mem_of_getElem? (i := 609) (by decide +kernel)⟩
theorem lw_p21 : lw_okq (⟨"KeyRowsModel", "takeGaps", "()V"⟩, 7) := ⟨⟨by decide +kernel, by decide +kernel⟩, List.mem_of_getElem? (i := 421) (by decide +kernel), List.mem_of_getElem? (i := 612) (by decide +kernel), List.mem_of_getElem? (i := 613) (by decide +kernel)⟩
theorem lw_p22 : lw_okq (⟨"KeyRowsModel", "takePieces", "()V"⟩, 7) := ⟨⟨by decide +kernel, by decide +kernel⟩, List.mem_of_getElem? (i := 421) (by decide +kernel), List.mem_of_getElem? (i := 616) (by decide +kernel), List.mem_of_getElem? (i := 617) (by decide +kernel)⟩
def lw_privs_2 : List (MethodName × Nat) := [(⟨"KeyRowsModel", "isCode", "(I)Z"⟩, 7), (⟨"KeyRowsModel", "takeParts", "()V"⟩, 7), (⟨"KeyRowsModel", "takeNumber", "(I)I"⟩, 7), (⟨"KeyRowsModel", "take", "()Z"⟩, 7), (⟨"KeyRowsModel", "mark", "(I)V"⟩, 7), (⟨"KeyRowsModel", "takeGaps", "()V"⟩, 7), (⟨"KeyRowsModel", "takePieces", "()V"⟩, 7)]
theorem lw_r2 : ∀ q ∈ lw_privs_2, lw_okq q := List.forall_mem_cons.mpr ⟨lw_p16, List.forall_mem_cons.mpr ⟨lw_p17, List.forall_mem_cons.mpr ⟨lw_p18, List.forall_mem_cons.mpr ⟨lw_p19, List.forall_mem_cons.mpr ⟨lw_p20, List.forall_mem_cons.mpr ⟨lw_p21, List.forall_mem_cons.mpr ⟨lw_p22, fun _ h => absurd h List.not_mem_nil⟩⟩⟩⟩⟩⟩⟩
def lw_privs : List (MethodName × Nat) := lw_privs_1 ++ (lw_privs_2)
def lw_tbl : List Cond := k2_sels lw_privs ++ tables_1
theorem lw_privs_ok : ∀ q ∈ lw_privs, lw_okq q := by
  show ∀ q ∈ lw_privs_1 ++ (lw_privs_2), lw_okq q
  exact List.forall_mem_append.mpr ⟨lw_r1, lw_r2⟩
def RX0 : String := "KeyRows$Code"
def TX0 : u_T := fun k => match k with
  | _ => ("", "", "", false)
def tyX0 : Nat → FieldType := fun k => match k with
  | _ => .int
theorem nmX0 : ∀ a, a < 0 → ∀ b, b < 0 → a ≠ b → (TX0 a).2.1 ≠ (TX0 b).2.1 := by decide +kernel
theorem tyX0_ok : ∀ k, k < 0 → parseFieldDescriptor (TX0 k).2.2.1 = some (tyX0 k) := by decide +kernel
abbrev cX0_init : ByteArray := prog_2_method_1_code
def yX0_init : MethodName := ⟨RX0, "<init>", "()V"⟩
def RX1 : String := "KeyRows$Gaps"
def TX1 : u_T := fun k => match k with
  | _ => ("", "", "", false)
def tyX1 : Nat → FieldType := fun k => match k with
  | _ => .int
theorem nmX1 : ∀ a, a < 0 → ∀ b, b < 0 → a ≠ b → (TX1 a).2.1 ≠ (TX1 b).2.1 := by decide +kernel
theorem tyX1_ok : ∀ k, k < 0 → parseFieldDescriptor (TX1 k).2.2.1 = some (tyX1 k) := by decide +kernel
abbrev cX1_init : ByteArray := prog_3_method_1_code
def yX1_init : MethodName := ⟨RX1, "<init>", "()V"⟩
abbrev cX1_bitsFor : ByteArray := prog_3_method_2_code
def yX1_bitsFor : MethodName := ⟨RX1, "bitsFor", "(LKeyRows$Numbers;)I"⟩
abbrev cX1_tell : ByteArray := prog_3_method_3_code
def yX1_tell : MethodName := ⟨RX1, "tell", "(LKeyRows$Numbers;LKeyRows$Tape;)V"⟩
abbrev cX1_learn : ByteArray := prog_3_method_4_code
def yX1_learn : MethodName := ⟨RX1, "learn", "(LKeyRows$Tape;LKeyRows$Numbers;)Z"⟩
abbrev cX1_takeZeros : ByteArray := prog_3_method_5_code
def yX1_takeZeros : MethodName := ⟨RX1, "takeZeros", "(LKeyRows$Tape;)I"⟩
abbrev cX1_widthOf : ByteArray := prog_3_method_6_code
def yX1_widthOf : MethodName := ⟨RX1, "widthOf", "(I)I"⟩
def RX2 : String := "KeyRows$Numbers"
def TX2 : u_T := fun k => match k with
  | _ => ("KeyRows$Numbers", "words", "[I", true)
def tyX2 : Nat → FieldType := fun k => match k with
  | _ => .array .int
theorem nmX2 : ∀ a, a < 1 → ∀ b, b < 1 → a ≠ b → (TX2 a).2.1 ≠ (TX2 b).2.1 := by decide +kernel
theorem tyX2_ok : ∀ k, k < 1 → parseFieldDescriptor (TX2 k).2.2.1 = some (tyX2 k) := by decide +kernel
abbrev cX2_init : ByteArray := prog_4_method_1_code
def yX2_init : MethodName := ⟨RX2, "<init>", "()V"⟩
abbrev cX2_holds : ByteArray := prog_4_method_2_code
def yX2_holds : MethodName := ⟨RX2, "holds", "(I)Z"⟩
abbrev cX2_amount : ByteArray := prog_4_method_3_code
def yX2_amount : MethodName := ⟨RX2, "amount", "()I"⟩
abbrev cX2_amountIn : ByteArray := prog_4_method_4_code
def yX2_amountIn : MethodName := ⟨RX2, "amountIn", "(II)I"⟩
abbrev cX2_amountBelow : ByteArray := prog_4_method_5_code
def yX2_amountBelow : MethodName := ⟨RX2, "amountBelow", "(I)I"⟩
abbrev cX2_amountShared : ByteArray := prog_4_method_6_code
def yX2_amountShared : MethodName := ⟨RX2, "amountShared", "(LKeyRows$Numbers;)I"⟩
abbrev cX2_nth : ByteArray := prog_4_method_7_code
def yX2_nth : MethodName := ⟨RX2, "nth", "(I)I"⟩
abbrev cX2_leastFrom : ByteArray := prog_4_method_8_code
def yX2_leastFrom : MethodName := ⟨RX2, "leastFrom", "(I)I"⟩
abbrev cX2_add : ByteArray := prog_4_method_9_code
def yX2_add : MethodName := ⟨RX2, "add", "(I)V"⟩
abbrev cX2_include : ByteArray := prog_4_method_10_code
def yX2_include : MethodName := ⟨RX2, "include", "(II)V"⟩
abbrev cX2_exclude : ByteArray := prog_4_method_11_code
def yX2_exclude : MethodName := ⟨RX2, "exclude", "(II)V"⟩
abbrev cX2_become : ByteArray := prog_4_method_12_code
def yX2_become : MethodName := ⟨RX2, "become", "(LKeyRows$Numbers;LKeyRows$Numbers;I)V"⟩
abbrev cX2_copyFrom : ByteArray := prog_4_method_13_code
def yX2_copyFrom : MethodName := ⟨RX2, "copyFrom", "(LKeyRows$Numbers;)V"⟩
abbrev cX2_clear : ByteArray := prog_4_method_14_code
def yX2_clear : MethodName := ⟨RX2, "clear", "()V"⟩
abbrev cX2_pieceAmount : ByteArray := prog_4_method_15_code
def yX2_pieceAmount : MethodName := ⟨RX2, "pieceAmount", "(I)I"⟩
abbrev cX2_pieceRuns : ByteArray := prog_4_method_16_code
def yX2_pieceRuns : MethodName := ⟨RX2, "pieceRuns", "(I)I"⟩
abbrev cX2_pieceForm : ByteArray := prog_4_method_17_code
def yX2_pieceForm : MethodName := ⟨RX2, "pieceForm", "(I)I"⟩
abbrev cX2_pieceBits : ByteArray := prog_4_method_18_code
def yX2_pieceBits : MethodName := ⟨RX2, "pieceBits", "(I)I"⟩
abbrev cX2_joined : ByteArray := prog_4_method_19_code
def yX2_joined : MethodName := ⟨RX2, "joined", "(III)I"⟩
abbrev cX2_maskInWord : ByteArray := prog_4_method_20_code
def yX2_maskInWord : MethodName := ⟨RX2, "maskInWord", "(III)I"⟩
abbrev cX2_nthOne : ByteArray := prog_4_method_21_code
def yX2_nthOne : MethodName := ⟨RX2, "nthOne", "(II)I"⟩
def RX3 : String := "KeyRows$Pieces"
def TX3 : u_T := fun k => match k with
  | _ => ("", "", "", false)
def tyX3 : Nat → FieldType := fun k => match k with
  | _ => .int
theorem nmX3 : ∀ a, a < 0 → ∀ b, b < 0 → a ≠ b → (TX3 a).2.1 ≠ (TX3 b).2.1 := by decide +kernel
theorem tyX3_ok : ∀ k, k < 0 → parseFieldDescriptor (TX3 k).2.2.1 = some (tyX3 k) := by decide +kernel
abbrev cX3_init : ByteArray := prog_5_method_1_code
def yX3_init : MethodName := ⟨RX3, "<init>", "()V"⟩
abbrev cX3_bitsFor : ByteArray := prog_5_method_2_code
def yX3_bitsFor : MethodName := ⟨RX3, "bitsFor", "(LKeyRows$Numbers;)I"⟩
abbrev cX3_tell : ByteArray := prog_5_method_3_code
def yX3_tell : MethodName := ⟨RX3, "tell", "(LKeyRows$Numbers;LKeyRows$Tape;)V"⟩
abbrev cX3_learn : ByteArray := prog_5_method_4_code
def yX3_learn : MethodName := ⟨RX3, "learn", "(LKeyRows$Tape;LKeyRows$Numbers;)Z"⟩
abbrev cX3_tellList : ByteArray := prog_5_method_5_code
def yX3_tellList : MethodName := ⟨RX3, "tellList", "(LKeyRows$Numbers;IILKeyRows$Tape;)V"⟩
abbrev cX3_tellBits : ByteArray := prog_5_method_6_code
def yX3_tellBits : MethodName := ⟨RX3, "tellBits", "(LKeyRows$Numbers;ILKeyRows$Tape;)V"⟩
abbrev cX3_tellRuns : ByteArray := prog_5_method_7_code
def yX3_tellRuns : MethodName := ⟨RX3, "tellRuns", "(LKeyRows$Numbers;IILKeyRows$Tape;)V"⟩
abbrev cX3_learnList : ByteArray := prog_5_method_8_code
def yX3_learnList : MethodName := ⟨RX3, "learnList", "(LKeyRows$Tape;LKeyRows$Numbers;I)Z"⟩
abbrev cX3_learnBits : ByteArray := prog_5_method_9_code
def yX3_learnBits : MethodName := ⟨RX3, "learnBits", "(LKeyRows$Tape;LKeyRows$Numbers;I)V"⟩
abbrev cX3_learnRuns : ByteArray := prog_5_method_10_code
def yX3_learnRuns : MethodName := ⟨RX3, "learnRuns", "(LKeyRows$Tape;LKeyRows$Numbers;I)Z"⟩
def RX4 : String := "KeyRows$Tape"
def TX4 : u_T := fun k => match k with
  | 0 => ("KeyRows$Tape", "words", "[I", true)
  | 1 => ("KeyRows$Tape", "held", "I", false)
  | _ => ("KeyRows$Tape", "place", "I", false)
def tyX4 : Nat → FieldType := fun k => match k with
  | 0 => .array .int
  | 1 => .int
  | _ => .int
theorem nmX4 : ∀ a, a < 3 → ∀ b, b < 3 → a ≠ b → (TX4 a).2.1 ≠ (TX4 b).2.1 := by decide +kernel
theorem tyX4_ok : ∀ k, k < 3 → parseFieldDescriptor (TX4 k).2.2.1 = some (tyX4 k) := by decide +kernel
abbrev cX4_init : ByteArray := prog_6_method_1_code
def yX4_init : MethodName := ⟨RX4, "<init>", "()V"⟩
abbrev cX4_held : ByteArray := prog_6_method_2_code
def yX4_held : MethodName := ⟨RX4, "held", "()I"⟩
abbrev cX4_reaches : ByteArray := prog_6_method_3_code
def yX4_reaches : MethodName := ⟨RX4, "reaches", "(I)Z"⟩
abbrev cX4_bitAt : ByteArray := prog_6_method_4_code
def yX4_bitAt : MethodName := ⟨RX4, "bitAt", "(I)I"⟩
abbrev cX4_turn : ByteArray := prog_6_method_5_code
def yX4_turn : MethodName := ⟨RX4, "turn", "(I)V"⟩
abbrev cX4_keepFirst : ByteArray := prog_6_method_6_code
def yX4_keepFirst : MethodName := ⟨RX4, "keepFirst", "(I)V"⟩
abbrev cX4_append : ByteArray := prog_6_method_7_code
def yX4_append : MethodName := ⟨RX4, "append", "(II)V"⟩
abbrev cX4_valueAt : ByteArray := prog_6_method_8_code
def yX4_valueAt : MethodName := ⟨RX4, "valueAt", "(II)I"⟩
abbrev cX4_rewind : ByteArray := prog_6_method_9_code
def yX4_rewind : MethodName := ⟨RX4, "rewind", "()V"⟩
abbrev cX4_take : ByteArray := prog_6_method_10_code
def yX4_take : MethodName := ⟨RX4, "take", "(I)I"⟩
abbrev cX4_isReadToItsEnd : ByteArray := prog_6_method_11_code
def yX4_isReadToItsEnd : MethodName := ⟨RX4, "isReadToItsEnd", "()Z"⟩
def RX5 : String := "KeyRows$TwoParts"
def TX5 : u_T := fun k => match k with
  | _ => ("", "", "", false)
def tyX5 : Nat → FieldType := fun k => match k with
  | _ => .int
theorem nmX5 : ∀ a, a < 0 → ∀ b, b < 0 → a ≠ b → (TX5 a).2.1 ≠ (TX5 b).2.1 := by decide +kernel
theorem tyX5_ok : ∀ k, k < 0 → parseFieldDescriptor (TX5 k).2.2.1 = some (tyX5 k) := by decide +kernel
abbrev cX5_init : ByteArray := prog_7_method_1_code
def yX5_init : MethodName := ⟨RX5, "<init>", "()V"⟩
abbrev cX5_bitsFor : ByteArray := prog_7_method_2_code
def yX5_bitsFor : MethodName := ⟨RX5, "bitsFor", "(LKeyRows$Numbers;)I"⟩
abbrev cX5_tell : ByteArray := prog_7_method_3_code
def yX5_tell : MethodName := ⟨RX5, "tell", "(LKeyRows$Numbers;LKeyRows$Tape;)V"⟩
abbrev cX5_learn : ByteArray := prog_7_method_4_code
def yX5_learn : MethodName := ⟨RX5, "learn", "(LKeyRows$Tape;LKeyRows$Numbers;)Z"⟩
abbrev cX5_tellLowParts : ByteArray := prog_7_method_5_code
def yX5_tellLowParts : MethodName := ⟨RX5, "tellLowParts", "(LKeyRows$Numbers;ILKeyRows$Tape;)V"⟩
abbrev cX5_tellHighParts : ByteArray := prog_7_method_6_code
def yX5_tellHighParts : MethodName := ⟨RX5, "tellHighParts", "(LKeyRows$Numbers;ILKeyRows$Tape;)V"⟩
abbrev cX5_bitsForAmount : ByteArray := prog_7_method_7_code
def yX5_bitsForAmount : MethodName := ⟨RX5, "bitsForAmount", "(I)I"⟩
abbrev cX5_lowBits : ByteArray := prog_7_method_8_code
def yX5_lowBits : MethodName := ⟨RX5, "lowBits", "(I)I"⟩
abbrev cX5_highParts : ByteArray := prog_7_method_9_code
def yX5_highParts : MethodName := ⟨RX5, "highParts", "(I)I"⟩
def RX6 : String := "KeyRows"
def TX6 : u_T := fun k => match k with
  | 0 => ("KeyRows", "sets", "[LKeyRows$Numbers;", true)
  | 1 => ("KeyRows", "codes", "[LKeyRows$Code;", true)
  | 2 => ("KeyRows", "tape", "LKeyRows$Tape;", true)
  | _ => ("KeyRows", "told", "LKeyRows$Numbers;", true)
def tyX6 : Nat → FieldType := fun k => match k with
  | 0 => .array (.object "KeyRows$Numbers")
  | 1 => .array (.object "KeyRows$Code")
  | 2 => .object "KeyRows$Tape"
  | _ => .object "KeyRows$Numbers"
theorem nmX6 : ∀ a, a < 4 → ∀ b, b < 4 → a ≠ b → (TX6 a).2.1 ≠ (TX6 b).2.1 := by decide +kernel
theorem tyX6_ok : ∀ k, k < 4 → parseFieldDescriptor (TX6 k).2.2.1 = some (tyX6 k) := by decide +kernel
abbrev cX6_init : ByteArray := prog_1_method_1_code
def yX6_init : MethodName := ⟨RX6, "<init>", "()V"⟩
abbrev cX6_put : ByteArray := prog_1_method_2_code
def yX6_put : MethodName := ⟨RX6, "put", "(II)I"⟩
abbrev cX6_fill : ByteArray := prog_1_method_3_code
def yX6_fill : MethodName := ⟨RX6, "fill", "(III)I"⟩
abbrev cX6_drop : ByteArray := prog_1_method_4_code
def yX6_drop : MethodName := ⟨RX6, "drop", "(III)I"⟩
abbrev cX6_join : ByteArray := prog_1_method_5_code
def yX6_join : MethodName := ⟨RX6, "join", "(IIII)I"⟩
abbrev cX6_has : ByteArray := prog_1_method_6_code
def yX6_has : MethodName := ⟨RX6, "has", "(II)I"⟩
abbrev cX6_count : ByteArray := prog_1_method_7_code
def yX6_count : MethodName := ⟨RX6, "count", "(I)I"⟩
abbrev cX6_rank : ByteArray := prog_1_method_8_code
def yX6_rank : MethodName := ⟨RX6, "rank", "(II)I"⟩
abbrev cX6_select : ByteArray := prog_1_method_9_code
def yX6_select : MethodName := ⟨RX6, "select", "(II)I"⟩
abbrev cX6_next : ByteArray := prog_1_method_10_code
def yX6_next : MethodName := ⟨RX6, "next", "(II)I"⟩
abbrev cX6_before : ByteArray := prog_1_method_11_code
def yX6_before : MethodName := ⟨RX6, "before", "(II)I"⟩
abbrev cX6_common : ByteArray := prog_1_method_12_code
def yX6_common : MethodName := ⟨RX6, "common", "(II)I"⟩
abbrev cX6_piece : ByteArray := prog_1_method_13_code
def yX6_piece : MethodName := ⟨RX6, "piece", "(III)I"⟩
abbrev cX6_cost : ByteArray := prog_1_method_14_code
def yX6_cost : MethodName := ⟨RX6, "cost", "(I)I"⟩
abbrev cX6_length : ByteArray := prog_1_method_15_code
def yX6_length : MethodName := ⟨RX6, "length", "(II)I"⟩
abbrev cX6_write : ByteArray := prog_1_method_16_code
def yX6_write : MethodName := ⟨RX6, "write", "(II)I"⟩
abbrev cX6_read : ByteArray := prog_1_method_17_code
def yX6_read : MethodName := ⟨RX6, "read", "(II)I"⟩
abbrev cX6_ask : ByteArray := prog_1_method_18_code
def yX6_ask : MethodName := ⟨RX6, "ask", "(II)I"⟩
abbrev cX6_sign : ByteArray := prog_1_method_19_code
def yX6_sign : MethodName := ⟨RX6, "sign", "(Z)I"⟩
abbrev cX6_cut : ByteArray := prog_1_method_20_code
def yX6_cut : MethodName := ⟨RX6, "cut", "(I)I"⟩
abbrev cX6_flip : ByteArray := prog_1_method_21_code
def yX6_flip : MethodName := ⟨RX6, "flip", "(I)I"⟩
abbrev cX6_bit : ByteArray := prog_1_method_22_code
def yX6_bit : MethodName := ⟨RX6, "bit", "(I)I"⟩
abbrev cX6_size : ByteArray := prog_1_method_23_code
def yX6_size : MethodName := ⟨RX6, "size", "()I"⟩
abbrev cX6_isSet : ByteArray := prog_1_method_24_code
def yX6_isSet : MethodName := ⟨RX6, "isSet", "(I)Z"⟩
abbrev cX6_isNumber : ByteArray := prog_1_method_25_code
def yX6_isNumber : MethodName := ⟨RX6, "isNumber", "(I)Z"⟩
abbrev cX6_isBorder : ByteArray := prog_1_method_26_code
def yX6_isBorder : MethodName := ⟨RX6, "isBorder", "(I)Z"⟩
abbrev cX6_isSpan : ByteArray := prog_1_method_27_code
def yX6_isSpan : MethodName := ⟨RX6, "isSpan", "(II)Z"⟩
abbrev cX6_isKind : ByteArray := prog_1_method_28_code
def yX6_isKind : MethodName := ⟨RX6, "isKind", "(I)Z"⟩
def RX7 : String := "KeyRowsModel"
def TX7 : u_T := fun k => match k with
  | 0 => ("KeyRowsModel", "isIn", "[Z", true)
  | 1 => ("KeyRowsModel", "tape", "[Z", true)
  | 2 => ("KeyRowsModel", "bits", "I", false)
  | 3 => ("KeyRowsModel", "mode", "I", false)
  | 4 => ("KeyRowsModel", "told", "I", false)
  | 5 => ("KeyRowsModel", "agrees", "Z", false)
  | _ => ("KeyRowsModel", "at", "I", false)
def tyX7 : Nat → FieldType := fun k => match k with
  | 0 => .array .boolean
  | 1 => .array .boolean
  | 2 => .int
  | 3 => .int
  | 4 => .int
  | 5 => .boolean
  | _ => .int
theorem nmX7 : ∀ a, a < 7 → ∀ b, b < 7 → a ≠ b → (TX7 a).2.1 ≠ (TX7 b).2.1 := by decide +kernel
theorem tyX7_ok : ∀ k, k < 7 → parseFieldDescriptor (TX7 k).2.2.1 = some (tyX7 k) := by decide +kernel
abbrev cX7_init : ByteArray := prog_9_method_1_code
def yX7_init : MethodName := ⟨RX7, "<init>", "()V"⟩
abbrev cX7_within : ByteArray := prog_9_method_3_code
def yX7_within : MethodName := ⟨RX7, "within", "(III)Z"⟩
abbrev cX7_isSet : ByteArray := prog_9_method_4_code
def yX7_isSet : MethodName := ⟨RX7, "isSet", "(I)Z"⟩
abbrev cX7_isNumber : ByteArray := prog_9_method_5_code
def yX7_isNumber : MethodName := ⟨RX7, "isNumber", "(I)Z"⟩
abbrev cX7_is : ByteArray := prog_9_method_6_code
def yX7_is : MethodName := ⟨RX7, "is", "(II)Z"⟩
abbrev cX7_put : ByteArray := prog_9_method_7_code
def yX7_put : MethodName := ⟨RX7, "put", "(II)I"⟩
abbrev cX7_change : ByteArray := prog_9_method_8_code
def yX7_change : MethodName := ⟨RX7, "change", "(IIIZ)I"⟩
abbrev cX7_fill : ByteArray := prog_9_method_9_code
def yX7_fill : MethodName := ⟨RX7, "fill", "(III)I"⟩
abbrev cX7_drop : ByteArray := prog_9_method_10_code
def yX7_drop : MethodName := ⟨RX7, "drop", "(III)I"⟩
abbrev cX7_join : ByteArray := prog_9_method_11_code
def yX7_join : MethodName := ⟨RX7, "join", "(IIII)I"⟩
abbrev cX7_many : ByteArray := prog_9_method_12_code
def yX7_many : MethodName := ⟨RX7, "many", "(III)I"⟩
abbrev cX7_has : ByteArray := prog_9_method_13_code
def yX7_has : MethodName := ⟨RX7, "has", "(II)I"⟩
abbrev cX7_count : ByteArray := prog_9_method_14_code
def yX7_count : MethodName := ⟨RX7, "count", "(I)I"⟩
abbrev cX7_rank : ByteArray := prog_9_method_15_code
def yX7_rank : MethodName := ⟨RX7, "rank", "(II)I"⟩
abbrev cX7_nth : ByteArray := prog_9_method_16_code
def yX7_nth : MethodName := ⟨RX7, "nth", "(II)I"⟩
abbrev cX7_select : ByteArray := prog_9_method_17_code
def yX7_select : MethodName := ⟨RX7, "select", "(II)I"⟩
abbrev cX7_next : ByteArray := prog_9_method_18_code
def yX7_next : MethodName := ⟨RX7, "next", "(II)I"⟩
abbrev cX7_before : ByteArray := prog_9_method_19_code
def yX7_before : MethodName := ⟨RX7, "before", "(II)I"⟩
abbrev cX7_common : ByteArray := prog_9_method_20_code
def yX7_common : MethodName := ⟨RX7, "common", "(II)I"⟩
abbrev cX7_numbersOf : ByteArray := prog_9_method_21_code
def yX7_numbersOf : MethodName := ⟨RX7, "numbersOf", "(II)I"⟩
abbrev cX7_begins : ByteArray := prog_9_method_22_code
def yX7_begins : MethodName := ⟨RX7, "begins", "(II)Z"⟩
abbrev cX7_runsOf : ByteArray := prog_9_method_23_code
def yX7_runsOf : MethodName := ⟨RX7, "runsOf", "(II)I"⟩
abbrev cX7_bitsOf : ByteArray := prog_9_method_24_code
def yX7_bitsOf : MethodName := ⟨RX7, "bitsOf", "(II)I"⟩
abbrev cX7_formOf : ByteArray := prog_9_method_25_code
def yX7_formOf : MethodName := ⟨RX7, "formOf", "(II)I"⟩
abbrev cX7_piece : ByteArray := prog_9_method_26_code
def yX7_piece : MethodName := ⟨RX7, "piece", "(III)I"⟩
abbrev cX7_cost : ByteArray := prog_9_method_27_code
def yX7_cost : MethodName := ⟨RX7, "cost", "(I)I"⟩
abbrev cX7_tell : ByteArray := prog_9_method_28_code
def yX7_tell : MethodName := ⟨RX7, "tell", "(Z)V"⟩
abbrev cX7_tellNumber : ByteArray := prog_9_method_29_code
def yX7_tellNumber : MethodName := ⟨RX7, "tellNumber", "(II)V"⟩
abbrev cX7_code : ByteArray := prog_9_method_30_code
def yX7_code : MethodName := ⟨RX7, "code", "(III)V"⟩
abbrev cX7_lowOf : ByteArray := prog_9_method_31_code
def yX7_lowOf : MethodName := ⟨RX7, "lowOf", "(I)I"⟩
abbrev cX7_tellParts : ByteArray := prog_9_method_32_code
def yX7_tellParts : MethodName := ⟨RX7, "tellParts", "(I)V"⟩
abbrev cX7_tellGaps : ByteArray := prog_9_method_33_code
def yX7_tellGaps : MethodName := ⟨RX7, "tellGaps", "(I)V"⟩
abbrev cX7_tellPieces : ByteArray := prog_9_method_34_code
def yX7_tellPieces : MethodName := ⟨RX7, "tellPieces", "(I)V"⟩
abbrev cX7_lengthOf : ByteArray := prog_9_method_35_code
def yX7_lengthOf : MethodName := ⟨RX7, "lengthOf", "(II)I"⟩
abbrev cX7_length : ByteArray := prog_9_method_36_code
def yX7_length : MethodName := ⟨RX7, "length", "(II)I"⟩
abbrev cX7_write : ByteArray := prog_9_method_37_code
def yX7_write : MethodName := ⟨RX7, "write", "(II)I"⟩
abbrev cX7_take : ByteArray := prog_9_method_38_code
def yX7_take : MethodName := ⟨RX7, "take", "()Z"⟩
abbrev cX7_takeNumber : ByteArray := prog_9_method_39_code
def yX7_takeNumber : MethodName := ⟨RX7, "takeNumber", "(I)I"⟩
abbrev cX7_mark : ByteArray := prog_9_method_40_code
def yX7_mark : MethodName := ⟨RX7, "mark", "(I)V"⟩
abbrev cX7_isCode : ByteArray := prog_9_method_41_code
def yX7_isCode : MethodName := ⟨RX7, "isCode", "(I)Z"⟩
abbrev cX7_takeParts : ByteArray := prog_9_method_42_code
def yX7_takeParts : MethodName := ⟨RX7, "takeParts", "()V"⟩
abbrev cX7_takeGaps : ByteArray := prog_9_method_43_code
def yX7_takeGaps : MethodName := ⟨RX7, "takeGaps", "()V"⟩
abbrev cX7_takePieces : ByteArray := prog_9_method_44_code
def yX7_takePieces : MethodName := ⟨RX7, "takePieces", "()V"⟩
abbrev cX7_read : ByteArray := prog_9_method_45_code
def yX7_read : MethodName := ⟨RX7, "read", "(II)I"⟩
abbrev cX7_ask : ByteArray := prog_9_method_46_code
def yX7_ask : MethodName := ⟨RX7, "ask", "(II)I"⟩
abbrev cX7_sign : ByteArray := prog_9_method_47_code
def yX7_sign : MethodName := ⟨RX7, "sign", "(Z)I"⟩
abbrev cX7_cut : ByteArray := prog_9_method_48_code
def yX7_cut : MethodName := ⟨RX7, "cut", "(I)I"⟩
abbrev cX7_flip : ByteArray := prog_9_method_49_code
def yX7_flip : MethodName := ⟨RX7, "flip", "(I)I"⟩
abbrev cX7_bit : ByteArray := prog_9_method_50_code
def yX7_bit : MethodName := ⟨RX7, "bit", "(I)I"⟩
abbrev cX7_size : ByteArray := prog_9_method_51_code
def yX7_size : MethodName := ⟨RX7, "size", "()I"⟩
def RJ6 : String := "java/lang/Integer"
def TJ6 : u_T := fun k => match k with
  | _ => ("", "", "", false)
def tyJ6 : Nat → FieldType := fun k => match k with
  | _ => .int
theorem nmJ6 : ∀ a, a < 0 → ∀ b, b < 0 → a ≠ b → (TJ6 a).2.1 ≠ (TJ6 b).2.1 := by decide +kernel
theorem tyJ6_ok : ∀ k, k < 0 → parseFieldDescriptor (TJ6 k).2.2.1 = some (tyJ6 k) := by decide +kernel
abbrev cJ6_bitCount_0f7a4 : ByteArray := prog_10_method_49_code
def yJ6_bitCount_0f7a4 : MethodName := ⟨RJ6, "bitCount", "(I)I"⟩
def RL : String := "KeyRowsLaw"
abbrev cL_law : ByteArray := code
def yL_law : MethodName := ⟨RL, "law", "([I)Z"⟩
abbrev vwCl : List vw_C := [(RX1, TX1, 0), (RX2, TX2, 1), (RX3, TX3, 0), (RX4, TX4, 3), (RX5, TX5, 0), (RX6, TX6, 4), (RX7, TX7, 7)]
end
section
theorem hG_ex : ∃ L : List Cond, L = lw_tbl.filter goodWord := ⟨_, rfl⟩
noncomputable def hG : List Cond := Classical.choose hG_ex
theorem hG_eq : hG = lw_tbl.filter goodWord := Classical.choose_spec hG_ex
theorem hG_mem {w : Cond} (i : Nat) (h : lw_tbl[i]? = some w) (g : goodWord w = true) : w ∈ hG := by
  rw [hG_eq]
  exact List.mem_filter.mpr ⟨List.mem_of_getElem? h, g⟩
theorem hG_in {w : Cond} (h : w ∈ hG) : w ∈ lw_tbl ∧ goodWord w = true := by
  rw [hG_eq] at h
  exact List.mem_filter.mp h
theorem gV_X7_is : Cond.selects RX7 yX7_is yX7_is ∈ hG := hG_mem 0 (by decide +kernel) (by decide +kernel)
theorem gV_X7_change : Cond.selects RX7 yX7_change yX7_change ∈ hG := hG_mem 1 (by decide +kernel) (by decide +kernel)
theorem gV_X7_many : Cond.selects RX7 yX7_many yX7_many ∈ hG := hG_mem 2 (by decide +kernel) (by decide +kernel)
theorem gV_X7_nth : Cond.selects RX7 yX7_nth yX7_nth ∈ hG := hG_mem 3 (by decide +kernel) (by decide +kernel)
theorem gV_X7_formOf : Cond.selects RX7 yX7_formOf yX7_formOf ∈ hG := hG_mem 4 (by decide +kernel) (by decide +kernel)
theorem gV_X7_bitsOf : Cond.selects RX7 yX7_bitsOf yX7_bitsOf ∈ hG := hG_mem 5 (by decide +kernel) (by decide +kernel)
theorem gV_X7_numbersOf : Cond.selects RX7 yX7_numbersOf yX7_numbersOf ∈ hG := hG_mem 6 (by decide +kernel) (by decide +kernel)
theorem gV_X7_runsOf : Cond.selects RX7 yX7_runsOf yX7_runsOf ∈ hG := hG_mem 7 (by decide +kernel) (by decide +kernel)
theorem gV_X7_begins : Cond.selects RX7 yX7_begins yX7_begins ∈ hG := hG_mem 8 (by decide +kernel) (by decide +kernel)
theorem gV_X7_code : Cond.selects RX7 yX7_code yX7_code ∈ hG := hG_mem 9 (by decide +kernel) (by decide +kernel)
theorem gV_X7_tellParts : Cond.selects RX7 yX7_tellParts yX7_tellParts ∈ hG := hG_mem 10 (by decide +kernel) (by decide +kernel)
theorem gV_X7_tellNumber : Cond.selects RX7 yX7_tellNumber yX7_tellNumber ∈ hG := hG_mem 11 (by decide +kernel) (by decide +kernel)
theorem gV_X7_tell : Cond.selects RX7 yX7_tell yX7_tell ∈ hG := hG_mem 12 (by decide +kernel) (by decide +kernel)
theorem gV_X7_tellGaps : Cond.selects RX7 yX7_tellGaps yX7_tellGaps ∈ hG := hG_mem 13 (by decide +kernel) (by decide +kernel)
theorem gV_X7_tellPieces : Cond.selects RX7 yX7_tellPieces yX7_tellPieces ∈ hG := hG_mem 14 (by decide +kernel) (by decide +kernel)
theorem gV_X7_lengthOf : Cond.selects RX7 yX7_lengthOf yX7_lengthOf ∈ hG := hG_mem 15 (by decide +kernel) (by decide +kernel)
theorem gV_X7_isCode : Cond.selects RX7 yX7_isCode yX7_isCode ∈ hG := hG_mem 16 (by decide +kernel) (by decide +kernel)
theorem gV_X7_takeParts : Cond.selects RX7 yX7_takeParts yX7_takeParts ∈ hG := hG_mem 17 (by decide +kernel) (by decide +kernel)
theorem gV_X7_takeNumber : Cond.selects RX7 yX7_takeNumber yX7_takeNumber ∈ hG := hG_mem 18 (by decide +kernel) (by decide +kernel)
theorem gV_X7_take : Cond.selects RX7 yX7_take yX7_take ∈ hG := hG_mem 19 (by decide +kernel) (by decide +kernel)
theorem gV_X7_mark : Cond.selects RX7 yX7_mark yX7_mark ∈ hG := hG_mem 20 (by decide +kernel) (by decide +kernel)
theorem gV_X7_takeGaps : Cond.selects RX7 yX7_takeGaps yX7_takeGaps ∈ hG := hG_mem 21 (by decide +kernel) (by decide +kernel)
theorem gV_X7_takePieces : Cond.selects RX7 yX7_takePieces yX7_takePieces ∈ hG := hG_mem 22 (by decide +kernel) (by decide +kernel)
theorem gZ_L : Cond.initialized RL ∈ hG := hG_mem 23 (by decide +kernel) (by decide +kernel)
theorem gZ_X6 : Cond.initialized RX6 ∈ hG := hG_mem 24 (by decide +kernel) (by decide +kernel)
theorem gZ_X4 : Cond.initialized RX4 ∈ hG := hG_mem 25 (by decide +kernel) (by decide +kernel)
theorem gZ_X2 : Cond.initialized RX2 ∈ hG := hG_mem 26 (by decide +kernel) (by decide +kernel)
theorem gZ_X0 : Cond.initialized RX0 ∈ hG := hG_mem 27 (by decide +kernel) (by decide +kernel)
theorem gZ_X5 : Cond.initialized RX5 ∈ hG := hG_mem 28 (by decide +kernel) (by decide +kernel)
theorem gZ_X1 : Cond.initialized RX1 ∈ hG := hG_mem 29 (by decide +kernel) (by decide +kernel)
theorem gZ_X3 : Cond.initialized RX3 ∈ hG := hG_mem 30 (by decide +kernel) (by decide +kernel)
theorem gZ_X7 : Cond.initialized RX7 ∈ hG := hG_mem 31 (by decide +kernel) (by decide +kernel)
theorem gZ_J6 : Cond.initialized RJ6 ∈ hG := hG_mem 32 (by decide +kernel) (by decide +kernel)
theorem gO_L_7 : Cond.classLink RL 7 RX6 ∈ hG := hG_mem 33 (by decide +kernel) (by decide +kernel)
theorem gT_X6 : Cond.instantiable RX6 4 ∈ hG := hG_mem 34 (by decide +kernel) (by decide +kernel)
theorem gL_L_9 : Cond.methodLink RL 9 yX6_init ∈ hG := hG_mem 35 (by decide +kernel) (by decide +kernel)
theorem gI_X6_init : Cond.instanceMethod yX6_init ∈ hG := hG_mem 36 (by decide +kernel) (by decide +kernel)
theorem gC_X6_init : Cond.code yX6_init cX6_init 2 none ∈ hG := hG_mem 37 (by decide +kernel) (by decide +kernel)
theorem gL_X6_3 : Cond.methodLink RX6 3 objectInit ∈ hG := hG_mem 38 (by decide +kernel) (by decide +kernel)
theorem gI_objectInit : Cond.instanceMethod objectInit ∈ hG := hG_mem 39 (by decide +kernel) (by decide +kernel)
theorem gC_objectInit : Cond.code objectInit ⟨#[0xb1]⟩ 1 none ∈ hG := hG_mem 40 (by decide +kernel) (by decide +kernel)
theorem gO_X6_9 : Cond.classLink RX6 9 RX2 ∈ hG := hG_mem 41 (by decide +kernel) (by decide +kernel)
theorem gO_X6_15 : Cond.classLink RX6 15 RX0 ∈ hG := hG_mem 43 (by decide +kernel) (by decide +kernel)
theorem gO_X6_21 : Cond.classLink RX6 21 RX4 ∈ hG := hG_mem 45 (by decide +kernel) (by decide +kernel)
theorem gT_X4 : Cond.instantiable RX4 3 ∈ hG := hG_mem 46 (by decide +kernel) (by decide +kernel)
theorem gI_X4_init : Cond.instanceMethod yX4_init ∈ hG := hG_mem 48 (by decide +kernel) (by decide +kernel)
theorem gC_X4_init : Cond.code yX4_init cX4_init 1 none ∈ hG := hG_mem 49 (by decide +kernel) (by decide +kernel)
theorem gL_X4_3 : Cond.methodLink RX4 3 objectInit ∈ hG := hG_mem 50 (by decide +kernel) (by decide +kernel)
theorem gF_X4_9 : Cond.fieldLink RX4 9 "KeyRows$Tape" "words" "[I" ∈ hG := hG_mem 51 (by decide +kernel) (by decide +kernel)
theorem gF_X4_15 : Cond.fieldLink RX4 15 "KeyRows$Tape" "held" "I" ∈ hG := hG_mem 52 (by decide +kernel) (by decide +kernel)
theorem gF_X4_19 : Cond.fieldLink RX4 19 "KeyRows$Tape" "place" "I" ∈ hG := hG_mem 53 (by decide +kernel) (by decide +kernel)
theorem gA_int : Cond.arrayClass .int ∈ hG := hG_mem 61 (by decide +kernel) (by decide +kernel)
theorem gT_X2 : Cond.instantiable RX2 1 ∈ hG := hG_mem 62 (by decide +kernel) (by decide +kernel)
theorem gI_X2_init : Cond.instanceMethod yX2_init ∈ hG := hG_mem 64 (by decide +kernel) (by decide +kernel)
theorem gC_X2_init : Cond.code yX2_init cX2_init 1 none ∈ hG := hG_mem 65 (by decide +kernel) (by decide +kernel)
theorem gL_X2_3 : Cond.methodLink RX2 3 objectInit ∈ hG := hG_mem 66 (by decide +kernel) (by decide +kernel)
theorem gF_X2_9 : Cond.fieldLink RX2 9 "KeyRows$Numbers" "words" "[I" ∈ hG := hG_mem 67 (by decide +kernel) (by decide +kernel)
theorem gO_X6_33 : Cond.classLink RX6 33 RX5 ∈ hG := hG_mem 71 (by decide +kernel) (by decide +kernel)
theorem gT_X5 : Cond.instantiable RX5 0 ∈ hG := hG_mem 72 (by decide +kernel) (by decide +kernel)
theorem gI_X5_init : Cond.instanceMethod yX5_init ∈ hG := hG_mem 74 (by decide +kernel) (by decide +kernel)
theorem gC_X5_init : Cond.code yX5_init cX5_init 1 none ∈ hG := hG_mem 75 (by decide +kernel) (by decide +kernel)
theorem gI_X0_init : Cond.instanceMethod yX0_init ∈ hG := hG_mem 77 (by decide +kernel) (by decide +kernel)
theorem gC_X0_init : Cond.code yX0_init cX0_init 1 none ∈ hG := hG_mem 78 (by decide +kernel) (by decide +kernel)
theorem gL_X0_1 : Cond.methodLink RX0 1 objectInit ∈ hG := hG_mem 79 (by decide +kernel) (by decide +kernel)
theorem gO_X6_36 : Cond.classLink RX6 36 RX1 ∈ hG := hG_mem 81 (by decide +kernel) (by decide +kernel)
theorem gT_X1 : Cond.instantiable RX1 0 ∈ hG := hG_mem 82 (by decide +kernel) (by decide +kernel)
theorem gI_X1_init : Cond.instanceMethod yX1_init ∈ hG := hG_mem 84 (by decide +kernel) (by decide +kernel)
theorem gC_X1_init : Cond.code yX1_init cX1_init 1 none ∈ hG := hG_mem 85 (by decide +kernel) (by decide +kernel)
theorem gO_X6_39 : Cond.classLink RX6 39 RX3 ∈ hG := hG_mem 88 (by decide +kernel) (by decide +kernel)
theorem gT_X3 : Cond.instantiable RX3 0 ∈ hG := hG_mem 89 (by decide +kernel) (by decide +kernel)
theorem gI_X3_init : Cond.instanceMethod yX3_init ∈ hG := hG_mem 91 (by decide +kernel) (by decide +kernel)
theorem gC_X3_init : Cond.code yX3_init cX3_init 1 none ∈ hG := hG_mem 92 (by decide +kernel) (by decide +kernel)
theorem gF_X6_11 : Cond.fieldLink RX6 11 "KeyRows" "sets" "[LKeyRows$Numbers;" ∈ hG := hG_mem 95 (by decide +kernel) (by decide +kernel)
theorem gF_X6_17 : Cond.fieldLink RX6 17 "KeyRows" "codes" "[LKeyRows$Code;" ∈ hG := hG_mem 96 (by decide +kernel) (by decide +kernel)
theorem gF_X6_24 : Cond.fieldLink RX6 24 "KeyRows" "tape" "LKeyRows$Tape;" ∈ hG := hG_mem 97 (by decide +kernel) (by decide +kernel)
theorem gF_X6_29 : Cond.fieldLink RX6 29 "KeyRows" "told" "LKeyRows$Numbers;" ∈ hG := hG_mem 98 (by decide +kernel) (by decide +kernel)
theorem gL_L_13 : Cond.methodLink RL 13 yX6_put ∈ hG := hG_mem 108 (by decide +kernel) (by decide +kernel)
theorem gI_X6_put : Cond.instanceMethod yX6_put ∈ hG := hG_mem 109 (by decide +kernel) (by decide +kernel)
theorem gV_X6_put : Cond.selects RX6 yX6_put yX6_put ∈ hG := hG_mem 110 (by decide +kernel) (by decide +kernel)
theorem gC_X6_put : Cond.code yX6_put cX6_put 3 (some .int) ∈ hG := hG_mem 111 (by decide +kernel) (by decide +kernel)
theorem gL_X6_42 : Cond.methodLink RX6 42 yX6_isSet ∈ hG := hG_mem 112 (by decide +kernel) (by decide +kernel)
theorem gS_X6_isSet : Cond.static yX6_isSet ∈ hG := hG_mem 113 (by decide +kernel) (by decide +kernel)
theorem gC_X6_isSet : Cond.code yX6_isSet cX6_isSet 1 (some .boolean) ∈ hG := hG_mem 114 (by decide +kernel) (by decide +kernel)
theorem gL_X6_46 : Cond.methodLink RX6 46 yX6_isNumber ∈ hG := hG_mem 115 (by decide +kernel) (by decide +kernel)
theorem gS_X6_isNumber : Cond.static yX6_isNumber ∈ hG := hG_mem 116 (by decide +kernel) (by decide +kernel)
theorem gC_X6_isNumber : Cond.code yX6_isNumber cX6_isNumber 1 (some .boolean) ∈ hG := hG_mem 117 (by decide +kernel) (by decide +kernel)
theorem gL_X6_49 : Cond.methodLink RX6 49 yX2_holds ∈ hG := hG_mem 118 (by decide +kernel) (by decide +kernel)
theorem gI_X2_holds : Cond.instanceMethod yX2_holds ∈ hG := hG_mem 119 (by decide +kernel) (by decide +kernel)
theorem gV_X2_holds : Cond.selects RX2 yX2_holds yX2_holds ∈ hG := hG_mem 120 (by decide +kernel) (by decide +kernel)
theorem gC_X2_holds : Cond.code yX2_holds cX2_holds 2 (some .boolean) ∈ hG := hG_mem 121 (by decide +kernel) (by decide +kernel)
theorem gL_X6_52 : Cond.methodLink RX6 52 yX2_add ∈ hG := hG_mem 123 (by decide +kernel) (by decide +kernel)
theorem gI_X2_add : Cond.instanceMethod yX2_add ∈ hG := hG_mem 124 (by decide +kernel) (by decide +kernel)
theorem gV_X2_add : Cond.selects RX2 yX2_add yX2_add ∈ hG := hG_mem 125 (by decide +kernel) (by decide +kernel)
theorem gC_X2_add : Cond.code yX2_add cX2_add 2 none ∈ hG := hG_mem 126 (by decide +kernel) (by decide +kernel)
theorem gL_L_18 : Cond.methodLink RL 18 yX6_fill ∈ hG := hG_mem 127 (by decide +kernel) (by decide +kernel)
theorem gI_X6_fill : Cond.instanceMethod yX6_fill ∈ hG := hG_mem 128 (by decide +kernel) (by decide +kernel)
theorem gV_X6_fill : Cond.selects RX6 yX6_fill yX6_fill ∈ hG := hG_mem 129 (by decide +kernel) (by decide +kernel)
theorem gC_X6_fill : Cond.code yX6_fill cX6_fill 5 (some .int) ∈ hG := hG_mem 130 (by decide +kernel) (by decide +kernel)
theorem gL_X6_56 : Cond.methodLink RX6 56 yX6_isSpan ∈ hG := hG_mem 131 (by decide +kernel) (by decide +kernel)
theorem gS_X6_isSpan : Cond.static yX6_isSpan ∈ hG := hG_mem 132 (by decide +kernel) (by decide +kernel)
theorem gC_X6_isSpan : Cond.code yX6_isSpan cX6_isSpan 2 (some .boolean) ∈ hG := hG_mem 133 (by decide +kernel) (by decide +kernel)
theorem gL_X6_60 : Cond.methodLink RX6 60 yX2_amountIn ∈ hG := hG_mem 134 (by decide +kernel) (by decide +kernel)
theorem gI_X2_amountIn : Cond.instanceMethod yX2_amountIn ∈ hG := hG_mem 135 (by decide +kernel) (by decide +kernel)
theorem gV_X2_amountIn : Cond.selects RX2 yX2_amountIn yX2_amountIn ∈ hG := hG_mem 136 (by decide +kernel) (by decide +kernel)
theorem gC_X2_amountIn : Cond.code yX2_amountIn cX2_amountIn 3 (some .int) ∈ hG := hG_mem 137 (by decide +kernel) (by decide +kernel)
theorem gL_X2_19 : Cond.methodLink RX2 19 yX2_amountBelow ∈ hG := hG_mem 138 (by decide +kernel) (by decide +kernel)
theorem gI_X2_amountBelow : Cond.instanceMethod yX2_amountBelow ∈ hG := hG_mem 139 (by decide +kernel) (by decide +kernel)
theorem gV_X2_amountBelow : Cond.selects RX2 yX2_amountBelow yX2_amountBelow ∈ hG := hG_mem 140 (by decide +kernel) (by decide +kernel)
theorem gC_X2_amountBelow : Cond.code yX2_amountBelow cX2_amountBelow 5 (some .int) ∈ hG := hG_mem 141 (by decide +kernel) (by decide +kernel)
theorem gS_X6_isBorder : Cond.static yX6_isBorder ∈ hG := hG_mem 143 (by decide +kernel) (by decide +kernel)
theorem gC_X6_isBorder : Cond.code yX6_isBorder cX6_isBorder 1 (some .boolean) ∈ hG := hG_mem 144 (by decide +kernel) (by decide +kernel)
theorem gL_X2_26 : Cond.methodLink RX2 26 yJ6_bitCount_0f7a4 ∈ hG := hG_mem 145 (by decide +kernel) (by decide +kernel)
theorem gS_J6_bitCount_0f7a4 : Cond.static yJ6_bitCount_0f7a4 ∈ hG := hG_mem 146 (by decide +kernel) (by decide +kernel)
theorem gC_J6_bitCount_0f7a4 : Cond.code yJ6_bitCount_0f7a4 cJ6_bitCount_0f7a4 1 (some .int) ∈ hG := hG_mem 147 (by decide +kernel) (by decide +kernel)
theorem gK_J6_265 : Cond.constant RJ6 265 (1431655765) ∈ hG := hG_mem 148 (by decide +kernel) (by decide +kernel)
theorem gK_J6_266 : Cond.constant RJ6 266 (858993459) ∈ hG := hG_mem 149 (by decide +kernel) (by decide +kernel)
theorem gK_J6_267 : Cond.constant RJ6 267 (252645135) ∈ hG := hG_mem 150 (by decide +kernel) (by decide +kernel)
theorem gL_X6_64 : Cond.methodLink RX6 64 yX2_include ∈ hG := hG_mem 151 (by decide +kernel) (by decide +kernel)
theorem gI_X2_include : Cond.instanceMethod yX2_include ∈ hG := hG_mem 152 (by decide +kernel) (by decide +kernel)
theorem gV_X2_include : Cond.selects RX2 yX2_include yX2_include ∈ hG := hG_mem 153 (by decide +kernel) (by decide +kernel)
theorem gC_X2_include : Cond.code yX2_include cX2_include 4 none ∈ hG := hG_mem 154 (by decide +kernel) (by decide +kernel)
theorem gL_X2_39 : Cond.methodLink RX2 39 yX2_maskInWord ∈ hG := hG_mem 156 (by decide +kernel) (by decide +kernel)
theorem gS_X2_maskInWord : Cond.static yX2_maskInWord ∈ hG := hG_mem 157 (by decide +kernel) (by decide +kernel)
theorem gC_X2_maskInWord : Cond.code yX2_maskInWord cX2_maskInWord 4 (some .int) ∈ hG := hG_mem 158 (by decide +kernel) (by decide +kernel)
theorem gL_L_23 : Cond.methodLink RL 23 yX6_drop ∈ hG := hG_mem 159 (by decide +kernel) (by decide +kernel)
theorem gI_X6_drop : Cond.instanceMethod yX6_drop ∈ hG := hG_mem 160 (by decide +kernel) (by decide +kernel)
theorem gV_X6_drop : Cond.selects RX6 yX6_drop yX6_drop ∈ hG := hG_mem 161 (by decide +kernel) (by decide +kernel)
theorem gC_X6_drop : Cond.code yX6_drop cX6_drop 5 (some .int) ∈ hG := hG_mem 162 (by decide +kernel) (by decide +kernel)
theorem gL_X6_68 : Cond.methodLink RX6 68 yX2_exclude ∈ hG := hG_mem 163 (by decide +kernel) (by decide +kernel)
theorem gI_X2_exclude : Cond.instanceMethod yX2_exclude ∈ hG := hG_mem 164 (by decide +kernel) (by decide +kernel)
theorem gV_X2_exclude : Cond.selects RX2 yX2_exclude yX2_exclude ∈ hG := hG_mem 165 (by decide +kernel) (by decide +kernel)
theorem gC_X2_exclude : Cond.code yX2_exclude cX2_exclude 4 none ∈ hG := hG_mem 166 (by decide +kernel) (by decide +kernel)
theorem gL_L_27 : Cond.methodLink RL 27 yX6_join ∈ hG := hG_mem 167 (by decide +kernel) (by decide +kernel)
theorem gI_X6_join : Cond.instanceMethod yX6_join ∈ hG := hG_mem 168 (by decide +kernel) (by decide +kernel)
theorem gV_X6_join : Cond.selects RX6 yX6_join yX6_join ∈ hG := hG_mem 169 (by decide +kernel) (by decide +kernel)
theorem gC_X6_join : Cond.code yX6_join cX6_join 5 (some .int) ∈ hG := hG_mem 170 (by decide +kernel) (by decide +kernel)
theorem gL_X6_71 : Cond.methodLink RX6 71 yX2_become ∈ hG := hG_mem 171 (by decide +kernel) (by decide +kernel)
theorem gI_X2_become : Cond.instanceMethod yX2_become ∈ hG := hG_mem 172 (by decide +kernel) (by decide +kernel)
theorem gV_X2_become : Cond.selects RX2 yX2_become yX2_become ∈ hG := hG_mem 173 (by decide +kernel) (by decide +kernel)
theorem gC_X2_become : Cond.code yX2_become cX2_become 5 none ∈ hG := hG_mem 174 (by decide +kernel) (by decide +kernel)
theorem gL_X2_43 : Cond.methodLink RX2 43 yX2_joined ∈ hG := hG_mem 175 (by decide +kernel) (by decide +kernel)
theorem gS_X2_joined : Cond.static yX2_joined ∈ hG := hG_mem 176 (by decide +kernel) (by decide +kernel)
theorem gC_X2_joined : Cond.code yX2_joined cX2_joined 3 (some .int) ∈ hG := hG_mem 177 (by decide +kernel) (by decide +kernel)
theorem gL_X6_75 : Cond.methodLink RX6 75 yX2_amount ∈ hG := hG_mem 178 (by decide +kernel) (by decide +kernel)
theorem gI_X2_amount : Cond.instanceMethod yX2_amount ∈ hG := hG_mem 179 (by decide +kernel) (by decide +kernel)
theorem gV_X2_amount : Cond.selects RX2 yX2_amount yX2_amount ∈ hG := hG_mem 180 (by decide +kernel) (by decide +kernel)
theorem gC_X2_amount : Cond.code yX2_amount cX2_amount 1 (some .int) ∈ hG := hG_mem 181 (by decide +kernel) (by decide +kernel)
theorem gL_L_32 : Cond.methodLink RL 32 yX6_has ∈ hG := hG_mem 182 (by decide +kernel) (by decide +kernel)
theorem gI_X6_has : Cond.instanceMethod yX6_has ∈ hG := hG_mem 183 (by decide +kernel) (by decide +kernel)
theorem gV_X6_has : Cond.selects RX6 yX6_has yX6_has ∈ hG := hG_mem 184 (by decide +kernel) (by decide +kernel)
theorem gC_X6_has : Cond.code yX6_has cX6_has 3 (some .int) ∈ hG := hG_mem 185 (by decide +kernel) (by decide +kernel)
theorem gL_L_36 : Cond.methodLink RL 36 yX6_count ∈ hG := hG_mem 186 (by decide +kernel) (by decide +kernel)
theorem gI_X6_count : Cond.instanceMethod yX6_count ∈ hG := hG_mem 187 (by decide +kernel) (by decide +kernel)
theorem gV_X6_count : Cond.selects RX6 yX6_count yX6_count ∈ hG := hG_mem 188 (by decide +kernel) (by decide +kernel)
theorem gC_X6_count : Cond.code yX6_count cX6_count 2 (some .int) ∈ hG := hG_mem 189 (by decide +kernel) (by decide +kernel)
theorem gL_L_41 : Cond.methodLink RL 41 yX6_rank ∈ hG := hG_mem 190 (by decide +kernel) (by decide +kernel)
theorem gI_X6_rank : Cond.instanceMethod yX6_rank ∈ hG := hG_mem 191 (by decide +kernel) (by decide +kernel)
theorem gV_X6_rank : Cond.selects RX6 yX6_rank yX6_rank ∈ hG := hG_mem 192 (by decide +kernel) (by decide +kernel)
theorem gC_X6_rank : Cond.code yX6_rank cX6_rank 3 (some .int) ∈ hG := hG_mem 193 (by decide +kernel) (by decide +kernel)
theorem gL_X6_79 : Cond.methodLink RX6 79 yX6_isBorder ∈ hG := hG_mem 194 (by decide +kernel) (by decide +kernel)
theorem gL_X6_82 : Cond.methodLink RX6 82 yX2_amountBelow ∈ hG := hG_mem 195 (by decide +kernel) (by decide +kernel)
theorem gL_L_45 : Cond.methodLink RL 45 yX6_select ∈ hG := hG_mem 196 (by decide +kernel) (by decide +kernel)
theorem gI_X6_select : Cond.instanceMethod yX6_select ∈ hG := hG_mem 197 (by decide +kernel) (by decide +kernel)
theorem gV_X6_select : Cond.selects RX6 yX6_select yX6_select ∈ hG := hG_mem 198 (by decide +kernel) (by decide +kernel)
theorem gC_X6_select : Cond.code yX6_select cX6_select 3 (some .int) ∈ hG := hG_mem 199 (by decide +kernel) (by decide +kernel)
theorem gL_X6_86 : Cond.methodLink RX6 86 yX2_nth ∈ hG := hG_mem 200 (by decide +kernel) (by decide +kernel)
theorem gI_X2_nth : Cond.instanceMethod yX2_nth ∈ hG := hG_mem 201 (by decide +kernel) (by decide +kernel)
theorem gV_X2_nth : Cond.selects RX2 yX2_nth yX2_nth ∈ hG := hG_mem 202 (by decide +kernel) (by decide +kernel)
theorem gC_X2_nth : Cond.code yX2_nth cX2_nth 5 (some .int) ∈ hG := hG_mem 203 (by decide +kernel) (by decide +kernel)
theorem gL_X2_31 : Cond.methodLink RX2 31 yX2_nthOne ∈ hG := hG_mem 204 (by decide +kernel) (by decide +kernel)
theorem gS_X2_nthOne : Cond.static yX2_nthOne ∈ hG := hG_mem 205 (by decide +kernel) (by decide +kernel)
theorem gC_X2_nthOne : Cond.code yX2_nthOne cX2_nthOne 4 (some .int) ∈ hG := hG_mem 206 (by decide +kernel) (by decide +kernel)
theorem gL_L_49 : Cond.methodLink RL 49 yX6_next ∈ hG := hG_mem 207 (by decide +kernel) (by decide +kernel)
theorem gI_X6_next : Cond.instanceMethod yX6_next ∈ hG := hG_mem 208 (by decide +kernel) (by decide +kernel)
theorem gV_X6_next : Cond.selects RX6 yX6_next yX6_next ∈ hG := hG_mem 209 (by decide +kernel) (by decide +kernel)
theorem gC_X6_next : Cond.code yX6_next cX6_next 3 (some .int) ∈ hG := hG_mem 210 (by decide +kernel) (by decide +kernel)
theorem gL_X6_89 : Cond.methodLink RX6 89 yX2_leastFrom ∈ hG := hG_mem 211 (by decide +kernel) (by decide +kernel)
theorem gI_X2_leastFrom : Cond.instanceMethod yX2_leastFrom ∈ hG := hG_mem 212 (by decide +kernel) (by decide +kernel)
theorem gV_X2_leastFrom : Cond.selects RX2 yX2_leastFrom yX2_leastFrom ∈ hG := hG_mem 213 (by decide +kernel) (by decide +kernel)
theorem gC_X2_leastFrom : Cond.code yX2_leastFrom cX2_leastFrom 5 (some .int) ∈ hG := hG_mem 214 (by decide +kernel) (by decide +kernel)
theorem gL_L_53 : Cond.methodLink RL 53 yX6_before ∈ hG := hG_mem 215 (by decide +kernel) (by decide +kernel)
theorem gI_X6_before : Cond.instanceMethod yX6_before ∈ hG := hG_mem 216 (by decide +kernel) (by decide +kernel)
theorem gV_X6_before : Cond.selects RX6 yX6_before yX6_before ∈ hG := hG_mem 217 (by decide +kernel) (by decide +kernel)
theorem gC_X6_before : Cond.code yX6_before cX6_before 3 (some .int) ∈ hG := hG_mem 218 (by decide +kernel) (by decide +kernel)
theorem gL_L_57 : Cond.methodLink RL 57 yX6_common ∈ hG := hG_mem 219 (by decide +kernel) (by decide +kernel)
theorem gI_X6_common : Cond.instanceMethod yX6_common ∈ hG := hG_mem 220 (by decide +kernel) (by decide +kernel)
theorem gV_X6_common : Cond.selects RX6 yX6_common yX6_common ∈ hG := hG_mem 221 (by decide +kernel) (by decide +kernel)
theorem gC_X6_common : Cond.code yX6_common cX6_common 3 (some .int) ∈ hG := hG_mem 222 (by decide +kernel) (by decide +kernel)
theorem gL_X6_92 : Cond.methodLink RX6 92 yX2_amountShared ∈ hG := hG_mem 223 (by decide +kernel) (by decide +kernel)
theorem gI_X2_amountShared : Cond.instanceMethod yX2_amountShared ∈ hG := hG_mem 224 (by decide +kernel) (by decide +kernel)
theorem gV_X2_amountShared : Cond.selects RX2 yX2_amountShared yX2_amountShared ∈ hG := hG_mem 225 (by decide +kernel) (by decide +kernel)
theorem gC_X2_amountShared : Cond.code yX2_amountShared cX2_amountShared 4 (some .int) ∈ hG := hG_mem 226 (by decide +kernel) (by decide +kernel)
theorem gL_L_61 : Cond.methodLink RL 61 yX6_piece ∈ hG := hG_mem 227 (by decide +kernel) (by decide +kernel)
theorem gI_X6_piece : Cond.instanceMethod yX6_piece ∈ hG := hG_mem 228 (by decide +kernel) (by decide +kernel)
theorem gV_X6_piece : Cond.selects RX6 yX6_piece yX6_piece ∈ hG := hG_mem 229 (by decide +kernel) (by decide +kernel)
theorem gC_X6_piece : Cond.code yX6_piece cX6_piece 4 (some .int) ∈ hG := hG_mem 230 (by decide +kernel) (by decide +kernel)
theorem gL_X6_96 : Cond.methodLink RX6 96 yX2_pieceForm ∈ hG := hG_mem 231 (by decide +kernel) (by decide +kernel)
theorem gI_X2_pieceForm : Cond.instanceMethod yX2_pieceForm ∈ hG := hG_mem 232 (by decide +kernel) (by decide +kernel)
theorem gV_X2_pieceForm : Cond.selects RX2 yX2_pieceForm yX2_pieceForm ∈ hG := hG_mem 233 (by decide +kernel) (by decide +kernel)
theorem gC_X2_pieceForm : Cond.code yX2_pieceForm cX2_pieceForm 5 (some .int) ∈ hG := hG_mem 234 (by decide +kernel) (by decide +kernel)
theorem gL_X2_46 : Cond.methodLink RX2 46 yX2_pieceAmount ∈ hG := hG_mem 235 (by decide +kernel) (by decide +kernel)
theorem gI_X2_pieceAmount : Cond.instanceMethod yX2_pieceAmount ∈ hG := hG_mem 236 (by decide +kernel) (by decide +kernel)
theorem gV_X2_pieceAmount : Cond.selects RX2 yX2_pieceAmount yX2_pieceAmount ∈ hG := hG_mem 237 (by decide +kernel) (by decide +kernel)
theorem gC_X2_pieceAmount : Cond.code yX2_pieceAmount cX2_pieceAmount 4 (some .int) ∈ hG := hG_mem 238 (by decide +kernel) (by decide +kernel)
theorem gL_X2_49 : Cond.methodLink RX2 49 yX2_pieceRuns ∈ hG := hG_mem 239 (by decide +kernel) (by decide +kernel)
theorem gI_X2_pieceRuns : Cond.instanceMethod yX2_pieceRuns ∈ hG := hG_mem 240 (by decide +kernel) (by decide +kernel)
theorem gV_X2_pieceRuns : Cond.selects RX2 yX2_pieceRuns yX2_pieceRuns ∈ hG := hG_mem 241 (by decide +kernel) (by decide +kernel)
theorem gC_X2_pieceRuns : Cond.code yX2_pieceRuns cX2_pieceRuns 6 (some .int) ∈ hG := hG_mem 242 (by decide +kernel) (by decide +kernel)
theorem gL_X6_99 : Cond.methodLink RX6 99 yX2_pieceAmount ∈ hG := hG_mem 243 (by decide +kernel) (by decide +kernel)
theorem gL_X6_102 : Cond.methodLink RX6 102 yX2_pieceRuns ∈ hG := hG_mem 244 (by decide +kernel) (by decide +kernel)
theorem gL_X6_105 : Cond.methodLink RX6 105 yX2_pieceBits ∈ hG := hG_mem 245 (by decide +kernel) (by decide +kernel)
theorem gI_X2_pieceBits : Cond.instanceMethod yX2_pieceBits ∈ hG := hG_mem 246 (by decide +kernel) (by decide +kernel)
theorem gV_X2_pieceBits : Cond.selects RX2 yX2_pieceBits yX2_pieceBits ∈ hG := hG_mem 247 (by decide +kernel) (by decide +kernel)
theorem gC_X2_pieceBits : Cond.code yX2_pieceBits cX2_pieceBits 2 (some .int) ∈ hG := hG_mem 248 (by decide +kernel) (by decide +kernel)
theorem gL_X2_52 : Cond.methodLink RX2 52 yX2_pieceForm ∈ hG := hG_mem 249 (by decide +kernel) (by decide +kernel)
theorem gL_L_65 : Cond.methodLink RL 65 yX6_cost ∈ hG := hG_mem 250 (by decide +kernel) (by decide +kernel)
theorem gI_X6_cost : Cond.instanceMethod yX6_cost ∈ hG := hG_mem 251 (by decide +kernel) (by decide +kernel)
theorem gV_X6_cost : Cond.selects RX6 yX6_cost yX6_cost ∈ hG := hG_mem 252 (by decide +kernel) (by decide +kernel)
theorem gC_X6_cost : Cond.code yX6_cost cX6_cost 4 (some .int) ∈ hG := hG_mem 253 (by decide +kernel) (by decide +kernel)
theorem gL_L_69 : Cond.methodLink RL 69 yX6_length ∈ hG := hG_mem 254 (by decide +kernel) (by decide +kernel)
theorem gI_X6_length : Cond.instanceMethod yX6_length ∈ hG := hG_mem 255 (by decide +kernel) (by decide +kernel)
theorem gV_X6_length : Cond.selects RX6 yX6_length yX6_length ∈ hG := hG_mem 256 (by decide +kernel) (by decide +kernel)
theorem gC_X6_length : Cond.code yX6_length cX6_length 3 (some .int) ∈ hG := hG_mem 257 (by decide +kernel) (by decide +kernel)
theorem gL_X6_108 : Cond.methodLink RX6 108 yX6_isKind ∈ hG := hG_mem 258 (by decide +kernel) (by decide +kernel)
theorem gS_X6_isKind : Cond.static yX6_isKind ∈ hG := hG_mem 259 (by decide +kernel) (by decide +kernel)
theorem gC_X6_isKind : Cond.code yX6_isKind cX6_isKind 1 (some .boolean) ∈ hG := hG_mem 260 (by decide +kernel) (by decide +kernel)
theorem gL_X6_111 : Cond.methodLink RX6 111 ⟨"KeyRows$Code", "bitsFor", "(LKeyRows$Numbers;)I"⟩ ∈ hG := hG_mem 261 (by decide +kernel) (by decide +kernel)
theorem gM_bitsFor : Cond.sameMethod "KeyRows$Code" "KeyRows$Code" "bitsFor" "(LKeyRows$Numbers;)I" ∈ hG := hG_mem 263 (by decide +kernel) (by decide +kernel)
theorem gV_X1_bitsFor : Cond.selects RX1 ⟨"KeyRows$Code", "bitsFor", "(LKeyRows$Numbers;)I"⟩ yX1_bitsFor ∈ hG := hG_mem 264 (by decide +kernel) (by decide +kernel)
theorem gI_X1_bitsFor : Cond.instanceMethod yX1_bitsFor ∈ hG := hG_mem 265 (by decide +kernel) (by decide +kernel)
theorem gC_X1_bitsFor : Cond.code yX1_bitsFor cX1_bitsFor 7 (some .int) ∈ hG := hG_mem 266 (by decide +kernel) (by decide +kernel)
theorem gL_X1_9 : Cond.methodLink RX1 9 yX2_amount ∈ hG := hG_mem 267 (by decide +kernel) (by decide +kernel)
theorem gL_X1_15 : Cond.methodLink RX1 15 yX2_leastFrom ∈ hG := hG_mem 268 (by decide +kernel) (by decide +kernel)
theorem gL_X1_19 : Cond.methodLink RX1 19 yX1_widthOf ∈ hG := hG_mem 269 (by decide +kernel) (by decide +kernel)
theorem gS_X1_widthOf : Cond.static yX1_widthOf ∈ hG := hG_mem 270 (by decide +kernel) (by decide +kernel)
theorem gC_X1_widthOf : Cond.code yX1_widthOf cX1_widthOf 2 (some .int) ∈ hG := hG_mem 271 (by decide +kernel) (by decide +kernel)
theorem gV_X3_bitsFor : Cond.selects RX3 ⟨"KeyRows$Code", "bitsFor", "(LKeyRows$Numbers;)I"⟩ yX3_bitsFor ∈ hG := hG_mem 272 (by decide +kernel) (by decide +kernel)
theorem gI_X3_bitsFor : Cond.instanceMethod yX3_bitsFor ∈ hG := hG_mem 273 (by decide +kernel) (by decide +kernel)
theorem gC_X3_bitsFor : Cond.code yX3_bitsFor cX3_bitsFor 6 (some .int) ∈ hG := hG_mem 274 (by decide +kernel) (by decide +kernel)
theorem gL_X3_9 : Cond.methodLink RX3 9 yX2_pieceForm ∈ hG := hG_mem 275 (by decide +kernel) (by decide +kernel)
theorem gL_X3_15 : Cond.methodLink RX3 15 yX2_pieceBits ∈ hG := hG_mem 276 (by decide +kernel) (by decide +kernel)
theorem gV_X5_bitsFor : Cond.selects RX5 ⟨"KeyRows$Code", "bitsFor", "(LKeyRows$Numbers;)I"⟩ yX5_bitsFor ∈ hG := hG_mem 277 (by decide +kernel) (by decide +kernel)
theorem gI_X5_bitsFor : Cond.instanceMethod yX5_bitsFor ∈ hG := hG_mem 278 (by decide +kernel) (by decide +kernel)
theorem gC_X5_bitsFor : Cond.code yX5_bitsFor cX5_bitsFor 2 (some .int) ∈ hG := hG_mem 279 (by decide +kernel) (by decide +kernel)
theorem gL_X5_9 : Cond.methodLink RX5 9 yX2_amount ∈ hG := hG_mem 280 (by decide +kernel) (by decide +kernel)
theorem gL_X5_15 : Cond.methodLink RX5 15 yX5_bitsForAmount ∈ hG := hG_mem 281 (by decide +kernel) (by decide +kernel)
theorem gS_X5_bitsForAmount : Cond.static yX5_bitsForAmount ∈ hG := hG_mem 282 (by decide +kernel) (by decide +kernel)
theorem gC_X5_bitsForAmount : Cond.code yX5_bitsForAmount cX5_bitsForAmount 2 (some .int) ∈ hG := hG_mem 283 (by decide +kernel) (by decide +kernel)
theorem gL_X5_44 : Cond.methodLink RX5 44 yX5_lowBits ∈ hG := hG_mem 284 (by decide +kernel) (by decide +kernel)
theorem gS_X5_lowBits : Cond.static yX5_lowBits ∈ hG := hG_mem 285 (by decide +kernel) (by decide +kernel)
theorem gC_X5_lowBits : Cond.code yX5_lowBits cX5_lowBits 2 (some .int) ∈ hG := hG_mem 286 (by decide +kernel) (by decide +kernel)
theorem gL_X5_57 : Cond.methodLink RX5 57 yX5_highParts ∈ hG := hG_mem 287 (by decide +kernel) (by decide +kernel)
theorem gS_X5_highParts : Cond.static yX5_highParts ∈ hG := hG_mem 288 (by decide +kernel) (by decide +kernel)
theorem gC_X5_highParts : Cond.code yX5_highParts cX5_highParts 1 (some .int) ∈ hG := hG_mem 289 (by decide +kernel) (by decide +kernel)
theorem gL_L_73 : Cond.methodLink RL 73 yX6_write ∈ hG := hG_mem 290 (by decide +kernel) (by decide +kernel)
theorem gI_X6_write : Cond.instanceMethod yX6_write ∈ hG := hG_mem 291 (by decide +kernel) (by decide +kernel)
theorem gV_X6_write : Cond.selects RX6 yX6_write yX6_write ∈ hG := hG_mem 292 (by decide +kernel) (by decide +kernel)
theorem gC_X6_write : Cond.code yX6_write cX6_write 3 (some .int) ∈ hG := hG_mem 293 (by decide +kernel) (by decide +kernel)
theorem gL_X6_114 : Cond.methodLink RX6 114 yX4_keepFirst ∈ hG := hG_mem 294 (by decide +kernel) (by decide +kernel)
theorem gI_X4_keepFirst : Cond.instanceMethod yX4_keepFirst ∈ hG := hG_mem 295 (by decide +kernel) (by decide +kernel)
theorem gV_X4_keepFirst : Cond.selects RX4 yX4_keepFirst yX4_keepFirst ∈ hG := hG_mem 296 (by decide +kernel) (by decide +kernel)
theorem gC_X4_keepFirst : Cond.code yX4_keepFirst cX4_keepFirst 2 none ∈ hG := hG_mem 297 (by decide +kernel) (by decide +kernel)
theorem gL_X6_117 : Cond.methodLink RX6 117 ⟨"KeyRows$Code", "tell", "(LKeyRows$Numbers;LKeyRows$Tape;)V"⟩ ∈ hG := hG_mem 298 (by decide +kernel) (by decide +kernel)
theorem gM_tell : Cond.sameMethod "KeyRows$Code" "KeyRows$Code" "tell" "(LKeyRows$Numbers;LKeyRows$Tape;)V" ∈ hG := hG_mem 300 (by decide +kernel) (by decide +kernel)
theorem gV_X1_tell : Cond.selects RX1 ⟨"KeyRows$Code", "tell", "(LKeyRows$Numbers;LKeyRows$Tape;)V"⟩ yX1_tell ∈ hG := hG_mem 301 (by decide +kernel) (by decide +kernel)
theorem gI_X1_tell : Cond.instanceMethod yX1_tell ∈ hG := hG_mem 302 (by decide +kernel) (by decide +kernel)
theorem gC_X1_tell : Cond.code yX1_tell cX1_tell 8 none ∈ hG := hG_mem 303 (by decide +kernel) (by decide +kernel)
theorem gL_X1_24 : Cond.methodLink RX1 24 yX4_append ∈ hG := hG_mem 304 (by decide +kernel) (by decide +kernel)
theorem gI_X4_append : Cond.instanceMethod yX4_append ∈ hG := hG_mem 305 (by decide +kernel) (by decide +kernel)
theorem gV_X4_append : Cond.selects RX4 yX4_append yX4_append ∈ hG := hG_mem 306 (by decide +kernel) (by decide +kernel)
theorem gC_X4_append : Cond.code yX4_append cX4_append 5 none ∈ hG := hG_mem 307 (by decide +kernel) (by decide +kernel)
theorem gV_X3_tell : Cond.selects RX3 ⟨"KeyRows$Code", "tell", "(LKeyRows$Numbers;LKeyRows$Tape;)V"⟩ yX3_tell ∈ hG := hG_mem 308 (by decide +kernel) (by decide +kernel)
theorem gI_X3_tell : Cond.instanceMethod yX3_tell ∈ hG := hG_mem 309 (by decide +kernel) (by decide +kernel)
theorem gC_X3_tell : Cond.code yX3_tell cX3_tell 6 none ∈ hG := hG_mem 310 (by decide +kernel) (by decide +kernel)
theorem gL_X3_18 : Cond.methodLink RX3 18 yX4_append ∈ hG := hG_mem 311 (by decide +kernel) (by decide +kernel)
theorem gL_X3_24 : Cond.methodLink RX3 24 yX2_pieceAmount ∈ hG := hG_mem 312 (by decide +kernel) (by decide +kernel)
theorem gL_X3_27 : Cond.methodLink RX3 27 yX3_tellList ∈ hG := hG_mem 313 (by decide +kernel) (by decide +kernel)
theorem gS_X3_tellList : Cond.static yX3_tellList ∈ hG := hG_mem 314 (by decide +kernel) (by decide +kernel)
theorem gC_X3_tellList : Cond.code yX3_tellList cX3_tellList 6 none ∈ hG := hG_mem 315 (by decide +kernel) (by decide +kernel)
theorem gL_X3_67 : Cond.methodLink RX3 67 yX2_leastFrom ∈ hG := hG_mem 316 (by decide +kernel) (by decide +kernel)
theorem gL_X3_33 : Cond.methodLink RX3 33 yX3_tellBits ∈ hG := hG_mem 317 (by decide +kernel) (by decide +kernel)
theorem gS_X3_tellBits : Cond.static yX3_tellBits ∈ hG := hG_mem 318 (by decide +kernel) (by decide +kernel)
theorem gC_X3_tellBits : Cond.code yX3_tellBits cX3_tellBits 4 none ∈ hG := hG_mem 319 (by decide +kernel) (by decide +kernel)
theorem gL_X3_70 : Cond.methodLink RX3 70 yX2_holds ∈ hG := hG_mem 320 (by decide +kernel) (by decide +kernel)
theorem gL_X3_37 : Cond.methodLink RX3 37 yX2_pieceRuns ∈ hG := hG_mem 321 (by decide +kernel) (by decide +kernel)
theorem gL_X3_40 : Cond.methodLink RX3 40 yX3_tellRuns ∈ hG := hG_mem 322 (by decide +kernel) (by decide +kernel)
theorem gS_X3_tellRuns : Cond.static yX3_tellRuns ∈ hG := hG_mem 323 (by decide +kernel) (by decide +kernel)
theorem gC_X3_tellRuns : Cond.code yX3_tellRuns cX3_tellRuns 8 none ∈ hG := hG_mem 324 (by decide +kernel) (by decide +kernel)
theorem gV_X5_tell : Cond.selects RX5 ⟨"KeyRows$Code", "tell", "(LKeyRows$Numbers;LKeyRows$Tape;)V"⟩ yX5_tell ∈ hG := hG_mem 325 (by decide +kernel) (by decide +kernel)
theorem gI_X5_tell : Cond.instanceMethod yX5_tell ∈ hG := hG_mem 326 (by decide +kernel) (by decide +kernel)
theorem gC_X5_tell : Cond.code yX5_tell cX5_tell 4 none ∈ hG := hG_mem 327 (by decide +kernel) (by decide +kernel)
theorem gL_X5_21 : Cond.methodLink RX5 21 yX4_append ∈ hG := hG_mem 328 (by decide +kernel) (by decide +kernel)
theorem gL_X5_27 : Cond.methodLink RX5 27 yX5_tellLowParts ∈ hG := hG_mem 329 (by decide +kernel) (by decide +kernel)
theorem gS_X5_tellLowParts : Cond.static yX5_tellLowParts ∈ hG := hG_mem 330 (by decide +kernel) (by decide +kernel)
theorem gC_X5_tellLowParts : Cond.code yX5_tellLowParts cX5_tellLowParts 6 none ∈ hG := hG_mem 331 (by decide +kernel) (by decide +kernel)
theorem gL_X5_54 : Cond.methodLink RX5 54 yX2_leastFrom ∈ hG := hG_mem 332 (by decide +kernel) (by decide +kernel)
theorem gL_X5_31 : Cond.methodLink RX5 31 yX5_tellHighParts ∈ hG := hG_mem 333 (by decide +kernel) (by decide +kernel)
theorem gS_X5_tellHighParts : Cond.static yX5_tellHighParts ∈ hG := hG_mem 334 (by decide +kernel) (by decide +kernel)
theorem gC_X5_tellHighParts : Cond.code yX5_tellHighParts cX5_tellHighParts 7 none ∈ hG := hG_mem 335 (by decide +kernel) (by decide +kernel)
theorem gL_X6_121 : Cond.methodLink RX6 121 yX4_held ∈ hG := hG_mem 336 (by decide +kernel) (by decide +kernel)
theorem gI_X4_held : Cond.instanceMethod yX4_held ∈ hG := hG_mem 337 (by decide +kernel) (by decide +kernel)
theorem gV_X4_held : Cond.selects RX4 yX4_held yX4_held ∈ hG := hG_mem 338 (by decide +kernel) (by decide +kernel)
theorem gC_X4_held : Cond.code yX4_held cX4_held 1 (some .int) ∈ hG := hG_mem 339 (by decide +kernel) (by decide +kernel)
theorem gL_L_77 : Cond.methodLink RL 77 yX6_read ∈ hG := hG_mem 340 (by decide +kernel) (by decide +kernel)
theorem gI_X6_read : Cond.instanceMethod yX6_read ∈ hG := hG_mem 341 (by decide +kernel) (by decide +kernel)
theorem gV_X6_read : Cond.selects RX6 yX6_read yX6_read ∈ hG := hG_mem 342 (by decide +kernel) (by decide +kernel)
theorem gC_X6_read : Cond.code yX6_read cX6_read 3 (some .int) ∈ hG := hG_mem 343 (by decide +kernel) (by decide +kernel)
theorem gL_X6_124 : Cond.methodLink RX6 124 ⟨"KeyRows$Code", "learn", "(LKeyRows$Tape;LKeyRows$Numbers;)Z"⟩ ∈ hG := hG_mem 344 (by decide +kernel) (by decide +kernel)
theorem gM_learn : Cond.sameMethod "KeyRows$Code" "KeyRows$Code" "learn" "(LKeyRows$Tape;LKeyRows$Numbers;)Z" ∈ hG := hG_mem 346 (by decide +kernel) (by decide +kernel)
theorem gV_X1_learn : Cond.selects RX1 ⟨"KeyRows$Code", "learn", "(LKeyRows$Tape;LKeyRows$Numbers;)Z"⟩ yX1_learn ∈ hG := hG_mem 347 (by decide +kernel) (by decide +kernel)
theorem gI_X1_learn : Cond.instanceMethod yX1_learn ∈ hG := hG_mem 348 (by decide +kernel) (by decide +kernel)
theorem gC_X1_learn : Cond.code yX1_learn cX1_learn 7 (some .boolean) ∈ hG := hG_mem 349 (by decide +kernel) (by decide +kernel)
theorem gL_X1_30 : Cond.methodLink RX1 30 yX2_clear ∈ hG := hG_mem 350 (by decide +kernel) (by decide +kernel)
theorem gI_X2_clear : Cond.instanceMethod yX2_clear ∈ hG := hG_mem 351 (by decide +kernel) (by decide +kernel)
theorem gV_X2_clear : Cond.selects RX2 yX2_clear yX2_clear ∈ hG := hG_mem 352 (by decide +kernel) (by decide +kernel)
theorem gC_X2_clear : Cond.code yX2_clear cX2_clear 2 none ∈ hG := hG_mem 353 (by decide +kernel) (by decide +kernel)
theorem gL_X1_33 : Cond.methodLink RX1 33 yX4_rewind ∈ hG := hG_mem 354 (by decide +kernel) (by decide +kernel)
theorem gI_X4_rewind : Cond.instanceMethod yX4_rewind ∈ hG := hG_mem 355 (by decide +kernel) (by decide +kernel)
theorem gV_X4_rewind : Cond.selects RX4 yX4_rewind yX4_rewind ∈ hG := hG_mem 356 (by decide +kernel) (by decide +kernel)
theorem gC_X4_rewind : Cond.code yX4_rewind cX4_rewind 1 none ∈ hG := hG_mem 357 (by decide +kernel) (by decide +kernel)
theorem gL_X1_36 : Cond.methodLink RX1 36 yX4_take ∈ hG := hG_mem 358 (by decide +kernel) (by decide +kernel)
theorem gI_X4_take : Cond.instanceMethod yX4_take ∈ hG := hG_mem 359 (by decide +kernel) (by decide +kernel)
theorem gV_X4_take : Cond.selects RX4 yX4_take yX4_take ∈ hG := hG_mem 360 (by decide +kernel) (by decide +kernel)
theorem gC_X4_take : Cond.code yX4_take cX4_take 3 (some .int) ∈ hG := hG_mem 361 (by decide +kernel) (by decide +kernel)
theorem gL_X4_30 : Cond.methodLink RX4 30 yX4_valueAt ∈ hG := hG_mem 362 (by decide +kernel) (by decide +kernel)
theorem gI_X4_valueAt : Cond.instanceMethod yX4_valueAt ∈ hG := hG_mem 363 (by decide +kernel) (by decide +kernel)
theorem gV_X4_valueAt : Cond.selects RX4 yX4_valueAt yX4_valueAt ∈ hG := hG_mem 364 (by decide +kernel) (by decide +kernel)
theorem gC_X4_valueAt : Cond.code yX4_valueAt cX4_valueAt 5 (some .int) ∈ hG := hG_mem 365 (by decide +kernel) (by decide +kernel)
theorem gL_X4_26 : Cond.methodLink RX4 26 yX4_bitAt ∈ hG := hG_mem 366 (by decide +kernel) (by decide +kernel)
theorem gI_X4_bitAt : Cond.instanceMethod yX4_bitAt ∈ hG := hG_mem 367 (by decide +kernel) (by decide +kernel)
theorem gV_X4_bitAt : Cond.selects RX4 yX4_bitAt yX4_bitAt ∈ hG := hG_mem 368 (by decide +kernel) (by decide +kernel)
theorem gC_X4_bitAt : Cond.code yX4_bitAt cX4_bitAt 2 (some .int) ∈ hG := hG_mem 369 (by decide +kernel) (by decide +kernel)
theorem gL_X4_22 : Cond.methodLink RX4 22 yX4_reaches ∈ hG := hG_mem 370 (by decide +kernel) (by decide +kernel)
theorem gI_X4_reaches : Cond.instanceMethod yX4_reaches ∈ hG := hG_mem 371 (by decide +kernel) (by decide +kernel)
theorem gV_X4_reaches : Cond.selects RX4 yX4_reaches yX4_reaches ∈ hG := hG_mem 372 (by decide +kernel) (by decide +kernel)
theorem gC_X4_reaches : Cond.code yX4_reaches cX4_reaches 2 (some .boolean) ∈ hG := hG_mem 373 (by decide +kernel) (by decide +kernel)
theorem gL_X1_39 : Cond.methodLink RX1 39 yX1_takeZeros ∈ hG := hG_mem 374 (by decide +kernel) (by decide +kernel)
theorem gS_X1_takeZeros : Cond.static yX1_takeZeros ∈ hG := hG_mem 375 (by decide +kernel) (by decide +kernel)
theorem gC_X1_takeZeros : Cond.code yX1_takeZeros cX1_takeZeros 2 (some .int) ∈ hG := hG_mem 376 (by decide +kernel) (by decide +kernel)
theorem gL_X1_43 : Cond.methodLink RX1 43 yX2_add ∈ hG := hG_mem 377 (by decide +kernel) (by decide +kernel)
theorem gL_X1_47 : Cond.methodLink RX1 47 yX4_isReadToItsEnd ∈ hG := hG_mem 378 (by decide +kernel) (by decide +kernel)
theorem gI_X4_isReadToItsEnd : Cond.instanceMethod yX4_isReadToItsEnd ∈ hG := hG_mem 379 (by decide +kernel) (by decide +kernel)
theorem gV_X4_isReadToItsEnd : Cond.selects RX4 yX4_isReadToItsEnd yX4_isReadToItsEnd ∈ hG := hG_mem 380 (by decide +kernel) (by decide +kernel)
theorem gC_X4_isReadToItsEnd : Cond.code yX4_isReadToItsEnd cX4_isReadToItsEnd 1 (some .boolean) ∈ hG := hG_mem 381 (by decide +kernel) (by decide +kernel)
theorem gV_X3_learn : Cond.selects RX3 ⟨"KeyRows$Code", "learn", "(LKeyRows$Tape;LKeyRows$Numbers;)Z"⟩ yX3_learn ∈ hG := hG_mem 382 (by decide +kernel) (by decide +kernel)
theorem gI_X3_learn : Cond.instanceMethod yX3_learn ∈ hG := hG_mem 383 (by decide +kernel) (by decide +kernel)
theorem gC_X3_learn : Cond.code yX3_learn cX3_learn 8 (some .boolean) ∈ hG := hG_mem 384 (by decide +kernel) (by decide +kernel)
theorem gL_X3_43 : Cond.methodLink RX3 43 yX2_clear ∈ hG := hG_mem 385 (by decide +kernel) (by decide +kernel)
theorem gL_X3_46 : Cond.methodLink RX3 46 yX4_rewind ∈ hG := hG_mem 386 (by decide +kernel) (by decide +kernel)
theorem gL_X3_49 : Cond.methodLink RX3 49 yX4_take ∈ hG := hG_mem 387 (by decide +kernel) (by decide +kernel)
theorem gL_X3_52 : Cond.methodLink RX3 52 yX3_learnList ∈ hG := hG_mem 388 (by decide +kernel) (by decide +kernel)
theorem gS_X3_learnList : Cond.static yX3_learnList ∈ hG := hG_mem 389 (by decide +kernel) (by decide +kernel)
theorem gC_X3_learnList : Cond.code yX3_learnList cX3_learnList 7 (some .boolean) ∈ hG := hG_mem 390 (by decide +kernel) (by decide +kernel)
theorem gL_X3_74 : Cond.methodLink RX3 74 yX2_add ∈ hG := hG_mem 391 (by decide +kernel) (by decide +kernel)
theorem gL_X3_56 : Cond.methodLink RX3 56 yX3_learnBits ∈ hG := hG_mem 392 (by decide +kernel) (by decide +kernel)
theorem gS_X3_learnBits : Cond.static yX3_learnBits ∈ hG := hG_mem 393 (by decide +kernel) (by decide +kernel)
theorem gC_X3_learnBits : Cond.code yX3_learnBits cX3_learnBits 4 none ∈ hG := hG_mem 394 (by decide +kernel) (by decide +kernel)
theorem gL_X3_60 : Cond.methodLink RX3 60 yX3_learnRuns ∈ hG := hG_mem 395 (by decide +kernel) (by decide +kernel)
theorem gS_X3_learnRuns : Cond.static yX3_learnRuns ∈ hG := hG_mem 396 (by decide +kernel) (by decide +kernel)
theorem gC_X3_learnRuns : Cond.code yX3_learnRuns cX3_learnRuns 8 (some .boolean) ∈ hG := hG_mem 397 (by decide +kernel) (by decide +kernel)
theorem gL_X3_78 : Cond.methodLink RX3 78 yX2_include ∈ hG := hG_mem 398 (by decide +kernel) (by decide +kernel)
theorem gL_X3_63 : Cond.methodLink RX3 63 yX4_isReadToItsEnd ∈ hG := hG_mem 399 (by decide +kernel) (by decide +kernel)
theorem gV_X5_learn : Cond.selects RX5 ⟨"KeyRows$Code", "learn", "(LKeyRows$Tape;LKeyRows$Numbers;)Z"⟩ yX5_learn ∈ hG := hG_mem 400 (by decide +kernel) (by decide +kernel)
theorem gI_X5_learn : Cond.instanceMethod yX5_learn ∈ hG := hG_mem 401 (by decide +kernel) (by decide +kernel)
theorem gC_X5_learn : Cond.code yX5_learn cX5_learn 10 (some .boolean) ∈ hG := hG_mem 402 (by decide +kernel) (by decide +kernel)
theorem gL_X5_34 : Cond.methodLink RX5 34 yX2_clear ∈ hG := hG_mem 403 (by decide +kernel) (by decide +kernel)
theorem gL_X5_37 : Cond.methodLink RX5 37 yX4_valueAt ∈ hG := hG_mem 404 (by decide +kernel) (by decide +kernel)
theorem gL_X5_41 : Cond.methodLink RX5 41 yX4_held ∈ hG := hG_mem 405 (by decide +kernel) (by decide +kernel)
theorem gL_X5_47 : Cond.methodLink RX5 47 yX4_bitAt ∈ hG := hG_mem 406 (by decide +kernel) (by decide +kernel)
theorem gL_X5_50 : Cond.methodLink RX5 50 yX2_add ∈ hG := hG_mem 407 (by decide +kernel) (by decide +kernel)
theorem gL_X6_128 : Cond.methodLink RX6 128 yX2_copyFrom ∈ hG := hG_mem 408 (by decide +kernel) (by decide +kernel)
theorem gI_X2_copyFrom : Cond.instanceMethod yX2_copyFrom ∈ hG := hG_mem 409 (by decide +kernel) (by decide +kernel)
theorem gV_X2_copyFrom : Cond.selects RX2 yX2_copyFrom yX2_copyFrom ∈ hG := hG_mem 410 (by decide +kernel) (by decide +kernel)
theorem gC_X2_copyFrom : Cond.code yX2_copyFrom cX2_copyFrom 3 none ∈ hG := hG_mem 411 (by decide +kernel) (by decide +kernel)
theorem gL_L_81 : Cond.methodLink RL 81 yX6_ask ∈ hG := hG_mem 412 (by decide +kernel) (by decide +kernel)
theorem gI_X6_ask : Cond.instanceMethod yX6_ask ∈ hG := hG_mem 413 (by decide +kernel) (by decide +kernel)
theorem gV_X6_ask : Cond.selects RX6 yX6_ask yX6_ask ∈ hG := hG_mem 414 (by decide +kernel) (by decide +kernel)
theorem gC_X6_ask : Cond.code yX6_ask cX6_ask 3 (some .int) ∈ hG := hG_mem 415 (by decide +kernel) (by decide +kernel)
theorem gL_L_85 : Cond.methodLink RL 85 yX6_sign ∈ hG := hG_mem 416 (by decide +kernel) (by decide +kernel)
theorem gI_X6_sign : Cond.instanceMethod yX6_sign ∈ hG := hG_mem 417 (by decide +kernel) (by decide +kernel)
theorem gV_X6_sign : Cond.selects RX6 yX6_sign yX6_sign ∈ hG := hG_mem 418 (by decide +kernel) (by decide +kernel)
theorem gC_X6_sign : Cond.code yX6_sign cX6_sign 2 (some .int) ∈ hG := hG_mem 419 (by decide +kernel) (by decide +kernel)
theorem gL_X6_132 : Cond.methodLink RX6 132 yX4_append ∈ hG := hG_mem 420 (by decide +kernel) (by decide +kernel)
theorem gL_L_90 : Cond.methodLink RL 90 yX6_cut ∈ hG := hG_mem 421 (by decide +kernel) (by decide +kernel)
theorem gI_X6_cut : Cond.instanceMethod yX6_cut ∈ hG := hG_mem 422 (by decide +kernel) (by decide +kernel)
theorem gV_X6_cut : Cond.selects RX6 yX6_cut yX6_cut ∈ hG := hG_mem 423 (by decide +kernel) (by decide +kernel)
theorem gC_X6_cut : Cond.code yX6_cut cX6_cut 3 (some .int) ∈ hG := hG_mem 424 (by decide +kernel) (by decide +kernel)
theorem gL_L_94 : Cond.methodLink RL 94 yX6_flip ∈ hG := hG_mem 425 (by decide +kernel) (by decide +kernel)
theorem gI_X6_flip : Cond.instanceMethod yX6_flip ∈ hG := hG_mem 426 (by decide +kernel) (by decide +kernel)
theorem gV_X6_flip : Cond.selects RX6 yX6_flip yX6_flip ∈ hG := hG_mem 427 (by decide +kernel) (by decide +kernel)
theorem gC_X6_flip : Cond.code yX6_flip cX6_flip 2 (some .int) ∈ hG := hG_mem 428 (by decide +kernel) (by decide +kernel)
theorem gL_X6_135 : Cond.methodLink RX6 135 yX4_reaches ∈ hG := hG_mem 429 (by decide +kernel) (by decide +kernel)
theorem gL_X6_138 : Cond.methodLink RX6 138 yX4_turn ∈ hG := hG_mem 430 (by decide +kernel) (by decide +kernel)
theorem gI_X4_turn : Cond.instanceMethod yX4_turn ∈ hG := hG_mem 431 (by decide +kernel) (by decide +kernel)
theorem gV_X4_turn : Cond.selects RX4 yX4_turn yX4_turn ∈ hG := hG_mem 432 (by decide +kernel) (by decide +kernel)
theorem gC_X4_turn : Cond.code yX4_turn cX4_turn 2 none ∈ hG := hG_mem 433 (by decide +kernel) (by decide +kernel)
theorem gL_X6_141 : Cond.methodLink RX6 141 yX4_bitAt ∈ hG := hG_mem 434 (by decide +kernel) (by decide +kernel)
theorem gL_L_98 : Cond.methodLink RL 98 yX6_bit ∈ hG := hG_mem 435 (by decide +kernel) (by decide +kernel)
theorem gI_X6_bit : Cond.instanceMethod yX6_bit ∈ hG := hG_mem 436 (by decide +kernel) (by decide +kernel)
theorem gV_X6_bit : Cond.selects RX6 yX6_bit yX6_bit ∈ hG := hG_mem 437 (by decide +kernel) (by decide +kernel)
theorem gC_X6_bit : Cond.code yX6_bit cX6_bit 2 (some .int) ∈ hG := hG_mem 438 (by decide +kernel) (by decide +kernel)
theorem gL_L_102 : Cond.methodLink RL 102 yX6_size ∈ hG := hG_mem 439 (by decide +kernel) (by decide +kernel)
theorem gI_X6_size : Cond.instanceMethod yX6_size ∈ hG := hG_mem 440 (by decide +kernel) (by decide +kernel)
theorem gV_X6_size : Cond.selects RX6 yX6_size yX6_size ∈ hG := hG_mem 441 (by decide +kernel) (by decide +kernel)
theorem gC_X6_size : Cond.code yX6_size cX6_size 1 (some .int) ∈ hG := hG_mem 442 (by decide +kernel) (by decide +kernel)
theorem gO_L_10 : Cond.classLink RL 10 RX7 ∈ hG := hG_mem 443 (by decide +kernel) (by decide +kernel)
theorem gT_X7 : Cond.instantiable RX7 7 ∈ hG := hG_mem 444 (by decide +kernel) (by decide +kernel)
theorem gL_L_12 : Cond.methodLink RL 12 yX7_init ∈ hG := hG_mem 445 (by decide +kernel) (by decide +kernel)
theorem gI_X7_init : Cond.instanceMethod yX7_init ∈ hG := hG_mem 446 (by decide +kernel) (by decide +kernel)
theorem gC_X7_init : Cond.code yX7_init cX7_init 1 none ∈ hG := hG_mem 447 (by decide +kernel) (by decide +kernel)
theorem gL_X7_1 : Cond.methodLink RX7 1 objectInit ∈ hG := hG_mem 448 (by decide +kernel) (by decide +kernel)
theorem gK_X7_7 : Cond.constant RX7 7 (36864) ∈ hG := hG_mem 449 (by decide +kernel) (by decide +kernel)
theorem gF_X7_8 : Cond.fieldLink RX7 8 "KeyRowsModel" "isIn" "[Z" ∈ hG := hG_mem 450 (by decide +kernel) (by decide +kernel)
theorem gF_X7_14 : Cond.fieldLink RX7 14 "KeyRowsModel" "tape" "[Z" ∈ hG := hG_mem 451 (by decide +kernel) (by decide +kernel)
theorem gF_X7_70 : Cond.fieldLink RX7 70 "KeyRowsModel" "bits" "I" ∈ hG := hG_mem 452 (by decide +kernel) (by decide +kernel)
theorem gF_X7_59 : Cond.fieldLink RX7 59 "KeyRowsModel" "mode" "I" ∈ hG := hG_mem 453 (by decide +kernel) (by decide +kernel)
theorem gF_X7_63 : Cond.fieldLink RX7 63 "KeyRowsModel" "told" "I" ∈ hG := hG_mem 454 (by decide +kernel) (by decide +kernel)
theorem gF_X7_66 : Cond.fieldLink RX7 66 "KeyRowsModel" "agrees" "Z" ∈ hG := hG_mem 455 (by decide +kernel) (by decide +kernel)
theorem gF_X7_102 : Cond.fieldLink RX7 102 "KeyRowsModel" "at" "I" ∈ hG := hG_mem 456 (by decide +kernel) (by decide +kernel)
theorem gA_boolean : Cond.arrayClass .boolean ∈ hG := hG_mem 472 (by decide +kernel) (by decide +kernel)
theorem gL_L_17 : Cond.methodLink RL 17 yX7_put ∈ hG := hG_mem 473 (by decide +kernel) (by decide +kernel)
theorem gI_X7_put : Cond.instanceMethod yX7_put ∈ hG := hG_mem 474 (by decide +kernel) (by decide +kernel)
theorem gV_X7_put : Cond.selects RX7 yX7_put yX7_put ∈ hG := hG_mem 475 (by decide +kernel) (by decide +kernel)
theorem gC_X7_put : Cond.code yX7_put cX7_put 4 (some .int) ∈ hG := hG_mem 476 (by decide +kernel) (by decide +kernel)
theorem gL_X7_21 : Cond.methodLink RX7 21 yX7_isSet ∈ hG := hG_mem 477 (by decide +kernel) (by decide +kernel)
theorem gS_X7_isSet : Cond.static yX7_isSet ∈ hG := hG_mem 478 (by decide +kernel) (by decide +kernel)
theorem gC_X7_isSet : Cond.code yX7_isSet cX7_isSet 1 (some .boolean) ∈ hG := hG_mem 479 (by decide +kernel) (by decide +kernel)
theorem gL_X7_17 : Cond.methodLink RX7 17 yX7_within ∈ hG := hG_mem 480 (by decide +kernel) (by decide +kernel)
theorem gS_X7_within : Cond.static yX7_within ∈ hG := hG_mem 481 (by decide +kernel) (by decide +kernel)
theorem gC_X7_within : Cond.code yX7_within cX7_within 3 (some .boolean) ∈ hG := hG_mem 482 (by decide +kernel) (by decide +kernel)
theorem gL_X7_25 : Cond.methodLink RX7 25 yX7_isNumber ∈ hG := hG_mem 483 (by decide +kernel) (by decide +kernel)
theorem gS_X7_isNumber : Cond.static yX7_isNumber ∈ hG := hG_mem 484 (by decide +kernel) (by decide +kernel)
theorem gC_X7_isNumber : Cond.code yX7_isNumber cX7_isNumber 1 (some .boolean) ∈ hG := hG_mem 485 (by decide +kernel) (by decide +kernel)
theorem gL_X7_28 : Cond.methodLink RX7 28 yX7_is ∈ hG := hG_mem 486 (by decide +kernel) (by decide +kernel)
theorem gI_X7_is : Cond.instanceMethod yX7_is ∈ hG := hG_mem 488 (by decide +kernel) (by decide +kernel)
theorem gC_X7_is : Cond.code yX7_is cX7_is 3 (some .boolean) ∈ hG := hG_mem 489 (by decide +kernel) (by decide +kernel)
theorem gL_L_22 : Cond.methodLink RL 22 yX7_fill ∈ hG := hG_mem 490 (by decide +kernel) (by decide +kernel)
theorem gI_X7_fill : Cond.instanceMethod yX7_fill ∈ hG := hG_mem 491 (by decide +kernel) (by decide +kernel)
theorem gV_X7_fill : Cond.selects RX7 yX7_fill yX7_fill ∈ hG := hG_mem 492 (by decide +kernel) (by decide +kernel)
theorem gC_X7_fill : Cond.code yX7_fill cX7_fill 4 (some .int) ∈ hG := hG_mem 493 (by decide +kernel) (by decide +kernel)
theorem gL_X7_32 : Cond.methodLink RX7 32 yX7_change ∈ hG := hG_mem 494 (by decide +kernel) (by decide +kernel)
theorem gI_X7_change : Cond.instanceMethod yX7_change ∈ hG := hG_mem 496 (by decide +kernel) (by decide +kernel)
theorem gC_X7_change : Cond.code yX7_change cX7_change 7 (some .int) ∈ hG := hG_mem 497 (by decide +kernel) (by decide +kernel)
theorem gL_L_26 : Cond.methodLink RL 26 yX7_drop ∈ hG := hG_mem 498 (by decide +kernel) (by decide +kernel)
theorem gI_X7_drop : Cond.instanceMethod yX7_drop ∈ hG := hG_mem 499 (by decide +kernel) (by decide +kernel)
theorem gV_X7_drop : Cond.selects RX7 yX7_drop yX7_drop ∈ hG := hG_mem 500 (by decide +kernel) (by decide +kernel)
theorem gC_X7_drop : Cond.code yX7_drop cX7_drop 4 (some .int) ∈ hG := hG_mem 501 (by decide +kernel) (by decide +kernel)
theorem gL_L_31 : Cond.methodLink RL 31 yX7_join ∈ hG := hG_mem 502 (by decide +kernel) (by decide +kernel)
theorem gI_X7_join : Cond.instanceMethod yX7_join ∈ hG := hG_mem 503 (by decide +kernel) (by decide +kernel)
theorem gV_X7_join : Cond.selects RX7 yX7_join yX7_join ∈ hG := hG_mem 504 (by decide +kernel) (by decide +kernel)
theorem gC_X7_join : Cond.code yX7_join cX7_join 8 (some .int) ∈ hG := hG_mem 505 (by decide +kernel) (by decide +kernel)
theorem gL_X7_36 : Cond.methodLink RX7 36 yX7_many ∈ hG := hG_mem 506 (by decide +kernel) (by decide +kernel)
theorem gI_X7_many : Cond.instanceMethod yX7_many ∈ hG := hG_mem 508 (by decide +kernel) (by decide +kernel)
theorem gC_X7_many : Cond.code yX7_many cX7_many 6 (some .int) ∈ hG := hG_mem 509 (by decide +kernel) (by decide +kernel)
theorem gL_L_35 : Cond.methodLink RL 35 yX7_has ∈ hG := hG_mem 510 (by decide +kernel) (by decide +kernel)
theorem gI_X7_has : Cond.instanceMethod yX7_has ∈ hG := hG_mem 511 (by decide +kernel) (by decide +kernel)
theorem gV_X7_has : Cond.selects RX7 yX7_has yX7_has ∈ hG := hG_mem 512 (by decide +kernel) (by decide +kernel)
theorem gC_X7_has : Cond.code yX7_has cX7_has 3 (some .int) ∈ hG := hG_mem 513 (by decide +kernel) (by decide +kernel)
theorem gL_L_40 : Cond.methodLink RL 40 yX7_count ∈ hG := hG_mem 514 (by decide +kernel) (by decide +kernel)
theorem gI_X7_count : Cond.instanceMethod yX7_count ∈ hG := hG_mem 515 (by decide +kernel) (by decide +kernel)
theorem gV_X7_count : Cond.selects RX7 yX7_count yX7_count ∈ hG := hG_mem 516 (by decide +kernel) (by decide +kernel)
theorem gC_X7_count : Cond.code yX7_count cX7_count 2 (some .int) ∈ hG := hG_mem 517 (by decide +kernel) (by decide +kernel)
theorem gL_L_44 : Cond.methodLink RL 44 yX7_rank ∈ hG := hG_mem 518 (by decide +kernel) (by decide +kernel)
theorem gI_X7_rank : Cond.instanceMethod yX7_rank ∈ hG := hG_mem 519 (by decide +kernel) (by decide +kernel)
theorem gV_X7_rank : Cond.selects RX7 yX7_rank yX7_rank ∈ hG := hG_mem 520 (by decide +kernel) (by decide +kernel)
theorem gC_X7_rank : Cond.code yX7_rank cX7_rank 3 (some .int) ∈ hG := hG_mem 521 (by decide +kernel) (by decide +kernel)
theorem gL_L_48 : Cond.methodLink RL 48 yX7_select ∈ hG := hG_mem 522 (by decide +kernel) (by decide +kernel)
theorem gI_X7_select : Cond.instanceMethod yX7_select ∈ hG := hG_mem 523 (by decide +kernel) (by decide +kernel)
theorem gV_X7_select : Cond.selects RX7 yX7_select yX7_select ∈ hG := hG_mem 524 (by decide +kernel) (by decide +kernel)
theorem gC_X7_select : Cond.code yX7_select cX7_select 3 (some .int) ∈ hG := hG_mem 525 (by decide +kernel) (by decide +kernel)
theorem gL_X7_40 : Cond.methodLink RX7 40 yX7_nth ∈ hG := hG_mem 526 (by decide +kernel) (by decide +kernel)
theorem gI_X7_nth : Cond.instanceMethod yX7_nth ∈ hG := hG_mem 528 (by decide +kernel) (by decide +kernel)
theorem gC_X7_nth : Cond.code yX7_nth cX7_nth 5 (some .int) ∈ hG := hG_mem 529 (by decide +kernel) (by decide +kernel)
theorem gL_L_52 : Cond.methodLink RL 52 yX7_next ∈ hG := hG_mem 530 (by decide +kernel) (by decide +kernel)
theorem gI_X7_next : Cond.instanceMethod yX7_next ∈ hG := hG_mem 531 (by decide +kernel) (by decide +kernel)
theorem gV_X7_next : Cond.selects RX7 yX7_next yX7_next ∈ hG := hG_mem 532 (by decide +kernel) (by decide +kernel)
theorem gC_X7_next : Cond.code yX7_next cX7_next 4 (some .int) ∈ hG := hG_mem 533 (by decide +kernel) (by decide +kernel)
theorem gL_L_56 : Cond.methodLink RL 56 yX7_before ∈ hG := hG_mem 534 (by decide +kernel) (by decide +kernel)
theorem gI_X7_before : Cond.instanceMethod yX7_before ∈ hG := hG_mem 535 (by decide +kernel) (by decide +kernel)
theorem gV_X7_before : Cond.selects RX7 yX7_before yX7_before ∈ hG := hG_mem 536 (by decide +kernel) (by decide +kernel)
theorem gC_X7_before : Cond.code yX7_before cX7_before 4 (some .int) ∈ hG := hG_mem 537 (by decide +kernel) (by decide +kernel)
theorem gL_L_60 : Cond.methodLink RL 60 yX7_common ∈ hG := hG_mem 538 (by decide +kernel) (by decide +kernel)
theorem gI_X7_common : Cond.instanceMethod yX7_common ∈ hG := hG_mem 539 (by decide +kernel) (by decide +kernel)
theorem gV_X7_common : Cond.selects RX7 yX7_common yX7_common ∈ hG := hG_mem 540 (by decide +kernel) (by decide +kernel)
theorem gC_X7_common : Cond.code yX7_common cX7_common 5 (some .int) ∈ hG := hG_mem 541 (by decide +kernel) (by decide +kernel)
theorem gL_L_64 : Cond.methodLink RL 64 yX7_piece ∈ hG := hG_mem 542 (by decide +kernel) (by decide +kernel)
theorem gI_X7_piece : Cond.instanceMethod yX7_piece ∈ hG := hG_mem 543 (by decide +kernel) (by decide +kernel)
theorem gV_X7_piece : Cond.selects RX7 yX7_piece yX7_piece ∈ hG := hG_mem 544 (by decide +kernel) (by decide +kernel)
theorem gC_X7_piece : Cond.code yX7_piece cX7_piece 4 (some .int) ∈ hG := hG_mem 545 (by decide +kernel) (by decide +kernel)
theorem gL_X7_56 : Cond.methodLink RX7 56 yX7_formOf ∈ hG := hG_mem 546 (by decide +kernel) (by decide +kernel)
theorem gI_X7_formOf : Cond.instanceMethod yX7_formOf ∈ hG := hG_mem 548 (by decide +kernel) (by decide +kernel)
theorem gC_X7_formOf : Cond.code yX7_formOf cX7_formOf 4 (some .int) ∈ hG := hG_mem 549 (by decide +kernel) (by decide +kernel)
theorem gL_X7_53 : Cond.methodLink RX7 53 yX7_bitsOf ∈ hG := hG_mem 550 (by decide +kernel) (by decide +kernel)
theorem gI_X7_bitsOf : Cond.instanceMethod yX7_bitsOf ∈ hG := hG_mem 552 (by decide +kernel) (by decide +kernel)
theorem gC_X7_bitsOf : Cond.code yX7_bitsOf cX7_bitsOf 6 (some .int) ∈ hG := hG_mem 553 (by decide +kernel) (by decide +kernel)
theorem gL_X7_47 : Cond.methodLink RX7 47 yX7_numbersOf ∈ hG := hG_mem 554 (by decide +kernel) (by decide +kernel)
theorem gI_X7_numbersOf : Cond.instanceMethod yX7_numbersOf ∈ hG := hG_mem 556 (by decide +kernel) (by decide +kernel)
theorem gC_X7_numbersOf : Cond.code yX7_numbersOf cX7_numbersOf 3 (some .int) ∈ hG := hG_mem 557 (by decide +kernel) (by decide +kernel)
theorem gL_X7_50 : Cond.methodLink RX7 50 yX7_runsOf ∈ hG := hG_mem 558 (by decide +kernel) (by decide +kernel)
theorem gI_X7_runsOf : Cond.instanceMethod yX7_runsOf ∈ hG := hG_mem 560 (by decide +kernel) (by decide +kernel)
theorem gC_X7_runsOf : Cond.code yX7_runsOf cX7_runsOf 5 (some .int) ∈ hG := hG_mem 561 (by decide +kernel) (by decide +kernel)
theorem gL_X7_44 : Cond.methodLink RX7 44 yX7_begins ∈ hG := hG_mem 562 (by decide +kernel) (by decide +kernel)
theorem gI_X7_begins : Cond.instanceMethod yX7_begins ∈ hG := hG_mem 564 (by decide +kernel) (by decide +kernel)
theorem gC_X7_begins : Cond.code yX7_begins cX7_begins 3 (some .boolean) ∈ hG := hG_mem 565 (by decide +kernel) (by decide +kernel)
theorem gL_L_68 : Cond.methodLink RL 68 yX7_cost ∈ hG := hG_mem 566 (by decide +kernel) (by decide +kernel)
theorem gI_X7_cost : Cond.instanceMethod yX7_cost ∈ hG := hG_mem 567 (by decide +kernel) (by decide +kernel)
theorem gV_X7_cost : Cond.selects RX7 yX7_cost yX7_cost ∈ hG := hG_mem 568 (by decide +kernel) (by decide +kernel)
theorem gC_X7_cost : Cond.code yX7_cost cX7_cost 4 (some .int) ∈ hG := hG_mem 569 (by decide +kernel) (by decide +kernel)
theorem gL_L_72 : Cond.methodLink RL 72 yX7_length ∈ hG := hG_mem 570 (by decide +kernel) (by decide +kernel)
theorem gI_X7_length : Cond.instanceMethod yX7_length ∈ hG := hG_mem 571 (by decide +kernel) (by decide +kernel)
theorem gV_X7_length : Cond.selects RX7 yX7_length yX7_length ∈ hG := hG_mem 572 (by decide +kernel) (by decide +kernel)
theorem gC_X7_length : Cond.code yX7_length cX7_length 3 (some .int) ∈ hG := hG_mem 573 (by decide +kernel) (by decide +kernel)
theorem gL_X7_98 : Cond.methodLink RX7 98 yX7_code ∈ hG := hG_mem 574 (by decide +kernel) (by decide +kernel)
theorem gI_X7_code : Cond.instanceMethod yX7_code ∈ hG := hG_mem 576 (by decide +kernel) (by decide +kernel)
theorem gC_X7_code : Cond.code yX7_code cX7_code 4 none ∈ hG := hG_mem 577 (by decide +kernel) (by decide +kernel)
theorem gL_X7_77 : Cond.methodLink RX7 77 yX7_tellParts ∈ hG := hG_mem 578 (by decide +kernel) (by decide +kernel)
theorem gI_X7_tellParts : Cond.instanceMethod yX7_tellParts ∈ hG := hG_mem 580 (by decide +kernel) (by decide +kernel)
theorem gC_X7_tellParts : Cond.code yX7_tellParts cX7_tellParts 5 none ∈ hG := hG_mem 581 (by decide +kernel) (by decide +kernel)
theorem gL_X7_87 : Cond.methodLink RX7 87 yX7_tellNumber ∈ hG := hG_mem 582 (by decide +kernel) (by decide +kernel)
theorem gI_X7_tellNumber : Cond.instanceMethod yX7_tellNumber ∈ hG := hG_mem 584 (by decide +kernel) (by decide +kernel)
theorem gC_X7_tellNumber : Cond.code yX7_tellNumber cX7_tellNumber 4 none ∈ hG := hG_mem 585 (by decide +kernel) (by decide +kernel)
theorem gL_X7_73 : Cond.methodLink RX7 73 yX7_tell ∈ hG := hG_mem 586 (by decide +kernel) (by decide +kernel)
theorem gI_X7_tell : Cond.instanceMethod yX7_tell ∈ hG := hG_mem 588 (by decide +kernel) (by decide +kernel)
theorem gC_X7_tell : Cond.code yX7_tell cX7_tell 2 none ∈ hG := hG_mem 589 (by decide +kernel) (by decide +kernel)
theorem gL_X7_91 : Cond.methodLink RX7 91 yX7_lowOf ∈ hG := hG_mem 590 (by decide +kernel) (by decide +kernel)
theorem gS_X7_lowOf : Cond.static yX7_lowOf ∈ hG := hG_mem 591 (by decide +kernel) (by decide +kernel)
theorem gC_X7_lowOf : Cond.code yX7_lowOf cX7_lowOf 2 (some .int) ∈ hG := hG_mem 592 (by decide +kernel) (by decide +kernel)
theorem gL_X7_81 : Cond.methodLink RX7 81 yX7_tellGaps ∈ hG := hG_mem 593 (by decide +kernel) (by decide +kernel)
theorem gI_X7_tellGaps : Cond.instanceMethod yX7_tellGaps ∈ hG := hG_mem 595 (by decide +kernel) (by decide +kernel)
theorem gC_X7_tellGaps : Cond.code yX7_tellGaps cX7_tellGaps 5 none ∈ hG := hG_mem 596 (by decide +kernel) (by decide +kernel)
theorem gL_X7_84 : Cond.methodLink RX7 84 yX7_tellPieces ∈ hG := hG_mem 597 (by decide +kernel) (by decide +kernel)
theorem gI_X7_tellPieces : Cond.instanceMethod yX7_tellPieces ∈ hG := hG_mem 599 (by decide +kernel) (by decide +kernel)
theorem gC_X7_tellPieces : Cond.code yX7_tellPieces cX7_tellPieces 5 none ∈ hG := hG_mem 600 (by decide +kernel) (by decide +kernel)
theorem gL_X7_95 : Cond.methodLink RX7 95 yX7_lengthOf ∈ hG := hG_mem 601 (by decide +kernel) (by decide +kernel)
theorem gI_X7_lengthOf : Cond.instanceMethod yX7_lengthOf ∈ hG := hG_mem 603 (by decide +kernel) (by decide +kernel)
theorem gC_X7_lengthOf : Cond.code yX7_lengthOf cX7_lengthOf 4 (some .int) ∈ hG := hG_mem 604 (by decide +kernel) (by decide +kernel)
theorem gL_L_76 : Cond.methodLink RL 76 yX7_write ∈ hG := hG_mem 605 (by decide +kernel) (by decide +kernel)
theorem gI_X7_write : Cond.instanceMethod yX7_write ∈ hG := hG_mem 606 (by decide +kernel) (by decide +kernel)
theorem gV_X7_write : Cond.selects RX7 yX7_write yX7_write ∈ hG := hG_mem 607 (by decide +kernel) (by decide +kernel)
theorem gC_X7_write : Cond.code yX7_write cX7_write 3 (some .int) ∈ hG := hG_mem 608 (by decide +kernel) (by decide +kernel)
theorem gL_L_80 : Cond.methodLink RL 80 yX7_read ∈ hG := hG_mem 609 (by decide +kernel) (by decide +kernel)
theorem gI_X7_read : Cond.instanceMethod yX7_read ∈ hG := hG_mem 610 (by decide +kernel) (by decide +kernel)
theorem gV_X7_read : Cond.selects RX7 yX7_read yX7_read ∈ hG := hG_mem 611 (by decide +kernel) (by decide +kernel)
theorem gC_X7_read : Cond.code yX7_read cX7_read 4 (some .int) ∈ hG := hG_mem 612 (by decide +kernel) (by decide +kernel)
theorem gL_X7_125 : Cond.methodLink RX7 125 yX7_isCode ∈ hG := hG_mem 613 (by decide +kernel) (by decide +kernel)
theorem gI_X7_isCode : Cond.instanceMethod yX7_isCode ∈ hG := hG_mem 615 (by decide +kernel) (by decide +kernel)
theorem gC_X7_isCode : Cond.code yX7_isCode cX7_isCode 3 (some .boolean) ∈ hG := hG_mem 616 (by decide +kernel) (by decide +kernel)
theorem gK_X7_109 : Cond.constant RX7 109 (32768) ∈ hG := hG_mem 617 (by decide +kernel) (by decide +kernel)
theorem gL_X7_110 : Cond.methodLink RX7 110 yX7_takeParts ∈ hG := hG_mem 618 (by decide +kernel) (by decide +kernel)
theorem gI_X7_takeParts : Cond.instanceMethod yX7_takeParts ∈ hG := hG_mem 620 (by decide +kernel) (by decide +kernel)
theorem gC_X7_takeParts : Cond.code yX7_takeParts cX7_takeParts 7 none ∈ hG := hG_mem 621 (by decide +kernel) (by decide +kernel)
theorem gL_X7_119 : Cond.methodLink RX7 119 yX7_takeNumber ∈ hG := hG_mem 622 (by decide +kernel) (by decide +kernel)
theorem gI_X7_takeNumber : Cond.instanceMethod yX7_takeNumber ∈ hG := hG_mem 624 (by decide +kernel) (by decide +kernel)
theorem gC_X7_takeNumber : Cond.code yX7_takeNumber cX7_takeNumber 4 (some .int) ∈ hG := hG_mem 625 (by decide +kernel) (by decide +kernel)
theorem gL_X7_105 : Cond.methodLink RX7 105 yX7_take ∈ hG := hG_mem 626 (by decide +kernel) (by decide +kernel)
theorem gI_X7_take : Cond.instanceMethod yX7_take ∈ hG := hG_mem 628 (by decide +kernel) (by decide +kernel)
theorem gC_X7_take : Cond.code yX7_take cX7_take 1 (some .boolean) ∈ hG := hG_mem 629 (by decide +kernel) (by decide +kernel)
theorem gL_X7_122 : Cond.methodLink RX7 122 yX7_mark ∈ hG := hG_mem 630 (by decide +kernel) (by decide +kernel)
theorem gI_X7_mark : Cond.instanceMethod yX7_mark ∈ hG := hG_mem 632 (by decide +kernel) (by decide +kernel)
theorem gC_X7_mark : Cond.code yX7_mark cX7_mark 2 none ∈ hG := hG_mem 633 (by decide +kernel) (by decide +kernel)
theorem gL_X7_113 : Cond.methodLink RX7 113 yX7_takeGaps ∈ hG := hG_mem 634 (by decide +kernel) (by decide +kernel)
theorem gI_X7_takeGaps : Cond.instanceMethod yX7_takeGaps ∈ hG := hG_mem 636 (by decide +kernel) (by decide +kernel)
theorem gC_X7_takeGaps : Cond.code yX7_takeGaps cX7_takeGaps 7 none ∈ hG := hG_mem 637 (by decide +kernel) (by decide +kernel)
theorem gL_X7_116 : Cond.methodLink RX7 116 yX7_takePieces ∈ hG := hG_mem 638 (by decide +kernel) (by decide +kernel)
theorem gI_X7_takePieces : Cond.instanceMethod yX7_takePieces ∈ hG := hG_mem 640 (by decide +kernel) (by decide +kernel)
theorem gC_X7_takePieces : Cond.code yX7_takePieces cX7_takePieces 8 none ∈ hG := hG_mem 641 (by decide +kernel) (by decide +kernel)
theorem gL_L_84 : Cond.methodLink RL 84 yX7_ask ∈ hG := hG_mem 642 (by decide +kernel) (by decide +kernel)
theorem gI_X7_ask : Cond.instanceMethod yX7_ask ∈ hG := hG_mem 643 (by decide +kernel) (by decide +kernel)
theorem gV_X7_ask : Cond.selects RX7 yX7_ask yX7_ask ∈ hG := hG_mem 644 (by decide +kernel) (by decide +kernel)
theorem gC_X7_ask : Cond.code yX7_ask cX7_ask 3 (some .int) ∈ hG := hG_mem 645 (by decide +kernel) (by decide +kernel)
theorem gL_L_89 : Cond.methodLink RL 89 yX7_sign ∈ hG := hG_mem 646 (by decide +kernel) (by decide +kernel)
theorem gI_X7_sign : Cond.instanceMethod yX7_sign ∈ hG := hG_mem 647 (by decide +kernel) (by decide +kernel)
theorem gV_X7_sign : Cond.selects RX7 yX7_sign yX7_sign ∈ hG := hG_mem 648 (by decide +kernel) (by decide +kernel)
theorem gC_X7_sign : Cond.code yX7_sign cX7_sign 2 (some .int) ∈ hG := hG_mem 649 (by decide +kernel) (by decide +kernel)
theorem gL_L_93 : Cond.methodLink RL 93 yX7_cut ∈ hG := hG_mem 650 (by decide +kernel) (by decide +kernel)
theorem gI_X7_cut : Cond.instanceMethod yX7_cut ∈ hG := hG_mem 651 (by decide +kernel) (by decide +kernel)
theorem gV_X7_cut : Cond.selects RX7 yX7_cut yX7_cut ∈ hG := hG_mem 652 (by decide +kernel) (by decide +kernel)
theorem gC_X7_cut : Cond.code yX7_cut cX7_cut 3 (some .int) ∈ hG := hG_mem 653 (by decide +kernel) (by decide +kernel)
theorem gL_L_97 : Cond.methodLink RL 97 yX7_flip ∈ hG := hG_mem 654 (by decide +kernel) (by decide +kernel)
theorem gI_X7_flip : Cond.instanceMethod yX7_flip ∈ hG := hG_mem 655 (by decide +kernel) (by decide +kernel)
theorem gV_X7_flip : Cond.selects RX7 yX7_flip yX7_flip ∈ hG := hG_mem 656 (by decide +kernel) (by decide +kernel)
theorem gC_X7_flip : Cond.code yX7_flip cX7_flip 2 (some .int) ∈ hG := hG_mem 657 (by decide +kernel) (by decide +kernel)
theorem gL_L_101 : Cond.methodLink RL 101 yX7_bit ∈ hG := hG_mem 658 (by decide +kernel) (by decide +kernel)
theorem gI_X7_bit : Cond.instanceMethod yX7_bit ∈ hG := hG_mem 659 (by decide +kernel) (by decide +kernel)
theorem gV_X7_bit : Cond.selects RX7 yX7_bit yX7_bit ∈ hG := hG_mem 660 (by decide +kernel) (by decide +kernel)
theorem gC_X7_bit : Cond.code yX7_bit cX7_bit 2 (some .int) ∈ hG := hG_mem 661 (by decide +kernel) (by decide +kernel)
theorem gL_L_106 : Cond.methodLink RL 106 yX7_size ∈ hG := hG_mem 662 (by decide +kernel) (by decide +kernel)
theorem gI_X7_size : Cond.instanceMethod yX7_size ∈ hG := hG_mem 663 (by decide +kernel) (by decide +kernel)
theorem gV_X7_size : Cond.selects RX7 yX7_size yX7_size ∈ hG := hG_mem 664 (by decide +kernel) (by decide +kernel)
theorem gC_X7_size : Cond.code yX7_size cX7_size 1 (some .int) ∈ hG := hG_mem 665 (by decide +kernel) (by decide +kernel)
theorem gW_X1 : ∀ w ∈ u_ws RX1 TX1 0, w ∈ hG := fun w h => by
  have h1 : (u_ws RX1 TX1 0).all (fun w => decide (w ∈ lw_tbl) && goodWord w) = true := by decide +kernel
  have h2 := List.all_eq_true.mp h1 w h
  simp only [Bool.and_eq_true, decide_eq_true_eq] at h2
  rw [hG_eq]
  exact List.mem_filter.mpr h2
theorem gW_X2 : ∀ w ∈ u_ws RX2 TX2 1, w ∈ hG := fun w h => by
  have h1 : (u_ws RX2 TX2 1).all (fun w => decide (w ∈ lw_tbl) && goodWord w) = true := by decide +kernel
  have h2 := List.all_eq_true.mp h1 w h
  simp only [Bool.and_eq_true, decide_eq_true_eq] at h2
  rw [hG_eq]
  exact List.mem_filter.mpr h2
theorem gW_X3 : ∀ w ∈ u_ws RX3 TX3 0, w ∈ hG := fun w h => by
  have h1 : (u_ws RX3 TX3 0).all (fun w => decide (w ∈ lw_tbl) && goodWord w) = true := by decide +kernel
  have h2 := List.all_eq_true.mp h1 w h
  simp only [Bool.and_eq_true, decide_eq_true_eq] at h2
  rw [hG_eq]
  exact List.mem_filter.mpr h2
theorem gW_X4 : ∀ w ∈ u_ws RX4 TX4 3, w ∈ hG := fun w h => by
  have h1 : (u_ws RX4 TX4 3).all (fun w => decide (w ∈ lw_tbl) && goodWord w) = true := by decide +kernel
  have h2 := List.all_eq_true.mp h1 w h
  simp only [Bool.and_eq_true, decide_eq_true_eq] at h2
  rw [hG_eq]
  exact List.mem_filter.mpr h2
theorem gW_X5 : ∀ w ∈ u_ws RX5 TX5 0, w ∈ hG := fun w h => by
  have h1 : (u_ws RX5 TX5 0).all (fun w => decide (w ∈ lw_tbl) && goodWord w) = true := by decide +kernel
  have h2 := List.all_eq_true.mp h1 w h
  simp only [Bool.and_eq_true, decide_eq_true_eq] at h2
  rw [hG_eq]
  exact List.mem_filter.mpr h2
theorem gW_X6 : ∀ w ∈ u_ws RX6 TX6 4, w ∈ hG := fun w h => by
  have h1 : (u_ws RX6 TX6 4).all (fun w => decide (w ∈ lw_tbl) && goodWord w) = true := by decide +kernel
  have h2 := List.all_eq_true.mp h1 w h
  simp only [Bool.and_eq_true, decide_eq_true_eq] at h2
  rw [hG_eq]
  exact List.mem_filter.mpr h2
theorem gW_X7 : ∀ w ∈ u_ws RX7 TX7 7, w ∈ hG := fun w h => by
  have h1 : (u_ws RX7 TX7 7).all (fun w => decide (w ∈ lw_tbl) && goodWord w) = true := by decide +kernel
  have h2 := List.all_eq_true.mp h1 w h
  simp only [Bool.and_eq_true, decide_eq_true_eq] at h2
  rw [hG_eq]
  exact List.mem_filter.mpr h2
def hNm : List (String × Nat × MethodName × String) := [(RX6, 23, yX4_init, "KeyRows"), (RX6, 28, yX2_init, "KeyRows"), (RX6, 35, yX5_init, "KeyRows"), (RX5, 3, yX0_init, "KeyRows"), (RX6, 38, yX1_init, "KeyRows"), (RX1, 3, yX0_init, "KeyRows"), (RX6, 41, yX3_init, "KeyRows"), (RX3, 3, yX0_init, "KeyRows"), (RX2, 15, yX6_isNumber, "KeyRows"), (RX2, 23, yX6_isBorder, "KeyRows"), (RX2, 35, yX6_isSpan, "KeyRows")]
def hNd : List MethodName := [⟨"KeyRows$Code", "bitsFor", "(LKeyRows$Numbers;)I"⟩, ⟨"KeyRows$Code", "tell", "(LKeyRows$Numbers;LKeyRows$Tape;)V"⟩, ⟨"KeyRows$Code", "learn", "(LKeyRows$Tape;LKeyRows$Numbers;)Z"⟩]
def hNc : List (String × String) := [("KeyRows$Gaps", "KeyRows$Code"), ("KeyRows$Pieces", "KeyRows$Code"), ("KeyRows$TwoParts", "KeyRows$Code")]
def hNa : List String := ["KeyRows$Numbers", "KeyRows$Code"]
theorem hNm_in : ∀ q ∈ hNm, Cond.methodLinkNest q.1 q.2.1 q.2.2.1 q.2.2.2 ∈ lw_tbl := by decide +kernel
theorem hNd_in : ∀ q ∈ hNd, Cond.declares q ∈ lw_tbl := by decide +kernel
theorem hNc_in : ∀ q ∈ hNc, Cond.castable q.1 q.2 ∈ lw_tbl := by decide +kernel
theorem hNa_in : ∀ q ∈ hNa, Cond.arrayOver (.object q) ∈ lw_tbl := by decide +kernel
theorem gN_X6_23 : (RX6, 23, yX4_init, "KeyRows") ∈ hNm := List.mem_of_getElem? (i := 0) rfl
theorem gN_X6_28 : (RX6, 28, yX2_init, "KeyRows") ∈ hNm := List.mem_of_getElem? (i := 1) rfl
theorem gN_X6_35 : (RX6, 35, yX5_init, "KeyRows") ∈ hNm := List.mem_of_getElem? (i := 2) rfl
theorem gN_X5_3 : (RX5, 3, yX0_init, "KeyRows") ∈ hNm := List.mem_of_getElem? (i := 3) rfl
theorem gN_X6_38 : (RX6, 38, yX1_init, "KeyRows") ∈ hNm := List.mem_of_getElem? (i := 4) rfl
theorem gN_X1_3 : (RX1, 3, yX0_init, "KeyRows") ∈ hNm := List.mem_of_getElem? (i := 5) rfl
theorem gN_X6_41 : (RX6, 41, yX3_init, "KeyRows") ∈ hNm := List.mem_of_getElem? (i := 6) rfl
theorem gN_X3_3 : (RX3, 3, yX0_init, "KeyRows") ∈ hNm := List.mem_of_getElem? (i := 7) rfl
theorem gN_X2_15 : (RX2, 15, yX6_isNumber, "KeyRows") ∈ hNm := List.mem_of_getElem? (i := 8) rfl
theorem gN_X2_23 : (RX2, 23, yX6_isBorder, "KeyRows") ∈ hNm := List.mem_of_getElem? (i := 9) rfl
theorem gN_X2_35 : (RX2, 35, yX6_isSpan, "KeyRows") ∈ hNm := List.mem_of_getElem? (i := 10) rfl
end
section
theorem dX0_init_0 : decode cX0_init 0 = .ok (.aload_n 0, 1) := by decide +kernel
theorem dX0_init_1 : decode cX0_init 1 = .ok (.invokespecial 1, 3) := by decide +kernel
theorem dX0_init_4 : decode cX0_init 4 = .ok (.return_, 1) := by decide +kernel
theorem dX1_init_0 : decode cX1_init 0 = .ok (.aload_n 0, 1) := by decide +kernel
theorem dX1_init_1 : decode cX1_init 1 = .ok (.invokespecial 3, 3) := by decide +kernel
theorem dX1_init_4 : decode cX1_init 4 = .ok (.return_, 1) := by decide +kernel
theorem dX1_bitsFor_0 : decode cX1_bitsFor 0 = .ok (.aload_n 1, 1) := by decide +kernel
theorem dX1_bitsFor_1 : decode cX1_bitsFor 1 = .ok (.invokevirtual 9, 3) := by decide +kernel
theorem dX1_bitsFor_4 : decode cX1_bitsFor 4 = .ok (.istore_n 2, 1) := by decide +kernel
theorem dX1_bitsFor_5 : decode cX1_bitsFor 5 = .ok (.bipush 13, 2) := by decide +kernel
theorem dX1_bitsFor_7 : decode cX1_bitsFor 7 = .ok (.istore_n 3, 1) := by decide +kernel
theorem dX1_bitsFor_8 : decode cX1_bitsFor 8 = .ok (.iconst (-1), 1) := by decide +kernel
theorem dX1_bitsFor_9 : decode cX1_bitsFor 9 = .ok (.istore 4, 2) := by decide +kernel
theorem dX1_bitsFor_11 : decode cX1_bitsFor 11 = .ok (.iconst 0, 1) := by decide +kernel
theorem dX1_bitsFor_12 : decode cX1_bitsFor 12 = .ok (.istore 5, 2) := by decide +kernel
theorem dX1_bitsFor_14 : decode cX1_bitsFor 14 = .ok (.iload 5, 2) := by decide +kernel
theorem dX1_bitsFor_16 : decode cX1_bitsFor 16 = .ok (.iload_n 2, 1) := by decide +kernel
theorem dX1_bitsFor_17 : decode cX1_bitsFor 17 = .ok (.if_icmp .ge 38, 3) := by decide +kernel
theorem dX1_bitsFor_20 : decode cX1_bitsFor 20 = .ok (.aload_n 1, 1) := by decide +kernel
theorem dX1_bitsFor_21 : decode cX1_bitsFor 21 = .ok (.iload 4, 2) := by decide +kernel
theorem dX1_bitsFor_23 : decode cX1_bitsFor 23 = .ok (.iconst 1, 1) := by decide +kernel
theorem dX1_bitsFor_24 : decode cX1_bitsFor 24 = .ok (.iadd, 1) := by decide +kernel
theorem dX1_bitsFor_25 : decode cX1_bitsFor 25 = .ok (.invokevirtual 15, 3) := by decide +kernel
theorem dX1_bitsFor_28 : decode cX1_bitsFor 28 = .ok (.istore 6, 2) := by decide +kernel
theorem dX1_bitsFor_30 : decode cX1_bitsFor 30 = .ok (.iload_n 3, 1) := by decide +kernel
theorem dX1_bitsFor_31 : decode cX1_bitsFor 31 = .ok (.iconst 2, 1) := by decide +kernel
theorem dX1_bitsFor_32 : decode cX1_bitsFor 32 = .ok (.iload 6, 2) := by decide +kernel
theorem dX1_bitsFor_34 : decode cX1_bitsFor 34 = .ok (.iload 4, 2) := by decide +kernel
theorem dX1_bitsFor_36 : decode cX1_bitsFor 36 = .ok (.isub, 1) := by decide +kernel
theorem dX1_bitsFor_37 : decode cX1_bitsFor 37 = .ok (.invokestatic 19, 3) := by decide +kernel
theorem dX1_bitsFor_40 : decode cX1_bitsFor 40 = .ok (.imul, 1) := by decide +kernel
theorem dX1_bitsFor_41 : decode cX1_bitsFor 41 = .ok (.iconst 1, 1) := by decide +kernel
theorem dX1_bitsFor_42 : decode cX1_bitsFor 42 = .ok (.isub, 1) := by decide +kernel
theorem dX1_bitsFor_43 : decode cX1_bitsFor 43 = .ok (.iadd, 1) := by decide +kernel
theorem dX1_bitsFor_44 : decode cX1_bitsFor 44 = .ok (.istore_n 3, 1) := by decide +kernel
theorem dX1_bitsFor_45 : decode cX1_bitsFor 45 = .ok (.iload 6, 2) := by decide +kernel
theorem dX1_bitsFor_47 : decode cX1_bitsFor 47 = .ok (.istore 4, 2) := by decide +kernel
theorem dX1_bitsFor_49 : decode cX1_bitsFor 49 = .ok (.iinc 5 1, 3) := by decide +kernel
theorem dX1_bitsFor_52 : decode cX1_bitsFor 52 = .ok (.goto (-38), 3) := by decide +kernel
theorem dX1_bitsFor_55 : decode cX1_bitsFor 55 = .ok (.iload_n 3, 1) := by decide +kernel
theorem dX1_bitsFor_56 : decode cX1_bitsFor 56 = .ok (.ireturn, 1) := by decide +kernel
theorem dX1_tell_0 : decode cX1_tell 0 = .ok (.aload_n 1, 1) := by decide +kernel
theorem dX1_tell_1 : decode cX1_tell 1 = .ok (.invokevirtual 9, 3) := by decide +kernel
theorem dX1_tell_4 : decode cX1_tell 4 = .ok (.istore_n 3, 1) := by decide +kernel
theorem dX1_tell_5 : decode cX1_tell 5 = .ok (.aload_n 2, 1) := by decide +kernel
theorem dX1_tell_6 : decode cX1_tell 6 = .ok (.iload_n 3, 1) := by decide +kernel
theorem dX1_tell_7 : decode cX1_tell 7 = .ok (.bipush 13, 2) := by decide +kernel
theorem dX1_tell_9 : decode cX1_tell 9 = .ok (.invokevirtual 24, 3) := by decide +kernel
theorem dX1_tell_12 : decode cX1_tell 12 = .ok (.iconst (-1), 1) := by decide +kernel
theorem dX1_tell_13 : decode cX1_tell 13 = .ok (.istore 4, 2) := by decide +kernel
theorem dX1_tell_15 : decode cX1_tell 15 = .ok (.iconst 0, 1) := by decide +kernel
theorem dX1_tell_16 : decode cX1_tell 16 = .ok (.istore 5, 2) := by decide +kernel
theorem dX1_tell_18 : decode cX1_tell 18 = .ok (.iload 5, 2) := by decide +kernel
theorem dX1_tell_20 : decode cX1_tell 20 = .ok (.iload_n 3, 1) := by decide +kernel
theorem dX1_tell_21 : decode cX1_tell 21 = .ok (.if_icmp .ge 53, 3) := by decide +kernel
theorem dX1_tell_24 : decode cX1_tell 24 = .ok (.aload_n 1, 1) := by decide +kernel
theorem dX1_tell_25 : decode cX1_tell 25 = .ok (.iload 4, 2) := by decide +kernel
theorem dX1_tell_27 : decode cX1_tell 27 = .ok (.iconst 1, 1) := by decide +kernel
theorem dX1_tell_28 : decode cX1_tell 28 = .ok (.iadd, 1) := by decide +kernel
theorem dX1_tell_29 : decode cX1_tell 29 = .ok (.invokevirtual 15, 3) := by decide +kernel
theorem dX1_tell_32 : decode cX1_tell 32 = .ok (.istore 6, 2) := by decide +kernel
theorem dX1_tell_34 : decode cX1_tell 34 = .ok (.iload 6, 2) := by decide +kernel
theorem dX1_tell_36 : decode cX1_tell 36 = .ok (.iload 4, 2) := by decide +kernel
theorem dX1_tell_38 : decode cX1_tell 38 = .ok (.isub, 1) := by decide +kernel
theorem dX1_tell_39 : decode cX1_tell 39 = .ok (.invokestatic 19, 3) := by decide +kernel
theorem dX1_tell_42 : decode cX1_tell 42 = .ok (.istore 7, 2) := by decide +kernel
theorem dX1_tell_44 : decode cX1_tell 44 = .ok (.aload_n 2, 1) := by decide +kernel
theorem dX1_tell_45 : decode cX1_tell 45 = .ok (.iconst 0, 1) := by decide +kernel
theorem dX1_tell_46 : decode cX1_tell 46 = .ok (.iload 7, 2) := by decide +kernel
theorem dX1_tell_48 : decode cX1_tell 48 = .ok (.iconst 1, 1) := by decide +kernel
theorem dX1_tell_49 : decode cX1_tell 49 = .ok (.isub, 1) := by decide +kernel
theorem dX1_tell_50 : decode cX1_tell 50 = .ok (.invokevirtual 24, 3) := by decide +kernel
theorem dX1_tell_53 : decode cX1_tell 53 = .ok (.aload_n 2, 1) := by decide +kernel
theorem dX1_tell_54 : decode cX1_tell 54 = .ok (.iload 6, 2) := by decide +kernel
theorem dX1_tell_56 : decode cX1_tell 56 = .ok (.iload 4, 2) := by decide +kernel
theorem dX1_tell_58 : decode cX1_tell 58 = .ok (.isub, 1) := by decide +kernel
theorem dX1_tell_59 : decode cX1_tell 59 = .ok (.iload 7, 2) := by decide +kernel
theorem dX1_tell_61 : decode cX1_tell 61 = .ok (.invokevirtual 24, 3) := by decide +kernel
theorem dX1_tell_64 : decode cX1_tell 64 = .ok (.iload 6, 2) := by decide +kernel
theorem dX1_tell_66 : decode cX1_tell 66 = .ok (.istore 4, 2) := by decide +kernel
theorem dX1_tell_68 : decode cX1_tell 68 = .ok (.iinc 5 1, 3) := by decide +kernel
theorem dX1_tell_71 : decode cX1_tell 71 = .ok (.goto (-53), 3) := by decide +kernel
theorem dX1_tell_74 : decode cX1_tell 74 = .ok (.return_, 1) := by decide +kernel
theorem dX1_learn_0 : decode cX1_learn 0 = .ok (.aload_n 2, 1) := by decide +kernel
theorem dX1_learn_1 : decode cX1_learn 1 = .ok (.invokevirtual 30, 3) := by decide +kernel
theorem dX1_learn_4 : decode cX1_learn 4 = .ok (.aload_n 1, 1) := by decide +kernel
theorem dX1_learn_5 : decode cX1_learn 5 = .ok (.invokevirtual 33, 3) := by decide +kernel
theorem dX1_learn_8 : decode cX1_learn 8 = .ok (.aload_n 1, 1) := by decide +kernel
theorem dX1_learn_9 : decode cX1_learn 9 = .ok (.bipush 13, 2) := by decide +kernel
theorem dX1_learn_11 : decode cX1_learn 11 = .ok (.invokevirtual 36, 3) := by decide +kernel
theorem dX1_learn_14 : decode cX1_learn 14 = .ok (.istore_n 3, 1) := by decide +kernel
theorem dX1_learn_15 : decode cX1_learn 15 = .ok (.iload_n 3, 1) := by decide +kernel
theorem dX1_learn_16 : decode cX1_learn 16 = .ok (.sipush 4096, 3) := by decide +kernel
theorem dX1_learn_19 : decode cX1_learn 19 = .ok (.if_icmp .le 5, 3) := by decide +kernel
theorem dX1_learn_22 : decode cX1_learn 22 = .ok (.iconst 0, 1) := by decide +kernel
theorem dX1_learn_23 : decode cX1_learn 23 = .ok (.ireturn, 1) := by decide +kernel
theorem dX1_learn_24 : decode cX1_learn 24 = .ok (.iconst (-1), 1) := by decide +kernel
theorem dX1_learn_25 : decode cX1_learn 25 = .ok (.istore 4, 2) := by decide +kernel
theorem dX1_learn_27 : decode cX1_learn 27 = .ok (.iconst 0, 1) := by decide +kernel
theorem dX1_learn_28 : decode cX1_learn 28 = .ok (.istore 5, 2) := by decide +kernel
theorem dX1_learn_30 : decode cX1_learn 30 = .ok (.iload 5, 2) := by decide +kernel
theorem dX1_learn_32 : decode cX1_learn 32 = .ok (.iload_n 3, 1) := by decide +kernel
theorem dX1_learn_33 : decode cX1_learn 33 = .ok (.if_icmp .ge 47, 3) := by decide +kernel
theorem dX1_learn_36 : decode cX1_learn 36 = .ok (.aload_n 1, 1) := by decide +kernel
theorem dX1_learn_37 : decode cX1_learn 37 = .ok (.invokestatic 39, 3) := by decide +kernel
theorem dX1_learn_40 : decode cX1_learn 40 = .ok (.istore 6, 2) := by decide +kernel
theorem dX1_learn_42 : decode cX1_learn 42 = .ok (.iload 4, 2) := by decide +kernel
theorem dX1_learn_44 : decode cX1_learn 44 = .ok (.iconst 1, 1) := by decide +kernel
theorem dX1_learn_45 : decode cX1_learn 45 = .ok (.iload 6, 2) := by decide +kernel
theorem dX1_learn_47 : decode cX1_learn 47 = .ok (.ishl, 1) := by decide +kernel
theorem dX1_learn_48 : decode cX1_learn 48 = .ok (.aload_n 1, 1) := by decide +kernel
theorem dX1_learn_49 : decode cX1_learn 49 = .ok (.iload 6, 2) := by decide +kernel
theorem dX1_learn_51 : decode cX1_learn 51 = .ok (.invokevirtual 36, 3) := by decide +kernel
theorem dX1_learn_54 : decode cX1_learn 54 = .ok (.iadd, 1) := by decide +kernel
theorem dX1_learn_55 : decode cX1_learn 55 = .ok (.iadd, 1) := by decide +kernel
theorem dX1_learn_56 : decode cX1_learn 56 = .ok (.istore 4, 2) := by decide +kernel
theorem dX1_learn_58 : decode cX1_learn 58 = .ok (.iload 4, 2) := by decide +kernel
theorem dX1_learn_60 : decode cX1_learn 60 = .ok (.sipush 4096, 3) := by decide +kernel
theorem dX1_learn_63 : decode cX1_learn 63 = .ok (.if_icmp .lt 5, 3) := by decide +kernel
theorem dX1_learn_66 : decode cX1_learn 66 = .ok (.iconst 0, 1) := by decide +kernel
theorem dX1_learn_67 : decode cX1_learn 67 = .ok (.ireturn, 1) := by decide +kernel
theorem dX1_learn_68 : decode cX1_learn 68 = .ok (.aload_n 2, 1) := by decide +kernel
theorem dX1_learn_69 : decode cX1_learn 69 = .ok (.iload 4, 2) := by decide +kernel
theorem dX1_learn_71 : decode cX1_learn 71 = .ok (.invokevirtual 43, 3) := by decide +kernel
theorem dX1_learn_74 : decode cX1_learn 74 = .ok (.iinc 5 1, 3) := by decide +kernel
theorem dX1_learn_77 : decode cX1_learn 77 = .ok (.goto (-47), 3) := by decide +kernel
theorem dX1_learn_80 : decode cX1_learn 80 = .ok (.aload_n 1, 1) := by decide +kernel
theorem dX1_learn_81 : decode cX1_learn 81 = .ok (.invokevirtual 47, 3) := by decide +kernel
theorem dX1_learn_84 : decode cX1_learn 84 = .ok (.ireturn, 1) := by decide +kernel
theorem dX1_takeZeros_0 : decode cX1_takeZeros 0 = .ok (.iconst 0, 1) := by decide +kernel
theorem dX1_takeZeros_1 : decode cX1_takeZeros 1 = .ok (.istore_n 1, 1) := by decide +kernel
theorem dX1_takeZeros_2 : decode cX1_takeZeros 2 = .ok (.iload_n 1, 1) := by decide +kernel
theorem dX1_takeZeros_3 : decode cX1_takeZeros 3 = .ok (.bipush 13, 2) := by decide +kernel
theorem dX1_takeZeros_5 : decode cX1_takeZeros 5 = .ok (.if_icmp .ge 17, 3) := by decide +kernel
theorem dX1_takeZeros_8 : decode cX1_takeZeros 8 = .ok (.aload_n 0, 1) := by decide +kernel
theorem dX1_takeZeros_9 : decode cX1_takeZeros 9 = .ok (.iconst 1, 1) := by decide +kernel
theorem dX1_takeZeros_10 : decode cX1_takeZeros 10 = .ok (.invokevirtual 36, 3) := by decide +kernel
theorem dX1_takeZeros_13 : decode cX1_takeZeros 13 = .ok (.ifCond .ne 9, 3) := by decide +kernel
theorem dX1_takeZeros_16 : decode cX1_takeZeros 16 = .ok (.iinc 1 1, 3) := by decide +kernel
theorem dX1_takeZeros_19 : decode cX1_takeZeros 19 = .ok (.goto (-17), 3) := by decide +kernel
theorem dX1_takeZeros_22 : decode cX1_takeZeros 22 = .ok (.iload_n 1, 1) := by decide +kernel
theorem dX1_takeZeros_23 : decode cX1_takeZeros 23 = .ok (.ireturn, 1) := by decide +kernel
theorem dX1_widthOf_0 : decode cX1_widthOf 0 = .ok (.iconst 1, 1) := by decide +kernel
theorem dX1_widthOf_1 : decode cX1_widthOf 1 = .ok (.istore_n 1, 1) := by decide +kernel
theorem dX1_widthOf_2 : decode cX1_widthOf 2 = .ok (.iload_n 1, 1) := by decide +kernel
theorem dX1_widthOf_3 : decode cX1_widthOf 3 = .ok (.bipush 13, 2) := by decide +kernel
theorem dX1_widthOf_5 : decode cX1_widthOf 5 = .ok (.if_icmp .ge 15, 3) := by decide +kernel
theorem dX1_widthOf_8 : decode cX1_widthOf 8 = .ok (.iload_n 0, 1) := by decide +kernel
theorem dX1_widthOf_9 : decode cX1_widthOf 9 = .ok (.iload_n 1, 1) := by decide +kernel
theorem dX1_widthOf_10 : decode cX1_widthOf 10 = .ok (.ishr, 1) := by decide +kernel
theorem dX1_widthOf_11 : decode cX1_widthOf 11 = .ok (.ifCond .eq 9, 3) := by decide +kernel
theorem dX1_widthOf_14 : decode cX1_widthOf 14 = .ok (.iinc 1 1, 3) := by decide +kernel
theorem dX1_widthOf_17 : decode cX1_widthOf 17 = .ok (.goto (-15), 3) := by decide +kernel
theorem dX1_widthOf_20 : decode cX1_widthOf 20 = .ok (.iload_n 1, 1) := by decide +kernel
theorem dX1_widthOf_21 : decode cX1_widthOf 21 = .ok (.ireturn, 1) := by decide +kernel
theorem dX2_init_0 : decode cX2_init 0 = .ok (.aload_n 0, 1) := by decide +kernel
theorem dX2_init_1 : decode cX2_init 1 = .ok (.invokespecial 3, 3) := by decide +kernel
theorem dX2_init_4 : decode cX2_init 4 = .ok (.aload_n 0, 1) := by decide +kernel
theorem dX2_init_5 : decode cX2_init 5 = .ok (.sipush 128, 3) := by decide +kernel
theorem dX2_init_8 : decode cX2_init 8 = .ok (.newarray .int, 2) := by decide +kernel
theorem dX2_init_10 : decode cX2_init 10 = .ok (.putfield 9, 3) := by decide +kernel
theorem dX2_init_13 : decode cX2_init 13 = .ok (.return_, 1) := by decide +kernel
theorem dX2_holds_0 : decode cX2_holds 0 = .ok (.iload_n 1, 1) := by decide +kernel
theorem dX2_holds_1 : decode cX2_holds 1 = .ok (.invokestatic 15, 3) := by decide +kernel
theorem dX2_holds_4 : decode cX2_holds 4 = .ok (.ifCond .eq 26, 3) := by decide +kernel
theorem dX2_holds_7 : decode cX2_holds 7 = .ok (.aload_n 0, 1) := by decide +kernel
theorem dX2_holds_8 : decode cX2_holds 8 = .ok (.getfield 9, 3) := by decide +kernel
theorem dX2_holds_11 : decode cX2_holds 11 = .ok (.iload_n 1, 1) := by decide +kernel
theorem dX2_holds_12 : decode cX2_holds 12 = .ok (.iconst 5, 1) := by decide +kernel
theorem dX2_holds_13 : decode cX2_holds 13 = .ok (.ishr, 1) := by decide +kernel
theorem dX2_holds_14 : decode cX2_holds 14 = .ok (.iaload, 1) := by decide +kernel
theorem dX2_holds_15 : decode cX2_holds 15 = .ok (.iload_n 1, 1) := by decide +kernel
theorem dX2_holds_16 : decode cX2_holds 16 = .ok (.bipush 31, 2) := by decide +kernel
theorem dX2_holds_18 : decode cX2_holds 18 = .ok (.iand, 1) := by decide +kernel
theorem dX2_holds_19 : decode cX2_holds 19 = .ok (.iushr, 1) := by decide +kernel
theorem dX2_holds_20 : decode cX2_holds 20 = .ok (.iconst 1, 1) := by decide +kernel
theorem dX2_holds_21 : decode cX2_holds 21 = .ok (.iand, 1) := by decide +kernel
theorem dX2_holds_22 : decode cX2_holds 22 = .ok (.iconst 1, 1) := by decide +kernel
theorem dX2_holds_23 : decode cX2_holds 23 = .ok (.if_icmp .ne 7, 3) := by decide +kernel
theorem dX2_holds_26 : decode cX2_holds 26 = .ok (.iconst 1, 1) := by decide +kernel
theorem dX2_holds_27 : decode cX2_holds 27 = .ok (.goto 4, 3) := by decide +kernel
theorem dX2_holds_30 : decode cX2_holds 30 = .ok (.iconst 0, 1) := by decide +kernel
theorem dX2_holds_31 : decode cX2_holds 31 = .ok (.ireturn, 1) := by decide +kernel
theorem dX2_amount_0 : decode cX2_amount 0 = .ok (.aload_n 0, 1) := by decide +kernel
theorem dX2_amount_1 : decode cX2_amount 1 = .ok (.sipush 4096, 3) := by decide +kernel
theorem dX2_amount_4 : decode cX2_amount 4 = .ok (.invokevirtual 19, 3) := by decide +kernel
theorem dX2_amount_7 : decode cX2_amount 7 = .ok (.ireturn, 1) := by decide +kernel
theorem dX2_amountIn_0 : decode cX2_amountIn 0 = .ok (.aload_n 0, 1) := by decide +kernel
theorem dX2_amountIn_1 : decode cX2_amountIn 1 = .ok (.iload_n 2, 1) := by decide +kernel
theorem dX2_amountIn_2 : decode cX2_amountIn 2 = .ok (.iconst 1, 1) := by decide +kernel
theorem dX2_amountIn_3 : decode cX2_amountIn 3 = .ok (.iadd, 1) := by decide +kernel
theorem dX2_amountIn_4 : decode cX2_amountIn 4 = .ok (.invokevirtual 19, 3) := by decide +kernel
theorem dX2_amountIn_7 : decode cX2_amountIn 7 = .ok (.aload_n 0, 1) := by decide +kernel
theorem dX2_amountIn_8 : decode cX2_amountIn 8 = .ok (.iload_n 1, 1) := by decide +kernel
theorem dX2_amountIn_9 : decode cX2_amountIn 9 = .ok (.invokevirtual 19, 3) := by decide +kernel
theorem dX2_amountIn_12 : decode cX2_amountIn 12 = .ok (.isub, 1) := by decide +kernel
theorem dX2_amountIn_13 : decode cX2_amountIn 13 = .ok (.ireturn, 1) := by decide +kernel
theorem dX2_amountBelow_0 : decode cX2_amountBelow 0 = .ok (.iload_n 1, 1) := by decide +kernel
theorem dX2_amountBelow_1 : decode cX2_amountBelow 1 = .ok (.invokestatic 23, 3) := by decide +kernel
theorem dX2_amountBelow_4 : decode cX2_amountBelow 4 = .ok (.ifCond .ne 5, 3) := by decide +kernel
theorem dX2_amountBelow_7 : decode cX2_amountBelow 7 = .ok (.iconst 0, 1) := by decide +kernel
theorem dX2_amountBelow_8 : decode cX2_amountBelow 8 = .ok (.ireturn, 1) := by decide +kernel
theorem dX2_amountBelow_9 : decode cX2_amountBelow 9 = .ok (.iload_n 1, 1) := by decide +kernel
theorem dX2_amountBelow_10 : decode cX2_amountBelow 10 = .ok (.iconst 5, 1) := by decide +kernel
theorem dX2_amountBelow_11 : decode cX2_amountBelow 11 = .ok (.ishr, 1) := by decide +kernel
theorem dX2_amountBelow_12 : decode cX2_amountBelow 12 = .ok (.istore_n 2, 1) := by decide +kernel
theorem dX2_amountBelow_13 : decode cX2_amountBelow 13 = .ok (.iconst 0, 1) := by decide +kernel
theorem dX2_amountBelow_14 : decode cX2_amountBelow 14 = .ok (.istore_n 3, 1) := by decide +kernel
theorem dX2_amountBelow_15 : decode cX2_amountBelow 15 = .ok (.iconst 0, 1) := by decide +kernel
theorem dX2_amountBelow_16 : decode cX2_amountBelow 16 = .ok (.istore 4, 2) := by decide +kernel
theorem dX2_amountBelow_18 : decode cX2_amountBelow 18 = .ok (.iload 4, 2) := by decide +kernel
theorem dX2_amountBelow_20 : decode cX2_amountBelow 20 = .ok (.iload_n 2, 1) := by decide +kernel
theorem dX2_amountBelow_21 : decode cX2_amountBelow 21 = .ok (.if_icmp .ge 22, 3) := by decide +kernel
theorem dX2_amountBelow_24 : decode cX2_amountBelow 24 = .ok (.iload_n 3, 1) := by decide +kernel
theorem dX2_amountBelow_25 : decode cX2_amountBelow 25 = .ok (.aload_n 0, 1) := by decide +kernel
theorem dX2_amountBelow_26 : decode cX2_amountBelow 26 = .ok (.getfield 9, 3) := by decide +kernel
theorem dX2_amountBelow_29 : decode cX2_amountBelow 29 = .ok (.iload 4, 2) := by decide +kernel
theorem dX2_amountBelow_31 : decode cX2_amountBelow 31 = .ok (.iaload, 1) := by decide +kernel
theorem dX2_amountBelow_32 : decode cX2_amountBelow 32 = .ok (.invokestatic 26, 3) := by decide +kernel
theorem dX2_amountBelow_35 : decode cX2_amountBelow 35 = .ok (.iadd, 1) := by decide +kernel
theorem dX2_amountBelow_36 : decode cX2_amountBelow 36 = .ok (.istore_n 3, 1) := by decide +kernel
theorem dX2_amountBelow_37 : decode cX2_amountBelow 37 = .ok (.iinc 4 1, 3) := by decide +kernel
theorem dX2_amountBelow_40 : decode cX2_amountBelow 40 = .ok (.goto (-22), 3) := by decide +kernel
theorem dX2_amountBelow_43 : decode cX2_amountBelow 43 = .ok (.iload_n 2, 1) := by decide +kernel
theorem dX2_amountBelow_44 : decode cX2_amountBelow 44 = .ok (.sipush 128, 3) := by decide +kernel
theorem dX2_amountBelow_47 : decode cX2_amountBelow 47 = .ok (.if_icmp .ge 24, 3) := by decide +kernel
theorem dX2_amountBelow_50 : decode cX2_amountBelow 50 = .ok (.iload_n 3, 1) := by decide +kernel
theorem dX2_amountBelow_51 : decode cX2_amountBelow 51 = .ok (.aload_n 0, 1) := by decide +kernel
theorem dX2_amountBelow_52 : decode cX2_amountBelow 52 = .ok (.getfield 9, 3) := by decide +kernel
theorem dX2_amountBelow_55 : decode cX2_amountBelow 55 = .ok (.iload_n 2, 1) := by decide +kernel
theorem dX2_amountBelow_56 : decode cX2_amountBelow 56 = .ok (.iaload, 1) := by decide +kernel
theorem dX2_amountBelow_57 : decode cX2_amountBelow 57 = .ok (.iconst (-1), 1) := by decide +kernel
theorem dX2_amountBelow_58 : decode cX2_amountBelow 58 = .ok (.iload_n 1, 1) := by decide +kernel
theorem dX2_amountBelow_59 : decode cX2_amountBelow 59 = .ok (.bipush 31, 2) := by decide +kernel
theorem dX2_amountBelow_61 : decode cX2_amountBelow 61 = .ok (.iand, 1) := by decide +kernel
theorem dX2_amountBelow_62 : decode cX2_amountBelow 62 = .ok (.ishl, 1) := by decide +kernel
theorem dX2_amountBelow_63 : decode cX2_amountBelow 63 = .ok (.iconst (-1), 1) := by decide +kernel
theorem dX2_amountBelow_64 : decode cX2_amountBelow 64 = .ok (.ixor, 1) := by decide +kernel
theorem dX2_amountBelow_65 : decode cX2_amountBelow 65 = .ok (.iand, 1) := by decide +kernel
theorem dX2_amountBelow_66 : decode cX2_amountBelow 66 = .ok (.invokestatic 26, 3) := by decide +kernel
theorem dX2_amountBelow_69 : decode cX2_amountBelow 69 = .ok (.iadd, 1) := by decide +kernel
theorem dX2_amountBelow_70 : decode cX2_amountBelow 70 = .ok (.istore_n 3, 1) := by decide +kernel
theorem dX2_amountBelow_71 : decode cX2_amountBelow 71 = .ok (.iload_n 3, 1) := by decide +kernel
theorem dX2_amountBelow_72 : decode cX2_amountBelow 72 = .ok (.ireturn, 1) := by decide +kernel
theorem dX2_amountShared_0 : decode cX2_amountShared 0 = .ok (.iconst 0, 1) := by decide +kernel
theorem dX2_amountShared_1 : decode cX2_amountShared 1 = .ok (.istore_n 2, 1) := by decide +kernel
theorem dX2_amountShared_2 : decode cX2_amountShared 2 = .ok (.iconst 0, 1) := by decide +kernel
theorem dX2_amountShared_3 : decode cX2_amountShared 3 = .ok (.istore_n 3, 1) := by decide +kernel
theorem dX2_amountShared_4 : decode cX2_amountShared 4 = .ok (.iload_n 3, 1) := by decide +kernel
theorem dX2_amountShared_5 : decode cX2_amountShared 5 = .ok (.sipush 128, 3) := by decide +kernel
theorem dX2_amountShared_8 : decode cX2_amountShared 8 = .ok (.if_icmp .ge 28, 3) := by decide +kernel
theorem dX2_amountShared_11 : decode cX2_amountShared 11 = .ok (.iload_n 2, 1) := by decide +kernel
theorem dX2_amountShared_12 : decode cX2_amountShared 12 = .ok (.aload_n 0, 1) := by decide +kernel
theorem dX2_amountShared_13 : decode cX2_amountShared 13 = .ok (.getfield 9, 3) := by decide +kernel
theorem dX2_amountShared_16 : decode cX2_amountShared 16 = .ok (.iload_n 3, 1) := by decide +kernel
theorem dX2_amountShared_17 : decode cX2_amountShared 17 = .ok (.iaload, 1) := by decide +kernel
theorem dX2_amountShared_18 : decode cX2_amountShared 18 = .ok (.aload_n 1, 1) := by decide +kernel
theorem dX2_amountShared_19 : decode cX2_amountShared 19 = .ok (.getfield 9, 3) := by decide +kernel
theorem dX2_amountShared_22 : decode cX2_amountShared 22 = .ok (.iload_n 3, 1) := by decide +kernel
theorem dX2_amountShared_23 : decode cX2_amountShared 23 = .ok (.iaload, 1) := by decide +kernel
theorem dX2_amountShared_24 : decode cX2_amountShared 24 = .ok (.iand, 1) := by decide +kernel
theorem dX2_amountShared_25 : decode cX2_amountShared 25 = .ok (.invokestatic 26, 3) := by decide +kernel
theorem dX2_amountShared_28 : decode cX2_amountShared 28 = .ok (.iadd, 1) := by decide +kernel
theorem dX2_amountShared_29 : decode cX2_amountShared 29 = .ok (.istore_n 2, 1) := by decide +kernel
theorem dX2_amountShared_30 : decode cX2_amountShared 30 = .ok (.iinc 3 1, 3) := by decide +kernel
theorem dX2_amountShared_33 : decode cX2_amountShared 33 = .ok (.goto (-29), 3) := by decide +kernel
theorem dX2_amountShared_36 : decode cX2_amountShared 36 = .ok (.iload_n 2, 1) := by decide +kernel
theorem dX2_amountShared_37 : decode cX2_amountShared 37 = .ok (.ireturn, 1) := by decide +kernel
theorem dX2_nth_0 : decode cX2_nth 0 = .ok (.iload_n 1, 1) := by decide +kernel
theorem dX2_nth_1 : decode cX2_nth 1 = .ok (.ifCond .ge 5, 3) := by decide +kernel
theorem dX2_nth_4 : decode cX2_nth 4 = .ok (.iconst (-1), 1) := by decide +kernel
theorem dX2_nth_5 : decode cX2_nth 5 = .ok (.ireturn, 1) := by decide +kernel
theorem dX2_nth_6 : decode cX2_nth 6 = .ok (.iconst 0, 1) := by decide +kernel
theorem dX2_nth_7 : decode cX2_nth 7 = .ok (.istore_n 2, 1) := by decide +kernel
theorem dX2_nth_8 : decode cX2_nth 8 = .ok (.iconst 0, 1) := by decide +kernel
theorem dX2_nth_9 : decode cX2_nth 9 = .ok (.istore_n 3, 1) := by decide +kernel
theorem dX2_nth_10 : decode cX2_nth 10 = .ok (.iload_n 3, 1) := by decide +kernel
theorem dX2_nth_11 : decode cX2_nth 11 = .ok (.sipush 128, 3) := by decide +kernel
theorem dX2_nth_14 : decode cX2_nth 14 = .ok (.if_icmp .ge 51, 3) := by decide +kernel
theorem dX2_nth_17 : decode cX2_nth 17 = .ok (.aload_n 0, 1) := by decide +kernel
theorem dX2_nth_18 : decode cX2_nth 18 = .ok (.getfield 9, 3) := by decide +kernel
theorem dX2_nth_21 : decode cX2_nth 21 = .ok (.iload_n 3, 1) := by decide +kernel
theorem dX2_nth_22 : decode cX2_nth 22 = .ok (.iaload, 1) := by decide +kernel
theorem dX2_nth_23 : decode cX2_nth 23 = .ok (.invokestatic 26, 3) := by decide +kernel
theorem dX2_nth_26 : decode cX2_nth 26 = .ok (.istore 4, 2) := by decide +kernel
theorem dX2_nth_28 : decode cX2_nth 28 = .ok (.iload_n 1, 1) := by decide +kernel
theorem dX2_nth_29 : decode cX2_nth 29 = .ok (.iload_n 2, 1) := by decide +kernel
theorem dX2_nth_30 : decode cX2_nth 30 = .ok (.isub, 1) := by decide +kernel
theorem dX2_nth_31 : decode cX2_nth 31 = .ok (.iload 4, 2) := by decide +kernel
theorem dX2_nth_33 : decode cX2_nth 33 = .ok (.if_icmp .ge 21, 3) := by decide +kernel
theorem dX2_nth_36 : decode cX2_nth 36 = .ok (.iload_n 3, 1) := by decide +kernel
theorem dX2_nth_37 : decode cX2_nth 37 = .ok (.bipush 32, 2) := by decide +kernel
theorem dX2_nth_39 : decode cX2_nth 39 = .ok (.imul, 1) := by decide +kernel
theorem dX2_nth_40 : decode cX2_nth 40 = .ok (.aload_n 0, 1) := by decide +kernel
theorem dX2_nth_41 : decode cX2_nth 41 = .ok (.getfield 9, 3) := by decide +kernel
theorem dX2_nth_44 : decode cX2_nth 44 = .ok (.iload_n 3, 1) := by decide +kernel
theorem dX2_nth_45 : decode cX2_nth 45 = .ok (.iaload, 1) := by decide +kernel
theorem dX2_nth_46 : decode cX2_nth 46 = .ok (.iload_n 1, 1) := by decide +kernel
theorem dX2_nth_47 : decode cX2_nth 47 = .ok (.iload_n 2, 1) := by decide +kernel
theorem dX2_nth_48 : decode cX2_nth 48 = .ok (.isub, 1) := by decide +kernel
theorem dX2_nth_49 : decode cX2_nth 49 = .ok (.invokestatic 31, 3) := by decide +kernel
theorem dX2_nth_52 : decode cX2_nth 52 = .ok (.iadd, 1) := by decide +kernel
theorem dX2_nth_53 : decode cX2_nth 53 = .ok (.ireturn, 1) := by decide +kernel
theorem dX2_nth_54 : decode cX2_nth 54 = .ok (.iload_n 2, 1) := by decide +kernel
theorem dX2_nth_55 : decode cX2_nth 55 = .ok (.iload 4, 2) := by decide +kernel
theorem dX2_nth_57 : decode cX2_nth 57 = .ok (.iadd, 1) := by decide +kernel
theorem dX2_nth_58 : decode cX2_nth 58 = .ok (.istore_n 2, 1) := by decide +kernel
theorem dX2_nth_59 : decode cX2_nth 59 = .ok (.iinc 3 1, 3) := by decide +kernel
theorem dX2_nth_62 : decode cX2_nth 62 = .ok (.goto (-52), 3) := by decide +kernel
theorem dX2_nth_65 : decode cX2_nth 65 = .ok (.iconst (-1), 1) := by decide +kernel
theorem dX2_nth_66 : decode cX2_nth 66 = .ok (.ireturn, 1) := by decide +kernel
theorem dX2_leastFrom_0 : decode cX2_leastFrom 0 = .ok (.iload_n 1, 1) := by decide +kernel
theorem dX2_leastFrom_1 : decode cX2_leastFrom 1 = .ok (.invokestatic 15, 3) := by decide +kernel
theorem dX2_leastFrom_4 : decode cX2_leastFrom 4 = .ok (.ifCond .ne 5, 3) := by decide +kernel
theorem dX2_leastFrom_7 : decode cX2_leastFrom 7 = .ok (.iconst (-1), 1) := by decide +kernel
theorem dX2_leastFrom_8 : decode cX2_leastFrom 8 = .ok (.ireturn, 1) := by decide +kernel
theorem dX2_leastFrom_9 : decode cX2_leastFrom 9 = .ok (.iconst (-1), 1) := by decide +kernel
theorem dX2_leastFrom_10 : decode cX2_leastFrom 10 = .ok (.iload_n 1, 1) := by decide +kernel
theorem dX2_leastFrom_11 : decode cX2_leastFrom 11 = .ok (.bipush 31, 2) := by decide +kernel
theorem dX2_leastFrom_13 : decode cX2_leastFrom 13 = .ok (.iand, 1) := by decide +kernel
theorem dX2_leastFrom_14 : decode cX2_leastFrom 14 = .ok (.ishl, 1) := by decide +kernel
theorem dX2_leastFrom_15 : decode cX2_leastFrom 15 = .ok (.istore_n 2, 1) := by decide +kernel
theorem dX2_leastFrom_16 : decode cX2_leastFrom 16 = .ok (.iload_n 1, 1) := by decide +kernel
theorem dX2_leastFrom_17 : decode cX2_leastFrom 17 = .ok (.iconst 5, 1) := by decide +kernel
theorem dX2_leastFrom_18 : decode cX2_leastFrom 18 = .ok (.ishr, 1) := by decide +kernel
theorem dX2_leastFrom_19 : decode cX2_leastFrom 19 = .ok (.istore_n 3, 1) := by decide +kernel
theorem dX2_leastFrom_20 : decode cX2_leastFrom 20 = .ok (.iload_n 3, 1) := by decide +kernel
theorem dX2_leastFrom_21 : decode cX2_leastFrom 21 = .ok (.sipush 128, 3) := by decide +kernel
theorem dX2_leastFrom_24 : decode cX2_leastFrom 24 = .ok (.if_icmp .ge 38, 3) := by decide +kernel
theorem dX2_leastFrom_27 : decode cX2_leastFrom 27 = .ok (.aload_n 0, 1) := by decide +kernel
theorem dX2_leastFrom_28 : decode cX2_leastFrom 28 = .ok (.getfield 9, 3) := by decide +kernel
theorem dX2_leastFrom_31 : decode cX2_leastFrom 31 = .ok (.iload_n 3, 1) := by decide +kernel
theorem dX2_leastFrom_32 : decode cX2_leastFrom 32 = .ok (.iaload, 1) := by decide +kernel
theorem dX2_leastFrom_33 : decode cX2_leastFrom 33 = .ok (.iload_n 2, 1) := by decide +kernel
theorem dX2_leastFrom_34 : decode cX2_leastFrom 34 = .ok (.iand, 1) := by decide +kernel
theorem dX2_leastFrom_35 : decode cX2_leastFrom 35 = .ok (.istore 4, 2) := by decide +kernel
theorem dX2_leastFrom_37 : decode cX2_leastFrom 37 = .ok (.iload 4, 2) := by decide +kernel
theorem dX2_leastFrom_39 : decode cX2_leastFrom 39 = .ok (.ifCond .eq 15, 3) := by decide +kernel
theorem dX2_leastFrom_42 : decode cX2_leastFrom 42 = .ok (.iload_n 3, 1) := by decide +kernel
theorem dX2_leastFrom_43 : decode cX2_leastFrom 43 = .ok (.bipush 32, 2) := by decide +kernel
theorem dX2_leastFrom_45 : decode cX2_leastFrom 45 = .ok (.imul, 1) := by decide +kernel
theorem dX2_leastFrom_46 : decode cX2_leastFrom 46 = .ok (.iload 4, 2) := by decide +kernel
theorem dX2_leastFrom_48 : decode cX2_leastFrom 48 = .ok (.iconst 0, 1) := by decide +kernel
theorem dX2_leastFrom_49 : decode cX2_leastFrom 49 = .ok (.invokestatic 31, 3) := by decide +kernel
theorem dX2_leastFrom_52 : decode cX2_leastFrom 52 = .ok (.iadd, 1) := by decide +kernel
theorem dX2_leastFrom_53 : decode cX2_leastFrom 53 = .ok (.ireturn, 1) := by decide +kernel
theorem dX2_leastFrom_54 : decode cX2_leastFrom 54 = .ok (.iconst (-1), 1) := by decide +kernel
theorem dX2_leastFrom_55 : decode cX2_leastFrom 55 = .ok (.istore_n 2, 1) := by decide +kernel
theorem dX2_leastFrom_56 : decode cX2_leastFrom 56 = .ok (.iinc 3 1, 3) := by decide +kernel
theorem dX2_leastFrom_59 : decode cX2_leastFrom 59 = .ok (.goto (-39), 3) := by decide +kernel
theorem dX2_leastFrom_62 : decode cX2_leastFrom 62 = .ok (.iconst (-1), 1) := by decide +kernel
theorem dX2_leastFrom_63 : decode cX2_leastFrom 63 = .ok (.ireturn, 1) := by decide +kernel
theorem dX2_add_0 : decode cX2_add 0 = .ok (.iload_n 1, 1) := by decide +kernel
theorem dX2_add_1 : decode cX2_add 1 = .ok (.invokestatic 15, 3) := by decide +kernel
theorem dX2_add_4 : decode cX2_add 4 = .ok (.ifCond .eq 20, 3) := by decide +kernel
theorem dX2_add_7 : decode cX2_add 7 = .ok (.aload_n 0, 1) := by decide +kernel
theorem dX2_add_8 : decode cX2_add 8 = .ok (.getfield 9, 3) := by decide +kernel
theorem dX2_add_11 : decode cX2_add 11 = .ok (.iload_n 1, 1) := by decide +kernel
theorem dX2_add_12 : decode cX2_add 12 = .ok (.iconst 5, 1) := by decide +kernel
theorem dX2_add_13 : decode cX2_add 13 = .ok (.ishr, 1) := by decide +kernel
theorem dX2_add_14 : decode cX2_add 14 = .ok (.dup2, 1) := by decide +kernel
theorem dX2_add_15 : decode cX2_add 15 = .ok (.iaload, 1) := by decide +kernel
theorem dX2_add_16 : decode cX2_add 16 = .ok (.iconst 1, 1) := by decide +kernel
theorem dX2_add_17 : decode cX2_add 17 = .ok (.iload_n 1, 1) := by decide +kernel
theorem dX2_add_18 : decode cX2_add 18 = .ok (.bipush 31, 2) := by decide +kernel
theorem dX2_add_20 : decode cX2_add 20 = .ok (.iand, 1) := by decide +kernel
theorem dX2_add_21 : decode cX2_add 21 = .ok (.ishl, 1) := by decide +kernel
theorem dX2_add_22 : decode cX2_add 22 = .ok (.ior, 1) := by decide +kernel
theorem dX2_add_23 : decode cX2_add 23 = .ok (.iastore, 1) := by decide +kernel
theorem dX2_add_24 : decode cX2_add 24 = .ok (.return_, 1) := by decide +kernel
theorem dX2_include_0 : decode cX2_include 0 = .ok (.iload_n 1, 1) := by decide +kernel
theorem dX2_include_1 : decode cX2_include 1 = .ok (.iload_n 2, 1) := by decide +kernel
theorem dX2_include_2 : decode cX2_include 2 = .ok (.invokestatic 35, 3) := by decide +kernel
theorem dX2_include_5 : decode cX2_include 5 = .ok (.ifCond .ne 4, 3) := by decide +kernel
theorem dX2_include_8 : decode cX2_include 8 = .ok (.return_, 1) := by decide +kernel
theorem dX2_include_9 : decode cX2_include 9 = .ok (.iload_n 1, 1) := by decide +kernel
theorem dX2_include_10 : decode cX2_include 10 = .ok (.iconst 5, 1) := by decide +kernel
theorem dX2_include_11 : decode cX2_include 11 = .ok (.ishr, 1) := by decide +kernel
theorem dX2_include_12 : decode cX2_include 12 = .ok (.istore_n 3, 1) := by decide +kernel
theorem dX2_include_13 : decode cX2_include 13 = .ok (.iload_n 3, 1) := by decide +kernel
theorem dX2_include_14 : decode cX2_include 14 = .ok (.iload_n 2, 1) := by decide +kernel
theorem dX2_include_15 : decode cX2_include 15 = .ok (.iconst 5, 1) := by decide +kernel
theorem dX2_include_16 : decode cX2_include 16 = .ok (.ishr, 1) := by decide +kernel
theorem dX2_include_17 : decode cX2_include 17 = .ok (.if_icmp .gt 24, 3) := by decide +kernel
theorem dX2_include_20 : decode cX2_include 20 = .ok (.aload_n 0, 1) := by decide +kernel
theorem dX2_include_21 : decode cX2_include 21 = .ok (.getfield 9, 3) := by decide +kernel
theorem dX2_include_24 : decode cX2_include 24 = .ok (.iload_n 3, 1) := by decide +kernel
theorem dX2_include_25 : decode cX2_include 25 = .ok (.dup2, 1) := by decide +kernel
theorem dX2_include_26 : decode cX2_include 26 = .ok (.iaload, 1) := by decide +kernel
theorem dX2_include_27 : decode cX2_include 27 = .ok (.iload_n 3, 1) := by decide +kernel
theorem dX2_include_28 : decode cX2_include 28 = .ok (.iload_n 1, 1) := by decide +kernel
theorem dX2_include_29 : decode cX2_include 29 = .ok (.iload_n 2, 1) := by decide +kernel
theorem dX2_include_30 : decode cX2_include 30 = .ok (.invokestatic 39, 3) := by decide +kernel
theorem dX2_include_33 : decode cX2_include 33 = .ok (.ior, 1) := by decide +kernel
theorem dX2_include_34 : decode cX2_include 34 = .ok (.iastore, 1) := by decide +kernel
theorem dX2_include_35 : decode cX2_include 35 = .ok (.iinc 3 1, 3) := by decide +kernel
theorem dX2_include_38 : decode cX2_include 38 = .ok (.goto (-25), 3) := by decide +kernel
theorem dX2_include_41 : decode cX2_include 41 = .ok (.return_, 1) := by decide +kernel
theorem dX2_exclude_0 : decode cX2_exclude 0 = .ok (.iload_n 1, 1) := by decide +kernel
theorem dX2_exclude_1 : decode cX2_exclude 1 = .ok (.iload_n 2, 1) := by decide +kernel
theorem dX2_exclude_2 : decode cX2_exclude 2 = .ok (.invokestatic 35, 3) := by decide +kernel
theorem dX2_exclude_5 : decode cX2_exclude 5 = .ok (.ifCond .ne 4, 3) := by decide +kernel
theorem dX2_exclude_8 : decode cX2_exclude 8 = .ok (.return_, 1) := by decide +kernel
theorem dX2_exclude_9 : decode cX2_exclude 9 = .ok (.iload_n 1, 1) := by decide +kernel
theorem dX2_exclude_10 : decode cX2_exclude 10 = .ok (.iconst 5, 1) := by decide +kernel
theorem dX2_exclude_11 : decode cX2_exclude 11 = .ok (.ishr, 1) := by decide +kernel
theorem dX2_exclude_12 : decode cX2_exclude 12 = .ok (.istore_n 3, 1) := by decide +kernel
theorem dX2_exclude_13 : decode cX2_exclude 13 = .ok (.iload_n 3, 1) := by decide +kernel
theorem dX2_exclude_14 : decode cX2_exclude 14 = .ok (.iload_n 2, 1) := by decide +kernel
theorem dX2_exclude_15 : decode cX2_exclude 15 = .ok (.iconst 5, 1) := by decide +kernel
theorem dX2_exclude_16 : decode cX2_exclude 16 = .ok (.ishr, 1) := by decide +kernel
theorem dX2_exclude_17 : decode cX2_exclude 17 = .ok (.if_icmp .gt 26, 3) := by decide +kernel
theorem dX2_exclude_20 : decode cX2_exclude 20 = .ok (.aload_n 0, 1) := by decide +kernel
theorem dX2_exclude_21 : decode cX2_exclude 21 = .ok (.getfield 9, 3) := by decide +kernel
theorem dX2_exclude_24 : decode cX2_exclude 24 = .ok (.iload_n 3, 1) := by decide +kernel
theorem dX2_exclude_25 : decode cX2_exclude 25 = .ok (.dup2, 1) := by decide +kernel
theorem dX2_exclude_26 : decode cX2_exclude 26 = .ok (.iaload, 1) := by decide +kernel
theorem dX2_exclude_27 : decode cX2_exclude 27 = .ok (.iload_n 3, 1) := by decide +kernel
theorem dX2_exclude_28 : decode cX2_exclude 28 = .ok (.iload_n 1, 1) := by decide +kernel
theorem dX2_exclude_29 : decode cX2_exclude 29 = .ok (.iload_n 2, 1) := by decide +kernel
theorem dX2_exclude_30 : decode cX2_exclude 30 = .ok (.invokestatic 39, 3) := by decide +kernel
theorem dX2_exclude_33 : decode cX2_exclude 33 = .ok (.iconst (-1), 1) := by decide +kernel
theorem dX2_exclude_34 : decode cX2_exclude 34 = .ok (.ixor, 1) := by decide +kernel
theorem dX2_exclude_35 : decode cX2_exclude 35 = .ok (.iand, 1) := by decide +kernel
theorem dX2_exclude_36 : decode cX2_exclude 36 = .ok (.iastore, 1) := by decide +kernel
theorem dX2_exclude_37 : decode cX2_exclude 37 = .ok (.iinc 3 1, 3) := by decide +kernel
theorem dX2_exclude_40 : decode cX2_exclude 40 = .ok (.goto (-27), 3) := by decide +kernel
theorem dX2_exclude_43 : decode cX2_exclude 43 = .ok (.return_, 1) := by decide +kernel
theorem dX2_become_0 : decode cX2_become 0 = .ok (.iconst 0, 1) := by decide +kernel
theorem dX2_become_1 : decode cX2_become 1 = .ok (.istore 4, 2) := by decide +kernel
theorem dX2_become_3 : decode cX2_become 3 = .ok (.iload 4, 2) := by decide +kernel
theorem dX2_become_5 : decode cX2_become 5 = .ok (.sipush 128, 3) := by decide +kernel
theorem dX2_become_8 : decode cX2_become 8 = .ok (.if_icmp .ge 34, 3) := by decide +kernel
theorem dX2_become_11 : decode cX2_become 11 = .ok (.aload_n 0, 1) := by decide +kernel
theorem dX2_become_12 : decode cX2_become 12 = .ok (.getfield 9, 3) := by decide +kernel
theorem dX2_become_15 : decode cX2_become 15 = .ok (.iload 4, 2) := by decide +kernel
theorem dX2_become_17 : decode cX2_become 17 = .ok (.aload_n 1, 1) := by decide +kernel
theorem dX2_become_18 : decode cX2_become 18 = .ok (.getfield 9, 3) := by decide +kernel
theorem dX2_become_21 : decode cX2_become 21 = .ok (.iload 4, 2) := by decide +kernel
theorem dX2_become_23 : decode cX2_become 23 = .ok (.iaload, 1) := by decide +kernel
theorem dX2_become_24 : decode cX2_become 24 = .ok (.aload_n 2, 1) := by decide +kernel
theorem dX2_become_25 : decode cX2_become 25 = .ok (.getfield 9, 3) := by decide +kernel
theorem dX2_become_28 : decode cX2_become 28 = .ok (.iload 4, 2) := by decide +kernel
theorem dX2_become_30 : decode cX2_become 30 = .ok (.iaload, 1) := by decide +kernel
theorem dX2_become_31 : decode cX2_become 31 = .ok (.iload_n 3, 1) := by decide +kernel
theorem dX2_become_32 : decode cX2_become 32 = .ok (.invokestatic 43, 3) := by decide +kernel
theorem dX2_become_35 : decode cX2_become 35 = .ok (.iastore, 1) := by decide +kernel
theorem dX2_become_36 : decode cX2_become 36 = .ok (.iinc 4 1, 3) := by decide +kernel
theorem dX2_become_39 : decode cX2_become 39 = .ok (.goto (-36), 3) := by decide +kernel
theorem dX2_become_42 : decode cX2_become 42 = .ok (.return_, 1) := by decide +kernel
theorem dX2_copyFrom_0 : decode cX2_copyFrom 0 = .ok (.iconst 0, 1) := by decide +kernel
theorem dX2_copyFrom_1 : decode cX2_copyFrom 1 = .ok (.istore_n 2, 1) := by decide +kernel
theorem dX2_copyFrom_2 : decode cX2_copyFrom 2 = .ok (.iload_n 2, 1) := by decide +kernel
theorem dX2_copyFrom_3 : decode cX2_copyFrom 3 = .ok (.sipush 128, 3) := by decide +kernel
theorem dX2_copyFrom_6 : decode cX2_copyFrom 6 = .ok (.if_icmp .ge 21, 3) := by decide +kernel
theorem dX2_copyFrom_9 : decode cX2_copyFrom 9 = .ok (.aload_n 0, 1) := by decide +kernel
theorem dX2_copyFrom_10 : decode cX2_copyFrom 10 = .ok (.getfield 9, 3) := by decide +kernel
theorem dX2_copyFrom_13 : decode cX2_copyFrom 13 = .ok (.iload_n 2, 1) := by decide +kernel
theorem dX2_copyFrom_14 : decode cX2_copyFrom 14 = .ok (.aload_n 1, 1) := by decide +kernel
theorem dX2_copyFrom_15 : decode cX2_copyFrom 15 = .ok (.getfield 9, 3) := by decide +kernel
theorem dX2_copyFrom_18 : decode cX2_copyFrom 18 = .ok (.iload_n 2, 1) := by decide +kernel
theorem dX2_copyFrom_19 : decode cX2_copyFrom 19 = .ok (.iaload, 1) := by decide +kernel
theorem dX2_copyFrom_20 : decode cX2_copyFrom 20 = .ok (.iastore, 1) := by decide +kernel
theorem dX2_copyFrom_21 : decode cX2_copyFrom 21 = .ok (.iinc 2 1, 3) := by decide +kernel
theorem dX2_copyFrom_24 : decode cX2_copyFrom 24 = .ok (.goto (-22), 3) := by decide +kernel
theorem dX2_copyFrom_27 : decode cX2_copyFrom 27 = .ok (.return_, 1) := by decide +kernel
theorem dX2_clear_0 : decode cX2_clear 0 = .ok (.iconst 0, 1) := by decide +kernel
theorem dX2_clear_1 : decode cX2_clear 1 = .ok (.istore_n 1, 1) := by decide +kernel
theorem dX2_clear_2 : decode cX2_clear 2 = .ok (.iload_n 1, 1) := by decide +kernel
theorem dX2_clear_3 : decode cX2_clear 3 = .ok (.sipush 128, 3) := by decide +kernel
theorem dX2_clear_6 : decode cX2_clear 6 = .ok (.if_icmp .ge 16, 3) := by decide +kernel
theorem dX2_clear_9 : decode cX2_clear 9 = .ok (.aload_n 0, 1) := by decide +kernel
theorem dX2_clear_10 : decode cX2_clear 10 = .ok (.getfield 9, 3) := by decide +kernel
theorem dX2_clear_13 : decode cX2_clear 13 = .ok (.iload_n 1, 1) := by decide +kernel
theorem dX2_clear_14 : decode cX2_clear 14 = .ok (.iconst 0, 1) := by decide +kernel
theorem dX2_clear_15 : decode cX2_clear 15 = .ok (.iastore, 1) := by decide +kernel
theorem dX2_clear_16 : decode cX2_clear 16 = .ok (.iinc 1 1, 3) := by decide +kernel
theorem dX2_clear_19 : decode cX2_clear 19 = .ok (.goto (-17), 3) := by decide +kernel
theorem dX2_clear_22 : decode cX2_clear 22 = .ok (.return_, 1) := by decide +kernel
theorem dX2_pieceAmount_0 : decode cX2_pieceAmount 0 = .ok (.iload_n 1, 1) := by decide +kernel
theorem dX2_pieceAmount_1 : decode cX2_pieceAmount 1 = .ok (.ifCond .lt 9, 3) := by decide +kernel
theorem dX2_pieceAmount_4 : decode cX2_pieceAmount 4 = .ok (.iload_n 1, 1) := by decide +kernel
theorem dX2_pieceAmount_5 : decode cX2_pieceAmount 5 = .ok (.bipush 16, 2) := by decide +kernel
theorem dX2_pieceAmount_7 : decode cX2_pieceAmount 7 = .ok (.if_icmp .lt 5, 3) := by decide +kernel
theorem dX2_pieceAmount_10 : decode cX2_pieceAmount 10 = .ok (.iconst 0, 1) := by decide +kernel
theorem dX2_pieceAmount_11 : decode cX2_pieceAmount 11 = .ok (.ireturn, 1) := by decide +kernel
theorem dX2_pieceAmount_12 : decode cX2_pieceAmount 12 = .ok (.iconst 0, 1) := by decide +kernel
theorem dX2_pieceAmount_13 : decode cX2_pieceAmount 13 = .ok (.istore_n 2, 1) := by decide +kernel
theorem dX2_pieceAmount_14 : decode cX2_pieceAmount 14 = .ok (.iload_n 1, 1) := by decide +kernel
theorem dX2_pieceAmount_15 : decode cX2_pieceAmount 15 = .ok (.bipush 8, 2) := by decide +kernel
theorem dX2_pieceAmount_17 : decode cX2_pieceAmount 17 = .ok (.imul, 1) := by decide +kernel
theorem dX2_pieceAmount_18 : decode cX2_pieceAmount 18 = .ok (.istore_n 3, 1) := by decide +kernel
theorem dX2_pieceAmount_19 : decode cX2_pieceAmount 19 = .ok (.iload_n 3, 1) := by decide +kernel
theorem dX2_pieceAmount_20 : decode cX2_pieceAmount 20 = .ok (.iload_n 1, 1) := by decide +kernel
theorem dX2_pieceAmount_21 : decode cX2_pieceAmount 21 = .ok (.iconst 1, 1) := by decide +kernel
theorem dX2_pieceAmount_22 : decode cX2_pieceAmount 22 = .ok (.iadd, 1) := by decide +kernel
theorem dX2_pieceAmount_23 : decode cX2_pieceAmount 23 = .ok (.bipush 8, 2) := by decide +kernel
theorem dX2_pieceAmount_25 : decode cX2_pieceAmount 25 = .ok (.imul, 1) := by decide +kernel
theorem dX2_pieceAmount_26 : decode cX2_pieceAmount 26 = .ok (.if_icmp .ge 21, 3) := by decide +kernel
theorem dX2_pieceAmount_29 : decode cX2_pieceAmount 29 = .ok (.iload_n 2, 1) := by decide +kernel
theorem dX2_pieceAmount_30 : decode cX2_pieceAmount 30 = .ok (.aload_n 0, 1) := by decide +kernel
theorem dX2_pieceAmount_31 : decode cX2_pieceAmount 31 = .ok (.getfield 9, 3) := by decide +kernel
theorem dX2_pieceAmount_34 : decode cX2_pieceAmount 34 = .ok (.iload_n 3, 1) := by decide +kernel
theorem dX2_pieceAmount_35 : decode cX2_pieceAmount 35 = .ok (.iaload, 1) := by decide +kernel
theorem dX2_pieceAmount_36 : decode cX2_pieceAmount 36 = .ok (.invokestatic 26, 3) := by decide +kernel
theorem dX2_pieceAmount_39 : decode cX2_pieceAmount 39 = .ok (.iadd, 1) := by decide +kernel
theorem dX2_pieceAmount_40 : decode cX2_pieceAmount 40 = .ok (.istore_n 2, 1) := by decide +kernel
theorem dX2_pieceAmount_41 : decode cX2_pieceAmount 41 = .ok (.iinc 3 1, 3) := by decide +kernel
theorem dX2_pieceAmount_44 : decode cX2_pieceAmount 44 = .ok (.goto (-25), 3) := by decide +kernel
theorem dX2_pieceAmount_47 : decode cX2_pieceAmount 47 = .ok (.iload_n 2, 1) := by decide +kernel
theorem dX2_pieceAmount_48 : decode cX2_pieceAmount 48 = .ok (.ireturn, 1) := by decide +kernel
theorem dX2_pieceRuns_0 : decode cX2_pieceRuns 0 = .ok (.iload_n 1, 1) := by decide +kernel
theorem dX2_pieceRuns_1 : decode cX2_pieceRuns 1 = .ok (.ifCond .lt 9, 3) := by decide +kernel
theorem dX2_pieceRuns_4 : decode cX2_pieceRuns 4 = .ok (.iload_n 1, 1) := by decide +kernel
theorem dX2_pieceRuns_5 : decode cX2_pieceRuns 5 = .ok (.bipush 16, 2) := by decide +kernel
theorem dX2_pieceRuns_7 : decode cX2_pieceRuns 7 = .ok (.if_icmp .lt 5, 3) := by decide +kernel
theorem dX2_pieceRuns_10 : decode cX2_pieceRuns 10 = .ok (.iconst 0, 1) := by decide +kernel
theorem dX2_pieceRuns_11 : decode cX2_pieceRuns 11 = .ok (.ireturn, 1) := by decide +kernel
theorem dX2_pieceRuns_12 : decode cX2_pieceRuns 12 = .ok (.iconst 0, 1) := by decide +kernel
theorem dX2_pieceRuns_13 : decode cX2_pieceRuns 13 = .ok (.istore_n 2, 1) := by decide +kernel
theorem dX2_pieceRuns_14 : decode cX2_pieceRuns 14 = .ok (.iconst 0, 1) := by decide +kernel
theorem dX2_pieceRuns_15 : decode cX2_pieceRuns 15 = .ok (.istore_n 3, 1) := by decide +kernel
theorem dX2_pieceRuns_16 : decode cX2_pieceRuns 16 = .ok (.iload_n 1, 1) := by decide +kernel
theorem dX2_pieceRuns_17 : decode cX2_pieceRuns 17 = .ok (.bipush 8, 2) := by decide +kernel
theorem dX2_pieceRuns_19 : decode cX2_pieceRuns 19 = .ok (.imul, 1) := by decide +kernel
theorem dX2_pieceRuns_20 : decode cX2_pieceRuns 20 = .ok (.istore 4, 2) := by decide +kernel
theorem dX2_pieceRuns_22 : decode cX2_pieceRuns 22 = .ok (.iload 4, 2) := by decide +kernel
theorem dX2_pieceRuns_24 : decode cX2_pieceRuns 24 = .ok (.iload_n 1, 1) := by decide +kernel
theorem dX2_pieceRuns_25 : decode cX2_pieceRuns 25 = .ok (.iconst 1, 1) := by decide +kernel
theorem dX2_pieceRuns_26 : decode cX2_pieceRuns 26 = .ok (.iadd, 1) := by decide +kernel
theorem dX2_pieceRuns_27 : decode cX2_pieceRuns 27 = .ok (.bipush 8, 2) := by decide +kernel
theorem dX2_pieceRuns_29 : decode cX2_pieceRuns 29 = .ok (.imul, 1) := by decide +kernel
theorem dX2_pieceRuns_30 : decode cX2_pieceRuns 30 = .ok (.if_icmp .ge 51, 3) := by decide +kernel
theorem dX2_pieceRuns_33 : decode cX2_pieceRuns 33 = .ok (.aload_n 0, 1) := by decide +kernel
theorem dX2_pieceRuns_34 : decode cX2_pieceRuns 34 = .ok (.getfield 9, 3) := by decide +kernel
theorem dX2_pieceRuns_37 : decode cX2_pieceRuns 37 = .ok (.iload 4, 2) := by decide +kernel
theorem dX2_pieceRuns_39 : decode cX2_pieceRuns 39 = .ok (.iaload, 1) := by decide +kernel
theorem dX2_pieceRuns_40 : decode cX2_pieceRuns 40 = .ok (.aload_n 0, 1) := by decide +kernel
theorem dX2_pieceRuns_41 : decode cX2_pieceRuns 41 = .ok (.getfield 9, 3) := by decide +kernel
theorem dX2_pieceRuns_44 : decode cX2_pieceRuns 44 = .ok (.iload 4, 2) := by decide +kernel
theorem dX2_pieceRuns_46 : decode cX2_pieceRuns 46 = .ok (.iaload, 1) := by decide +kernel
theorem dX2_pieceRuns_47 : decode cX2_pieceRuns 47 = .ok (.iconst 1, 1) := by decide +kernel
theorem dX2_pieceRuns_48 : decode cX2_pieceRuns 48 = .ok (.ishl, 1) := by decide +kernel
theorem dX2_pieceRuns_49 : decode cX2_pieceRuns 49 = .ok (.iload_n 3, 1) := by decide +kernel
theorem dX2_pieceRuns_50 : decode cX2_pieceRuns 50 = .ok (.ior, 1) := by decide +kernel
theorem dX2_pieceRuns_51 : decode cX2_pieceRuns 51 = .ok (.iconst (-1), 1) := by decide +kernel
theorem dX2_pieceRuns_52 : decode cX2_pieceRuns 52 = .ok (.ixor, 1) := by decide +kernel
theorem dX2_pieceRuns_53 : decode cX2_pieceRuns 53 = .ok (.iand, 1) := by decide +kernel
theorem dX2_pieceRuns_54 : decode cX2_pieceRuns 54 = .ok (.istore 5, 2) := by decide +kernel
theorem dX2_pieceRuns_56 : decode cX2_pieceRuns 56 = .ok (.iload_n 2, 1) := by decide +kernel
theorem dX2_pieceRuns_57 : decode cX2_pieceRuns 57 = .ok (.iload 5, 2) := by decide +kernel
theorem dX2_pieceRuns_59 : decode cX2_pieceRuns 59 = .ok (.invokestatic 26, 3) := by decide +kernel
theorem dX2_pieceRuns_62 : decode cX2_pieceRuns 62 = .ok (.iadd, 1) := by decide +kernel
theorem dX2_pieceRuns_63 : decode cX2_pieceRuns 63 = .ok (.istore_n 2, 1) := by decide +kernel
theorem dX2_pieceRuns_64 : decode cX2_pieceRuns 64 = .ok (.aload_n 0, 1) := by decide +kernel
theorem dX2_pieceRuns_65 : decode cX2_pieceRuns 65 = .ok (.getfield 9, 3) := by decide +kernel
theorem dX2_pieceRuns_68 : decode cX2_pieceRuns 68 = .ok (.iload 4, 2) := by decide +kernel
theorem dX2_pieceRuns_70 : decode cX2_pieceRuns 70 = .ok (.iaload, 1) := by decide +kernel
theorem dX2_pieceRuns_71 : decode cX2_pieceRuns 71 = .ok (.bipush 31, 2) := by decide +kernel
theorem dX2_pieceRuns_73 : decode cX2_pieceRuns 73 = .ok (.iushr, 1) := by decide +kernel
theorem dX2_pieceRuns_74 : decode cX2_pieceRuns 74 = .ok (.istore_n 3, 1) := by decide +kernel
theorem dX2_pieceRuns_75 : decode cX2_pieceRuns 75 = .ok (.iinc 4 1, 3) := by decide +kernel
theorem dX2_pieceRuns_78 : decode cX2_pieceRuns 78 = .ok (.goto (-56), 3) := by decide +kernel
theorem dX2_pieceRuns_81 : decode cX2_pieceRuns 81 = .ok (.iload_n 2, 1) := by decide +kernel
theorem dX2_pieceRuns_82 : decode cX2_pieceRuns 82 = .ok (.ireturn, 1) := by decide +kernel
theorem dX2_pieceForm_0 : decode cX2_pieceForm 0 = .ok (.aload_n 0, 1) := by decide +kernel
theorem dX2_pieceForm_1 : decode cX2_pieceForm 1 = .ok (.iload_n 1, 1) := by decide +kernel
theorem dX2_pieceForm_2 : decode cX2_pieceForm 2 = .ok (.invokevirtual 46, 3) := by decide +kernel
theorem dX2_pieceForm_5 : decode cX2_pieceForm 5 = .ok (.istore_n 2, 1) := by decide +kernel
theorem dX2_pieceForm_6 : decode cX2_pieceForm 6 = .ok (.iload_n 2, 1) := by decide +kernel
theorem dX2_pieceForm_7 : decode cX2_pieceForm 7 = .ok (.ifCond .ne 5, 3) := by decide +kernel
theorem dX2_pieceForm_10 : decode cX2_pieceForm 10 = .ok (.iconst (-1), 1) := by decide +kernel
theorem dX2_pieceForm_11 : decode cX2_pieceForm 11 = .ok (.ireturn, 1) := by decide +kernel
theorem dX2_pieceForm_12 : decode cX2_pieceForm 12 = .ok (.bipush 8, 2) := by decide +kernel
theorem dX2_pieceForm_14 : decode cX2_pieceForm 14 = .ok (.iload_n 2, 1) := by decide +kernel
theorem dX2_pieceForm_15 : decode cX2_pieceForm 15 = .ok (.imul, 1) := by decide +kernel
theorem dX2_pieceForm_16 : decode cX2_pieceForm 16 = .ok (.istore_n 3, 1) := by decide +kernel
theorem dX2_pieceForm_17 : decode cX2_pieceForm 17 = .ok (.bipush 16, 2) := by decide +kernel
theorem dX2_pieceForm_19 : decode cX2_pieceForm 19 = .ok (.aload_n 0, 1) := by decide +kernel
theorem dX2_pieceForm_20 : decode cX2_pieceForm 20 = .ok (.iload_n 1, 1) := by decide +kernel
theorem dX2_pieceForm_21 : decode cX2_pieceForm 21 = .ok (.invokevirtual 49, 3) := by decide +kernel
theorem dX2_pieceForm_24 : decode cX2_pieceForm 24 = .ok (.imul, 1) := by decide +kernel
theorem dX2_pieceForm_25 : decode cX2_pieceForm 25 = .ok (.istore 4, 2) := by decide +kernel
theorem dX2_pieceForm_27 : decode cX2_pieceForm 27 = .ok (.iload_n 3, 1) := by decide +kernel
theorem dX2_pieceForm_28 : decode cX2_pieceForm 28 = .ok (.sipush 256, 3) := by decide +kernel
theorem dX2_pieceForm_31 : decode cX2_pieceForm 31 = .ok (.if_icmp .gt 11, 3) := by decide +kernel
theorem dX2_pieceForm_34 : decode cX2_pieceForm 34 = .ok (.iload_n 3, 1) := by decide +kernel
theorem dX2_pieceForm_35 : decode cX2_pieceForm 35 = .ok (.iload 4, 2) := by decide +kernel
theorem dX2_pieceForm_37 : decode cX2_pieceForm 37 = .ok (.if_icmp .gt 5, 3) := by decide +kernel
theorem dX2_pieceForm_40 : decode cX2_pieceForm 40 = .ok (.iconst 0, 1) := by decide +kernel
theorem dX2_pieceForm_41 : decode cX2_pieceForm 41 = .ok (.ireturn, 1) := by decide +kernel
theorem dX2_pieceForm_42 : decode cX2_pieceForm 42 = .ok (.sipush 256, 3) := by decide +kernel
theorem dX2_pieceForm_45 : decode cX2_pieceForm 45 = .ok (.iload 4, 2) := by decide +kernel
theorem dX2_pieceForm_47 : decode cX2_pieceForm 47 = .ok (.if_icmp .gt 7, 3) := by decide +kernel
theorem dX2_pieceForm_50 : decode cX2_pieceForm 50 = .ok (.iconst 1, 1) := by decide +kernel
theorem dX2_pieceForm_51 : decode cX2_pieceForm 51 = .ok (.goto 4, 3) := by decide +kernel
theorem dX2_pieceForm_54 : decode cX2_pieceForm 54 = .ok (.iconst 2, 1) := by decide +kernel
theorem dX2_pieceForm_55 : decode cX2_pieceForm 55 = .ok (.ireturn, 1) := by decide +kernel
theorem dX2_pieceBits_0 : decode cX2_pieceBits 0 = .ok (.aload_n 0, 1) := by decide +kernel
theorem dX2_pieceBits_1 : decode cX2_pieceBits 1 = .ok (.iload_n 1, 1) := by decide +kernel
theorem dX2_pieceBits_2 : decode cX2_pieceBits 2 = .ok (.invokevirtual 52, 3) := by decide +kernel
theorem dX2_pieceBits_5 : decode cX2_pieceBits 5 = .ok (.tableswitch 49 0 2 #[27, 36, 40], 27) := by decide +kernel
theorem dX2_pieceBits_32 : decode cX2_pieceBits 32 = .ok (.bipush 8, 2) := by decide +kernel
theorem dX2_pieceBits_34 : decode cX2_pieceBits 34 = .ok (.aload_n 0, 1) := by decide +kernel
theorem dX2_pieceBits_35 : decode cX2_pieceBits 35 = .ok (.iload_n 1, 1) := by decide +kernel
theorem dX2_pieceBits_36 : decode cX2_pieceBits 36 = .ok (.invokevirtual 46, 3) := by decide +kernel
theorem dX2_pieceBits_39 : decode cX2_pieceBits 39 = .ok (.imul, 1) := by decide +kernel
theorem dX2_pieceBits_40 : decode cX2_pieceBits 40 = .ok (.ireturn, 1) := by decide +kernel
theorem dX2_pieceBits_41 : decode cX2_pieceBits 41 = .ok (.sipush 256, 3) := by decide +kernel
theorem dX2_pieceBits_44 : decode cX2_pieceBits 44 = .ok (.ireturn, 1) := by decide +kernel
theorem dX2_pieceBits_45 : decode cX2_pieceBits 45 = .ok (.bipush 16, 2) := by decide +kernel
theorem dX2_pieceBits_47 : decode cX2_pieceBits 47 = .ok (.aload_n 0, 1) := by decide +kernel
theorem dX2_pieceBits_48 : decode cX2_pieceBits 48 = .ok (.iload_n 1, 1) := by decide +kernel
theorem dX2_pieceBits_49 : decode cX2_pieceBits 49 = .ok (.invokevirtual 49, 3) := by decide +kernel
theorem dX2_pieceBits_52 : decode cX2_pieceBits 52 = .ok (.imul, 1) := by decide +kernel
theorem dX2_pieceBits_53 : decode cX2_pieceBits 53 = .ok (.ireturn, 1) := by decide +kernel
theorem dX2_pieceBits_54 : decode cX2_pieceBits 54 = .ok (.iconst 0, 1) := by decide +kernel
theorem dX2_pieceBits_55 : decode cX2_pieceBits 55 = .ok (.ireturn, 1) := by decide +kernel
theorem dX2_joined_0 : decode cX2_joined 0 = .ok (.iload_n 2, 1) := by decide +kernel
theorem dX2_joined_1 : decode cX2_joined 1 = .ok (.tableswitch 41 0 2 #[27, 31, 35], 27) := by decide +kernel
theorem dX2_joined_28 : decode cX2_joined 28 = .ok (.iload_n 0, 1) := by decide +kernel
theorem dX2_joined_29 : decode cX2_joined 29 = .ok (.iload_n 1, 1) := by decide +kernel
theorem dX2_joined_30 : decode cX2_joined 30 = .ok (.iand, 1) := by decide +kernel
theorem dX2_joined_31 : decode cX2_joined 31 = .ok (.ireturn, 1) := by decide +kernel
theorem dX2_joined_32 : decode cX2_joined 32 = .ok (.iload_n 0, 1) := by decide +kernel
theorem dX2_joined_33 : decode cX2_joined 33 = .ok (.iload_n 1, 1) := by decide +kernel
theorem dX2_joined_34 : decode cX2_joined 34 = .ok (.ior, 1) := by decide +kernel
theorem dX2_joined_35 : decode cX2_joined 35 = .ok (.ireturn, 1) := by decide +kernel
theorem dX2_joined_36 : decode cX2_joined 36 = .ok (.iload_n 0, 1) := by decide +kernel
theorem dX2_joined_37 : decode cX2_joined 37 = .ok (.iload_n 1, 1) := by decide +kernel
theorem dX2_joined_38 : decode cX2_joined 38 = .ok (.iconst (-1), 1) := by decide +kernel
theorem dX2_joined_39 : decode cX2_joined 39 = .ok (.ixor, 1) := by decide +kernel
theorem dX2_joined_40 : decode cX2_joined 40 = .ok (.iand, 1) := by decide +kernel
theorem dX2_joined_41 : decode cX2_joined 41 = .ok (.ireturn, 1) := by decide +kernel
theorem dX2_joined_42 : decode cX2_joined 42 = .ok (.iload_n 0, 1) := by decide +kernel
theorem dX2_joined_43 : decode cX2_joined 43 = .ok (.iload_n 1, 1) := by decide +kernel
theorem dX2_joined_44 : decode cX2_joined 44 = .ok (.ixor, 1) := by decide +kernel
theorem dX2_joined_45 : decode cX2_joined 45 = .ok (.ireturn, 1) := by decide +kernel
theorem dX2_maskInWord_0 : decode cX2_maskInWord 0 = .ok (.iconst (-1), 1) := by decide +kernel
theorem dX2_maskInWord_1 : decode cX2_maskInWord 1 = .ok (.istore_n 3, 1) := by decide +kernel
theorem dX2_maskInWord_2 : decode cX2_maskInWord 2 = .ok (.iload_n 0, 1) := by decide +kernel
theorem dX2_maskInWord_3 : decode cX2_maskInWord 3 = .ok (.iload_n 1, 1) := by decide +kernel
theorem dX2_maskInWord_4 : decode cX2_maskInWord 4 = .ok (.iconst 5, 1) := by decide +kernel
theorem dX2_maskInWord_5 : decode cX2_maskInWord 5 = .ok (.ishr, 1) := by decide +kernel
theorem dX2_maskInWord_6 : decode cX2_maskInWord 6 = .ok (.if_icmp .ne 12, 3) := by decide +kernel
theorem dX2_maskInWord_9 : decode cX2_maskInWord 9 = .ok (.iload_n 3, 1) := by decide +kernel
theorem dX2_maskInWord_10 : decode cX2_maskInWord 10 = .ok (.iconst (-1), 1) := by decide +kernel
theorem dX2_maskInWord_11 : decode cX2_maskInWord 11 = .ok (.iload_n 1, 1) := by decide +kernel
theorem dX2_maskInWord_12 : decode cX2_maskInWord 12 = .ok (.bipush 31, 2) := by decide +kernel
theorem dX2_maskInWord_14 : decode cX2_maskInWord 14 = .ok (.iand, 1) := by decide +kernel
theorem dX2_maskInWord_15 : decode cX2_maskInWord 15 = .ok (.ishl, 1) := by decide +kernel
theorem dX2_maskInWord_16 : decode cX2_maskInWord 16 = .ok (.iand, 1) := by decide +kernel
theorem dX2_maskInWord_17 : decode cX2_maskInWord 17 = .ok (.istore_n 3, 1) := by decide +kernel
theorem dX2_maskInWord_18 : decode cX2_maskInWord 18 = .ok (.iload_n 0, 1) := by decide +kernel
theorem dX2_maskInWord_19 : decode cX2_maskInWord 19 = .ok (.iload_n 2, 1) := by decide +kernel
theorem dX2_maskInWord_20 : decode cX2_maskInWord 20 = .ok (.iconst 5, 1) := by decide +kernel
theorem dX2_maskInWord_21 : decode cX2_maskInWord 21 = .ok (.ishr, 1) := by decide +kernel
theorem dX2_maskInWord_22 : decode cX2_maskInWord 22 = .ok (.if_icmp .ne 15, 3) := by decide +kernel
theorem dX2_maskInWord_25 : decode cX2_maskInWord 25 = .ok (.iload_n 3, 1) := by decide +kernel
theorem dX2_maskInWord_26 : decode cX2_maskInWord 26 = .ok (.iconst (-1), 1) := by decide +kernel
theorem dX2_maskInWord_27 : decode cX2_maskInWord 27 = .ok (.bipush 31, 2) := by decide +kernel
theorem dX2_maskInWord_29 : decode cX2_maskInWord 29 = .ok (.iload_n 2, 1) := by decide +kernel
theorem dX2_maskInWord_30 : decode cX2_maskInWord 30 = .ok (.bipush 31, 2) := by decide +kernel
theorem dX2_maskInWord_32 : decode cX2_maskInWord 32 = .ok (.iand, 1) := by decide +kernel
theorem dX2_maskInWord_33 : decode cX2_maskInWord 33 = .ok (.isub, 1) := by decide +kernel
theorem dX2_maskInWord_34 : decode cX2_maskInWord 34 = .ok (.iushr, 1) := by decide +kernel
theorem dX2_maskInWord_35 : decode cX2_maskInWord 35 = .ok (.iand, 1) := by decide +kernel
theorem dX2_maskInWord_36 : decode cX2_maskInWord 36 = .ok (.istore_n 3, 1) := by decide +kernel
theorem dX2_maskInWord_37 : decode cX2_maskInWord 37 = .ok (.iload_n 3, 1) := by decide +kernel
theorem dX2_maskInWord_38 : decode cX2_maskInWord 38 = .ok (.ireturn, 1) := by decide +kernel
theorem dX2_nthOne_0 : decode cX2_nthOne 0 = .ok (.iload_n 0, 1) := by decide +kernel
theorem dX2_nthOne_1 : decode cX2_nthOne 1 = .ok (.istore_n 2, 1) := by decide +kernel
theorem dX2_nthOne_2 : decode cX2_nthOne 2 = .ok (.iconst 0, 1) := by decide +kernel
theorem dX2_nthOne_3 : decode cX2_nthOne 3 = .ok (.istore_n 3, 1) := by decide +kernel
theorem dX2_nthOne_4 : decode cX2_nthOne 4 = .ok (.iload_n 3, 1) := by decide +kernel
theorem dX2_nthOne_5 : decode cX2_nthOne 5 = .ok (.iload_n 1, 1) := by decide +kernel
theorem dX2_nthOne_6 : decode cX2_nthOne 6 = .ok (.if_icmp .ge 15, 3) := by decide +kernel
theorem dX2_nthOne_9 : decode cX2_nthOne 9 = .ok (.iload_n 2, 1) := by decide +kernel
theorem dX2_nthOne_10 : decode cX2_nthOne 10 = .ok (.iload_n 2, 1) := by decide +kernel
theorem dX2_nthOne_11 : decode cX2_nthOne 11 = .ok (.iconst 1, 1) := by decide +kernel
theorem dX2_nthOne_12 : decode cX2_nthOne 12 = .ok (.isub, 1) := by decide +kernel
theorem dX2_nthOne_13 : decode cX2_nthOne 13 = .ok (.iand, 1) := by decide +kernel
theorem dX2_nthOne_14 : decode cX2_nthOne 14 = .ok (.istore_n 2, 1) := by decide +kernel
theorem dX2_nthOne_15 : decode cX2_nthOne 15 = .ok (.iinc 3 1, 3) := by decide +kernel
theorem dX2_nthOne_18 : decode cX2_nthOne 18 = .ok (.goto (-14), 3) := by decide +kernel
theorem dX2_nthOne_21 : decode cX2_nthOne 21 = .ok (.iload_n 2, 1) := by decide +kernel
theorem dX2_nthOne_22 : decode cX2_nthOne 22 = .ok (.iload_n 2, 1) := by decide +kernel
theorem dX2_nthOne_23 : decode cX2_nthOne 23 = .ok (.ineg, 1) := by decide +kernel
theorem dX2_nthOne_24 : decode cX2_nthOne 24 = .ok (.iand, 1) := by decide +kernel
theorem dX2_nthOne_25 : decode cX2_nthOne 25 = .ok (.iconst 1, 1) := by decide +kernel
theorem dX2_nthOne_26 : decode cX2_nthOne 26 = .ok (.isub, 1) := by decide +kernel
theorem dX2_nthOne_27 : decode cX2_nthOne 27 = .ok (.invokestatic 26, 3) := by decide +kernel
theorem dX2_nthOne_30 : decode cX2_nthOne 30 = .ok (.ireturn, 1) := by decide +kernel
theorem dX3_init_0 : decode cX3_init 0 = .ok (.aload_n 0, 1) := by decide +kernel
theorem dX3_init_1 : decode cX3_init 1 = .ok (.invokespecial 3, 3) := by decide +kernel
theorem dX3_init_4 : decode cX3_init 4 = .ok (.return_, 1) := by decide +kernel
theorem dX3_bitsFor_0 : decode cX3_bitsFor 0 = .ok (.iconst 0, 1) := by decide +kernel
theorem dX3_bitsFor_1 : decode cX3_bitsFor 1 = .ok (.istore_n 2, 1) := by decide +kernel
theorem dX3_bitsFor_2 : decode cX3_bitsFor 2 = .ok (.iconst 0, 1) := by decide +kernel
theorem dX3_bitsFor_3 : decode cX3_bitsFor 3 = .ok (.istore_n 3, 1) := by decide +kernel
theorem dX3_bitsFor_4 : decode cX3_bitsFor 4 = .ok (.iload_n 3, 1) := by decide +kernel
theorem dX3_bitsFor_5 : decode cX3_bitsFor 5 = .ok (.bipush 16, 2) := by decide +kernel
theorem dX3_bitsFor_7 : decode cX3_bitsFor 7 = .ok (.if_icmp .ge 56, 3) := by decide +kernel
theorem dX3_bitsFor_10 : decode cX3_bitsFor 10 = .ok (.aload_n 1, 1) := by decide +kernel
theorem dX3_bitsFor_11 : decode cX3_bitsFor 11 = .ok (.iload_n 3, 1) := by decide +kernel
theorem dX3_bitsFor_12 : decode cX3_bitsFor 12 = .ok (.invokevirtual 9, 3) := by decide +kernel
theorem dX3_bitsFor_15 : decode cX3_bitsFor 15 = .ok (.istore 4, 2) := by decide +kernel
theorem dX3_bitsFor_17 : decode cX3_bitsFor 17 = .ok (.iload 4, 2) := by decide +kernel
theorem dX3_bitsFor_19 : decode cX3_bitsFor 19 = .ok (.ifCond .eq 9, 3) := by decide +kernel
theorem dX3_bitsFor_22 : decode cX3_bitsFor 22 = .ok (.iload 4, 2) := by decide +kernel
theorem dX3_bitsFor_24 : decode cX3_bitsFor 24 = .ok (.iconst 2, 1) := by decide +kernel
theorem dX3_bitsFor_25 : decode cX3_bitsFor 25 = .ok (.if_icmp .ne 7, 3) := by decide +kernel
theorem dX3_bitsFor_28 : decode cX3_bitsFor 28 = .ok (.iconst 1, 1) := by decide +kernel
theorem dX3_bitsFor_29 : decode cX3_bitsFor 29 = .ok (.goto 4, 3) := by decide +kernel
theorem dX3_bitsFor_32 : decode cX3_bitsFor 32 = .ok (.iconst 0, 1) := by decide +kernel
theorem dX3_bitsFor_33 : decode cX3_bitsFor 33 = .ok (.istore 5, 2) := by decide +kernel
theorem dX3_bitsFor_35 : decode cX3_bitsFor 35 = .ok (.iload_n 2, 1) := by decide +kernel
theorem dX3_bitsFor_36 : decode cX3_bitsFor 36 = .ok (.iconst 2, 1) := by decide +kernel
theorem dX3_bitsFor_37 : decode cX3_bitsFor 37 = .ok (.aload_n 1, 1) := by decide +kernel
theorem dX3_bitsFor_38 : decode cX3_bitsFor 38 = .ok (.iload_n 3, 1) := by decide +kernel
theorem dX3_bitsFor_39 : decode cX3_bitsFor 39 = .ok (.invokevirtual 15, 3) := by decide +kernel
theorem dX3_bitsFor_42 : decode cX3_bitsFor 42 = .ok (.iadd, 1) := by decide +kernel
theorem dX3_bitsFor_43 : decode cX3_bitsFor 43 = .ok (.iload 5, 2) := by decide +kernel
theorem dX3_bitsFor_45 : decode cX3_bitsFor 45 = .ok (.ifCond .eq 8, 3) := by decide +kernel
theorem dX3_bitsFor_48 : decode cX3_bitsFor 48 = .ok (.bipush 8, 2) := by decide +kernel
theorem dX3_bitsFor_50 : decode cX3_bitsFor 50 = .ok (.goto 4, 3) := by decide +kernel
theorem dX3_bitsFor_53 : decode cX3_bitsFor 53 = .ok (.iconst 0, 1) := by decide +kernel
theorem dX3_bitsFor_54 : decode cX3_bitsFor 54 = .ok (.iadd, 1) := by decide +kernel
theorem dX3_bitsFor_55 : decode cX3_bitsFor 55 = .ok (.iadd, 1) := by decide +kernel
theorem dX3_bitsFor_56 : decode cX3_bitsFor 56 = .ok (.istore_n 2, 1) := by decide +kernel
theorem dX3_bitsFor_57 : decode cX3_bitsFor 57 = .ok (.iinc 3 1, 3) := by decide +kernel
theorem dX3_bitsFor_60 : decode cX3_bitsFor 60 = .ok (.goto (-56), 3) := by decide +kernel
theorem dX3_bitsFor_63 : decode cX3_bitsFor 63 = .ok (.iload_n 2, 1) := by decide +kernel
theorem dX3_bitsFor_64 : decode cX3_bitsFor 64 = .ok (.ireturn, 1) := by decide +kernel
theorem dX3_tell_0 : decode cX3_tell 0 = .ok (.iconst 0, 1) := by decide +kernel
theorem dX3_tell_1 : decode cX3_tell 1 = .ok (.istore_n 3, 1) := by decide +kernel
theorem dX3_tell_2 : decode cX3_tell 2 = .ok (.iload_n 3, 1) := by decide +kernel
theorem dX3_tell_3 : decode cX3_tell 3 = .ok (.bipush 16, 2) := by decide +kernel
theorem dX3_tell_5 : decode cX3_tell 5 = .ok (.if_icmp .ge 94, 3) := by decide +kernel
theorem dX3_tell_8 : decode cX3_tell 8 = .ok (.aload_n 1, 1) := by decide +kernel
theorem dX3_tell_9 : decode cX3_tell 9 = .ok (.iload_n 3, 1) := by decide +kernel
theorem dX3_tell_10 : decode cX3_tell 10 = .ok (.invokevirtual 9, 3) := by decide +kernel
theorem dX3_tell_13 : decode cX3_tell 13 = .ok (.istore 4, 2) := by decide +kernel
theorem dX3_tell_15 : decode cX3_tell 15 = .ok (.aload_n 2, 1) := by decide +kernel
theorem dX3_tell_16 : decode cX3_tell 16 = .ok (.iload 4, 2) := by decide +kernel
theorem dX3_tell_18 : decode cX3_tell 18 = .ok (.iconst (-1), 1) := by decide +kernel
theorem dX3_tell_19 : decode cX3_tell 19 = .ok (.if_icmp .ne 7, 3) := by decide +kernel
theorem dX3_tell_22 : decode cX3_tell 22 = .ok (.iconst 3, 1) := by decide +kernel
theorem dX3_tell_23 : decode cX3_tell 23 = .ok (.goto 5, 3) := by decide +kernel
theorem dX3_tell_26 : decode cX3_tell 26 = .ok (.iload 4, 2) := by decide +kernel
theorem dX3_tell_28 : decode cX3_tell 28 = .ok (.iconst 2, 1) := by decide +kernel
theorem dX3_tell_29 : decode cX3_tell 29 = .ok (.invokevirtual 18, 3) := by decide +kernel
theorem dX3_tell_32 : decode cX3_tell 32 = .ok (.iload_n 3, 1) := by decide +kernel
theorem dX3_tell_33 : decode cX3_tell 33 = .ok (.sipush 256, 3) := by decide +kernel
theorem dX3_tell_36 : decode cX3_tell 36 = .ok (.imul, 1) := by decide +kernel
theorem dX3_tell_37 : decode cX3_tell 37 = .ok (.istore 5, 2) := by decide +kernel
theorem dX3_tell_39 : decode cX3_tell 39 = .ok (.iload 4, 2) := by decide +kernel
theorem dX3_tell_41 : decode cX3_tell 41 = .ok (.ifCond .ne 18, 3) := by decide +kernel
theorem dX3_tell_44 : decode cX3_tell 44 = .ok (.aload_n 1, 1) := by decide +kernel
theorem dX3_tell_45 : decode cX3_tell 45 = .ok (.iload 5, 2) := by decide +kernel
theorem dX3_tell_47 : decode cX3_tell 47 = .ok (.aload_n 1, 1) := by decide +kernel
theorem dX3_tell_48 : decode cX3_tell 48 = .ok (.iload_n 3, 1) := by decide +kernel
theorem dX3_tell_49 : decode cX3_tell 49 = .ok (.invokevirtual 24, 3) := by decide +kernel
theorem dX3_tell_52 : decode cX3_tell 52 = .ok (.aload_n 2, 1) := by decide +kernel
theorem dX3_tell_53 : decode cX3_tell 53 = .ok (.invokestatic 27, 3) := by decide +kernel
theorem dX3_tell_56 : decode cX3_tell 56 = .ok (.goto 37, 3) := by decide +kernel
theorem dX3_tell_59 : decode cX3_tell 59 = .ok (.iload 4, 2) := by decide +kernel
theorem dX3_tell_61 : decode cX3_tell 61 = .ok (.iconst 1, 1) := by decide +kernel
theorem dX3_tell_62 : decode cX3_tell 62 = .ok (.if_icmp .ne 13, 3) := by decide +kernel
theorem dX3_tell_65 : decode cX3_tell 65 = .ok (.aload_n 1, 1) := by decide +kernel
theorem dX3_tell_66 : decode cX3_tell 66 = .ok (.iload 5, 2) := by decide +kernel
theorem dX3_tell_68 : decode cX3_tell 68 = .ok (.aload_n 2, 1) := by decide +kernel
theorem dX3_tell_69 : decode cX3_tell 69 = .ok (.invokestatic 33, 3) := by decide +kernel
theorem dX3_tell_72 : decode cX3_tell 72 = .ok (.goto 21, 3) := by decide +kernel
theorem dX3_tell_75 : decode cX3_tell 75 = .ok (.iload 4, 2) := by decide +kernel
theorem dX3_tell_77 : decode cX3_tell 77 = .ok (.iconst 2, 1) := by decide +kernel
theorem dX3_tell_78 : decode cX3_tell 78 = .ok (.if_icmp .ne 15, 3) := by decide +kernel
theorem dX3_tell_81 : decode cX3_tell 81 = .ok (.aload_n 1, 1) := by decide +kernel
theorem dX3_tell_82 : decode cX3_tell 82 = .ok (.iload 5, 2) := by decide +kernel
theorem dX3_tell_84 : decode cX3_tell 84 = .ok (.aload_n 1, 1) := by decide +kernel
theorem dX3_tell_85 : decode cX3_tell 85 = .ok (.iload_n 3, 1) := by decide +kernel
theorem dX3_tell_86 : decode cX3_tell 86 = .ok (.invokevirtual 37, 3) := by decide +kernel
theorem dX3_tell_89 : decode cX3_tell 89 = .ok (.aload_n 2, 1) := by decide +kernel
theorem dX3_tell_90 : decode cX3_tell 90 = .ok (.invokestatic 40, 3) := by decide +kernel
theorem dX3_tell_93 : decode cX3_tell 93 = .ok (.iinc 3 1, 3) := by decide +kernel
theorem dX3_tell_96 : decode cX3_tell 96 = .ok (.goto (-94), 3) := by decide +kernel
theorem dX3_tell_99 : decode cX3_tell 99 = .ok (.return_, 1) := by decide +kernel
theorem dX3_learn_0 : decode cX3_learn 0 = .ok (.aload_n 2, 1) := by decide +kernel
theorem dX3_learn_1 : decode cX3_learn 1 = .ok (.invokevirtual 43, 3) := by decide +kernel
theorem dX3_learn_4 : decode cX3_learn 4 = .ok (.aload_n 1, 1) := by decide +kernel
theorem dX3_learn_5 : decode cX3_learn 5 = .ok (.invokevirtual 46, 3) := by decide +kernel
theorem dX3_learn_8 : decode cX3_learn 8 = .ok (.iconst 0, 1) := by decide +kernel
theorem dX3_learn_9 : decode cX3_learn 9 = .ok (.istore_n 3, 1) := by decide +kernel
theorem dX3_learn_10 : decode cX3_learn 10 = .ok (.iload_n 3, 1) := by decide +kernel
theorem dX3_learn_11 : decode cX3_learn 11 = .ok (.bipush 16, 2) := by decide +kernel
theorem dX3_learn_13 : decode cX3_learn 13 = .ok (.if_icmp .ge 105, 3) := by decide +kernel
theorem dX3_learn_16 : decode cX3_learn 16 = .ok (.aload_n 1, 1) := by decide +kernel
theorem dX3_learn_17 : decode cX3_learn 17 = .ok (.iconst 2, 1) := by decide +kernel
theorem dX3_learn_18 : decode cX3_learn 18 = .ok (.invokevirtual 49, 3) := by decide +kernel
theorem dX3_learn_21 : decode cX3_learn 21 = .ok (.istore 4, 2) := by decide +kernel
theorem dX3_learn_23 : decode cX3_learn 23 = .ok (.iload_n 3, 1) := by decide +kernel
theorem dX3_learn_24 : decode cX3_learn 24 = .ok (.sipush 256, 3) := by decide +kernel
theorem dX3_learn_27 : decode cX3_learn 27 = .ok (.imul, 1) := by decide +kernel
theorem dX3_learn_28 : decode cX3_learn 28 = .ok (.istore 5, 2) := by decide +kernel
theorem dX3_learn_30 : decode cX3_learn 30 = .ok (.iconst 1, 1) := by decide +kernel
theorem dX3_learn_31 : decode cX3_learn 31 = .ok (.istore 6, 2) := by decide +kernel
theorem dX3_learn_33 : decode cX3_learn 33 = .ok (.iload 4, 2) := by decide +kernel
theorem dX3_learn_35 : decode cX3_learn 35 = .ok (.ifCond .ne 15, 3) := by decide +kernel
theorem dX3_learn_38 : decode cX3_learn 38 = .ok (.aload_n 1, 1) := by decide +kernel
theorem dX3_learn_39 : decode cX3_learn 39 = .ok (.aload_n 2, 1) := by decide +kernel
theorem dX3_learn_40 : decode cX3_learn 40 = .ok (.iload 5, 2) := by decide +kernel
theorem dX3_learn_42 : decode cX3_learn 42 = .ok (.invokestatic 52, 3) := by decide +kernel
theorem dX3_learn_45 : decode cX3_learn 45 = .ok (.istore 6, 2) := by decide +kernel
theorem dX3_learn_47 : decode cX3_learn 47 = .ok (.goto 34, 3) := by decide +kernel
theorem dX3_learn_50 : decode cX3_learn 50 = .ok (.iload 4, 2) := by decide +kernel
theorem dX3_learn_52 : decode cX3_learn 52 = .ok (.iconst 1, 1) := by decide +kernel
theorem dX3_learn_53 : decode cX3_learn 53 = .ok (.if_icmp .ne 13, 3) := by decide +kernel
theorem dX3_learn_56 : decode cX3_learn 56 = .ok (.aload_n 1, 1) := by decide +kernel
theorem dX3_learn_57 : decode cX3_learn 57 = .ok (.aload_n 2, 1) := by decide +kernel
theorem dX3_learn_58 : decode cX3_learn 58 = .ok (.iload 5, 2) := by decide +kernel
theorem dX3_learn_60 : decode cX3_learn 60 = .ok (.invokestatic 56, 3) := by decide +kernel
theorem dX3_learn_63 : decode cX3_learn 63 = .ok (.goto 18, 3) := by decide +kernel
theorem dX3_learn_66 : decode cX3_learn 66 = .ok (.iload 4, 2) := by decide +kernel
theorem dX3_learn_68 : decode cX3_learn 68 = .ok (.iconst 2, 1) := by decide +kernel
theorem dX3_learn_69 : decode cX3_learn 69 = .ok (.if_icmp .ne 12, 3) := by decide +kernel
theorem dX3_learn_72 : decode cX3_learn 72 = .ok (.aload_n 1, 1) := by decide +kernel
theorem dX3_learn_73 : decode cX3_learn 73 = .ok (.aload_n 2, 1) := by decide +kernel
theorem dX3_learn_74 : decode cX3_learn 74 = .ok (.iload 5, 2) := by decide +kernel
theorem dX3_learn_76 : decode cX3_learn 76 = .ok (.invokestatic 60, 3) := by decide +kernel
theorem dX3_learn_79 : decode cX3_learn 79 = .ok (.istore 6, 2) := by decide +kernel
theorem dX3_learn_81 : decode cX3_learn 81 = .ok (.aload_n 2, 1) := by decide +kernel
theorem dX3_learn_82 : decode cX3_learn 82 = .ok (.iload_n 3, 1) := by decide +kernel
theorem dX3_learn_83 : decode cX3_learn 83 = .ok (.invokevirtual 9, 3) := by decide +kernel
theorem dX3_learn_86 : decode cX3_learn 86 = .ok (.istore 7, 2) := by decide +kernel
theorem dX3_learn_88 : decode cX3_learn 88 = .ok (.iload 6, 2) := by decide +kernel
theorem dX3_learn_90 : decode cX3_learn 90 = .ok (.ifCond .eq 20, 3) := by decide +kernel
theorem dX3_learn_93 : decode cX3_learn 93 = .ok (.iload 4, 2) := by decide +kernel
theorem dX3_learn_95 : decode cX3_learn 95 = .ok (.iload 7, 2) := by decide +kernel
theorem dX3_learn_97 : decode cX3_learn 97 = .ok (.iconst (-1), 1) := by decide +kernel
theorem dX3_learn_98 : decode cX3_learn 98 = .ok (.if_icmp .ne 7, 3) := by decide +kernel
theorem dX3_learn_101 : decode cX3_learn 101 = .ok (.iconst 3, 1) := by decide +kernel
theorem dX3_learn_102 : decode cX3_learn 102 = .ok (.goto 5, 3) := by decide +kernel
theorem dX3_learn_105 : decode cX3_learn 105 = .ok (.iload 7, 2) := by decide +kernel
theorem dX3_learn_107 : decode cX3_learn 107 = .ok (.if_icmp .eq 5, 3) := by decide +kernel
theorem dX3_learn_110 : decode cX3_learn 110 = .ok (.iconst 0, 1) := by decide +kernel
theorem dX3_learn_111 : decode cX3_learn 111 = .ok (.ireturn, 1) := by decide +kernel
theorem dX3_learn_112 : decode cX3_learn 112 = .ok (.iinc 3 1, 3) := by decide +kernel
theorem dX3_learn_115 : decode cX3_learn 115 = .ok (.goto (-105), 3) := by decide +kernel
theorem dX3_learn_118 : decode cX3_learn 118 = .ok (.aload_n 1, 1) := by decide +kernel
theorem dX3_learn_119 : decode cX3_learn 119 = .ok (.invokevirtual 63, 3) := by decide +kernel
theorem dX3_learn_122 : decode cX3_learn 122 = .ok (.ireturn, 1) := by decide +kernel
theorem dX3_tellList_0 : decode cX3_tellList 0 = .ok (.aload_n 3, 1) := by decide +kernel
theorem dX3_tellList_1 : decode cX3_tellList 1 = .ok (.iload_n 2, 1) := by decide +kernel
theorem dX3_tellList_2 : decode cX3_tellList 2 = .ok (.iconst 1, 1) := by decide +kernel
theorem dX3_tellList_3 : decode cX3_tellList 3 = .ok (.isub, 1) := by decide +kernel
theorem dX3_tellList_4 : decode cX3_tellList 4 = .ok (.bipush 8, 2) := by decide +kernel
theorem dX3_tellList_6 : decode cX3_tellList 6 = .ok (.invokevirtual 18, 3) := by decide +kernel
theorem dX3_tellList_9 : decode cX3_tellList 9 = .ok (.iload_n 1, 1) := by decide +kernel
theorem dX3_tellList_10 : decode cX3_tellList 10 = .ok (.iconst 1, 1) := by decide +kernel
theorem dX3_tellList_11 : decode cX3_tellList 11 = .ok (.isub, 1) := by decide +kernel
theorem dX3_tellList_12 : decode cX3_tellList 12 = .ok (.istore 4, 2) := by decide +kernel
theorem dX3_tellList_14 : decode cX3_tellList 14 = .ok (.iconst 0, 1) := by decide +kernel
theorem dX3_tellList_15 : decode cX3_tellList 15 = .ok (.istore 5, 2) := by decide +kernel
theorem dX3_tellList_17 : decode cX3_tellList 17 = .ok (.iload 5, 2) := by decide +kernel
theorem dX3_tellList_19 : decode cX3_tellList 19 = .ok (.iload_n 2, 1) := by decide +kernel
theorem dX3_tellList_20 : decode cX3_tellList 20 = .ok (.if_icmp .ge 27, 3) := by decide +kernel
theorem dX3_tellList_23 : decode cX3_tellList 23 = .ok (.aload_n 0, 1) := by decide +kernel
theorem dX3_tellList_24 : decode cX3_tellList 24 = .ok (.iload 4, 2) := by decide +kernel
theorem dX3_tellList_26 : decode cX3_tellList 26 = .ok (.iconst 1, 1) := by decide +kernel
theorem dX3_tellList_27 : decode cX3_tellList 27 = .ok (.iadd, 1) := by decide +kernel
theorem dX3_tellList_28 : decode cX3_tellList 28 = .ok (.invokevirtual 67, 3) := by decide +kernel
theorem dX3_tellList_31 : decode cX3_tellList 31 = .ok (.istore 4, 2) := by decide +kernel
theorem dX3_tellList_33 : decode cX3_tellList 33 = .ok (.aload_n 3, 1) := by decide +kernel
theorem dX3_tellList_34 : decode cX3_tellList 34 = .ok (.iload 4, 2) := by decide +kernel
theorem dX3_tellList_36 : decode cX3_tellList 36 = .ok (.bipush 8, 2) := by decide +kernel
theorem dX3_tellList_38 : decode cX3_tellList 38 = .ok (.invokevirtual 18, 3) := by decide +kernel
theorem dX3_tellList_41 : decode cX3_tellList 41 = .ok (.iinc 5 1, 3) := by decide +kernel
theorem dX3_tellList_44 : decode cX3_tellList 44 = .ok (.goto (-27), 3) := by decide +kernel
theorem dX3_tellList_47 : decode cX3_tellList 47 = .ok (.return_, 1) := by decide +kernel
theorem dX3_tellBits_0 : decode cX3_tellBits 0 = .ok (.iconst 0, 1) := by decide +kernel
theorem dX3_tellBits_1 : decode cX3_tellBits 1 = .ok (.istore_n 3, 1) := by decide +kernel
theorem dX3_tellBits_2 : decode cX3_tellBits 2 = .ok (.iload_n 3, 1) := by decide +kernel
theorem dX3_tellBits_3 : decode cX3_tellBits 3 = .ok (.sipush 256, 3) := by decide +kernel
theorem dX3_tellBits_6 : decode cX3_tellBits 6 = .ok (.if_icmp .ge 29, 3) := by decide +kernel
theorem dX3_tellBits_9 : decode cX3_tellBits 9 = .ok (.aload_n 2, 1) := by decide +kernel
theorem dX3_tellBits_10 : decode cX3_tellBits 10 = .ok (.aload_n 0, 1) := by decide +kernel
theorem dX3_tellBits_11 : decode cX3_tellBits 11 = .ok (.iload_n 1, 1) := by decide +kernel
theorem dX3_tellBits_12 : decode cX3_tellBits 12 = .ok (.iload_n 3, 1) := by decide +kernel
theorem dX3_tellBits_13 : decode cX3_tellBits 13 = .ok (.iadd, 1) := by decide +kernel
theorem dX3_tellBits_14 : decode cX3_tellBits 14 = .ok (.invokevirtual 70, 3) := by decide +kernel
theorem dX3_tellBits_17 : decode cX3_tellBits 17 = .ok (.ifCond .eq 7, 3) := by decide +kernel
theorem dX3_tellBits_20 : decode cX3_tellBits 20 = .ok (.iconst 1, 1) := by decide +kernel
theorem dX3_tellBits_21 : decode cX3_tellBits 21 = .ok (.goto 4, 3) := by decide +kernel
theorem dX3_tellBits_24 : decode cX3_tellBits 24 = .ok (.iconst 0, 1) := by decide +kernel
theorem dX3_tellBits_25 : decode cX3_tellBits 25 = .ok (.iconst 1, 1) := by decide +kernel
theorem dX3_tellBits_26 : decode cX3_tellBits 26 = .ok (.invokevirtual 18, 3) := by decide +kernel
theorem dX3_tellBits_29 : decode cX3_tellBits 29 = .ok (.iinc 3 1, 3) := by decide +kernel
theorem dX3_tellBits_32 : decode cX3_tellBits 32 = .ok (.goto (-30), 3) := by decide +kernel
theorem dX3_tellBits_35 : decode cX3_tellBits 35 = .ok (.return_, 1) := by decide +kernel
theorem dX3_tellRuns_0 : decode cX3_tellRuns 0 = .ok (.aload_n 3, 1) := by decide +kernel
theorem dX3_tellRuns_1 : decode cX3_tellRuns 1 = .ok (.iload_n 2, 1) := by decide +kernel
theorem dX3_tellRuns_2 : decode cX3_tellRuns 2 = .ok (.iconst 1, 1) := by decide +kernel
theorem dX3_tellRuns_3 : decode cX3_tellRuns 3 = .ok (.isub, 1) := by decide +kernel
theorem dX3_tellRuns_4 : decode cX3_tellRuns 4 = .ok (.bipush 8, 2) := by decide +kernel
theorem dX3_tellRuns_6 : decode cX3_tellRuns 6 = .ok (.invokevirtual 18, 3) := by decide +kernel
theorem dX3_tellRuns_9 : decode cX3_tellRuns 9 = .ok (.iload_n 1, 1) := by decide +kernel
theorem dX3_tellRuns_10 : decode cX3_tellRuns 10 = .ok (.istore 4, 2) := by decide +kernel
theorem dX3_tellRuns_12 : decode cX3_tellRuns 12 = .ok (.iconst 0, 1) := by decide +kernel
theorem dX3_tellRuns_13 : decode cX3_tellRuns 13 = .ok (.istore 5, 2) := by decide +kernel
theorem dX3_tellRuns_15 : decode cX3_tellRuns 15 = .ok (.iload 5, 2) := by decide +kernel
theorem dX3_tellRuns_17 : decode cX3_tellRuns 17 = .ok (.iload_n 2, 1) := by decide +kernel
theorem dX3_tellRuns_18 : decode cX3_tellRuns 18 = .ok (.if_icmp .ge 73, 3) := by decide +kernel
theorem dX3_tellRuns_21 : decode cX3_tellRuns 21 = .ok (.aload_n 0, 1) := by decide +kernel
theorem dX3_tellRuns_22 : decode cX3_tellRuns 22 = .ok (.iload 4, 2) := by decide +kernel
theorem dX3_tellRuns_24 : decode cX3_tellRuns 24 = .ok (.invokevirtual 67, 3) := by decide +kernel
theorem dX3_tellRuns_27 : decode cX3_tellRuns 27 = .ok (.istore 6, 2) := by decide +kernel
theorem dX3_tellRuns_29 : decode cX3_tellRuns 29 = .ok (.iload 6, 2) := by decide +kernel
theorem dX3_tellRuns_31 : decode cX3_tellRuns 31 = .ok (.iconst 1, 1) := by decide +kernel
theorem dX3_tellRuns_32 : decode cX3_tellRuns 32 = .ok (.iadd, 1) := by decide +kernel
theorem dX3_tellRuns_33 : decode cX3_tellRuns 33 = .ok (.istore 7, 2) := by decide +kernel
theorem dX3_tellRuns_35 : decode cX3_tellRuns 35 = .ok (.iload 7, 2) := by decide +kernel
theorem dX3_tellRuns_37 : decode cX3_tellRuns 37 = .ok (.iload_n 1, 1) := by decide +kernel
theorem dX3_tellRuns_38 : decode cX3_tellRuns 38 = .ok (.sipush 256, 3) := by decide +kernel
theorem dX3_tellRuns_41 : decode cX3_tellRuns 41 = .ok (.iadd, 1) := by decide +kernel
theorem dX3_tellRuns_42 : decode cX3_tellRuns 42 = .ok (.if_icmp .ge 18, 3) := by decide +kernel
theorem dX3_tellRuns_45 : decode cX3_tellRuns 45 = .ok (.aload_n 0, 1) := by decide +kernel
theorem dX3_tellRuns_46 : decode cX3_tellRuns 46 = .ok (.iload 7, 2) := by decide +kernel
theorem dX3_tellRuns_48 : decode cX3_tellRuns 48 = .ok (.invokevirtual 70, 3) := by decide +kernel
theorem dX3_tellRuns_51 : decode cX3_tellRuns 51 = .ok (.ifCond .eq 9, 3) := by decide +kernel
theorem dX3_tellRuns_54 : decode cX3_tellRuns 54 = .ok (.iinc 7 1, 3) := by decide +kernel
theorem dX3_tellRuns_57 : decode cX3_tellRuns 57 = .ok (.goto (-22), 3) := by decide +kernel
theorem dX3_tellRuns_60 : decode cX3_tellRuns 60 = .ok (.aload_n 3, 1) := by decide +kernel
theorem dX3_tellRuns_61 : decode cX3_tellRuns 61 = .ok (.iload 6, 2) := by decide +kernel
theorem dX3_tellRuns_63 : decode cX3_tellRuns 63 = .ok (.bipush 8, 2) := by decide +kernel
theorem dX3_tellRuns_65 : decode cX3_tellRuns 65 = .ok (.invokevirtual 18, 3) := by decide +kernel
theorem dX3_tellRuns_68 : decode cX3_tellRuns 68 = .ok (.aload_n 3, 1) := by decide +kernel
theorem dX3_tellRuns_69 : decode cX3_tellRuns 69 = .ok (.iload 7, 2) := by decide +kernel
theorem dX3_tellRuns_71 : decode cX3_tellRuns 71 = .ok (.iload 6, 2) := by decide +kernel
theorem dX3_tellRuns_73 : decode cX3_tellRuns 73 = .ok (.isub, 1) := by decide +kernel
theorem dX3_tellRuns_74 : decode cX3_tellRuns 74 = .ok (.iconst 1, 1) := by decide +kernel
theorem dX3_tellRuns_75 : decode cX3_tellRuns 75 = .ok (.isub, 1) := by decide +kernel
theorem dX3_tellRuns_76 : decode cX3_tellRuns 76 = .ok (.bipush 8, 2) := by decide +kernel
theorem dX3_tellRuns_78 : decode cX3_tellRuns 78 = .ok (.invokevirtual 18, 3) := by decide +kernel
theorem dX3_tellRuns_81 : decode cX3_tellRuns 81 = .ok (.iload 7, 2) := by decide +kernel
theorem dX3_tellRuns_83 : decode cX3_tellRuns 83 = .ok (.istore 4, 2) := by decide +kernel
theorem dX3_tellRuns_85 : decode cX3_tellRuns 85 = .ok (.iinc 5 1, 3) := by decide +kernel
theorem dX3_tellRuns_88 : decode cX3_tellRuns 88 = .ok (.goto (-73), 3) := by decide +kernel
theorem dX3_tellRuns_91 : decode cX3_tellRuns 91 = .ok (.return_, 1) := by decide +kernel
theorem dX3_learnList_0 : decode cX3_learnList 0 = .ok (.aload_n 0, 1) := by decide +kernel
theorem dX3_learnList_1 : decode cX3_learnList 1 = .ok (.bipush 8, 2) := by decide +kernel
theorem dX3_learnList_3 : decode cX3_learnList 3 = .ok (.invokevirtual 49, 3) := by decide +kernel
theorem dX3_learnList_6 : decode cX3_learnList 6 = .ok (.iconst 1, 1) := by decide +kernel
theorem dX3_learnList_7 : decode cX3_learnList 7 = .ok (.iadd, 1) := by decide +kernel
theorem dX3_learnList_8 : decode cX3_learnList 8 = .ok (.istore_n 3, 1) := by decide +kernel
theorem dX3_learnList_9 : decode cX3_learnList 9 = .ok (.iconst (-1), 1) := by decide +kernel
theorem dX3_learnList_10 : decode cX3_learnList 10 = .ok (.istore 4, 2) := by decide +kernel
theorem dX3_learnList_12 : decode cX3_learnList 12 = .ok (.iconst 0, 1) := by decide +kernel
theorem dX3_learnList_13 : decode cX3_learnList 13 = .ok (.istore 5, 2) := by decide +kernel
theorem dX3_learnList_15 : decode cX3_learnList 15 = .ok (.iload 5, 2) := by decide +kernel
theorem dX3_learnList_17 : decode cX3_learnList 17 = .ok (.iload_n 3, 1) := by decide +kernel
theorem dX3_learnList_18 : decode cX3_learnList 18 = .ok (.if_icmp .ge 38, 3) := by decide +kernel
theorem dX3_learnList_21 : decode cX3_learnList 21 = .ok (.aload_n 0, 1) := by decide +kernel
theorem dX3_learnList_22 : decode cX3_learnList 22 = .ok (.bipush 8, 2) := by decide +kernel
theorem dX3_learnList_24 : decode cX3_learnList 24 = .ok (.invokevirtual 49, 3) := by decide +kernel
theorem dX3_learnList_27 : decode cX3_learnList 27 = .ok (.istore 6, 2) := by decide +kernel
theorem dX3_learnList_29 : decode cX3_learnList 29 = .ok (.iload 6, 2) := by decide +kernel
theorem dX3_learnList_31 : decode cX3_learnList 31 = .ok (.iload 4, 2) := by decide +kernel
theorem dX3_learnList_33 : decode cX3_learnList 33 = .ok (.if_icmp .gt 5, 3) := by decide +kernel
theorem dX3_learnList_36 : decode cX3_learnList 36 = .ok (.iconst 0, 1) := by decide +kernel
theorem dX3_learnList_37 : decode cX3_learnList 37 = .ok (.ireturn, 1) := by decide +kernel
theorem dX3_learnList_38 : decode cX3_learnList 38 = .ok (.aload_n 1, 1) := by decide +kernel
theorem dX3_learnList_39 : decode cX3_learnList 39 = .ok (.iload_n 2, 1) := by decide +kernel
theorem dX3_learnList_40 : decode cX3_learnList 40 = .ok (.iload 6, 2) := by decide +kernel
theorem dX3_learnList_42 : decode cX3_learnList 42 = .ok (.iadd, 1) := by decide +kernel
theorem dX3_learnList_43 : decode cX3_learnList 43 = .ok (.invokevirtual 74, 3) := by decide +kernel
theorem dX3_learnList_46 : decode cX3_learnList 46 = .ok (.iload 6, 2) := by decide +kernel
theorem dX3_learnList_48 : decode cX3_learnList 48 = .ok (.istore 4, 2) := by decide +kernel
theorem dX3_learnList_50 : decode cX3_learnList 50 = .ok (.iinc 5 1, 3) := by decide +kernel
theorem dX3_learnList_53 : decode cX3_learnList 53 = .ok (.goto (-38), 3) := by decide +kernel
theorem dX3_learnList_56 : decode cX3_learnList 56 = .ok (.iconst 1, 1) := by decide +kernel
theorem dX3_learnList_57 : decode cX3_learnList 57 = .ok (.ireturn, 1) := by decide +kernel
theorem dX3_learnBits_0 : decode cX3_learnBits 0 = .ok (.iconst 0, 1) := by decide +kernel
theorem dX3_learnBits_1 : decode cX3_learnBits 1 = .ok (.istore_n 3, 1) := by decide +kernel
theorem dX3_learnBits_2 : decode cX3_learnBits 2 = .ok (.iload_n 3, 1) := by decide +kernel
theorem dX3_learnBits_3 : decode cX3_learnBits 3 = .ok (.sipush 256, 3) := by decide +kernel
theorem dX3_learnBits_6 : decode cX3_learnBits 6 = .ok (.if_icmp .ge 25, 3) := by decide +kernel
theorem dX3_learnBits_9 : decode cX3_learnBits 9 = .ok (.aload_n 0, 1) := by decide +kernel
theorem dX3_learnBits_10 : decode cX3_learnBits 10 = .ok (.iconst 1, 1) := by decide +kernel
theorem dX3_learnBits_11 : decode cX3_learnBits 11 = .ok (.invokevirtual 49, 3) := by decide +kernel
theorem dX3_learnBits_14 : decode cX3_learnBits 14 = .ok (.iconst 1, 1) := by decide +kernel
theorem dX3_learnBits_15 : decode cX3_learnBits 15 = .ok (.if_icmp .ne 10, 3) := by decide +kernel
theorem dX3_learnBits_18 : decode cX3_learnBits 18 = .ok (.aload_n 1, 1) := by decide +kernel
theorem dX3_learnBits_19 : decode cX3_learnBits 19 = .ok (.iload_n 2, 1) := by decide +kernel
theorem dX3_learnBits_20 : decode cX3_learnBits 20 = .ok (.iload_n 3, 1) := by decide +kernel
theorem dX3_learnBits_21 : decode cX3_learnBits 21 = .ok (.iadd, 1) := by decide +kernel
theorem dX3_learnBits_22 : decode cX3_learnBits 22 = .ok (.invokevirtual 74, 3) := by decide +kernel
theorem dX3_learnBits_25 : decode cX3_learnBits 25 = .ok (.iinc 3 1, 3) := by decide +kernel
theorem dX3_learnBits_28 : decode cX3_learnBits 28 = .ok (.goto (-26), 3) := by decide +kernel
theorem dX3_learnBits_31 : decode cX3_learnBits 31 = .ok (.return_, 1) := by decide +kernel
theorem dX3_learnRuns_0 : decode cX3_learnRuns 0 = .ok (.aload_n 0, 1) := by decide +kernel
theorem dX3_learnRuns_1 : decode cX3_learnRuns 1 = .ok (.bipush 8, 2) := by decide +kernel
theorem dX3_learnRuns_3 : decode cX3_learnRuns 3 = .ok (.invokevirtual 49, 3) := by decide +kernel
theorem dX3_learnRuns_6 : decode cX3_learnRuns 6 = .ok (.iconst 1, 1) := by decide +kernel
theorem dX3_learnRuns_7 : decode cX3_learnRuns 7 = .ok (.iadd, 1) := by decide +kernel
theorem dX3_learnRuns_8 : decode cX3_learnRuns 8 = .ok (.istore_n 3, 1) := by decide +kernel
theorem dX3_learnRuns_9 : decode cX3_learnRuns 9 = .ok (.iconst 0, 1) := by decide +kernel
theorem dX3_learnRuns_10 : decode cX3_learnRuns 10 = .ok (.istore 4, 2) := by decide +kernel
theorem dX3_learnRuns_12 : decode cX3_learnRuns 12 = .ok (.iconst 0, 1) := by decide +kernel
theorem dX3_learnRuns_13 : decode cX3_learnRuns 13 = .ok (.istore 5, 2) := by decide +kernel
theorem dX3_learnRuns_15 : decode cX3_learnRuns 15 = .ok (.iload 5, 2) := by decide +kernel
theorem dX3_learnRuns_17 : decode cX3_learnRuns 17 = .ok (.iload_n 3, 1) := by decide +kernel
theorem dX3_learnRuns_18 : decode cX3_learnRuns 18 = .ok (.if_icmp .ge 63, 3) := by decide +kernel
theorem dX3_learnRuns_21 : decode cX3_learnRuns 21 = .ok (.aload_n 0, 1) := by decide +kernel
theorem dX3_learnRuns_22 : decode cX3_learnRuns 22 = .ok (.bipush 8, 2) := by decide +kernel
theorem dX3_learnRuns_24 : decode cX3_learnRuns 24 = .ok (.invokevirtual 49, 3) := by decide +kernel
theorem dX3_learnRuns_27 : decode cX3_learnRuns 27 = .ok (.istore 6, 2) := by decide +kernel
theorem dX3_learnRuns_29 : decode cX3_learnRuns 29 = .ok (.iload 6, 2) := by decide +kernel
theorem dX3_learnRuns_31 : decode cX3_learnRuns 31 = .ok (.aload_n 0, 1) := by decide +kernel
theorem dX3_learnRuns_32 : decode cX3_learnRuns 32 = .ok (.bipush 8, 2) := by decide +kernel
theorem dX3_learnRuns_34 : decode cX3_learnRuns 34 = .ok (.invokevirtual 49, 3) := by decide +kernel
theorem dX3_learnRuns_37 : decode cX3_learnRuns 37 = .ok (.iadd, 1) := by decide +kernel
theorem dX3_learnRuns_38 : decode cX3_learnRuns 38 = .ok (.istore 7, 2) := by decide +kernel
theorem dX3_learnRuns_40 : decode cX3_learnRuns 40 = .ok (.iload 6, 2) := by decide +kernel
theorem dX3_learnRuns_42 : decode cX3_learnRuns 42 = .ok (.iload 4, 2) := by decide +kernel
theorem dX3_learnRuns_44 : decode cX3_learnRuns 44 = .ok (.if_icmp .lt 11, 3) := by decide +kernel
theorem dX3_learnRuns_47 : decode cX3_learnRuns 47 = .ok (.iload 7, 2) := by decide +kernel
theorem dX3_learnRuns_49 : decode cX3_learnRuns 49 = .ok (.sipush 256, 3) := by decide +kernel
theorem dX3_learnRuns_52 : decode cX3_learnRuns 52 = .ok (.if_icmp .lt 5, 3) := by decide +kernel
theorem dX3_learnRuns_55 : decode cX3_learnRuns 55 = .ok (.iconst 0, 1) := by decide +kernel
theorem dX3_learnRuns_56 : decode cX3_learnRuns 56 = .ok (.ireturn, 1) := by decide +kernel
theorem dX3_learnRuns_57 : decode cX3_learnRuns 57 = .ok (.aload_n 1, 1) := by decide +kernel
theorem dX3_learnRuns_58 : decode cX3_learnRuns 58 = .ok (.iload_n 2, 1) := by decide +kernel
theorem dX3_learnRuns_59 : decode cX3_learnRuns 59 = .ok (.iload 6, 2) := by decide +kernel
theorem dX3_learnRuns_61 : decode cX3_learnRuns 61 = .ok (.iadd, 1) := by decide +kernel
theorem dX3_learnRuns_62 : decode cX3_learnRuns 62 = .ok (.iload_n 2, 1) := by decide +kernel
theorem dX3_learnRuns_63 : decode cX3_learnRuns 63 = .ok (.iload 7, 2) := by decide +kernel
theorem dX3_learnRuns_65 : decode cX3_learnRuns 65 = .ok (.iadd, 1) := by decide +kernel
theorem dX3_learnRuns_66 : decode cX3_learnRuns 66 = .ok (.invokevirtual 78, 3) := by decide +kernel
theorem dX3_learnRuns_69 : decode cX3_learnRuns 69 = .ok (.iload 7, 2) := by decide +kernel
theorem dX3_learnRuns_71 : decode cX3_learnRuns 71 = .ok (.iconst 2, 1) := by decide +kernel
theorem dX3_learnRuns_72 : decode cX3_learnRuns 72 = .ok (.iadd, 1) := by decide +kernel
theorem dX3_learnRuns_73 : decode cX3_learnRuns 73 = .ok (.istore 4, 2) := by decide +kernel
theorem dX3_learnRuns_75 : decode cX3_learnRuns 75 = .ok (.iinc 5 1, 3) := by decide +kernel
theorem dX3_learnRuns_78 : decode cX3_learnRuns 78 = .ok (.goto (-63), 3) := by decide +kernel
theorem dX3_learnRuns_81 : decode cX3_learnRuns 81 = .ok (.iconst 1, 1) := by decide +kernel
theorem dX3_learnRuns_82 : decode cX3_learnRuns 82 = .ok (.ireturn, 1) := by decide +kernel
theorem dX4_init_0 : decode cX4_init 0 = .ok (.aload_n 0, 1) := by decide +kernel
theorem dX4_init_1 : decode cX4_init 1 = .ok (.invokespecial 3, 3) := by decide +kernel
theorem dX4_init_4 : decode cX4_init 4 = .ok (.aload_n 0, 1) := by decide +kernel
theorem dX4_init_5 : decode cX4_init 5 = .ok (.sipush 257, 3) := by decide +kernel
theorem dX4_init_8 : decode cX4_init 8 = .ok (.newarray .int, 2) := by decide +kernel
theorem dX4_init_10 : decode cX4_init 10 = .ok (.putfield 9, 3) := by decide +kernel
theorem dX4_init_13 : decode cX4_init 13 = .ok (.aload_n 0, 1) := by decide +kernel
theorem dX4_init_14 : decode cX4_init 14 = .ok (.iconst 0, 1) := by decide +kernel
theorem dX4_init_15 : decode cX4_init 15 = .ok (.putfield 15, 3) := by decide +kernel
theorem dX4_init_18 : decode cX4_init 18 = .ok (.aload_n 0, 1) := by decide +kernel
theorem dX4_init_19 : decode cX4_init 19 = .ok (.iconst 0, 1) := by decide +kernel
theorem dX4_init_20 : decode cX4_init 20 = .ok (.putfield 19, 3) := by decide +kernel
theorem dX4_init_23 : decode cX4_init 23 = .ok (.return_, 1) := by decide +kernel
theorem dX4_held_0 : decode cX4_held 0 = .ok (.aload_n 0, 1) := by decide +kernel
theorem dX4_held_1 : decode cX4_held 1 = .ok (.getfield 15, 3) := by decide +kernel
theorem dX4_held_4 : decode cX4_held 4 = .ok (.ireturn, 1) := by decide +kernel
theorem dX4_reaches_0 : decode cX4_reaches 0 = .ok (.iload_n 1, 1) := by decide +kernel
theorem dX4_reaches_1 : decode cX4_reaches 1 = .ok (.ifCond .lt 15, 3) := by decide +kernel
theorem dX4_reaches_4 : decode cX4_reaches 4 = .ok (.iload_n 1, 1) := by decide +kernel
theorem dX4_reaches_5 : decode cX4_reaches 5 = .ok (.aload_n 0, 1) := by decide +kernel
theorem dX4_reaches_6 : decode cX4_reaches 6 = .ok (.getfield 15, 3) := by decide +kernel
theorem dX4_reaches_9 : decode cX4_reaches 9 = .ok (.if_icmp .ge 7, 3) := by decide +kernel
theorem dX4_reaches_12 : decode cX4_reaches 12 = .ok (.iconst 1, 1) := by decide +kernel
theorem dX4_reaches_13 : decode cX4_reaches 13 = .ok (.goto 4, 3) := by decide +kernel
theorem dX4_reaches_16 : decode cX4_reaches 16 = .ok (.iconst 0, 1) := by decide +kernel
theorem dX4_reaches_17 : decode cX4_reaches 17 = .ok (.ireturn, 1) := by decide +kernel
theorem dX4_bitAt_0 : decode cX4_bitAt 0 = .ok (.aload_n 0, 1) := by decide +kernel
theorem dX4_bitAt_1 : decode cX4_bitAt 1 = .ok (.iload_n 1, 1) := by decide +kernel
theorem dX4_bitAt_2 : decode cX4_bitAt 2 = .ok (.invokevirtual 22, 3) := by decide +kernel
theorem dX4_bitAt_5 : decode cX4_bitAt 5 = .ok (.ifCond .eq 21, 3) := by decide +kernel
theorem dX4_bitAt_8 : decode cX4_bitAt 8 = .ok (.aload_n 0, 1) := by decide +kernel
theorem dX4_bitAt_9 : decode cX4_bitAt 9 = .ok (.getfield 9, 3) := by decide +kernel
theorem dX4_bitAt_12 : decode cX4_bitAt 12 = .ok (.iload_n 1, 1) := by decide +kernel
theorem dX4_bitAt_13 : decode cX4_bitAt 13 = .ok (.iconst 5, 1) := by decide +kernel
theorem dX4_bitAt_14 : decode cX4_bitAt 14 = .ok (.ishr, 1) := by decide +kernel
theorem dX4_bitAt_15 : decode cX4_bitAt 15 = .ok (.iaload, 1) := by decide +kernel
theorem dX4_bitAt_16 : decode cX4_bitAt 16 = .ok (.iload_n 1, 1) := by decide +kernel
theorem dX4_bitAt_17 : decode cX4_bitAt 17 = .ok (.bipush 31, 2) := by decide +kernel
theorem dX4_bitAt_19 : decode cX4_bitAt 19 = .ok (.iand, 1) := by decide +kernel
theorem dX4_bitAt_20 : decode cX4_bitAt 20 = .ok (.iushr, 1) := by decide +kernel
theorem dX4_bitAt_21 : decode cX4_bitAt 21 = .ok (.iconst 1, 1) := by decide +kernel
theorem dX4_bitAt_22 : decode cX4_bitAt 22 = .ok (.iand, 1) := by decide +kernel
theorem dX4_bitAt_23 : decode cX4_bitAt 23 = .ok (.goto 4, 3) := by decide +kernel
theorem dX4_bitAt_26 : decode cX4_bitAt 26 = .ok (.iconst 0, 1) := by decide +kernel
theorem dX4_bitAt_27 : decode cX4_bitAt 27 = .ok (.ireturn, 1) := by decide +kernel
theorem dX4_turn_0 : decode cX4_turn 0 = .ok (.aload_n 0, 1) := by decide +kernel
theorem dX4_turn_1 : decode cX4_turn 1 = .ok (.iload_n 1, 1) := by decide +kernel
theorem dX4_turn_2 : decode cX4_turn 2 = .ok (.invokevirtual 22, 3) := by decide +kernel
theorem dX4_turn_5 : decode cX4_turn 5 = .ok (.ifCond .eq 20, 3) := by decide +kernel
theorem dX4_turn_8 : decode cX4_turn 8 = .ok (.aload_n 0, 1) := by decide +kernel
theorem dX4_turn_9 : decode cX4_turn 9 = .ok (.getfield 9, 3) := by decide +kernel
theorem dX4_turn_12 : decode cX4_turn 12 = .ok (.iload_n 1, 1) := by decide +kernel
theorem dX4_turn_13 : decode cX4_turn 13 = .ok (.iconst 5, 1) := by decide +kernel
theorem dX4_turn_14 : decode cX4_turn 14 = .ok (.ishr, 1) := by decide +kernel
end
section
theorem dX4_turn_15 : decode cX4_turn 15 = .ok (.dup2, 1) := by decide +kernel
theorem dX4_turn_16 : decode cX4_turn 16 = .ok (.iaload, 1) := by decide +kernel
theorem dX4_turn_17 : decode cX4_turn 17 = .ok (.iconst 1, 1) := by decide +kernel
theorem dX4_turn_18 : decode cX4_turn 18 = .ok (.iload_n 1, 1) := by decide +kernel
theorem dX4_turn_19 : decode cX4_turn 19 = .ok (.bipush 31, 2) := by decide +kernel
theorem dX4_turn_21 : decode cX4_turn 21 = .ok (.iand, 1) := by decide +kernel
theorem dX4_turn_22 : decode cX4_turn 22 = .ok (.ishl, 1) := by decide +kernel
theorem dX4_turn_23 : decode cX4_turn 23 = .ok (.ixor, 1) := by decide +kernel
theorem dX4_turn_24 : decode cX4_turn 24 = .ok (.iastore, 1) := by decide +kernel
theorem dX4_turn_25 : decode cX4_turn 25 = .ok (.return_, 1) := by decide +kernel
theorem dX4_keepFirst_0 : decode cX4_keepFirst 0 = .ok (.iload_n 1, 1) := by decide +kernel
theorem dX4_keepFirst_1 : decode cX4_keepFirst 1 = .ok (.ifCond .lt 16, 3) := by decide +kernel
theorem dX4_keepFirst_4 : decode cX4_keepFirst 4 = .ok (.iload_n 1, 1) := by decide +kernel
theorem dX4_keepFirst_5 : decode cX4_keepFirst 5 = .ok (.aload_n 0, 1) := by decide +kernel
theorem dX4_keepFirst_6 : decode cX4_keepFirst 6 = .ok (.getfield 15, 3) := by decide +kernel
theorem dX4_keepFirst_9 : decode cX4_keepFirst 9 = .ok (.if_icmp .gt 8, 3) := by decide +kernel
theorem dX4_keepFirst_12 : decode cX4_keepFirst 12 = .ok (.aload_n 0, 1) := by decide +kernel
theorem dX4_keepFirst_13 : decode cX4_keepFirst 13 = .ok (.iload_n 1, 1) := by decide +kernel
theorem dX4_keepFirst_14 : decode cX4_keepFirst 14 = .ok (.putfield 15, 3) := by decide +kernel
theorem dX4_keepFirst_17 : decode cX4_keepFirst 17 = .ok (.return_, 1) := by decide +kernel
theorem dX4_append_0 : decode cX4_append 0 = .ok (.iload_n 2, 1) := by decide +kernel
theorem dX4_append_1 : decode cX4_append 1 = .ok (.iconst 1, 1) := by decide +kernel
theorem dX4_append_2 : decode cX4_append 2 = .ok (.isub, 1) := by decide +kernel
theorem dX4_append_3 : decode cX4_append 3 = .ok (.istore_n 3, 1) := by decide +kernel
theorem dX4_append_4 : decode cX4_append 4 = .ok (.iload_n 3, 1) := by decide +kernel
theorem dX4_append_5 : decode cX4_append 5 = .ok (.ifCond .lt 86, 3) := by decide +kernel
theorem dX4_append_8 : decode cX4_append 8 = .ok (.aload_n 0, 1) := by decide +kernel
theorem dX4_append_9 : decode cX4_append 9 = .ok (.getfield 15, 3) := by decide +kernel
theorem dX4_append_12 : decode cX4_append 12 = .ok (.sipush 8210, 3) := by decide +kernel
theorem dX4_append_15 : decode cX4_append 15 = .ok (.if_icmp .ge 76, 3) := by decide +kernel
theorem dX4_append_18 : decode cX4_append 18 = .ok (.iconst 1, 1) := by decide +kernel
theorem dX4_append_19 : decode cX4_append 19 = .ok (.aload_n 0, 1) := by decide +kernel
theorem dX4_append_20 : decode cX4_append 20 = .ok (.getfield 15, 3) := by decide +kernel
theorem dX4_append_23 : decode cX4_append 23 = .ok (.bipush 31, 2) := by decide +kernel
theorem dX4_append_25 : decode cX4_append 25 = .ok (.iand, 1) := by decide +kernel
theorem dX4_append_26 : decode cX4_append 26 = .ok (.ishl, 1) := by decide +kernel
theorem dX4_append_27 : decode cX4_append 27 = .ok (.istore 4, 2) := by decide +kernel
theorem dX4_append_29 : decode cX4_append 29 = .ok (.iload_n 1, 1) := by decide +kernel
theorem dX4_append_30 : decode cX4_append 30 = .ok (.iload_n 3, 1) := by decide +kernel
theorem dX4_append_31 : decode cX4_append 31 = .ok (.iushr, 1) := by decide +kernel
theorem dX4_append_32 : decode cX4_append 32 = .ok (.iconst 1, 1) := by decide +kernel
theorem dX4_append_33 : decode cX4_append 33 = .ok (.iand, 1) := by decide +kernel
theorem dX4_append_34 : decode cX4_append 34 = .ok (.iconst 1, 1) := by decide +kernel
theorem dX4_append_35 : decode cX4_append 35 = .ok (.if_icmp .ne 22, 3) := by decide +kernel
theorem dX4_append_38 : decode cX4_append 38 = .ok (.aload_n 0, 1) := by decide +kernel
theorem dX4_append_39 : decode cX4_append 39 = .ok (.getfield 9, 3) := by decide +kernel
theorem dX4_append_42 : decode cX4_append 42 = .ok (.aload_n 0, 1) := by decide +kernel
theorem dX4_append_43 : decode cX4_append 43 = .ok (.getfield 15, 3) := by decide +kernel
theorem dX4_append_46 : decode cX4_append 46 = .ok (.iconst 5, 1) := by decide +kernel
theorem dX4_append_47 : decode cX4_append 47 = .ok (.ishr, 1) := by decide +kernel
theorem dX4_append_48 : decode cX4_append 48 = .ok (.dup2, 1) := by decide +kernel
theorem dX4_append_49 : decode cX4_append 49 = .ok (.iaload, 1) := by decide +kernel
theorem dX4_append_50 : decode cX4_append 50 = .ok (.iload 4, 2) := by decide +kernel
theorem dX4_append_52 : decode cX4_append 52 = .ok (.ior, 1) := by decide +kernel
theorem dX4_append_53 : decode cX4_append 53 = .ok (.iastore, 1) := by decide +kernel
theorem dX4_append_54 : decode cX4_append 54 = .ok (.goto 21, 3) := by decide +kernel
theorem dX4_append_57 : decode cX4_append 57 = .ok (.aload_n 0, 1) := by decide +kernel
theorem dX4_append_58 : decode cX4_append 58 = .ok (.getfield 9, 3) := by decide +kernel
theorem dX4_append_61 : decode cX4_append 61 = .ok (.aload_n 0, 1) := by decide +kernel
theorem dX4_append_62 : decode cX4_append 62 = .ok (.getfield 15, 3) := by decide +kernel
theorem dX4_append_65 : decode cX4_append 65 = .ok (.iconst 5, 1) := by decide +kernel
theorem dX4_append_66 : decode cX4_append 66 = .ok (.ishr, 1) := by decide +kernel
theorem dX4_append_67 : decode cX4_append 67 = .ok (.dup2, 1) := by decide +kernel
theorem dX4_append_68 : decode cX4_append 68 = .ok (.iaload, 1) := by decide +kernel
theorem dX4_append_69 : decode cX4_append 69 = .ok (.iload 4, 2) := by decide +kernel
theorem dX4_append_71 : decode cX4_append 71 = .ok (.iconst (-1), 1) := by decide +kernel
theorem dX4_append_72 : decode cX4_append 72 = .ok (.ixor, 1) := by decide +kernel
theorem dX4_append_73 : decode cX4_append 73 = .ok (.iand, 1) := by decide +kernel
theorem dX4_append_74 : decode cX4_append 74 = .ok (.iastore, 1) := by decide +kernel
theorem dX4_append_75 : decode cX4_append 75 = .ok (.aload_n 0, 1) := by decide +kernel
theorem dX4_append_76 : decode cX4_append 76 = .ok (.dup, 1) := by decide +kernel
theorem dX4_append_77 : decode cX4_append 77 = .ok (.getfield 15, 3) := by decide +kernel
theorem dX4_append_80 : decode cX4_append 80 = .ok (.iconst 1, 1) := by decide +kernel
theorem dX4_append_81 : decode cX4_append 81 = .ok (.iadd, 1) := by decide +kernel
theorem dX4_append_82 : decode cX4_append 82 = .ok (.putfield 15, 3) := by decide +kernel
theorem dX4_append_85 : decode cX4_append 85 = .ok (.iinc 3 (-1), 3) := by decide +kernel
theorem dX4_append_88 : decode cX4_append 88 = .ok (.goto (-84), 3) := by decide +kernel
theorem dX4_append_91 : decode cX4_append 91 = .ok (.return_, 1) := by decide +kernel
theorem dX4_valueAt_0 : decode cX4_valueAt 0 = .ok (.iconst 0, 1) := by decide +kernel
theorem dX4_valueAt_1 : decode cX4_valueAt 1 = .ok (.istore_n 3, 1) := by decide +kernel
theorem dX4_valueAt_2 : decode cX4_valueAt 2 = .ok (.iconst 0, 1) := by decide +kernel
theorem dX4_valueAt_3 : decode cX4_valueAt 3 = .ok (.istore 4, 2) := by decide +kernel
theorem dX4_valueAt_5 : decode cX4_valueAt 5 = .ok (.iload 4, 2) := by decide +kernel
theorem dX4_valueAt_7 : decode cX4_valueAt 7 = .ok (.iload_n 2, 1) := by decide +kernel
theorem dX4_valueAt_8 : decode cX4_valueAt 8 = .ok (.if_icmp .ge 22, 3) := by decide +kernel
theorem dX4_valueAt_11 : decode cX4_valueAt 11 = .ok (.iload_n 3, 1) := by decide +kernel
theorem dX4_valueAt_12 : decode cX4_valueAt 12 = .ok (.iconst 1, 1) := by decide +kernel
theorem dX4_valueAt_13 : decode cX4_valueAt 13 = .ok (.ishl, 1) := by decide +kernel
theorem dX4_valueAt_14 : decode cX4_valueAt 14 = .ok (.aload_n 0, 1) := by decide +kernel
theorem dX4_valueAt_15 : decode cX4_valueAt 15 = .ok (.iload_n 1, 1) := by decide +kernel
theorem dX4_valueAt_16 : decode cX4_valueAt 16 = .ok (.iload 4, 2) := by decide +kernel
theorem dX4_valueAt_18 : decode cX4_valueAt 18 = .ok (.iadd, 1) := by decide +kernel
theorem dX4_valueAt_19 : decode cX4_valueAt 19 = .ok (.invokevirtual 26, 3) := by decide +kernel
theorem dX4_valueAt_22 : decode cX4_valueAt 22 = .ok (.ior, 1) := by decide +kernel
theorem dX4_valueAt_23 : decode cX4_valueAt 23 = .ok (.istore_n 3, 1) := by decide +kernel
theorem dX4_valueAt_24 : decode cX4_valueAt 24 = .ok (.iinc 4 1, 3) := by decide +kernel
theorem dX4_valueAt_27 : decode cX4_valueAt 27 = .ok (.goto (-22), 3) := by decide +kernel
theorem dX4_valueAt_30 : decode cX4_valueAt 30 = .ok (.iload_n 3, 1) := by decide +kernel
theorem dX4_valueAt_31 : decode cX4_valueAt 31 = .ok (.ireturn, 1) := by decide +kernel
theorem dX4_rewind_0 : decode cX4_rewind 0 = .ok (.aload_n 0, 1) := by decide +kernel
theorem dX4_rewind_1 : decode cX4_rewind 1 = .ok (.iconst 0, 1) := by decide +kernel
theorem dX4_rewind_2 : decode cX4_rewind 2 = .ok (.putfield 19, 3) := by decide +kernel
theorem dX4_rewind_5 : decode cX4_rewind 5 = .ok (.return_, 1) := by decide +kernel
theorem dX4_take_0 : decode cX4_take 0 = .ok (.aload_n 0, 1) := by decide +kernel
theorem dX4_take_1 : decode cX4_take 1 = .ok (.aload_n 0, 1) := by decide +kernel
theorem dX4_take_2 : decode cX4_take 2 = .ok (.getfield 19, 3) := by decide +kernel
theorem dX4_take_5 : decode cX4_take 5 = .ok (.iload_n 1, 1) := by decide +kernel
theorem dX4_take_6 : decode cX4_take 6 = .ok (.invokevirtual 30, 3) := by decide +kernel
theorem dX4_take_9 : decode cX4_take 9 = .ok (.istore_n 2, 1) := by decide +kernel
theorem dX4_take_10 : decode cX4_take 10 = .ok (.aload_n 0, 1) := by decide +kernel
theorem dX4_take_11 : decode cX4_take 11 = .ok (.dup, 1) := by decide +kernel
theorem dX4_take_12 : decode cX4_take 12 = .ok (.getfield 19, 3) := by decide +kernel
theorem dX4_take_15 : decode cX4_take 15 = .ok (.iload_n 1, 1) := by decide +kernel
theorem dX4_take_16 : decode cX4_take 16 = .ok (.iadd, 1) := by decide +kernel
theorem dX4_take_17 : decode cX4_take 17 = .ok (.putfield 19, 3) := by decide +kernel
theorem dX4_take_20 : decode cX4_take 20 = .ok (.iload_n 2, 1) := by decide +kernel
theorem dX4_take_21 : decode cX4_take 21 = .ok (.ireturn, 1) := by decide +kernel
theorem dX4_isReadToItsEnd_0 : decode cX4_isReadToItsEnd 0 = .ok (.aload_n 0, 1) := by decide +kernel
theorem dX4_isReadToItsEnd_1 : decode cX4_isReadToItsEnd 1 = .ok (.getfield 19, 3) := by decide +kernel
theorem dX4_isReadToItsEnd_4 : decode cX4_isReadToItsEnd 4 = .ok (.aload_n 0, 1) := by decide +kernel
theorem dX4_isReadToItsEnd_5 : decode cX4_isReadToItsEnd 5 = .ok (.getfield 15, 3) := by decide +kernel
theorem dX4_isReadToItsEnd_8 : decode cX4_isReadToItsEnd 8 = .ok (.if_icmp .ne 7, 3) := by decide +kernel
theorem dX4_isReadToItsEnd_11 : decode cX4_isReadToItsEnd 11 = .ok (.iconst 1, 1) := by decide +kernel
theorem dX4_isReadToItsEnd_12 : decode cX4_isReadToItsEnd 12 = .ok (.goto 4, 3) := by decide +kernel
theorem dX4_isReadToItsEnd_15 : decode cX4_isReadToItsEnd 15 = .ok (.iconst 0, 1) := by decide +kernel
theorem dX4_isReadToItsEnd_16 : decode cX4_isReadToItsEnd 16 = .ok (.ireturn, 1) := by decide +kernel
theorem dX5_init_0 : decode cX5_init 0 = .ok (.aload_n 0, 1) := by decide +kernel
theorem dX5_init_1 : decode cX5_init 1 = .ok (.invokespecial 3, 3) := by decide +kernel
theorem dX5_init_4 : decode cX5_init 4 = .ok (.return_, 1) := by decide +kernel
theorem dX5_bitsFor_0 : decode cX5_bitsFor 0 = .ok (.aload_n 1, 1) := by decide +kernel
theorem dX5_bitsFor_1 : decode cX5_bitsFor 1 = .ok (.invokevirtual 9, 3) := by decide +kernel
theorem dX5_bitsFor_4 : decode cX5_bitsFor 4 = .ok (.invokestatic 15, 3) := by decide +kernel
theorem dX5_bitsFor_7 : decode cX5_bitsFor 7 = .ok (.ireturn, 1) := by decide +kernel
theorem dX5_tell_0 : decode cX5_tell 0 = .ok (.aload_n 1, 1) := by decide +kernel
theorem dX5_tell_1 : decode cX5_tell 1 = .ok (.invokevirtual 9, 3) := by decide +kernel
theorem dX5_tell_4 : decode cX5_tell 4 = .ok (.istore_n 3, 1) := by decide +kernel
theorem dX5_tell_5 : decode cX5_tell 5 = .ok (.aload_n 2, 1) := by decide +kernel
theorem dX5_tell_6 : decode cX5_tell 6 = .ok (.iload_n 3, 1) := by decide +kernel
theorem dX5_tell_7 : decode cX5_tell 7 = .ok (.bipush 13, 2) := by decide +kernel
theorem dX5_tell_9 : decode cX5_tell 9 = .ok (.invokevirtual 21, 3) := by decide +kernel
theorem dX5_tell_12 : decode cX5_tell 12 = .ok (.iload_n 3, 1) := by decide +kernel
theorem dX5_tell_13 : decode cX5_tell 13 = .ok (.ifCond .le 15, 3) := by decide +kernel
theorem dX5_tell_16 : decode cX5_tell 16 = .ok (.aload_n 1, 1) := by decide +kernel
theorem dX5_tell_17 : decode cX5_tell 17 = .ok (.iload_n 3, 1) := by decide +kernel
theorem dX5_tell_18 : decode cX5_tell 18 = .ok (.aload_n 2, 1) := by decide +kernel
theorem dX5_tell_19 : decode cX5_tell 19 = .ok (.invokestatic 27, 3) := by decide +kernel
theorem dX5_tell_22 : decode cX5_tell 22 = .ok (.aload_n 1, 1) := by decide +kernel
theorem dX5_tell_23 : decode cX5_tell 23 = .ok (.iload_n 3, 1) := by decide +kernel
theorem dX5_tell_24 : decode cX5_tell 24 = .ok (.aload_n 2, 1) := by decide +kernel
theorem dX5_tell_25 : decode cX5_tell 25 = .ok (.invokestatic 31, 3) := by decide +kernel
theorem dX5_tell_28 : decode cX5_tell 28 = .ok (.return_, 1) := by decide +kernel
theorem dX5_learn_0 : decode cX5_learn 0 = .ok (.aload_n 2, 1) := by decide +kernel
theorem dX5_learn_1 : decode cX5_learn 1 = .ok (.invokevirtual 34, 3) := by decide +kernel
theorem dX5_learn_4 : decode cX5_learn 4 = .ok (.aload_n 1, 1) := by decide +kernel
theorem dX5_learn_5 : decode cX5_learn 5 = .ok (.iconst 0, 1) := by decide +kernel
theorem dX5_learn_6 : decode cX5_learn 6 = .ok (.bipush 13, 2) := by decide +kernel
theorem dX5_learn_8 : decode cX5_learn 8 = .ok (.invokevirtual 37, 3) := by decide +kernel
theorem dX5_learn_11 : decode cX5_learn 11 = .ok (.istore_n 3, 1) := by decide +kernel
theorem dX5_learn_12 : decode cX5_learn 12 = .ok (.iload_n 3, 1) := by decide +kernel
theorem dX5_learn_13 : decode cX5_learn 13 = .ok (.sipush 4096, 3) := by decide +kernel
theorem dX5_learn_16 : decode cX5_learn 16 = .ok (.if_icmp .gt 14, 3) := by decide +kernel
theorem dX5_learn_19 : decode cX5_learn 19 = .ok (.aload_n 1, 1) := by decide +kernel
theorem dX5_learn_20 : decode cX5_learn 20 = .ok (.invokevirtual 41, 3) := by decide +kernel
theorem dX5_learn_23 : decode cX5_learn 23 = .ok (.iload_n 3, 1) := by decide +kernel
theorem dX5_learn_24 : decode cX5_learn 24 = .ok (.invokestatic 15, 3) := by decide +kernel
theorem dX5_learn_27 : decode cX5_learn 27 = .ok (.if_icmp .eq 5, 3) := by decide +kernel
theorem dX5_learn_30 : decode cX5_learn 30 = .ok (.iconst 0, 1) := by decide +kernel
theorem dX5_learn_31 : decode cX5_learn 31 = .ok (.ireturn, 1) := by decide +kernel
theorem dX5_learn_32 : decode cX5_learn 32 = .ok (.iload_n 3, 1) := by decide +kernel
theorem dX5_learn_33 : decode cX5_learn 33 = .ok (.invokestatic 44, 3) := by decide +kernel
theorem dX5_learn_36 : decode cX5_learn 36 = .ok (.istore 4, 2) := by decide +kernel
theorem dX5_learn_38 : decode cX5_learn 38 = .ok (.iconst 0, 1) := by decide +kernel
theorem dX5_learn_39 : decode cX5_learn 39 = .ok (.istore 5, 2) := by decide +kernel
theorem dX5_learn_41 : decode cX5_learn 41 = .ok (.iconst 0, 1) := by decide +kernel
theorem dX5_learn_42 : decode cX5_learn 42 = .ok (.istore 6, 2) := by decide +kernel
theorem dX5_learn_44 : decode cX5_learn 44 = .ok (.iconst (-1), 1) := by decide +kernel
theorem dX5_learn_45 : decode cX5_learn 45 = .ok (.istore 7, 2) := by decide +kernel
theorem dX5_learn_47 : decode cX5_learn 47 = .ok (.bipush 13, 2) := by decide +kernel
theorem dX5_learn_49 : decode cX5_learn 49 = .ok (.iload_n 3, 1) := by decide +kernel
theorem dX5_learn_50 : decode cX5_learn 50 = .ok (.iload 4, 2) := by decide +kernel
theorem dX5_learn_52 : decode cX5_learn 52 = .ok (.imul, 1) := by decide +kernel
theorem dX5_learn_53 : decode cX5_learn 53 = .ok (.iadd, 1) := by decide +kernel
theorem dX5_learn_54 : decode cX5_learn 54 = .ok (.istore 8, 2) := by decide +kernel
theorem dX5_learn_56 : decode cX5_learn 56 = .ok (.iload 8, 2) := by decide +kernel
theorem dX5_learn_58 : decode cX5_learn 58 = .ok (.aload_n 1, 1) := by decide +kernel
theorem dX5_learn_59 : decode cX5_learn 59 = .ok (.invokevirtual 41, 3) := by decide +kernel
theorem dX5_learn_62 : decode cX5_learn 62 = .ok (.if_icmp .ge 82, 3) := by decide +kernel
theorem dX5_learn_65 : decode cX5_learn 65 = .ok (.aload_n 1, 1) := by decide +kernel
theorem dX5_learn_66 : decode cX5_learn 66 = .ok (.iload 8, 2) := by decide +kernel
theorem dX5_learn_68 : decode cX5_learn 68 = .ok (.invokevirtual 47, 3) := by decide +kernel
theorem dX5_learn_71 : decode cX5_learn 71 = .ok (.ifCond .ne 9, 3) := by decide +kernel
theorem dX5_learn_74 : decode cX5_learn 74 = .ok (.iinc 6 1, 3) := by decide +kernel
theorem dX5_learn_77 : decode cX5_learn 77 = .ok (.goto 61, 3) := by decide +kernel
theorem dX5_learn_80 : decode cX5_learn 80 = .ok (.iload 6, 2) := by decide +kernel
theorem dX5_learn_82 : decode cX5_learn 82 = .ok (.iload 4, 2) := by decide +kernel
theorem dX5_learn_84 : decode cX5_learn 84 = .ok (.ishl, 1) := by decide +kernel
theorem dX5_learn_85 : decode cX5_learn 85 = .ok (.aload_n 1, 1) := by decide +kernel
theorem dX5_learn_86 : decode cX5_learn 86 = .ok (.bipush 13, 2) := by decide +kernel
theorem dX5_learn_88 : decode cX5_learn 88 = .ok (.iload 5, 2) := by decide +kernel
theorem dX5_learn_90 : decode cX5_learn 90 = .ok (.iload 4, 2) := by decide +kernel
theorem dX5_learn_92 : decode cX5_learn 92 = .ok (.imul, 1) := by decide +kernel
theorem dX5_learn_93 : decode cX5_learn 93 = .ok (.iadd, 1) := by decide +kernel
theorem dX5_learn_94 : decode cX5_learn 94 = .ok (.iload 4, 2) := by decide +kernel
theorem dX5_learn_96 : decode cX5_learn 96 = .ok (.invokevirtual 37, 3) := by decide +kernel
theorem dX5_learn_99 : decode cX5_learn 99 = .ok (.iadd, 1) := by decide +kernel
theorem dX5_learn_100 : decode cX5_learn 100 = .ok (.istore 9, 2) := by decide +kernel
theorem dX5_learn_102 : decode cX5_learn 102 = .ok (.iload 5, 2) := by decide +kernel
theorem dX5_learn_104 : decode cX5_learn 104 = .ok (.iload_n 3, 1) := by decide +kernel
theorem dX5_learn_105 : decode cX5_learn 105 = .ok (.if_icmp .eq 18, 3) := by decide +kernel
theorem dX5_learn_108 : decode cX5_learn 108 = .ok (.iload 9, 2) := by decide +kernel
theorem dX5_learn_110 : decode cX5_learn 110 = .ok (.iload 7, 2) := by decide +kernel
theorem dX5_learn_112 : decode cX5_learn 112 = .ok (.if_icmp .le 11, 3) := by decide +kernel
theorem dX5_learn_115 : decode cX5_learn 115 = .ok (.iload 9, 2) := by decide +kernel
theorem dX5_learn_117 : decode cX5_learn 117 = .ok (.sipush 4096, 3) := by decide +kernel
theorem dX5_learn_120 : decode cX5_learn 120 = .ok (.if_icmp .lt 5, 3) := by decide +kernel
theorem dX5_learn_123 : decode cX5_learn 123 = .ok (.iconst 0, 1) := by decide +kernel
theorem dX5_learn_124 : decode cX5_learn 124 = .ok (.ireturn, 1) := by decide +kernel
theorem dX5_learn_125 : decode cX5_learn 125 = .ok (.aload_n 2, 1) := by decide +kernel
theorem dX5_learn_126 : decode cX5_learn 126 = .ok (.iload 9, 2) := by decide +kernel
theorem dX5_learn_128 : decode cX5_learn 128 = .ok (.invokevirtual 50, 3) := by decide +kernel
theorem dX5_learn_131 : decode cX5_learn 131 = .ok (.iload 9, 2) := by decide +kernel
theorem dX5_learn_133 : decode cX5_learn 133 = .ok (.istore 7, 2) := by decide +kernel
theorem dX5_learn_135 : decode cX5_learn 135 = .ok (.iinc 5 1, 3) := by decide +kernel
theorem dX5_learn_138 : decode cX5_learn 138 = .ok (.iinc 8 1, 3) := by decide +kernel
theorem dX5_learn_141 : decode cX5_learn 141 = .ok (.goto (-85), 3) := by decide +kernel
theorem dX5_learn_144 : decode cX5_learn 144 = .ok (.iload 5, 2) := by decide +kernel
theorem dX5_learn_146 : decode cX5_learn 146 = .ok (.iload_n 3, 1) := by decide +kernel
theorem dX5_learn_147 : decode cX5_learn 147 = .ok (.if_icmp .ne 7, 3) := by decide +kernel
theorem dX5_learn_150 : decode cX5_learn 150 = .ok (.iconst 1, 1) := by decide +kernel
theorem dX5_learn_151 : decode cX5_learn 151 = .ok (.goto 4, 3) := by decide +kernel
theorem dX5_learn_154 : decode cX5_learn 154 = .ok (.iconst 0, 1) := by decide +kernel
theorem dX5_learn_155 : decode cX5_learn 155 = .ok (.ireturn, 1) := by decide +kernel
theorem dX5_tellLowParts_0 : decode cX5_tellLowParts 0 = .ok (.iload_n 1, 1) := by decide +kernel
theorem dX5_tellLowParts_1 : decode cX5_tellLowParts 1 = .ok (.invokestatic 44, 3) := by decide +kernel
theorem dX5_tellLowParts_4 : decode cX5_tellLowParts 4 = .ok (.istore_n 3, 1) := by decide +kernel
theorem dX5_tellLowParts_5 : decode cX5_tellLowParts 5 = .ok (.iconst (-1), 1) := by decide +kernel
theorem dX5_tellLowParts_6 : decode cX5_tellLowParts 6 = .ok (.istore 4, 2) := by decide +kernel
theorem dX5_tellLowParts_8 : decode cX5_tellLowParts 8 = .ok (.iconst 0, 1) := by decide +kernel
theorem dX5_tellLowParts_9 : decode cX5_tellLowParts 9 = .ok (.istore 5, 2) := by decide +kernel
theorem dX5_tellLowParts_11 : decode cX5_tellLowParts 11 = .ok (.iload 5, 2) := by decide +kernel
theorem dX5_tellLowParts_13 : decode cX5_tellLowParts 13 = .ok (.iload_n 1, 1) := by decide +kernel
theorem dX5_tellLowParts_14 : decode cX5_tellLowParts 14 = .ok (.if_icmp .ge 26, 3) := by decide +kernel
theorem dX5_tellLowParts_17 : decode cX5_tellLowParts 17 = .ok (.aload_n 0, 1) := by decide +kernel
theorem dX5_tellLowParts_18 : decode cX5_tellLowParts 18 = .ok (.iload 4, 2) := by decide +kernel
theorem dX5_tellLowParts_20 : decode cX5_tellLowParts 20 = .ok (.iconst 1, 1) := by decide +kernel
theorem dX5_tellLowParts_21 : decode cX5_tellLowParts 21 = .ok (.iadd, 1) := by decide +kernel
theorem dX5_tellLowParts_22 : decode cX5_tellLowParts 22 = .ok (.invokevirtual 54, 3) := by decide +kernel
theorem dX5_tellLowParts_25 : decode cX5_tellLowParts 25 = .ok (.istore 4, 2) := by decide +kernel
theorem dX5_tellLowParts_27 : decode cX5_tellLowParts 27 = .ok (.aload_n 2, 1) := by decide +kernel
theorem dX5_tellLowParts_28 : decode cX5_tellLowParts 28 = .ok (.iload 4, 2) := by decide +kernel
theorem dX5_tellLowParts_30 : decode cX5_tellLowParts 30 = .ok (.iload_n 3, 1) := by decide +kernel
theorem dX5_tellLowParts_31 : decode cX5_tellLowParts 31 = .ok (.invokevirtual 21, 3) := by decide +kernel
theorem dX5_tellLowParts_34 : decode cX5_tellLowParts 34 = .ok (.iinc 5 1, 3) := by decide +kernel
theorem dX5_tellLowParts_37 : decode cX5_tellLowParts 37 = .ok (.goto (-26), 3) := by decide +kernel
theorem dX5_tellLowParts_40 : decode cX5_tellLowParts 40 = .ok (.return_, 1) := by decide +kernel
theorem dX5_tellHighParts_0 : decode cX5_tellHighParts 0 = .ok (.iload_n 1, 1) := by decide +kernel
theorem dX5_tellHighParts_1 : decode cX5_tellHighParts 1 = .ok (.invokestatic 44, 3) := by decide +kernel
theorem dX5_tellHighParts_4 : decode cX5_tellHighParts 4 = .ok (.istore_n 3, 1) := by decide +kernel
theorem dX5_tellHighParts_5 : decode cX5_tellHighParts 5 = .ok (.iconst 0, 1) := by decide +kernel
theorem dX5_tellHighParts_6 : decode cX5_tellHighParts 6 = .ok (.istore 4, 2) := by decide +kernel
theorem dX5_tellHighParts_8 : decode cX5_tellHighParts 8 = .ok (.iconst (-1), 1) := by decide +kernel
theorem dX5_tellHighParts_9 : decode cX5_tellHighParts 9 = .ok (.istore 5, 2) := by decide +kernel
theorem dX5_tellHighParts_11 : decode cX5_tellHighParts 11 = .ok (.iconst 0, 1) := by decide +kernel
theorem dX5_tellHighParts_12 : decode cX5_tellHighParts 12 = .ok (.istore 6, 2) := by decide +kernel
theorem dX5_tellHighParts_14 : decode cX5_tellHighParts 14 = .ok (.iload 6, 2) := by decide +kernel
theorem dX5_tellHighParts_16 : decode cX5_tellHighParts 16 = .ok (.iload_n 1, 1) := by decide +kernel
theorem dX5_tellHighParts_17 : decode cX5_tellHighParts 17 = .ok (.if_icmp .ge 46, 3) := by decide +kernel
theorem dX5_tellHighParts_20 : decode cX5_tellHighParts 20 = .ok (.aload_n 0, 1) := by decide +kernel
theorem dX5_tellHighParts_21 : decode cX5_tellHighParts 21 = .ok (.iload 5, 2) := by decide +kernel
theorem dX5_tellHighParts_23 : decode cX5_tellHighParts 23 = .ok (.iconst 1, 1) := by decide +kernel
theorem dX5_tellHighParts_24 : decode cX5_tellHighParts 24 = .ok (.iadd, 1) := by decide +kernel
theorem dX5_tellHighParts_25 : decode cX5_tellHighParts 25 = .ok (.invokevirtual 54, 3) := by decide +kernel
theorem dX5_tellHighParts_28 : decode cX5_tellHighParts 28 = .ok (.istore 5, 2) := by decide +kernel
theorem dX5_tellHighParts_30 : decode cX5_tellHighParts 30 = .ok (.iload 4, 2) := by decide +kernel
theorem dX5_tellHighParts_32 : decode cX5_tellHighParts 32 = .ok (.iload 5, 2) := by decide +kernel
theorem dX5_tellHighParts_34 : decode cX5_tellHighParts 34 = .ok (.iload_n 3, 1) := by decide +kernel
theorem dX5_tellHighParts_35 : decode cX5_tellHighParts 35 = .ok (.ishr, 1) := by decide +kernel
theorem dX5_tellHighParts_36 : decode cX5_tellHighParts 36 = .ok (.if_icmp .ge 15, 3) := by decide +kernel
theorem dX5_tellHighParts_39 : decode cX5_tellHighParts 39 = .ok (.aload_n 2, 1) := by decide +kernel
theorem dX5_tellHighParts_40 : decode cX5_tellHighParts 40 = .ok (.iconst 0, 1) := by decide +kernel
theorem dX5_tellHighParts_41 : decode cX5_tellHighParts 41 = .ok (.iconst 1, 1) := by decide +kernel
theorem dX5_tellHighParts_42 : decode cX5_tellHighParts 42 = .ok (.invokevirtual 21, 3) := by decide +kernel
theorem dX5_tellHighParts_45 : decode cX5_tellHighParts 45 = .ok (.iinc 4 1, 3) := by decide +kernel
theorem dX5_tellHighParts_48 : decode cX5_tellHighParts 48 = .ok (.goto (-18), 3) := by decide +kernel
theorem dX5_tellHighParts_51 : decode cX5_tellHighParts 51 = .ok (.aload_n 2, 1) := by decide +kernel
theorem dX5_tellHighParts_52 : decode cX5_tellHighParts 52 = .ok (.iconst 1, 1) := by decide +kernel
theorem dX5_tellHighParts_53 : decode cX5_tellHighParts 53 = .ok (.iconst 1, 1) := by decide +kernel
theorem dX5_tellHighParts_54 : decode cX5_tellHighParts 54 = .ok (.invokevirtual 21, 3) := by decide +kernel
theorem dX5_tellHighParts_57 : decode cX5_tellHighParts 57 = .ok (.iinc 6 1, 3) := by decide +kernel
theorem dX5_tellHighParts_60 : decode cX5_tellHighParts 60 = .ok (.goto (-46), 3) := by decide +kernel
theorem dX5_tellHighParts_63 : decode cX5_tellHighParts 63 = .ok (.iload 4, 2) := by decide +kernel
theorem dX5_tellHighParts_65 : decode cX5_tellHighParts 65 = .ok (.iload_n 3, 1) := by decide +kernel
theorem dX5_tellHighParts_66 : decode cX5_tellHighParts 66 = .ok (.invokestatic 57, 3) := by decide +kernel
theorem dX5_tellHighParts_69 : decode cX5_tellHighParts 69 = .ok (.if_icmp .ge 15, 3) := by decide +kernel
theorem dX5_tellHighParts_72 : decode cX5_tellHighParts 72 = .ok (.aload_n 2, 1) := by decide +kernel
theorem dX5_tellHighParts_73 : decode cX5_tellHighParts 73 = .ok (.iconst 0, 1) := by decide +kernel
theorem dX5_tellHighParts_74 : decode cX5_tellHighParts 74 = .ok (.iconst 1, 1) := by decide +kernel
theorem dX5_tellHighParts_75 : decode cX5_tellHighParts 75 = .ok (.invokevirtual 21, 3) := by decide +kernel
theorem dX5_tellHighParts_78 : decode cX5_tellHighParts 78 = .ok (.iinc 4 1, 3) := by decide +kernel
theorem dX5_tellHighParts_81 : decode cX5_tellHighParts 81 = .ok (.goto (-18), 3) := by decide +kernel
theorem dX5_tellHighParts_84 : decode cX5_tellHighParts 84 = .ok (.return_, 1) := by decide +kernel
theorem dX5_bitsForAmount_0 : decode cX5_bitsForAmount 0 = .ok (.iload_n 0, 1) := by decide +kernel
theorem dX5_bitsForAmount_1 : decode cX5_bitsForAmount 1 = .ok (.ifCond .ne 6, 3) := by decide +kernel
theorem dX5_bitsForAmount_4 : decode cX5_bitsForAmount 4 = .ok (.bipush 13, 2) := by decide +kernel
theorem dX5_bitsForAmount_6 : decode cX5_bitsForAmount 6 = .ok (.ireturn, 1) := by decide +kernel
theorem dX5_bitsForAmount_7 : decode cX5_bitsForAmount 7 = .ok (.iload_n 0, 1) := by decide +kernel
theorem dX5_bitsForAmount_8 : decode cX5_bitsForAmount 8 = .ok (.invokestatic 44, 3) := by decide +kernel
theorem dX5_bitsForAmount_11 : decode cX5_bitsForAmount 11 = .ok (.istore_n 1, 1) := by decide +kernel
theorem dX5_bitsForAmount_12 : decode cX5_bitsForAmount 12 = .ok (.bipush 13, 2) := by decide +kernel
theorem dX5_bitsForAmount_14 : decode cX5_bitsForAmount 14 = .ok (.iload_n 0, 1) := by decide +kernel
theorem dX5_bitsForAmount_15 : decode cX5_bitsForAmount 15 = .ok (.iload_n 1, 1) := by decide +kernel
theorem dX5_bitsForAmount_16 : decode cX5_bitsForAmount 16 = .ok (.imul, 1) := by decide +kernel
theorem dX5_bitsForAmount_17 : decode cX5_bitsForAmount 17 = .ok (.iadd, 1) := by decide +kernel
theorem dX5_bitsForAmount_18 : decode cX5_bitsForAmount 18 = .ok (.iload_n 0, 1) := by decide +kernel
theorem dX5_bitsForAmount_19 : decode cX5_bitsForAmount 19 = .ok (.iadd, 1) := by decide +kernel
theorem dX5_bitsForAmount_20 : decode cX5_bitsForAmount 20 = .ok (.iload_n 1, 1) := by decide +kernel
theorem dX5_bitsForAmount_21 : decode cX5_bitsForAmount 21 = .ok (.invokestatic 57, 3) := by decide +kernel
theorem dX5_bitsForAmount_24 : decode cX5_bitsForAmount 24 = .ok (.iadd, 1) := by decide +kernel
theorem dX5_bitsForAmount_25 : decode cX5_bitsForAmount 25 = .ok (.ireturn, 1) := by decide +kernel
theorem dX5_lowBits_0 : decode cX5_lowBits 0 = .ok (.iconst 0, 1) := by decide +kernel
theorem dX5_lowBits_1 : decode cX5_lowBits 1 = .ok (.istore_n 1, 1) := by decide +kernel
theorem dX5_lowBits_2 : decode cX5_lowBits 2 = .ok (.iload_n 1, 1) := by decide +kernel
theorem dX5_lowBits_3 : decode cX5_lowBits 3 = .ok (.bipush 12, 2) := by decide +kernel
theorem dX5_lowBits_5 : decode cX5_lowBits 5 = .ok (.if_icmp .ge 20, 3) := by decide +kernel
theorem dX5_lowBits_8 : decode cX5_lowBits 8 = .ok (.iload_n 0, 1) := by decide +kernel
theorem dX5_lowBits_9 : decode cX5_lowBits 9 = .ok (.iload_n 1, 1) := by decide +kernel
theorem dX5_lowBits_10 : decode cX5_lowBits 10 = .ok (.iconst 1, 1) := by decide +kernel
theorem dX5_lowBits_11 : decode cX5_lowBits 11 = .ok (.iadd, 1) := by decide +kernel
theorem dX5_lowBits_12 : decode cX5_lowBits 12 = .ok (.ishl, 1) := by decide +kernel
theorem dX5_lowBits_13 : decode cX5_lowBits 13 = .ok (.sipush 4096, 3) := by decide +kernel
theorem dX5_lowBits_16 : decode cX5_lowBits 16 = .ok (.if_icmp .gt 9, 3) := by decide +kernel
theorem dX5_lowBits_19 : decode cX5_lowBits 19 = .ok (.iinc 1 1, 3) := by decide +kernel
theorem dX5_lowBits_22 : decode cX5_lowBits 22 = .ok (.goto (-20), 3) := by decide +kernel
theorem dX5_lowBits_25 : decode cX5_lowBits 25 = .ok (.iload_n 1, 1) := by decide +kernel
theorem dX5_lowBits_26 : decode cX5_lowBits 26 = .ok (.ireturn, 1) := by decide +kernel
theorem dX5_highParts_0 : decode cX5_highParts 0 = .ok (.sipush 4095, 3) := by decide +kernel
theorem dX5_highParts_3 : decode cX5_highParts 3 = .ok (.iload_n 0, 1) := by decide +kernel
theorem dX5_highParts_4 : decode cX5_highParts 4 = .ok (.ishr, 1) := by decide +kernel
theorem dX5_highParts_5 : decode cX5_highParts 5 = .ok (.iconst 1, 1) := by decide +kernel
theorem dX5_highParts_6 : decode cX5_highParts 6 = .ok (.iadd, 1) := by decide +kernel
theorem dX5_highParts_7 : decode cX5_highParts 7 = .ok (.ireturn, 1) := by decide +kernel
theorem dX6_init_0 : decode cX6_init 0 = .ok (.aload_n 0, 1) := by decide +kernel
theorem dX6_init_1 : decode cX6_init 1 = .ok (.invokespecial 3, 3) := by decide +kernel
theorem dX6_init_4 : decode cX6_init 4 = .ok (.aload_n 0, 1) := by decide +kernel
theorem dX6_init_5 : decode cX6_init 5 = .ok (.bipush 8, 2) := by decide +kernel
theorem dX6_init_7 : decode cX6_init 7 = .ok (.anewarray 9, 3) := by decide +kernel
theorem dX6_init_10 : decode cX6_init 10 = .ok (.putfield 11, 3) := by decide +kernel
theorem dX6_init_13 : decode cX6_init 13 = .ok (.aload_n 0, 1) := by decide +kernel
theorem dX6_init_14 : decode cX6_init 14 = .ok (.iconst 3, 1) := by decide +kernel
theorem dX6_init_15 : decode cX6_init 15 = .ok (.anewarray 15, 3) := by decide +kernel
theorem dX6_init_18 : decode cX6_init 18 = .ok (.putfield 17, 3) := by decide +kernel
theorem dX6_init_21 : decode cX6_init 21 = .ok (.aload_n 0, 1) := by decide +kernel
theorem dX6_init_22 : decode cX6_init 22 = .ok (.new 21, 3) := by decide +kernel
theorem dX6_init_25 : decode cX6_init 25 = .ok (.dup, 1) := by decide +kernel
theorem dX6_init_26 : decode cX6_init 26 = .ok (.invokespecial 23, 3) := by decide +kernel
theorem dX6_init_29 : decode cX6_init 29 = .ok (.putfield 24, 3) := by decide +kernel
theorem dX6_init_32 : decode cX6_init 32 = .ok (.aload_n 0, 1) := by decide +kernel
theorem dX6_init_33 : decode cX6_init 33 = .ok (.new 9, 3) := by decide +kernel
theorem dX6_init_36 : decode cX6_init 36 = .ok (.dup, 1) := by decide +kernel
theorem dX6_init_37 : decode cX6_init 37 = .ok (.invokespecial 28, 3) := by decide +kernel
theorem dX6_init_40 : decode cX6_init 40 = .ok (.putfield 29, 3) := by decide +kernel
theorem dX6_init_43 : decode cX6_init 43 = .ok (.iconst 0, 1) := by decide +kernel
theorem dX6_init_44 : decode cX6_init 44 = .ok (.istore_n 1, 1) := by decide +kernel
theorem dX6_init_45 : decode cX6_init 45 = .ok (.iload_n 1, 1) := by decide +kernel
theorem dX6_init_46 : decode cX6_init 46 = .ok (.bipush 8, 2) := by decide +kernel
theorem dX6_init_48 : decode cX6_init 48 = .ok (.if_icmp .ge 22, 3) := by decide +kernel
theorem dX6_init_51 : decode cX6_init 51 = .ok (.aload_n 0, 1) := by decide +kernel
theorem dX6_init_52 : decode cX6_init 52 = .ok (.getfield 11, 3) := by decide +kernel
theorem dX6_init_55 : decode cX6_init 55 = .ok (.iload_n 1, 1) := by decide +kernel
theorem dX6_init_56 : decode cX6_init 56 = .ok (.new 9, 3) := by decide +kernel
theorem dX6_init_59 : decode cX6_init 59 = .ok (.dup, 1) := by decide +kernel
theorem dX6_init_60 : decode cX6_init 60 = .ok (.invokespecial 28, 3) := by decide +kernel
theorem dX6_init_63 : decode cX6_init 63 = .ok (.aastore, 1) := by decide +kernel
theorem dX6_init_64 : decode cX6_init 64 = .ok (.iinc 1 1, 3) := by decide +kernel
theorem dX6_init_67 : decode cX6_init 67 = .ok (.goto (-22), 3) := by decide +kernel
theorem dX6_init_70 : decode cX6_init 70 = .ok (.aload_n 0, 1) := by decide +kernel
theorem dX6_init_71 : decode cX6_init 71 = .ok (.getfield 17, 3) := by decide +kernel
theorem dX6_init_74 : decode cX6_init 74 = .ok (.iconst 0, 1) := by decide +kernel
theorem dX6_init_75 : decode cX6_init 75 = .ok (.new 33, 3) := by decide +kernel
theorem dX6_init_78 : decode cX6_init 78 = .ok (.dup, 1) := by decide +kernel
theorem dX6_init_79 : decode cX6_init 79 = .ok (.invokespecial 35, 3) := by decide +kernel
theorem dX6_init_82 : decode cX6_init 82 = .ok (.aastore, 1) := by decide +kernel
theorem dX6_init_83 : decode cX6_init 83 = .ok (.aload_n 0, 1) := by decide +kernel
theorem dX6_init_84 : decode cX6_init 84 = .ok (.getfield 17, 3) := by decide +kernel
theorem dX6_init_87 : decode cX6_init 87 = .ok (.iconst 1, 1) := by decide +kernel
theorem dX6_init_88 : decode cX6_init 88 = .ok (.new 36, 3) := by decide +kernel
theorem dX6_init_91 : decode cX6_init 91 = .ok (.dup, 1) := by decide +kernel
theorem dX6_init_92 : decode cX6_init 92 = .ok (.invokespecial 38, 3) := by decide +kernel
theorem dX6_init_95 : decode cX6_init 95 = .ok (.aastore, 1) := by decide +kernel
theorem dX6_init_96 : decode cX6_init 96 = .ok (.aload_n 0, 1) := by decide +kernel
theorem dX6_init_97 : decode cX6_init 97 = .ok (.getfield 17, 3) := by decide +kernel
theorem dX6_init_100 : decode cX6_init 100 = .ok (.iconst 2, 1) := by decide +kernel
theorem dX6_init_101 : decode cX6_init 101 = .ok (.new 39, 3) := by decide +kernel
theorem dX6_init_104 : decode cX6_init 104 = .ok (.dup, 1) := by decide +kernel
theorem dX6_init_105 : decode cX6_init 105 = .ok (.invokespecial 41, 3) := by decide +kernel
theorem dX6_init_108 : decode cX6_init 108 = .ok (.aastore, 1) := by decide +kernel
theorem dX6_init_109 : decode cX6_init 109 = .ok (.return_, 1) := by decide +kernel
theorem dX6_put_0 : decode cX6_put 0 = .ok (.iload_n 1, 1) := by decide +kernel
theorem dX6_put_1 : decode cX6_put 1 = .ok (.invokestatic 42, 3) := by decide +kernel
theorem dX6_put_4 : decode cX6_put 4 = .ok (.ifCond .ne 6, 3) := by decide +kernel
theorem dX6_put_7 : decode cX6_put 7 = .ok (.bipush (-2), 2) := by decide +kernel
theorem dX6_put_9 : decode cX6_put 9 = .ok (.ireturn, 1) := by decide +kernel
theorem dX6_put_10 : decode cX6_put 10 = .ok (.iload_n 2, 1) := by decide +kernel
theorem dX6_put_11 : decode cX6_put 11 = .ok (.invokestatic 46, 3) := by decide +kernel
theorem dX6_put_14 : decode cX6_put 14 = .ok (.ifCond .ne 6, 3) := by decide +kernel
theorem dX6_put_17 : decode cX6_put 17 = .ok (.bipush (-3), 2) := by decide +kernel
theorem dX6_put_19 : decode cX6_put 19 = .ok (.ireturn, 1) := by decide +kernel
theorem dX6_put_20 : decode cX6_put 20 = .ok (.aload_n 0, 1) := by decide +kernel
theorem dX6_put_21 : decode cX6_put 21 = .ok (.getfield 11, 3) := by decide +kernel
theorem dX6_put_24 : decode cX6_put 24 = .ok (.iload_n 1, 1) := by decide +kernel
theorem dX6_put_25 : decode cX6_put 25 = .ok (.aaload, 1) := by decide +kernel
theorem dX6_put_26 : decode cX6_put 26 = .ok (.iload_n 2, 1) := by decide +kernel
theorem dX6_put_27 : decode cX6_put 27 = .ok (.invokevirtual 49, 3) := by decide +kernel
theorem dX6_put_30 : decode cX6_put 30 = .ok (.ifCond .eq 5, 3) := by decide +kernel
theorem dX6_put_33 : decode cX6_put 33 = .ok (.iconst 0, 1) := by decide +kernel
theorem dX6_put_34 : decode cX6_put 34 = .ok (.ireturn, 1) := by decide +kernel
theorem dX6_put_35 : decode cX6_put 35 = .ok (.aload_n 0, 1) := by decide +kernel
theorem dX6_put_36 : decode cX6_put 36 = .ok (.getfield 11, 3) := by decide +kernel
theorem dX6_put_39 : decode cX6_put 39 = .ok (.iload_n 1, 1) := by decide +kernel
theorem dX6_put_40 : decode cX6_put 40 = .ok (.aaload, 1) := by decide +kernel
theorem dX6_put_41 : decode cX6_put 41 = .ok (.iload_n 2, 1) := by decide +kernel
theorem dX6_put_42 : decode cX6_put 42 = .ok (.invokevirtual 52, 3) := by decide +kernel
theorem dX6_put_45 : decode cX6_put 45 = .ok (.iconst 1, 1) := by decide +kernel
theorem dX6_put_46 : decode cX6_put 46 = .ok (.ireturn, 1) := by decide +kernel
theorem dX6_fill_0 : decode cX6_fill 0 = .ok (.iload_n 1, 1) := by decide +kernel
theorem dX6_fill_1 : decode cX6_fill 1 = .ok (.invokestatic 42, 3) := by decide +kernel
theorem dX6_fill_4 : decode cX6_fill 4 = .ok (.ifCond .ne 6, 3) := by decide +kernel
theorem dX6_fill_7 : decode cX6_fill 7 = .ok (.bipush (-2), 2) := by decide +kernel
theorem dX6_fill_9 : decode cX6_fill 9 = .ok (.ireturn, 1) := by decide +kernel
theorem dX6_fill_10 : decode cX6_fill 10 = .ok (.iload_n 2, 1) := by decide +kernel
theorem dX6_fill_11 : decode cX6_fill 11 = .ok (.iload_n 3, 1) := by decide +kernel
theorem dX6_fill_12 : decode cX6_fill 12 = .ok (.invokestatic 56, 3) := by decide +kernel
theorem dX6_fill_15 : decode cX6_fill 15 = .ok (.ifCond .ne 6, 3) := by decide +kernel
theorem dX6_fill_18 : decode cX6_fill 18 = .ok (.bipush (-3), 2) := by decide +kernel
theorem dX6_fill_20 : decode cX6_fill 20 = .ok (.ireturn, 1) := by decide +kernel
theorem dX6_fill_21 : decode cX6_fill 21 = .ok (.iload_n 3, 1) := by decide +kernel
theorem dX6_fill_22 : decode cX6_fill 22 = .ok (.iload_n 2, 1) := by decide +kernel
theorem dX6_fill_23 : decode cX6_fill 23 = .ok (.isub, 1) := by decide +kernel
theorem dX6_fill_24 : decode cX6_fill 24 = .ok (.iconst 1, 1) := by decide +kernel
theorem dX6_fill_25 : decode cX6_fill 25 = .ok (.iadd, 1) := by decide +kernel
theorem dX6_fill_26 : decode cX6_fill 26 = .ok (.aload_n 0, 1) := by decide +kernel
theorem dX6_fill_27 : decode cX6_fill 27 = .ok (.getfield 11, 3) := by decide +kernel
theorem dX6_fill_30 : decode cX6_fill 30 = .ok (.iload_n 1, 1) := by decide +kernel
theorem dX6_fill_31 : decode cX6_fill 31 = .ok (.aaload, 1) := by decide +kernel
theorem dX6_fill_32 : decode cX6_fill 32 = .ok (.iload_n 2, 1) := by decide +kernel
theorem dX6_fill_33 : decode cX6_fill 33 = .ok (.iload_n 3, 1) := by decide +kernel
theorem dX6_fill_34 : decode cX6_fill 34 = .ok (.invokevirtual 60, 3) := by decide +kernel
theorem dX6_fill_37 : decode cX6_fill 37 = .ok (.isub, 1) := by decide +kernel
theorem dX6_fill_38 : decode cX6_fill 38 = .ok (.istore 4, 2) := by decide +kernel
theorem dX6_fill_40 : decode cX6_fill 40 = .ok (.aload_n 0, 1) := by decide +kernel
theorem dX6_fill_41 : decode cX6_fill 41 = .ok (.getfield 11, 3) := by decide +kernel
theorem dX6_fill_44 : decode cX6_fill 44 = .ok (.iload_n 1, 1) := by decide +kernel
theorem dX6_fill_45 : decode cX6_fill 45 = .ok (.aaload, 1) := by decide +kernel
theorem dX6_fill_46 : decode cX6_fill 46 = .ok (.iload_n 2, 1) := by decide +kernel
theorem dX6_fill_47 : decode cX6_fill 47 = .ok (.iload_n 3, 1) := by decide +kernel
theorem dX6_fill_48 : decode cX6_fill 48 = .ok (.invokevirtual 64, 3) := by decide +kernel
theorem dX6_fill_51 : decode cX6_fill 51 = .ok (.iload 4, 2) := by decide +kernel
theorem dX6_fill_53 : decode cX6_fill 53 = .ok (.ireturn, 1) := by decide +kernel
theorem dX6_drop_0 : decode cX6_drop 0 = .ok (.iload_n 1, 1) := by decide +kernel
theorem dX6_drop_1 : decode cX6_drop 1 = .ok (.invokestatic 42, 3) := by decide +kernel
theorem dX6_drop_4 : decode cX6_drop 4 = .ok (.ifCond .ne 6, 3) := by decide +kernel
theorem dX6_drop_7 : decode cX6_drop 7 = .ok (.bipush (-2), 2) := by decide +kernel
theorem dX6_drop_9 : decode cX6_drop 9 = .ok (.ireturn, 1) := by decide +kernel
theorem dX6_drop_10 : decode cX6_drop 10 = .ok (.iload_n 2, 1) := by decide +kernel
theorem dX6_drop_11 : decode cX6_drop 11 = .ok (.iload_n 3, 1) := by decide +kernel
theorem dX6_drop_12 : decode cX6_drop 12 = .ok (.invokestatic 56, 3) := by decide +kernel
theorem dX6_drop_15 : decode cX6_drop 15 = .ok (.ifCond .ne 6, 3) := by decide +kernel
theorem dX6_drop_18 : decode cX6_drop 18 = .ok (.bipush (-3), 2) := by decide +kernel
theorem dX6_drop_20 : decode cX6_drop 20 = .ok (.ireturn, 1) := by decide +kernel
theorem dX6_drop_21 : decode cX6_drop 21 = .ok (.aload_n 0, 1) := by decide +kernel
theorem dX6_drop_22 : decode cX6_drop 22 = .ok (.getfield 11, 3) := by decide +kernel
theorem dX6_drop_25 : decode cX6_drop 25 = .ok (.iload_n 1, 1) := by decide +kernel
theorem dX6_drop_26 : decode cX6_drop 26 = .ok (.aaload, 1) := by decide +kernel
theorem dX6_drop_27 : decode cX6_drop 27 = .ok (.iload_n 2, 1) := by decide +kernel
theorem dX6_drop_28 : decode cX6_drop 28 = .ok (.iload_n 3, 1) := by decide +kernel
theorem dX6_drop_29 : decode cX6_drop 29 = .ok (.invokevirtual 60, 3) := by decide +kernel
theorem dX6_drop_32 : decode cX6_drop 32 = .ok (.istore 4, 2) := by decide +kernel
theorem dX6_drop_34 : decode cX6_drop 34 = .ok (.aload_n 0, 1) := by decide +kernel
theorem dX6_drop_35 : decode cX6_drop 35 = .ok (.getfield 11, 3) := by decide +kernel
theorem dX6_drop_38 : decode cX6_drop 38 = .ok (.iload_n 1, 1) := by decide +kernel
theorem dX6_drop_39 : decode cX6_drop 39 = .ok (.aaload, 1) := by decide +kernel
theorem dX6_drop_40 : decode cX6_drop 40 = .ok (.iload_n 2, 1) := by decide +kernel
theorem dX6_drop_41 : decode cX6_drop 41 = .ok (.iload_n 3, 1) := by decide +kernel
theorem dX6_drop_42 : decode cX6_drop 42 = .ok (.invokevirtual 68, 3) := by decide +kernel
theorem dX6_drop_45 : decode cX6_drop 45 = .ok (.iload 4, 2) := by decide +kernel
theorem dX6_drop_47 : decode cX6_drop 47 = .ok (.ireturn, 1) := by decide +kernel
theorem dX6_join_0 : decode cX6_join 0 = .ok (.iload_n 1, 1) := by decide +kernel
theorem dX6_join_1 : decode cX6_join 1 = .ok (.invokestatic 42, 3) := by decide +kernel
theorem dX6_join_4 : decode cX6_join 4 = .ok (.ifCond .eq 17, 3) := by decide +kernel
theorem dX6_join_7 : decode cX6_join 7 = .ok (.iload_n 2, 1) := by decide +kernel
theorem dX6_join_8 : decode cX6_join 8 = .ok (.invokestatic 42, 3) := by decide +kernel
theorem dX6_join_11 : decode cX6_join 11 = .ok (.ifCond .eq 10, 3) := by decide +kernel
theorem dX6_join_14 : decode cX6_join 14 = .ok (.iload_n 3, 1) := by decide +kernel
theorem dX6_join_15 : decode cX6_join 15 = .ok (.invokestatic 42, 3) := by decide +kernel
theorem dX6_join_18 : decode cX6_join 18 = .ok (.ifCond .ne 6, 3) := by decide +kernel
theorem dX6_join_21 : decode cX6_join 21 = .ok (.bipush (-2), 2) := by decide +kernel
theorem dX6_join_23 : decode cX6_join 23 = .ok (.ireturn, 1) := by decide +kernel
theorem dX6_join_24 : decode cX6_join 24 = .ok (.iload 4, 2) := by decide +kernel
theorem dX6_join_26 : decode cX6_join 26 = .ok (.ifCond .lt 9, 3) := by decide +kernel
theorem dX6_join_29 : decode cX6_join 29 = .ok (.iload 4, 2) := by decide +kernel
theorem dX6_join_31 : decode cX6_join 31 = .ok (.iconst 4, 1) := by decide +kernel
theorem dX6_join_32 : decode cX6_join 32 = .ok (.if_icmp .lt 6, 3) := by decide +kernel
theorem dX6_join_35 : decode cX6_join 35 = .ok (.bipush (-3), 2) := by decide +kernel
theorem dX6_join_37 : decode cX6_join 37 = .ok (.ireturn, 1) := by decide +kernel
theorem dX6_join_38 : decode cX6_join 38 = .ok (.aload_n 0, 1) := by decide +kernel
theorem dX6_join_39 : decode cX6_join 39 = .ok (.getfield 11, 3) := by decide +kernel
theorem dX6_join_42 : decode cX6_join 42 = .ok (.iload_n 1, 1) := by decide +kernel
theorem dX6_join_43 : decode cX6_join 43 = .ok (.aaload, 1) := by decide +kernel
theorem dX6_join_44 : decode cX6_join 44 = .ok (.aload_n 0, 1) := by decide +kernel
theorem dX6_join_45 : decode cX6_join 45 = .ok (.getfield 11, 3) := by decide +kernel
theorem dX6_join_48 : decode cX6_join 48 = .ok (.iload_n 2, 1) := by decide +kernel
theorem dX6_join_49 : decode cX6_join 49 = .ok (.aaload, 1) := by decide +kernel
theorem dX6_join_50 : decode cX6_join 50 = .ok (.aload_n 0, 1) := by decide +kernel
theorem dX6_join_51 : decode cX6_join 51 = .ok (.getfield 11, 3) := by decide +kernel
theorem dX6_join_54 : decode cX6_join 54 = .ok (.iload_n 3, 1) := by decide +kernel
theorem dX6_join_55 : decode cX6_join 55 = .ok (.aaload, 1) := by decide +kernel
theorem dX6_join_56 : decode cX6_join 56 = .ok (.iload 4, 2) := by decide +kernel
theorem dX6_join_58 : decode cX6_join 58 = .ok (.invokevirtual 71, 3) := by decide +kernel
theorem dX6_join_61 : decode cX6_join 61 = .ok (.aload_n 0, 1) := by decide +kernel
theorem dX6_join_62 : decode cX6_join 62 = .ok (.getfield 11, 3) := by decide +kernel
theorem dX6_join_65 : decode cX6_join 65 = .ok (.iload_n 1, 1) := by decide +kernel
theorem dX6_join_66 : decode cX6_join 66 = .ok (.aaload, 1) := by decide +kernel
theorem dX6_join_67 : decode cX6_join 67 = .ok (.invokevirtual 75, 3) := by decide +kernel
theorem dX6_join_70 : decode cX6_join 70 = .ok (.ireturn, 1) := by decide +kernel
theorem dX6_has_0 : decode cX6_has 0 = .ok (.iload_n 1, 1) := by decide +kernel
theorem dX6_has_1 : decode cX6_has 1 = .ok (.invokestatic 42, 3) := by decide +kernel
theorem dX6_has_4 : decode cX6_has 4 = .ok (.ifCond .ne 6, 3) := by decide +kernel
theorem dX6_has_7 : decode cX6_has 7 = .ok (.bipush (-2), 2) := by decide +kernel
theorem dX6_has_9 : decode cX6_has 9 = .ok (.ireturn, 1) := by decide +kernel
theorem dX6_has_10 : decode cX6_has 10 = .ok (.iload_n 2, 1) := by decide +kernel
theorem dX6_has_11 : decode cX6_has 11 = .ok (.invokestatic 46, 3) := by decide +kernel
theorem dX6_has_14 : decode cX6_has 14 = .ok (.ifCond .ne 6, 3) := by decide +kernel
theorem dX6_has_17 : decode cX6_has 17 = .ok (.bipush (-3), 2) := by decide +kernel
theorem dX6_has_19 : decode cX6_has 19 = .ok (.ireturn, 1) := by decide +kernel
theorem dX6_has_20 : decode cX6_has 20 = .ok (.aload_n 0, 1) := by decide +kernel
theorem dX6_has_21 : decode cX6_has 21 = .ok (.getfield 11, 3) := by decide +kernel
theorem dX6_has_24 : decode cX6_has 24 = .ok (.iload_n 1, 1) := by decide +kernel
theorem dX6_has_25 : decode cX6_has 25 = .ok (.aaload, 1) := by decide +kernel
theorem dX6_has_26 : decode cX6_has 26 = .ok (.iload_n 2, 1) := by decide +kernel
theorem dX6_has_27 : decode cX6_has 27 = .ok (.invokevirtual 49, 3) := by decide +kernel
theorem dX6_has_30 : decode cX6_has 30 = .ok (.ifCond .eq 7, 3) := by decide +kernel
theorem dX6_has_33 : decode cX6_has 33 = .ok (.iconst 1, 1) := by decide +kernel
theorem dX6_has_34 : decode cX6_has 34 = .ok (.goto 4, 3) := by decide +kernel
theorem dX6_has_37 : decode cX6_has 37 = .ok (.iconst 0, 1) := by decide +kernel
theorem dX6_has_38 : decode cX6_has 38 = .ok (.ireturn, 1) := by decide +kernel
theorem dX6_count_0 : decode cX6_count 0 = .ok (.iload_n 1, 1) := by decide +kernel
theorem dX6_count_1 : decode cX6_count 1 = .ok (.invokestatic 42, 3) := by decide +kernel
theorem dX6_count_4 : decode cX6_count 4 = .ok (.ifCond .ne 6, 3) := by decide +kernel
theorem dX6_count_7 : decode cX6_count 7 = .ok (.bipush (-2), 2) := by decide +kernel
theorem dX6_count_9 : decode cX6_count 9 = .ok (.ireturn, 1) := by decide +kernel
theorem dX6_count_10 : decode cX6_count 10 = .ok (.aload_n 0, 1) := by decide +kernel
theorem dX6_count_11 : decode cX6_count 11 = .ok (.getfield 11, 3) := by decide +kernel
theorem dX6_count_14 : decode cX6_count 14 = .ok (.iload_n 1, 1) := by decide +kernel
theorem dX6_count_15 : decode cX6_count 15 = .ok (.aaload, 1) := by decide +kernel
theorem dX6_count_16 : decode cX6_count 16 = .ok (.invokevirtual 75, 3) := by decide +kernel
theorem dX6_count_19 : decode cX6_count 19 = .ok (.ireturn, 1) := by decide +kernel
theorem dX6_rank_0 : decode cX6_rank 0 = .ok (.iload_n 1, 1) := by decide +kernel
theorem dX6_rank_1 : decode cX6_rank 1 = .ok (.invokestatic 42, 3) := by decide +kernel
theorem dX6_rank_4 : decode cX6_rank 4 = .ok (.ifCond .ne 6, 3) := by decide +kernel
theorem dX6_rank_7 : decode cX6_rank 7 = .ok (.bipush (-2), 2) := by decide +kernel
theorem dX6_rank_9 : decode cX6_rank 9 = .ok (.ireturn, 1) := by decide +kernel
theorem dX6_rank_10 : decode cX6_rank 10 = .ok (.iload_n 2, 1) := by decide +kernel
theorem dX6_rank_11 : decode cX6_rank 11 = .ok (.invokestatic 79, 3) := by decide +kernel
theorem dX6_rank_14 : decode cX6_rank 14 = .ok (.ifCond .ne 6, 3) := by decide +kernel
theorem dX6_rank_17 : decode cX6_rank 17 = .ok (.bipush (-3), 2) := by decide +kernel
theorem dX6_rank_19 : decode cX6_rank 19 = .ok (.ireturn, 1) := by decide +kernel
theorem dX6_rank_20 : decode cX6_rank 20 = .ok (.aload_n 0, 1) := by decide +kernel
theorem dX6_rank_21 : decode cX6_rank 21 = .ok (.getfield 11, 3) := by decide +kernel
theorem dX6_rank_24 : decode cX6_rank 24 = .ok (.iload_n 1, 1) := by decide +kernel
theorem dX6_rank_25 : decode cX6_rank 25 = .ok (.aaload, 1) := by decide +kernel
theorem dX6_rank_26 : decode cX6_rank 26 = .ok (.iload_n 2, 1) := by decide +kernel
theorem dX6_rank_27 : decode cX6_rank 27 = .ok (.invokevirtual 82, 3) := by decide +kernel
theorem dX6_rank_30 : decode cX6_rank 30 = .ok (.ireturn, 1) := by decide +kernel
theorem dX6_select_0 : decode cX6_select 0 = .ok (.iload_n 1, 1) := by decide +kernel
theorem dX6_select_1 : decode cX6_select 1 = .ok (.invokestatic 42, 3) := by decide +kernel
theorem dX6_select_4 : decode cX6_select 4 = .ok (.ifCond .ne 6, 3) := by decide +kernel
theorem dX6_select_7 : decode cX6_select 7 = .ok (.bipush (-2), 2) := by decide +kernel
theorem dX6_select_9 : decode cX6_select 9 = .ok (.ireturn, 1) := by decide +kernel
theorem dX6_select_10 : decode cX6_select 10 = .ok (.aload_n 0, 1) := by decide +kernel
theorem dX6_select_11 : decode cX6_select 11 = .ok (.getfield 11, 3) := by decide +kernel
theorem dX6_select_14 : decode cX6_select 14 = .ok (.iload_n 1, 1) := by decide +kernel
theorem dX6_select_15 : decode cX6_select 15 = .ok (.aaload, 1) := by decide +kernel
theorem dX6_select_16 : decode cX6_select 16 = .ok (.iload_n 2, 1) := by decide +kernel
theorem dX6_select_17 : decode cX6_select 17 = .ok (.invokevirtual 86, 3) := by decide +kernel
theorem dX6_select_20 : decode cX6_select 20 = .ok (.ireturn, 1) := by decide +kernel
theorem dX6_next_0 : decode cX6_next 0 = .ok (.iload_n 1, 1) := by decide +kernel
theorem dX6_next_1 : decode cX6_next 1 = .ok (.invokestatic 42, 3) := by decide +kernel
theorem dX6_next_4 : decode cX6_next 4 = .ok (.ifCond .ne 6, 3) := by decide +kernel
theorem dX6_next_7 : decode cX6_next 7 = .ok (.bipush (-2), 2) := by decide +kernel
theorem dX6_next_9 : decode cX6_next 9 = .ok (.ireturn, 1) := by decide +kernel
theorem dX6_next_10 : decode cX6_next 10 = .ok (.iload_n 2, 1) := by decide +kernel
theorem dX6_next_11 : decode cX6_next 11 = .ok (.invokestatic 79, 3) := by decide +kernel
theorem dX6_next_14 : decode cX6_next 14 = .ok (.ifCond .ne 6, 3) := by decide +kernel
theorem dX6_next_17 : decode cX6_next 17 = .ok (.bipush (-3), 2) := by decide +kernel
theorem dX6_next_19 : decode cX6_next 19 = .ok (.ireturn, 1) := by decide +kernel
theorem dX6_next_20 : decode cX6_next 20 = .ok (.aload_n 0, 1) := by decide +kernel
theorem dX6_next_21 : decode cX6_next 21 = .ok (.getfield 11, 3) := by decide +kernel
theorem dX6_next_24 : decode cX6_next 24 = .ok (.iload_n 1, 1) := by decide +kernel
theorem dX6_next_25 : decode cX6_next 25 = .ok (.aaload, 1) := by decide +kernel
theorem dX6_next_26 : decode cX6_next 26 = .ok (.iload_n 2, 1) := by decide +kernel
theorem dX6_next_27 : decode cX6_next 27 = .ok (.invokevirtual 89, 3) := by decide +kernel
theorem dX6_next_30 : decode cX6_next 30 = .ok (.ireturn, 1) := by decide +kernel
theorem dX6_before_0 : decode cX6_before 0 = .ok (.iload_n 1, 1) := by decide +kernel
theorem dX6_before_1 : decode cX6_before 1 = .ok (.invokestatic 42, 3) := by decide +kernel
theorem dX6_before_4 : decode cX6_before 4 = .ok (.ifCond .ne 6, 3) := by decide +kernel
theorem dX6_before_7 : decode cX6_before 7 = .ok (.bipush (-2), 2) := by decide +kernel
theorem dX6_before_9 : decode cX6_before 9 = .ok (.ireturn, 1) := by decide +kernel
theorem dX6_before_10 : decode cX6_before 10 = .ok (.iload_n 2, 1) := by decide +kernel
theorem dX6_before_11 : decode cX6_before 11 = .ok (.invokestatic 79, 3) := by decide +kernel
theorem dX6_before_14 : decode cX6_before 14 = .ok (.ifCond .ne 6, 3) := by decide +kernel
theorem dX6_before_17 : decode cX6_before 17 = .ok (.bipush (-3), 2) := by decide +kernel
theorem dX6_before_19 : decode cX6_before 19 = .ok (.ireturn, 1) := by decide +kernel
theorem dX6_before_20 : decode cX6_before 20 = .ok (.aload_n 0, 1) := by decide +kernel
theorem dX6_before_21 : decode cX6_before 21 = .ok (.getfield 11, 3) := by decide +kernel
theorem dX6_before_24 : decode cX6_before 24 = .ok (.iload_n 1, 1) := by decide +kernel
theorem dX6_before_25 : decode cX6_before 25 = .ok (.aaload, 1) := by decide +kernel
theorem dX6_before_26 : decode cX6_before 26 = .ok (.aload_n 0, 1) := by decide +kernel
theorem dX6_before_27 : decode cX6_before 27 = .ok (.getfield 11, 3) := by decide +kernel
theorem dX6_before_30 : decode cX6_before 30 = .ok (.iload_n 1, 1) := by decide +kernel
theorem dX6_before_31 : decode cX6_before 31 = .ok (.aaload, 1) := by decide +kernel
theorem dX6_before_32 : decode cX6_before 32 = .ok (.iload_n 2, 1) := by decide +kernel
theorem dX6_before_33 : decode cX6_before 33 = .ok (.invokevirtual 82, 3) := by decide +kernel
theorem dX6_before_36 : decode cX6_before 36 = .ok (.iconst 1, 1) := by decide +kernel
theorem dX6_before_37 : decode cX6_before 37 = .ok (.isub, 1) := by decide +kernel
theorem dX6_before_38 : decode cX6_before 38 = .ok (.invokevirtual 86, 3) := by decide +kernel
theorem dX6_before_41 : decode cX6_before 41 = .ok (.ireturn, 1) := by decide +kernel
theorem dX6_common_0 : decode cX6_common 0 = .ok (.iload_n 1, 1) := by decide +kernel
theorem dX6_common_1 : decode cX6_common 1 = .ok (.invokestatic 42, 3) := by decide +kernel
theorem dX6_common_4 : decode cX6_common 4 = .ok (.ifCond .eq 10, 3) := by decide +kernel
theorem dX6_common_7 : decode cX6_common 7 = .ok (.iload_n 2, 1) := by decide +kernel
theorem dX6_common_8 : decode cX6_common 8 = .ok (.invokestatic 42, 3) := by decide +kernel
theorem dX6_common_11 : decode cX6_common 11 = .ok (.ifCond .ne 6, 3) := by decide +kernel
theorem dX6_common_14 : decode cX6_common 14 = .ok (.bipush (-2), 2) := by decide +kernel
theorem dX6_common_16 : decode cX6_common 16 = .ok (.ireturn, 1) := by decide +kernel
theorem dX6_common_17 : decode cX6_common 17 = .ok (.aload_n 0, 1) := by decide +kernel
theorem dX6_common_18 : decode cX6_common 18 = .ok (.getfield 11, 3) := by decide +kernel
theorem dX6_common_21 : decode cX6_common 21 = .ok (.iload_n 1, 1) := by decide +kernel
theorem dX6_common_22 : decode cX6_common 22 = .ok (.aaload, 1) := by decide +kernel
theorem dX6_common_23 : decode cX6_common 23 = .ok (.aload_n 0, 1) := by decide +kernel
theorem dX6_common_24 : decode cX6_common 24 = .ok (.getfield 11, 3) := by decide +kernel
theorem dX6_common_27 : decode cX6_common 27 = .ok (.iload_n 2, 1) := by decide +kernel
theorem dX6_common_28 : decode cX6_common 28 = .ok (.aaload, 1) := by decide +kernel
theorem dX6_common_29 : decode cX6_common 29 = .ok (.invokevirtual 92, 3) := by decide +kernel
theorem dX6_common_32 : decode cX6_common 32 = .ok (.ireturn, 1) := by decide +kernel
theorem dX6_piece_0 : decode cX6_piece 0 = .ok (.iload_n 1, 1) := by decide +kernel
theorem dX6_piece_1 : decode cX6_piece 1 = .ok (.invokestatic 42, 3) := by decide +kernel
theorem dX6_piece_4 : decode cX6_piece 4 = .ok (.ifCond .ne 6, 3) := by decide +kernel
theorem dX6_piece_7 : decode cX6_piece 7 = .ok (.bipush (-2), 2) := by decide +kernel
theorem dX6_piece_9 : decode cX6_piece 9 = .ok (.ireturn, 1) := by decide +kernel
theorem dX6_piece_10 : decode cX6_piece 10 = .ok (.iload_n 2, 1) := by decide +kernel
theorem dX6_piece_11 : decode cX6_piece 11 = .ok (.ifCond .lt 9, 3) := by decide +kernel
theorem dX6_piece_14 : decode cX6_piece 14 = .ok (.iload_n 2, 1) := by decide +kernel
theorem dX6_piece_15 : decode cX6_piece 15 = .ok (.bipush 16, 2) := by decide +kernel
theorem dX6_piece_17 : decode cX6_piece 17 = .ok (.if_icmp .lt 6, 3) := by decide +kernel
theorem dX6_piece_20 : decode cX6_piece 20 = .ok (.bipush (-3), 2) := by decide +kernel
theorem dX6_piece_22 : decode cX6_piece 22 = .ok (.ireturn, 1) := by decide +kernel
theorem dX6_piece_23 : decode cX6_piece 23 = .ok (.iload_n 3, 1) := by decide +kernel
theorem dX6_piece_24 : decode cX6_piece 24 = .ok (.tableswitch 76 0 3 #[32, 43, 54, 65], 32) := by decide +kernel
theorem dX6_piece_56 : decode cX6_piece 56 = .ok (.aload_n 0, 1) := by decide +kernel
theorem dX6_piece_57 : decode cX6_piece 57 = .ok (.getfield 11, 3) := by decide +kernel
theorem dX6_piece_60 : decode cX6_piece 60 = .ok (.iload_n 1, 1) := by decide +kernel
theorem dX6_piece_61 : decode cX6_piece 61 = .ok (.aaload, 1) := by decide +kernel
theorem dX6_piece_62 : decode cX6_piece 62 = .ok (.iload_n 2, 1) := by decide +kernel
theorem dX6_piece_63 : decode cX6_piece 63 = .ok (.invokevirtual 96, 3) := by decide +kernel
theorem dX6_piece_66 : decode cX6_piece 66 = .ok (.ireturn, 1) := by decide +kernel
theorem dX6_piece_67 : decode cX6_piece 67 = .ok (.aload_n 0, 1) := by decide +kernel
theorem dX6_piece_68 : decode cX6_piece 68 = .ok (.getfield 11, 3) := by decide +kernel
theorem dX6_piece_71 : decode cX6_piece 71 = .ok (.iload_n 1, 1) := by decide +kernel
theorem dX6_piece_72 : decode cX6_piece 72 = .ok (.aaload, 1) := by decide +kernel
theorem dX6_piece_73 : decode cX6_piece 73 = .ok (.iload_n 2, 1) := by decide +kernel
theorem dX6_piece_74 : decode cX6_piece 74 = .ok (.invokevirtual 99, 3) := by decide +kernel
theorem dX6_piece_77 : decode cX6_piece 77 = .ok (.ireturn, 1) := by decide +kernel
theorem dX6_piece_78 : decode cX6_piece 78 = .ok (.aload_n 0, 1) := by decide +kernel
theorem dX6_piece_79 : decode cX6_piece 79 = .ok (.getfield 11, 3) := by decide +kernel
theorem dX6_piece_82 : decode cX6_piece 82 = .ok (.iload_n 1, 1) := by decide +kernel
theorem dX6_piece_83 : decode cX6_piece 83 = .ok (.aaload, 1) := by decide +kernel
theorem dX6_piece_84 : decode cX6_piece 84 = .ok (.iload_n 2, 1) := by decide +kernel
theorem dX6_piece_85 : decode cX6_piece 85 = .ok (.invokevirtual 102, 3) := by decide +kernel
theorem dX6_piece_88 : decode cX6_piece 88 = .ok (.ireturn, 1) := by decide +kernel
theorem dX6_piece_89 : decode cX6_piece 89 = .ok (.aload_n 0, 1) := by decide +kernel
theorem dX6_piece_90 : decode cX6_piece 90 = .ok (.getfield 11, 3) := by decide +kernel
theorem dX6_piece_93 : decode cX6_piece 93 = .ok (.iload_n 1, 1) := by decide +kernel
theorem dX6_piece_94 : decode cX6_piece 94 = .ok (.aaload, 1) := by decide +kernel
theorem dX6_piece_95 : decode cX6_piece 95 = .ok (.iload_n 2, 1) := by decide +kernel
theorem dX6_piece_96 : decode cX6_piece 96 = .ok (.invokevirtual 105, 3) := by decide +kernel
theorem dX6_piece_99 : decode cX6_piece 99 = .ok (.ireturn, 1) := by decide +kernel
theorem dX6_piece_100 : decode cX6_piece 100 = .ok (.bipush (-3), 2) := by decide +kernel
theorem dX6_piece_102 : decode cX6_piece 102 = .ok (.ireturn, 1) := by decide +kernel
theorem dX6_cost_0 : decode cX6_cost 0 = .ok (.iload_n 1, 1) := by decide +kernel
theorem dX6_cost_1 : decode cX6_cost 1 = .ok (.invokestatic 42, 3) := by decide +kernel
theorem dX6_cost_4 : decode cX6_cost 4 = .ok (.ifCond .ne 6, 3) := by decide +kernel
theorem dX6_cost_7 : decode cX6_cost 7 = .ok (.bipush (-2), 2) := by decide +kernel
theorem dX6_cost_9 : decode cX6_cost 9 = .ok (.ireturn, 1) := by decide +kernel
theorem dX6_cost_10 : decode cX6_cost 10 = .ok (.iconst 0, 1) := by decide +kernel
theorem dX6_cost_11 : decode cX6_cost 11 = .ok (.istore_n 2, 1) := by decide +kernel
theorem dX6_cost_12 : decode cX6_cost 12 = .ok (.iconst 0, 1) := by decide +kernel
theorem dX6_cost_13 : decode cX6_cost 13 = .ok (.istore_n 3, 1) := by decide +kernel
theorem dX6_cost_14 : decode cX6_cost 14 = .ok (.iload_n 3, 1) := by decide +kernel
theorem dX6_cost_15 : decode cX6_cost 15 = .ok (.bipush 16, 2) := by decide +kernel
theorem dX6_cost_17 : decode cX6_cost 17 = .ok (.if_icmp .ge 38, 3) := by decide +kernel
theorem dX6_cost_20 : decode cX6_cost 20 = .ok (.aload_n 0, 1) := by decide +kernel
theorem dX6_cost_21 : decode cX6_cost 21 = .ok (.getfield 11, 3) := by decide +kernel
theorem dX6_cost_24 : decode cX6_cost 24 = .ok (.iload_n 1, 1) := by decide +kernel
theorem dX6_cost_25 : decode cX6_cost 25 = .ok (.aaload, 1) := by decide +kernel
theorem dX6_cost_26 : decode cX6_cost 26 = .ok (.iload_n 3, 1) := by decide +kernel
theorem dX6_cost_27 : decode cX6_cost 27 = .ok (.invokevirtual 99, 3) := by decide +kernel
theorem dX6_cost_30 : decode cX6_cost 30 = .ok (.ifCond .le 19, 3) := by decide +kernel
theorem dX6_cost_33 : decode cX6_cost 33 = .ok (.iload_n 2, 1) := by decide +kernel
theorem dX6_cost_34 : decode cX6_cost 34 = .ok (.bipush 16, 2) := by decide +kernel
theorem dX6_cost_36 : decode cX6_cost 36 = .ok (.aload_n 0, 1) := by decide +kernel
theorem dX6_cost_37 : decode cX6_cost 37 = .ok (.getfield 11, 3) := by decide +kernel
theorem dX6_cost_40 : decode cX6_cost 40 = .ok (.iload_n 1, 1) := by decide +kernel
theorem dX6_cost_41 : decode cX6_cost 41 = .ok (.aaload, 1) := by decide +kernel
theorem dX6_cost_42 : decode cX6_cost 42 = .ok (.iload_n 3, 1) := by decide +kernel
theorem dX6_cost_43 : decode cX6_cost 43 = .ok (.invokevirtual 105, 3) := by decide +kernel
theorem dX6_cost_46 : decode cX6_cost 46 = .ok (.iadd, 1) := by decide +kernel
theorem dX6_cost_47 : decode cX6_cost 47 = .ok (.iadd, 1) := by decide +kernel
theorem dX6_cost_48 : decode cX6_cost 48 = .ok (.istore_n 2, 1) := by decide +kernel
theorem dX6_cost_49 : decode cX6_cost 49 = .ok (.iinc 3 1, 3) := by decide +kernel
theorem dX6_cost_52 : decode cX6_cost 52 = .ok (.goto (-38), 3) := by decide +kernel
theorem dX6_cost_55 : decode cX6_cost 55 = .ok (.iload_n 2, 1) := by decide +kernel
theorem dX6_cost_56 : decode cX6_cost 56 = .ok (.ireturn, 1) := by decide +kernel
theorem dX6_length_0 : decode cX6_length 0 = .ok (.iload_n 1, 1) := by decide +kernel
theorem dX6_length_1 : decode cX6_length 1 = .ok (.invokestatic 42, 3) := by decide +kernel
theorem dX6_length_4 : decode cX6_length 4 = .ok (.ifCond .ne 6, 3) := by decide +kernel
theorem dX6_length_7 : decode cX6_length 7 = .ok (.bipush (-2), 2) := by decide +kernel
theorem dX6_length_9 : decode cX6_length 9 = .ok (.ireturn, 1) := by decide +kernel
theorem dX6_length_10 : decode cX6_length 10 = .ok (.iload_n 2, 1) := by decide +kernel
theorem dX6_length_11 : decode cX6_length 11 = .ok (.invokestatic 108, 3) := by decide +kernel
theorem dX6_length_14 : decode cX6_length 14 = .ok (.ifCond .ne 6, 3) := by decide +kernel
theorem dX6_length_17 : decode cX6_length 17 = .ok (.bipush (-3), 2) := by decide +kernel
theorem dX6_length_19 : decode cX6_length 19 = .ok (.ireturn, 1) := by decide +kernel
theorem dX6_length_20 : decode cX6_length 20 = .ok (.aload_n 0, 1) := by decide +kernel
theorem dX6_length_21 : decode cX6_length 21 = .ok (.getfield 17, 3) := by decide +kernel
theorem dX6_length_24 : decode cX6_length 24 = .ok (.iload_n 2, 1) := by decide +kernel
theorem dX6_length_25 : decode cX6_length 25 = .ok (.aaload, 1) := by decide +kernel
theorem dX6_length_26 : decode cX6_length 26 = .ok (.aload_n 0, 1) := by decide +kernel
theorem dX6_length_27 : decode cX6_length 27 = .ok (.getfield 11, 3) := by decide +kernel
theorem dX6_length_30 : decode cX6_length 30 = .ok (.iload_n 1, 1) := by decide +kernel
theorem dX6_length_31 : decode cX6_length 31 = .ok (.aaload, 1) := by decide +kernel
theorem dX6_length_32 : decode cX6_length 32 = .ok (.invokevirtual 111, 3) := by decide +kernel
theorem dX6_length_35 : decode cX6_length 35 = .ok (.ireturn, 1) := by decide +kernel
theorem dX6_write_0 : decode cX6_write 0 = .ok (.iload_n 1, 1) := by decide +kernel
theorem dX6_write_1 : decode cX6_write 1 = .ok (.invokestatic 42, 3) := by decide +kernel
theorem dX6_write_4 : decode cX6_write 4 = .ok (.ifCond .ne 6, 3) := by decide +kernel
theorem dX6_write_7 : decode cX6_write 7 = .ok (.bipush (-2), 2) := by decide +kernel
theorem dX6_write_9 : decode cX6_write 9 = .ok (.ireturn, 1) := by decide +kernel
theorem dX6_write_10 : decode cX6_write 10 = .ok (.iload_n 2, 1) := by decide +kernel
theorem dX6_write_11 : decode cX6_write 11 = .ok (.invokestatic 108, 3) := by decide +kernel
theorem dX6_write_14 : decode cX6_write 14 = .ok (.ifCond .ne 6, 3) := by decide +kernel
theorem dX6_write_17 : decode cX6_write 17 = .ok (.bipush (-3), 2) := by decide +kernel
theorem dX6_write_19 : decode cX6_write 19 = .ok (.ireturn, 1) := by decide +kernel
theorem dX6_write_20 : decode cX6_write 20 = .ok (.aload_n 0, 1) := by decide +kernel
theorem dX6_write_21 : decode cX6_write 21 = .ok (.getfield 24, 3) := by decide +kernel
theorem dX6_write_24 : decode cX6_write 24 = .ok (.iconst 0, 1) := by decide +kernel
theorem dX6_write_25 : decode cX6_write 25 = .ok (.invokevirtual 114, 3) := by decide +kernel
theorem dX6_write_28 : decode cX6_write 28 = .ok (.aload_n 0, 1) := by decide +kernel
theorem dX6_write_29 : decode cX6_write 29 = .ok (.getfield 17, 3) := by decide +kernel
theorem dX6_write_32 : decode cX6_write 32 = .ok (.iload_n 2, 1) := by decide +kernel
theorem dX6_write_33 : decode cX6_write 33 = .ok (.aaload, 1) := by decide +kernel
theorem dX6_write_34 : decode cX6_write 34 = .ok (.aload_n 0, 1) := by decide +kernel
theorem dX6_write_35 : decode cX6_write 35 = .ok (.getfield 11, 3) := by decide +kernel
theorem dX6_write_38 : decode cX6_write 38 = .ok (.iload_n 1, 1) := by decide +kernel
theorem dX6_write_39 : decode cX6_write 39 = .ok (.aaload, 1) := by decide +kernel
theorem dX6_write_40 : decode cX6_write 40 = .ok (.aload_n 0, 1) := by decide +kernel
theorem dX6_write_41 : decode cX6_write 41 = .ok (.getfield 24, 3) := by decide +kernel
theorem dX6_write_44 : decode cX6_write 44 = .ok (.invokevirtual 117, 3) := by decide +kernel
theorem dX6_write_47 : decode cX6_write 47 = .ok (.aload_n 0, 1) := by decide +kernel
theorem dX6_write_48 : decode cX6_write 48 = .ok (.getfield 24, 3) := by decide +kernel
theorem dX6_write_51 : decode cX6_write 51 = .ok (.invokevirtual 121, 3) := by decide +kernel
theorem dX6_write_54 : decode cX6_write 54 = .ok (.ireturn, 1) := by decide +kernel
theorem dX6_read_0 : decode cX6_read 0 = .ok (.iload_n 1, 1) := by decide +kernel
theorem dX6_read_1 : decode cX6_read 1 = .ok (.invokestatic 42, 3) := by decide +kernel
theorem dX6_read_4 : decode cX6_read 4 = .ok (.ifCond .ne 6, 3) := by decide +kernel
theorem dX6_read_7 : decode cX6_read 7 = .ok (.bipush (-2), 2) := by decide +kernel
theorem dX6_read_9 : decode cX6_read 9 = .ok (.ireturn, 1) := by decide +kernel
theorem dX6_read_10 : decode cX6_read 10 = .ok (.iload_n 2, 1) := by decide +kernel
theorem dX6_read_11 : decode cX6_read 11 = .ok (.invokestatic 108, 3) := by decide +kernel
theorem dX6_read_14 : decode cX6_read 14 = .ok (.ifCond .ne 6, 3) := by decide +kernel
theorem dX6_read_17 : decode cX6_read 17 = .ok (.bipush (-3), 2) := by decide +kernel
theorem dX6_read_19 : decode cX6_read 19 = .ok (.ireturn, 1) := by decide +kernel
theorem dX6_read_20 : decode cX6_read 20 = .ok (.aload_n 0, 1) := by decide +kernel
theorem dX6_read_21 : decode cX6_read 21 = .ok (.getfield 17, 3) := by decide +kernel
theorem dX6_read_24 : decode cX6_read 24 = .ok (.iload_n 2, 1) := by decide +kernel
theorem dX6_read_25 : decode cX6_read 25 = .ok (.aaload, 1) := by decide +kernel
theorem dX6_read_26 : decode cX6_read 26 = .ok (.aload_n 0, 1) := by decide +kernel
theorem dX6_read_27 : decode cX6_read 27 = .ok (.getfield 24, 3) := by decide +kernel
theorem dX6_read_30 : decode cX6_read 30 = .ok (.aload_n 0, 1) := by decide +kernel
theorem dX6_read_31 : decode cX6_read 31 = .ok (.getfield 29, 3) := by decide +kernel
theorem dX6_read_34 : decode cX6_read 34 = .ok (.invokevirtual 124, 3) := by decide +kernel
theorem dX6_read_37 : decode cX6_read 37 = .ok (.ifCond .ne 5, 3) := by decide +kernel
theorem dX6_read_40 : decode cX6_read 40 = .ok (.iconst (-1), 1) := by decide +kernel
theorem dX6_read_41 : decode cX6_read 41 = .ok (.ireturn, 1) := by decide +kernel
theorem dX6_read_42 : decode cX6_read 42 = .ok (.aload_n 0, 1) := by decide +kernel
theorem dX6_read_43 : decode cX6_read 43 = .ok (.getfield 11, 3) := by decide +kernel
theorem dX6_read_46 : decode cX6_read 46 = .ok (.iload_n 1, 1) := by decide +kernel
theorem dX6_read_47 : decode cX6_read 47 = .ok (.aaload, 1) := by decide +kernel
theorem dX6_read_48 : decode cX6_read 48 = .ok (.aload_n 0, 1) := by decide +kernel
theorem dX6_read_49 : decode cX6_read 49 = .ok (.getfield 29, 3) := by decide +kernel
theorem dX6_read_52 : decode cX6_read 52 = .ok (.invokevirtual 128, 3) := by decide +kernel
theorem dX6_read_55 : decode cX6_read 55 = .ok (.aload_n 0, 1) := by decide +kernel
theorem dX6_read_56 : decode cX6_read 56 = .ok (.getfield 29, 3) := by decide +kernel
theorem dX6_read_59 : decode cX6_read 59 = .ok (.invokevirtual 75, 3) := by decide +kernel
theorem dX6_read_62 : decode cX6_read 62 = .ok (.ireturn, 1) := by decide +kernel
theorem dX6_ask_0 : decode cX6_ask 0 = .ok (.iload_n 1, 1) := by decide +kernel
theorem dX6_ask_1 : decode cX6_ask 1 = .ok (.invokestatic 108, 3) := by decide +kernel
theorem dX6_ask_4 : decode cX6_ask 4 = .ok (.ifCond .ne 6, 3) := by decide +kernel
theorem dX6_ask_7 : decode cX6_ask 7 = .ok (.bipush (-3), 2) := by decide +kernel
theorem dX6_ask_9 : decode cX6_ask 9 = .ok (.ireturn, 1) := by decide +kernel
theorem dX6_ask_10 : decode cX6_ask 10 = .ok (.aload_n 0, 1) := by decide +kernel
theorem dX6_ask_11 : decode cX6_ask 11 = .ok (.getfield 17, 3) := by decide +kernel
theorem dX6_ask_14 : decode cX6_ask 14 = .ok (.iload_n 1, 1) := by decide +kernel
theorem dX6_ask_15 : decode cX6_ask 15 = .ok (.aaload, 1) := by decide +kernel
theorem dX6_ask_16 : decode cX6_ask 16 = .ok (.aload_n 0, 1) := by decide +kernel
theorem dX6_ask_17 : decode cX6_ask 17 = .ok (.getfield 24, 3) := by decide +kernel
theorem dX6_ask_20 : decode cX6_ask 20 = .ok (.aload_n 0, 1) := by decide +kernel
theorem dX6_ask_21 : decode cX6_ask 21 = .ok (.getfield 29, 3) := by decide +kernel
theorem dX6_ask_24 : decode cX6_ask 24 = .ok (.invokevirtual 124, 3) := by decide +kernel
theorem dX6_ask_27 : decode cX6_ask 27 = .ok (.ifCond .ne 5, 3) := by decide +kernel
theorem dX6_ask_30 : decode cX6_ask 30 = .ok (.iconst (-1), 1) := by decide +kernel
theorem dX6_ask_31 : decode cX6_ask 31 = .ok (.ireturn, 1) := by decide +kernel
theorem dX6_ask_32 : decode cX6_ask 32 = .ok (.aload_n 0, 1) := by decide +kernel
theorem dX6_ask_33 : decode cX6_ask 33 = .ok (.getfield 29, 3) := by decide +kernel
theorem dX6_ask_36 : decode cX6_ask 36 = .ok (.iload_n 2, 1) := by decide +kernel
theorem dX6_ask_37 : decode cX6_ask 37 = .ok (.invokevirtual 86, 3) := by decide +kernel
theorem dX6_ask_40 : decode cX6_ask 40 = .ok (.ireturn, 1) := by decide +kernel
theorem dX6_sign_0 : decode cX6_sign 0 = .ok (.aload_n 0, 1) := by decide +kernel
theorem dX6_sign_1 : decode cX6_sign 1 = .ok (.getfield 24, 3) := by decide +kernel
theorem dX6_sign_4 : decode cX6_sign 4 = .ok (.invokevirtual 121, 3) := by decide +kernel
theorem dX6_sign_7 : decode cX6_sign 7 = .ok (.sipush 8210, 3) := by decide +kernel
theorem dX6_sign_10 : decode cX6_sign 10 = .ok (.if_icmp .lt 6, 3) := by decide +kernel
theorem dX6_sign_13 : decode cX6_sign 13 = .ok (.bipush (-4), 2) := by decide +kernel
theorem dX6_sign_15 : decode cX6_sign 15 = .ok (.ireturn, 1) := by decide +kernel
theorem dX6_sign_16 : decode cX6_sign 16 = .ok (.aload_n 0, 1) := by decide +kernel
theorem dX6_sign_17 : decode cX6_sign 17 = .ok (.getfield 24, 3) := by decide +kernel
theorem dX6_sign_20 : decode cX6_sign 20 = .ok (.iload_n 1, 1) := by decide +kernel
theorem dX6_sign_21 : decode cX6_sign 21 = .ok (.ifCond .eq 7, 3) := by decide +kernel
theorem dX6_sign_24 : decode cX6_sign 24 = .ok (.iconst 1, 1) := by decide +kernel
theorem dX6_sign_25 : decode cX6_sign 25 = .ok (.goto 4, 3) := by decide +kernel
theorem dX6_sign_28 : decode cX6_sign 28 = .ok (.iconst 0, 1) := by decide +kernel
theorem dX6_sign_29 : decode cX6_sign 29 = .ok (.iconst 1, 1) := by decide +kernel
theorem dX6_sign_30 : decode cX6_sign 30 = .ok (.invokevirtual 132, 3) := by decide +kernel
theorem dX6_sign_33 : decode cX6_sign 33 = .ok (.aload_n 0, 1) := by decide +kernel
theorem dX6_sign_34 : decode cX6_sign 34 = .ok (.getfield 24, 3) := by decide +kernel
theorem dX6_sign_37 : decode cX6_sign 37 = .ok (.invokevirtual 121, 3) := by decide +kernel
theorem dX6_sign_40 : decode cX6_sign 40 = .ok (.ireturn, 1) := by decide +kernel
theorem dX6_cut_0 : decode cX6_cut 0 = .ok (.aload_n 0, 1) := by decide +kernel
theorem dX6_cut_1 : decode cX6_cut 1 = .ok (.getfield 24, 3) := by decide +kernel
theorem dX6_cut_4 : decode cX6_cut 4 = .ok (.invokevirtual 121, 3) := by decide +kernel
theorem dX6_cut_7 : decode cX6_cut 7 = .ok (.istore_n 2, 1) := by decide +kernel
theorem dX6_cut_8 : decode cX6_cut 8 = .ok (.iload_n 1, 1) := by decide +kernel
theorem dX6_cut_9 : decode cX6_cut 9 = .ok (.ifCond .lt 8, 3) := by decide +kernel
theorem dX6_cut_12 : decode cX6_cut 12 = .ok (.iload_n 1, 1) := by decide +kernel
theorem dX6_cut_13 : decode cX6_cut 13 = .ok (.iload_n 2, 1) := by decide +kernel
theorem dX6_cut_14 : decode cX6_cut 14 = .ok (.if_icmp .le 6, 3) := by decide +kernel
theorem dX6_cut_17 : decode cX6_cut 17 = .ok (.bipush (-3), 2) := by decide +kernel
theorem dX6_cut_19 : decode cX6_cut 19 = .ok (.ireturn, 1) := by decide +kernel
theorem dX6_cut_20 : decode cX6_cut 20 = .ok (.aload_n 0, 1) := by decide +kernel
theorem dX6_cut_21 : decode cX6_cut 21 = .ok (.getfield 24, 3) := by decide +kernel
theorem dX6_cut_24 : decode cX6_cut 24 = .ok (.iload_n 1, 1) := by decide +kernel
theorem dX6_cut_25 : decode cX6_cut 25 = .ok (.invokevirtual 114, 3) := by decide +kernel
theorem dX6_cut_28 : decode cX6_cut 28 = .ok (.iload_n 2, 1) := by decide +kernel
theorem dX6_cut_29 : decode cX6_cut 29 = .ok (.iload_n 1, 1) := by decide +kernel
theorem dX6_cut_30 : decode cX6_cut 30 = .ok (.isub, 1) := by decide +kernel
theorem dX6_cut_31 : decode cX6_cut 31 = .ok (.ireturn, 1) := by decide +kernel
theorem dX6_flip_0 : decode cX6_flip 0 = .ok (.aload_n 0, 1) := by decide +kernel
theorem dX6_flip_1 : decode cX6_flip 1 = .ok (.getfield 24, 3) := by decide +kernel
theorem dX6_flip_4 : decode cX6_flip 4 = .ok (.iload_n 1, 1) := by decide +kernel
theorem dX6_flip_5 : decode cX6_flip 5 = .ok (.invokevirtual 135, 3) := by decide +kernel
theorem dX6_flip_8 : decode cX6_flip 8 = .ok (.ifCond .ne 5, 3) := by decide +kernel
theorem dX6_flip_11 : decode cX6_flip 11 = .ok (.iconst (-1), 1) := by decide +kernel
theorem dX6_flip_12 : decode cX6_flip 12 = .ok (.ireturn, 1) := by decide +kernel
theorem dX6_flip_13 : decode cX6_flip 13 = .ok (.aload_n 0, 1) := by decide +kernel
theorem dX6_flip_14 : decode cX6_flip 14 = .ok (.getfield 24, 3) := by decide +kernel
theorem dX6_flip_17 : decode cX6_flip 17 = .ok (.iload_n 1, 1) := by decide +kernel
theorem dX6_flip_18 : decode cX6_flip 18 = .ok (.invokevirtual 138, 3) := by decide +kernel
theorem dX6_flip_21 : decode cX6_flip 21 = .ok (.aload_n 0, 1) := by decide +kernel
theorem dX6_flip_22 : decode cX6_flip 22 = .ok (.getfield 24, 3) := by decide +kernel
theorem dX6_flip_25 : decode cX6_flip 25 = .ok (.iload_n 1, 1) := by decide +kernel
theorem dX6_flip_26 : decode cX6_flip 26 = .ok (.invokevirtual 141, 3) := by decide +kernel
theorem dX6_flip_29 : decode cX6_flip 29 = .ok (.ireturn, 1) := by decide +kernel
theorem dX6_bit_0 : decode cX6_bit 0 = .ok (.aload_n 0, 1) := by decide +kernel
theorem dX6_bit_1 : decode cX6_bit 1 = .ok (.getfield 24, 3) := by decide +kernel
theorem dX6_bit_4 : decode cX6_bit 4 = .ok (.iload_n 1, 1) := by decide +kernel
theorem dX6_bit_5 : decode cX6_bit 5 = .ok (.invokevirtual 135, 3) := by decide +kernel
theorem dX6_bit_8 : decode cX6_bit 8 = .ok (.ifCond .eq 14, 3) := by decide +kernel
theorem dX6_bit_11 : decode cX6_bit 11 = .ok (.aload_n 0, 1) := by decide +kernel
theorem dX6_bit_12 : decode cX6_bit 12 = .ok (.getfield 24, 3) := by decide +kernel
theorem dX6_bit_15 : decode cX6_bit 15 = .ok (.iload_n 1, 1) := by decide +kernel
theorem dX6_bit_16 : decode cX6_bit 16 = .ok (.invokevirtual 141, 3) := by decide +kernel
theorem dX6_bit_19 : decode cX6_bit 19 = .ok (.goto 4, 3) := by decide +kernel
theorem dX6_bit_22 : decode cX6_bit 22 = .ok (.iconst (-1), 1) := by decide +kernel
theorem dX6_bit_23 : decode cX6_bit 23 = .ok (.ireturn, 1) := by decide +kernel
theorem dX6_size_0 : decode cX6_size 0 = .ok (.aload_n 0, 1) := by decide +kernel
theorem dX6_size_1 : decode cX6_size 1 = .ok (.getfield 24, 3) := by decide +kernel
theorem dX6_size_4 : decode cX6_size 4 = .ok (.invokevirtual 121, 3) := by decide +kernel
theorem dX6_size_7 : decode cX6_size 7 = .ok (.ireturn, 1) := by decide +kernel
theorem dX6_isSet_0 : decode cX6_isSet 0 = .ok (.iload_n 0, 1) := by decide +kernel
theorem dX6_isSet_1 : decode cX6_isSet 1 = .ok (.ifCond .lt 13, 3) := by decide +kernel
theorem dX6_isSet_4 : decode cX6_isSet 4 = .ok (.iload_n 0, 1) := by decide +kernel
theorem dX6_isSet_5 : decode cX6_isSet 5 = .ok (.bipush 8, 2) := by decide +kernel
theorem dX6_isSet_7 : decode cX6_isSet 7 = .ok (.if_icmp .ge 7, 3) := by decide +kernel
theorem dX6_isSet_10 : decode cX6_isSet 10 = .ok (.iconst 1, 1) := by decide +kernel
theorem dX6_isSet_11 : decode cX6_isSet 11 = .ok (.goto 4, 3) := by decide +kernel
theorem dX6_isSet_14 : decode cX6_isSet 14 = .ok (.iconst 0, 1) := by decide +kernel
theorem dX6_isSet_15 : decode cX6_isSet 15 = .ok (.ireturn, 1) := by decide +kernel
theorem dX6_isNumber_0 : decode cX6_isNumber 0 = .ok (.iload_n 0, 1) := by decide +kernel
theorem dX6_isNumber_1 : decode cX6_isNumber 1 = .ok (.ifCond .lt 14, 3) := by decide +kernel
theorem dX6_isNumber_4 : decode cX6_isNumber 4 = .ok (.iload_n 0, 1) := by decide +kernel
theorem dX6_isNumber_5 : decode cX6_isNumber 5 = .ok (.sipush 4096, 3) := by decide +kernel
theorem dX6_isNumber_8 : decode cX6_isNumber 8 = .ok (.if_icmp .ge 7, 3) := by decide +kernel
theorem dX6_isNumber_11 : decode cX6_isNumber 11 = .ok (.iconst 1, 1) := by decide +kernel
theorem dX6_isNumber_12 : decode cX6_isNumber 12 = .ok (.goto 4, 3) := by decide +kernel
theorem dX6_isNumber_15 : decode cX6_isNumber 15 = .ok (.iconst 0, 1) := by decide +kernel
theorem dX6_isNumber_16 : decode cX6_isNumber 16 = .ok (.ireturn, 1) := by decide +kernel
theorem dX6_isBorder_0 : decode cX6_isBorder 0 = .ok (.iload_n 0, 1) := by decide +kernel
theorem dX6_isBorder_1 : decode cX6_isBorder 1 = .ok (.ifCond .lt 14, 3) := by decide +kernel
theorem dX6_isBorder_4 : decode cX6_isBorder 4 = .ok (.iload_n 0, 1) := by decide +kernel
theorem dX6_isBorder_5 : decode cX6_isBorder 5 = .ok (.sipush 4096, 3) := by decide +kernel
theorem dX6_isBorder_8 : decode cX6_isBorder 8 = .ok (.if_icmp .gt 7, 3) := by decide +kernel
theorem dX6_isBorder_11 : decode cX6_isBorder 11 = .ok (.iconst 1, 1) := by decide +kernel
theorem dX6_isBorder_12 : decode cX6_isBorder 12 = .ok (.goto 4, 3) := by decide +kernel
theorem dX6_isBorder_15 : decode cX6_isBorder 15 = .ok (.iconst 0, 1) := by decide +kernel
theorem dX6_isBorder_16 : decode cX6_isBorder 16 = .ok (.ireturn, 1) := by decide +kernel
theorem dX6_isSpan_0 : decode cX6_isSpan 0 = .ok (.iload_n 0, 1) := by decide +kernel
theorem dX6_isSpan_1 : decode cX6_isSpan 1 = .ok (.ifCond .lt 19, 3) := by decide +kernel
theorem dX6_isSpan_4 : decode cX6_isSpan 4 = .ok (.iload_n 0, 1) := by decide +kernel
theorem dX6_isSpan_5 : decode cX6_isSpan 5 = .ok (.iload_n 1, 1) := by decide +kernel
theorem dX6_isSpan_6 : decode cX6_isSpan 6 = .ok (.if_icmp .gt 14, 3) := by decide +kernel
theorem dX6_isSpan_9 : decode cX6_isSpan 9 = .ok (.iload_n 1, 1) := by decide +kernel
theorem dX6_isSpan_10 : decode cX6_isSpan 10 = .ok (.sipush 4096, 3) := by decide +kernel
theorem dX6_isSpan_13 : decode cX6_isSpan 13 = .ok (.if_icmp .ge 7, 3) := by decide +kernel
theorem dX6_isSpan_16 : decode cX6_isSpan 16 = .ok (.iconst 1, 1) := by decide +kernel
theorem dX6_isSpan_17 : decode cX6_isSpan 17 = .ok (.goto 4, 3) := by decide +kernel
theorem dX6_isSpan_20 : decode cX6_isSpan 20 = .ok (.iconst 0, 1) := by decide +kernel
theorem dX6_isSpan_21 : decode cX6_isSpan 21 = .ok (.ireturn, 1) := by decide +kernel
theorem dX6_isKind_0 : decode cX6_isKind 0 = .ok (.iload_n 0, 1) := by decide +kernel
theorem dX6_isKind_1 : decode cX6_isKind 1 = .ok (.ifCond .lt 12, 3) := by decide +kernel
theorem dX6_isKind_4 : decode cX6_isKind 4 = .ok (.iload_n 0, 1) := by decide +kernel
theorem dX6_isKind_5 : decode cX6_isKind 5 = .ok (.iconst 3, 1) := by decide +kernel
theorem dX6_isKind_6 : decode cX6_isKind 6 = .ok (.if_icmp .ge 7, 3) := by decide +kernel
theorem dX6_isKind_9 : decode cX6_isKind 9 = .ok (.iconst 1, 1) := by decide +kernel
theorem dX6_isKind_10 : decode cX6_isKind 10 = .ok (.goto 4, 3) := by decide +kernel
theorem dX6_isKind_13 : decode cX6_isKind 13 = .ok (.iconst 0, 1) := by decide +kernel
theorem dX6_isKind_14 : decode cX6_isKind 14 = .ok (.ireturn, 1) := by decide +kernel
theorem dX7_init_0 : decode cX7_init 0 = .ok (.aload_n 0, 1) := by decide +kernel
theorem dX7_init_1 : decode cX7_init 1 = .ok (.invokespecial 1, 3) := by decide +kernel
theorem dX7_init_4 : decode cX7_init 4 = .ok (.aload_n 0, 1) := by decide +kernel
theorem dX7_init_5 : decode cX7_init 5 = .ok (.ldc 7, 2) := by decide +kernel
theorem dX7_init_7 : decode cX7_init 7 = .ok (.newarray .boolean, 2) := by decide +kernel
theorem dX7_init_9 : decode cX7_init 9 = .ok (.putfield 8, 3) := by decide +kernel
theorem dX7_init_12 : decode cX7_init 12 = .ok (.aload_n 0, 1) := by decide +kernel
theorem dX7_init_13 : decode cX7_init 13 = .ok (.sipush 8210, 3) := by decide +kernel
theorem dX7_init_16 : decode cX7_init 16 = .ok (.newarray .boolean, 2) := by decide +kernel
theorem dX7_init_18 : decode cX7_init 18 = .ok (.putfield 14, 3) := by decide +kernel
theorem dX7_init_21 : decode cX7_init 21 = .ok (.return_, 1) := by decide +kernel
theorem dX7_within_0 : decode cX7_within 0 = .ok (.iload_n 0, 1) := by decide +kernel
theorem dX7_within_1 : decode cX7_within 1 = .ok (.iload_n 1, 1) := by decide +kernel
theorem dX7_within_2 : decode cX7_within 2 = .ok (.if_icmp .lt 12, 3) := by decide +kernel
theorem dX7_within_5 : decode cX7_within 5 = .ok (.iload_n 0, 1) := by decide +kernel
theorem dX7_within_6 : decode cX7_within 6 = .ok (.iload_n 2, 1) := by decide +kernel
theorem dX7_within_7 : decode cX7_within 7 = .ok (.if_icmp .gt 7, 3) := by decide +kernel
theorem dX7_within_10 : decode cX7_within 10 = .ok (.iconst 1, 1) := by decide +kernel
theorem dX7_within_11 : decode cX7_within 11 = .ok (.goto 4, 3) := by decide +kernel
theorem dX7_within_14 : decode cX7_within 14 = .ok (.iconst 0, 1) := by decide +kernel
theorem dX7_within_15 : decode cX7_within 15 = .ok (.ireturn, 1) := by decide +kernel
theorem dX7_isSet_0 : decode cX7_isSet 0 = .ok (.iload_n 0, 1) := by decide +kernel
theorem dX7_isSet_1 : decode cX7_isSet 1 = .ok (.iconst 0, 1) := by decide +kernel
theorem dX7_isSet_2 : decode cX7_isSet 2 = .ok (.bipush 7, 2) := by decide +kernel
theorem dX7_isSet_4 : decode cX7_isSet 4 = .ok (.invokestatic 17, 3) := by decide +kernel
theorem dX7_isSet_7 : decode cX7_isSet 7 = .ok (.ireturn, 1) := by decide +kernel
theorem dX7_isNumber_0 : decode cX7_isNumber 0 = .ok (.iload_n 0, 1) := by decide +kernel
theorem dX7_isNumber_1 : decode cX7_isNumber 1 = .ok (.iconst 0, 1) := by decide +kernel
theorem dX7_isNumber_2 : decode cX7_isNumber 2 = .ok (.sipush 4095, 3) := by decide +kernel
theorem dX7_isNumber_5 : decode cX7_isNumber 5 = .ok (.invokestatic 17, 3) := by decide +kernel
theorem dX7_isNumber_8 : decode cX7_isNumber 8 = .ok (.ireturn, 1) := by decide +kernel
theorem dX7_is_0 : decode cX7_is 0 = .ok (.aload_n 0, 1) := by decide +kernel
theorem dX7_is_1 : decode cX7_is 1 = .ok (.getfield 8, 3) := by decide +kernel
theorem dX7_is_4 : decode cX7_is 4 = .ok (.sipush 4096, 3) := by decide +kernel
theorem dX7_is_7 : decode cX7_is 7 = .ok (.iload_n 1, 1) := by decide +kernel
theorem dX7_is_8 : decode cX7_is 8 = .ok (.imul, 1) := by decide +kernel
theorem dX7_is_9 : decode cX7_is 9 = .ok (.iload_n 2, 1) := by decide +kernel
theorem dX7_is_10 : decode cX7_is 10 = .ok (.iadd, 1) := by decide +kernel
theorem dX7_is_11 : decode cX7_is 11 = .ok (.baload, 1) := by decide +kernel
theorem dX7_is_12 : decode cX7_is 12 = .ok (.ireturn, 1) := by decide +kernel
theorem dX7_put_0 : decode cX7_put 0 = .ok (.iload_n 1, 1) := by decide +kernel
theorem dX7_put_1 : decode cX7_put 1 = .ok (.invokestatic 21, 3) := by decide +kernel
theorem dX7_put_4 : decode cX7_put 4 = .ok (.ifCond .ne 6, 3) := by decide +kernel
theorem dX7_put_7 : decode cX7_put 7 = .ok (.bipush (-2), 2) := by decide +kernel
theorem dX7_put_9 : decode cX7_put 9 = .ok (.ireturn, 1) := by decide +kernel
theorem dX7_put_10 : decode cX7_put 10 = .ok (.iload_n 2, 1) := by decide +kernel
theorem dX7_put_11 : decode cX7_put 11 = .ok (.invokestatic 25, 3) := by decide +kernel
theorem dX7_put_14 : decode cX7_put 14 = .ok (.ifCond .ne 6, 3) := by decide +kernel
theorem dX7_put_17 : decode cX7_put 17 = .ok (.bipush (-3), 2) := by decide +kernel
theorem dX7_put_19 : decode cX7_put 19 = .ok (.ireturn, 1) := by decide +kernel
theorem dX7_put_20 : decode cX7_put 20 = .ok (.aload_n 0, 1) := by decide +kernel
theorem dX7_put_21 : decode cX7_put 21 = .ok (.iload_n 1, 1) := by decide +kernel
theorem dX7_put_22 : decode cX7_put 22 = .ok (.iload_n 2, 1) := by decide +kernel
theorem dX7_put_23 : decode cX7_put 23 = .ok (.invokevirtual 28, 3) := by decide +kernel
theorem dX7_put_26 : decode cX7_put 26 = .ok (.istore_n 3, 1) := by decide +kernel
theorem dX7_put_27 : decode cX7_put 27 = .ok (.aload_n 0, 1) := by decide +kernel
theorem dX7_put_28 : decode cX7_put 28 = .ok (.getfield 8, 3) := by decide +kernel
theorem dX7_put_31 : decode cX7_put 31 = .ok (.sipush 4096, 3) := by decide +kernel
theorem dX7_put_34 : decode cX7_put 34 = .ok (.iload_n 1, 1) := by decide +kernel
theorem dX7_put_35 : decode cX7_put 35 = .ok (.imul, 1) := by decide +kernel
theorem dX7_put_36 : decode cX7_put 36 = .ok (.iload_n 2, 1) := by decide +kernel
theorem dX7_put_37 : decode cX7_put 37 = .ok (.iadd, 1) := by decide +kernel
theorem dX7_put_38 : decode cX7_put 38 = .ok (.iconst 1, 1) := by decide +kernel
theorem dX7_put_39 : decode cX7_put 39 = .ok (.bastore, 1) := by decide +kernel
theorem dX7_put_40 : decode cX7_put 40 = .ok (.iload_n 3, 1) := by decide +kernel
theorem dX7_put_41 : decode cX7_put 41 = .ok (.ifCond .eq 7, 3) := by decide +kernel
theorem dX7_put_44 : decode cX7_put 44 = .ok (.iconst 0, 1) := by decide +kernel
theorem dX7_put_45 : decode cX7_put 45 = .ok (.goto 4, 3) := by decide +kernel
theorem dX7_put_48 : decode cX7_put 48 = .ok (.iconst 1, 1) := by decide +kernel
theorem dX7_put_49 : decode cX7_put 49 = .ok (.ireturn, 1) := by decide +kernel
theorem dX7_change_0 : decode cX7_change 0 = .ok (.iload_n 1, 1) := by decide +kernel
theorem dX7_change_1 : decode cX7_change 1 = .ok (.invokestatic 21, 3) := by decide +kernel
theorem dX7_change_4 : decode cX7_change 4 = .ok (.ifCond .ne 6, 3) := by decide +kernel
theorem dX7_change_7 : decode cX7_change 7 = .ok (.bipush (-2), 2) := by decide +kernel
theorem dX7_change_9 : decode cX7_change 9 = .ok (.ireturn, 1) := by decide +kernel
theorem dX7_change_10 : decode cX7_change 10 = .ok (.iload_n 2, 1) := by decide +kernel
theorem dX7_change_11 : decode cX7_change 11 = .ok (.invokestatic 25, 3) := by decide +kernel
theorem dX7_change_14 : decode cX7_change 14 = .ok (.ifCond .eq 15, 3) := by decide +kernel
theorem dX7_change_17 : decode cX7_change 17 = .ok (.iload_n 3, 1) := by decide +kernel
theorem dX7_change_18 : decode cX7_change 18 = .ok (.invokestatic 25, 3) := by decide +kernel
theorem dX7_change_21 : decode cX7_change 21 = .ok (.ifCond .eq 8, 3) := by decide +kernel
theorem dX7_change_24 : decode cX7_change 24 = .ok (.iload_n 2, 1) := by decide +kernel
theorem dX7_change_25 : decode cX7_change 25 = .ok (.iload_n 3, 1) := by decide +kernel
theorem dX7_change_26 : decode cX7_change 26 = .ok (.if_icmp .le 6, 3) := by decide +kernel
theorem dX7_change_29 : decode cX7_change 29 = .ok (.bipush (-3), 2) := by decide +kernel
theorem dX7_change_31 : decode cX7_change 31 = .ok (.ireturn, 1) := by decide +kernel
theorem dX7_change_32 : decode cX7_change 32 = .ok (.iconst 0, 1) := by decide +kernel
theorem dX7_change_33 : decode cX7_change 33 = .ok (.istore 5, 2) := by decide +kernel
theorem dX7_change_35 : decode cX7_change 35 = .ok (.iload_n 2, 1) := by decide +kernel
theorem dX7_change_36 : decode cX7_change 36 = .ok (.istore 6, 2) := by decide +kernel
theorem dX7_change_38 : decode cX7_change 38 = .ok (.iload 6, 2) := by decide +kernel
theorem dX7_change_40 : decode cX7_change 40 = .ok (.iload_n 3, 1) := by decide +kernel
theorem dX7_change_41 : decode cX7_change 41 = .ok (.if_icmp .gt 46, 3) := by decide +kernel
theorem dX7_change_44 : decode cX7_change 44 = .ok (.iload 5, 2) := by decide +kernel
theorem dX7_change_46 : decode cX7_change 46 = .ok (.aload_n 0, 1) := by decide +kernel
theorem dX7_change_47 : decode cX7_change 47 = .ok (.iload_n 1, 1) := by decide +kernel
theorem dX7_change_48 : decode cX7_change 48 = .ok (.iload 6, 2) := by decide +kernel
theorem dX7_change_50 : decode cX7_change 50 = .ok (.invokevirtual 28, 3) := by decide +kernel
theorem dX7_change_53 : decode cX7_change 53 = .ok (.iload 4, 2) := by decide +kernel
theorem dX7_change_55 : decode cX7_change 55 = .ok (.if_icmp .eq 7, 3) := by decide +kernel
theorem dX7_change_58 : decode cX7_change 58 = .ok (.iconst 1, 1) := by decide +kernel
theorem dX7_change_59 : decode cX7_change 59 = .ok (.goto 4, 3) := by decide +kernel
theorem dX7_change_62 : decode cX7_change 62 = .ok (.iconst 0, 1) := by decide +kernel
theorem dX7_change_63 : decode cX7_change 63 = .ok (.iadd, 1) := by decide +kernel
theorem dX7_change_64 : decode cX7_change 64 = .ok (.istore 5, 2) := by decide +kernel
theorem dX7_change_66 : decode cX7_change 66 = .ok (.aload_n 0, 1) := by decide +kernel
theorem dX7_change_67 : decode cX7_change 67 = .ok (.getfield 8, 3) := by decide +kernel
theorem dX7_change_70 : decode cX7_change 70 = .ok (.sipush 4096, 3) := by decide +kernel
theorem dX7_change_73 : decode cX7_change 73 = .ok (.iload_n 1, 1) := by decide +kernel
theorem dX7_change_74 : decode cX7_change 74 = .ok (.imul, 1) := by decide +kernel
theorem dX7_change_75 : decode cX7_change 75 = .ok (.iload 6, 2) := by decide +kernel
theorem dX7_change_77 : decode cX7_change 77 = .ok (.iadd, 1) := by decide +kernel
theorem dX7_change_78 : decode cX7_change 78 = .ok (.iload 4, 2) := by decide +kernel
theorem dX7_change_80 : decode cX7_change 80 = .ok (.bastore, 1) := by decide +kernel
theorem dX7_change_81 : decode cX7_change 81 = .ok (.iinc 6 1, 3) := by decide +kernel
theorem dX7_change_84 : decode cX7_change 84 = .ok (.goto (-46), 3) := by decide +kernel
theorem dX7_change_87 : decode cX7_change 87 = .ok (.iload 5, 2) := by decide +kernel
theorem dX7_change_89 : decode cX7_change 89 = .ok (.ireturn, 1) := by decide +kernel
theorem dX7_fill_0 : decode cX7_fill 0 = .ok (.aload_n 0, 1) := by decide +kernel
theorem dX7_fill_1 : decode cX7_fill 1 = .ok (.iload_n 1, 1) := by decide +kernel
theorem dX7_fill_2 : decode cX7_fill 2 = .ok (.iload_n 2, 1) := by decide +kernel
theorem dX7_fill_3 : decode cX7_fill 3 = .ok (.iload_n 3, 1) := by decide +kernel
theorem dX7_fill_4 : decode cX7_fill 4 = .ok (.iconst 1, 1) := by decide +kernel
theorem dX7_fill_5 : decode cX7_fill 5 = .ok (.invokevirtual 32, 3) := by decide +kernel
theorem dX7_fill_8 : decode cX7_fill 8 = .ok (.ireturn, 1) := by decide +kernel
theorem dX7_drop_0 : decode cX7_drop 0 = .ok (.aload_n 0, 1) := by decide +kernel
theorem dX7_drop_1 : decode cX7_drop 1 = .ok (.iload_n 1, 1) := by decide +kernel
theorem dX7_drop_2 : decode cX7_drop 2 = .ok (.iload_n 2, 1) := by decide +kernel
theorem dX7_drop_3 : decode cX7_drop 3 = .ok (.iload_n 3, 1) := by decide +kernel
theorem dX7_drop_4 : decode cX7_drop 4 = .ok (.iconst 0, 1) := by decide +kernel
theorem dX7_drop_5 : decode cX7_drop 5 = .ok (.invokevirtual 32, 3) := by decide +kernel
theorem dX7_drop_8 : decode cX7_drop 8 = .ok (.ireturn, 1) := by decide +kernel
theorem dX7_join_0 : decode cX7_join 0 = .ok (.iload_n 1, 1) := by decide +kernel
theorem dX7_join_1 : decode cX7_join 1 = .ok (.invokestatic 21, 3) := by decide +kernel
theorem dX7_join_4 : decode cX7_join 4 = .ok (.ifCond .eq 17, 3) := by decide +kernel
theorem dX7_join_7 : decode cX7_join 7 = .ok (.iload_n 2, 1) := by decide +kernel
theorem dX7_join_8 : decode cX7_join 8 = .ok (.invokestatic 21, 3) := by decide +kernel
theorem dX7_join_11 : decode cX7_join 11 = .ok (.ifCond .eq 10, 3) := by decide +kernel
theorem dX7_join_14 : decode cX7_join 14 = .ok (.iload_n 3, 1) := by decide +kernel
theorem dX7_join_15 : decode cX7_join 15 = .ok (.invokestatic 21, 3) := by decide +kernel
theorem dX7_join_18 : decode cX7_join 18 = .ok (.ifCond .ne 6, 3) := by decide +kernel
theorem dX7_join_21 : decode cX7_join 21 = .ok (.bipush (-2), 2) := by decide +kernel
theorem dX7_join_23 : decode cX7_join 23 = .ok (.ireturn, 1) := by decide +kernel
theorem dX7_join_24 : decode cX7_join 24 = .ok (.iload 4, 2) := by decide +kernel
theorem dX7_join_26 : decode cX7_join 26 = .ok (.iconst 0, 1) := by decide +kernel
theorem dX7_join_27 : decode cX7_join 27 = .ok (.iconst 3, 1) := by decide +kernel
theorem dX7_join_28 : decode cX7_join 28 = .ok (.invokestatic 17, 3) := by decide +kernel
theorem dX7_join_31 : decode cX7_join 31 = .ok (.ifCond .ne 6, 3) := by decide +kernel
theorem dX7_join_34 : decode cX7_join 34 = .ok (.bipush (-3), 2) := by decide +kernel
theorem dX7_join_36 : decode cX7_join 36 = .ok (.ireturn, 1) := by decide +kernel
theorem dX7_join_37 : decode cX7_join 37 = .ok (.iconst 0, 1) := by decide +kernel
theorem dX7_join_38 : decode cX7_join 38 = .ok (.istore 5, 2) := by decide +kernel
theorem dX7_join_40 : decode cX7_join 40 = .ok (.iload 5, 2) := by decide +kernel
theorem dX7_join_42 : decode cX7_join 42 = .ok (.sipush 4096, 3) := by decide +kernel
theorem dX7_join_45 : decode cX7_join 45 = .ok (.if_icmp .ge 123, 3) := by decide +kernel
end
section
theorem dX7_join_48 : decode cX7_join 48 = .ok (.aload_n 0, 1) := by decide +kernel
theorem dX7_join_49 : decode cX7_join 49 = .ok (.iload_n 2, 1) := by decide +kernel
theorem dX7_join_50 : decode cX7_join 50 = .ok (.iload 5, 2) := by decide +kernel
theorem dX7_join_52 : decode cX7_join 52 = .ok (.invokevirtual 28, 3) := by decide +kernel
theorem dX7_join_55 : decode cX7_join 55 = .ok (.istore 6, 2) := by decide +kernel
theorem dX7_join_57 : decode cX7_join 57 = .ok (.aload_n 0, 1) := by decide +kernel
theorem dX7_join_58 : decode cX7_join 58 = .ok (.iload_n 3, 1) := by decide +kernel
theorem dX7_join_59 : decode cX7_join 59 = .ok (.iload 5, 2) := by decide +kernel
theorem dX7_join_61 : decode cX7_join 61 = .ok (.invokevirtual 28, 3) := by decide +kernel
theorem dX7_join_64 : decode cX7_join 64 = .ok (.istore 7, 2) := by decide +kernel
theorem dX7_join_66 : decode cX7_join 66 = .ok (.aload_n 0, 1) := by decide +kernel
theorem dX7_join_67 : decode cX7_join 67 = .ok (.getfield 8, 3) := by decide +kernel
theorem dX7_join_70 : decode cX7_join 70 = .ok (.sipush 4096, 3) := by decide +kernel
theorem dX7_join_73 : decode cX7_join 73 = .ok (.iload_n 1, 1) := by decide +kernel
theorem dX7_join_74 : decode cX7_join 74 = .ok (.imul, 1) := by decide +kernel
theorem dX7_join_75 : decode cX7_join 75 = .ok (.iload 5, 2) := by decide +kernel
theorem dX7_join_77 : decode cX7_join 77 = .ok (.iadd, 1) := by decide +kernel
theorem dX7_join_78 : decode cX7_join 78 = .ok (.iload 4, 2) := by decide +kernel
theorem dX7_join_80 : decode cX7_join 80 = .ok (.ifCond .ne 21, 3) := by decide +kernel
theorem dX7_join_83 : decode cX7_join 83 = .ok (.iload 6, 2) := by decide +kernel
theorem dX7_join_85 : decode cX7_join 85 = .ok (.ifCond .eq 12, 3) := by decide +kernel
theorem dX7_join_88 : decode cX7_join 88 = .ok (.iload 7, 2) := by decide +kernel
theorem dX7_join_90 : decode cX7_join 90 = .ok (.ifCond .eq 7, 3) := by decide +kernel
theorem dX7_join_93 : decode cX7_join 93 = .ok (.iconst 1, 1) := by decide +kernel
theorem dX7_join_94 : decode cX7_join 94 = .ok (.goto 67, 3) := by decide +kernel
theorem dX7_join_97 : decode cX7_join 97 = .ok (.iconst 0, 1) := by decide +kernel
theorem dX7_join_98 : decode cX7_join 98 = .ok (.goto 63, 3) := by decide +kernel
theorem dX7_join_101 : decode cX7_join 101 = .ok (.iload 4, 2) := by decide +kernel
theorem dX7_join_103 : decode cX7_join 103 = .ok (.iconst 1, 1) := by decide +kernel
theorem dX7_join_104 : decode cX7_join 104 = .ok (.if_icmp .ne 21, 3) := by decide +kernel
theorem dX7_join_107 : decode cX7_join 107 = .ok (.iload 6, 2) := by decide +kernel
theorem dX7_join_109 : decode cX7_join 109 = .ok (.ifCond .ne 8, 3) := by decide +kernel
theorem dX7_join_112 : decode cX7_join 112 = .ok (.iload 7, 2) := by decide +kernel
theorem dX7_join_114 : decode cX7_join 114 = .ok (.ifCond .eq 7, 3) := by decide +kernel
theorem dX7_join_117 : decode cX7_join 117 = .ok (.iconst 1, 1) := by decide +kernel
theorem dX7_join_118 : decode cX7_join 118 = .ok (.goto 43, 3) := by decide +kernel
theorem dX7_join_121 : decode cX7_join 121 = .ok (.iconst 0, 1) := by decide +kernel
theorem dX7_join_122 : decode cX7_join 122 = .ok (.goto 39, 3) := by decide +kernel
theorem dX7_join_125 : decode cX7_join 125 = .ok (.iload 4, 2) := by decide +kernel
theorem dX7_join_127 : decode cX7_join 127 = .ok (.iconst 2, 1) := by decide +kernel
theorem dX7_join_128 : decode cX7_join 128 = .ok (.if_icmp .ne 21, 3) := by decide +kernel
theorem dX7_join_131 : decode cX7_join 131 = .ok (.iload 6, 2) := by decide +kernel
theorem dX7_join_133 : decode cX7_join 133 = .ok (.ifCond .eq 12, 3) := by decide +kernel
theorem dX7_join_136 : decode cX7_join 136 = .ok (.iload 7, 2) := by decide +kernel
theorem dX7_join_138 : decode cX7_join 138 = .ok (.ifCond .ne 7, 3) := by decide +kernel
theorem dX7_join_141 : decode cX7_join 141 = .ok (.iconst 1, 1) := by decide +kernel
theorem dX7_join_142 : decode cX7_join 142 = .ok (.goto 19, 3) := by decide +kernel
theorem dX7_join_145 : decode cX7_join 145 = .ok (.iconst 0, 1) := by decide +kernel
theorem dX7_join_146 : decode cX7_join 146 = .ok (.goto 15, 3) := by decide +kernel
theorem dX7_join_149 : decode cX7_join 149 = .ok (.iload 6, 2) := by decide +kernel
theorem dX7_join_151 : decode cX7_join 151 = .ok (.iload 7, 2) := by decide +kernel
theorem dX7_join_153 : decode cX7_join 153 = .ok (.if_icmp .eq 7, 3) := by decide +kernel
theorem dX7_join_156 : decode cX7_join 156 = .ok (.iconst 1, 1) := by decide +kernel
theorem dX7_join_157 : decode cX7_join 157 = .ok (.goto 4, 3) := by decide +kernel
theorem dX7_join_160 : decode cX7_join 160 = .ok (.iconst 0, 1) := by decide +kernel
theorem dX7_join_161 : decode cX7_join 161 = .ok (.bastore, 1) := by decide +kernel
theorem dX7_join_162 : decode cX7_join 162 = .ok (.iinc 5 1, 3) := by decide +kernel
theorem dX7_join_165 : decode cX7_join 165 = .ok (.goto (-125), 3) := by decide +kernel
theorem dX7_join_168 : decode cX7_join 168 = .ok (.aload_n 0, 1) := by decide +kernel
theorem dX7_join_169 : decode cX7_join 169 = .ok (.iload_n 1, 1) := by decide +kernel
theorem dX7_join_170 : decode cX7_join 170 = .ok (.iconst 0, 1) := by decide +kernel
theorem dX7_join_171 : decode cX7_join 171 = .ok (.sipush 4096, 3) := by decide +kernel
theorem dX7_join_174 : decode cX7_join 174 = .ok (.invokevirtual 36, 3) := by decide +kernel
theorem dX7_join_177 : decode cX7_join 177 = .ok (.ireturn, 1) := by decide +kernel
theorem dX7_many_0 : decode cX7_many 0 = .ok (.iconst 0, 1) := by decide +kernel
theorem dX7_many_1 : decode cX7_many 1 = .ok (.istore 4, 2) := by decide +kernel
theorem dX7_many_3 : decode cX7_many 3 = .ok (.iload_n 2, 1) := by decide +kernel
theorem dX7_many_4 : decode cX7_many 4 = .ok (.istore 5, 2) := by decide +kernel
theorem dX7_many_6 : decode cX7_many 6 = .ok (.iload 5, 2) := by decide +kernel
theorem dX7_many_8 : decode cX7_many 8 = .ok (.iload_n 3, 1) := by decide +kernel
theorem dX7_many_9 : decode cX7_many 9 = .ok (.if_icmp .ge 29, 3) := by decide +kernel
theorem dX7_many_12 : decode cX7_many 12 = .ok (.iload 4, 2) := by decide +kernel
theorem dX7_many_14 : decode cX7_many 14 = .ok (.aload_n 0, 1) := by decide +kernel
theorem dX7_many_15 : decode cX7_many 15 = .ok (.iload_n 1, 1) := by decide +kernel
theorem dX7_many_16 : decode cX7_many 16 = .ok (.iload 5, 2) := by decide +kernel
theorem dX7_many_18 : decode cX7_many 18 = .ok (.invokevirtual 28, 3) := by decide +kernel
theorem dX7_many_21 : decode cX7_many 21 = .ok (.ifCond .eq 7, 3) := by decide +kernel
theorem dX7_many_24 : decode cX7_many 24 = .ok (.iconst 1, 1) := by decide +kernel
theorem dX7_many_25 : decode cX7_many 25 = .ok (.goto 4, 3) := by decide +kernel
theorem dX7_many_28 : decode cX7_many 28 = .ok (.iconst 0, 1) := by decide +kernel
theorem dX7_many_29 : decode cX7_many 29 = .ok (.iadd, 1) := by decide +kernel
theorem dX7_many_30 : decode cX7_many 30 = .ok (.istore 4, 2) := by decide +kernel
theorem dX7_many_32 : decode cX7_many 32 = .ok (.iinc 5 1, 3) := by decide +kernel
theorem dX7_many_35 : decode cX7_many 35 = .ok (.goto (-29), 3) := by decide +kernel
theorem dX7_many_38 : decode cX7_many 38 = .ok (.iload 4, 2) := by decide +kernel
theorem dX7_many_40 : decode cX7_many 40 = .ok (.ireturn, 1) := by decide +kernel
theorem dX7_has_0 : decode cX7_has 0 = .ok (.iload_n 1, 1) := by decide +kernel
theorem dX7_has_1 : decode cX7_has 1 = .ok (.invokestatic 21, 3) := by decide +kernel
theorem dX7_has_4 : decode cX7_has 4 = .ok (.ifCond .ne 6, 3) := by decide +kernel
theorem dX7_has_7 : decode cX7_has 7 = .ok (.bipush (-2), 2) := by decide +kernel
theorem dX7_has_9 : decode cX7_has 9 = .ok (.ireturn, 1) := by decide +kernel
theorem dX7_has_10 : decode cX7_has 10 = .ok (.iload_n 2, 1) := by decide +kernel
theorem dX7_has_11 : decode cX7_has 11 = .ok (.invokestatic 25, 3) := by decide +kernel
theorem dX7_has_14 : decode cX7_has 14 = .ok (.ifCond .ne 8, 3) := by decide +kernel
theorem dX7_has_17 : decode cX7_has 17 = .ok (.bipush (-3), 2) := by decide +kernel
theorem dX7_has_19 : decode cX7_has 19 = .ok (.goto 17, 3) := by decide +kernel
theorem dX7_has_22 : decode cX7_has 22 = .ok (.aload_n 0, 1) := by decide +kernel
theorem dX7_has_23 : decode cX7_has 23 = .ok (.iload_n 1, 1) := by decide +kernel
theorem dX7_has_24 : decode cX7_has 24 = .ok (.iload_n 2, 1) := by decide +kernel
theorem dX7_has_25 : decode cX7_has 25 = .ok (.invokevirtual 28, 3) := by decide +kernel
theorem dX7_has_28 : decode cX7_has 28 = .ok (.ifCond .eq 7, 3) := by decide +kernel
theorem dX7_has_31 : decode cX7_has 31 = .ok (.iconst 1, 1) := by decide +kernel
theorem dX7_has_32 : decode cX7_has 32 = .ok (.goto 4, 3) := by decide +kernel
theorem dX7_has_35 : decode cX7_has 35 = .ok (.iconst 0, 1) := by decide +kernel
theorem dX7_has_36 : decode cX7_has 36 = .ok (.ireturn, 1) := by decide +kernel
theorem dX7_count_0 : decode cX7_count 0 = .ok (.iload_n 1, 1) := by decide +kernel
theorem dX7_count_1 : decode cX7_count 1 = .ok (.invokestatic 21, 3) := by decide +kernel
theorem dX7_count_4 : decode cX7_count 4 = .ok (.ifCond .eq 15, 3) := by decide +kernel
theorem dX7_count_7 : decode cX7_count 7 = .ok (.aload_n 0, 1) := by decide +kernel
theorem dX7_count_8 : decode cX7_count 8 = .ok (.iload_n 1, 1) := by decide +kernel
theorem dX7_count_9 : decode cX7_count 9 = .ok (.iconst 0, 1) := by decide +kernel
theorem dX7_count_10 : decode cX7_count 10 = .ok (.sipush 4096, 3) := by decide +kernel
theorem dX7_count_13 : decode cX7_count 13 = .ok (.invokevirtual 36, 3) := by decide +kernel
theorem dX7_count_16 : decode cX7_count 16 = .ok (.goto 5, 3) := by decide +kernel
theorem dX7_count_19 : decode cX7_count 19 = .ok (.bipush (-2), 2) := by decide +kernel
theorem dX7_count_21 : decode cX7_count 21 = .ok (.ireturn, 1) := by decide +kernel
theorem dX7_rank_0 : decode cX7_rank 0 = .ok (.iload_n 1, 1) := by decide +kernel
theorem dX7_rank_1 : decode cX7_rank 1 = .ok (.invokestatic 21, 3) := by decide +kernel
theorem dX7_rank_4 : decode cX7_rank 4 = .ok (.ifCond .ne 6, 3) := by decide +kernel
theorem dX7_rank_7 : decode cX7_rank 7 = .ok (.bipush (-2), 2) := by decide +kernel
theorem dX7_rank_9 : decode cX7_rank 9 = .ok (.ireturn, 1) := by decide +kernel
theorem dX7_rank_10 : decode cX7_rank 10 = .ok (.iload_n 2, 1) := by decide +kernel
theorem dX7_rank_11 : decode cX7_rank 11 = .ok (.iconst 0, 1) := by decide +kernel
theorem dX7_rank_12 : decode cX7_rank 12 = .ok (.sipush 4096, 3) := by decide +kernel
theorem dX7_rank_15 : decode cX7_rank 15 = .ok (.invokestatic 17, 3) := by decide +kernel
theorem dX7_rank_18 : decode cX7_rank 18 = .ok (.ifCond .eq 13, 3) := by decide +kernel
theorem dX7_rank_21 : decode cX7_rank 21 = .ok (.aload_n 0, 1) := by decide +kernel
theorem dX7_rank_22 : decode cX7_rank 22 = .ok (.iload_n 1, 1) := by decide +kernel
theorem dX7_rank_23 : decode cX7_rank 23 = .ok (.iconst 0, 1) := by decide +kernel
theorem dX7_rank_24 : decode cX7_rank 24 = .ok (.iload_n 2, 1) := by decide +kernel
theorem dX7_rank_25 : decode cX7_rank 25 = .ok (.invokevirtual 36, 3) := by decide +kernel
theorem dX7_rank_28 : decode cX7_rank 28 = .ok (.goto 5, 3) := by decide +kernel
theorem dX7_rank_31 : decode cX7_rank 31 = .ok (.bipush (-3), 2) := by decide +kernel
theorem dX7_rank_33 : decode cX7_rank 33 = .ok (.ireturn, 1) := by decide +kernel
theorem dX7_nth_0 : decode cX7_nth 0 = .ok (.iload_n 2, 1) := by decide +kernel
theorem dX7_nth_1 : decode cX7_nth 1 = .ok (.istore_n 3, 1) := by decide +kernel
theorem dX7_nth_2 : decode cX7_nth 2 = .ok (.iconst 0, 1) := by decide +kernel
theorem dX7_nth_3 : decode cX7_nth 3 = .ok (.istore 4, 2) := by decide +kernel
theorem dX7_nth_5 : decode cX7_nth 5 = .ok (.iload 4, 2) := by decide +kernel
theorem dX7_nth_7 : decode cX7_nth 7 = .ok (.sipush 4096, 3) := by decide +kernel
theorem dX7_nth_10 : decode cX7_nth 10 = .ok (.if_icmp .ge 33, 3) := by decide +kernel
theorem dX7_nth_13 : decode cX7_nth 13 = .ok (.iload_n 2, 1) := by decide +kernel
theorem dX7_nth_14 : decode cX7_nth 14 = .ok (.ifCond .lt 29, 3) := by decide +kernel
theorem dX7_nth_17 : decode cX7_nth 17 = .ok (.aload_n 0, 1) := by decide +kernel
theorem dX7_nth_18 : decode cX7_nth 18 = .ok (.iload_n 1, 1) := by decide +kernel
theorem dX7_nth_19 : decode cX7_nth 19 = .ok (.iload 4, 2) := by decide +kernel
theorem dX7_nth_21 : decode cX7_nth 21 = .ok (.invokevirtual 28, 3) := by decide +kernel
theorem dX7_nth_24 : decode cX7_nth 24 = .ok (.ifCond .eq 13, 3) := by decide +kernel
theorem dX7_nth_27 : decode cX7_nth 27 = .ok (.iload_n 3, 1) := by decide +kernel
theorem dX7_nth_28 : decode cX7_nth 28 = .ok (.ifCond .ne 6, 3) := by decide +kernel
theorem dX7_nth_31 : decode cX7_nth 31 = .ok (.iload 4, 2) := by decide +kernel
theorem dX7_nth_33 : decode cX7_nth 33 = .ok (.ireturn, 1) := by decide +kernel
theorem dX7_nth_34 : decode cX7_nth 34 = .ok (.iinc 3 (-1), 3) := by decide +kernel
theorem dX7_nth_37 : decode cX7_nth 37 = .ok (.iinc 4 1, 3) := by decide +kernel
theorem dX7_nth_40 : decode cX7_nth 40 = .ok (.goto (-35), 3) := by decide +kernel
theorem dX7_nth_43 : decode cX7_nth 43 = .ok (.iconst (-1), 1) := by decide +kernel
theorem dX7_nth_44 : decode cX7_nth 44 = .ok (.ireturn, 1) := by decide +kernel
theorem dX7_select_0 : decode cX7_select 0 = .ok (.iload_n 1, 1) := by decide +kernel
theorem dX7_select_1 : decode cX7_select 1 = .ok (.invokestatic 21, 3) := by decide +kernel
theorem dX7_select_4 : decode cX7_select 4 = .ok (.ifCond .eq 12, 3) := by decide +kernel
theorem dX7_select_7 : decode cX7_select 7 = .ok (.aload_n 0, 1) := by decide +kernel
theorem dX7_select_8 : decode cX7_select 8 = .ok (.iload_n 1, 1) := by decide +kernel
theorem dX7_select_9 : decode cX7_select 9 = .ok (.iload_n 2, 1) := by decide +kernel
theorem dX7_select_10 : decode cX7_select 10 = .ok (.invokevirtual 40, 3) := by decide +kernel
theorem dX7_select_13 : decode cX7_select 13 = .ok (.goto 5, 3) := by decide +kernel
theorem dX7_select_16 : decode cX7_select 16 = .ok (.bipush (-2), 2) := by decide +kernel
theorem dX7_select_18 : decode cX7_select 18 = .ok (.ireturn, 1) := by decide +kernel
theorem dX7_next_0 : decode cX7_next 0 = .ok (.iload_n 1, 1) := by decide +kernel
theorem dX7_next_1 : decode cX7_next 1 = .ok (.invokestatic 21, 3) := by decide +kernel
theorem dX7_next_4 : decode cX7_next 4 = .ok (.ifCond .ne 6, 3) := by decide +kernel
theorem dX7_next_7 : decode cX7_next 7 = .ok (.bipush (-2), 2) := by decide +kernel
theorem dX7_next_9 : decode cX7_next 9 = .ok (.ireturn, 1) := by decide +kernel
theorem dX7_next_10 : decode cX7_next 10 = .ok (.iload_n 2, 1) := by decide +kernel
theorem dX7_next_11 : decode cX7_next 11 = .ok (.iconst 0, 1) := by decide +kernel
theorem dX7_next_12 : decode cX7_next 12 = .ok (.sipush 4096, 3) := by decide +kernel
theorem dX7_next_15 : decode cX7_next 15 = .ok (.invokestatic 17, 3) := by decide +kernel
theorem dX7_next_18 : decode cX7_next 18 = .ok (.ifCond .ne 6, 3) := by decide +kernel
theorem dX7_next_21 : decode cX7_next 21 = .ok (.bipush (-3), 2) := by decide +kernel
theorem dX7_next_23 : decode cX7_next 23 = .ok (.ireturn, 1) := by decide +kernel
theorem dX7_next_24 : decode cX7_next 24 = .ok (.iload_n 2, 1) := by decide +kernel
theorem dX7_next_25 : decode cX7_next 25 = .ok (.istore_n 3, 1) := by decide +kernel
theorem dX7_next_26 : decode cX7_next 26 = .ok (.iload_n 3, 1) := by decide +kernel
theorem dX7_next_27 : decode cX7_next 27 = .ok (.sipush 4096, 3) := by decide +kernel
theorem dX7_next_30 : decode cX7_next 30 = .ok (.if_icmp .ge 18, 3) := by decide +kernel
theorem dX7_next_33 : decode cX7_next 33 = .ok (.aload_n 0, 1) := by decide +kernel
theorem dX7_next_34 : decode cX7_next 34 = .ok (.iload_n 1, 1) := by decide +kernel
theorem dX7_next_35 : decode cX7_next 35 = .ok (.iload_n 3, 1) := by decide +kernel
theorem dX7_next_36 : decode cX7_next 36 = .ok (.invokevirtual 28, 3) := by decide +kernel
theorem dX7_next_39 : decode cX7_next 39 = .ok (.ifCond .ne 9, 3) := by decide +kernel
theorem dX7_next_42 : decode cX7_next 42 = .ok (.iinc 3 1, 3) := by decide +kernel
theorem dX7_next_45 : decode cX7_next 45 = .ok (.goto (-19), 3) := by decide +kernel
theorem dX7_next_48 : decode cX7_next 48 = .ok (.iload_n 3, 1) := by decide +kernel
theorem dX7_next_49 : decode cX7_next 49 = .ok (.sipush 4096, 3) := by decide +kernel
theorem dX7_next_52 : decode cX7_next 52 = .ok (.if_icmp .ge 7, 3) := by decide +kernel
theorem dX7_next_55 : decode cX7_next 55 = .ok (.iload_n 3, 1) := by decide +kernel
theorem dX7_next_56 : decode cX7_next 56 = .ok (.goto 4, 3) := by decide +kernel
theorem dX7_next_59 : decode cX7_next 59 = .ok (.iconst (-1), 1) := by decide +kernel
theorem dX7_next_60 : decode cX7_next 60 = .ok (.ireturn, 1) := by decide +kernel
theorem dX7_before_0 : decode cX7_before 0 = .ok (.iload_n 1, 1) := by decide +kernel
theorem dX7_before_1 : decode cX7_before 1 = .ok (.invokestatic 21, 3) := by decide +kernel
theorem dX7_before_4 : decode cX7_before 4 = .ok (.ifCond .ne 6, 3) := by decide +kernel
theorem dX7_before_7 : decode cX7_before 7 = .ok (.bipush (-2), 2) := by decide +kernel
theorem dX7_before_9 : decode cX7_before 9 = .ok (.ireturn, 1) := by decide +kernel
theorem dX7_before_10 : decode cX7_before 10 = .ok (.iload_n 2, 1) := by decide +kernel
theorem dX7_before_11 : decode cX7_before 11 = .ok (.iconst 0, 1) := by decide +kernel
theorem dX7_before_12 : decode cX7_before 12 = .ok (.sipush 4096, 3) := by decide +kernel
theorem dX7_before_15 : decode cX7_before 15 = .ok (.invokestatic 17, 3) := by decide +kernel
theorem dX7_before_18 : decode cX7_before 18 = .ok (.ifCond .ne 6, 3) := by decide +kernel
theorem dX7_before_21 : decode cX7_before 21 = .ok (.bipush (-3), 2) := by decide +kernel
theorem dX7_before_23 : decode cX7_before 23 = .ok (.ireturn, 1) := by decide +kernel
theorem dX7_before_24 : decode cX7_before 24 = .ok (.iload_n 2, 1) := by decide +kernel
theorem dX7_before_25 : decode cX7_before 25 = .ok (.iconst 1, 1) := by decide +kernel
theorem dX7_before_26 : decode cX7_before 26 = .ok (.isub, 1) := by decide +kernel
theorem dX7_before_27 : decode cX7_before 27 = .ok (.istore_n 3, 1) := by decide +kernel
theorem dX7_before_28 : decode cX7_before 28 = .ok (.iload_n 3, 1) := by decide +kernel
theorem dX7_before_29 : decode cX7_before 29 = .ok (.ifCond .lt 18, 3) := by decide +kernel
theorem dX7_before_32 : decode cX7_before 32 = .ok (.aload_n 0, 1) := by decide +kernel
theorem dX7_before_33 : decode cX7_before 33 = .ok (.iload_n 1, 1) := by decide +kernel
theorem dX7_before_34 : decode cX7_before 34 = .ok (.iload_n 3, 1) := by decide +kernel
theorem dX7_before_35 : decode cX7_before 35 = .ok (.invokevirtual 28, 3) := by decide +kernel
theorem dX7_before_38 : decode cX7_before 38 = .ok (.ifCond .ne 9, 3) := by decide +kernel
theorem dX7_before_41 : decode cX7_before 41 = .ok (.iinc 3 (-1), 3) := by decide +kernel
theorem dX7_before_44 : decode cX7_before 44 = .ok (.goto (-16), 3) := by decide +kernel
theorem dX7_before_47 : decode cX7_before 47 = .ok (.iload_n 3, 1) := by decide +kernel
theorem dX7_before_48 : decode cX7_before 48 = .ok (.ireturn, 1) := by decide +kernel
theorem dX7_common_0 : decode cX7_common 0 = .ok (.iload_n 1, 1) := by decide +kernel
theorem dX7_common_1 : decode cX7_common 1 = .ok (.invokestatic 21, 3) := by decide +kernel
theorem dX7_common_4 : decode cX7_common 4 = .ok (.ifCond .eq 10, 3) := by decide +kernel
theorem dX7_common_7 : decode cX7_common 7 = .ok (.iload_n 2, 1) := by decide +kernel
theorem dX7_common_8 : decode cX7_common 8 = .ok (.invokestatic 21, 3) := by decide +kernel
theorem dX7_common_11 : decode cX7_common 11 = .ok (.ifCond .ne 6, 3) := by decide +kernel
theorem dX7_common_14 : decode cX7_common 14 = .ok (.bipush (-2), 2) := by decide +kernel
theorem dX7_common_16 : decode cX7_common 16 = .ok (.ireturn, 1) := by decide +kernel
theorem dX7_common_17 : decode cX7_common 17 = .ok (.iconst 0, 1) := by decide +kernel
theorem dX7_common_18 : decode cX7_common 18 = .ok (.istore_n 3, 1) := by decide +kernel
theorem dX7_common_19 : decode cX7_common 19 = .ok (.iconst 0, 1) := by decide +kernel
theorem dX7_common_20 : decode cX7_common 20 = .ok (.istore 4, 2) := by decide +kernel
theorem dX7_common_22 : decode cX7_common 22 = .ok (.iload 4, 2) := by decide +kernel
theorem dX7_common_24 : decode cX7_common 24 = .ok (.sipush 4096, 3) := by decide +kernel
theorem dX7_common_27 : decode cX7_common 27 = .ok (.if_icmp .ge 37, 3) := by decide +kernel
theorem dX7_common_30 : decode cX7_common 30 = .ok (.iload_n 3, 1) := by decide +kernel
theorem dX7_common_31 : decode cX7_common 31 = .ok (.aload_n 0, 1) := by decide +kernel
theorem dX7_common_32 : decode cX7_common 32 = .ok (.iload_n 1, 1) := by decide +kernel
theorem dX7_common_33 : decode cX7_common 33 = .ok (.iload 4, 2) := by decide +kernel
theorem dX7_common_35 : decode cX7_common 35 = .ok (.invokevirtual 28, 3) := by decide +kernel
theorem dX7_common_38 : decode cX7_common 38 = .ok (.ifCond .eq 17, 3) := by decide +kernel
theorem dX7_common_41 : decode cX7_common 41 = .ok (.aload_n 0, 1) := by decide +kernel
theorem dX7_common_42 : decode cX7_common 42 = .ok (.iload_n 2, 1) := by decide +kernel
theorem dX7_common_43 : decode cX7_common 43 = .ok (.iload 4, 2) := by decide +kernel
theorem dX7_common_45 : decode cX7_common 45 = .ok (.invokevirtual 28, 3) := by decide +kernel
theorem dX7_common_48 : decode cX7_common 48 = .ok (.ifCond .eq 7, 3) := by decide +kernel
theorem dX7_common_51 : decode cX7_common 51 = .ok (.iconst 1, 1) := by decide +kernel
theorem dX7_common_52 : decode cX7_common 52 = .ok (.goto 4, 3) := by decide +kernel
theorem dX7_common_55 : decode cX7_common 55 = .ok (.iconst 0, 1) := by decide +kernel
theorem dX7_common_56 : decode cX7_common 56 = .ok (.iadd, 1) := by decide +kernel
theorem dX7_common_57 : decode cX7_common 57 = .ok (.istore_n 3, 1) := by decide +kernel
theorem dX7_common_58 : decode cX7_common 58 = .ok (.iinc 4 1, 3) := by decide +kernel
theorem dX7_common_61 : decode cX7_common 61 = .ok (.goto (-39), 3) := by decide +kernel
theorem dX7_common_64 : decode cX7_common 64 = .ok (.iload_n 3, 1) := by decide +kernel
theorem dX7_common_65 : decode cX7_common 65 = .ok (.ireturn, 1) := by decide +kernel
theorem dX7_numbersOf_0 : decode cX7_numbersOf 0 = .ok (.aload_n 0, 1) := by decide +kernel
theorem dX7_numbersOf_1 : decode cX7_numbersOf 1 = .ok (.iload_n 1, 1) := by decide +kernel
theorem dX7_numbersOf_2 : decode cX7_numbersOf 2 = .ok (.sipush 256, 3) := by decide +kernel
theorem dX7_numbersOf_5 : decode cX7_numbersOf 5 = .ok (.iload_n 2, 1) := by decide +kernel
theorem dX7_numbersOf_6 : decode cX7_numbersOf 6 = .ok (.imul, 1) := by decide +kernel
theorem dX7_numbersOf_7 : decode cX7_numbersOf 7 = .ok (.sipush 256, 3) := by decide +kernel
theorem dX7_numbersOf_10 : decode cX7_numbersOf 10 = .ok (.iload_n 2, 1) := by decide +kernel
theorem dX7_numbersOf_11 : decode cX7_numbersOf 11 = .ok (.imul, 1) := by decide +kernel
theorem dX7_numbersOf_12 : decode cX7_numbersOf 12 = .ok (.sipush 256, 3) := by decide +kernel
theorem dX7_numbersOf_15 : decode cX7_numbersOf 15 = .ok (.iadd, 1) := by decide +kernel
theorem dX7_numbersOf_16 : decode cX7_numbersOf 16 = .ok (.invokevirtual 36, 3) := by decide +kernel
theorem dX7_numbersOf_19 : decode cX7_numbersOf 19 = .ok (.ireturn, 1) := by decide +kernel
theorem dX7_begins_0 : decode cX7_begins 0 = .ok (.aload_n 0, 1) := by decide +kernel
theorem dX7_begins_1 : decode cX7_begins 1 = .ok (.iload_n 1, 1) := by decide +kernel
theorem dX7_begins_2 : decode cX7_begins 2 = .ok (.iload_n 2, 1) := by decide +kernel
theorem dX7_begins_3 : decode cX7_begins 3 = .ok (.invokevirtual 28, 3) := by decide +kernel
theorem dX7_begins_6 : decode cX7_begins 6 = .ok (.ifCond .eq 26, 3) := by decide +kernel
theorem dX7_begins_9 : decode cX7_begins 9 = .ok (.iload_n 2, 1) := by decide +kernel
theorem dX7_begins_10 : decode cX7_begins 10 = .ok (.sipush 256, 3) := by decide +kernel
theorem dX7_begins_13 : decode cX7_begins 13 = .ok (.irem, 1) := by decide +kernel
theorem dX7_begins_14 : decode cX7_begins 14 = .ok (.ifCond .eq 14, 3) := by decide +kernel
theorem dX7_begins_17 : decode cX7_begins 17 = .ok (.aload_n 0, 1) := by decide +kernel
theorem dX7_begins_18 : decode cX7_begins 18 = .ok (.iload_n 1, 1) := by decide +kernel
theorem dX7_begins_19 : decode cX7_begins 19 = .ok (.iload_n 2, 1) := by decide +kernel
theorem dX7_begins_20 : decode cX7_begins 20 = .ok (.iconst 1, 1) := by decide +kernel
theorem dX7_begins_21 : decode cX7_begins 21 = .ok (.isub, 1) := by decide +kernel
theorem dX7_begins_22 : decode cX7_begins 22 = .ok (.invokevirtual 28, 3) := by decide +kernel
theorem dX7_begins_25 : decode cX7_begins 25 = .ok (.ifCond .ne 7, 3) := by decide +kernel
theorem dX7_begins_28 : decode cX7_begins 28 = .ok (.iconst 1, 1) := by decide +kernel
theorem dX7_begins_29 : decode cX7_begins 29 = .ok (.goto 4, 3) := by decide +kernel
theorem dX7_begins_32 : decode cX7_begins 32 = .ok (.iconst 0, 1) := by decide +kernel
theorem dX7_begins_33 : decode cX7_begins 33 = .ok (.ireturn, 1) := by decide +kernel
theorem dX7_runsOf_0 : decode cX7_runsOf 0 = .ok (.iconst 0, 1) := by decide +kernel
theorem dX7_runsOf_1 : decode cX7_runsOf 1 = .ok (.istore_n 3, 1) := by decide +kernel
theorem dX7_runsOf_2 : decode cX7_runsOf 2 = .ok (.sipush 256, 3) := by decide +kernel
theorem dX7_runsOf_5 : decode cX7_runsOf 5 = .ok (.iload_n 2, 1) := by decide +kernel
theorem dX7_runsOf_6 : decode cX7_runsOf 6 = .ok (.imul, 1) := by decide +kernel
theorem dX7_runsOf_7 : decode cX7_runsOf 7 = .ok (.istore 4, 2) := by decide +kernel
theorem dX7_runsOf_9 : decode cX7_runsOf 9 = .ok (.iload 4, 2) := by decide +kernel
theorem dX7_runsOf_11 : decode cX7_runsOf 11 = .ok (.sipush 256, 3) := by decide +kernel
theorem dX7_runsOf_14 : decode cX7_runsOf 14 = .ok (.iload_n 2, 1) := by decide +kernel
theorem dX7_runsOf_15 : decode cX7_runsOf 15 = .ok (.imul, 1) := by decide +kernel
theorem dX7_runsOf_16 : decode cX7_runsOf 16 = .ok (.sipush 256, 3) := by decide +kernel
theorem dX7_runsOf_19 : decode cX7_runsOf 19 = .ok (.iadd, 1) := by decide +kernel
theorem dX7_runsOf_20 : decode cX7_runsOf 20 = .ok (.if_icmp .ge 27, 3) := by decide +kernel
theorem dX7_runsOf_23 : decode cX7_runsOf 23 = .ok (.iload_n 3, 1) := by decide +kernel
theorem dX7_runsOf_24 : decode cX7_runsOf 24 = .ok (.aload_n 0, 1) := by decide +kernel
theorem dX7_runsOf_25 : decode cX7_runsOf 25 = .ok (.iload_n 1, 1) := by decide +kernel
theorem dX7_runsOf_26 : decode cX7_runsOf 26 = .ok (.iload 4, 2) := by decide +kernel
theorem dX7_runsOf_28 : decode cX7_runsOf 28 = .ok (.invokevirtual 44, 3) := by decide +kernel
theorem dX7_runsOf_31 : decode cX7_runsOf 31 = .ok (.ifCond .eq 7, 3) := by decide +kernel
theorem dX7_runsOf_34 : decode cX7_runsOf 34 = .ok (.iconst 1, 1) := by decide +kernel
theorem dX7_runsOf_35 : decode cX7_runsOf 35 = .ok (.goto 4, 3) := by decide +kernel
theorem dX7_runsOf_38 : decode cX7_runsOf 38 = .ok (.iconst 0, 1) := by decide +kernel
theorem dX7_runsOf_39 : decode cX7_runsOf 39 = .ok (.iadd, 1) := by decide +kernel
theorem dX7_runsOf_40 : decode cX7_runsOf 40 = .ok (.istore_n 3, 1) := by decide +kernel
theorem dX7_runsOf_41 : decode cX7_runsOf 41 = .ok (.iinc 4 1, 3) := by decide +kernel
theorem dX7_runsOf_44 : decode cX7_runsOf 44 = .ok (.goto (-35), 3) := by decide +kernel
theorem dX7_runsOf_47 : decode cX7_runsOf 47 = .ok (.iload_n 3, 1) := by decide +kernel
theorem dX7_runsOf_48 : decode cX7_runsOf 48 = .ok (.ireturn, 1) := by decide +kernel
theorem dX7_bitsOf_0 : decode cX7_bitsOf 0 = .ok (.bipush 8, 2) := by decide +kernel
theorem dX7_bitsOf_2 : decode cX7_bitsOf 2 = .ok (.aload_n 0, 1) := by decide +kernel
theorem dX7_bitsOf_3 : decode cX7_bitsOf 3 = .ok (.iload_n 1, 1) := by decide +kernel
theorem dX7_bitsOf_4 : decode cX7_bitsOf 4 = .ok (.iload_n 2, 1) := by decide +kernel
theorem dX7_bitsOf_5 : decode cX7_bitsOf 5 = .ok (.invokevirtual 47, 3) := by decide +kernel
theorem dX7_bitsOf_8 : decode cX7_bitsOf 8 = .ok (.imul, 1) := by decide +kernel
theorem dX7_bitsOf_9 : decode cX7_bitsOf 9 = .ok (.istore_n 3, 1) := by decide +kernel
theorem dX7_bitsOf_10 : decode cX7_bitsOf 10 = .ok (.bipush 16, 2) := by decide +kernel
theorem dX7_bitsOf_12 : decode cX7_bitsOf 12 = .ok (.aload_n 0, 1) := by decide +kernel
theorem dX7_bitsOf_13 : decode cX7_bitsOf 13 = .ok (.iload_n 1, 1) := by decide +kernel
theorem dX7_bitsOf_14 : decode cX7_bitsOf 14 = .ok (.iload_n 2, 1) := by decide +kernel
theorem dX7_bitsOf_15 : decode cX7_bitsOf 15 = .ok (.invokevirtual 50, 3) := by decide +kernel
theorem dX7_bitsOf_18 : decode cX7_bitsOf 18 = .ok (.imul, 1) := by decide +kernel
theorem dX7_bitsOf_19 : decode cX7_bitsOf 19 = .ok (.istore 4, 2) := by decide +kernel
theorem dX7_bitsOf_21 : decode cX7_bitsOf 21 = .ok (.iload_n 3, 1) := by decide +kernel
theorem dX7_bitsOf_22 : decode cX7_bitsOf 22 = .ok (.sipush 256, 3) := by decide +kernel
theorem dX7_bitsOf_25 : decode cX7_bitsOf 25 = .ok (.if_icmp .ge 7, 3) := by decide +kernel
theorem dX7_bitsOf_28 : decode cX7_bitsOf 28 = .ok (.iload_n 3, 1) := by decide +kernel
theorem dX7_bitsOf_29 : decode cX7_bitsOf 29 = .ok (.goto 6, 3) := by decide +kernel
theorem dX7_bitsOf_32 : decode cX7_bitsOf 32 = .ok (.sipush 256, 3) := by decide +kernel
theorem dX7_bitsOf_35 : decode cX7_bitsOf 35 = .ok (.istore 5, 2) := by decide +kernel
theorem dX7_bitsOf_37 : decode cX7_bitsOf 37 = .ok (.iload 4, 2) := by decide +kernel
theorem dX7_bitsOf_39 : decode cX7_bitsOf 39 = .ok (.iload 5, 2) := by decide +kernel
theorem dX7_bitsOf_41 : decode cX7_bitsOf 41 = .ok (.if_icmp .ge 8, 3) := by decide +kernel
theorem dX7_bitsOf_44 : decode cX7_bitsOf 44 = .ok (.iload 4, 2) := by decide +kernel
theorem dX7_bitsOf_46 : decode cX7_bitsOf 46 = .ok (.goto 5, 3) := by decide +kernel
theorem dX7_bitsOf_49 : decode cX7_bitsOf 49 = .ok (.iload 5, 2) := by decide +kernel
theorem dX7_bitsOf_51 : decode cX7_bitsOf 51 = .ok (.ireturn, 1) := by decide +kernel
theorem dX7_formOf_0 : decode cX7_formOf 0 = .ok (.aload_n 0, 1) := by decide +kernel
theorem dX7_formOf_1 : decode cX7_formOf 1 = .ok (.iload_n 1, 1) := by decide +kernel
theorem dX7_formOf_2 : decode cX7_formOf 2 = .ok (.iload_n 2, 1) := by decide +kernel
theorem dX7_formOf_3 : decode cX7_formOf 3 = .ok (.invokevirtual 53, 3) := by decide +kernel
theorem dX7_formOf_6 : decode cX7_formOf 6 = .ok (.istore_n 3, 1) := by decide +kernel
theorem dX7_formOf_7 : decode cX7_formOf 7 = .ok (.iload_n 3, 1) := by decide +kernel
theorem dX7_formOf_8 : decode cX7_formOf 8 = .ok (.ifCond .ne 7, 3) := by decide +kernel
theorem dX7_formOf_11 : decode cX7_formOf 11 = .ok (.iconst 3, 1) := by decide +kernel
theorem dX7_formOf_12 : decode cX7_formOf 12 = .ok (.goto 32, 3) := by decide +kernel
theorem dX7_formOf_15 : decode cX7_formOf 15 = .ok (.iload_n 3, 1) := by decide +kernel
theorem dX7_formOf_16 : decode cX7_formOf 16 = .ok (.bipush 8, 2) := by decide +kernel
theorem dX7_formOf_18 : decode cX7_formOf 18 = .ok (.aload_n 0, 1) := by decide +kernel
theorem dX7_formOf_19 : decode cX7_formOf 19 = .ok (.iload_n 1, 1) := by decide +kernel
theorem dX7_formOf_20 : decode cX7_formOf 20 = .ok (.iload_n 2, 1) := by decide +kernel
theorem dX7_formOf_21 : decode cX7_formOf 21 = .ok (.invokevirtual 47, 3) := by decide +kernel
theorem dX7_formOf_24 : decode cX7_formOf 24 = .ok (.imul, 1) := by decide +kernel
theorem dX7_formOf_25 : decode cX7_formOf 25 = .ok (.if_icmp .ne 7, 3) := by decide +kernel
theorem dX7_formOf_28 : decode cX7_formOf 28 = .ok (.iconst 0, 1) := by decide +kernel
theorem dX7_formOf_29 : decode cX7_formOf 29 = .ok (.goto 15, 3) := by decide +kernel
theorem dX7_formOf_32 : decode cX7_formOf 32 = .ok (.iload_n 3, 1) := by decide +kernel
theorem dX7_formOf_33 : decode cX7_formOf 33 = .ok (.sipush 256, 3) := by decide +kernel
theorem dX7_formOf_36 : decode cX7_formOf 36 = .ok (.if_icmp .ne 7, 3) := by decide +kernel
theorem dX7_formOf_39 : decode cX7_formOf 39 = .ok (.iconst 1, 1) := by decide +kernel
theorem dX7_formOf_40 : decode cX7_formOf 40 = .ok (.goto 4, 3) := by decide +kernel
theorem dX7_formOf_43 : decode cX7_formOf 43 = .ok (.iconst 2, 1) := by decide +kernel
theorem dX7_formOf_44 : decode cX7_formOf 44 = .ok (.ireturn, 1) := by decide +kernel
theorem dX7_piece_0 : decode cX7_piece 0 = .ok (.iload_n 1, 1) := by decide +kernel
theorem dX7_piece_1 : decode cX7_piece 1 = .ok (.invokestatic 21, 3) := by decide +kernel
theorem dX7_piece_4 : decode cX7_piece 4 = .ok (.ifCond .ne 6, 3) := by decide +kernel
theorem dX7_piece_7 : decode cX7_piece 7 = .ok (.bipush (-2), 2) := by decide +kernel
theorem dX7_piece_9 : decode cX7_piece 9 = .ok (.ireturn, 1) := by decide +kernel
theorem dX7_piece_10 : decode cX7_piece 10 = .ok (.iload_n 2, 1) := by decide +kernel
theorem dX7_piece_11 : decode cX7_piece 11 = .ok (.iconst 0, 1) := by decide +kernel
theorem dX7_piece_12 : decode cX7_piece 12 = .ok (.bipush 15, 2) := by decide +kernel
theorem dX7_piece_14 : decode cX7_piece 14 = .ok (.invokestatic 17, 3) := by decide +kernel
theorem dX7_piece_17 : decode cX7_piece 17 = .ok (.ifCond .eq 12, 3) := by decide +kernel
theorem dX7_piece_20 : decode cX7_piece 20 = .ok (.iload_n 3, 1) := by decide +kernel
theorem dX7_piece_21 : decode cX7_piece 21 = .ok (.iconst 0, 1) := by decide +kernel
theorem dX7_piece_22 : decode cX7_piece 22 = .ok (.iconst 3, 1) := by decide +kernel
theorem dX7_piece_23 : decode cX7_piece 23 = .ok (.invokestatic 17, 3) := by decide +kernel
theorem dX7_piece_26 : decode cX7_piece 26 = .ok (.ifCond .ne 6, 3) := by decide +kernel
theorem dX7_piece_29 : decode cX7_piece 29 = .ok (.bipush (-3), 2) := by decide +kernel
theorem dX7_piece_31 : decode cX7_piece 31 = .ok (.ireturn, 1) := by decide +kernel
theorem dX7_piece_32 : decode cX7_piece 32 = .ok (.iload_n 3, 1) := by decide +kernel
theorem dX7_piece_33 : decode cX7_piece 33 = .ok (.ifCond .ne 24, 3) := by decide +kernel
theorem dX7_piece_36 : decode cX7_piece 36 = .ok (.aload_n 0, 1) := by decide +kernel
theorem dX7_piece_37 : decode cX7_piece 37 = .ok (.iload_n 1, 1) := by decide +kernel
theorem dX7_piece_38 : decode cX7_piece 38 = .ok (.iload_n 2, 1) := by decide +kernel
theorem dX7_piece_39 : decode cX7_piece 39 = .ok (.invokevirtual 56, 3) := by decide +kernel
theorem dX7_piece_42 : decode cX7_piece 42 = .ok (.iconst 3, 1) := by decide +kernel
theorem dX7_piece_43 : decode cX7_piece 43 = .ok (.if_icmp .ne 7, 3) := by decide +kernel
theorem dX7_piece_46 : decode cX7_piece 46 = .ok (.iconst (-1), 1) := by decide +kernel
theorem dX7_piece_47 : decode cX7_piece 47 = .ok (.goto 9, 3) := by decide +kernel
theorem dX7_piece_50 : decode cX7_piece 50 = .ok (.aload_n 0, 1) := by decide +kernel
theorem dX7_piece_51 : decode cX7_piece 51 = .ok (.iload_n 1, 1) := by decide +kernel
theorem dX7_piece_52 : decode cX7_piece 52 = .ok (.iload_n 2, 1) := by decide +kernel
theorem dX7_piece_53 : decode cX7_piece 53 = .ok (.invokevirtual 56, 3) := by decide +kernel
theorem dX7_piece_56 : decode cX7_piece 56 = .ok (.ireturn, 1) := by decide +kernel
theorem dX7_piece_57 : decode cX7_piece 57 = .ok (.iload_n 3, 1) := by decide +kernel
theorem dX7_piece_58 : decode cX7_piece 58 = .ok (.iconst 1, 1) := by decide +kernel
theorem dX7_piece_59 : decode cX7_piece 59 = .ok (.if_icmp .ne 12, 3) := by decide +kernel
theorem dX7_piece_62 : decode cX7_piece 62 = .ok (.aload_n 0, 1) := by decide +kernel
theorem dX7_piece_63 : decode cX7_piece 63 = .ok (.iload_n 1, 1) := by decide +kernel
theorem dX7_piece_64 : decode cX7_piece 64 = .ok (.iload_n 2, 1) := by decide +kernel
theorem dX7_piece_65 : decode cX7_piece 65 = .ok (.invokevirtual 47, 3) := by decide +kernel
theorem dX7_piece_68 : decode cX7_piece 68 = .ok (.goto 23, 3) := by decide +kernel
theorem dX7_piece_71 : decode cX7_piece 71 = .ok (.iload_n 3, 1) := by decide +kernel
theorem dX7_piece_72 : decode cX7_piece 72 = .ok (.iconst 2, 1) := by decide +kernel
theorem dX7_piece_73 : decode cX7_piece 73 = .ok (.if_icmp .ne 12, 3) := by decide +kernel
theorem dX7_piece_76 : decode cX7_piece 76 = .ok (.aload_n 0, 1) := by decide +kernel
theorem dX7_piece_77 : decode cX7_piece 77 = .ok (.iload_n 1, 1) := by decide +kernel
theorem dX7_piece_78 : decode cX7_piece 78 = .ok (.iload_n 2, 1) := by decide +kernel
theorem dX7_piece_79 : decode cX7_piece 79 = .ok (.invokevirtual 50, 3) := by decide +kernel
theorem dX7_piece_82 : decode cX7_piece 82 = .ok (.goto 9, 3) := by decide +kernel
theorem dX7_piece_85 : decode cX7_piece 85 = .ok (.aload_n 0, 1) := by decide +kernel
theorem dX7_piece_86 : decode cX7_piece 86 = .ok (.iload_n 1, 1) := by decide +kernel
theorem dX7_piece_87 : decode cX7_piece 87 = .ok (.iload_n 2, 1) := by decide +kernel
theorem dX7_piece_88 : decode cX7_piece 88 = .ok (.invokevirtual 53, 3) := by decide +kernel
theorem dX7_piece_91 : decode cX7_piece 91 = .ok (.ireturn, 1) := by decide +kernel
theorem dX7_cost_0 : decode cX7_cost 0 = .ok (.iload_n 1, 1) := by decide +kernel
theorem dX7_cost_1 : decode cX7_cost 1 = .ok (.invokestatic 21, 3) := by decide +kernel
theorem dX7_cost_4 : decode cX7_cost 4 = .ok (.ifCond .ne 6, 3) := by decide +kernel
theorem dX7_cost_7 : decode cX7_cost 7 = .ok (.bipush (-2), 2) := by decide +kernel
theorem dX7_cost_9 : decode cX7_cost 9 = .ok (.ireturn, 1) := by decide +kernel
theorem dX7_cost_10 : decode cX7_cost 10 = .ok (.iconst 0, 1) := by decide +kernel
theorem dX7_cost_11 : decode cX7_cost 11 = .ok (.istore_n 2, 1) := by decide +kernel
theorem dX7_cost_12 : decode cX7_cost 12 = .ok (.iconst 0, 1) := by decide +kernel
theorem dX7_cost_13 : decode cX7_cost 13 = .ok (.istore_n 3, 1) := by decide +kernel
theorem dX7_cost_14 : decode cX7_cost 14 = .ok (.iload_n 3, 1) := by decide +kernel
theorem dX7_cost_15 : decode cX7_cost 15 = .ok (.bipush 16, 2) := by decide +kernel
theorem dX7_cost_17 : decode cX7_cost 17 = .ok (.if_icmp .ge 34, 3) := by decide +kernel
theorem dX7_cost_20 : decode cX7_cost 20 = .ok (.iload_n 2, 1) := by decide +kernel
theorem dX7_cost_21 : decode cX7_cost 21 = .ok (.aload_n 0, 1) := by decide +kernel
theorem dX7_cost_22 : decode cX7_cost 22 = .ok (.iload_n 1, 1) := by decide +kernel
theorem dX7_cost_23 : decode cX7_cost 23 = .ok (.iload_n 3, 1) := by decide +kernel
theorem dX7_cost_24 : decode cX7_cost 24 = .ok (.invokevirtual 47, 3) := by decide +kernel
theorem dX7_cost_27 : decode cX7_cost 27 = .ok (.ifCond .le 15, 3) := by decide +kernel
theorem dX7_cost_30 : decode cX7_cost 30 = .ok (.bipush 16, 2) := by decide +kernel
theorem dX7_cost_32 : decode cX7_cost 32 = .ok (.aload_n 0, 1) := by decide +kernel
theorem dX7_cost_33 : decode cX7_cost 33 = .ok (.iload_n 1, 1) := by decide +kernel
theorem dX7_cost_34 : decode cX7_cost 34 = .ok (.iload_n 3, 1) := by decide +kernel
theorem dX7_cost_35 : decode cX7_cost 35 = .ok (.invokevirtual 53, 3) := by decide +kernel
theorem dX7_cost_38 : decode cX7_cost 38 = .ok (.iadd, 1) := by decide +kernel
theorem dX7_cost_39 : decode cX7_cost 39 = .ok (.goto 4, 3) := by decide +kernel
theorem dX7_cost_42 : decode cX7_cost 42 = .ok (.iconst 0, 1) := by decide +kernel
theorem dX7_cost_43 : decode cX7_cost 43 = .ok (.iadd, 1) := by decide +kernel
theorem dX7_cost_44 : decode cX7_cost 44 = .ok (.istore_n 2, 1) := by decide +kernel
theorem dX7_cost_45 : decode cX7_cost 45 = .ok (.iinc 3 1, 3) := by decide +kernel
theorem dX7_cost_48 : decode cX7_cost 48 = .ok (.goto (-34), 3) := by decide +kernel
theorem dX7_cost_51 : decode cX7_cost 51 = .ok (.iload_n 2, 1) := by decide +kernel
theorem dX7_cost_52 : decode cX7_cost 52 = .ok (.ireturn, 1) := by decide +kernel
theorem dX7_tell_0 : decode cX7_tell 0 = .ok (.aload_n 0, 1) := by decide +kernel
theorem dX7_tell_1 : decode cX7_tell 1 = .ok (.getfield 59, 3) := by decide +kernel
theorem dX7_tell_4 : decode cX7_tell 4 = .ok (.iconst 1, 1) := by decide +kernel
theorem dX7_tell_5 : decode cX7_tell 5 = .ok (.if_icmp .ne 13, 3) := by decide +kernel
theorem dX7_tell_8 : decode cX7_tell 8 = .ok (.aload_n 0, 1) := by decide +kernel
theorem dX7_tell_9 : decode cX7_tell 9 = .ok (.getfield 14, 3) := by decide +kernel
theorem dX7_tell_12 : decode cX7_tell 12 = .ok (.aload_n 0, 1) := by decide +kernel
theorem dX7_tell_13 : decode cX7_tell 13 = .ok (.getfield 63, 3) := by decide +kernel
theorem dX7_tell_16 : decode cX7_tell 16 = .ok (.iload_n 1, 1) := by decide +kernel
theorem dX7_tell_17 : decode cX7_tell 17 = .ok (.bastore, 1) := by decide +kernel
theorem dX7_tell_18 : decode cX7_tell 18 = .ok (.aload_n 0, 1) := by decide +kernel
theorem dX7_tell_19 : decode cX7_tell 19 = .ok (.getfield 59, 3) := by decide +kernel
theorem dX7_tell_22 : decode cX7_tell 22 = .ok (.iconst 2, 1) := by decide +kernel
theorem dX7_tell_23 : decode cX7_tell 23 = .ok (.if_icmp .ne 43, 3) := by decide +kernel
theorem dX7_tell_26 : decode cX7_tell 26 = .ok (.aload_n 0, 1) := by decide +kernel
theorem dX7_tell_27 : decode cX7_tell 27 = .ok (.aload_n 0, 1) := by decide +kernel
theorem dX7_tell_28 : decode cX7_tell 28 = .ok (.getfield 66, 3) := by decide +kernel
theorem dX7_tell_31 : decode cX7_tell 31 = .ok (.ifCond .eq 31, 3) := by decide +kernel
theorem dX7_tell_34 : decode cX7_tell 34 = .ok (.aload_n 0, 1) := by decide +kernel
theorem dX7_tell_35 : decode cX7_tell 35 = .ok (.getfield 63, 3) := by decide +kernel
theorem dX7_tell_38 : decode cX7_tell 38 = .ok (.aload_n 0, 1) := by decide +kernel
theorem dX7_tell_39 : decode cX7_tell 39 = .ok (.getfield 70, 3) := by decide +kernel
theorem dX7_tell_42 : decode cX7_tell 42 = .ok (.if_icmp .ge 20, 3) := by decide +kernel
theorem dX7_tell_45 : decode cX7_tell 45 = .ok (.aload_n 0, 1) := by decide +kernel
theorem dX7_tell_46 : decode cX7_tell 46 = .ok (.getfield 14, 3) := by decide +kernel
theorem dX7_tell_49 : decode cX7_tell 49 = .ok (.aload_n 0, 1) := by decide +kernel
theorem dX7_tell_50 : decode cX7_tell 50 = .ok (.getfield 63, 3) := by decide +kernel
theorem dX7_tell_53 : decode cX7_tell 53 = .ok (.baload, 1) := by decide +kernel
theorem dX7_tell_54 : decode cX7_tell 54 = .ok (.iload_n 1, 1) := by decide +kernel
theorem dX7_tell_55 : decode cX7_tell 55 = .ok (.if_icmp .ne 7, 3) := by decide +kernel
theorem dX7_tell_58 : decode cX7_tell 58 = .ok (.iconst 1, 1) := by decide +kernel
theorem dX7_tell_59 : decode cX7_tell 59 = .ok (.goto 4, 3) := by decide +kernel
theorem dX7_tell_62 : decode cX7_tell 62 = .ok (.iconst 0, 1) := by decide +kernel
theorem dX7_tell_63 : decode cX7_tell 63 = .ok (.putfield 66, 3) := by decide +kernel
theorem dX7_tell_66 : decode cX7_tell 66 = .ok (.aload_n 0, 1) := by decide +kernel
theorem dX7_tell_67 : decode cX7_tell 67 = .ok (.dup, 1) := by decide +kernel
theorem dX7_tell_68 : decode cX7_tell 68 = .ok (.getfield 63, 3) := by decide +kernel
theorem dX7_tell_71 : decode cX7_tell 71 = .ok (.iconst 1, 1) := by decide +kernel
theorem dX7_tell_72 : decode cX7_tell 72 = .ok (.iadd, 1) := by decide +kernel
theorem dX7_tell_73 : decode cX7_tell 73 = .ok (.putfield 63, 3) := by decide +kernel
theorem dX7_tell_76 : decode cX7_tell 76 = .ok (.return_, 1) := by decide +kernel
theorem dX7_tellNumber_0 : decode cX7_tellNumber 0 = .ok (.iload_n 2, 1) := by decide +kernel
theorem dX7_tellNumber_1 : decode cX7_tellNumber 1 = .ok (.iconst 1, 1) := by decide +kernel
theorem dX7_tellNumber_2 : decode cX7_tellNumber 2 = .ok (.isub, 1) := by decide +kernel
theorem dX7_tellNumber_3 : decode cX7_tellNumber 3 = .ok (.istore_n 3, 1) := by decide +kernel
theorem dX7_tellNumber_4 : decode cX7_tellNumber 4 = .ok (.iload_n 3, 1) := by decide +kernel
theorem dX7_tellNumber_5 : decode cX7_tellNumber 5 = .ok (.ifCond .lt 27, 3) := by decide +kernel
theorem dX7_tellNumber_8 : decode cX7_tellNumber 8 = .ok (.aload_n 0, 1) := by decide +kernel
theorem dX7_tellNumber_9 : decode cX7_tellNumber 9 = .ok (.iload_n 1, 1) := by decide +kernel
theorem dX7_tellNumber_10 : decode cX7_tellNumber 10 = .ok (.iload_n 3, 1) := by decide +kernel
theorem dX7_tellNumber_11 : decode cX7_tellNumber 11 = .ok (.ishr, 1) := by decide +kernel
theorem dX7_tellNumber_12 : decode cX7_tellNumber 12 = .ok (.iconst 1, 1) := by decide +kernel
theorem dX7_tellNumber_13 : decode cX7_tellNumber 13 = .ok (.iand, 1) := by decide +kernel
theorem dX7_tellNumber_14 : decode cX7_tellNumber 14 = .ok (.iconst 1, 1) := by decide +kernel
theorem dX7_tellNumber_15 : decode cX7_tellNumber 15 = .ok (.if_icmp .ne 7, 3) := by decide +kernel
theorem dX7_tellNumber_18 : decode cX7_tellNumber 18 = .ok (.iconst 1, 1) := by decide +kernel
theorem dX7_tellNumber_19 : decode cX7_tellNumber 19 = .ok (.goto 4, 3) := by decide +kernel
theorem dX7_tellNumber_22 : decode cX7_tellNumber 22 = .ok (.iconst 0, 1) := by decide +kernel
theorem dX7_tellNumber_23 : decode cX7_tellNumber 23 = .ok (.invokevirtual 73, 3) := by decide +kernel
theorem dX7_tellNumber_26 : decode cX7_tellNumber 26 = .ok (.iinc 3 (-1), 3) := by decide +kernel
theorem dX7_tellNumber_29 : decode cX7_tellNumber 29 = .ok (.goto (-25), 3) := by decide +kernel
theorem dX7_tellNumber_32 : decode cX7_tellNumber 32 = .ok (.return_, 1) := by decide +kernel
theorem dX7_code_0 : decode cX7_code 0 = .ok (.aload_n 0, 1) := by decide +kernel
theorem dX7_code_1 : decode cX7_code 1 = .ok (.iload_n 3, 1) := by decide +kernel
theorem dX7_code_2 : decode cX7_code 2 = .ok (.putfield 59, 3) := by decide +kernel
theorem dX7_code_5 : decode cX7_code 5 = .ok (.aload_n 0, 1) := by decide +kernel
theorem dX7_code_6 : decode cX7_code 6 = .ok (.iconst 0, 1) := by decide +kernel
theorem dX7_code_7 : decode cX7_code 7 = .ok (.putfield 63, 3) := by decide +kernel
theorem dX7_code_10 : decode cX7_code 10 = .ok (.aload_n 0, 1) := by decide +kernel
theorem dX7_code_11 : decode cX7_code 11 = .ok (.iconst 1, 1) := by decide +kernel
theorem dX7_code_12 : decode cX7_code 12 = .ok (.putfield 66, 3) := by decide +kernel
theorem dX7_code_15 : decode cX7_code 15 = .ok (.iload_n 2, 1) := by decide +kernel
theorem dX7_code_16 : decode cX7_code 16 = .ok (.ifCond .ne 11, 3) := by decide +kernel
theorem dX7_code_19 : decode cX7_code 19 = .ok (.aload_n 0, 1) := by decide +kernel
theorem dX7_code_20 : decode cX7_code 20 = .ok (.iload_n 1, 1) := by decide +kernel
theorem dX7_code_21 : decode cX7_code 21 = .ok (.invokevirtual 77, 3) := by decide +kernel
theorem dX7_code_24 : decode cX7_code 24 = .ok (.goto 21, 3) := by decide +kernel
theorem dX7_code_27 : decode cX7_code 27 = .ok (.iload_n 2, 1) := by decide +kernel
theorem dX7_code_28 : decode cX7_code 28 = .ok (.iconst 1, 1) := by decide +kernel
theorem dX7_code_29 : decode cX7_code 29 = .ok (.if_icmp .ne 11, 3) := by decide +kernel
theorem dX7_code_32 : decode cX7_code 32 = .ok (.aload_n 0, 1) := by decide +kernel
theorem dX7_code_33 : decode cX7_code 33 = .ok (.iload_n 1, 1) := by decide +kernel
theorem dX7_code_34 : decode cX7_code 34 = .ok (.invokevirtual 81, 3) := by decide +kernel
theorem dX7_code_37 : decode cX7_code 37 = .ok (.goto 8, 3) := by decide +kernel
theorem dX7_code_40 : decode cX7_code 40 = .ok (.aload_n 0, 1) := by decide +kernel
theorem dX7_code_41 : decode cX7_code 41 = .ok (.iload_n 1, 1) := by decide +kernel
theorem dX7_code_42 : decode cX7_code 42 = .ok (.invokevirtual 84, 3) := by decide +kernel
theorem dX7_code_45 : decode cX7_code 45 = .ok (.aload_n 0, 1) := by decide +kernel
theorem dX7_code_46 : decode cX7_code 46 = .ok (.aload_n 0, 1) := by decide +kernel
theorem dX7_code_47 : decode cX7_code 47 = .ok (.getfield 66, 3) := by decide +kernel
theorem dX7_code_50 : decode cX7_code 50 = .ok (.ifCond .eq 18, 3) := by decide +kernel
theorem dX7_code_53 : decode cX7_code 53 = .ok (.aload_n 0, 1) := by decide +kernel
theorem dX7_code_54 : decode cX7_code 54 = .ok (.getfield 63, 3) := by decide +kernel
theorem dX7_code_57 : decode cX7_code 57 = .ok (.aload_n 0, 1) := by decide +kernel
theorem dX7_code_58 : decode cX7_code 58 = .ok (.getfield 70, 3) := by decide +kernel
theorem dX7_code_61 : decode cX7_code 61 = .ok (.if_icmp .ne 7, 3) := by decide +kernel
theorem dX7_code_64 : decode cX7_code 64 = .ok (.iconst 1, 1) := by decide +kernel
theorem dX7_code_65 : decode cX7_code 65 = .ok (.goto 4, 3) := by decide +kernel
theorem dX7_code_68 : decode cX7_code 68 = .ok (.iconst 0, 1) := by decide +kernel
theorem dX7_code_69 : decode cX7_code 69 = .ok (.putfield 66, 3) := by decide +kernel
theorem dX7_code_72 : decode cX7_code 72 = .ok (.return_, 1) := by decide +kernel
theorem dX7_lowOf_0 : decode cX7_lowOf 0 = .ok (.iconst 0, 1) := by decide +kernel
theorem dX7_lowOf_1 : decode cX7_lowOf 1 = .ok (.istore_n 1, 1) := by decide +kernel
theorem dX7_lowOf_2 : decode cX7_lowOf 2 = .ok (.iload_n 0, 1) := by decide +kernel
theorem dX7_lowOf_3 : decode cX7_lowOf 3 = .ok (.iload_n 1, 1) := by decide +kernel
theorem dX7_lowOf_4 : decode cX7_lowOf 4 = .ok (.iconst 1, 1) := by decide +kernel
theorem dX7_lowOf_5 : decode cX7_lowOf 5 = .ok (.iadd, 1) := by decide +kernel
theorem dX7_lowOf_6 : decode cX7_lowOf 6 = .ok (.ishl, 1) := by decide +kernel
theorem dX7_lowOf_7 : decode cX7_lowOf 7 = .ok (.sipush 4096, 3) := by decide +kernel
theorem dX7_lowOf_10 : decode cX7_lowOf 10 = .ok (.if_icmp .gt 9, 3) := by decide +kernel
theorem dX7_lowOf_13 : decode cX7_lowOf 13 = .ok (.iinc 1 1, 3) := by decide +kernel
theorem dX7_lowOf_16 : decode cX7_lowOf 16 = .ok (.goto (-14), 3) := by decide +kernel
theorem dX7_lowOf_19 : decode cX7_lowOf 19 = .ok (.iload_n 1, 1) := by decide +kernel
theorem dX7_lowOf_20 : decode cX7_lowOf 20 = .ok (.ireturn, 1) := by decide +kernel
theorem dX7_tellParts_0 : decode cX7_tellParts 0 = .ok (.aload_n 0, 1) := by decide +kernel
theorem dX7_tellParts_1 : decode cX7_tellParts 1 = .ok (.iload_n 1, 1) := by decide +kernel
theorem dX7_tellParts_2 : decode cX7_tellParts 2 = .ok (.iconst 0, 1) := by decide +kernel
theorem dX7_tellParts_3 : decode cX7_tellParts 3 = .ok (.sipush 4096, 3) := by decide +kernel
theorem dX7_tellParts_6 : decode cX7_tellParts 6 = .ok (.invokevirtual 36, 3) := by decide +kernel
theorem dX7_tellParts_9 : decode cX7_tellParts 9 = .ok (.istore_n 2, 1) := by decide +kernel
theorem dX7_tellParts_10 : decode cX7_tellParts 10 = .ok (.aload_n 0, 1) := by decide +kernel
theorem dX7_tellParts_11 : decode cX7_tellParts 11 = .ok (.iload_n 2, 1) := by decide +kernel
theorem dX7_tellParts_12 : decode cX7_tellParts 12 = .ok (.bipush 13, 2) := by decide +kernel
theorem dX7_tellParts_14 : decode cX7_tellParts 14 = .ok (.invokevirtual 87, 3) := by decide +kernel
theorem dX7_tellParts_17 : decode cX7_tellParts 17 = .ok (.iload_n 2, 1) := by decide +kernel
theorem dX7_tellParts_18 : decode cX7_tellParts 18 = .ok (.ifCond .ne 4, 3) := by decide +kernel
theorem dX7_tellParts_21 : decode cX7_tellParts 21 = .ok (.return_, 1) := by decide +kernel
theorem dX7_tellParts_22 : decode cX7_tellParts 22 = .ok (.iload_n 2, 1) := by decide +kernel
theorem dX7_tellParts_23 : decode cX7_tellParts 23 = .ok (.invokestatic 91, 3) := by decide +kernel
theorem dX7_tellParts_26 : decode cX7_tellParts 26 = .ok (.istore_n 3, 1) := by decide +kernel
theorem dX7_tellParts_27 : decode cX7_tellParts 27 = .ok (.iconst 0, 1) := by decide +kernel
theorem dX7_tellParts_28 : decode cX7_tellParts 28 = .ok (.istore 4, 2) := by decide +kernel
theorem dX7_tellParts_30 : decode cX7_tellParts 30 = .ok (.iload 4, 2) := by decide +kernel
theorem dX7_tellParts_32 : decode cX7_tellParts 32 = .ok (.sipush 4096, 3) := by decide +kernel
theorem dX7_tellParts_35 : decode cX7_tellParts 35 = .ok (.if_icmp .ge 26, 3) := by decide +kernel
theorem dX7_tellParts_38 : decode cX7_tellParts 38 = .ok (.aload_n 0, 1) := by decide +kernel
theorem dX7_tellParts_39 : decode cX7_tellParts 39 = .ok (.iload_n 1, 1) := by decide +kernel
theorem dX7_tellParts_40 : decode cX7_tellParts 40 = .ok (.iload 4, 2) := by decide +kernel
theorem dX7_tellParts_42 : decode cX7_tellParts 42 = .ok (.invokevirtual 28, 3) := by decide +kernel
theorem dX7_tellParts_45 : decode cX7_tellParts 45 = .ok (.ifCond .eq 10, 3) := by decide +kernel
theorem dX7_tellParts_48 : decode cX7_tellParts 48 = .ok (.aload_n 0, 1) := by decide +kernel
theorem dX7_tellParts_49 : decode cX7_tellParts 49 = .ok (.iload 4, 2) := by decide +kernel
theorem dX7_tellParts_51 : decode cX7_tellParts 51 = .ok (.iload_n 3, 1) := by decide +kernel
theorem dX7_tellParts_52 : decode cX7_tellParts 52 = .ok (.invokevirtual 87, 3) := by decide +kernel
theorem dX7_tellParts_55 : decode cX7_tellParts 55 = .ok (.iinc 4 1, 3) := by decide +kernel
theorem dX7_tellParts_58 : decode cX7_tellParts 58 = .ok (.goto (-28), 3) := by decide +kernel
theorem dX7_tellParts_61 : decode cX7_tellParts 61 = .ok (.iconst 0, 1) := by decide +kernel
theorem dX7_tellParts_62 : decode cX7_tellParts 62 = .ok (.istore 4, 2) := by decide +kernel
theorem dX7_tellParts_64 : decode cX7_tellParts 64 = .ok (.iload 4, 2) := by decide +kernel
theorem dX7_tellParts_66 : decode cX7_tellParts 66 = .ok (.sipush 4096, 3) := by decide +kernel
theorem dX7_tellParts_69 : decode cX7_tellParts 69 = .ok (.if_icmp .ge 42, 3) := by decide +kernel
theorem dX7_tellParts_72 : decode cX7_tellParts 72 = .ok (.aload_n 0, 1) := by decide +kernel
theorem dX7_tellParts_73 : decode cX7_tellParts 73 = .ok (.iload_n 1, 1) := by decide +kernel
theorem dX7_tellParts_74 : decode cX7_tellParts 74 = .ok (.iload 4, 2) := by decide +kernel
theorem dX7_tellParts_76 : decode cX7_tellParts 76 = .ok (.invokevirtual 28, 3) := by decide +kernel
theorem dX7_tellParts_79 : decode cX7_tellParts 79 = .ok (.ifCond .eq 8, 3) := by decide +kernel
theorem dX7_tellParts_82 : decode cX7_tellParts 82 = .ok (.aload_n 0, 1) := by decide +kernel
theorem dX7_tellParts_83 : decode cX7_tellParts 83 = .ok (.iconst 1, 1) := by decide +kernel
theorem dX7_tellParts_84 : decode cX7_tellParts 84 = .ok (.invokevirtual 73, 3) := by decide +kernel
theorem dX7_tellParts_87 : decode cX7_tellParts 87 = .ok (.iload 4, 2) := by decide +kernel
theorem dX7_tellParts_89 : decode cX7_tellParts 89 = .ok (.iload_n 3, 1) := by decide +kernel
theorem dX7_tellParts_90 : decode cX7_tellParts 90 = .ok (.ishr, 1) := by decide +kernel
theorem dX7_tellParts_91 : decode cX7_tellParts 91 = .ok (.iload 4, 2) := by decide +kernel
theorem dX7_tellParts_93 : decode cX7_tellParts 93 = .ok (.iconst 1, 1) := by decide +kernel
theorem dX7_tellParts_94 : decode cX7_tellParts 94 = .ok (.iadd, 1) := by decide +kernel
theorem dX7_tellParts_95 : decode cX7_tellParts 95 = .ok (.iload_n 3, 1) := by decide +kernel
theorem dX7_tellParts_96 : decode cX7_tellParts 96 = .ok (.ishr, 1) := by decide +kernel
theorem dX7_tellParts_97 : decode cX7_tellParts 97 = .ok (.if_icmp .eq 8, 3) := by decide +kernel
theorem dX7_tellParts_100 : decode cX7_tellParts 100 = .ok (.aload_n 0, 1) := by decide +kernel
theorem dX7_tellParts_101 : decode cX7_tellParts 101 = .ok (.iconst 0, 1) := by decide +kernel
theorem dX7_tellParts_102 : decode cX7_tellParts 102 = .ok (.invokevirtual 73, 3) := by decide +kernel
theorem dX7_tellParts_105 : decode cX7_tellParts 105 = .ok (.iinc 4 1, 3) := by decide +kernel
theorem dX7_tellParts_108 : decode cX7_tellParts 108 = .ok (.goto (-44), 3) := by decide +kernel
theorem dX7_tellParts_111 : decode cX7_tellParts 111 = .ok (.return_, 1) := by decide +kernel
theorem dX7_tellGaps_0 : decode cX7_tellGaps 0 = .ok (.aload_n 0, 1) := by decide +kernel
theorem dX7_tellGaps_1 : decode cX7_tellGaps 1 = .ok (.aload_n 0, 1) := by decide +kernel
theorem dX7_tellGaps_2 : decode cX7_tellGaps 2 = .ok (.iload_n 1, 1) := by decide +kernel
theorem dX7_tellGaps_3 : decode cX7_tellGaps 3 = .ok (.iconst 0, 1) := by decide +kernel
theorem dX7_tellGaps_4 : decode cX7_tellGaps 4 = .ok (.sipush 4096, 3) := by decide +kernel
theorem dX7_tellGaps_7 : decode cX7_tellGaps 7 = .ok (.invokevirtual 36, 3) := by decide +kernel
theorem dX7_tellGaps_10 : decode cX7_tellGaps 10 = .ok (.bipush 13, 2) := by decide +kernel
theorem dX7_tellGaps_12 : decode cX7_tellGaps 12 = .ok (.invokevirtual 87, 3) := by decide +kernel
theorem dX7_tellGaps_15 : decode cX7_tellGaps 15 = .ok (.iconst (-1), 1) := by decide +kernel
theorem dX7_tellGaps_16 : decode cX7_tellGaps 16 = .ok (.istore_n 2, 1) := by decide +kernel
theorem dX7_tellGaps_17 : decode cX7_tellGaps 17 = .ok (.iconst 0, 1) := by decide +kernel
theorem dX7_tellGaps_18 : decode cX7_tellGaps 18 = .ok (.istore_n 3, 1) := by decide +kernel
theorem dX7_tellGaps_19 : decode cX7_tellGaps 19 = .ok (.iload_n 3, 1) := by decide +kernel
theorem dX7_tellGaps_20 : decode cX7_tellGaps 20 = .ok (.sipush 4096, 3) := by decide +kernel
theorem dX7_tellGaps_23 : decode cX7_tellGaps 23 = .ok (.if_icmp .ge 52, 3) := by decide +kernel
theorem dX7_tellGaps_26 : decode cX7_tellGaps 26 = .ok (.aload_n 0, 1) := by decide +kernel
theorem dX7_tellGaps_27 : decode cX7_tellGaps 27 = .ok (.iload_n 1, 1) := by decide +kernel
theorem dX7_tellGaps_28 : decode cX7_tellGaps 28 = .ok (.iload_n 3, 1) := by decide +kernel
theorem dX7_tellGaps_29 : decode cX7_tellGaps 29 = .ok (.invokevirtual 28, 3) := by decide +kernel
theorem dX7_tellGaps_32 : decode cX7_tellGaps 32 = .ok (.ifCond .eq 37, 3) := by decide +kernel
theorem dX7_tellGaps_35 : decode cX7_tellGaps 35 = .ok (.iconst 1, 1) := by decide +kernel
theorem dX7_tellGaps_36 : decode cX7_tellGaps 36 = .ok (.istore 4, 2) := by decide +kernel
theorem dX7_tellGaps_38 : decode cX7_tellGaps 38 = .ok (.iconst 1, 1) := by decide +kernel
theorem dX7_tellGaps_39 : decode cX7_tellGaps 39 = .ok (.iload 4, 2) := by decide +kernel
theorem dX7_tellGaps_41 : decode cX7_tellGaps 41 = .ok (.ishl, 1) := by decide +kernel
theorem dX7_tellGaps_42 : decode cX7_tellGaps 42 = .ok (.iload_n 3, 1) := by decide +kernel
theorem dX7_tellGaps_43 : decode cX7_tellGaps 43 = .ok (.iload_n 2, 1) := by decide +kernel
theorem dX7_tellGaps_44 : decode cX7_tellGaps 44 = .ok (.isub, 1) := by decide +kernel
theorem dX7_tellGaps_45 : decode cX7_tellGaps 45 = .ok (.if_icmp .gt 9, 3) := by decide +kernel
theorem dX7_tellGaps_48 : decode cX7_tellGaps 48 = .ok (.iinc 4 1, 3) := by decide +kernel
theorem dX7_tellGaps_51 : decode cX7_tellGaps 51 = .ok (.goto (-13), 3) := by decide +kernel
theorem dX7_tellGaps_54 : decode cX7_tellGaps 54 = .ok (.aload_n 0, 1) := by decide +kernel
theorem dX7_tellGaps_55 : decode cX7_tellGaps 55 = .ok (.iload_n 3, 1) := by decide +kernel
theorem dX7_tellGaps_56 : decode cX7_tellGaps 56 = .ok (.iload_n 2, 1) := by decide +kernel
theorem dX7_tellGaps_57 : decode cX7_tellGaps 57 = .ok (.isub, 1) := by decide +kernel
theorem dX7_tellGaps_58 : decode cX7_tellGaps 58 = .ok (.iconst 2, 1) := by decide +kernel
theorem dX7_tellGaps_59 : decode cX7_tellGaps 59 = .ok (.iload 4, 2) := by decide +kernel
theorem dX7_tellGaps_61 : decode cX7_tellGaps 61 = .ok (.imul, 1) := by decide +kernel
theorem dX7_tellGaps_62 : decode cX7_tellGaps 62 = .ok (.iconst 1, 1) := by decide +kernel
theorem dX7_tellGaps_63 : decode cX7_tellGaps 63 = .ok (.isub, 1) := by decide +kernel
theorem dX7_tellGaps_64 : decode cX7_tellGaps 64 = .ok (.invokevirtual 87, 3) := by decide +kernel
theorem dX7_tellGaps_67 : decode cX7_tellGaps 67 = .ok (.iload_n 3, 1) := by decide +kernel
theorem dX7_tellGaps_68 : decode cX7_tellGaps 68 = .ok (.istore_n 2, 1) := by decide +kernel
theorem dX7_tellGaps_69 : decode cX7_tellGaps 69 = .ok (.iinc 3 1, 3) := by decide +kernel
theorem dX7_tellGaps_72 : decode cX7_tellGaps 72 = .ok (.goto (-53), 3) := by decide +kernel
theorem dX7_tellGaps_75 : decode cX7_tellGaps 75 = .ok (.return_, 1) := by decide +kernel
theorem dX7_tellPieces_0 : decode cX7_tellPieces 0 = .ok (.iconst 0, 1) := by decide +kernel
theorem dX7_tellPieces_1 : decode cX7_tellPieces 1 = .ok (.istore_n 2, 1) := by decide +kernel
theorem dX7_tellPieces_2 : decode cX7_tellPieces 2 = .ok (.iload_n 2, 1) := by decide +kernel
theorem dX7_tellPieces_3 : decode cX7_tellPieces 3 = .ok (.bipush 16, 2) := by decide +kernel
theorem dX7_tellPieces_5 : decode cX7_tellPieces 5 = .ok (.if_icmp .ge 165, 3) := by decide +kernel
theorem dX7_tellPieces_8 : decode cX7_tellPieces 8 = .ok (.aload_n 0, 1) := by decide +kernel
theorem dX7_tellPieces_9 : decode cX7_tellPieces 9 = .ok (.iload_n 1, 1) := by decide +kernel
theorem dX7_tellPieces_10 : decode cX7_tellPieces 10 = .ok (.iload_n 2, 1) := by decide +kernel
theorem dX7_tellPieces_11 : decode cX7_tellPieces 11 = .ok (.invokevirtual 56, 3) := by decide +kernel
theorem dX7_tellPieces_14 : decode cX7_tellPieces 14 = .ok (.istore_n 3, 1) := by decide +kernel
theorem dX7_tellPieces_15 : decode cX7_tellPieces 15 = .ok (.aload_n 0, 1) := by decide +kernel
theorem dX7_tellPieces_16 : decode cX7_tellPieces 16 = .ok (.iload_n 3, 1) := by decide +kernel
theorem dX7_tellPieces_17 : decode cX7_tellPieces 17 = .ok (.iconst 2, 1) := by decide +kernel
theorem dX7_tellPieces_18 : decode cX7_tellPieces 18 = .ok (.invokevirtual 87, 3) := by decide +kernel
theorem dX7_tellPieces_21 : decode cX7_tellPieces 21 = .ok (.iload_n 3, 1) := by decide +kernel
theorem dX7_tellPieces_22 : decode cX7_tellPieces 22 = .ok (.ifCond .ne 17, 3) := by decide +kernel
theorem dX7_tellPieces_25 : decode cX7_tellPieces 25 = .ok (.aload_n 0, 1) := by decide +kernel
theorem dX7_tellPieces_26 : decode cX7_tellPieces 26 = .ok (.aload_n 0, 1) := by decide +kernel
theorem dX7_tellPieces_27 : decode cX7_tellPieces 27 = .ok (.iload_n 1, 1) := by decide +kernel
theorem dX7_tellPieces_28 : decode cX7_tellPieces 28 = .ok (.iload_n 2, 1) := by decide +kernel
theorem dX7_tellPieces_29 : decode cX7_tellPieces 29 = .ok (.invokevirtual 47, 3) := by decide +kernel
theorem dX7_tellPieces_32 : decode cX7_tellPieces 32 = .ok (.iconst 1, 1) := by decide +kernel
theorem dX7_tellPieces_33 : decode cX7_tellPieces 33 = .ok (.isub, 1) := by decide +kernel
theorem dX7_tellPieces_34 : decode cX7_tellPieces 34 = .ok (.bipush 8, 2) := by decide +kernel
theorem dX7_tellPieces_36 : decode cX7_tellPieces 36 = .ok (.invokevirtual 87, 3) := by decide +kernel
theorem dX7_tellPieces_39 : decode cX7_tellPieces 39 = .ok (.iload_n 3, 1) := by decide +kernel
theorem dX7_tellPieces_40 : decode cX7_tellPieces 40 = .ok (.iconst 2, 1) := by decide +kernel
theorem dX7_tellPieces_41 : decode cX7_tellPieces 41 = .ok (.if_icmp .ne 17, 3) := by decide +kernel
theorem dX7_tellPieces_44 : decode cX7_tellPieces 44 = .ok (.aload_n 0, 1) := by decide +kernel
theorem dX7_tellPieces_45 : decode cX7_tellPieces 45 = .ok (.aload_n 0, 1) := by decide +kernel
theorem dX7_tellPieces_46 : decode cX7_tellPieces 46 = .ok (.iload_n 1, 1) := by decide +kernel
theorem dX7_tellPieces_47 : decode cX7_tellPieces 47 = .ok (.iload_n 2, 1) := by decide +kernel
theorem dX7_tellPieces_48 : decode cX7_tellPieces 48 = .ok (.invokevirtual 50, 3) := by decide +kernel
theorem dX7_tellPieces_51 : decode cX7_tellPieces 51 = .ok (.iconst 1, 1) := by decide +kernel
theorem dX7_tellPieces_52 : decode cX7_tellPieces 52 = .ok (.isub, 1) := by decide +kernel
theorem dX7_tellPieces_53 : decode cX7_tellPieces 53 = .ok (.bipush 8, 2) := by decide +kernel
theorem dX7_tellPieces_55 : decode cX7_tellPieces 55 = .ok (.invokevirtual 87, 3) := by decide +kernel
theorem dX7_tellPieces_58 : decode cX7_tellPieces 58 = .ok (.sipush 256, 3) := by decide +kernel
theorem dX7_tellPieces_61 : decode cX7_tellPieces 61 = .ok (.iload_n 2, 1) := by decide +kernel
theorem dX7_tellPieces_62 : decode cX7_tellPieces 62 = .ok (.imul, 1) := by decide +kernel
theorem dX7_tellPieces_63 : decode cX7_tellPieces 63 = .ok (.istore 4, 2) := by decide +kernel
theorem dX7_tellPieces_65 : decode cX7_tellPieces 65 = .ok (.iload 4, 2) := by decide +kernel
theorem dX7_tellPieces_67 : decode cX7_tellPieces 67 = .ok (.sipush 256, 3) := by decide +kernel
theorem dX7_tellPieces_70 : decode cX7_tellPieces 70 = .ok (.iload_n 2, 1) := by decide +kernel
theorem dX7_tellPieces_71 : decode cX7_tellPieces 71 = .ok (.imul, 1) := by decide +kernel
theorem dX7_tellPieces_72 : decode cX7_tellPieces 72 = .ok (.sipush 256, 3) := by decide +kernel
theorem dX7_tellPieces_75 : decode cX7_tellPieces 75 = .ok (.iadd, 1) := by decide +kernel
theorem dX7_tellPieces_76 : decode cX7_tellPieces 76 = .ok (.if_icmp .ge 88, 3) := by decide +kernel
theorem dX7_tellPieces_79 : decode cX7_tellPieces 79 = .ok (.iload_n 3, 1) := by decide +kernel
theorem dX7_tellPieces_80 : decode cX7_tellPieces 80 = .ok (.iconst 3, 1) := by decide +kernel
theorem dX7_tellPieces_81 : decode cX7_tellPieces 81 = .ok (.if_icmp .ge 83, 3) := by decide +kernel
theorem dX7_tellPieces_84 : decode cX7_tellPieces 84 = .ok (.iload_n 3, 1) := by decide +kernel
theorem dX7_tellPieces_85 : decode cX7_tellPieces 85 = .ok (.iconst 1, 1) := by decide +kernel
theorem dX7_tellPieces_86 : decode cX7_tellPieces 86 = .ok (.if_icmp .ne 17, 3) := by decide +kernel
theorem dX7_tellPieces_89 : decode cX7_tellPieces 89 = .ok (.aload_n 0, 1) := by decide +kernel
theorem dX7_tellPieces_90 : decode cX7_tellPieces 90 = .ok (.aload_n 0, 1) := by decide +kernel
theorem dX7_tellPieces_91 : decode cX7_tellPieces 91 = .ok (.iload_n 1, 1) := by decide +kernel
theorem dX7_tellPieces_92 : decode cX7_tellPieces 92 = .ok (.iload 4, 2) := by decide +kernel
theorem dX7_tellPieces_94 : decode cX7_tellPieces 94 = .ok (.invokevirtual 28, 3) := by decide +kernel
theorem dX7_tellPieces_97 : decode cX7_tellPieces 97 = .ok (.invokevirtual 73, 3) := by decide +kernel
theorem dX7_tellPieces_100 : decode cX7_tellPieces 100 = .ok (.goto 58, 3) := by decide +kernel
theorem dX7_tellPieces_103 : decode cX7_tellPieces 103 = .ok (.iload_n 3, 1) := by decide +kernel
theorem dX7_tellPieces_104 : decode cX7_tellPieces 104 = .ok (.ifCond .ne 16, 3) := by decide +kernel
theorem dX7_tellPieces_107 : decode cX7_tellPieces 107 = .ok (.aload_n 0, 1) := by decide +kernel
theorem dX7_tellPieces_108 : decode cX7_tellPieces 108 = .ok (.iload_n 1, 1) := by decide +kernel
theorem dX7_tellPieces_109 : decode cX7_tellPieces 109 = .ok (.iload 4, 2) := by decide +kernel
theorem dX7_tellPieces_111 : decode cX7_tellPieces 111 = .ok (.invokevirtual 28, 3) := by decide +kernel
theorem dX7_tellPieces_114 : decode cX7_tellPieces 114 = .ok (.ifCond .eq 44, 3) := by decide +kernel
theorem dX7_tellPieces_117 : decode cX7_tellPieces 117 = .ok (.goto 13, 3) := by decide +kernel
theorem dX7_tellPieces_120 : decode cX7_tellPieces 120 = .ok (.aload_n 0, 1) := by decide +kernel
theorem dX7_tellPieces_121 : decode cX7_tellPieces 121 = .ok (.iload_n 1, 1) := by decide +kernel
theorem dX7_tellPieces_122 : decode cX7_tellPieces 122 = .ok (.iload 4, 2) := by decide +kernel
theorem dX7_tellPieces_124 : decode cX7_tellPieces 124 = .ok (.invokevirtual 44, 3) := by decide +kernel
theorem dX7_tellPieces_127 : decode cX7_tellPieces 127 = .ok (.ifCond .eq 31, 3) := by decide +kernel
theorem dX7_tellPieces_130 : decode cX7_tellPieces 130 = .ok (.aload_n 0, 1) := by decide +kernel
theorem dX7_tellPieces_131 : decode cX7_tellPieces 131 = .ok (.iload 4, 2) := by decide +kernel
theorem dX7_tellPieces_133 : decode cX7_tellPieces 133 = .ok (.bipush 8, 2) := by decide +kernel
theorem dX7_tellPieces_135 : decode cX7_tellPieces 135 = .ok (.invokevirtual 87, 3) := by decide +kernel
theorem dX7_tellPieces_138 : decode cX7_tellPieces 138 = .ok (.iload_n 3, 1) := by decide +kernel
theorem dX7_tellPieces_139 : decode cX7_tellPieces 139 = .ok (.iconst 2, 1) := by decide +kernel
theorem dX7_tellPieces_140 : decode cX7_tellPieces 140 = .ok (.if_icmp .ne 18, 3) := by decide +kernel
theorem dX7_tellPieces_143 : decode cX7_tellPieces 143 = .ok (.aload_n 0, 1) := by decide +kernel
theorem dX7_tellPieces_144 : decode cX7_tellPieces 144 = .ok (.aload_n 0, 1) := by decide +kernel
theorem dX7_tellPieces_145 : decode cX7_tellPieces 145 = .ok (.iload_n 1, 1) := by decide +kernel
theorem dX7_tellPieces_146 : decode cX7_tellPieces 146 = .ok (.iload 4, 2) := by decide +kernel
theorem dX7_tellPieces_148 : decode cX7_tellPieces 148 = .ok (.invokevirtual 95, 3) := by decide +kernel
theorem dX7_tellPieces_151 : decode cX7_tellPieces 151 = .ok (.iconst 1, 1) := by decide +kernel
theorem dX7_tellPieces_152 : decode cX7_tellPieces 152 = .ok (.isub, 1) := by decide +kernel
theorem dX7_tellPieces_153 : decode cX7_tellPieces 153 = .ok (.bipush 8, 2) := by decide +kernel
theorem dX7_tellPieces_155 : decode cX7_tellPieces 155 = .ok (.invokevirtual 87, 3) := by decide +kernel
theorem dX7_tellPieces_158 : decode cX7_tellPieces 158 = .ok (.iinc 4 1, 3) := by decide +kernel
theorem dX7_tellPieces_161 : decode cX7_tellPieces 161 = .ok (.goto (-96), 3) := by decide +kernel
theorem dX7_tellPieces_164 : decode cX7_tellPieces 164 = .ok (.iinc 2 1, 3) := by decide +kernel
theorem dX7_tellPieces_167 : decode cX7_tellPieces 167 = .ok (.goto (-165), 3) := by decide +kernel
theorem dX7_tellPieces_170 : decode cX7_tellPieces 170 = .ok (.return_, 1) := by decide +kernel
theorem dX7_lengthOf_0 : decode cX7_lengthOf 0 = .ok (.iconst 1, 1) := by decide +kernel
theorem dX7_lengthOf_1 : decode cX7_lengthOf 1 = .ok (.istore_n 3, 1) := by decide +kernel
theorem dX7_lengthOf_2 : decode cX7_lengthOf 2 = .ok (.iload_n 2, 1) := by decide +kernel
theorem dX7_lengthOf_3 : decode cX7_lengthOf 3 = .ok (.iload_n 3, 1) := by decide +kernel
theorem dX7_lengthOf_4 : decode cX7_lengthOf 4 = .ok (.iadd, 1) := by decide +kernel
theorem dX7_lengthOf_5 : decode cX7_lengthOf 5 = .ok (.sipush 256, 3) := by decide +kernel
theorem dX7_lengthOf_8 : decode cX7_lengthOf 8 = .ok (.irem, 1) := by decide +kernel
theorem dX7_lengthOf_9 : decode cX7_lengthOf 9 = .ok (.ifCond .eq 20, 3) := by decide +kernel
theorem dX7_lengthOf_12 : decode cX7_lengthOf 12 = .ok (.aload_n 0, 1) := by decide +kernel
theorem dX7_lengthOf_13 : decode cX7_lengthOf 13 = .ok (.iload_n 1, 1) := by decide +kernel
theorem dX7_lengthOf_14 : decode cX7_lengthOf 14 = .ok (.iload_n 2, 1) := by decide +kernel
theorem dX7_lengthOf_15 : decode cX7_lengthOf 15 = .ok (.iload_n 3, 1) := by decide +kernel
theorem dX7_lengthOf_16 : decode cX7_lengthOf 16 = .ok (.iadd, 1) := by decide +kernel
theorem dX7_lengthOf_17 : decode cX7_lengthOf 17 = .ok (.invokevirtual 28, 3) := by decide +kernel
theorem dX7_lengthOf_20 : decode cX7_lengthOf 20 = .ok (.ifCond .eq 9, 3) := by decide +kernel
theorem dX7_lengthOf_23 : decode cX7_lengthOf 23 = .ok (.iinc 3 1, 3) := by decide +kernel
theorem dX7_lengthOf_26 : decode cX7_lengthOf 26 = .ok (.goto (-24), 3) := by decide +kernel
theorem dX7_lengthOf_29 : decode cX7_lengthOf 29 = .ok (.iload_n 3, 1) := by decide +kernel
theorem dX7_lengthOf_30 : decode cX7_lengthOf 30 = .ok (.ireturn, 1) := by decide +kernel
theorem dX7_length_0 : decode cX7_length 0 = .ok (.iload_n 1, 1) := by decide +kernel
theorem dX7_length_1 : decode cX7_length 1 = .ok (.invokestatic 21, 3) := by decide +kernel
theorem dX7_length_4 : decode cX7_length 4 = .ok (.ifCond .ne 6, 3) := by decide +kernel
theorem dX7_length_7 : decode cX7_length 7 = .ok (.bipush (-2), 2) := by decide +kernel
theorem dX7_length_9 : decode cX7_length 9 = .ok (.ireturn, 1) := by decide +kernel
theorem dX7_length_10 : decode cX7_length 10 = .ok (.iload_n 2, 1) := by decide +kernel
theorem dX7_length_11 : decode cX7_length 11 = .ok (.iconst 0, 1) := by decide +kernel
theorem dX7_length_12 : decode cX7_length 12 = .ok (.iconst 2, 1) := by decide +kernel
theorem dX7_length_13 : decode cX7_length 13 = .ok (.invokestatic 17, 3) := by decide +kernel
theorem dX7_length_16 : decode cX7_length 16 = .ok (.ifCond .ne 6, 3) := by decide +kernel
theorem dX7_length_19 : decode cX7_length 19 = .ok (.bipush (-3), 2) := by decide +kernel
theorem dX7_length_21 : decode cX7_length 21 = .ok (.ireturn, 1) := by decide +kernel
theorem dX7_length_22 : decode cX7_length 22 = .ok (.aload_n 0, 1) := by decide +kernel
theorem dX7_length_23 : decode cX7_length 23 = .ok (.iload_n 1, 1) := by decide +kernel
theorem dX7_length_24 : decode cX7_length 24 = .ok (.iload_n 2, 1) := by decide +kernel
theorem dX7_length_25 : decode cX7_length 25 = .ok (.iconst 0, 1) := by decide +kernel
theorem dX7_length_26 : decode cX7_length 26 = .ok (.invokevirtual 98, 3) := by decide +kernel
theorem dX7_length_29 : decode cX7_length 29 = .ok (.aload_n 0, 1) := by decide +kernel
theorem dX7_length_30 : decode cX7_length 30 = .ok (.getfield 63, 3) := by decide +kernel
theorem dX7_length_33 : decode cX7_length 33 = .ok (.ireturn, 1) := by decide +kernel
theorem dX7_write_0 : decode cX7_write 0 = .ok (.iload_n 1, 1) := by decide +kernel
theorem dX7_write_1 : decode cX7_write 1 = .ok (.invokestatic 21, 3) := by decide +kernel
theorem dX7_write_4 : decode cX7_write 4 = .ok (.ifCond .ne 6, 3) := by decide +kernel
theorem dX7_write_7 : decode cX7_write 7 = .ok (.bipush (-2), 2) := by decide +kernel
theorem dX7_write_9 : decode cX7_write 9 = .ok (.ireturn, 1) := by decide +kernel
theorem dX7_write_10 : decode cX7_write 10 = .ok (.iload_n 2, 1) := by decide +kernel
theorem dX7_write_11 : decode cX7_write 11 = .ok (.iconst 0, 1) := by decide +kernel
theorem dX7_write_12 : decode cX7_write 12 = .ok (.iconst 2, 1) := by decide +kernel
theorem dX7_write_13 : decode cX7_write 13 = .ok (.invokestatic 17, 3) := by decide +kernel
theorem dX7_write_16 : decode cX7_write 16 = .ok (.ifCond .ne 6, 3) := by decide +kernel
theorem dX7_write_19 : decode cX7_write 19 = .ok (.bipush (-3), 2) := by decide +kernel
theorem dX7_write_21 : decode cX7_write 21 = .ok (.ireturn, 1) := by decide +kernel
theorem dX7_write_22 : decode cX7_write 22 = .ok (.aload_n 0, 1) := by decide +kernel
theorem dX7_write_23 : decode cX7_write 23 = .ok (.iload_n 1, 1) := by decide +kernel
theorem dX7_write_24 : decode cX7_write 24 = .ok (.iload_n 2, 1) := by decide +kernel
theorem dX7_write_25 : decode cX7_write 25 = .ok (.iconst 1, 1) := by decide +kernel
theorem dX7_write_26 : decode cX7_write 26 = .ok (.invokevirtual 98, 3) := by decide +kernel
theorem dX7_write_29 : decode cX7_write 29 = .ok (.aload_n 0, 1) := by decide +kernel
theorem dX7_write_30 : decode cX7_write 30 = .ok (.aload_n 0, 1) := by decide +kernel
theorem dX7_write_31 : decode cX7_write 31 = .ok (.getfield 63, 3) := by decide +kernel
theorem dX7_write_34 : decode cX7_write 34 = .ok (.putfield 70, 3) := by decide +kernel
theorem dX7_write_37 : decode cX7_write 37 = .ok (.aload_n 0, 1) := by decide +kernel
theorem dX7_write_38 : decode cX7_write 38 = .ok (.getfield 70, 3) := by decide +kernel
theorem dX7_write_41 : decode cX7_write 41 = .ok (.ireturn, 1) := by decide +kernel
theorem dX7_take_0 : decode cX7_take 0 = .ok (.aload_n 0, 1) := by decide +kernel
theorem dX7_take_1 : decode cX7_take 1 = .ok (.dup, 1) := by decide +kernel
theorem dX7_take_2 : decode cX7_take 2 = .ok (.getfield 102, 3) := by decide +kernel
theorem dX7_take_5 : decode cX7_take 5 = .ok (.iconst 1, 1) := by decide +kernel
theorem dX7_take_6 : decode cX7_take 6 = .ok (.iadd, 1) := by decide +kernel
theorem dX7_take_7 : decode cX7_take 7 = .ok (.putfield 102, 3) := by decide +kernel
theorem dX7_take_10 : decode cX7_take 10 = .ok (.aload_n 0, 1) := by decide +kernel
theorem dX7_take_11 : decode cX7_take 11 = .ok (.getfield 102, 3) := by decide +kernel
theorem dX7_take_14 : decode cX7_take 14 = .ok (.aload_n 0, 1) := by decide +kernel
theorem dX7_take_15 : decode cX7_take 15 = .ok (.getfield 70, 3) := by decide +kernel
theorem dX7_take_18 : decode cX7_take 18 = .ok (.if_icmp .gt 21, 3) := by decide +kernel
theorem dX7_take_21 : decode cX7_take 21 = .ok (.aload_n 0, 1) := by decide +kernel
theorem dX7_take_22 : decode cX7_take 22 = .ok (.getfield 14, 3) := by decide +kernel
theorem dX7_take_25 : decode cX7_take 25 = .ok (.aload_n 0, 1) := by decide +kernel
theorem dX7_take_26 : decode cX7_take 26 = .ok (.getfield 102, 3) := by decide +kernel
theorem dX7_take_29 : decode cX7_take 29 = .ok (.iconst 1, 1) := by decide +kernel
theorem dX7_take_30 : decode cX7_take 30 = .ok (.isub, 1) := by decide +kernel
theorem dX7_take_31 : decode cX7_take 31 = .ok (.baload, 1) := by decide +kernel
theorem dX7_take_32 : decode cX7_take 32 = .ok (.ifCond .eq 7, 3) := by decide +kernel
theorem dX7_take_35 : decode cX7_take 35 = .ok (.iconst 1, 1) := by decide +kernel
theorem dX7_take_36 : decode cX7_take 36 = .ok (.goto 4, 3) := by decide +kernel
theorem dX7_take_39 : decode cX7_take 39 = .ok (.iconst 0, 1) := by decide +kernel
theorem dX7_take_40 : decode cX7_take 40 = .ok (.ireturn, 1) := by decide +kernel
theorem dX7_takeNumber_0 : decode cX7_takeNumber 0 = .ok (.iconst 0, 1) := by decide +kernel
theorem dX7_takeNumber_1 : decode cX7_takeNumber 1 = .ok (.istore_n 2, 1) := by decide +kernel
theorem dX7_takeNumber_2 : decode cX7_takeNumber 2 = .ok (.iconst 0, 1) := by decide +kernel
theorem dX7_takeNumber_3 : decode cX7_takeNumber 3 = .ok (.istore_n 3, 1) := by decide +kernel
theorem dX7_takeNumber_4 : decode cX7_takeNumber 4 = .ok (.iload_n 3, 1) := by decide +kernel
theorem dX7_takeNumber_5 : decode cX7_takeNumber 5 = .ok (.iload_n 1, 1) := by decide +kernel
theorem dX7_takeNumber_6 : decode cX7_takeNumber 6 = .ok (.if_icmp .ge 26, 3) := by decide +kernel
theorem dX7_takeNumber_9 : decode cX7_takeNumber 9 = .ok (.iconst 2, 1) := by decide +kernel
theorem dX7_takeNumber_10 : decode cX7_takeNumber 10 = .ok (.iload_n 2, 1) := by decide +kernel
theorem dX7_takeNumber_11 : decode cX7_takeNumber 11 = .ok (.imul, 1) := by decide +kernel
theorem dX7_takeNumber_12 : decode cX7_takeNumber 12 = .ok (.aload_n 0, 1) := by decide +kernel
theorem dX7_takeNumber_13 : decode cX7_takeNumber 13 = .ok (.invokevirtual 105, 3) := by decide +kernel
theorem dX7_takeNumber_16 : decode cX7_takeNumber 16 = .ok (.ifCond .eq 7, 3) := by decide +kernel
theorem dX7_takeNumber_19 : decode cX7_takeNumber 19 = .ok (.iconst 1, 1) := by decide +kernel
theorem dX7_takeNumber_20 : decode cX7_takeNumber 20 = .ok (.goto 4, 3) := by decide +kernel
theorem dX7_takeNumber_23 : decode cX7_takeNumber 23 = .ok (.iconst 0, 1) := by decide +kernel
theorem dX7_takeNumber_24 : decode cX7_takeNumber 24 = .ok (.iadd, 1) := by decide +kernel
theorem dX7_takeNumber_25 : decode cX7_takeNumber 25 = .ok (.istore_n 2, 1) := by decide +kernel
theorem dX7_takeNumber_26 : decode cX7_takeNumber 26 = .ok (.iinc 3 1, 3) := by decide +kernel
theorem dX7_takeNumber_29 : decode cX7_takeNumber 29 = .ok (.goto (-25), 3) := by decide +kernel
theorem dX7_takeNumber_32 : decode cX7_takeNumber 32 = .ok (.iload_n 2, 1) := by decide +kernel
theorem dX7_takeNumber_33 : decode cX7_takeNumber 33 = .ok (.ireturn, 1) := by decide +kernel
theorem dX7_mark_0 : decode cX7_mark 0 = .ok (.iload_n 1, 1) := by decide +kernel
theorem dX7_mark_1 : decode cX7_mark 1 = .ok (.invokestatic 25, 3) := by decide +kernel
theorem dX7_mark_4 : decode cX7_mark 4 = .ok (.ifCond .eq 13, 3) := by decide +kernel
theorem dX7_mark_7 : decode cX7_mark 7 = .ok (.aload_n 0, 1) := by decide +kernel
theorem dX7_mark_8 : decode cX7_mark 8 = .ok (.getfield 8, 3) := by decide +kernel
theorem dX7_mark_11 : decode cX7_mark 11 = .ok (.ldc 109, 2) := by decide +kernel
theorem dX7_mark_13 : decode cX7_mark 13 = .ok (.iload_n 1, 1) := by decide +kernel
theorem dX7_mark_14 : decode cX7_mark 14 = .ok (.iadd, 1) := by decide +kernel
theorem dX7_mark_15 : decode cX7_mark 15 = .ok (.iconst 1, 1) := by decide +kernel
theorem dX7_mark_16 : decode cX7_mark 16 = .ok (.bastore, 1) := by decide +kernel
theorem dX7_mark_17 : decode cX7_mark 17 = .ok (.return_, 1) := by decide +kernel
theorem dX7_isCode_0 : decode cX7_isCode 0 = .ok (.iconst 0, 1) := by decide +kernel
theorem dX7_isCode_1 : decode cX7_isCode 1 = .ok (.istore_n 2, 1) := by decide +kernel
theorem dX7_isCode_2 : decode cX7_isCode 2 = .ok (.iload_n 2, 1) := by decide +kernel
theorem dX7_isCode_3 : decode cX7_isCode 3 = .ok (.sipush 4096, 3) := by decide +kernel
theorem dX7_isCode_6 : decode cX7_isCode 6 = .ok (.if_icmp .ge 19, 3) := by decide +kernel
theorem dX7_isCode_9 : decode cX7_isCode 9 = .ok (.aload_n 0, 1) := by decide +kernel
theorem dX7_isCode_10 : decode cX7_isCode 10 = .ok (.getfield 8, 3) := by decide +kernel
theorem dX7_isCode_13 : decode cX7_isCode 13 = .ok (.ldc 109, 2) := by decide +kernel
theorem dX7_isCode_15 : decode cX7_isCode 15 = .ok (.iload_n 2, 1) := by decide +kernel
theorem dX7_isCode_16 : decode cX7_isCode 16 = .ok (.iadd, 1) := by decide +kernel
theorem dX7_isCode_17 : decode cX7_isCode 17 = .ok (.iconst 0, 1) := by decide +kernel
theorem dX7_isCode_18 : decode cX7_isCode 18 = .ok (.bastore, 1) := by decide +kernel
theorem dX7_isCode_19 : decode cX7_isCode 19 = .ok (.iinc 2 1, 3) := by decide +kernel
theorem dX7_isCode_22 : decode cX7_isCode 22 = .ok (.goto (-20), 3) := by decide +kernel
theorem dX7_isCode_25 : decode cX7_isCode 25 = .ok (.aload_n 0, 1) := by decide +kernel
theorem dX7_isCode_26 : decode cX7_isCode 26 = .ok (.iconst 0, 1) := by decide +kernel
theorem dX7_isCode_27 : decode cX7_isCode 27 = .ok (.putfield 102, 3) := by decide +kernel
theorem dX7_isCode_30 : decode cX7_isCode 30 = .ok (.iload_n 1, 1) := by decide +kernel
theorem dX7_isCode_31 : decode cX7_isCode 31 = .ok (.ifCond .ne 10, 3) := by decide +kernel
theorem dX7_isCode_34 : decode cX7_isCode 34 = .ok (.aload_n 0, 1) := by decide +kernel
theorem dX7_isCode_35 : decode cX7_isCode 35 = .ok (.invokevirtual 110, 3) := by decide +kernel
theorem dX7_isCode_38 : decode cX7_isCode 38 = .ok (.goto 19, 3) := by decide +kernel
theorem dX7_isCode_41 : decode cX7_isCode 41 = .ok (.iload_n 1, 1) := by decide +kernel
theorem dX7_isCode_42 : decode cX7_isCode 42 = .ok (.iconst 1, 1) := by decide +kernel
theorem dX7_isCode_43 : decode cX7_isCode 43 = .ok (.if_icmp .ne 10, 3) := by decide +kernel
theorem dX7_isCode_46 : decode cX7_isCode 46 = .ok (.aload_n 0, 1) := by decide +kernel
theorem dX7_isCode_47 : decode cX7_isCode 47 = .ok (.invokevirtual 113, 3) := by decide +kernel
theorem dX7_isCode_50 : decode cX7_isCode 50 = .ok (.goto 7, 3) := by decide +kernel
theorem dX7_isCode_53 : decode cX7_isCode 53 = .ok (.aload_n 0, 1) := by decide +kernel
theorem dX7_isCode_54 : decode cX7_isCode 54 = .ok (.invokevirtual 116, 3) := by decide +kernel
theorem dX7_isCode_57 : decode cX7_isCode 57 = .ok (.aload_n 0, 1) := by decide +kernel
theorem dX7_isCode_58 : decode cX7_isCode 58 = .ok (.bipush 8, 2) := by decide +kernel
theorem dX7_isCode_60 : decode cX7_isCode 60 = .ok (.iload_n 1, 1) := by decide +kernel
theorem dX7_isCode_61 : decode cX7_isCode 61 = .ok (.iconst 2, 1) := by decide +kernel
theorem dX7_isCode_62 : decode cX7_isCode 62 = .ok (.invokevirtual 98, 3) := by decide +kernel
theorem dX7_isCode_65 : decode cX7_isCode 65 = .ok (.aload_n 0, 1) := by decide +kernel
theorem dX7_isCode_66 : decode cX7_isCode 66 = .ok (.getfield 66, 3) := by decide +kernel
theorem dX7_isCode_69 : decode cX7_isCode 69 = .ok (.ireturn, 1) := by decide +kernel
theorem dX7_takeParts_0 : decode cX7_takeParts 0 = .ok (.aload_n 0, 1) := by decide +kernel
theorem dX7_takeParts_1 : decode cX7_takeParts 1 = .ok (.bipush 13, 2) := by decide +kernel
theorem dX7_takeParts_3 : decode cX7_takeParts 3 = .ok (.invokevirtual 119, 3) := by decide +kernel
theorem dX7_takeParts_6 : decode cX7_takeParts 6 = .ok (.istore_n 1, 1) := by decide +kernel
theorem dX7_takeParts_7 : decode cX7_takeParts 7 = .ok (.iload_n 1, 1) := by decide +kernel
theorem dX7_takeParts_8 : decode cX7_takeParts 8 = .ok (.ifCond .eq 10, 3) := by decide +kernel
theorem dX7_takeParts_11 : decode cX7_takeParts 11 = .ok (.iload_n 1, 1) := by decide +kernel
theorem dX7_takeParts_12 : decode cX7_takeParts 12 = .ok (.sipush 4096, 3) := by decide +kernel
theorem dX7_takeParts_15 : decode cX7_takeParts 15 = .ok (.if_icmp .le 4, 3) := by decide +kernel
theorem dX7_takeParts_18 : decode cX7_takeParts 18 = .ok (.return_, 1) := by decide +kernel
theorem dX7_takeParts_19 : decode cX7_takeParts 19 = .ok (.iload_n 1, 1) := by decide +kernel
theorem dX7_takeParts_20 : decode cX7_takeParts 20 = .ok (.invokestatic 91, 3) := by decide +kernel
theorem dX7_takeParts_23 : decode cX7_takeParts 23 = .ok (.istore_n 2, 1) := by decide +kernel
theorem dX7_takeParts_24 : decode cX7_takeParts 24 = .ok (.aload_n 0, 1) := by decide +kernel
theorem dX7_takeParts_25 : decode cX7_takeParts 25 = .ok (.getfield 102, 3) := by decide +kernel
theorem dX7_takeParts_28 : decode cX7_takeParts 28 = .ok (.istore_n 3, 1) := by decide +kernel
theorem dX7_takeParts_29 : decode cX7_takeParts 29 = .ok (.iload_n 3, 1) := by decide +kernel
theorem dX7_takeParts_30 : decode cX7_takeParts 30 = .ok (.iload_n 1, 1) := by decide +kernel
theorem dX7_takeParts_31 : decode cX7_takeParts 31 = .ok (.iload_n 2, 1) := by decide +kernel
theorem dX7_takeParts_32 : decode cX7_takeParts 32 = .ok (.imul, 1) := by decide +kernel
theorem dX7_takeParts_33 : decode cX7_takeParts 33 = .ok (.iadd, 1) := by decide +kernel
theorem dX7_takeParts_34 : decode cX7_takeParts 34 = .ok (.istore 4, 2) := by decide +kernel
theorem dX7_takeParts_36 : decode cX7_takeParts 36 = .ok (.iconst 0, 1) := by decide +kernel
theorem dX7_takeParts_37 : decode cX7_takeParts 37 = .ok (.istore 5, 2) := by decide +kernel
theorem dX7_takeParts_39 : decode cX7_takeParts 39 = .ok (.iconst 0, 1) := by decide +kernel
theorem dX7_takeParts_40 : decode cX7_takeParts 40 = .ok (.istore 6, 2) := by decide +kernel
theorem dX7_takeParts_42 : decode cX7_takeParts 42 = .ok (.iload 6, 2) := by decide +kernel
theorem dX7_takeParts_44 : decode cX7_takeParts 44 = .ok (.iload_n 1, 1) := by decide +kernel
theorem dX7_takeParts_45 : decode cX7_takeParts 45 = .ok (.if_icmp .ge 61, 3) := by decide +kernel
theorem dX7_takeParts_48 : decode cX7_takeParts 48 = .ok (.iload 4, 2) := by decide +kernel
theorem dX7_takeParts_50 : decode cX7_takeParts 50 = .ok (.aload_n 0, 1) := by decide +kernel
theorem dX7_takeParts_51 : decode cX7_takeParts 51 = .ok (.getfield 70, 3) := by decide +kernel
theorem dX7_takeParts_54 : decode cX7_takeParts 54 = .ok (.if_icmp .ge 52, 3) := by decide +kernel
theorem dX7_takeParts_57 : decode cX7_takeParts 57 = .ok (.aload_n 0, 1) := by decide +kernel
theorem dX7_takeParts_58 : decode cX7_takeParts 58 = .ok (.getfield 14, 3) := by decide +kernel
theorem dX7_takeParts_61 : decode cX7_takeParts 61 = .ok (.iload 4, 2) := by decide +kernel
theorem dX7_takeParts_63 : decode cX7_takeParts 63 = .ok (.baload, 1) := by decide +kernel
theorem dX7_takeParts_64 : decode cX7_takeParts 64 = .ok (.ifCond .eq 33, 3) := by decide +kernel
theorem dX7_takeParts_67 : decode cX7_takeParts 67 = .ok (.aload_n 0, 1) := by decide +kernel
theorem dX7_takeParts_68 : decode cX7_takeParts 68 = .ok (.iload_n 3, 1) := by decide +kernel
theorem dX7_takeParts_69 : decode cX7_takeParts 69 = .ok (.iload 6, 2) := by decide +kernel
theorem dX7_takeParts_71 : decode cX7_takeParts 71 = .ok (.iload_n 2, 1) := by decide +kernel
theorem dX7_takeParts_72 : decode cX7_takeParts 72 = .ok (.imul, 1) := by decide +kernel
theorem dX7_takeParts_73 : decode cX7_takeParts 73 = .ok (.iadd, 1) := by decide +kernel
theorem dX7_takeParts_74 : decode cX7_takeParts 74 = .ok (.putfield 102, 3) := by decide +kernel
theorem dX7_takeParts_77 : decode cX7_takeParts 77 = .ok (.aload_n 0, 1) := by decide +kernel
theorem dX7_takeParts_78 : decode cX7_takeParts 78 = .ok (.iload 5, 2) := by decide +kernel
theorem dX7_takeParts_80 : decode cX7_takeParts 80 = .ok (.iload_n 2, 1) := by decide +kernel
theorem dX7_takeParts_81 : decode cX7_takeParts 81 = .ok (.ishl, 1) := by decide +kernel
theorem dX7_takeParts_82 : decode cX7_takeParts 82 = .ok (.aload_n 0, 1) := by decide +kernel
theorem dX7_takeParts_83 : decode cX7_takeParts 83 = .ok (.iload_n 2, 1) := by decide +kernel
theorem dX7_takeParts_84 : decode cX7_takeParts 84 = .ok (.invokevirtual 119, 3) := by decide +kernel
theorem dX7_takeParts_87 : decode cX7_takeParts 87 = .ok (.iadd, 1) := by decide +kernel
theorem dX7_takeParts_88 : decode cX7_takeParts 88 = .ok (.invokevirtual 122, 3) := by decide +kernel
theorem dX7_takeParts_91 : decode cX7_takeParts 91 = .ok (.iinc 6 1, 3) := by decide +kernel
theorem dX7_takeParts_94 : decode cX7_takeParts 94 = .ok (.goto 6, 3) := by decide +kernel
theorem dX7_takeParts_97 : decode cX7_takeParts 97 = .ok (.iinc 5 1, 3) := by decide +kernel
theorem dX7_takeParts_100 : decode cX7_takeParts 100 = .ok (.iinc 4 1, 3) := by decide +kernel
theorem dX7_takeParts_103 : decode cX7_takeParts 103 = .ok (.goto (-61), 3) := by decide +kernel
theorem dX7_takeParts_106 : decode cX7_takeParts 106 = .ok (.return_, 1) := by decide +kernel
theorem dX7_takeGaps_0 : decode cX7_takeGaps 0 = .ok (.aload_n 0, 1) := by decide +kernel
theorem dX7_takeGaps_1 : decode cX7_takeGaps 1 = .ok (.bipush 13, 2) := by decide +kernel
theorem dX7_takeGaps_3 : decode cX7_takeGaps 3 = .ok (.invokevirtual 119, 3) := by decide +kernel
theorem dX7_takeGaps_6 : decode cX7_takeGaps 6 = .ok (.istore_n 1, 1) := by decide +kernel
theorem dX7_takeGaps_7 : decode cX7_takeGaps 7 = .ok (.iconst (-1), 1) := by decide +kernel
theorem dX7_takeGaps_8 : decode cX7_takeGaps 8 = .ok (.istore_n 2, 1) := by decide +kernel
theorem dX7_takeGaps_9 : decode cX7_takeGaps 9 = .ok (.iconst 0, 1) := by decide +kernel
theorem dX7_takeGaps_10 : decode cX7_takeGaps 10 = .ok (.istore_n 3, 1) := by decide +kernel
theorem dX7_takeGaps_11 : decode cX7_takeGaps 11 = .ok (.iload_n 3, 1) := by decide +kernel
theorem dX7_takeGaps_12 : decode cX7_takeGaps 12 = .ok (.iload_n 1, 1) := by decide +kernel
theorem dX7_takeGaps_13 : decode cX7_takeGaps 13 = .ok (.if_icmp .ge 108, 3) := by decide +kernel
theorem dX7_takeGaps_16 : decode cX7_takeGaps 16 = .ok (.aload_n 0, 1) := by decide +kernel
theorem dX7_takeGaps_17 : decode cX7_takeGaps 17 = .ok (.getfield 102, 3) := by decide +kernel
theorem dX7_takeGaps_20 : decode cX7_takeGaps 20 = .ok (.aload_n 0, 1) := by decide +kernel
theorem dX7_takeGaps_21 : decode cX7_takeGaps 21 = .ok (.getfield 70, 3) := by decide +kernel
theorem dX7_takeGaps_24 : decode cX7_takeGaps 24 = .ok (.if_icmp .ge 97, 3) := by decide +kernel
theorem dX7_takeGaps_27 : decode cX7_takeGaps 27 = .ok (.iconst 1, 1) := by decide +kernel
theorem dX7_takeGaps_28 : decode cX7_takeGaps 28 = .ok (.istore 4, 2) := by decide +kernel
theorem dX7_takeGaps_30 : decode cX7_takeGaps 30 = .ok (.iload 4, 2) := by decide +kernel
theorem dX7_takeGaps_32 : decode cX7_takeGaps 32 = .ok (.bipush 13, 2) := by decide +kernel
theorem dX7_takeGaps_34 : decode cX7_takeGaps 34 = .ok (.if_icmp .ge 16, 3) := by decide +kernel
theorem dX7_takeGaps_37 : decode cX7_takeGaps 37 = .ok (.aload_n 0, 1) := by decide +kernel
theorem dX7_takeGaps_38 : decode cX7_takeGaps 38 = .ok (.invokevirtual 105, 3) := by decide +kernel
theorem dX7_takeGaps_41 : decode cX7_takeGaps 41 = .ok (.ifCond .ne 9, 3) := by decide +kernel
theorem dX7_takeGaps_44 : decode cX7_takeGaps 44 = .ok (.iinc 4 1, 3) := by decide +kernel
theorem dX7_takeGaps_47 : decode cX7_takeGaps 47 = .ok (.goto (-17), 3) := by decide +kernel
theorem dX7_takeGaps_50 : decode cX7_takeGaps 50 = .ok (.iload 4, 2) := by decide +kernel
theorem dX7_takeGaps_52 : decode cX7_takeGaps 52 = .ok (.bipush 13, 2) := by decide +kernel
theorem dX7_takeGaps_54 : decode cX7_takeGaps 54 = .ok (.if_icmp .ne 13, 3) := by decide +kernel
theorem dX7_takeGaps_57 : decode cX7_takeGaps 57 = .ok (.aload_n 0, 1) := by decide +kernel
theorem dX7_takeGaps_58 : decode cX7_takeGaps 58 = .ok (.dup, 1) := by decide +kernel
theorem dX7_takeGaps_59 : decode cX7_takeGaps 59 = .ok (.getfield 102, 3) := by decide +kernel
theorem dX7_takeGaps_62 : decode cX7_takeGaps 62 = .ok (.iconst 1, 1) := by decide +kernel
theorem dX7_takeGaps_63 : decode cX7_takeGaps 63 = .ok (.iadd, 1) := by decide +kernel
theorem dX7_takeGaps_64 : decode cX7_takeGaps 64 = .ok (.putfield 102, 3) := by decide +kernel
theorem dX7_takeGaps_67 : decode cX7_takeGaps 67 = .ok (.iconst 1, 1) := by decide +kernel
theorem dX7_takeGaps_68 : decode cX7_takeGaps 68 = .ok (.istore 5, 2) := by decide +kernel
theorem dX7_takeGaps_70 : decode cX7_takeGaps 70 = .ok (.iconst 1, 1) := by decide +kernel
theorem dX7_takeGaps_71 : decode cX7_takeGaps 71 = .ok (.istore 6, 2) := by decide +kernel
theorem dX7_takeGaps_73 : decode cX7_takeGaps 73 = .ok (.iload 6, 2) := by decide +kernel
theorem dX7_takeGaps_75 : decode cX7_takeGaps 75 = .ok (.iload 4, 2) := by decide +kernel
theorem dX7_takeGaps_77 : decode cX7_takeGaps 77 = .ok (.if_icmp .ge 28, 3) := by decide +kernel
theorem dX7_takeGaps_80 : decode cX7_takeGaps 80 = .ok (.iconst 2, 1) := by decide +kernel
theorem dX7_takeGaps_81 : decode cX7_takeGaps 81 = .ok (.iload 5, 2) := by decide +kernel
theorem dX7_takeGaps_83 : decode cX7_takeGaps 83 = .ok (.imul, 1) := by decide +kernel
theorem dX7_takeGaps_84 : decode cX7_takeGaps 84 = .ok (.aload_n 0, 1) := by decide +kernel
theorem dX7_takeGaps_85 : decode cX7_takeGaps 85 = .ok (.invokevirtual 105, 3) := by decide +kernel
theorem dX7_takeGaps_88 : decode cX7_takeGaps 88 = .ok (.ifCond .eq 7, 3) := by decide +kernel
theorem dX7_takeGaps_91 : decode cX7_takeGaps 91 = .ok (.iconst 1, 1) := by decide +kernel
theorem dX7_takeGaps_92 : decode cX7_takeGaps 92 = .ok (.goto 4, 3) := by decide +kernel
theorem dX7_takeGaps_95 : decode cX7_takeGaps 95 = .ok (.iconst 0, 1) := by decide +kernel
theorem dX7_takeGaps_96 : decode cX7_takeGaps 96 = .ok (.iadd, 1) := by decide +kernel
theorem dX7_takeGaps_97 : decode cX7_takeGaps 97 = .ok (.istore 5, 2) := by decide +kernel
theorem dX7_takeGaps_99 : decode cX7_takeGaps 99 = .ok (.iinc 6 1, 3) := by decide +kernel
theorem dX7_takeGaps_102 : decode cX7_takeGaps 102 = .ok (.goto (-29), 3) := by decide +kernel
theorem dX7_takeGaps_105 : decode cX7_takeGaps 105 = .ok (.iload_n 2, 1) := by decide +kernel
theorem dX7_takeGaps_106 : decode cX7_takeGaps 106 = .ok (.iload 5, 2) := by decide +kernel
theorem dX7_takeGaps_108 : decode cX7_takeGaps 108 = .ok (.iadd, 1) := by decide +kernel
theorem dX7_takeGaps_109 : decode cX7_takeGaps 109 = .ok (.istore_n 2, 1) := by decide +kernel
theorem dX7_takeGaps_110 : decode cX7_takeGaps 110 = .ok (.aload_n 0, 1) := by decide +kernel
theorem dX7_takeGaps_111 : decode cX7_takeGaps 111 = .ok (.iload_n 2, 1) := by decide +kernel
theorem dX7_takeGaps_112 : decode cX7_takeGaps 112 = .ok (.invokevirtual 122, 3) := by decide +kernel
theorem dX7_takeGaps_115 : decode cX7_takeGaps 115 = .ok (.iinc 3 1, 3) := by decide +kernel
theorem dX7_takeGaps_118 : decode cX7_takeGaps 118 = .ok (.goto (-107), 3) := by decide +kernel
theorem dX7_takeGaps_121 : decode cX7_takeGaps 121 = .ok (.return_, 1) := by decide +kernel
theorem dX7_takePieces_0 : decode cX7_takePieces 0 = .ok (.iconst 0, 1) := by decide +kernel
theorem dX7_takePieces_1 : decode cX7_takePieces 1 = .ok (.istore_n 1, 1) := by decide +kernel
theorem dX7_takePieces_2 : decode cX7_takePieces 2 = .ok (.iload_n 1, 1) := by decide +kernel
theorem dX7_takePieces_3 : decode cX7_takePieces 3 = .ok (.bipush 16, 2) := by decide +kernel
theorem dX7_takePieces_5 : decode cX7_takePieces 5 = .ok (.if_icmp .ge 165, 3) := by decide +kernel
theorem dX7_takePieces_8 : decode cX7_takePieces 8 = .ok (.aload_n 0, 1) := by decide +kernel
theorem dX7_takePieces_9 : decode cX7_takePieces 9 = .ok (.iconst 2, 1) := by decide +kernel
theorem dX7_takePieces_10 : decode cX7_takePieces 10 = .ok (.invokevirtual 119, 3) := by decide +kernel
theorem dX7_takePieces_13 : decode cX7_takePieces 13 = .ok (.istore_n 2, 1) := by decide +kernel
theorem dX7_takePieces_14 : decode cX7_takePieces 14 = .ok (.iload_n 2, 1) := by decide +kernel
theorem dX7_takePieces_15 : decode cX7_takePieces 15 = .ok (.ifCond .eq 8, 3) := by decide +kernel
theorem dX7_takePieces_18 : decode cX7_takePieces 18 = .ok (.iload_n 2, 1) := by decide +kernel
theorem dX7_takePieces_19 : decode cX7_takePieces 19 = .ok (.iconst 2, 1) := by decide +kernel
theorem dX7_takePieces_20 : decode cX7_takePieces 20 = .ok (.if_icmp .ne 14, 3) := by decide +kernel
theorem dX7_takePieces_23 : decode cX7_takePieces 23 = .ok (.aload_n 0, 1) := by decide +kernel
theorem dX7_takePieces_24 : decode cX7_takePieces 24 = .ok (.bipush 8, 2) := by decide +kernel
theorem dX7_takePieces_26 : decode cX7_takePieces 26 = .ok (.invokevirtual 119, 3) := by decide +kernel
theorem dX7_takePieces_29 : decode cX7_takePieces 29 = .ok (.iconst 1, 1) := by decide +kernel
theorem dX7_takePieces_30 : decode cX7_takePieces 30 = .ok (.iadd, 1) := by decide +kernel
theorem dX7_takePieces_31 : decode cX7_takePieces 31 = .ok (.goto 15, 3) := by decide +kernel
theorem dX7_takePieces_34 : decode cX7_takePieces 34 = .ok (.iload_n 2, 1) := by decide +kernel
theorem dX7_takePieces_35 : decode cX7_takePieces 35 = .ok (.iconst 1, 1) := by decide +kernel
theorem dX7_takePieces_36 : decode cX7_takePieces 36 = .ok (.if_icmp .ne 9, 3) := by decide +kernel
theorem dX7_takePieces_39 : decode cX7_takePieces 39 = .ok (.sipush 256, 3) := by decide +kernel
theorem dX7_takePieces_42 : decode cX7_takePieces 42 = .ok (.goto 4, 3) := by decide +kernel
theorem dX7_takePieces_45 : decode cX7_takePieces 45 = .ok (.iconst 0, 1) := by decide +kernel
theorem dX7_takePieces_46 : decode cX7_takePieces 46 = .ok (.istore_n 3, 1) := by decide +kernel
theorem dX7_takePieces_47 : decode cX7_takePieces 47 = .ok (.iconst 0, 1) := by decide +kernel
theorem dX7_takePieces_48 : decode cX7_takePieces 48 = .ok (.istore 4, 2) := by decide +kernel
theorem dX7_takePieces_50 : decode cX7_takePieces 50 = .ok (.iload 4, 2) := by decide +kernel
theorem dX7_takePieces_52 : decode cX7_takePieces 52 = .ok (.iload_n 3, 1) := by decide +kernel
theorem dX7_takePieces_53 : decode cX7_takePieces 53 = .ok (.if_icmp .ge 111, 3) := by decide +kernel
theorem dX7_takePieces_56 : decode cX7_takePieces 56 = .ok (.sipush 256, 3) := by decide +kernel
theorem dX7_takePieces_59 : decode cX7_takePieces 59 = .ok (.iload_n 1, 1) := by decide +kernel
theorem dX7_takePieces_60 : decode cX7_takePieces 60 = .ok (.imul, 1) := by decide +kernel
theorem dX7_takePieces_61 : decode cX7_takePieces 61 = .ok (.iload_n 2, 1) := by decide +kernel
theorem dX7_takePieces_62 : decode cX7_takePieces 62 = .ok (.iconst 1, 1) := by decide +kernel
theorem dX7_takePieces_63 : decode cX7_takePieces 63 = .ok (.if_icmp .ne 8, 3) := by decide +kernel
theorem dX7_takePieces_66 : decode cX7_takePieces 66 = .ok (.iload 4, 2) := by decide +kernel
theorem dX7_takePieces_68 : decode cX7_takePieces 68 = .ok (.goto 9, 3) := by decide +kernel
theorem dX7_takePieces_71 : decode cX7_takePieces 71 = .ok (.aload_n 0, 1) := by decide +kernel
theorem dX7_takePieces_72 : decode cX7_takePieces 72 = .ok (.bipush 8, 2) := by decide +kernel
theorem dX7_takePieces_74 : decode cX7_takePieces 74 = .ok (.invokevirtual 119, 3) := by decide +kernel
theorem dX7_takePieces_77 : decode cX7_takePieces 77 = .ok (.iadd, 1) := by decide +kernel
end
section
theorem dX7_takePieces_78 : decode cX7_takePieces 78 = .ok (.istore 5, 2) := by decide +kernel
theorem dX7_takePieces_80 : decode cX7_takePieces 80 = .ok (.iload_n 2, 1) := by decide +kernel
theorem dX7_takePieces_81 : decode cX7_takePieces 81 = .ok (.iconst 2, 1) := by decide +kernel
theorem dX7_takePieces_82 : decode cX7_takePieces 82 = .ok (.if_icmp .ne 14, 3) := by decide +kernel
theorem dX7_takePieces_85 : decode cX7_takePieces 85 = .ok (.aload_n 0, 1) := by decide +kernel
theorem dX7_takePieces_86 : decode cX7_takePieces 86 = .ok (.bipush 8, 2) := by decide +kernel
theorem dX7_takePieces_88 : decode cX7_takePieces 88 = .ok (.invokevirtual 119, 3) := by decide +kernel
theorem dX7_takePieces_91 : decode cX7_takePieces 91 = .ok (.iconst 1, 1) := by decide +kernel
theorem dX7_takePieces_92 : decode cX7_takePieces 92 = .ok (.iadd, 1) := by decide +kernel
theorem dX7_takePieces_93 : decode cX7_takePieces 93 = .ok (.goto 23, 3) := by decide +kernel
theorem dX7_takePieces_96 : decode cX7_takePieces 96 = .ok (.iload_n 2, 1) := by decide +kernel
theorem dX7_takePieces_97 : decode cX7_takePieces 97 = .ok (.ifCond .ne 7, 3) := by decide +kernel
theorem dX7_takePieces_100 : decode cX7_takePieces 100 = .ok (.iconst 1, 1) := by decide +kernel
theorem dX7_takePieces_101 : decode cX7_takePieces 101 = .ok (.goto 15, 3) := by decide +kernel
theorem dX7_takePieces_104 : decode cX7_takePieces 104 = .ok (.aload_n 0, 1) := by decide +kernel
theorem dX7_takePieces_105 : decode cX7_takePieces 105 = .ok (.invokevirtual 105, 3) := by decide +kernel
theorem dX7_takePieces_108 : decode cX7_takePieces 108 = .ok (.ifCond .eq 7, 3) := by decide +kernel
theorem dX7_takePieces_111 : decode cX7_takePieces 111 = .ok (.iconst 1, 1) := by decide +kernel
theorem dX7_takePieces_112 : decode cX7_takePieces 112 = .ok (.goto 4, 3) := by decide +kernel
theorem dX7_takePieces_115 : decode cX7_takePieces 115 = .ok (.iconst 0, 1) := by decide +kernel
theorem dX7_takePieces_116 : decode cX7_takePieces 116 = .ok (.istore 6, 2) := by decide +kernel
theorem dX7_takePieces_118 : decode cX7_takePieces 118 = .ok (.iconst 0, 1) := by decide +kernel
theorem dX7_takePieces_119 : decode cX7_takePieces 119 = .ok (.istore 7, 2) := by decide +kernel
theorem dX7_takePieces_121 : decode cX7_takePieces 121 = .ok (.iload 7, 2) := by decide +kernel
theorem dX7_takePieces_123 : decode cX7_takePieces 123 = .ok (.iload 6, 2) := by decide +kernel
theorem dX7_takePieces_125 : decode cX7_takePieces 125 = .ok (.if_icmp .ge 33, 3) := by decide +kernel
theorem dX7_takePieces_128 : decode cX7_takePieces 128 = .ok (.iload 5, 2) := by decide +kernel
theorem dX7_takePieces_130 : decode cX7_takePieces 130 = .ok (.sipush 256, 3) := by decide +kernel
theorem dX7_takePieces_133 : decode cX7_takePieces 133 = .ok (.irem, 1) := by decide +kernel
theorem dX7_takePieces_134 : decode cX7_takePieces 134 = .ok (.iload 7, 2) := by decide +kernel
theorem dX7_takePieces_136 : decode cX7_takePieces 136 = .ok (.iadd, 1) := by decide +kernel
theorem dX7_takePieces_137 : decode cX7_takePieces 137 = .ok (.sipush 256, 3) := by decide +kernel
theorem dX7_takePieces_140 : decode cX7_takePieces 140 = .ok (.if_icmp .ge 18, 3) := by decide +kernel
theorem dX7_takePieces_143 : decode cX7_takePieces 143 = .ok (.aload_n 0, 1) := by decide +kernel
theorem dX7_takePieces_144 : decode cX7_takePieces 144 = .ok (.iload 5, 2) := by decide +kernel
theorem dX7_takePieces_146 : decode cX7_takePieces 146 = .ok (.iload 7, 2) := by decide +kernel
theorem dX7_takePieces_148 : decode cX7_takePieces 148 = .ok (.iadd, 1) := by decide +kernel
theorem dX7_takePieces_149 : decode cX7_takePieces 149 = .ok (.invokevirtual 122, 3) := by decide +kernel
theorem dX7_takePieces_152 : decode cX7_takePieces 152 = .ok (.iinc 7 1, 3) := by decide +kernel
theorem dX7_takePieces_155 : decode cX7_takePieces 155 = .ok (.goto (-34), 3) := by decide +kernel
theorem dX7_takePieces_158 : decode cX7_takePieces 158 = .ok (.iinc 4 1, 3) := by decide +kernel
theorem dX7_takePieces_161 : decode cX7_takePieces 161 = .ok (.goto (-111), 3) := by decide +kernel
theorem dX7_takePieces_164 : decode cX7_takePieces 164 = .ok (.iinc 1 1, 3) := by decide +kernel
theorem dX7_takePieces_167 : decode cX7_takePieces 167 = .ok (.goto (-165), 3) := by decide +kernel
theorem dX7_takePieces_170 : decode cX7_takePieces 170 = .ok (.return_, 1) := by decide +kernel
theorem dX7_read_0 : decode cX7_read 0 = .ok (.iload_n 1, 1) := by decide +kernel
theorem dX7_read_1 : decode cX7_read 1 = .ok (.invokestatic 21, 3) := by decide +kernel
theorem dX7_read_4 : decode cX7_read 4 = .ok (.ifCond .ne 6, 3) := by decide +kernel
theorem dX7_read_7 : decode cX7_read 7 = .ok (.bipush (-2), 2) := by decide +kernel
theorem dX7_read_9 : decode cX7_read 9 = .ok (.ireturn, 1) := by decide +kernel
theorem dX7_read_10 : decode cX7_read 10 = .ok (.iload_n 2, 1) := by decide +kernel
theorem dX7_read_11 : decode cX7_read 11 = .ok (.iconst 0, 1) := by decide +kernel
theorem dX7_read_12 : decode cX7_read 12 = .ok (.iconst 2, 1) := by decide +kernel
theorem dX7_read_13 : decode cX7_read 13 = .ok (.invokestatic 17, 3) := by decide +kernel
theorem dX7_read_16 : decode cX7_read 16 = .ok (.ifCond .ne 6, 3) := by decide +kernel
theorem dX7_read_19 : decode cX7_read 19 = .ok (.bipush (-3), 2) := by decide +kernel
theorem dX7_read_21 : decode cX7_read 21 = .ok (.ireturn, 1) := by decide +kernel
theorem dX7_read_22 : decode cX7_read 22 = .ok (.aload_n 0, 1) := by decide +kernel
theorem dX7_read_23 : decode cX7_read 23 = .ok (.iload_n 2, 1) := by decide +kernel
theorem dX7_read_24 : decode cX7_read 24 = .ok (.invokevirtual 125, 3) := by decide +kernel
theorem dX7_read_27 : decode cX7_read 27 = .ok (.ifCond .ne 5, 3) := by decide +kernel
theorem dX7_read_30 : decode cX7_read 30 = .ok (.iconst (-1), 1) := by decide +kernel
theorem dX7_read_31 : decode cX7_read 31 = .ok (.ireturn, 1) := by decide +kernel
theorem dX7_read_32 : decode cX7_read 32 = .ok (.iconst 0, 1) := by decide +kernel
theorem dX7_read_33 : decode cX7_read 33 = .ok (.istore_n 3, 1) := by decide +kernel
theorem dX7_read_34 : decode cX7_read 34 = .ok (.iload_n 3, 1) := by decide +kernel
theorem dX7_read_35 : decode cX7_read 35 = .ok (.sipush 4096, 3) := by decide +kernel
theorem dX7_read_38 : decode cX7_read 38 = .ok (.if_icmp .ge 28, 3) := by decide +kernel
theorem dX7_read_41 : decode cX7_read 41 = .ok (.aload_n 0, 1) := by decide +kernel
theorem dX7_read_42 : decode cX7_read 42 = .ok (.getfield 8, 3) := by decide +kernel
theorem dX7_read_45 : decode cX7_read 45 = .ok (.sipush 4096, 3) := by decide +kernel
theorem dX7_read_48 : decode cX7_read 48 = .ok (.iload_n 1, 1) := by decide +kernel
theorem dX7_read_49 : decode cX7_read 49 = .ok (.imul, 1) := by decide +kernel
theorem dX7_read_50 : decode cX7_read 50 = .ok (.iload_n 3, 1) := by decide +kernel
theorem dX7_read_51 : decode cX7_read 51 = .ok (.iadd, 1) := by decide +kernel
theorem dX7_read_52 : decode cX7_read 52 = .ok (.aload_n 0, 1) := by decide +kernel
theorem dX7_read_53 : decode cX7_read 53 = .ok (.bipush 8, 2) := by decide +kernel
theorem dX7_read_55 : decode cX7_read 55 = .ok (.iload_n 3, 1) := by decide +kernel
theorem dX7_read_56 : decode cX7_read 56 = .ok (.invokevirtual 28, 3) := by decide +kernel
theorem dX7_read_59 : decode cX7_read 59 = .ok (.bastore, 1) := by decide +kernel
theorem dX7_read_60 : decode cX7_read 60 = .ok (.iinc 3 1, 3) := by decide +kernel
theorem dX7_read_63 : decode cX7_read 63 = .ok (.goto (-29), 3) := by decide +kernel
theorem dX7_read_66 : decode cX7_read 66 = .ok (.aload_n 0, 1) := by decide +kernel
theorem dX7_read_67 : decode cX7_read 67 = .ok (.iload_n 1, 1) := by decide +kernel
theorem dX7_read_68 : decode cX7_read 68 = .ok (.iconst 0, 1) := by decide +kernel
theorem dX7_read_69 : decode cX7_read 69 = .ok (.sipush 4096, 3) := by decide +kernel
theorem dX7_read_72 : decode cX7_read 72 = .ok (.invokevirtual 36, 3) := by decide +kernel
theorem dX7_read_75 : decode cX7_read 75 = .ok (.ireturn, 1) := by decide +kernel
theorem dX7_ask_0 : decode cX7_ask 0 = .ok (.iload_n 1, 1) := by decide +kernel
theorem dX7_ask_1 : decode cX7_ask 1 = .ok (.iconst 0, 1) := by decide +kernel
theorem dX7_ask_2 : decode cX7_ask 2 = .ok (.iconst 2, 1) := by decide +kernel
theorem dX7_ask_3 : decode cX7_ask 3 = .ok (.invokestatic 17, 3) := by decide +kernel
theorem dX7_ask_6 : decode cX7_ask 6 = .ok (.ifCond .ne 6, 3) := by decide +kernel
theorem dX7_ask_9 : decode cX7_ask 9 = .ok (.bipush (-3), 2) := by decide +kernel
theorem dX7_ask_11 : decode cX7_ask 11 = .ok (.ireturn, 1) := by decide +kernel
theorem dX7_ask_12 : decode cX7_ask 12 = .ok (.aload_n 0, 1) := by decide +kernel
theorem dX7_ask_13 : decode cX7_ask 13 = .ok (.iload_n 1, 1) := by decide +kernel
theorem dX7_ask_14 : decode cX7_ask 14 = .ok (.invokevirtual 125, 3) := by decide +kernel
theorem dX7_ask_17 : decode cX7_ask 17 = .ok (.ifCond .eq 13, 3) := by decide +kernel
theorem dX7_ask_20 : decode cX7_ask 20 = .ok (.aload_n 0, 1) := by decide +kernel
theorem dX7_ask_21 : decode cX7_ask 21 = .ok (.bipush 8, 2) := by decide +kernel
theorem dX7_ask_23 : decode cX7_ask 23 = .ok (.iload_n 2, 1) := by decide +kernel
theorem dX7_ask_24 : decode cX7_ask 24 = .ok (.invokevirtual 40, 3) := by decide +kernel
theorem dX7_ask_27 : decode cX7_ask 27 = .ok (.goto 4, 3) := by decide +kernel
theorem dX7_ask_30 : decode cX7_ask 30 = .ok (.iconst (-1), 1) := by decide +kernel
theorem dX7_ask_31 : decode cX7_ask 31 = .ok (.ireturn, 1) := by decide +kernel
theorem dX7_sign_0 : decode cX7_sign 0 = .ok (.aload_n 0, 1) := by decide +kernel
theorem dX7_sign_1 : decode cX7_sign 1 = .ok (.getfield 70, 3) := by decide +kernel
theorem dX7_sign_4 : decode cX7_sign 4 = .ok (.sipush 8210, 3) := by decide +kernel
theorem dX7_sign_7 : decode cX7_sign 7 = .ok (.if_icmp .ne 6, 3) := by decide +kernel
theorem dX7_sign_10 : decode cX7_sign 10 = .ok (.bipush (-4), 2) := by decide +kernel
theorem dX7_sign_12 : decode cX7_sign 12 = .ok (.ireturn, 1) := by decide +kernel
theorem dX7_sign_13 : decode cX7_sign 13 = .ok (.aload_n 0, 1) := by decide +kernel
theorem dX7_sign_14 : decode cX7_sign 14 = .ok (.getfield 14, 3) := by decide +kernel
theorem dX7_sign_17 : decode cX7_sign 17 = .ok (.aload_n 0, 1) := by decide +kernel
theorem dX7_sign_18 : decode cX7_sign 18 = .ok (.getfield 70, 3) := by decide +kernel
theorem dX7_sign_21 : decode cX7_sign 21 = .ok (.iload_n 1, 1) := by decide +kernel
theorem dX7_sign_22 : decode cX7_sign 22 = .ok (.bastore, 1) := by decide +kernel
theorem dX7_sign_23 : decode cX7_sign 23 = .ok (.aload_n 0, 1) := by decide +kernel
theorem dX7_sign_24 : decode cX7_sign 24 = .ok (.dup, 1) := by decide +kernel
theorem dX7_sign_25 : decode cX7_sign 25 = .ok (.getfield 70, 3) := by decide +kernel
theorem dX7_sign_28 : decode cX7_sign 28 = .ok (.iconst 1, 1) := by decide +kernel
theorem dX7_sign_29 : decode cX7_sign 29 = .ok (.iadd, 1) := by decide +kernel
theorem dX7_sign_30 : decode cX7_sign 30 = .ok (.putfield 70, 3) := by decide +kernel
theorem dX7_sign_33 : decode cX7_sign 33 = .ok (.aload_n 0, 1) := by decide +kernel
theorem dX7_sign_34 : decode cX7_sign 34 = .ok (.getfield 70, 3) := by decide +kernel
theorem dX7_sign_37 : decode cX7_sign 37 = .ok (.ireturn, 1) := by decide +kernel
theorem dX7_cut_0 : decode cX7_cut 0 = .ok (.iload_n 1, 1) := by decide +kernel
theorem dX7_cut_1 : decode cX7_cut 1 = .ok (.iconst 0, 1) := by decide +kernel
theorem dX7_cut_2 : decode cX7_cut 2 = .ok (.aload_n 0, 1) := by decide +kernel
theorem dX7_cut_3 : decode cX7_cut 3 = .ok (.getfield 70, 3) := by decide +kernel
theorem dX7_cut_6 : decode cX7_cut 6 = .ok (.invokestatic 17, 3) := by decide +kernel
theorem dX7_cut_9 : decode cX7_cut 9 = .ok (.ifCond .ne 6, 3) := by decide +kernel
theorem dX7_cut_12 : decode cX7_cut 12 = .ok (.bipush (-3), 2) := by decide +kernel
theorem dX7_cut_14 : decode cX7_cut 14 = .ok (.ireturn, 1) := by decide +kernel
theorem dX7_cut_15 : decode cX7_cut 15 = .ok (.aload_n 0, 1) := by decide +kernel
theorem dX7_cut_16 : decode cX7_cut 16 = .ok (.getfield 70, 3) := by decide +kernel
theorem dX7_cut_19 : decode cX7_cut 19 = .ok (.iload_n 1, 1) := by decide +kernel
theorem dX7_cut_20 : decode cX7_cut 20 = .ok (.isub, 1) := by decide +kernel
theorem dX7_cut_21 : decode cX7_cut 21 = .ok (.istore_n 2, 1) := by decide +kernel
theorem dX7_cut_22 : decode cX7_cut 22 = .ok (.aload_n 0, 1) := by decide +kernel
theorem dX7_cut_23 : decode cX7_cut 23 = .ok (.iload_n 1, 1) := by decide +kernel
theorem dX7_cut_24 : decode cX7_cut 24 = .ok (.putfield 70, 3) := by decide +kernel
theorem dX7_cut_27 : decode cX7_cut 27 = .ok (.iload_n 2, 1) := by decide +kernel
theorem dX7_cut_28 : decode cX7_cut 28 = .ok (.ireturn, 1) := by decide +kernel
theorem dX7_flip_0 : decode cX7_flip 0 = .ok (.iload_n 1, 1) := by decide +kernel
theorem dX7_flip_1 : decode cX7_flip 1 = .ok (.iconst 0, 1) := by decide +kernel
theorem dX7_flip_2 : decode cX7_flip 2 = .ok (.aload_n 0, 1) := by decide +kernel
theorem dX7_flip_3 : decode cX7_flip 3 = .ok (.getfield 70, 3) := by decide +kernel
theorem dX7_flip_6 : decode cX7_flip 6 = .ok (.iconst 1, 1) := by decide +kernel
theorem dX7_flip_7 : decode cX7_flip 7 = .ok (.isub, 1) := by decide +kernel
theorem dX7_flip_8 : decode cX7_flip 8 = .ok (.invokestatic 17, 3) := by decide +kernel
theorem dX7_flip_11 : decode cX7_flip 11 = .ok (.ifCond .ne 5, 3) := by decide +kernel
theorem dX7_flip_14 : decode cX7_flip 14 = .ok (.iconst (-1), 1) := by decide +kernel
theorem dX7_flip_15 : decode cX7_flip 15 = .ok (.ireturn, 1) := by decide +kernel
theorem dX7_flip_16 : decode cX7_flip 16 = .ok (.aload_n 0, 1) := by decide +kernel
theorem dX7_flip_17 : decode cX7_flip 17 = .ok (.getfield 14, 3) := by decide +kernel
theorem dX7_flip_20 : decode cX7_flip 20 = .ok (.iload_n 1, 1) := by decide +kernel
theorem dX7_flip_21 : decode cX7_flip 21 = .ok (.aload_n 0, 1) := by decide +kernel
theorem dX7_flip_22 : decode cX7_flip 22 = .ok (.getfield 14, 3) := by decide +kernel
theorem dX7_flip_25 : decode cX7_flip 25 = .ok (.iload_n 1, 1) := by decide +kernel
theorem dX7_flip_26 : decode cX7_flip 26 = .ok (.baload, 1) := by decide +kernel
theorem dX7_flip_27 : decode cX7_flip 27 = .ok (.ifCond .ne 7, 3) := by decide +kernel
theorem dX7_flip_30 : decode cX7_flip 30 = .ok (.iconst 1, 1) := by decide +kernel
theorem dX7_flip_31 : decode cX7_flip 31 = .ok (.goto 4, 3) := by decide +kernel
theorem dX7_flip_34 : decode cX7_flip 34 = .ok (.iconst 0, 1) := by decide +kernel
theorem dX7_flip_35 : decode cX7_flip 35 = .ok (.bastore, 1) := by decide +kernel
theorem dX7_flip_36 : decode cX7_flip 36 = .ok (.aload_n 0, 1) := by decide +kernel
theorem dX7_flip_37 : decode cX7_flip 37 = .ok (.getfield 14, 3) := by decide +kernel
theorem dX7_flip_40 : decode cX7_flip 40 = .ok (.iload_n 1, 1) := by decide +kernel
theorem dX7_flip_41 : decode cX7_flip 41 = .ok (.baload, 1) := by decide +kernel
theorem dX7_flip_42 : decode cX7_flip 42 = .ok (.ifCond .eq 7, 3) := by decide +kernel
theorem dX7_flip_45 : decode cX7_flip 45 = .ok (.iconst 1, 1) := by decide +kernel
theorem dX7_flip_46 : decode cX7_flip 46 = .ok (.goto 4, 3) := by decide +kernel
theorem dX7_flip_49 : decode cX7_flip 49 = .ok (.iconst 0, 1) := by decide +kernel
theorem dX7_flip_50 : decode cX7_flip 50 = .ok (.ireturn, 1) := by decide +kernel
theorem dX7_bit_0 : decode cX7_bit 0 = .ok (.iload_n 1, 1) := by decide +kernel
theorem dX7_bit_1 : decode cX7_bit 1 = .ok (.iconst 0, 1) := by decide +kernel
theorem dX7_bit_2 : decode cX7_bit 2 = .ok (.aload_n 0, 1) := by decide +kernel
theorem dX7_bit_3 : decode cX7_bit 3 = .ok (.getfield 70, 3) := by decide +kernel
theorem dX7_bit_6 : decode cX7_bit 6 = .ok (.iconst 1, 1) := by decide +kernel
theorem dX7_bit_7 : decode cX7_bit 7 = .ok (.isub, 1) := by decide +kernel
theorem dX7_bit_8 : decode cX7_bit 8 = .ok (.invokestatic 17, 3) := by decide +kernel
theorem dX7_bit_11 : decode cX7_bit 11 = .ok (.ifCond .ne 7, 3) := by decide +kernel
theorem dX7_bit_14 : decode cX7_bit 14 = .ok (.iconst (-1), 1) := by decide +kernel
theorem dX7_bit_15 : decode cX7_bit 15 = .ok (.goto 17, 3) := by decide +kernel
theorem dX7_bit_18 : decode cX7_bit 18 = .ok (.aload_n 0, 1) := by decide +kernel
theorem dX7_bit_19 : decode cX7_bit 19 = .ok (.getfield 14, 3) := by decide +kernel
theorem dX7_bit_22 : decode cX7_bit 22 = .ok (.iload_n 1, 1) := by decide +kernel
theorem dX7_bit_23 : decode cX7_bit 23 = .ok (.baload, 1) := by decide +kernel
theorem dX7_bit_24 : decode cX7_bit 24 = .ok (.ifCond .eq 7, 3) := by decide +kernel
theorem dX7_bit_27 : decode cX7_bit 27 = .ok (.iconst 1, 1) := by decide +kernel
theorem dX7_bit_28 : decode cX7_bit 28 = .ok (.goto 4, 3) := by decide +kernel
theorem dX7_bit_31 : decode cX7_bit 31 = .ok (.iconst 0, 1) := by decide +kernel
theorem dX7_bit_32 : decode cX7_bit 32 = .ok (.ireturn, 1) := by decide +kernel
theorem dX7_size_0 : decode cX7_size 0 = .ok (.aload_n 0, 1) := by decide +kernel
theorem dX7_size_1 : decode cX7_size 1 = .ok (.getfield 70, 3) := by decide +kernel
theorem dX7_size_4 : decode cX7_size 4 = .ok (.ireturn, 1) := by decide +kernel
theorem dJ6_bitCount_0f7a4_0 : decode cJ6_bitCount_0f7a4 0 = .ok (.iload_n 0, 1) := by decide +kernel
theorem dJ6_bitCount_0f7a4_1 : decode cJ6_bitCount_0f7a4 1 = .ok (.iload_n 0, 1) := by decide +kernel
theorem dJ6_bitCount_0f7a4_2 : decode cJ6_bitCount_0f7a4 2 = .ok (.iconst 1, 1) := by decide +kernel
theorem dJ6_bitCount_0f7a4_3 : decode cJ6_bitCount_0f7a4 3 = .ok (.iushr, 1) := by decide +kernel
theorem dJ6_bitCount_0f7a4_4 : decode cJ6_bitCount_0f7a4 4 = .ok (.ldc_w 265, 3) := by decide +kernel
theorem dJ6_bitCount_0f7a4_7 : decode cJ6_bitCount_0f7a4 7 = .ok (.iand, 1) := by decide +kernel
theorem dJ6_bitCount_0f7a4_8 : decode cJ6_bitCount_0f7a4 8 = .ok (.isub, 1) := by decide +kernel
theorem dJ6_bitCount_0f7a4_9 : decode cJ6_bitCount_0f7a4 9 = .ok (.istore_n 0, 1) := by decide +kernel
theorem dJ6_bitCount_0f7a4_10 : decode cJ6_bitCount_0f7a4 10 = .ok (.iload_n 0, 1) := by decide +kernel
theorem dJ6_bitCount_0f7a4_11 : decode cJ6_bitCount_0f7a4 11 = .ok (.ldc_w 266, 3) := by decide +kernel
theorem dJ6_bitCount_0f7a4_14 : decode cJ6_bitCount_0f7a4 14 = .ok (.iand, 1) := by decide +kernel
theorem dJ6_bitCount_0f7a4_15 : decode cJ6_bitCount_0f7a4 15 = .ok (.iload_n 0, 1) := by decide +kernel
theorem dJ6_bitCount_0f7a4_16 : decode cJ6_bitCount_0f7a4 16 = .ok (.iconst 2, 1) := by decide +kernel
theorem dJ6_bitCount_0f7a4_17 : decode cJ6_bitCount_0f7a4 17 = .ok (.iushr, 1) := by decide +kernel
theorem dJ6_bitCount_0f7a4_18 : decode cJ6_bitCount_0f7a4 18 = .ok (.ldc_w 266, 3) := by decide +kernel
theorem dJ6_bitCount_0f7a4_21 : decode cJ6_bitCount_0f7a4 21 = .ok (.iand, 1) := by decide +kernel
theorem dJ6_bitCount_0f7a4_22 : decode cJ6_bitCount_0f7a4 22 = .ok (.iadd, 1) := by decide +kernel
theorem dJ6_bitCount_0f7a4_23 : decode cJ6_bitCount_0f7a4 23 = .ok (.istore_n 0, 1) := by decide +kernel
theorem dJ6_bitCount_0f7a4_24 : decode cJ6_bitCount_0f7a4 24 = .ok (.iload_n 0, 1) := by decide +kernel
theorem dJ6_bitCount_0f7a4_25 : decode cJ6_bitCount_0f7a4 25 = .ok (.iload_n 0, 1) := by decide +kernel
theorem dJ6_bitCount_0f7a4_26 : decode cJ6_bitCount_0f7a4 26 = .ok (.iconst 4, 1) := by decide +kernel
theorem dJ6_bitCount_0f7a4_27 : decode cJ6_bitCount_0f7a4 27 = .ok (.iushr, 1) := by decide +kernel
theorem dJ6_bitCount_0f7a4_28 : decode cJ6_bitCount_0f7a4 28 = .ok (.iadd, 1) := by decide +kernel
theorem dJ6_bitCount_0f7a4_29 : decode cJ6_bitCount_0f7a4 29 = .ok (.ldc_w 267, 3) := by decide +kernel
theorem dJ6_bitCount_0f7a4_32 : decode cJ6_bitCount_0f7a4 32 = .ok (.iand, 1) := by decide +kernel
theorem dJ6_bitCount_0f7a4_33 : decode cJ6_bitCount_0f7a4 33 = .ok (.istore_n 0, 1) := by decide +kernel
theorem dJ6_bitCount_0f7a4_34 : decode cJ6_bitCount_0f7a4 34 = .ok (.iload_n 0, 1) := by decide +kernel
theorem dJ6_bitCount_0f7a4_35 : decode cJ6_bitCount_0f7a4 35 = .ok (.iload_n 0, 1) := by decide +kernel
theorem dJ6_bitCount_0f7a4_36 : decode cJ6_bitCount_0f7a4 36 = .ok (.bipush 8, 2) := by decide +kernel
theorem dJ6_bitCount_0f7a4_38 : decode cJ6_bitCount_0f7a4 38 = .ok (.iushr, 1) := by decide +kernel
theorem dJ6_bitCount_0f7a4_39 : decode cJ6_bitCount_0f7a4 39 = .ok (.iadd, 1) := by decide +kernel
theorem dJ6_bitCount_0f7a4_40 : decode cJ6_bitCount_0f7a4 40 = .ok (.istore_n 0, 1) := by decide +kernel
theorem dJ6_bitCount_0f7a4_41 : decode cJ6_bitCount_0f7a4 41 = .ok (.iload_n 0, 1) := by decide +kernel
theorem dJ6_bitCount_0f7a4_42 : decode cJ6_bitCount_0f7a4 42 = .ok (.iload_n 0, 1) := by decide +kernel
theorem dJ6_bitCount_0f7a4_43 : decode cJ6_bitCount_0f7a4 43 = .ok (.bipush 16, 2) := by decide +kernel
theorem dJ6_bitCount_0f7a4_45 : decode cJ6_bitCount_0f7a4 45 = .ok (.iushr, 1) := by decide +kernel
theorem dJ6_bitCount_0f7a4_46 : decode cJ6_bitCount_0f7a4 46 = .ok (.iadd, 1) := by decide +kernel
theorem dJ6_bitCount_0f7a4_47 : decode cJ6_bitCount_0f7a4 47 = .ok (.istore_n 0, 1) := by decide +kernel
theorem dJ6_bitCount_0f7a4_48 : decode cJ6_bitCount_0f7a4 48 = .ok (.iload_n 0, 1) := by decide +kernel
theorem dJ6_bitCount_0f7a4_49 : decode cJ6_bitCount_0f7a4 49 = .ok (.bipush 63, 2) := by decide +kernel
theorem dJ6_bitCount_0f7a4_51 : decode cJ6_bitCount_0f7a4 51 = .ok (.iand, 1) := by decide +kernel
theorem dJ6_bitCount_0f7a4_52 : decode cJ6_bitCount_0f7a4 52 = .ok (.ireturn, 1) := by decide +kernel
theorem dL_law_0 : decode cL_law 0 = .ok (.new 7, 3) := by decide +kernel
theorem dL_law_3 : decode cL_law 3 = .ok (.dup, 1) := by decide +kernel
theorem dL_law_4 : decode cL_law 4 = .ok (.invokespecial 9, 3) := by decide +kernel
theorem dL_law_7 : decode cL_law 7 = .ok (.astore_n 1, 1) := by decide +kernel
theorem dL_law_8 : decode cL_law 8 = .ok (.new 10, 3) := by decide +kernel
theorem dL_law_11 : decode cL_law 11 = .ok (.dup, 1) := by decide +kernel
theorem dL_law_12 : decode cL_law 12 = .ok (.invokespecial 12, 3) := by decide +kernel
theorem dL_law_15 : decode cL_law 15 = .ok (.astore_n 2, 1) := by decide +kernel
theorem dL_law_16 : decode cL_law 16 = .ok (.iconst 0, 1) := by decide +kernel
theorem dL_law_17 : decode cL_law 17 = .ok (.istore_n 3, 1) := by decide +kernel
theorem dL_law_18 : decode cL_law 18 = .ok (.iload_n 3, 1) := by decide +kernel
theorem dL_law_19 : decode cL_law 19 = .ok (.aload_n 0, 1) := by decide +kernel
theorem dL_law_20 : decode cL_law 20 = .ok (.arraylength, 1) := by decide +kernel
theorem dL_law_21 : decode cL_law 21 = .ok (.iconst 5, 1) := by decide +kernel
theorem dL_law_22 : decode cL_law 22 = .ok (.isub, 1) := by decide +kernel
theorem dL_law_23 : decode cL_law 23 = .ok (.if_icmp .gt 831, 3) := by decide +kernel
theorem dL_law_26 : decode cL_law 26 = .ok (.aload_n 0, 1) := by decide +kernel
theorem dL_law_27 : decode cL_law 27 = .ok (.iload_n 3, 1) := by decide +kernel
theorem dL_law_28 : decode cL_law 28 = .ok (.iaload, 1) := by decide +kernel
theorem dL_law_29 : decode cL_law 29 = .ok (.bipush 31, 2) := by decide +kernel
theorem dL_law_31 : decode cL_law 31 = .ok (.iand, 1) := by decide +kernel
theorem dL_law_32 : decode cL_law 32 = .ok (.tableswitch 816 0 21 #[104, 137, 180, 223, 276, 309, 332, 365, 398, 431, 464, 497, 540, 563, 596, 629, 662, 695, 734, 757, 780, 803], 104) := by decide +kernel
theorem dL_law_136 : decode cL_law 136 = .ok (.aload_n 1, 1) := by decide +kernel
theorem dL_law_137 : decode cL_law 137 = .ok (.aload_n 0, 1) := by decide +kernel
theorem dL_law_138 : decode cL_law 138 = .ok (.iload_n 3, 1) := by decide +kernel
theorem dL_law_139 : decode cL_law 139 = .ok (.iconst 1, 1) := by decide +kernel
theorem dL_law_140 : decode cL_law 140 = .ok (.iadd, 1) := by decide +kernel
theorem dL_law_141 : decode cL_law 141 = .ok (.iaload, 1) := by decide +kernel
theorem dL_law_142 : decode cL_law 142 = .ok (.aload_n 0, 1) := by decide +kernel
theorem dL_law_143 : decode cL_law 143 = .ok (.iload_n 3, 1) := by decide +kernel
theorem dL_law_144 : decode cL_law 144 = .ok (.iconst 2, 1) := by decide +kernel
theorem dL_law_145 : decode cL_law 145 = .ok (.iadd, 1) := by decide +kernel
theorem dL_law_146 : decode cL_law 146 = .ok (.iaload, 1) := by decide +kernel
theorem dL_law_147 : decode cL_law 147 = .ok (.invokevirtual 13, 3) := by decide +kernel
theorem dL_law_150 : decode cL_law 150 = .ok (.aload_n 2, 1) := by decide +kernel
theorem dL_law_151 : decode cL_law 151 = .ok (.aload_n 0, 1) := by decide +kernel
theorem dL_law_152 : decode cL_law 152 = .ok (.iload_n 3, 1) := by decide +kernel
theorem dL_law_153 : decode cL_law 153 = .ok (.iconst 1, 1) := by decide +kernel
theorem dL_law_154 : decode cL_law 154 = .ok (.iadd, 1) := by decide +kernel
theorem dL_law_155 : decode cL_law 155 = .ok (.iaload, 1) := by decide +kernel
theorem dL_law_156 : decode cL_law 156 = .ok (.aload_n 0, 1) := by decide +kernel
theorem dL_law_157 : decode cL_law 157 = .ok (.iload_n 3, 1) := by decide +kernel
theorem dL_law_158 : decode cL_law 158 = .ok (.iconst 2, 1) := by decide +kernel
theorem dL_law_159 : decode cL_law 159 = .ok (.iadd, 1) := by decide +kernel
theorem dL_law_160 : decode cL_law 160 = .ok (.iaload, 1) := by decide +kernel
theorem dL_law_161 : decode cL_law 161 = .ok (.invokevirtual 17, 3) := by decide +kernel
theorem dL_law_164 : decode cL_law 164 = .ok (.if_icmp .eq 684, 3) := by decide +kernel
theorem dL_law_167 : decode cL_law 167 = .ok (.iconst 0, 1) := by decide +kernel
theorem dL_law_168 : decode cL_law 168 = .ok (.ireturn, 1) := by decide +kernel
theorem dL_law_169 : decode cL_law 169 = .ok (.aload_n 1, 1) := by decide +kernel
theorem dL_law_170 : decode cL_law 170 = .ok (.aload_n 0, 1) := by decide +kernel
theorem dL_law_171 : decode cL_law 171 = .ok (.iload_n 3, 1) := by decide +kernel
theorem dL_law_172 : decode cL_law 172 = .ok (.iconst 1, 1) := by decide +kernel
theorem dL_law_173 : decode cL_law 173 = .ok (.iadd, 1) := by decide +kernel
theorem dL_law_174 : decode cL_law 174 = .ok (.iaload, 1) := by decide +kernel
theorem dL_law_175 : decode cL_law 175 = .ok (.aload_n 0, 1) := by decide +kernel
theorem dL_law_176 : decode cL_law 176 = .ok (.iload_n 3, 1) := by decide +kernel
theorem dL_law_177 : decode cL_law 177 = .ok (.iconst 2, 1) := by decide +kernel
theorem dL_law_178 : decode cL_law 178 = .ok (.iadd, 1) := by decide +kernel
theorem dL_law_179 : decode cL_law 179 = .ok (.iaload, 1) := by decide +kernel
theorem dL_law_180 : decode cL_law 180 = .ok (.aload_n 0, 1) := by decide +kernel
theorem dL_law_181 : decode cL_law 181 = .ok (.iload_n 3, 1) := by decide +kernel
theorem dL_law_182 : decode cL_law 182 = .ok (.iconst 3, 1) := by decide +kernel
theorem dL_law_183 : decode cL_law 183 = .ok (.iadd, 1) := by decide +kernel
theorem dL_law_184 : decode cL_law 184 = .ok (.iaload, 1) := by decide +kernel
theorem dL_law_185 : decode cL_law 185 = .ok (.invokevirtual 18, 3) := by decide +kernel
theorem dL_law_188 : decode cL_law 188 = .ok (.aload_n 2, 1) := by decide +kernel
theorem dL_law_189 : decode cL_law 189 = .ok (.aload_n 0, 1) := by decide +kernel
theorem dL_law_190 : decode cL_law 190 = .ok (.iload_n 3, 1) := by decide +kernel
theorem dL_law_191 : decode cL_law 191 = .ok (.iconst 1, 1) := by decide +kernel
theorem dL_law_192 : decode cL_law 192 = .ok (.iadd, 1) := by decide +kernel
theorem dL_law_193 : decode cL_law 193 = .ok (.iaload, 1) := by decide +kernel
theorem dL_law_194 : decode cL_law 194 = .ok (.aload_n 0, 1) := by decide +kernel
theorem dL_law_195 : decode cL_law 195 = .ok (.iload_n 3, 1) := by decide +kernel
theorem dL_law_196 : decode cL_law 196 = .ok (.iconst 2, 1) := by decide +kernel
theorem dL_law_197 : decode cL_law 197 = .ok (.iadd, 1) := by decide +kernel
theorem dL_law_198 : decode cL_law 198 = .ok (.iaload, 1) := by decide +kernel
theorem dL_law_199 : decode cL_law 199 = .ok (.aload_n 0, 1) := by decide +kernel
theorem dL_law_200 : decode cL_law 200 = .ok (.iload_n 3, 1) := by decide +kernel
theorem dL_law_201 : decode cL_law 201 = .ok (.iconst 3, 1) := by decide +kernel
theorem dL_law_202 : decode cL_law 202 = .ok (.iadd, 1) := by decide +kernel
theorem dL_law_203 : decode cL_law 203 = .ok (.iaload, 1) := by decide +kernel
theorem dL_law_204 : decode cL_law 204 = .ok (.invokevirtual 22, 3) := by decide +kernel
theorem dL_law_207 : decode cL_law 207 = .ok (.if_icmp .eq 641, 3) := by decide +kernel
theorem dL_law_210 : decode cL_law 210 = .ok (.iconst 0, 1) := by decide +kernel
theorem dL_law_211 : decode cL_law 211 = .ok (.ireturn, 1) := by decide +kernel
theorem dL_law_212 : decode cL_law 212 = .ok (.aload_n 1, 1) := by decide +kernel
theorem dL_law_213 : decode cL_law 213 = .ok (.aload_n 0, 1) := by decide +kernel
theorem dL_law_214 : decode cL_law 214 = .ok (.iload_n 3, 1) := by decide +kernel
theorem dL_law_215 : decode cL_law 215 = .ok (.iconst 1, 1) := by decide +kernel
theorem dL_law_216 : decode cL_law 216 = .ok (.iadd, 1) := by decide +kernel
theorem dL_law_217 : decode cL_law 217 = .ok (.iaload, 1) := by decide +kernel
theorem dL_law_218 : decode cL_law 218 = .ok (.aload_n 0, 1) := by decide +kernel
theorem dL_law_219 : decode cL_law 219 = .ok (.iload_n 3, 1) := by decide +kernel
theorem dL_law_220 : decode cL_law 220 = .ok (.iconst 2, 1) := by decide +kernel
theorem dL_law_221 : decode cL_law 221 = .ok (.iadd, 1) := by decide +kernel
theorem dL_law_222 : decode cL_law 222 = .ok (.iaload, 1) := by decide +kernel
theorem dL_law_223 : decode cL_law 223 = .ok (.aload_n 0, 1) := by decide +kernel
theorem dL_law_224 : decode cL_law 224 = .ok (.iload_n 3, 1) := by decide +kernel
theorem dL_law_225 : decode cL_law 225 = .ok (.iconst 3, 1) := by decide +kernel
theorem dL_law_226 : decode cL_law 226 = .ok (.iadd, 1) := by decide +kernel
theorem dL_law_227 : decode cL_law 227 = .ok (.iaload, 1) := by decide +kernel
theorem dL_law_228 : decode cL_law 228 = .ok (.invokevirtual 23, 3) := by decide +kernel
theorem dL_law_231 : decode cL_law 231 = .ok (.aload_n 2, 1) := by decide +kernel
theorem dL_law_232 : decode cL_law 232 = .ok (.aload_n 0, 1) := by decide +kernel
theorem dL_law_233 : decode cL_law 233 = .ok (.iload_n 3, 1) := by decide +kernel
theorem dL_law_234 : decode cL_law 234 = .ok (.iconst 1, 1) := by decide +kernel
theorem dL_law_235 : decode cL_law 235 = .ok (.iadd, 1) := by decide +kernel
theorem dL_law_236 : decode cL_law 236 = .ok (.iaload, 1) := by decide +kernel
theorem dL_law_237 : decode cL_law 237 = .ok (.aload_n 0, 1) := by decide +kernel
theorem dL_law_238 : decode cL_law 238 = .ok (.iload_n 3, 1) := by decide +kernel
theorem dL_law_239 : decode cL_law 239 = .ok (.iconst 2, 1) := by decide +kernel
theorem dL_law_240 : decode cL_law 240 = .ok (.iadd, 1) := by decide +kernel
theorem dL_law_241 : decode cL_law 241 = .ok (.iaload, 1) := by decide +kernel
theorem dL_law_242 : decode cL_law 242 = .ok (.aload_n 0, 1) := by decide +kernel
theorem dL_law_243 : decode cL_law 243 = .ok (.iload_n 3, 1) := by decide +kernel
theorem dL_law_244 : decode cL_law 244 = .ok (.iconst 3, 1) := by decide +kernel
theorem dL_law_245 : decode cL_law 245 = .ok (.iadd, 1) := by decide +kernel
theorem dL_law_246 : decode cL_law 246 = .ok (.iaload, 1) := by decide +kernel
theorem dL_law_247 : decode cL_law 247 = .ok (.invokevirtual 26, 3) := by decide +kernel
theorem dL_law_250 : decode cL_law 250 = .ok (.if_icmp .eq 598, 3) := by decide +kernel
theorem dL_law_253 : decode cL_law 253 = .ok (.iconst 0, 1) := by decide +kernel
theorem dL_law_254 : decode cL_law 254 = .ok (.ireturn, 1) := by decide +kernel
theorem dL_law_255 : decode cL_law 255 = .ok (.aload_n 1, 1) := by decide +kernel
theorem dL_law_256 : decode cL_law 256 = .ok (.aload_n 0, 1) := by decide +kernel
theorem dL_law_257 : decode cL_law 257 = .ok (.iload_n 3, 1) := by decide +kernel
theorem dL_law_258 : decode cL_law 258 = .ok (.iconst 1, 1) := by decide +kernel
theorem dL_law_259 : decode cL_law 259 = .ok (.iadd, 1) := by decide +kernel
theorem dL_law_260 : decode cL_law 260 = .ok (.iaload, 1) := by decide +kernel
theorem dL_law_261 : decode cL_law 261 = .ok (.aload_n 0, 1) := by decide +kernel
theorem dL_law_262 : decode cL_law 262 = .ok (.iload_n 3, 1) := by decide +kernel
theorem dL_law_263 : decode cL_law 263 = .ok (.iconst 2, 1) := by decide +kernel
theorem dL_law_264 : decode cL_law 264 = .ok (.iadd, 1) := by decide +kernel
theorem dL_law_265 : decode cL_law 265 = .ok (.iaload, 1) := by decide +kernel
theorem dL_law_266 : decode cL_law 266 = .ok (.aload_n 0, 1) := by decide +kernel
theorem dL_law_267 : decode cL_law 267 = .ok (.iload_n 3, 1) := by decide +kernel
theorem dL_law_268 : decode cL_law 268 = .ok (.iconst 3, 1) := by decide +kernel
theorem dL_law_269 : decode cL_law 269 = .ok (.iadd, 1) := by decide +kernel
theorem dL_law_270 : decode cL_law 270 = .ok (.iaload, 1) := by decide +kernel
theorem dL_law_271 : decode cL_law 271 = .ok (.aload_n 0, 1) := by decide +kernel
theorem dL_law_272 : decode cL_law 272 = .ok (.iload_n 3, 1) := by decide +kernel
theorem dL_law_273 : decode cL_law 273 = .ok (.iconst 4, 1) := by decide +kernel
theorem dL_law_274 : decode cL_law 274 = .ok (.iadd, 1) := by decide +kernel
theorem dL_law_275 : decode cL_law 275 = .ok (.iaload, 1) := by decide +kernel
theorem dL_law_276 : decode cL_law 276 = .ok (.invokevirtual 27, 3) := by decide +kernel
theorem dL_law_279 : decode cL_law 279 = .ok (.aload_n 2, 1) := by decide +kernel
theorem dL_law_280 : decode cL_law 280 = .ok (.aload_n 0, 1) := by decide +kernel
theorem dL_law_281 : decode cL_law 281 = .ok (.iload_n 3, 1) := by decide +kernel
theorem dL_law_282 : decode cL_law 282 = .ok (.iconst 1, 1) := by decide +kernel
theorem dL_law_283 : decode cL_law 283 = .ok (.iadd, 1) := by decide +kernel
theorem dL_law_284 : decode cL_law 284 = .ok (.iaload, 1) := by decide +kernel
theorem dL_law_285 : decode cL_law 285 = .ok (.aload_n 0, 1) := by decide +kernel
theorem dL_law_286 : decode cL_law 286 = .ok (.iload_n 3, 1) := by decide +kernel
theorem dL_law_287 : decode cL_law 287 = .ok (.iconst 2, 1) := by decide +kernel
theorem dL_law_288 : decode cL_law 288 = .ok (.iadd, 1) := by decide +kernel
theorem dL_law_289 : decode cL_law 289 = .ok (.iaload, 1) := by decide +kernel
theorem dL_law_290 : decode cL_law 290 = .ok (.aload_n 0, 1) := by decide +kernel
theorem dL_law_291 : decode cL_law 291 = .ok (.iload_n 3, 1) := by decide +kernel
theorem dL_law_292 : decode cL_law 292 = .ok (.iconst 3, 1) := by decide +kernel
theorem dL_law_293 : decode cL_law 293 = .ok (.iadd, 1) := by decide +kernel
theorem dL_law_294 : decode cL_law 294 = .ok (.iaload, 1) := by decide +kernel
theorem dL_law_295 : decode cL_law 295 = .ok (.aload_n 0, 1) := by decide +kernel
theorem dL_law_296 : decode cL_law 296 = .ok (.iload_n 3, 1) := by decide +kernel
theorem dL_law_297 : decode cL_law 297 = .ok (.iconst 4, 1) := by decide +kernel
theorem dL_law_298 : decode cL_law 298 = .ok (.iadd, 1) := by decide +kernel
theorem dL_law_299 : decode cL_law 299 = .ok (.iaload, 1) := by decide +kernel
theorem dL_law_300 : decode cL_law 300 = .ok (.invokevirtual 31, 3) := by decide +kernel
theorem dL_law_303 : decode cL_law 303 = .ok (.if_icmp .eq 545, 3) := by decide +kernel
theorem dL_law_306 : decode cL_law 306 = .ok (.iconst 0, 1) := by decide +kernel
theorem dL_law_307 : decode cL_law 307 = .ok (.ireturn, 1) := by decide +kernel
theorem dL_law_308 : decode cL_law 308 = .ok (.aload_n 1, 1) := by decide +kernel
theorem dL_law_309 : decode cL_law 309 = .ok (.aload_n 0, 1) := by decide +kernel
theorem dL_law_310 : decode cL_law 310 = .ok (.iload_n 3, 1) := by decide +kernel
theorem dL_law_311 : decode cL_law 311 = .ok (.iconst 1, 1) := by decide +kernel
theorem dL_law_312 : decode cL_law 312 = .ok (.iadd, 1) := by decide +kernel
theorem dL_law_313 : decode cL_law 313 = .ok (.iaload, 1) := by decide +kernel
theorem dL_law_314 : decode cL_law 314 = .ok (.aload_n 0, 1) := by decide +kernel
theorem dL_law_315 : decode cL_law 315 = .ok (.iload_n 3, 1) := by decide +kernel
theorem dL_law_316 : decode cL_law 316 = .ok (.iconst 2, 1) := by decide +kernel
theorem dL_law_317 : decode cL_law 317 = .ok (.iadd, 1) := by decide +kernel
theorem dL_law_318 : decode cL_law 318 = .ok (.iaload, 1) := by decide +kernel
theorem dL_law_319 : decode cL_law 319 = .ok (.invokevirtual 32, 3) := by decide +kernel
theorem dL_law_322 : decode cL_law 322 = .ok (.aload_n 2, 1) := by decide +kernel
theorem dL_law_323 : decode cL_law 323 = .ok (.aload_n 0, 1) := by decide +kernel
theorem dL_law_324 : decode cL_law 324 = .ok (.iload_n 3, 1) := by decide +kernel
theorem dL_law_325 : decode cL_law 325 = .ok (.iconst 1, 1) := by decide +kernel
theorem dL_law_326 : decode cL_law 326 = .ok (.iadd, 1) := by decide +kernel
theorem dL_law_327 : decode cL_law 327 = .ok (.iaload, 1) := by decide +kernel
theorem dL_law_328 : decode cL_law 328 = .ok (.aload_n 0, 1) := by decide +kernel
theorem dL_law_329 : decode cL_law 329 = .ok (.iload_n 3, 1) := by decide +kernel
theorem dL_law_330 : decode cL_law 330 = .ok (.iconst 2, 1) := by decide +kernel
theorem dL_law_331 : decode cL_law 331 = .ok (.iadd, 1) := by decide +kernel
theorem dL_law_332 : decode cL_law 332 = .ok (.iaload, 1) := by decide +kernel
theorem dL_law_333 : decode cL_law 333 = .ok (.invokevirtual 35, 3) := by decide +kernel
theorem dL_law_336 : decode cL_law 336 = .ok (.if_icmp .eq 512, 3) := by decide +kernel
theorem dL_law_339 : decode cL_law 339 = .ok (.iconst 0, 1) := by decide +kernel
theorem dL_law_340 : decode cL_law 340 = .ok (.ireturn, 1) := by decide +kernel
theorem dL_law_341 : decode cL_law 341 = .ok (.aload_n 1, 1) := by decide +kernel
theorem dL_law_342 : decode cL_law 342 = .ok (.aload_n 0, 1) := by decide +kernel
theorem dL_law_343 : decode cL_law 343 = .ok (.iload_n 3, 1) := by decide +kernel
theorem dL_law_344 : decode cL_law 344 = .ok (.iconst 1, 1) := by decide +kernel
theorem dL_law_345 : decode cL_law 345 = .ok (.iadd, 1) := by decide +kernel
theorem dL_law_346 : decode cL_law 346 = .ok (.iaload, 1) := by decide +kernel
theorem dL_law_347 : decode cL_law 347 = .ok (.invokevirtual 36, 3) := by decide +kernel
theorem dL_law_350 : decode cL_law 350 = .ok (.aload_n 2, 1) := by decide +kernel
theorem dL_law_351 : decode cL_law 351 = .ok (.aload_n 0, 1) := by decide +kernel
theorem dL_law_352 : decode cL_law 352 = .ok (.iload_n 3, 1) := by decide +kernel
theorem dL_law_353 : decode cL_law 353 = .ok (.iconst 1, 1) := by decide +kernel
theorem dL_law_354 : decode cL_law 354 = .ok (.iadd, 1) := by decide +kernel
theorem dL_law_355 : decode cL_law 355 = .ok (.iaload, 1) := by decide +kernel
theorem dL_law_356 : decode cL_law 356 = .ok (.invokevirtual 40, 3) := by decide +kernel
theorem dL_law_359 : decode cL_law 359 = .ok (.if_icmp .eq 489, 3) := by decide +kernel
theorem dL_law_362 : decode cL_law 362 = .ok (.iconst 0, 1) := by decide +kernel
theorem dL_law_363 : decode cL_law 363 = .ok (.ireturn, 1) := by decide +kernel
theorem dL_law_364 : decode cL_law 364 = .ok (.aload_n 1, 1) := by decide +kernel
theorem dL_law_365 : decode cL_law 365 = .ok (.aload_n 0, 1) := by decide +kernel
theorem dL_law_366 : decode cL_law 366 = .ok (.iload_n 3, 1) := by decide +kernel
theorem dL_law_367 : decode cL_law 367 = .ok (.iconst 1, 1) := by decide +kernel
theorem dL_law_368 : decode cL_law 368 = .ok (.iadd, 1) := by decide +kernel
theorem dL_law_369 : decode cL_law 369 = .ok (.iaload, 1) := by decide +kernel
theorem dL_law_370 : decode cL_law 370 = .ok (.aload_n 0, 1) := by decide +kernel
theorem dL_law_371 : decode cL_law 371 = .ok (.iload_n 3, 1) := by decide +kernel
theorem dL_law_372 : decode cL_law 372 = .ok (.iconst 2, 1) := by decide +kernel
theorem dL_law_373 : decode cL_law 373 = .ok (.iadd, 1) := by decide +kernel
theorem dL_law_374 : decode cL_law 374 = .ok (.iaload, 1) := by decide +kernel
theorem dL_law_375 : decode cL_law 375 = .ok (.invokevirtual 41, 3) := by decide +kernel
theorem dL_law_378 : decode cL_law 378 = .ok (.aload_n 2, 1) := by decide +kernel
theorem dL_law_379 : decode cL_law 379 = .ok (.aload_n 0, 1) := by decide +kernel
theorem dL_law_380 : decode cL_law 380 = .ok (.iload_n 3, 1) := by decide +kernel
theorem dL_law_381 : decode cL_law 381 = .ok (.iconst 1, 1) := by decide +kernel
theorem dL_law_382 : decode cL_law 382 = .ok (.iadd, 1) := by decide +kernel
theorem dL_law_383 : decode cL_law 383 = .ok (.iaload, 1) := by decide +kernel
theorem dL_law_384 : decode cL_law 384 = .ok (.aload_n 0, 1) := by decide +kernel
theorem dL_law_385 : decode cL_law 385 = .ok (.iload_n 3, 1) := by decide +kernel
theorem dL_law_386 : decode cL_law 386 = .ok (.iconst 2, 1) := by decide +kernel
theorem dL_law_387 : decode cL_law 387 = .ok (.iadd, 1) := by decide +kernel
theorem dL_law_388 : decode cL_law 388 = .ok (.iaload, 1) := by decide +kernel
theorem dL_law_389 : decode cL_law 389 = .ok (.invokevirtual 44, 3) := by decide +kernel
theorem dL_law_392 : decode cL_law 392 = .ok (.if_icmp .eq 456, 3) := by decide +kernel
theorem dL_law_395 : decode cL_law 395 = .ok (.iconst 0, 1) := by decide +kernel
theorem dL_law_396 : decode cL_law 396 = .ok (.ireturn, 1) := by decide +kernel
theorem dL_law_397 : decode cL_law 397 = .ok (.aload_n 1, 1) := by decide +kernel
theorem dL_law_398 : decode cL_law 398 = .ok (.aload_n 0, 1) := by decide +kernel
theorem dL_law_399 : decode cL_law 399 = .ok (.iload_n 3, 1) := by decide +kernel
theorem dL_law_400 : decode cL_law 400 = .ok (.iconst 1, 1) := by decide +kernel
theorem dL_law_401 : decode cL_law 401 = .ok (.iadd, 1) := by decide +kernel
theorem dL_law_402 : decode cL_law 402 = .ok (.iaload, 1) := by decide +kernel
theorem dL_law_403 : decode cL_law 403 = .ok (.aload_n 0, 1) := by decide +kernel
theorem dL_law_404 : decode cL_law 404 = .ok (.iload_n 3, 1) := by decide +kernel
theorem dL_law_405 : decode cL_law 405 = .ok (.iconst 2, 1) := by decide +kernel
theorem dL_law_406 : decode cL_law 406 = .ok (.iadd, 1) := by decide +kernel
theorem dL_law_407 : decode cL_law 407 = .ok (.iaload, 1) := by decide +kernel
theorem dL_law_408 : decode cL_law 408 = .ok (.invokevirtual 45, 3) := by decide +kernel
theorem dL_law_411 : decode cL_law 411 = .ok (.aload_n 2, 1) := by decide +kernel
theorem dL_law_412 : decode cL_law 412 = .ok (.aload_n 0, 1) := by decide +kernel
theorem dL_law_413 : decode cL_law 413 = .ok (.iload_n 3, 1) := by decide +kernel
theorem dL_law_414 : decode cL_law 414 = .ok (.iconst 1, 1) := by decide +kernel
theorem dL_law_415 : decode cL_law 415 = .ok (.iadd, 1) := by decide +kernel
theorem dL_law_416 : decode cL_law 416 = .ok (.iaload, 1) := by decide +kernel
theorem dL_law_417 : decode cL_law 417 = .ok (.aload_n 0, 1) := by decide +kernel
theorem dL_law_418 : decode cL_law 418 = .ok (.iload_n 3, 1) := by decide +kernel
theorem dL_law_419 : decode cL_law 419 = .ok (.iconst 2, 1) := by decide +kernel
theorem dL_law_420 : decode cL_law 420 = .ok (.iadd, 1) := by decide +kernel
theorem dL_law_421 : decode cL_law 421 = .ok (.iaload, 1) := by decide +kernel
theorem dL_law_422 : decode cL_law 422 = .ok (.invokevirtual 48, 3) := by decide +kernel
theorem dL_law_425 : decode cL_law 425 = .ok (.if_icmp .eq 423, 3) := by decide +kernel
theorem dL_law_428 : decode cL_law 428 = .ok (.iconst 0, 1) := by decide +kernel
theorem dL_law_429 : decode cL_law 429 = .ok (.ireturn, 1) := by decide +kernel
theorem dL_law_430 : decode cL_law 430 = .ok (.aload_n 1, 1) := by decide +kernel
theorem dL_law_431 : decode cL_law 431 = .ok (.aload_n 0, 1) := by decide +kernel
theorem dL_law_432 : decode cL_law 432 = .ok (.iload_n 3, 1) := by decide +kernel
theorem dL_law_433 : decode cL_law 433 = .ok (.iconst 1, 1) := by decide +kernel
theorem dL_law_434 : decode cL_law 434 = .ok (.iadd, 1) := by decide +kernel
theorem dL_law_435 : decode cL_law 435 = .ok (.iaload, 1) := by decide +kernel
theorem dL_law_436 : decode cL_law 436 = .ok (.aload_n 0, 1) := by decide +kernel
theorem dL_law_437 : decode cL_law 437 = .ok (.iload_n 3, 1) := by decide +kernel
theorem dL_law_438 : decode cL_law 438 = .ok (.iconst 2, 1) := by decide +kernel
theorem dL_law_439 : decode cL_law 439 = .ok (.iadd, 1) := by decide +kernel
theorem dL_law_440 : decode cL_law 440 = .ok (.iaload, 1) := by decide +kernel
theorem dL_law_441 : decode cL_law 441 = .ok (.invokevirtual 49, 3) := by decide +kernel
theorem dL_law_444 : decode cL_law 444 = .ok (.aload_n 2, 1) := by decide +kernel
theorem dL_law_445 : decode cL_law 445 = .ok (.aload_n 0, 1) := by decide +kernel
theorem dL_law_446 : decode cL_law 446 = .ok (.iload_n 3, 1) := by decide +kernel
theorem dL_law_447 : decode cL_law 447 = .ok (.iconst 1, 1) := by decide +kernel
theorem dL_law_448 : decode cL_law 448 = .ok (.iadd, 1) := by decide +kernel
theorem dL_law_449 : decode cL_law 449 = .ok (.iaload, 1) := by decide +kernel
theorem dL_law_450 : decode cL_law 450 = .ok (.aload_n 0, 1) := by decide +kernel
theorem dL_law_451 : decode cL_law 451 = .ok (.iload_n 3, 1) := by decide +kernel
theorem dL_law_452 : decode cL_law 452 = .ok (.iconst 2, 1) := by decide +kernel
theorem dL_law_453 : decode cL_law 453 = .ok (.iadd, 1) := by decide +kernel
theorem dL_law_454 : decode cL_law 454 = .ok (.iaload, 1) := by decide +kernel
theorem dL_law_455 : decode cL_law 455 = .ok (.invokevirtual 52, 3) := by decide +kernel
theorem dL_law_458 : decode cL_law 458 = .ok (.if_icmp .eq 390, 3) := by decide +kernel
theorem dL_law_461 : decode cL_law 461 = .ok (.iconst 0, 1) := by decide +kernel
theorem dL_law_462 : decode cL_law 462 = .ok (.ireturn, 1) := by decide +kernel
theorem dL_law_463 : decode cL_law 463 = .ok (.aload_n 1, 1) := by decide +kernel
theorem dL_law_464 : decode cL_law 464 = .ok (.aload_n 0, 1) := by decide +kernel
theorem dL_law_465 : decode cL_law 465 = .ok (.iload_n 3, 1) := by decide +kernel
theorem dL_law_466 : decode cL_law 466 = .ok (.iconst 1, 1) := by decide +kernel
theorem dL_law_467 : decode cL_law 467 = .ok (.iadd, 1) := by decide +kernel
theorem dL_law_468 : decode cL_law 468 = .ok (.iaload, 1) := by decide +kernel
theorem dL_law_469 : decode cL_law 469 = .ok (.aload_n 0, 1) := by decide +kernel
theorem dL_law_470 : decode cL_law 470 = .ok (.iload_n 3, 1) := by decide +kernel
theorem dL_law_471 : decode cL_law 471 = .ok (.iconst 2, 1) := by decide +kernel
theorem dL_law_472 : decode cL_law 472 = .ok (.iadd, 1) := by decide +kernel
theorem dL_law_473 : decode cL_law 473 = .ok (.iaload, 1) := by decide +kernel
theorem dL_law_474 : decode cL_law 474 = .ok (.invokevirtual 53, 3) := by decide +kernel
theorem dL_law_477 : decode cL_law 477 = .ok (.aload_n 2, 1) := by decide +kernel
theorem dL_law_478 : decode cL_law 478 = .ok (.aload_n 0, 1) := by decide +kernel
theorem dL_law_479 : decode cL_law 479 = .ok (.iload_n 3, 1) := by decide +kernel
theorem dL_law_480 : decode cL_law 480 = .ok (.iconst 1, 1) := by decide +kernel
theorem dL_law_481 : decode cL_law 481 = .ok (.iadd, 1) := by decide +kernel
theorem dL_law_482 : decode cL_law 482 = .ok (.iaload, 1) := by decide +kernel
theorem dL_law_483 : decode cL_law 483 = .ok (.aload_n 0, 1) := by decide +kernel
theorem dL_law_484 : decode cL_law 484 = .ok (.iload_n 3, 1) := by decide +kernel
theorem dL_law_485 : decode cL_law 485 = .ok (.iconst 2, 1) := by decide +kernel
theorem dL_law_486 : decode cL_law 486 = .ok (.iadd, 1) := by decide +kernel
theorem dL_law_487 : decode cL_law 487 = .ok (.iaload, 1) := by decide +kernel
theorem dL_law_488 : decode cL_law 488 = .ok (.invokevirtual 56, 3) := by decide +kernel
theorem dL_law_491 : decode cL_law 491 = .ok (.if_icmp .eq 357, 3) := by decide +kernel
theorem dL_law_494 : decode cL_law 494 = .ok (.iconst 0, 1) := by decide +kernel
theorem dL_law_495 : decode cL_law 495 = .ok (.ireturn, 1) := by decide +kernel
theorem dL_law_496 : decode cL_law 496 = .ok (.aload_n 1, 1) := by decide +kernel
theorem dL_law_497 : decode cL_law 497 = .ok (.aload_n 0, 1) := by decide +kernel
theorem dL_law_498 : decode cL_law 498 = .ok (.iload_n 3, 1) := by decide +kernel
theorem dL_law_499 : decode cL_law 499 = .ok (.iconst 1, 1) := by decide +kernel
theorem dL_law_500 : decode cL_law 500 = .ok (.iadd, 1) := by decide +kernel
theorem dL_law_501 : decode cL_law 501 = .ok (.iaload, 1) := by decide +kernel
theorem dL_law_502 : decode cL_law 502 = .ok (.aload_n 0, 1) := by decide +kernel
theorem dL_law_503 : decode cL_law 503 = .ok (.iload_n 3, 1) := by decide +kernel
theorem dL_law_504 : decode cL_law 504 = .ok (.iconst 2, 1) := by decide +kernel
theorem dL_law_505 : decode cL_law 505 = .ok (.iadd, 1) := by decide +kernel
theorem dL_law_506 : decode cL_law 506 = .ok (.iaload, 1) := by decide +kernel
theorem dL_law_507 : decode cL_law 507 = .ok (.invokevirtual 57, 3) := by decide +kernel
theorem dL_law_510 : decode cL_law 510 = .ok (.aload_n 2, 1) := by decide +kernel
theorem dL_law_511 : decode cL_law 511 = .ok (.aload_n 0, 1) := by decide +kernel
theorem dL_law_512 : decode cL_law 512 = .ok (.iload_n 3, 1) := by decide +kernel
theorem dL_law_513 : decode cL_law 513 = .ok (.iconst 1, 1) := by decide +kernel
theorem dL_law_514 : decode cL_law 514 = .ok (.iadd, 1) := by decide +kernel
theorem dL_law_515 : decode cL_law 515 = .ok (.iaload, 1) := by decide +kernel
theorem dL_law_516 : decode cL_law 516 = .ok (.aload_n 0, 1) := by decide +kernel
theorem dL_law_517 : decode cL_law 517 = .ok (.iload_n 3, 1) := by decide +kernel
theorem dL_law_518 : decode cL_law 518 = .ok (.iconst 2, 1) := by decide +kernel
theorem dL_law_519 : decode cL_law 519 = .ok (.iadd, 1) := by decide +kernel
theorem dL_law_520 : decode cL_law 520 = .ok (.iaload, 1) := by decide +kernel
theorem dL_law_521 : decode cL_law 521 = .ok (.invokevirtual 60, 3) := by decide +kernel
theorem dL_law_524 : decode cL_law 524 = .ok (.if_icmp .eq 324, 3) := by decide +kernel
theorem dL_law_527 : decode cL_law 527 = .ok (.iconst 0, 1) := by decide +kernel
theorem dL_law_528 : decode cL_law 528 = .ok (.ireturn, 1) := by decide +kernel
theorem dL_law_529 : decode cL_law 529 = .ok (.aload_n 1, 1) := by decide +kernel
theorem dL_law_530 : decode cL_law 530 = .ok (.aload_n 0, 1) := by decide +kernel
theorem dL_law_531 : decode cL_law 531 = .ok (.iload_n 3, 1) := by decide +kernel
theorem dL_law_532 : decode cL_law 532 = .ok (.iconst 1, 1) := by decide +kernel
theorem dL_law_533 : decode cL_law 533 = .ok (.iadd, 1) := by decide +kernel
theorem dL_law_534 : decode cL_law 534 = .ok (.iaload, 1) := by decide +kernel
theorem dL_law_535 : decode cL_law 535 = .ok (.aload_n 0, 1) := by decide +kernel
theorem dL_law_536 : decode cL_law 536 = .ok (.iload_n 3, 1) := by decide +kernel
theorem dL_law_537 : decode cL_law 537 = .ok (.iconst 2, 1) := by decide +kernel
theorem dL_law_538 : decode cL_law 538 = .ok (.iadd, 1) := by decide +kernel
theorem dL_law_539 : decode cL_law 539 = .ok (.iaload, 1) := by decide +kernel
theorem dL_law_540 : decode cL_law 540 = .ok (.aload_n 0, 1) := by decide +kernel
theorem dL_law_541 : decode cL_law 541 = .ok (.iload_n 3, 1) := by decide +kernel
theorem dL_law_542 : decode cL_law 542 = .ok (.iconst 3, 1) := by decide +kernel
theorem dL_law_543 : decode cL_law 543 = .ok (.iadd, 1) := by decide +kernel
theorem dL_law_544 : decode cL_law 544 = .ok (.iaload, 1) := by decide +kernel
theorem dL_law_545 : decode cL_law 545 = .ok (.invokevirtual 61, 3) := by decide +kernel
theorem dL_law_548 : decode cL_law 548 = .ok (.aload_n 2, 1) := by decide +kernel
theorem dL_law_549 : decode cL_law 549 = .ok (.aload_n 0, 1) := by decide +kernel
theorem dL_law_550 : decode cL_law 550 = .ok (.iload_n 3, 1) := by decide +kernel
theorem dL_law_551 : decode cL_law 551 = .ok (.iconst 1, 1) := by decide +kernel
theorem dL_law_552 : decode cL_law 552 = .ok (.iadd, 1) := by decide +kernel
theorem dL_law_553 : decode cL_law 553 = .ok (.iaload, 1) := by decide +kernel
theorem dL_law_554 : decode cL_law 554 = .ok (.aload_n 0, 1) := by decide +kernel
theorem dL_law_555 : decode cL_law 555 = .ok (.iload_n 3, 1) := by decide +kernel
theorem dL_law_556 : decode cL_law 556 = .ok (.iconst 2, 1) := by decide +kernel
theorem dL_law_557 : decode cL_law 557 = .ok (.iadd, 1) := by decide +kernel
theorem dL_law_558 : decode cL_law 558 = .ok (.iaload, 1) := by decide +kernel
theorem dL_law_559 : decode cL_law 559 = .ok (.aload_n 0, 1) := by decide +kernel
theorem dL_law_560 : decode cL_law 560 = .ok (.iload_n 3, 1) := by decide +kernel
theorem dL_law_561 : decode cL_law 561 = .ok (.iconst 3, 1) := by decide +kernel
theorem dL_law_562 : decode cL_law 562 = .ok (.iadd, 1) := by decide +kernel
theorem dL_law_563 : decode cL_law 563 = .ok (.iaload, 1) := by decide +kernel
theorem dL_law_564 : decode cL_law 564 = .ok (.invokevirtual 64, 3) := by decide +kernel
theorem dL_law_567 : decode cL_law 567 = .ok (.if_icmp .eq 281, 3) := by decide +kernel
theorem dL_law_570 : decode cL_law 570 = .ok (.iconst 0, 1) := by decide +kernel
theorem dL_law_571 : decode cL_law 571 = .ok (.ireturn, 1) := by decide +kernel
theorem dL_law_572 : decode cL_law 572 = .ok (.aload_n 1, 1) := by decide +kernel
theorem dL_law_573 : decode cL_law 573 = .ok (.aload_n 0, 1) := by decide +kernel
theorem dL_law_574 : decode cL_law 574 = .ok (.iload_n 3, 1) := by decide +kernel
theorem dL_law_575 : decode cL_law 575 = .ok (.iconst 1, 1) := by decide +kernel
theorem dL_law_576 : decode cL_law 576 = .ok (.iadd, 1) := by decide +kernel
theorem dL_law_577 : decode cL_law 577 = .ok (.iaload, 1) := by decide +kernel
theorem dL_law_578 : decode cL_law 578 = .ok (.invokevirtual 65, 3) := by decide +kernel
theorem dL_law_581 : decode cL_law 581 = .ok (.aload_n 2, 1) := by decide +kernel
theorem dL_law_582 : decode cL_law 582 = .ok (.aload_n 0, 1) := by decide +kernel
theorem dL_law_583 : decode cL_law 583 = .ok (.iload_n 3, 1) := by decide +kernel
theorem dL_law_584 : decode cL_law 584 = .ok (.iconst 1, 1) := by decide +kernel
theorem dL_law_585 : decode cL_law 585 = .ok (.iadd, 1) := by decide +kernel
theorem dL_law_586 : decode cL_law 586 = .ok (.iaload, 1) := by decide +kernel
theorem dL_law_587 : decode cL_law 587 = .ok (.invokevirtual 68, 3) := by decide +kernel
theorem dL_law_590 : decode cL_law 590 = .ok (.if_icmp .eq 258, 3) := by decide +kernel
theorem dL_law_593 : decode cL_law 593 = .ok (.iconst 0, 1) := by decide +kernel
theorem dL_law_594 : decode cL_law 594 = .ok (.ireturn, 1) := by decide +kernel
theorem dL_law_595 : decode cL_law 595 = .ok (.aload_n 1, 1) := by decide +kernel
theorem dL_law_596 : decode cL_law 596 = .ok (.aload_n 0, 1) := by decide +kernel
theorem dL_law_597 : decode cL_law 597 = .ok (.iload_n 3, 1) := by decide +kernel
theorem dL_law_598 : decode cL_law 598 = .ok (.iconst 1, 1) := by decide +kernel
theorem dL_law_599 : decode cL_law 599 = .ok (.iadd, 1) := by decide +kernel
theorem dL_law_600 : decode cL_law 600 = .ok (.iaload, 1) := by decide +kernel
theorem dL_law_601 : decode cL_law 601 = .ok (.aload_n 0, 1) := by decide +kernel
theorem dL_law_602 : decode cL_law 602 = .ok (.iload_n 3, 1) := by decide +kernel
theorem dL_law_603 : decode cL_law 603 = .ok (.iconst 2, 1) := by decide +kernel
theorem dL_law_604 : decode cL_law 604 = .ok (.iadd, 1) := by decide +kernel
theorem dL_law_605 : decode cL_law 605 = .ok (.iaload, 1) := by decide +kernel
theorem dL_law_606 : decode cL_law 606 = .ok (.invokevirtual 69, 3) := by decide +kernel
theorem dL_law_609 : decode cL_law 609 = .ok (.aload_n 2, 1) := by decide +kernel
theorem dL_law_610 : decode cL_law 610 = .ok (.aload_n 0, 1) := by decide +kernel
theorem dL_law_611 : decode cL_law 611 = .ok (.iload_n 3, 1) := by decide +kernel
theorem dL_law_612 : decode cL_law 612 = .ok (.iconst 1, 1) := by decide +kernel
theorem dL_law_613 : decode cL_law 613 = .ok (.iadd, 1) := by decide +kernel
theorem dL_law_614 : decode cL_law 614 = .ok (.iaload, 1) := by decide +kernel
theorem dL_law_615 : decode cL_law 615 = .ok (.aload_n 0, 1) := by decide +kernel
theorem dL_law_616 : decode cL_law 616 = .ok (.iload_n 3, 1) := by decide +kernel
theorem dL_law_617 : decode cL_law 617 = .ok (.iconst 2, 1) := by decide +kernel
theorem dL_law_618 : decode cL_law 618 = .ok (.iadd, 1) := by decide +kernel
theorem dL_law_619 : decode cL_law 619 = .ok (.iaload, 1) := by decide +kernel
theorem dL_law_620 : decode cL_law 620 = .ok (.invokevirtual 72, 3) := by decide +kernel
theorem dL_law_623 : decode cL_law 623 = .ok (.if_icmp .eq 225, 3) := by decide +kernel
theorem dL_law_626 : decode cL_law 626 = .ok (.iconst 0, 1) := by decide +kernel
theorem dL_law_627 : decode cL_law 627 = .ok (.ireturn, 1) := by decide +kernel
theorem dL_law_628 : decode cL_law 628 = .ok (.aload_n 1, 1) := by decide +kernel
theorem dL_law_629 : decode cL_law 629 = .ok (.aload_n 0, 1) := by decide +kernel
theorem dL_law_630 : decode cL_law 630 = .ok (.iload_n 3, 1) := by decide +kernel
theorem dL_law_631 : decode cL_law 631 = .ok (.iconst 1, 1) := by decide +kernel
theorem dL_law_632 : decode cL_law 632 = .ok (.iadd, 1) := by decide +kernel
theorem dL_law_633 : decode cL_law 633 = .ok (.iaload, 1) := by decide +kernel
theorem dL_law_634 : decode cL_law 634 = .ok (.aload_n 0, 1) := by decide +kernel
theorem dL_law_635 : decode cL_law 635 = .ok (.iload_n 3, 1) := by decide +kernel
theorem dL_law_636 : decode cL_law 636 = .ok (.iconst 2, 1) := by decide +kernel
theorem dL_law_637 : decode cL_law 637 = .ok (.iadd, 1) := by decide +kernel
theorem dL_law_638 : decode cL_law 638 = .ok (.iaload, 1) := by decide +kernel
theorem dL_law_639 : decode cL_law 639 = .ok (.invokevirtual 73, 3) := by decide +kernel
theorem dL_law_642 : decode cL_law 642 = .ok (.aload_n 2, 1) := by decide +kernel
theorem dL_law_643 : decode cL_law 643 = .ok (.aload_n 0, 1) := by decide +kernel
theorem dL_law_644 : decode cL_law 644 = .ok (.iload_n 3, 1) := by decide +kernel
theorem dL_law_645 : decode cL_law 645 = .ok (.iconst 1, 1) := by decide +kernel
theorem dL_law_646 : decode cL_law 646 = .ok (.iadd, 1) := by decide +kernel
theorem dL_law_647 : decode cL_law 647 = .ok (.iaload, 1) := by decide +kernel
theorem dL_law_648 : decode cL_law 648 = .ok (.aload_n 0, 1) := by decide +kernel
theorem dL_law_649 : decode cL_law 649 = .ok (.iload_n 3, 1) := by decide +kernel
theorem dL_law_650 : decode cL_law 650 = .ok (.iconst 2, 1) := by decide +kernel
theorem dL_law_651 : decode cL_law 651 = .ok (.iadd, 1) := by decide +kernel
theorem dL_law_652 : decode cL_law 652 = .ok (.iaload, 1) := by decide +kernel
theorem dL_law_653 : decode cL_law 653 = .ok (.invokevirtual 76, 3) := by decide +kernel
theorem dL_law_656 : decode cL_law 656 = .ok (.if_icmp .eq 192, 3) := by decide +kernel
theorem dL_law_659 : decode cL_law 659 = .ok (.iconst 0, 1) := by decide +kernel
theorem dL_law_660 : decode cL_law 660 = .ok (.ireturn, 1) := by decide +kernel
theorem dL_law_661 : decode cL_law 661 = .ok (.aload_n 1, 1) := by decide +kernel
theorem dL_law_662 : decode cL_law 662 = .ok (.aload_n 0, 1) := by decide +kernel
theorem dL_law_663 : decode cL_law 663 = .ok (.iload_n 3, 1) := by decide +kernel
theorem dL_law_664 : decode cL_law 664 = .ok (.iconst 1, 1) := by decide +kernel
theorem dL_law_665 : decode cL_law 665 = .ok (.iadd, 1) := by decide +kernel
theorem dL_law_666 : decode cL_law 666 = .ok (.iaload, 1) := by decide +kernel
theorem dL_law_667 : decode cL_law 667 = .ok (.aload_n 0, 1) := by decide +kernel
theorem dL_law_668 : decode cL_law 668 = .ok (.iload_n 3, 1) := by decide +kernel
theorem dL_law_669 : decode cL_law 669 = .ok (.iconst 2, 1) := by decide +kernel
theorem dL_law_670 : decode cL_law 670 = .ok (.iadd, 1) := by decide +kernel
theorem dL_law_671 : decode cL_law 671 = .ok (.iaload, 1) := by decide +kernel
theorem dL_law_672 : decode cL_law 672 = .ok (.invokevirtual 77, 3) := by decide +kernel
theorem dL_law_675 : decode cL_law 675 = .ok (.aload_n 2, 1) := by decide +kernel
theorem dL_law_676 : decode cL_law 676 = .ok (.aload_n 0, 1) := by decide +kernel
theorem dL_law_677 : decode cL_law 677 = .ok (.iload_n 3, 1) := by decide +kernel
theorem dL_law_678 : decode cL_law 678 = .ok (.iconst 1, 1) := by decide +kernel
theorem dL_law_679 : decode cL_law 679 = .ok (.iadd, 1) := by decide +kernel
theorem dL_law_680 : decode cL_law 680 = .ok (.iaload, 1) := by decide +kernel
theorem dL_law_681 : decode cL_law 681 = .ok (.aload_n 0, 1) := by decide +kernel
theorem dL_law_682 : decode cL_law 682 = .ok (.iload_n 3, 1) := by decide +kernel
theorem dL_law_683 : decode cL_law 683 = .ok (.iconst 2, 1) := by decide +kernel
theorem dL_law_684 : decode cL_law 684 = .ok (.iadd, 1) := by decide +kernel
theorem dL_law_685 : decode cL_law 685 = .ok (.iaload, 1) := by decide +kernel
theorem dL_law_686 : decode cL_law 686 = .ok (.invokevirtual 80, 3) := by decide +kernel
theorem dL_law_689 : decode cL_law 689 = .ok (.if_icmp .eq 159, 3) := by decide +kernel
theorem dL_law_692 : decode cL_law 692 = .ok (.iconst 0, 1) := by decide +kernel
theorem dL_law_693 : decode cL_law 693 = .ok (.ireturn, 1) := by decide +kernel
theorem dL_law_694 : decode cL_law 694 = .ok (.aload_n 1, 1) := by decide +kernel
theorem dL_law_695 : decode cL_law 695 = .ok (.aload_n 0, 1) := by decide +kernel
theorem dL_law_696 : decode cL_law 696 = .ok (.iload_n 3, 1) := by decide +kernel
theorem dL_law_697 : decode cL_law 697 = .ok (.iconst 1, 1) := by decide +kernel
theorem dL_law_698 : decode cL_law 698 = .ok (.iadd, 1) := by decide +kernel
theorem dL_law_699 : decode cL_law 699 = .ok (.iaload, 1) := by decide +kernel
theorem dL_law_700 : decode cL_law 700 = .ok (.aload_n 0, 1) := by decide +kernel
theorem dL_law_701 : decode cL_law 701 = .ok (.iload_n 3, 1) := by decide +kernel
theorem dL_law_702 : decode cL_law 702 = .ok (.iconst 2, 1) := by decide +kernel
theorem dL_law_703 : decode cL_law 703 = .ok (.iadd, 1) := by decide +kernel
theorem dL_law_704 : decode cL_law 704 = .ok (.iaload, 1) := by decide +kernel
theorem dL_law_705 : decode cL_law 705 = .ok (.invokevirtual 81, 3) := by decide +kernel
theorem dL_law_708 : decode cL_law 708 = .ok (.aload_n 2, 1) := by decide +kernel
theorem dL_law_709 : decode cL_law 709 = .ok (.aload_n 0, 1) := by decide +kernel
theorem dL_law_710 : decode cL_law 710 = .ok (.iload_n 3, 1) := by decide +kernel
theorem dL_law_711 : decode cL_law 711 = .ok (.iconst 1, 1) := by decide +kernel
theorem dL_law_712 : decode cL_law 712 = .ok (.iadd, 1) := by decide +kernel
theorem dL_law_713 : decode cL_law 713 = .ok (.iaload, 1) := by decide +kernel
theorem dL_law_714 : decode cL_law 714 = .ok (.aload_n 0, 1) := by decide +kernel
theorem dL_law_715 : decode cL_law 715 = .ok (.iload_n 3, 1) := by decide +kernel
theorem dL_law_716 : decode cL_law 716 = .ok (.iconst 2, 1) := by decide +kernel
theorem dL_law_717 : decode cL_law 717 = .ok (.iadd, 1) := by decide +kernel
theorem dL_law_718 : decode cL_law 718 = .ok (.iaload, 1) := by decide +kernel
theorem dL_law_719 : decode cL_law 719 = .ok (.invokevirtual 84, 3) := by decide +kernel
theorem dL_law_722 : decode cL_law 722 = .ok (.if_icmp .eq 126, 3) := by decide +kernel
theorem dL_law_725 : decode cL_law 725 = .ok (.iconst 0, 1) := by decide +kernel
theorem dL_law_726 : decode cL_law 726 = .ok (.ireturn, 1) := by decide +kernel
theorem dL_law_727 : decode cL_law 727 = .ok (.aload_n 1, 1) := by decide +kernel
theorem dL_law_728 : decode cL_law 728 = .ok (.aload_n 0, 1) := by decide +kernel
theorem dL_law_729 : decode cL_law 729 = .ok (.iload_n 3, 1) := by decide +kernel
theorem dL_law_730 : decode cL_law 730 = .ok (.iconst 1, 1) := by decide +kernel
theorem dL_law_731 : decode cL_law 731 = .ok (.iadd, 1) := by decide +kernel
theorem dL_law_732 : decode cL_law 732 = .ok (.iaload, 1) := by decide +kernel
theorem dL_law_733 : decode cL_law 733 = .ok (.ifCond .eq 7, 3) := by decide +kernel
theorem dL_law_736 : decode cL_law 736 = .ok (.iconst 1, 1) := by decide +kernel
theorem dL_law_737 : decode cL_law 737 = .ok (.goto 4, 3) := by decide +kernel
theorem dL_law_740 : decode cL_law 740 = .ok (.iconst 0, 1) := by decide +kernel
theorem dL_law_741 : decode cL_law 741 = .ok (.invokevirtual 85, 3) := by decide +kernel
theorem dL_law_744 : decode cL_law 744 = .ok (.aload_n 2, 1) := by decide +kernel
theorem dL_law_745 : decode cL_law 745 = .ok (.aload_n 0, 1) := by decide +kernel
theorem dL_law_746 : decode cL_law 746 = .ok (.iload_n 3, 1) := by decide +kernel
theorem dL_law_747 : decode cL_law 747 = .ok (.iconst 1, 1) := by decide +kernel
theorem dL_law_748 : decode cL_law 748 = .ok (.iadd, 1) := by decide +kernel
theorem dL_law_749 : decode cL_law 749 = .ok (.iaload, 1) := by decide +kernel
theorem dL_law_750 : decode cL_law 750 = .ok (.ifCond .eq 7, 3) := by decide +kernel
theorem dL_law_753 : decode cL_law 753 = .ok (.iconst 1, 1) := by decide +kernel
theorem dL_law_754 : decode cL_law 754 = .ok (.goto 4, 3) := by decide +kernel
theorem dL_law_757 : decode cL_law 757 = .ok (.iconst 0, 1) := by decide +kernel
theorem dL_law_758 : decode cL_law 758 = .ok (.invokevirtual 89, 3) := by decide +kernel
theorem dL_law_761 : decode cL_law 761 = .ok (.if_icmp .eq 87, 3) := by decide +kernel
theorem dL_law_764 : decode cL_law 764 = .ok (.iconst 0, 1) := by decide +kernel
theorem dL_law_765 : decode cL_law 765 = .ok (.ireturn, 1) := by decide +kernel
theorem dL_law_766 : decode cL_law 766 = .ok (.aload_n 1, 1) := by decide +kernel
theorem dL_law_767 : decode cL_law 767 = .ok (.aload_n 0, 1) := by decide +kernel
theorem dL_law_768 : decode cL_law 768 = .ok (.iload_n 3, 1) := by decide +kernel
theorem dL_law_769 : decode cL_law 769 = .ok (.iconst 1, 1) := by decide +kernel
theorem dL_law_770 : decode cL_law 770 = .ok (.iadd, 1) := by decide +kernel
theorem dL_law_771 : decode cL_law 771 = .ok (.iaload, 1) := by decide +kernel
theorem dL_law_772 : decode cL_law 772 = .ok (.invokevirtual 90, 3) := by decide +kernel
theorem dL_law_775 : decode cL_law 775 = .ok (.aload_n 2, 1) := by decide +kernel
theorem dL_law_776 : decode cL_law 776 = .ok (.aload_n 0, 1) := by decide +kernel
theorem dL_law_777 : decode cL_law 777 = .ok (.iload_n 3, 1) := by decide +kernel
theorem dL_law_778 : decode cL_law 778 = .ok (.iconst 1, 1) := by decide +kernel
theorem dL_law_779 : decode cL_law 779 = .ok (.iadd, 1) := by decide +kernel
theorem dL_law_780 : decode cL_law 780 = .ok (.iaload, 1) := by decide +kernel
theorem dL_law_781 : decode cL_law 781 = .ok (.invokevirtual 93, 3) := by decide +kernel
theorem dL_law_784 : decode cL_law 784 = .ok (.if_icmp .eq 64, 3) := by decide +kernel
theorem dL_law_787 : decode cL_law 787 = .ok (.iconst 0, 1) := by decide +kernel
theorem dL_law_788 : decode cL_law 788 = .ok (.ireturn, 1) := by decide +kernel
theorem dL_law_789 : decode cL_law 789 = .ok (.aload_n 1, 1) := by decide +kernel
theorem dL_law_790 : decode cL_law 790 = .ok (.aload_n 0, 1) := by decide +kernel
theorem dL_law_791 : decode cL_law 791 = .ok (.iload_n 3, 1) := by decide +kernel
theorem dL_law_792 : decode cL_law 792 = .ok (.iconst 1, 1) := by decide +kernel
theorem dL_law_793 : decode cL_law 793 = .ok (.iadd, 1) := by decide +kernel
theorem dL_law_794 : decode cL_law 794 = .ok (.iaload, 1) := by decide +kernel
theorem dL_law_795 : decode cL_law 795 = .ok (.invokevirtual 94, 3) := by decide +kernel
theorem dL_law_798 : decode cL_law 798 = .ok (.aload_n 2, 1) := by decide +kernel
theorem dL_law_799 : decode cL_law 799 = .ok (.aload_n 0, 1) := by decide +kernel
theorem dL_law_800 : decode cL_law 800 = .ok (.iload_n 3, 1) := by decide +kernel
theorem dL_law_801 : decode cL_law 801 = .ok (.iconst 1, 1) := by decide +kernel
theorem dL_law_802 : decode cL_law 802 = .ok (.iadd, 1) := by decide +kernel
theorem dL_law_803 : decode cL_law 803 = .ok (.iaload, 1) := by decide +kernel
theorem dL_law_804 : decode cL_law 804 = .ok (.invokevirtual 97, 3) := by decide +kernel
theorem dL_law_807 : decode cL_law 807 = .ok (.if_icmp .eq 41, 3) := by decide +kernel
theorem dL_law_810 : decode cL_law 810 = .ok (.iconst 0, 1) := by decide +kernel
theorem dL_law_811 : decode cL_law 811 = .ok (.ireturn, 1) := by decide +kernel
theorem dL_law_812 : decode cL_law 812 = .ok (.aload_n 1, 1) := by decide +kernel
theorem dL_law_813 : decode cL_law 813 = .ok (.aload_n 0, 1) := by decide +kernel
theorem dL_law_814 : decode cL_law 814 = .ok (.iload_n 3, 1) := by decide +kernel
theorem dL_law_815 : decode cL_law 815 = .ok (.iconst 1, 1) := by decide +kernel
theorem dL_law_816 : decode cL_law 816 = .ok (.iadd, 1) := by decide +kernel
theorem dL_law_817 : decode cL_law 817 = .ok (.iaload, 1) := by decide +kernel
theorem dL_law_818 : decode cL_law 818 = .ok (.invokevirtual 98, 3) := by decide +kernel
theorem dL_law_821 : decode cL_law 821 = .ok (.aload_n 2, 1) := by decide +kernel
theorem dL_law_822 : decode cL_law 822 = .ok (.aload_n 0, 1) := by decide +kernel
theorem dL_law_823 : decode cL_law 823 = .ok (.iload_n 3, 1) := by decide +kernel
theorem dL_law_824 : decode cL_law 824 = .ok (.iconst 1, 1) := by decide +kernel
theorem dL_law_825 : decode cL_law 825 = .ok (.iadd, 1) := by decide +kernel
theorem dL_law_826 : decode cL_law 826 = .ok (.iaload, 1) := by decide +kernel
theorem dL_law_827 : decode cL_law 827 = .ok (.invokevirtual 101, 3) := by decide +kernel
theorem dL_law_830 : decode cL_law 830 = .ok (.if_icmp .eq 18, 3) := by decide +kernel
theorem dL_law_833 : decode cL_law 833 = .ok (.iconst 0, 1) := by decide +kernel
theorem dL_law_834 : decode cL_law 834 = .ok (.ireturn, 1) := by decide +kernel
theorem dL_law_835 : decode cL_law 835 = .ok (.aload_n 1, 1) := by decide +kernel
theorem dL_law_836 : decode cL_law 836 = .ok (.invokevirtual 102, 3) := by decide +kernel
theorem dL_law_839 : decode cL_law 839 = .ok (.aload_n 2, 1) := by decide +kernel
theorem dL_law_840 : decode cL_law 840 = .ok (.invokevirtual 106, 3) := by decide +kernel
theorem dL_law_843 : decode cL_law 843 = .ok (.if_icmp .eq 5, 3) := by decide +kernel
theorem dL_law_846 : decode cL_law 846 = .ok (.iconst 0, 1) := by decide +kernel
theorem dL_law_847 : decode cL_law 847 = .ok (.ireturn, 1) := by decide +kernel
theorem dL_law_848 : decode cL_law 848 = .ok (.iinc 3 5, 3) := by decide +kernel
theorem dL_law_851 : decode cL_law 851 = .ok (.goto (-833), 3) := by decide +kernel
theorem dL_law_854 : decode cL_law 854 = .ok (.iconst 1, 1) := by decide +kernel
theorem dL_law_855 : decode cL_law 855 = .ok (.ireturn, 1) := by decide +kernel
end
section
/-! ints: iI of an Int, bI of a Bool -/
def iI (z : Int) : Int32 := Int32.ofInt z
def iB (z : Int) : Prop := -2147483648 ≤ z ∧ z < 2147483648
def bI (b : Bool) : Int32 := iI (if b then 1 else 0)
theorem iI_toInt {z : Int} (h : iB z) : (iI z).toInt = z := Int32.toInt_ofInt_of_le (by have := h.1; omega) (by have := h.2; omega)
theorem iI_add (x y : Int) : iI x + iI y = iI (x + y) := (Int32.ofInt_add x y).symm
theorem iI_sub (x y : Int) : iI x - iI y = iI (x - y) := (Int32.ofInt_sub x y).symm
theorem iI_mul (x y : Int) : iI x * iI y = iI (x * y) := (Int32.ofInt_mul x y).symm
theorem iI_neg (x : Int) : - iI x = iI (-x) := (Int32.ofInt_neg x).symm
theorem iI_of (x : Int32) : ∃ z : Int, iB z ∧ x = iI z := ⟨x.toInt, ⟨by have := x.le_toInt; omega, by have := x.toInt_lt; omega⟩, (Int32.ofInt_toInt x).symm⟩
theorem iI_le {x y : Int} (hx : iB x) (hy : iB y) : iI x ≤ iI y ↔ x ≤ y := by rw [Int32.le_iff_toInt_le, iI_toInt hx, iI_toInt hy]
theorem iI_lt {x y : Int} (hx : iB x) (hy : iB y) : iI x < iI y ↔ x < y := by rw [Int32.lt_iff_toInt_lt, iI_toInt hx, iI_toInt hy]
theorem iI_eq {x y : Int} (hx : iB x) (hy : iB y) : iI x = iI y ↔ x = y := by rw [← Int32.toInt_inj, iI_toInt hx, iI_toInt hy]
theorem iI_0 : (0 : Int32) = iI 0 := by decide +kernel
theorem iI_1 : (1 : Int32) = iI 1 := by decide +kernel
theorem iI_nI (n : Nat) : iI (n : Int) = nI n := by simp [iI, nI, Int32.ofInt_eq_ofNat]
theorem iI_cl {z : Int} (h0 : 0 ≤ z) (h1 : z < 2147483648) : (iI z).toNatClampNeg = z.toNat := Int32.toNatClampNeg_ofInt_of_le (by omega) (by omega)
theorem iI_in {z : Int} {n : Nat} (h0 : 0 ≤ z) (h1 : z < (n : Int)) (hn : n < 2147483648) : vp_in (iI z) n := by
  rw [vp_in_iff, iI_toInt ⟨by omega, by omega⟩]; exact ⟨h0, h1⟩
theorem iB_0 : iB 0 := ⟨by omega, by omega⟩
theorem bI_t : bI true = iI 1 := rfl
theorem bI_f : bI false = iI 0 := rfl
theorem bI_inj {x y : Bool} (h : bI x = bI y) : x = y := by cases x <;> cases y <;> first | rfl | (exact absurd h (by decide +kernel))
theorem bI_eq {x y : Bool} : bI x = bI y ↔ x = y := ⟨bI_inj, fun h => h ▸ rfl⟩
theorem bI_nar (b : Bool) : vp_nar .boolean (bI b) = bI b := by cases b <;> decide +kernel
theorem bI_narrow (b : Bool) : narrow .boolean (.int (bI b)) = .int (bI b) := by cases b <;> decide +kernel
theorem bI_fits (b : Bool) : fits .boolean (.int (bI b)) = true := by cases b <;> decide +kernel
/-! memories -/
abbrev hm_M : Type := Nat → Option va_E
def hm_up (w : hm_M) (a : Nat) (e : va_E) : hm_M := fun q => if q = a then some e else w q
theorem hm_us {w : hm_M} {a : Nat} {e : va_E} : hm_up w a e a = some e := by simp [hm_up]
theorem hm_un {w : hm_M} {a q : Nat} {e : va_E} (h : q ≠ a) : hm_up w a e q = w q := by simp [hm_up, h]
theorem hm_uu {w : hm_M} {a : Nat} {e e' : va_E} : hm_up (hm_up w a e) a e' = hm_up w a e' := by
  funext q; by_cases h : q = a <;> simp [hm_up, h]
theorem hm_uc {w : hm_M} {a b : Nat} {e e' : va_E} (h : a ≠ b) : hm_up (hm_up w a e) b e' = hm_up (hm_up w b e') a e := by
  funext q; by_cases h1 : q = a
  · subst h1; simp [hm_up, h]
  · by_cases h2 : q = b <;> simp [hm_up, h1, h2, Ne.symm h]
theorem hm_uid {w : hm_M} {a : Nat} {e : va_E} (h : w a = some e) : hm_up w a e = w := by
  funext q; by_cases h1 : q = a
  · subst h1; rw [hm_us, h]
  · rw [hm_un h1]
def hm_N (U : State) : Prop := (∀ q ∈ hNm, va_Nw (.methodLinkNest q.1 q.2.1 q.2.2.1 q.2.2.2) U) ∧ (∀ q ∈ hNd, va_Nw (.declares q) U) ∧ (∀ q ∈ hNc, va_Nw (.castable q.1 q.2) U) ∧ ∀ q ∈ hNa, va_AO q U
theorem hm_N.warm {s U : State} (hW : s.WarmedH U.vm) (h : hm_N s) : hm_N U := ⟨fun q hq => va_Nw.warmM hW (h.1 q hq), fun q hq => va_Nw.warmD hW (h.2.1 q hq), fun q hq => va_Nw.warmC hW (h.2.2.1 q hq), fun q hq => (h.2.2.2 q hq).moved hW.alike⟩
theorem hm_N.same {u U : State} (h : u.vm = U.vm) (hN : hm_N u) : hm_N U := ⟨fun q hq => va_Nw.same rfl h (hN.1 q hq), fun q hq => va_Nw.same rfl h (hN.2.1 q hq), fun q hq => va_Nw.same rfl h (hN.2.2.1 q hq), fun q hq => (hN.2.2.2 q hq).moved (by rw [h]; exact Vm.Alike.refl _)⟩
def hm_T (K : Nat → ClassId) : List (ClassId × FieldType) := [(K 0, .int), (K 1, .boolean), (K 2, .object "KeyRows$Numbers"), (K 3, .object "KeyRows$Code")]
def hm_Kn (D : va_G) (K : Nat → ClassId) (U : State) : Prop := va_K D vwCl (hm_T K) U ∧ hm_N U
theorem hm_Kn.warm {D : va_G} {K : Nat → ClassId} {s U : State} (hW : s.WarmedH U.vm) (h : hm_Kn D K s) : hm_Kn D K U := ⟨va_K.moved hW.alike h.1, h.2.warm hW⟩
def hm_H (D : va_G) (w : hm_M) (H : Heap) : Prop := ∀ (a : Nat) (e : va_E), w a = some e → va_at D vwCl (a, e) H
theorem hm_H.lt {D : va_G} {w : hm_M} {H : Heap} {a : Nat} {e : va_E} (h : hm_H D w H) (ha : w a = some e) : a < H.size := (h a e ha).lt
theorem hm_H.put {D : va_G} {w : hm_M} {H H1 : Heap} {a : Nat} {e : va_E} (h : hm_H D w H) (hn : va_at D vwCl (a, e) H1) (oq : ∀ q : Nat, q ≠ a → H1[q]? = H[q]?) : hm_H D (hm_up w a e) H1 := by
  intro b x hb
  by_cases hq : b = a
  · subst hq; rw [hm_us] at hb; cases hb; exact hn
  · rw [hm_un hq] at hb; exact (h b x hb).kept (oq b hq)
theorem hm_H.new {D : va_G} {w : hm_M} {H H1 : Heap} {e : va_E} (h : hm_H D w H) (hn : va_at D vwCl (H.size, e) H1) (oq : ∀ q : Nat, q < H.size → H1[q]? = H[q]?) : hm_H D (hm_up w H.size e) H1 := by
  intro b x hb
  by_cases hq : b = H.size
  · subst hq; rw [hm_us] at hb; cases hb; exact hn
  · rw [hm_un hq] at hb; exact (h b x hb).kept (oq b (h.lt hb))
theorem hm_H.fresh {D : va_G} {w : hm_M} {H : Heap} {a : Nat} (h : hm_H D w H) (ha : H.size ≤ a) : w a = none := by
  cases e : w a with
  | none => rfl
  | some x => exact absurd (h.lt e) (by omega)
def hm_A (w : hm_M) (sz : Nat) : Nat → Prop := fun q => w q ≠ none ∨ sz ≤ q
/-- what stands fixed in a method: machine, code, locals' number, own class, words, classes, cells that may change -/
def hm_E (p : Program) (s : State) (m : MethodId) (args : Array Value) (meth : Method) (c : Code) (cc : ByteArray) (nL : Nat) (own : String) (D : va_G) (K : Nat → ClassId) (A : Nat → Prop) : Prop :=
  p.tables.exec = Jvm.exec ∧ c.code = cc ∧ c.maxLocals = nL ∧ s.vm.findClass own = some m.cls ∧ (∀ w ∈ hG, w.before args s = true) ∧ hm_Kn D K s ∧ (∀ q, s.heap.size ≤ q → A q) ∧ meth.locks = false
/-- the machine at pc with locals lv, stack st and memory w comes to a state with Q -/
def hm_V (p : Program) (l : Launch) (e : Env) (R : Room) (s : State) (m : MethodId) (args : Array Value) (below : List Frame) (meth : Method) (c : Code) (D : va_G) (A : Nat → Prop) (nL cells slots : Nat) (Q : State → Prop) (w : hm_M) (pc : Nat) (lv : List (Nat × Value)) (st : List Value) : Prop :=
  ∀ (H : Heap) (locs : List Loc) (ls : Array Slot), hm_H D w H → (∀ q, w q ≠ none → A q) → va_S A s.heap H locs → lv_has ls nL lv → W p l e R s m args below meth c H locs cells slots Q (F0 m pc ls st)
def hm_rm (d mc ms : Nat) : Room := { frames := d, cells := mc, slots := ms, locals := 35 * d }
def hm_Pre (D : va_G) (K : Nat → ClassId) (As : List Value) (w : hm_M) (sz : Nat) : Array Value → State → Prop := va_Pc As (fun U => U.heap.size = sz ∧ hm_H D w U.heap ∧ hm_Kn D K U)
def hm_Qi (D : va_G) (w : hm_M) (sz : Nat) (post : Int32 → hm_M → Prop) : Array Value → State → Outcome → State → Prop := fun _ st oc t => ∃ (r : Int32) (w' : hm_M), oc = .returned (some (.int r)) ∧ post r w' ∧ hm_H D w' t.heap ∧ (∀ q, w' q ≠ none → hm_A w sz q) ∧ va_F (hm_A w sz) st t
def hm_Qv (D : va_G) (w : hm_M) (sz : Nat) (post : hm_M → Prop) : Array Value → State → Outcome → State → Prop := fun _ st oc t => ∃ w' : hm_M, oc = .returned none ∧ post w' ∧ hm_H D w' t.heap ∧ (∀ q, w' q ≠ none → hm_A w sz q) ∧ va_F (hm_A w sz) st t
/-- a contract: with arguments As and memory w, method y answers r and leaves memory w' with 'post r w''; d: calls below it; mc cells of ms slots come -/
def hm_Ci (l : Launch) (D : va_G) (K : Nat → ClassId) (y : MethodName) (b : ByteArray) (n : Nat) (rt : FieldType) (d : Nat) (As : List Value) (w : hm_M) (mc ms : Nat) (post : Int32 → hm_M → Prop) : Prop := ∀ sz, Met l y (.code y b n (some rt) :: hG) (hm_rm d mc ms) (hm_Pre D K As w sz) (hm_Qi D w sz post) mc ms (hm_A w sz)
def hm_Cv (l : Launch) (D : va_G) (K : Nat → ClassId) (y : MethodName) (b : ByteArray) (n : Nat) (d : Nat) (As : List Value) (w : hm_M) (mc ms : Nat) (post : hm_M → Prop) : Prop := ∀ sz, Met l y (.code y b n none :: hG) (hm_rm d mc ms) (hm_Pre D K As w sz) (hm_Qv D w sz post) mc ms (hm_A w sz)
theorem hm_Pre.blind {D : va_G} {K : Nat → ClassId} {As : List Value} {w : hm_M} {sz : Nat} : FrameBlind (hm_Pre D K As w sz) := fun a U g mk q => by
  obtain ⟨q0, q1, q2, q3, q4⟩ := q
  exact ⟨q0, q1, q2, va_K.moved (u := U) (U := U.calling g mk a) (Vm.Alike.refl U.vm) q3, q4.same (u := U) (U := U.calling g mk a) rfl⟩
theorem hG_good {c0 : Cond} {y : MethodName} {b : ByteArray} {n : Nat} {rt : Option FieldType} (h : Cond.code y b n rt ∈ hG) : GoodIn (c0 :: hG) (Cond.code y b n rt :: hG) := fun w hw => by
  have h1 : w ∈ hG := by rcases List.mem_cons.mp hw with e | e; · rw [e]; exact h
                         · exact e
  exact ⟨List.mem_cons_of_mem _ h1, good_of_word (hG_in h1).2⟩
theorem hG_good0 {y : MethodName} {b : ByteArray} {n : Nat} {rt : Option FieldType} (h : Cond.code y b n rt ∈ hG) : GoodIn hG (Cond.code y b n rt :: hG) := fun w hw => by
  have h1 : w ∈ hG := by rcases List.mem_cons.mp hw with e | e; · rw [e]; exact h
                         · exact e
  exact ⟨h1, good_of_word (hG_in h1).2⟩
section HV
variable {p : Program} {l : Launch} {e : Env} {R : Room} {s : State} {m : MethodId} {args : Array Value} {below : List Frame} {meth : Method} {c : Code} {cells slots : Nat} {Q : State → Prop} {cc : ByteArray} {nL : Nat} {own : String} {D : va_G} {K : Nat → ClassId} {A : Nat → Prop} {w : hm_M} {pc pc2 : Nat} {lv : List (Nat × Value)} {st : List Value}
theorem hv_iconst (E : hm_E p s m args meth c cc nL own D K A) {n : Int} (d : decode cc pc = .ok (.iconst n, 1))  (hp : pc + 1 = pc2) (k : hm_V p l e R s m args below meth c D A nL cells slots Q w pc2 lv (.int (iI n) :: st)) : hm_V p l e R s m args below meth c D A nL cells slots Q w pc lv st := by
  subst hp
  exact fun H locs ls h1 h2 h3 h4 => lv_iconst E.1 E.2.1 d rfl (k H locs ls h1 h2 h3 h4)
theorem hv_bipush (E : hm_E p s m args meth c cc nL own D K A) {n : Int} (d : decode cc pc = .ok (.bipush n, 2)) (hv : (Int8.ofInt n).toInt32 = iI n) (hp : pc + 2 = pc2) (k : hm_V p l e R s m args below meth c D A nL cells slots Q w pc2 lv (.int (iI n) :: st)) : hm_V p l e R s m args below meth c D A nL cells slots Q w pc lv st := by
  subst hp
  exact fun H locs ls h1 h2 h3 h4 => lv_bipush E.1 E.2.1 d hv (k H locs ls h1 h2 h3 h4)
theorem hv_sipush (E : hm_E p s m args meth c cc nL own D K A) {n : Int} (d : decode cc pc = .ok (.sipush n, 3)) (hv : (Int16.ofInt n).toInt32 = iI n) (hp : pc + 3 = pc2) (k : hm_V p l e R s m args below meth c D A nL cells slots Q w pc2 lv (.int (iI n) :: st)) : hm_V p l e R s m args below meth c D A nL cells slots Q w pc lv st := by
  subst hp
  exact fun H locs ls h1 h2 h3 h4 => lv_sipush E.1 E.2.1 d hv (k H locs ls h1 h2 h3 h4)
theorem hv_ldc (E : hm_E p s m args meth c cc nL own D K A) {i : Nat} {v : Int32} (d : decode cc pc = .ok (.ldc i, 2)) (hc : Cond.constant own i v ∈ hG) (hp : pc + 2 = pc2) (k : hm_V p l e R s m args below meth c D A nL cells slots Q w pc2 lv (.int v :: st)) : hm_V p l e R s m args below meth c D A nL cells slots Q w pc lv st := by
  subst hp
  exact fun H locs ls h1 h2 h3 h4 => lv_ldc E.1 E.2.1 E.2.2.2.1 (E.2.2.2.2.1 _ hc) d (k H locs ls h1 h2 h3 h4)
theorem hv_ldcw (E : hm_E p s m args meth c cc nL own D K A) {i : Nat} {v : Int32} (d : decode cc pc = .ok (.ldc_w i, 3)) (hc : Cond.constant own i v ∈ hG) (hp : pc + 3 = pc2) (k : hm_V p l e R s m args below meth c D A nL cells slots Q w pc2 lv (.int v :: st)) : hm_V p l e R s m args below meth c D A nL cells slots Q w pc lv st := by
  subst hp
  exact fun H locs ls h1 h2 h3 h4 => lv_ldcw E.1 E.2.1 E.2.2.2.1 (E.2.2.2.2.1 _ hc) d (k H locs ls h1 h2 h3 h4)
theorem hv_iload_n (E : hm_E p s m args meth c cc nL own D K A) {n : Fin 4} {i : Nat} {x : Int32} (d : decode cc pc = .ok (.iload_n n, 1)) (hi : (n : Nat) = i) (j : Nat) (hj : lv[j]? = some (i, .int x)) (hp : pc + 1 = pc2) (k : hm_V p l e R s m args below meth c D A nL cells slots Q w pc2 lv (.int x :: st)) : hm_V p l e R s m args below meth c D A nL cells slots Q w pc lv st := by
  subst hp
  exact fun H locs ls h1 h2 h3 h4 => lv_iload_n E.1 E.2.1 d hi (lv_at h4 j hj) (k H locs ls h1 h2 h3 h4)
theorem hv_iload (E : hm_E p s m args meth c cc nL own D K A) {i : Nat} {x : Int32} (d : decode cc pc = .ok (.iload i, 2)) (j : Nat) (hj : lv[j]? = some (i, .int x)) (hp : pc + 2 = pc2) (k : hm_V p l e R s m args below meth c D A nL cells slots Q w pc2 lv (.int x :: st)) : hm_V p l e R s m args below meth c D A nL cells slots Q w pc lv st := by
  subst hp
  exact fun H locs ls h1 h2 h3 h4 => lv_iload E.1 E.2.1 d (lv_at h4 j hj) (k H locs ls h1 h2 h3 h4)
theorem hv_aload_n (E : hm_E p s m args meth c cc nL own D K A) {n : Fin 4} {i : Nat} {x : Nat} (d : decode cc pc = .ok (.aload_n n, 1)) (hi : (n : Nat) = i) (j : Nat) (hj : lv[j]? = some (i, .ref x)) (hp : pc + 1 = pc2) (k : hm_V p l e R s m args below meth c D A nL cells slots Q w pc2 lv (.ref x :: st)) : hm_V p l e R s m args below meth c D A nL cells slots Q w pc lv st := by
  subst hp
  exact fun H locs ls h1 h2 h3 h4 => lv_aload_n E.1 E.2.1 d hi (lv_at h4 j hj) (k H locs ls h1 h2 h3 h4)
theorem hv_aload (E : hm_E p s m args meth c cc nL own D K A) {i : Nat} {x : Nat} (d : decode cc pc = .ok (.aload i, 2)) (j : Nat) (hj : lv[j]? = some (i, .ref x)) (hp : pc + 2 = pc2) (k : hm_V p l e R s m args below meth c D A nL cells slots Q w pc2 lv (.ref x :: st)) : hm_V p l e R s m args below meth c D A nL cells slots Q w pc lv st := by
  subst hp
  exact fun H locs ls h1 h2 h3 h4 => lv_aload E.1 E.2.1 d (lv_at h4 j hj) (k H locs ls h1 h2 h3 h4)
theorem hv_istore_n (E : hm_E p s m args meth c cc nL own D K A) {n : Fin 4} {i : Nat} {x : Int32} {lv2 : List (Nat × Value)} (d : decode cc pc = .ok (.istore_n n, 1)) (hi : (n : Nat) = i) (hn : i < nL) (hl : (i, Value.int x) :: lv.filter (fun q => !(q.1 == i) && !(q.1 + 1 == i && q.2.category == 2)) = lv2) (hp : pc + 1 = pc2) (k : hm_V p l e R s m args below meth c D A nL cells slots Q w pc2 lv2 st) : hm_V p l e R s m args below meth c D A nL cells slots Q w pc lv (.int x :: st) := by
  subst hp
  exact fun H locs ls h1 h2 h3 h4 => lv_istore_n E.1 E.2.1 d hi h4 hn hl (fun ls2 h5 => k H locs ls2 h1 h2 h3 h5)
theorem hv_istore (E : hm_E p s m args meth c cc nL own D K A) {i : Nat} {x : Int32} {lv2 : List (Nat × Value)} (d : decode cc pc = .ok (.istore i, 2)) (hn : i < nL) (hl : (i, Value.int x) :: lv.filter (fun q => !(q.1 == i) && !(q.1 + 1 == i && q.2.category == 2)) = lv2) (hp : pc + 2 = pc2) (k : hm_V p l e R s m args below meth c D A nL cells slots Q w pc2 lv2 st) : hm_V p l e R s m args below meth c D A nL cells slots Q w pc lv (.int x :: st) := by
  subst hp
  exact fun H locs ls h1 h2 h3 h4 => lv_istore E.1 E.2.1 d h4 hn hl (fun ls2 h5 => k H locs ls2 h1 h2 h3 h5)
theorem hv_astore_n (E : hm_E p s m args meth c cc nL own D K A) {n : Fin 4} {i : Nat} {x : Nat} {lv2 : List (Nat × Value)} (d : decode cc pc = .ok (.astore_n n, 1)) (hi : (n : Nat) = i) (hn : i < nL) (hl : (i, Value.ref x) :: lv.filter (fun q => !(q.1 == i) && !(q.1 + 1 == i && q.2.category == 2)) = lv2) (hp : pc + 1 = pc2) (k : hm_V p l e R s m args below meth c D A nL cells slots Q w pc2 lv2 st) : hm_V p l e R s m args below meth c D A nL cells slots Q w pc lv (.ref x :: st) := by
  subst hp
  exact fun H locs ls h1 h2 h3 h4 => lv_astore_n E.1 E.2.1 d hi h4 hn hl (fun ls2 h5 => k H locs ls2 h1 h2 h3 h5)
theorem hv_astore (E : hm_E p s m args meth c cc nL own D K A) {i : Nat} {x : Nat} {lv2 : List (Nat × Value)} (d : decode cc pc = .ok (.astore i, 2)) (hn : i < nL) (hl : (i, Value.ref x) :: lv.filter (fun q => !(q.1 == i) && !(q.1 + 1 == i && q.2.category == 2)) = lv2) (hp : pc + 2 = pc2) (k : hm_V p l e R s m args below meth c D A nL cells slots Q w pc2 lv2 st) : hm_V p l e R s m args below meth c D A nL cells slots Q w pc lv (.ref x :: st) := by
  subst hp
  exact fun H locs ls h1 h2 h3 h4 => lv_astore E.1 E.2.1 d h4 hn hl (fun ls2 h5 => k H locs ls2 h1 h2 h3 h5)
theorem hv_iinc (E : hm_E p s m args meth c cc nL own D K A) {i : Nat} {n : Int} {z : Int} {x : Int32} {lv2 : List (Nat × Value)} (d : decode cc pc = .ok (.iinc i n, 3)) (j : Nat) (hj : lv[j]? = some (i, .int x)) (hx : x = iI z) (hn : i < nL) (hl : (i, Value.int (iI (z + n))) :: lv.filter (fun q => !(q.1 == i) && !(q.1 + 1 == i && q.2.category == 2)) = lv2) (hp : pc + 3 = pc2) (k : hm_V p l e R s m args below meth c D A nL cells slots Q w pc2 lv2 st) : hm_V p l e R s m args below meth c D A nL cells slots Q w pc lv st := by
  subst hp
  exact fun H locs ls h1 h2 h3 h4 => lv_iinc E.1 E.2.1 d h4 hj (by rw [hx]; exact iI_add z n) hn hl (fun ls2 h5 => k H locs ls2 h1 h2 h3 h5)
theorem hv_iaddR (E : hm_E p s m args meth c cc nL own D K A) {x y : Int32} (d : decode cc pc = .ok (.iadd, 1))  (hp : pc + 1 = pc2) (k : hm_V p l e R s m args below meth c D A nL cells slots Q w pc2 lv (.int (x + y) :: st)) : hm_V p l e R s m args below meth c D A nL cells slots Q w pc lv (.int y :: .int x :: st) := by
  subst hp
  exact fun H locs ls h1 h2 h3 h4 => lv_iadd E.1 E.2.1 d (k H locs ls h1 h2 h3 h4)
theorem hv_isubR (E : hm_E p s m args meth c cc nL own D K A) {x y : Int32} (d : decode cc pc = .ok (.isub, 1))  (hp : pc + 1 = pc2) (k : hm_V p l e R s m args below meth c D A nL cells slots Q w pc2 lv (.int (x - y) :: st)) : hm_V p l e R s m args below meth c D A nL cells slots Q w pc lv (.int y :: .int x :: st) := by
  subst hp
  exact fun H locs ls h1 h2 h3 h4 => lv_isub E.1 E.2.1 d (k H locs ls h1 h2 h3 h4)
theorem hv_imulR (E : hm_E p s m args meth c cc nL own D K A) {x y : Int32} (d : decode cc pc = .ok (.imul, 1))  (hp : pc + 1 = pc2) (k : hm_V p l e R s m args below meth c D A nL cells slots Q w pc2 lv (.int (x * y) :: st)) : hm_V p l e R s m args below meth c D A nL cells slots Q w pc lv (.int y :: .int x :: st) := by
  subst hp
  exact fun H locs ls h1 h2 h3 h4 => lv_imul E.1 E.2.1 d (k H locs ls h1 h2 h3 h4)
theorem hv_iandR (E : hm_E p s m args meth c cc nL own D K A) {x y : Int32} (d : decode cc pc = .ok (.iand, 1))  (hp : pc + 1 = pc2) (k : hm_V p l e R s m args below meth c D A nL cells slots Q w pc2 lv (.int (x &&& y) :: st)) : hm_V p l e R s m args below meth c D A nL cells slots Q w pc lv (.int y :: .int x :: st) := by
  subst hp
  exact fun H locs ls h1 h2 h3 h4 => lv_iand E.1 E.2.1 d (k H locs ls h1 h2 h3 h4)
theorem hv_iorR (E : hm_E p s m args meth c cc nL own D K A) {x y : Int32} (d : decode cc pc = .ok (.ior, 1))  (hp : pc + 1 = pc2) (k : hm_V p l e R s m args below meth c D A nL cells slots Q w pc2 lv (.int (x ||| y) :: st)) : hm_V p l e R s m args below meth c D A nL cells slots Q w pc lv (.int y :: .int x :: st) := by
  subst hp
  exact fun H locs ls h1 h2 h3 h4 => lv_ior E.1 E.2.1 d (k H locs ls h1 h2 h3 h4)
theorem hv_ixorR (E : hm_E p s m args meth c cc nL own D K A) {x y : Int32} (d : decode cc pc = .ok (.ixor, 1))  (hp : pc + 1 = pc2) (k : hm_V p l e R s m args below meth c D A nL cells slots Q w pc2 lv (.int (x ^^^ y) :: st)) : hm_V p l e R s m args below meth c D A nL cells slots Q w pc lv (.int y :: .int x :: st) := by
  subst hp
  exact fun H locs ls h1 h2 h3 h4 => lv_ixor E.1 E.2.1 d (k H locs ls h1 h2 h3 h4)
theorem hv_iadd (E : hm_E p s m args meth c cc nL own D K A) {x y : Int} (d : decode cc pc = .ok (.iadd, 1))  (hp : pc + 1 = pc2) (k : hm_V p l e R s m args below meth c D A nL cells slots Q w pc2 lv (.int (iI (x + y)) :: st)) : hm_V p l e R s m args below meth c D A nL cells slots Q w pc lv (.int (iI y) :: .int (iI x) :: st) := by
  subst hp
  exact fun H locs ls h1 h2 h3 h4 => lv_iadd E.1 E.2.1 d (by rw [iI_add]; exact (k H locs ls h1 h2 h3 h4))
theorem hv_isub (E : hm_E p s m args meth c cc nL own D K A) {x y : Int} (d : decode cc pc = .ok (.isub, 1))  (hp : pc + 1 = pc2) (k : hm_V p l e R s m args below meth c D A nL cells slots Q w pc2 lv (.int (iI (x - y)) :: st)) : hm_V p l e R s m args below meth c D A nL cells slots Q w pc lv (.int (iI y) :: .int (iI x) :: st) := by
  subst hp
  exact fun H locs ls h1 h2 h3 h4 => lv_isub E.1 E.2.1 d (by rw [iI_sub]; exact (k H locs ls h1 h2 h3 h4))
theorem hv_imul (E : hm_E p s m args meth c cc nL own D K A) {x y : Int} (d : decode cc pc = .ok (.imul, 1))  (hp : pc + 1 = pc2) (k : hm_V p l e R s m args below meth c D A nL cells slots Q w pc2 lv (.int (iI (x * y)) :: st)) : hm_V p l e R s m args below meth c D A nL cells slots Q w pc lv (.int (iI y) :: .int (iI x) :: st) := by
  subst hp
  exact fun H locs ls h1 h2 h3 h4 => lv_imul E.1 E.2.1 d (by rw [iI_mul]; exact (k H locs ls h1 h2 h3 h4))
theorem hv_inegR (E : hm_E p s m args meth c cc nL own D K A) {x : Int32} (d : decode cc pc = .ok (.ineg, 1))  (hp : pc + 1 = pc2) (k : hm_V p l e R s m args below meth c D A nL cells slots Q w pc2 lv (.int (-x) :: st)) : hm_V p l e R s m args below meth c D A nL cells slots Q w pc lv (.int x :: st) := by
  subst hp
  exact fun H locs ls h1 h2 h3 h4 => lv_ineg E.1 E.2.1 d (k H locs ls h1 h2 h3 h4)
theorem hv_ishlR (E : hm_E p s m args meth c cc nL own D K A) {x y v : Int32} (d : decode cc pc = .ok (.ishl, 1)) (hv : x <<< (y &&& 31) = v) (hp : pc + 1 = pc2) (k : hm_V p l e R s m args below meth c D A nL cells slots Q w pc2 lv (.int v :: st)) : hm_V p l e R s m args below meth c D A nL cells slots Q w pc lv (.int y :: .int x :: st) := by
  subst hp
  exact fun H locs ls h1 h2 h3 h4 => lv_ishl E.1 E.2.1 d (by rw [hv]; exact (k H locs ls h1 h2 h3 h4))
theorem hv_ishrR (E : hm_E p s m args meth c cc nL own D K A) {x y v : Int32} (d : decode cc pc = .ok (.ishr, 1)) (hv : x >>> (y &&& 31) = v) (hp : pc + 1 = pc2) (k : hm_V p l e R s m args below meth c D A nL cells slots Q w pc2 lv (.int v :: st)) : hm_V p l e R s m args below meth c D A nL cells slots Q w pc lv (.int y :: .int x :: st) := by
  subst hp
  exact fun H locs ls h1 h2 h3 h4 => lv_ishr E.1 E.2.1 d (by rw [hv]; exact (k H locs ls h1 h2 h3 h4))
theorem hv_iushrR (E : hm_E p s m args meth c cc nL own D K A) {x y v : Int32} (d : decode cc pc = .ok (.iushr, 1)) (hv : (x.toUInt32 >>> (y.toUInt32 &&& Int32.toUInt32 31)).toInt32 = v) (hp : pc + 1 = pc2) (k : hm_V p l e R s m args below meth c D A nL cells slots Q w pc2 lv (.int v :: st)) : hm_V p l e R s m args below meth c D A nL cells slots Q w pc lv (.int y :: .int x :: st) := by
  subst hp
  exact fun H locs ls h1 h2 h3 h4 => lv_iushr E.1 E.2.1 d hv (k H locs ls h1 h2 h3 h4)
theorem hv_iremR (E : hm_E p s m args meth c cc nL own D K A) {x y v : Int32} (d : decode cc pc = .ok (.irem, 1)) (hne : ¬ y = 0) (hv : x - x / y * y = v) (hp : pc + 1 = pc2) (k : hm_V p l e R s m args below meth c D A nL cells slots Q w pc2 lv (.int v :: st)) : hm_V p l e R s m args below meth c D A nL cells slots Q w pc lv (.int y :: .int x :: st) := by
  subst hp
  exact fun H locs ls h1 h2 h3 h4 => lv_irem E.1 E.2.1 d hne (by rw [hv]; exact (k H locs ls h1 h2 h3 h4))
theorem hv_iandV (E : hm_E p s m args meth c cc nL own D K A) {x y v : Int32} (d : decode cc pc = .ok (.iand, 1)) (hv : x &&& y = v) (hp : pc + 1 = pc2) (k : hm_V p l e R s m args below meth c D A nL cells slots Q w pc2 lv (.int v :: st)) : hm_V p l e R s m args below meth c D A nL cells slots Q w pc lv (.int y :: .int x :: st) := by
  subst hp
  exact fun H locs ls h1 h2 h3 h4 => lv_iand E.1 E.2.1 d (by rw [hv]; exact (k H locs ls h1 h2 h3 h4))
theorem hv_dup (E : hm_E p s m args meth c cc nL own D K A) {va : Value} (d : decode cc pc = .ok (.dup, 1)) (hc : va.category = 1) (hp : pc + 1 = pc2) (k : hm_V p l e R s m args below meth c D A nL cells slots Q w pc2 lv (va :: va :: st)) : hm_V p l e R s m args below meth c D A nL cells slots Q w pc lv (va :: st) := by
  subst hp
  exact fun H locs ls h1 h2 h3 h4 => lv_dup E.1 E.2.1 d hc (k H locs ls h1 h2 h3 h4)
theorem hv_pop (E : hm_E p s m args meth c cc nL own D K A) {va : Value} (d : decode cc pc = .ok (.pop, 1)) (hc : va.category = 1) (hp : pc + 1 = pc2) (k : hm_V p l e R s m args below meth c D A nL cells slots Q w pc2 lv st) : hm_V p l e R s m args below meth c D A nL cells slots Q w pc lv (va :: st) := by
  subst hp
  exact fun H locs ls h1 h2 h3 h4 => lv_pop E.1 E.2.1 d hc (k H locs ls h1 h2 h3 h4)
theorem hv_dup2 (E : hm_E p s m args meth c cc nL own D K A) {va vb : Value} (d : decode cc pc = .ok (.dup2, 1)) (hc : va.category = 1) (hd : vb.category = 1) (hp : pc + 1 = pc2) (k : hm_V p l e R s m args below meth c D A nL cells slots Q w pc2 lv (va :: vb :: va :: vb :: st)) : hm_V p l e R s m args below meth c D A nL cells slots Q w pc lv (va :: vb :: st) := by
  subst hp
  exact fun H locs ls h1 h2 h3 h4 => lv_dup2_11 E.1 E.2.1 d hc hd (k H locs ls h1 h2 h3 h4)
theorem hv_goto (E : hm_E p s m args meth c cc nL own D K A) {off : Int} (tgt : Nat) (d : decode cc pc = .ok (.goto off, 3)) (ht : (pc : Int) + off = (tgt : Int)) (k : hm_V p l e R s m args below meth c D A nL cells slots Q w tgt lv st) : hm_V p l e R s m args below meth c D A nL cells slots Q w pc lv st := fun H locs ls h1 h2 h3 h4 => lv_goto E.1 E.2.1 d ht (k H locs ls h1 h2 h3 h4)
theorem hv_topi {x y : Int32} (he : x = y) (k : hm_V p l e R s m args below meth c D A nL cells slots Q w pc lv (.int y :: st)) : hm_V p l e R s m args below meth c D A nL cells slots Q w pc lv (.int x :: st) := by rw [he]; exact k
theorem hv_sub {lv2 : List (Nat × Value)} (ks : List Nat) (hl : lv_pick lv ks = lv2) (k : hm_V p l e R s m args below meth c D A nL cells slots Q w pc lv2 st) : hm_V p l e R s m args below meth c D A nL cells slots Q w pc lv st := fun H locs ls h1 h2 h3 h4 => k H locs ls h1 h2 h3 (lv_sub h4 ks hl)
theorem hv_widen {k n : Nat} (hk : cells ≤ k) (hn : slots ≤ n) (kk : hm_V p l e R s m args below meth c D A nL k n Q w pc lv st) : hm_V p l e R s m args below meth c D A nL cells slots Q w pc lv st := fun H locs ls h1 h2 h3 h4 => W.widen hk hn (kk H locs ls h1 h2 h3 h4)
theorem hv_mem {w2 : hm_M} (hw : w = w2) (k : hm_V p l e R s m args below meth c D A nL cells slots Q w2 pc lv st) : hm_V p l e R s m args below meth c D A nL cells slots Q w pc lv st := by rw [hw]; exact k
theorem hv_icmp_eq (E : hm_E p s m args meth c cc nL own D K A) {x y : Int} {off : Int} (tgt : Nat) (d : decode cc pc = .ok (.if_icmp .eq off, 3)) (ht : (pc : Int) + off = (tgt : Int)) (hx : iB x) (hy : iB y) (hp : pc + 3 = pc2) (kt : x = y → hm_V p l e R s m args below meth c D A nL cells slots Q w tgt lv st) (kf : ¬ x = y → hm_V p l e R s m args below meth c D A nL cells slots Q w pc2 lv st) : hm_V p l e R s m args below meth c D A nL cells slots Q w pc lv (.int (iI y) :: .int (iI x) :: st) := by
  subst hp
  exact fun H locs ls h1 h2 h3 h4 => lv_icmp_eq E.1 E.2.1 d ht (fun hc => kt ((iI_eq hx hy).mp hc) H locs ls h1 h2 h3 h4) (fun hc => kf ((fun q => q) (fun q => hc ((iI_eq hx hy).mpr q))) H locs ls h1 h2 h3 h4)
theorem hv_if_eq (E : hm_E p s m args meth c cc nL own D K A) {x : Int} {off : Int} (tgt : Nat) (d : decode cc pc = .ok (.ifCond .eq off, 3)) (ht : (pc : Int) + off = (tgt : Int)) (hx : iB x) (hp : pc + 3 = pc2) (kt : x = 0 → hm_V p l e R s m args below meth c D A nL cells slots Q w tgt lv st) (kf : ¬ x = 0 → hm_V p l e R s m args below meth c D A nL cells slots Q w pc2 lv st) : hm_V p l e R s m args below meth c D A nL cells slots Q w pc lv (.int (iI x) :: st) := by
  subst hp
  exact fun H locs ls h1 h2 h3 h4 => lv_if_eq E.1 E.2.1 d ht (fun hc => kt ((iI_eq hx iB_0).mp (by rw [← iI_0]; exact hc)) H locs ls h1 h2 h3 h4) (fun hc => kf ((fun q => q) (fun q => hc (by have h9 := (iI_eq hx iB_0).mpr q; rw [← iI_0] at h9; exact h9))) H locs ls h1 h2 h3 h4)
theorem hv_icmp_ne (E : hm_E p s m args meth c cc nL own D K A) {x y : Int} {off : Int} (tgt : Nat) (d : decode cc pc = .ok (.if_icmp .ne off, 3)) (ht : (pc : Int) + off = (tgt : Int)) (hx : iB x) (hy : iB y) (hp : pc + 3 = pc2) (kt : ¬ x = y → hm_V p l e R s m args below meth c D A nL cells slots Q w tgt lv st) (kf : x = y → hm_V p l e R s m args below meth c D A nL cells slots Q w pc2 lv st) : hm_V p l e R s m args below meth c D A nL cells slots Q w pc lv (.int (iI y) :: .int (iI x) :: st) := by
  subst hp
  exact fun H locs ls h1 h2 h3 h4 => lv_icmp_ne E.1 E.2.1 d ht (fun hc => kt ((not_congr (iI_eq hx hy)).mp hc) H locs ls h1 h2 h3 h4) (fun hc => kf ((iI_eq hx hy).mp hc) H locs ls h1 h2 h3 h4)
theorem hv_if_ne (E : hm_E p s m args meth c cc nL own D K A) {x : Int} {off : Int} (tgt : Nat) (d : decode cc pc = .ok (.ifCond .ne off, 3)) (ht : (pc : Int) + off = (tgt : Int)) (hx : iB x) (hp : pc + 3 = pc2) (kt : ¬ x = 0 → hm_V p l e R s m args below meth c D A nL cells slots Q w tgt lv st) (kf : x = 0 → hm_V p l e R s m args below meth c D A nL cells slots Q w pc2 lv st) : hm_V p l e R s m args below meth c D A nL cells slots Q w pc lv (.int (iI x) :: st) := by
  subst hp
  exact fun H locs ls h1 h2 h3 h4 => lv_if_ne E.1 E.2.1 d ht (fun hc => kt ((not_congr (iI_eq hx iB_0)).mp (by rw [← iI_0]; exact hc)) H locs ls h1 h2 h3 h4) (fun hc => kf ((iI_eq hx iB_0).mp (by rw [← iI_0]; exact hc)) H locs ls h1 h2 h3 h4)
theorem hv_icmp_lt (E : hm_E p s m args meth c cc nL own D K A) {x y : Int} {off : Int} (tgt : Nat) (d : decode cc pc = .ok (.if_icmp .lt off, 3)) (ht : (pc : Int) + off = (tgt : Int)) (hx : iB x) (hy : iB y) (hp : pc + 3 = pc2) (kt : x < y → hm_V p l e R s m args below meth c D A nL cells slots Q w tgt lv st) (kf : y ≤ x → hm_V p l e R s m args below meth c D A nL cells slots Q w pc2 lv st) : hm_V p l e R s m args below meth c D A nL cells slots Q w pc lv (.int (iI y) :: .int (iI x) :: st) := by
  subst hp
  exact fun H locs ls h1 h2 h3 h4 => lv_icmp_lt E.1 E.2.1 d ht (fun hc => kt ((iI_lt hx hy).mp hc) H locs ls h1 h2 h3 h4) (fun hc => kf ((fun q => Int.not_lt.mp q) (fun q => hc ((iI_lt hx hy).mpr q))) H locs ls h1 h2 h3 h4)
theorem hv_if_lt (E : hm_E p s m args meth c cc nL own D K A) {x : Int} {off : Int} (tgt : Nat) (d : decode cc pc = .ok (.ifCond .lt off, 3)) (ht : (pc : Int) + off = (tgt : Int)) (hx : iB x) (hp : pc + 3 = pc2) (kt : x < 0 → hm_V p l e R s m args below meth c D A nL cells slots Q w tgt lv st) (kf : 0 ≤ x → hm_V p l e R s m args below meth c D A nL cells slots Q w pc2 lv st) : hm_V p l e R s m args below meth c D A nL cells slots Q w pc lv (.int (iI x) :: st) := by
  subst hp
  exact fun H locs ls h1 h2 h3 h4 => lv_if_lt E.1 E.2.1 d ht (fun hc => kt ((iI_lt hx iB_0).mp (by rw [← iI_0]; exact hc)) H locs ls h1 h2 h3 h4) (fun hc => kf ((fun q => Int.not_lt.mp q) (fun q => hc (by have h9 := (iI_lt hx iB_0).mpr q; rw [← iI_0] at h9; exact h9))) H locs ls h1 h2 h3 h4)
theorem hv_icmp_ge (E : hm_E p s m args meth c cc nL own D K A) {x y : Int} {off : Int} (tgt : Nat) (d : decode cc pc = .ok (.if_icmp .ge off, 3)) (ht : (pc : Int) + off = (tgt : Int)) (hx : iB x) (hy : iB y) (hp : pc + 3 = pc2) (kt : y ≤ x → hm_V p l e R s m args below meth c D A nL cells slots Q w tgt lv st) (kf : x < y → hm_V p l e R s m args below meth c D A nL cells slots Q w pc2 lv st) : hm_V p l e R s m args below meth c D A nL cells slots Q w pc lv (.int (iI y) :: .int (iI x) :: st) := by
  subst hp
  exact fun H locs ls h1 h2 h3 h4 => lv_icmp_ge E.1 E.2.1 d ht (fun hc => kt ((iI_le hy hx).mp hc) H locs ls h1 h2 h3 h4) (fun hc => kf ((fun q => Int.not_le.mp q) (fun q => hc ((iI_le hy hx).mpr q))) H locs ls h1 h2 h3 h4)
theorem hv_if_ge (E : hm_E p s m args meth c cc nL own D K A) {x : Int} {off : Int} (tgt : Nat) (d : decode cc pc = .ok (.ifCond .ge off, 3)) (ht : (pc : Int) + off = (tgt : Int)) (hx : iB x) (hp : pc + 3 = pc2) (kt : 0 ≤ x → hm_V p l e R s m args below meth c D A nL cells slots Q w tgt lv st) (kf : x < 0 → hm_V p l e R s m args below meth c D A nL cells slots Q w pc2 lv st) : hm_V p l e R s m args below meth c D A nL cells slots Q w pc lv (.int (iI x) :: st) := by
  subst hp
  exact fun H locs ls h1 h2 h3 h4 => lv_if_ge E.1 E.2.1 d ht (fun hc => kt ((iI_le iB_0 hx).mp (by rw [← iI_0]; exact hc)) H locs ls h1 h2 h3 h4) (fun hc => kf ((fun q => Int.not_le.mp q) (fun q => hc (by have h9 := (iI_le iB_0 hx).mpr q; rw [← iI_0] at h9; exact h9))) H locs ls h1 h2 h3 h4)
theorem hv_icmp_gt (E : hm_E p s m args meth c cc nL own D K A) {x y : Int} {off : Int} (tgt : Nat) (d : decode cc pc = .ok (.if_icmp .gt off, 3)) (ht : (pc : Int) + off = (tgt : Int)) (hx : iB x) (hy : iB y) (hp : pc + 3 = pc2) (kt : y < x → hm_V p l e R s m args below meth c D A nL cells slots Q w tgt lv st) (kf : x ≤ y → hm_V p l e R s m args below meth c D A nL cells slots Q w pc2 lv st) : hm_V p l e R s m args below meth c D A nL cells slots Q w pc lv (.int (iI y) :: .int (iI x) :: st) := by
  subst hp
  exact fun H locs ls h1 h2 h3 h4 => lv_icmp_gt E.1 E.2.1 d ht (fun hc => kt ((iI_lt hy hx).mp hc) H locs ls h1 h2 h3 h4) (fun hc => kf ((fun q => Int.not_lt.mp q) (fun q => hc ((iI_lt hy hx).mpr q))) H locs ls h1 h2 h3 h4)
theorem hv_if_gt (E : hm_E p s m args meth c cc nL own D K A) {x : Int} {off : Int} (tgt : Nat) (d : decode cc pc = .ok (.ifCond .gt off, 3)) (ht : (pc : Int) + off = (tgt : Int)) (hx : iB x) (hp : pc + 3 = pc2) (kt : 0 < x → hm_V p l e R s m args below meth c D A nL cells slots Q w tgt lv st) (kf : x ≤ 0 → hm_V p l e R s m args below meth c D A nL cells slots Q w pc2 lv st) : hm_V p l e R s m args below meth c D A nL cells slots Q w pc lv (.int (iI x) :: st) := by
  subst hp
  exact fun H locs ls h1 h2 h3 h4 => lv_if_gt E.1 E.2.1 d ht (fun hc => kt ((iI_lt iB_0 hx).mp (by rw [← iI_0]; exact hc)) H locs ls h1 h2 h3 h4) (fun hc => kf ((fun q => Int.not_lt.mp q) (fun q => hc (by have h9 := (iI_lt iB_0 hx).mpr q; rw [← iI_0] at h9; exact h9))) H locs ls h1 h2 h3 h4)
theorem hv_icmp_le (E : hm_E p s m args meth c cc nL own D K A) {x y : Int} {off : Int} (tgt : Nat) (d : decode cc pc = .ok (.if_icmp .le off, 3)) (ht : (pc : Int) + off = (tgt : Int)) (hx : iB x) (hy : iB y) (hp : pc + 3 = pc2) (kt : x ≤ y → hm_V p l e R s m args below meth c D A nL cells slots Q w tgt lv st) (kf : y < x → hm_V p l e R s m args below meth c D A nL cells slots Q w pc2 lv st) : hm_V p l e R s m args below meth c D A nL cells slots Q w pc lv (.int (iI y) :: .int (iI x) :: st) := by
  subst hp
  exact fun H locs ls h1 h2 h3 h4 => lv_icmp_le E.1 E.2.1 d ht (fun hc => kt ((iI_le hx hy).mp hc) H locs ls h1 h2 h3 h4) (fun hc => kf ((fun q => Int.not_le.mp q) (fun q => hc ((iI_le hx hy).mpr q))) H locs ls h1 h2 h3 h4)
theorem hv_if_le (E : hm_E p s m args meth c cc nL own D K A) {x : Int} {off : Int} (tgt : Nat) (d : decode cc pc = .ok (.ifCond .le off, 3)) (ht : (pc : Int) + off = (tgt : Int)) (hx : iB x) (hp : pc + 3 = pc2) (kt : x ≤ 0 → hm_V p l e R s m args below meth c D A nL cells slots Q w tgt lv st) (kf : 0 < x → hm_V p l e R s m args below meth c D A nL cells slots Q w pc2 lv st) : hm_V p l e R s m args below meth c D A nL cells slots Q w pc lv (.int (iI x) :: st) := by
  subst hp
  exact fun H locs ls h1 h2 h3 h4 => lv_if_le E.1 E.2.1 d ht (fun hc => kt ((iI_le hx iB_0).mp (by rw [← iI_0]; exact hc)) H locs ls h1 h2 h3 h4) (fun hc => kf ((fun q => Int.not_le.mp q) (fun q => hc (by have h9 := (iI_le hx iB_0).mpr q; rw [← iI_0] at h9; exact h9))) H locs ls h1 h2 h3 h4)
theorem hv_icmp_eqR (E : hm_E p s m args meth c cc nL own D K A) {x y : Int32} {off : Int} (tgt : Nat) (d : decode cc pc = .ok (.if_icmp .eq off, 3)) (ht : (pc : Int) + off = (tgt : Int)) (hp : pc + 3 = pc2) (kt : x = y → hm_V p l e R s m args below meth c D A nL cells slots Q w tgt lv st) (kf : ¬ x = y → hm_V p l e R s m args below meth c D A nL cells slots Q w pc2 lv st) : hm_V p l e R s m args below meth c D A nL cells slots Q w pc lv (.int y :: .int x :: st) := by
  subst hp
  exact fun H locs ls h1 h2 h3 h4 => lv_icmp_eq E.1 E.2.1 d ht (fun hc => kt hc H locs ls h1 h2 h3 h4) (fun hc => kf (hc) H locs ls h1 h2 h3 h4)
theorem hv_if_eqR (E : hm_E p s m args meth c cc nL own D K A) {x : Int32} {off : Int} (tgt : Nat) (d : decode cc pc = .ok (.ifCond .eq off, 3)) (ht : (pc : Int) + off = (tgt : Int)) (hp : pc + 3 = pc2) (kt : x = 0 → hm_V p l e R s m args below meth c D A nL cells slots Q w tgt lv st) (kf : ¬ x = 0 → hm_V p l e R s m args below meth c D A nL cells slots Q w pc2 lv st) : hm_V p l e R s m args below meth c D A nL cells slots Q w pc lv (.int x :: st) := by
  subst hp
  exact fun H locs ls h1 h2 h3 h4 => lv_if_eq E.1 E.2.1 d ht (fun hc => kt hc H locs ls h1 h2 h3 h4) (fun hc => kf (hc) H locs ls h1 h2 h3 h4)
theorem hv_if_eqB (E : hm_E p s m args meth c cc nL own D K A) {b : Bool} {off : Int} (tgt : Nat) (d : decode cc pc = .ok (.ifCond .eq off, 3)) (ht : (pc : Int) + off = (tgt : Int)) (hp : pc + 3 = pc2) (kt : b = false → hm_V p l e R s m args below meth c D A nL cells slots Q w tgt lv st) (kf : b = true → hm_V p l e R s m args below meth c D A nL cells slots Q w pc2 lv st) : hm_V p l e R s m args below meth c D A nL cells slots Q w pc lv (.int (bI b) :: st) := by
  subst hp
  exact fun H locs ls h1 h2 h3 h4 => lv_if_eq E.1 E.2.1 d ht (fun hc => kt (by cases b <;> first | rfl | exact absurd hc (by decide +kernel)) H locs ls h1 h2 h3 h4) (fun hc => kf (by cases b <;> first | rfl | exact absurd hc (by decide +kernel)) H locs ls h1 h2 h3 h4)
theorem hv_icmp_eqB (E : hm_E p s m args meth c cc nL own D K A) {x y : Bool} {off : Int} (tgt : Nat) (d : decode cc pc = .ok (.if_icmp .eq off, 3)) (ht : (pc : Int) + off = (tgt : Int)) (hp : pc + 3 = pc2) (kt : x = y → hm_V p l e R s m args below meth c D A nL cells slots Q w tgt lv st) (kf : ¬ x = y → hm_V p l e R s m args below meth c D A nL cells slots Q w pc2 lv st) : hm_V p l e R s m args below meth c D A nL cells slots Q w pc lv (.int (bI y) :: .int (bI x) :: st) := by
  subst hp
  exact fun H locs ls h1 h2 h3 h4 => lv_icmp_eq E.1 E.2.1 d ht (fun hc => kt (bI_inj hc) H locs ls h1 h2 h3 h4) (fun hc => kf (fun q => hc (congrArg bI q)) H locs ls h1 h2 h3 h4)
theorem hv_icmp_neR (E : hm_E p s m args meth c cc nL own D K A) {x y : Int32} {off : Int} (tgt : Nat) (d : decode cc pc = .ok (.if_icmp .ne off, 3)) (ht : (pc : Int) + off = (tgt : Int)) (hp : pc + 3 = pc2) (kt : ¬ x = y → hm_V p l e R s m args below meth c D A nL cells slots Q w tgt lv st) (kf : x = y → hm_V p l e R s m args below meth c D A nL cells slots Q w pc2 lv st) : hm_V p l e R s m args below meth c D A nL cells slots Q w pc lv (.int y :: .int x :: st) := by
  subst hp
  exact fun H locs ls h1 h2 h3 h4 => lv_icmp_ne E.1 E.2.1 d ht (fun hc => kt hc H locs ls h1 h2 h3 h4) (fun hc => kf (hc) H locs ls h1 h2 h3 h4)
theorem hv_if_neR (E : hm_E p s m args meth c cc nL own D K A) {x : Int32} {off : Int} (tgt : Nat) (d : decode cc pc = .ok (.ifCond .ne off, 3)) (ht : (pc : Int) + off = (tgt : Int)) (hp : pc + 3 = pc2) (kt : ¬ x = 0 → hm_V p l e R s m args below meth c D A nL cells slots Q w tgt lv st) (kf : x = 0 → hm_V p l e R s m args below meth c D A nL cells slots Q w pc2 lv st) : hm_V p l e R s m args below meth c D A nL cells slots Q w pc lv (.int x :: st) := by
  subst hp
  exact fun H locs ls h1 h2 h3 h4 => lv_if_ne E.1 E.2.1 d ht (fun hc => kt hc H locs ls h1 h2 h3 h4) (fun hc => kf (hc) H locs ls h1 h2 h3 h4)
theorem hv_if_neB (E : hm_E p s m args meth c cc nL own D K A) {b : Bool} {off : Int} (tgt : Nat) (d : decode cc pc = .ok (.ifCond .ne off, 3)) (ht : (pc : Int) + off = (tgt : Int)) (hp : pc + 3 = pc2) (kt : b = true → hm_V p l e R s m args below meth c D A nL cells slots Q w tgt lv st) (kf : b = false → hm_V p l e R s m args below meth c D A nL cells slots Q w pc2 lv st) : hm_V p l e R s m args below meth c D A nL cells slots Q w pc lv (.int (bI b) :: st) := by
  subst hp
  exact fun H locs ls h1 h2 h3 h4 => lv_if_ne E.1 E.2.1 d ht (fun hc => kt (by cases b <;> first | rfl | exact absurd hc (by decide +kernel)) H locs ls h1 h2 h3 h4) (fun hc => kf (by cases b <;> first | rfl | exact absurd hc (by decide +kernel)) H locs ls h1 h2 h3 h4)
theorem hv_icmp_neB (E : hm_E p s m args meth c cc nL own D K A) {x y : Bool} {off : Int} (tgt : Nat) (d : decode cc pc = .ok (.if_icmp .ne off, 3)) (ht : (pc : Int) + off = (tgt : Int)) (hp : pc + 3 = pc2) (kt : ¬ x = y → hm_V p l e R s m args below meth c D A nL cells slots Q w tgt lv st) (kf : x = y → hm_V p l e R s m args below meth c D A nL cells slots Q w pc2 lv st) : hm_V p l e R s m args below meth c D A nL cells slots Q w pc lv (.int (bI y) :: .int (bI x) :: st) := by
  subst hp
  exact fun H locs ls h1 h2 h3 h4 => lv_icmp_ne E.1 E.2.1 d ht (fun hc => kt (fun q => hc (congrArg bI q)) H locs ls h1 h2 h3 h4) (fun hc => kf (bI_inj hc) H locs ls h1 h2 h3 h4)
theorem hv_tableOut (E : hm_E p s m args meth c cc nL own D K A) {x dflt lo hi : Int} {offs : Array Int} {len : Nat} (tgt : Nat) (d : decode cc pc = .ok (.tableswitch dflt lo hi offs, len)) (hx : iB x) (h : x < lo ∨ hi < x) (ht : (pc : Int) + dflt = (tgt : Int)) (k : hm_V p l e R s m args below meth c D A nL cells slots Q w tgt lv st) : hm_V p l e R s m args below meth c D A nL cells slots Q w pc lv (.int (iI x) :: st) := fun H locs ls h1 h2 h3 h4 => lv_tableOut E.1 E.2.1 d (by rw [iI_toInt hx]; exact h) ht (k H locs ls h1 h2 h3 h4)
theorem hv_tableIn (E : hm_E p s m args meth c cc nL own D K A) {x dflt lo hi off : Int} {offs : Array Int} {len : Nat} (tgt : Nat) (d : decode cc pc = .ok (.tableswitch dflt lo hi offs, len)) (hx : iB x) (hl : lo ≤ x) (hh : x ≤ hi) (ho : offs[(x - lo).toNat]? = some off) (ht : (pc : Int) + off = (tgt : Int)) (k : hm_V p l e R s m args below meth c D A nL cells slots Q w tgt lv st) : hm_V p l e R s m args below meth c D A nL cells slots Q w pc lv (.int (iI x) :: st) := fun H locs ls h1 h2 h3 h4 => lv_tableIn E.1 E.2.1 d (by rw [iI_toInt hx]; exact Int.not_lt.mpr hl) (by rw [iI_toInt hx]; exact Int.not_lt.mpr hh) (by rw [iI_toInt hx]; exact ho) ht (k H locs ls h1 h2 h3 h4)
theorem hm_one {D : va_G} {w : hm_M} {H : Heap} {a : Nat} {e : va_E} (h : hm_H D w H) (ha : w a = some e) : va_P D vwCl [(a, e)] H := fun k q hk => by
  have hz : k < 1 := (List.getElem?_eq_some_iff.mp hk).1
  rw [show k = 0 by omega] at hk
  cases hk
  exact h a e ha
theorem hv_iald (E : hm_E p s m args meth c cc nL own D K A) {a n : Nat} {f : Nat → Int32} {i : Int} (d : decode cc pc = .ok (.iaload, 1)) (ha : w a = some (.inl (K 0, n, .inl f))) (h0 : 0 ≤ i) (hn : i < (n : Int)) (hN : n < 2147483648) (hp : pc + 1 = pc2) (k : hm_V p l e R s m args below meth c D A nL cells slots Q w pc2 lv (.int (f i.toNat) :: st)) : hm_V p l e R s m args below meth c D A nL cells slots Q w pc lv (.int (iI i) :: .ref a :: st) := by
  subst hp
  exact fun H locs ls h1 h2 h3 h4 => va_iald (tys := hm_T K) E.1 E.2.1 E.2.2.2.2.2.1.1 (hm_one h1 ha) 0 0 rfl rfl (iI_in h0 hn hN) d (by rw [iI_cl h0 (by omega)]; exact (k H locs ls h1 h2 h3 h4))
theorem hv_zald (E : hm_E p s m args meth c cc nL own D K A) {a n : Nat} {g : Nat → Bool} {i : Int} (d : decode cc pc = .ok (.baload, 1)) (ha : w a = some (.inl (K 1, n, .inl (fun j => bI (g j))))) (h0 : 0 ≤ i) (hn : i < (n : Int)) (hN : n < 2147483648) (hp : pc + 1 = pc2) (k : hm_V p l e R s m args below meth c D A nL cells slots Q w pc2 lv (.int (bI (g i.toNat)) :: st)) : hm_V p l e R s m args below meth c D A nL cells slots Q w pc lv (.int (iI i) :: .ref a :: st) := by
  subst hp
  exact fun H locs ls h1 h2 h3 h4 => va_zald (tys := hm_T K) E.1 E.2.1 E.2.2.2.2.2.1.1 (hm_one h1 ha) 0 1 rfl rfl (iI_in h0 hn hN) d (by rw [iI_cl h0 (by omega)]; exact (k H locs ls h1 h2 h3 h4))
theorem hv_aaldN (E : hm_E p s m args meth c cc nL own D K A) {a n b : Nat} {f : Nat → Option Nat} {i : Int} (d : decode cc pc = .ok (.aaload, 1)) (ha : w a = some (.inl (K 2, n, .inr (.inr (.inr (.inr f)))))) (h0 : 0 ≤ i) (hn : i < (n : Int)) (hN : n < 2147483648) (hf : f i.toNat = some b) (hp : pc + 1 = pc2) (k : hm_V p l e R s m args below meth c D A nL cells slots Q w pc2 lv (.ref b :: st)) : hm_V p l e R s m args below meth c D A nL cells slots Q w pc lv (.int (iI i) :: .ref a :: st) := by
  subst hp
  exact fun H locs ls h1 h2 h3 h4 => va_aldq (tys := hm_T K) (C := "KeyRows$Numbers") E.1 E.2.1 E.2.2.2.2.2.1.1 (hm_one h1 ha) 0 2 rfl rfl (iI_in h0 hn hN) d (by rw [iI_cl h0 (by omega), hf]; exact (k H locs ls h1 h2 h3 h4))
theorem hv_aaldC (E : hm_E p s m args meth c cc nL own D K A) {a n b : Nat} {f : Nat → Option Nat} {i : Int} (d : decode cc pc = .ok (.aaload, 1)) (ha : w a = some (.inl (K 3, n, .inr (.inr (.inr (.inr f)))))) (h0 : 0 ≤ i) (hn : i < (n : Int)) (hN : n < 2147483648) (hf : f i.toNat = some b) (hp : pc + 1 = pc2) (k : hm_V p l e R s m args below meth c D A nL cells slots Q w pc2 lv (.ref b :: st)) : hm_V p l e R s m args below meth c D A nL cells slots Q w pc lv (.int (iI i) :: .ref a :: st) := by
  subst hp
  exact fun H locs ls h1 h2 h3 h4 => va_aldq (tys := hm_T K) (C := "KeyRows$Code") E.1 E.2.1 E.2.2.2.2.2.1.1 (hm_one h1 ha) 0 3 rfl rfl (iI_in h0 hn hN) d (by rw [iI_cl h0 (by omega), hf]; exact (k H locs ls h1 h2 h3 h4))
theorem hm_Sput {A : Nat → Prop} {H0 H H1 : Heap} {locs : List Loc} {a k : Nat} (h : va_S A H0 H locs) (z : H1.size = H.size) (oq : ∀ q : Nat, q ≠ a → H1[q]? = H[q]?) (ha : A a) : va_S A H0 H1 (locs ++ [⟨a, k⟩]) := h.put z oq ha
theorem hm_dom {A : Nat → Prop} {w : hm_M} {a : Nat} {e : va_E} (h : ∀ q, w q ≠ none → A q) (ha : A a) : ∀ q, hm_up w a e q ≠ none → A q := fun q hq => by
  by_cases h1 : q = a
  · rw [h1]; exact ha
  · rw [hm_un h1] at hq; exact h q hq
theorem hm_some {A : Nat → Prop} {w : hm_M} {a : Nat} {e : va_E} (h : ∀ q, w q ≠ none → A q) (ha : w a = some e) : A a := h a (by rw [ha]; exact fun q => by cases q)
theorem hv_iast (E : hm_E p s m args meth c cc nL own D K A) {a n : Nat} {f : Nat → Int32} {i : Int} {x : Int32} (d : decode cc pc = .ok (.iastore, 1)) (ha : w a = some (.inl (K 0, n, .inl f))) (h0 : 0 ≤ i) (hn : i < (n : Int)) (hN : n < 2147483648) (hp : pc + 1 = pc2) (k : hm_V p l e R s m args below meth c D A nL cells slots Q (hm_up w a (.inl (K 0, n, .inl (upd f i.toNat x)))) pc2 lv st) : hm_V p l e R s m args below meth c D A nL cells slots Q w pc lv (.int x :: .int (iI i) :: .ref a :: st) := by
  subst hp
  intro H locs ls h1 h2 h3 h4
  refine W.iast E.1 E.2.1 (h1 a _ ha) ((E.2.2.2.2.2.1.1.2 0 _ rfl).1 n (fun j => .int (f j))) (fun q => by cases q) (by show ¬ (iI i < 0 ∨ (arrV _ _ _).slots.size ≤ _); rw [arrV_size]; exact iI_in h0 hn hN) rfl rfl d fun H1 e z oq => ?_
  refine k H1 _ ls (h1.put ?_ oq) (hm_dom h2 (hm_some h2 ha)) (hm_Sput h3 z oq (hm_some h2 ha)) h4
  show H1[a]? = some (vp_cell _ _)
  rw [e, iI_cl h0 (by omega), vp_cell_i, vp_cell_i, arrV_store]
  congr 2
  funext q
  by_cases hq : q = i.toNat
  · subst hq
    simp [updV, upd]
  · simp [updV, upd, hq]
theorem hv_zast (E : hm_E p s m args meth c cc nL own D K A) {a n : Nat} {g : Nat → Bool} {i : Int} {b : Bool} (d : decode cc pc = .ok (.bastore, 1)) (ha : w a = some (.inl (K 1, n, .inl (fun j => bI (g j))))) (h0 : 0 ≤ i) (hn : i < (n : Int)) (hN : n < 2147483648) (hp : pc + 1 = pc2) (k : hm_V p l e R s m args below meth c D A nL cells slots Q (hm_up w a (.inl (K 1, n, .inl (fun j => bI (va_up g i.toNat b j))))) pc2 lv st) : hm_V p l e R s m args below meth c D A nL cells slots Q w pc lv (.int (bI b) :: .int (iI i) :: .ref a :: st) := by
  subst hp
  intro H locs ls h1 h2 h3 h4
  refine W.zast E.1 E.2.1 (h1 a _ ha) ((E.2.2.2.2.2.1.1.2 1 _ rfl).1 n (fun j => .int (bI (g j)))) (fun q => by cases q) (by show ¬ (iI i < 0 ∨ (arrV _ _ _).slots.size ≤ _); rw [arrV_size]; exact iI_in h0 hn hN) rfl rfl d fun H1 e z oq => ?_
  refine k H1 _ ls (h1.put ?_ oq) (hm_dom h2 (hm_some h2 ha)) (hm_Sput h3 z oq (hm_some h2 ha)) h4
  show H1[a]? = some (vp_cell _ _)
  rw [e, iI_cl h0 (by omega), vp_cell_i, vp_cell_i, arrV_store]
  congr 2
  funext q
  by_cases hq : q = i.toNat
  · subst hq
    simp [updV, va_up, bI_narrow]
  · simp [updV, va_up, hq]
theorem hv_get (E : hm_E p s m args meth c cc nL own D K A) {a ci N i kf : Nat} {C ref : String} {T : u_T} {fs : List Value} {v : Value} (d : decode cc pc = .ok (.getfield i, 3)) (hc : vwCl[ci]? = some (C, T, N)) (hk : kf < N) (hw : ∀ w ∈ u_ws C T N, w ∈ hG) (hl : Cond.fieldLink own i ref (T kf).2.1 (T kf).2.2.1 ∈ hG) (hr : (T kf).1 = ref) (ha : w a = some (.inr (ci, fs))) (hv : fs[kf]? = some v) (hp : pc + 3 = pc2) (k : hm_V p l e R s m args below meth c D A nL cells slots Q w pc2 lv (v :: st)) : hm_V p l e R s m args below meth c D A nL cells slots Q w pc lv (.ref a :: st) := by
  subst hp
  exact fun H locs ls h1 h2 h3 h4 => va_get (D := D) (tys := hm_T K) (v := v) E.1 E.2.1 E.2.2.2.2.1 hw E.2.2.2.1 E.2.2.2.2.2.1.1 (hm_one h1 ha) 0 rfl hc kf hk (E.2.2.2.2.1 _ hl) (fun x h9 => by rw [← hr]; exact h9) hv d (k H locs ls h1 h2 h3 h4)
theorem hv_put (E : hm_E p s m args meth c cc nL own D K A) {a ci N i kf : Nat} {C ref : String} {T : u_T} {ty0 : Nat → FieldType} {fs : List Value} {v : Value} (d : decode cc pc = .ok (.putfield i, 3)) (hc : vwCl[ci]? = some (C, T, N)) (hk : kf < N) (hw : ∀ w ∈ u_ws C T N, w ∈ hG) (hty : ∀ k, k < N → parseFieldDescriptor (T k).2.2.1 = some (ty0 k)) (hnm : ∀ a, a < N → ∀ b, b < N → a ≠ b → (T a).2.1 ≠ (T b).2.1) (hl : Cond.fieldLink own i ref (T kf).2.1 (T kf).2.2.1 ∈ hG) (hr : (T kf).1 = ref) (ha : w a = some (.inr (ci, fs))) (hfin : (T kf).2.2.2 = false) (hn : narrow (ty0 kf) v = v) (hfit : fits (ty0 kf) v = true) (hlen : kf < fs.length) (hp : pc + 3 = pc2) (k : hm_V p l e R s m args below meth c D A nL cells slots Q (hm_up w a (.inr (ci, fs.set kf v))) pc2 lv st) : hm_V p l e R s m args below meth c D A nL cells slots Q w pc lv (v :: .ref a :: st) := by
  subst hp
  intro H locs ls h1 h2 h3 h4
  have hts := E.2.2.2.2.1
  have hK := E.2.2.2.2.2.1.1
  have hap := va_apart (own := own) hts hw ty0 hty hnm hK hc
  obtain ⟨r, g1, cell, q1, q2, q3, q4⟩ := h1 a _ ha
  have hr9 : r = (C, T, N) := Option.some.inj (g1.symm.trans hc)
  subst hr9
  obtain ⟨hS, hfc, kC, hkC, hkind⟩ := hK.1 ci _ hc
  obtain ⟨cf, kff, fi, f, hi, hsl⟩ := hS kf hk
  have hlay := hts _ (hw _ (u_in_lay hk))
  unfold u_lay at hlay
  rw [if_neg (by rw [hfin]; decide)] at hlay
  have hst := (u_facts hfc hkC (u_lays hts hw hk) hi).1
  have h6 := u_store hfc hkC hkind hlay hi (hty kf hk) hn hfit
  refine W.putK E.1 E.2.1 (f := f) ⟨E.2.2.2.1, hts _ hl, ⟨_, _, _, by rw [← hr]; exact hi⟩, hst⟩ (by rw [q2]; exact h6) q1 q3 (by rw [hsl]; exact k2_hasslot (q4 kf hk)) rfl rfl d fun H1 e1 e2 e3 => ?_
  rw [hsl] at e1 ⊢
  exact k H1 _ ls (h1.put ⟨_, hc, t_OB.to (V := updV (vp_V fs) kf v) ⟨_, e1, q2, q3, t_set q4 hap hk v⟩ (fun j _ => vp_updV_set hlen v j)⟩ e3) (hm_dom h2 (hm_some h2 ha)) (hm_Sput h3 e2 e3 (hm_some h2 ha)) h4
end HV
end
section
theorem goodIn_app2 {big a b : List Cond} (ha : GoodIn big a) (hb : GoodIn big b) : GoodIn big (a ++ b) := fun w h => (List.mem_append.mp h).elim (ha w) (hb w)
section HC
variable {p : Program} {l : Launch} {e : Env} {R : Room} {s : State} {m : MethodId} {args : Array Value} {below : List Frame} {meth : Method} {c : Code} {cells slots : Nat} {Q : State → Prop} {cc : ByteArray} {nL : Nat} {own : String} {D : va_G} {K : Nat → ClassId} {A : Nat → Prop} {w : hm_M} {pc pc2 : Nat} {lv : List (Nat × Value)} {st : List Value}
theorem hv_iret {w0 : hm_M} {post : Int32 → hm_M → Prop} {v : Int32} (E : hm_E p s m args meth c cc nL own D K (hm_A w0 s.heap.size)) (d : decode cc pc = .ok (.ireturn, 1)) (hr : meth.sig.returnType = some .int) (hpost : post v w) : hm_V p l e R s m args below meth c D (hm_A w0 s.heap.size) nL cells slots (MQ below (hm_Qi D w0 s.heap.size post) args s cells slots (hm_A w0 s.heap.size)) w pc lv [.int v] := fun H locs ls h1 h2 h3 h4 => W.iret (hlocks := E.2.2.2.2.2.2.2) E.1 E.2.1 hr (fun t ht hW => ⟨v, w, rfl, hpost, by rw [ht]; exact h1, h2, h3.F ht⟩) h3.2.2 d
theorem hv_zret {w0 : hm_M} {post : Int32 → hm_M → Prop} {b : Bool} (E : hm_E p s m args meth c cc nL own D K (hm_A w0 s.heap.size)) (d : decode cc pc = .ok (.ireturn, 1)) (hr : meth.sig.returnType = some .boolean) (hpost : post (bI b) w) : hm_V p l e R s m args below meth c D (hm_A w0 s.heap.size) nL cells slots (MQ below (hm_Qi D w0 s.heap.size post) args s cells slots (hm_A w0 s.heap.size)) w pc lv [.int (bI b)] := fun H locs ls h1 h2 h3 h4 => W.zret (hlocks := E.2.2.2.2.2.2.2) E.1 E.2.1 hr (bI_narrow b) (fun t ht hW => ⟨bI b, w, rfl, hpost, by rw [ht]; exact h1, h2, h3.F ht⟩) h3.2.2 d
theorem hv_vret {w0 : hm_M} {post : hm_M → Prop} (E : hm_E p s m args meth c cc nL own D K (hm_A w0 s.heap.size)) (d : decode cc pc = .ok (.return_, 1)) (hr : meth.sig.returnType = none) (hpost : post w) : hm_V p l e R s m args below meth c D (hm_A w0 s.heap.size) nL cells slots (MQ below (hm_Qv D w0 s.heap.size post) args s cells slots (hm_A w0 s.heap.size)) w pc lv [] := fun H locs ls h1 h2 h3 h4 => W.vret (hlocks := E.2.2.2.2.2.2.2) E.1 E.2.1 hr (fun t ht hW => ⟨w, rfl, hpost, by rw [ht]; exact h1, h2, h3.F ht⟩) h3.2.2 d
theorem hm_enterI {y : MethodName} {b : ByteArray} {n : Nat} {rt : FieldType} {d : Nat} {As : List Value} {mc ms : Nat} {post : Int32 → hm_M → Prop} (hy : plainName y.cls = true) (hl : (lg_sl As).length ≤ n)
    (body : ∀ (p : Program) (e : Env) (s : State) (m : MethodId) (args : Array Value) (below : List Frame) (meth : Method) (c : Code), hm_E p s m args meth c b n y.cls D K (hm_A w s.heap.size) → meth.sig.returnType = (some rt) → meth.name = y.name → hm_V p l e (hm_rm d mc ms) s m args below meth c D (hm_A w s.heap.size) n 0 0 (MQ below (hm_Qi D w s.heap.size post) args s mc ms (hm_A w s.heap.size)) w 0 (lv_args 0 As) []) : hm_Ci l D K y b n rt d As w mc ms post := by
  intro sz
  refine Met.ofW (cc := b) (maxL := n) (ret := (some rt)) hy rfl ?_
  intro p e s m args below meth c s₁ B hml hv
  obtain ⟨rfl, hsz, hH, hK⟩ := hv
  subst hsz
  have hts := atoms_spec (ws := Cond.code y b n (some rt) :: hG) B.pre
  have hown : s.vm.findClass y.cls = some m.cls := findClass_of_methodNamed B.named
  have E : hm_E p s m As.toArray meth c b n y.cls D K (hm_A w s.heap.size) := ⟨B.exec, B.bytes, hml, hown, fun x hx => hts x (List.mem_cons_of_mem _ hx), hK, fun q h => Or.inr h, B.notSynchronized⟩
  rw [lg_entry_eq]
  exact body p e s m _ below meth c E B.returns (name_of_methodNamed B.named B.method).1 s.heap [] _ hH (fun q h => Or.inl h) va_S.rf (lv_entry As hl)
theorem hm_enterV {y : MethodName} {b : ByteArray} {n : Nat} {d : Nat} {As : List Value} {mc ms : Nat} {post : hm_M → Prop} (hy : plainName y.cls = true) (hl : (lg_sl As).length ≤ n)
    (body : ∀ (p : Program) (e : Env) (s : State) (m : MethodId) (args : Array Value) (below : List Frame) (meth : Method) (c : Code), hm_E p s m args meth c b n y.cls D K (hm_A w s.heap.size) → meth.sig.returnType = none → meth.name = y.name → hm_V p l e (hm_rm d mc ms) s m args below meth c D (hm_A w s.heap.size) n 0 0 (MQ below (hm_Qv D w s.heap.size post) args s mc ms (hm_A w s.heap.size)) w 0 (lv_args 0 As) []) : hm_Cv l D K y b n d As w mc ms post := by
  intro sz
  refine Met.ofW (cc := b) (maxL := n) (ret := none) hy rfl ?_
  intro p e s m args below meth c s₁ B hml hv
  obtain ⟨rfl, hsz, hH, hK⟩ := hv
  subst hsz
  have hts := atoms_spec (ws := Cond.code y b n none :: hG) B.pre
  have hown : s.vm.findClass y.cls = some m.cls := findClass_of_methodNamed B.named
  have E : hm_E p s m As.toArray meth c b n y.cls D K (hm_A w s.heap.size) := ⟨B.exec, B.bytes, hml, hown, fun x hx => hts x (List.mem_cons_of_mem _ hx), hK, fun q h => Or.inr h, B.notSynchronized⟩
  rw [lg_entry_eq]
  exact body p e s m _ below meth c E B.returns (name_of_methodNamed B.named B.method).1 s.heap [] _ hH (fun q h => Or.inl h) va_S.rf (lv_entry As hl)
theorem hm_goI {H : Heap} {locs : List Loc} {ls : Array Slot} {mc ms : Nat} {st0 : List Value} {ar : Array Value} {post : Int32 → hm_M → Prop} (hr : va_Run p l e R s m args below meth c H locs cells slots mc ms (F0 m pc ls st0) st (hm_Qi D w H.size post ar) (hm_A w H.size)) (h2 : ∀ q, w q ≠ none → A q) (h3 : va_S A s.heap H locs) (hA : ∀ q, s.heap.size ≤ q → A q) (h4 : lv_has ls nL lv) (k : ∀ (r : Int32) (w2 : hm_M), post r w2 → hm_V p l e R s m args below meth c D A nL (cells + mc) (slots + ms) Q w2 (pc + 3) lv (.int r :: st)) : W p l e R s m args below meth c H locs cells slots Q (F0 m pc ls st0) := by
  intro T hT X
  obtain ⟨v, st₀, t, T2, L, h0, X2, hL, e1, e2, ⟨r, w2, hv, hpost, hH2, hdom, hz, hk⟩, stp⟩ := hr T hT X
  cases hv
  rw [h0] at hz hk
  have hsub : ∀ q, hm_A w H.size q → A q := fun q hq => hq.elim (h2 q) (fun z => hA q (Nat.le_trans h3.1 z))
  obtain ⟨t2, a1, b1⟩ := k r w2 hpost T2.heap (locs ++ L) ls (by rw [e1]; exact hH2) (fun q hq => hsub q (hdom q hq)) ⟨Nat.le_trans h3.1 (by rw [e1]; exact hz), fun q g1 g2 => by rw [e1, hk q (Nat.lt_of_lt_of_le g1 h3.1) (fun z => g2 (hsub q z))]; exact h3.2.1 q g1 g2, fun q hq => by
      rcases List.mem_append.mp hq with h | h
      · exact h3.2.2 q h
      · exact hsub _ (hL q h)⟩ h4 T2 rfl X2
  exact ⟨t2, stp t2 a1, b1⟩
theorem hm_goV {H : Heap} {locs : List Loc} {ls : Array Slot} {mc ms : Nat} {st0 : List Value} {ar : Array Value} {post : hm_M → Prop} (hr : va_Run p l e R s m args below meth c H locs cells slots mc ms (F0 m pc ls st0) st (hm_Qv D w H.size post ar) (hm_A w H.size)) (h2 : ∀ q, w q ≠ none → A q) (h3 : va_S A s.heap H locs) (hA : ∀ q, s.heap.size ≤ q → A q) (h4 : lv_has ls nL lv) (k : ∀ (w2 : hm_M), post w2 → hm_V p l e R s m args below meth c D A nL (cells + mc) (slots + ms) Q w2 (pc + 3) lv st) : W p l e R s m args below meth c H locs cells slots Q (F0 m pc ls st0) := by
  intro T hT X
  obtain ⟨v, st₀, t, T2, L, h0, X2, hL, e1, e2, ⟨w2, hv, hpost, hH2, hdom, hz, hk⟩, stp⟩ := hr T hT X
  cases hv
  rw [h0] at hz hk
  have hsub : ∀ q, hm_A w H.size q → A q := fun q hq => hq.elim (h2 q) (fun z => hA q (Nat.le_trans h3.1 z))
  obtain ⟨t2, a1, b1⟩ := k w2 hpost T2.heap (locs ++ L) ls (by rw [e1]; exact hH2) (fun q hq => hsub q (hdom q hq)) ⟨Nat.le_trans h3.1 (by rw [e1]; exact hz), fun q g1 g2 => by rw [e1, hk q (Nat.lt_of_lt_of_le g1 h3.1) (fun z => g2 (hsub q z))]; exact h3.2.1 q g1 g2, fun q hq => by
      rcases List.mem_append.mp hq with h | h
      · exact h3.2.2 q h
      · exact hsub _ (hL q h)⟩ h4 T2 rfl X2
  exact ⟨t2, stp t2 a1, b1⟩
theorem hv_callSI (E : hm_E p s m args meth c cc nL own D K A) {y : MethodName} {b : ByteArray} {n : Nat} {rt : FieldType} {d na idx mc ms : Nat} {As st0 : List Value} {post : Int32 → hm_M → Prop} (C : hm_Ci l D K y b n rt d (As) w mc ms post) (dd : decode cc pc = .ok (.invokestatic idx, 3)) (hl : Cond.methodLink own idx y ∈ hG) (hs : Cond.static y ∈ hG) (hc : Cond.code y b n (some rt) ∈ hG) (hi : Cond.initialized y.cls ∈ hG) (hd : y.cls ≠ "java/lang/invoke/MethodHandle" ∧ y.cls ≠ "java/lang/invoke/VarHandle" ∧ (parseMethodDescriptor y.desc).map (fun d => d.parameters.length) = some na) (hn : As.length = na) (hR : d + 1 ≤ R.frames ∧ 8 + (n + 11) + 35 * d ≤ R.locals) (hq : (st.map fun v => v.category).sum ≤ 8) (hf : cells + mc ≤ R.cells ∧ slots + ms ≤ R.slots) (hs0 : st0 = As.reverse ++ st) (hp : pc + 3 = pc2) (k : ∀ (r : Int32) (w2 : hm_M), post r w2 → hm_V p l e R s m args below meth c D A nL (cells + mc) (slots + ms) Q w2 pc2 lv (.int r :: st)) : hm_V p l e R s m args below meth c D A nL cells slots Q w pc lv st0 := by
  subst hp; subst hs0
  exact fun H locs ls h1 h2 h3 h4 => hm_goI (va_runS (Ts := hG) ⟨E.1, E.2.1, E.2.2.1, E.2.2.2.1, E.2.2.2.2.1⟩ (C H.size) ⟨callB_of na E.2.2.2.2.1 (hG_good0 hc) rfl rfl rfl (E.2.2.2.2.1 _ hi) (E.2.2.2.2.1 _ hl) hd hR, E.2.2.2.2.1 _ hs⟩ ⟨hm_Pre.blind, fun U hU hW => ⟨rfl, by rw [hU], by rw [hU]; exact h1, hm_Kn.warm hW E.2.2.2.2.2.1⟩⟩ rfl hn h4.1 rfl (lv_room hq) dd hf) h2 h3 E.2.2.2.2.2.2.1 h4 k
theorem hv_callSNI (E : hm_E p s m args meth c cc nL own D K A) {y : MethodName} {b : ByteArray} {n : Nat} {rt : FieldType} {d na idx mc ms : Nat} {As st0 : List Value} {post : Int32 → hm_M → Prop} {host : String} (C : hm_Ci l D K y b n rt d (As) w mc ms post) (dd : decode cc pc = .ok (.invokestatic idx, 3)) (hl : (own, idx, y, host) ∈ hNm) (hs : Cond.static y ∈ hG) (hc : Cond.code y b n (some rt) ∈ hG) (hi : Cond.initialized y.cls ∈ hG) (hd : y.cls ≠ "java/lang/invoke/MethodHandle" ∧ y.cls ≠ "java/lang/invoke/VarHandle" ∧ (parseMethodDescriptor y.desc).map (fun d => d.parameters.length) = some na) (hn : As.length = na) (hR : d + 1 ≤ R.frames ∧ 8 + (n + 11) + 35 * d ≤ R.locals) (hq : (st.map fun v => v.category).sum ≤ 8) (hf : cells + mc ≤ R.cells ∧ slots + ms ≤ R.slots) (hs0 : st0 = As.reverse ++ st) (hp : pc + 3 = pc2) (k : ∀ (r : Int32) (w2 : hm_M), post r w2 → hm_V p l e R s m args below meth c D A nL (cells + mc) (slots + ms) Q w2 pc2 lv (.int r :: st)) : hm_V p l e R s m args below meth c D A nL cells slots Q w pc lv st0 := by
  subst hp; subst hs0
  exact fun H locs ls h1 h2 h3 h4 => hm_goI (va_runSN (Ts := hG) (host := host) ⟨E.1, E.2.1, E.2.2.1, E.2.2.2.1, E.2.2.2.2.1⟩ (C H.size) ⟨va_cnB na E.2.2.2.2.1 (hG_good0 hc) rfl rfl rfl (E.2.2.2.2.2.1.2.1 _ hl) (E.2.2.2.2.1 _ hi) hd hR, E.2.2.2.2.1 _ hs, trivial⟩ ⟨hm_Pre.blind, fun U hU hW => ⟨rfl, by rw [hU], by rw [hU]; exact h1, hm_Kn.warm hW E.2.2.2.2.2.1⟩⟩ rfl hn h4.1 rfl (lv_room hq) dd hf) h2 h3 E.2.2.2.2.2.2.1 h4 k
theorem hv_callVI (E : hm_E p s m args meth c cc nL own D K A) {y : MethodName} {b : ByteArray} {n : Nat} {rt : FieldType} {d na idx mc ms : Nat} {As st0 : List Value} {post : Int32 → hm_M → Prop} {a ci N : Nat} {C0 : String} {T0 : u_T} {fs : List Value} (C : hm_Ci l D K y b n rt d (.ref a :: As) w mc ms post) (dd : decode cc pc = .ok (.invokevirtual idx, 3)) (ha : w a = some (.inr (ci, fs))) (hcl : vwCl[ci]? = some (C0, T0, N)) (hl : Cond.methodLink own idx y ∈ hG) (hs : Cond.selects C0 y y ∈ hG) (him : Cond.instanceMethod y ∈ hG) (hc : Cond.code y b n (some rt) ∈ hG) (hi : Cond.initialized y.cls ∈ hG) (hd : y.cls ≠ "java/lang/invoke/MethodHandle" ∧ y.cls ≠ "java/lang/invoke/VarHandle" ∧ (parseMethodDescriptor y.desc).map (fun d => d.parameters.length) = some na) (hn : As.length = na) (hR : d + 1 ≤ R.frames ∧ 8 + (n + 11) + 35 * d ≤ R.locals) (hq : (st.map fun v => v.category).sum ≤ 8) (hf : cells + mc ≤ R.cells ∧ slots + ms ≤ R.slots) (hs0 : st0 = As.reverse ++ .ref a :: st) (hp : pc + 3 = pc2) (k : ∀ (r : Int32) (w2 : hm_M), post r w2 → hm_V p l e R s m args below meth c D A nL (cells + mc) (slots + ms) Q w2 pc2 lv (.int r :: st)) : hm_V p l e R s m args below meth c D A nL cells slots Q w pc lv st0 := by
  subst hp; subst hs0
  exact fun H locs ls h1 h2 h3 h4 => hm_goI (va_runV (Ts := hG) (C := C0) ⟨E.1, E.2.1, E.2.2.1, E.2.2.2.1, E.2.2.2.2.1⟩ (C H.size) ⟨callB_of na E.2.2.2.2.1 (hG_good0 hc) rfl rfl rfl (E.2.2.2.2.1 _ hi) (E.2.2.2.2.1 _ hl) hd hR, E.2.2.2.2.1 _ him, E.2.2.2.2.1 _ hs⟩ ⟨hm_Pre.blind, va_recv (q0 := 0) (fs := fs) E.2.2.2.2.2.1.1 (hm_one h1 ha) hcl rfl, fun U hU hW => ⟨rfl, by rw [hU], by rw [hU]; exact h1, hm_Kn.warm hW E.2.2.2.2.2.1⟩⟩ rfl hn h4.1 rfl (lv_room hq) dd hf) h2 h3 E.2.2.2.2.2.2.1 h4 k
theorem hv_callUI (E : hm_E p s m args meth c cc nL own D K A) {y : MethodName} {b : ByteArray} {n : Nat} {rt : FieldType} {d na idx mc ms : Nat} {As st0 : List Value} {post : Int32 → hm_M → Prop} {a ci N : Nat} {C0 : String} {T0 : u_T} {fs : List Value} {owner : String} {x : MethodName} (C : hm_Ci l D K y b n rt d (.ref a :: As) w mc ms post) (dd : decode cc pc = .ok (.invokevirtual idx, 3)) (ha : w a = some (.inr (ci, fs))) (hcl : vwCl[ci]? = some (C0, T0, N)) (hl : Cond.methodLink own idx x ∈ hG) (hsm : Cond.sameMethod x.cls owner x.name x.desc ∈ hG) (hs : Cond.selects C0 x y ∈ hG) (him : Cond.instanceMethod y ∈ hG) (hdc : (⟨owner, x.name, x.desc⟩ : MethodName) ∈ hNd) (hc : Cond.code y b n (some rt) ∈ hG) (hi : Cond.initialized y.cls ∈ hG) (hd : owner ≠ "java/lang/invoke/MethodHandle" ∧ owner ≠ "java/lang/invoke/VarHandle" ∧ (parseMethodDescriptor x.desc).map (fun d => d.parameters.length) = some na) (hn : As.length = na) (hR : d + 1 ≤ R.frames ∧ 8 + (n + 11) + 35 * d ≤ R.locals) (hq : (st.map fun v => v.category).sum ≤ 8) (hf : cells + mc ≤ R.cells ∧ slots + ms ≤ R.slots) (hs0 : st0 = As.reverse ++ .ref a :: st) (hp : pc + 3 = pc2) (k : ∀ (r : Int32) (w2 : hm_M), post r w2 → hm_V p l e R s m args below meth c D A nL (cells + mc) (slots + ms) Q w2 pc2 lv (.int r :: st)) : hm_V p l e R s m args below meth c D A nL cells slots Q w pc lv st0 := by
  subst hp; subst hs0
  have hgd : GoodIn hG (va_wsU own idx C0 owner x y (Cond.code y b n (some rt) :: hG)) := goodIn_app2 (fun z hz => by
    have : z ∈ hG := by
      simp only [List.mem_cons, List.not_mem_nil, or_false] at hz
      rcases hz with rfl | rfl | rfl | rfl | rfl
      · exact hl
      · exact hsm
      · exact hs
      · exact him
      · exact hi
    exact ⟨this, good_of_word (hG_in this).2⟩) (hG_good0 hc)
  exact fun H locs ls h1 h2 h3 h4 => hm_goI (va_runU (Ts := hG) (C := C0) ⟨E.1, E.2.1, E.2.2.1, E.2.2.2.1, E.2.2.2.2.1⟩ (C H.size) (va_cwA na E.2.2.2.2.1 hgd rfl rfl rfl (E.2.2.2.2.2.1.2.2.1 _ hdc) hd hR) ⟨hm_Pre.blind, va_recv (q0 := 0) (fs := fs) E.2.2.2.2.2.1.1 (hm_one h1 ha) hcl rfl, fun U hU hW => ⟨rfl, by rw [hU], by rw [hU]; exact h1, hm_Kn.warm hW E.2.2.2.2.2.1⟩⟩ rfl hn h4.1 rfl (lv_room hq) dd hf) h2 h3 E.2.2.2.2.2.2.1 h4 k
theorem hv_callSV (E : hm_E p s m args meth c cc nL own D K A) {y : MethodName} {b : ByteArray} {n : Nat} {d na idx mc ms : Nat} {As st0 : List Value} {post : hm_M → Prop} (C : hm_Cv l D K y b n d (As) w mc ms post) (dd : decode cc pc = .ok (.invokestatic idx, 3)) (hl : Cond.methodLink own idx y ∈ hG) (hs : Cond.static y ∈ hG) (hc : Cond.code y b n none ∈ hG) (hi : Cond.initialized y.cls ∈ hG) (hd : y.cls ≠ "java/lang/invoke/MethodHandle" ∧ y.cls ≠ "java/lang/invoke/VarHandle" ∧ (parseMethodDescriptor y.desc).map (fun d => d.parameters.length) = some na) (hn : As.length = na) (hR : d + 1 ≤ R.frames ∧ 8 + (n + 11) + 35 * d ≤ R.locals) (hq : (st.map fun v => v.category).sum ≤ 8) (hf : cells + mc ≤ R.cells ∧ slots + ms ≤ R.slots) (hs0 : st0 = As.reverse ++ st) (hp : pc + 3 = pc2) (k : ∀ (w2 : hm_M), post w2 → hm_V p l e R s m args below meth c D A nL (cells + mc) (slots + ms) Q w2 pc2 lv st) : hm_V p l e R s m args below meth c D A nL cells slots Q w pc lv st0 := by
  subst hp; subst hs0
  exact fun H locs ls h1 h2 h3 h4 => hm_goV (va_runS (Ts := hG) ⟨E.1, E.2.1, E.2.2.1, E.2.2.2.1, E.2.2.2.2.1⟩ (C H.size) ⟨callB_of na E.2.2.2.2.1 (hG_good0 hc) rfl rfl rfl (E.2.2.2.2.1 _ hi) (E.2.2.2.2.1 _ hl) hd hR, E.2.2.2.2.1 _ hs⟩ ⟨hm_Pre.blind, fun U hU hW => ⟨rfl, by rw [hU], by rw [hU]; exact h1, hm_Kn.warm hW E.2.2.2.2.2.1⟩⟩ rfl hn h4.1 rfl (lv_room hq) dd hf) h2 h3 E.2.2.2.2.2.2.1 h4 k
theorem hv_callSNV (E : hm_E p s m args meth c cc nL own D K A) {y : MethodName} {b : ByteArray} {n : Nat} {d na idx mc ms : Nat} {As st0 : List Value} {post : hm_M → Prop} {host : String} (C : hm_Cv l D K y b n d (As) w mc ms post) (dd : decode cc pc = .ok (.invokestatic idx, 3)) (hl : (own, idx, y, host) ∈ hNm) (hs : Cond.static y ∈ hG) (hc : Cond.code y b n none ∈ hG) (hi : Cond.initialized y.cls ∈ hG) (hd : y.cls ≠ "java/lang/invoke/MethodHandle" ∧ y.cls ≠ "java/lang/invoke/VarHandle" ∧ (parseMethodDescriptor y.desc).map (fun d => d.parameters.length) = some na) (hn : As.length = na) (hR : d + 1 ≤ R.frames ∧ 8 + (n + 11) + 35 * d ≤ R.locals) (hq : (st.map fun v => v.category).sum ≤ 8) (hf : cells + mc ≤ R.cells ∧ slots + ms ≤ R.slots) (hs0 : st0 = As.reverse ++ st) (hp : pc + 3 = pc2) (k : ∀ (w2 : hm_M), post w2 → hm_V p l e R s m args below meth c D A nL (cells + mc) (slots + ms) Q w2 pc2 lv st) : hm_V p l e R s m args below meth c D A nL cells slots Q w pc lv st0 := by
  subst hp; subst hs0
  exact fun H locs ls h1 h2 h3 h4 => hm_goV (va_runSN (Ts := hG) (host := host) ⟨E.1, E.2.1, E.2.2.1, E.2.2.2.1, E.2.2.2.2.1⟩ (C H.size) ⟨va_cnB na E.2.2.2.2.1 (hG_good0 hc) rfl rfl rfl (E.2.2.2.2.2.1.2.1 _ hl) (E.2.2.2.2.1 _ hi) hd hR, E.2.2.2.2.1 _ hs, trivial⟩ ⟨hm_Pre.blind, fun U hU hW => ⟨rfl, by rw [hU], by rw [hU]; exact h1, hm_Kn.warm hW E.2.2.2.2.2.1⟩⟩ rfl hn h4.1 rfl (lv_room hq) dd hf) h2 h3 E.2.2.2.2.2.2.1 h4 k
theorem hv_callVV (E : hm_E p s m args meth c cc nL own D K A) {y : MethodName} {b : ByteArray} {n : Nat} {d na idx mc ms : Nat} {As st0 : List Value} {post : hm_M → Prop} {a ci N : Nat} {C0 : String} {T0 : u_T} {fs : List Value} (C : hm_Cv l D K y b n d (.ref a :: As) w mc ms post) (dd : decode cc pc = .ok (.invokevirtual idx, 3)) (ha : w a = some (.inr (ci, fs))) (hcl : vwCl[ci]? = some (C0, T0, N)) (hl : Cond.methodLink own idx y ∈ hG) (hs : Cond.selects C0 y y ∈ hG) (him : Cond.instanceMethod y ∈ hG) (hc : Cond.code y b n none ∈ hG) (hi : Cond.initialized y.cls ∈ hG) (hd : y.cls ≠ "java/lang/invoke/MethodHandle" ∧ y.cls ≠ "java/lang/invoke/VarHandle" ∧ (parseMethodDescriptor y.desc).map (fun d => d.parameters.length) = some na) (hn : As.length = na) (hR : d + 1 ≤ R.frames ∧ 8 + (n + 11) + 35 * d ≤ R.locals) (hq : (st.map fun v => v.category).sum ≤ 8) (hf : cells + mc ≤ R.cells ∧ slots + ms ≤ R.slots) (hs0 : st0 = As.reverse ++ .ref a :: st) (hp : pc + 3 = pc2) (k : ∀ (w2 : hm_M), post w2 → hm_V p l e R s m args below meth c D A nL (cells + mc) (slots + ms) Q w2 pc2 lv st) : hm_V p l e R s m args below meth c D A nL cells slots Q w pc lv st0 := by
  subst hp; subst hs0
  exact fun H locs ls h1 h2 h3 h4 => hm_goV (va_runV (Ts := hG) (C := C0) ⟨E.1, E.2.1, E.2.2.1, E.2.2.2.1, E.2.2.2.2.1⟩ (C H.size) ⟨callB_of na E.2.2.2.2.1 (hG_good0 hc) rfl rfl rfl (E.2.2.2.2.1 _ hi) (E.2.2.2.2.1 _ hl) hd hR, E.2.2.2.2.1 _ him, E.2.2.2.2.1 _ hs⟩ ⟨hm_Pre.blind, va_recv (q0 := 0) (fs := fs) E.2.2.2.2.2.1.1 (hm_one h1 ha) hcl rfl, fun U hU hW => ⟨rfl, by rw [hU], by rw [hU]; exact h1, hm_Kn.warm hW E.2.2.2.2.2.1⟩⟩ rfl hn h4.1 rfl (lv_room hq) dd hf) h2 h3 E.2.2.2.2.2.2.1 h4 k
theorem hv_callUV (E : hm_E p s m args meth c cc nL own D K A) {y : MethodName} {b : ByteArray} {n : Nat} {d na idx mc ms : Nat} {As st0 : List Value} {post : hm_M → Prop} {a ci N : Nat} {C0 : String} {T0 : u_T} {fs : List Value} {owner : String} {x : MethodName} (C : hm_Cv l D K y b n d (.ref a :: As) w mc ms post) (dd : decode cc pc = .ok (.invokevirtual idx, 3)) (ha : w a = some (.inr (ci, fs))) (hcl : vwCl[ci]? = some (C0, T0, N)) (hl : Cond.methodLink own idx x ∈ hG) (hsm : Cond.sameMethod x.cls owner x.name x.desc ∈ hG) (hs : Cond.selects C0 x y ∈ hG) (him : Cond.instanceMethod y ∈ hG) (hdc : (⟨owner, x.name, x.desc⟩ : MethodName) ∈ hNd) (hc : Cond.code y b n none ∈ hG) (hi : Cond.initialized y.cls ∈ hG) (hd : owner ≠ "java/lang/invoke/MethodHandle" ∧ owner ≠ "java/lang/invoke/VarHandle" ∧ (parseMethodDescriptor x.desc).map (fun d => d.parameters.length) = some na) (hn : As.length = na) (hR : d + 1 ≤ R.frames ∧ 8 + (n + 11) + 35 * d ≤ R.locals) (hq : (st.map fun v => v.category).sum ≤ 8) (hf : cells + mc ≤ R.cells ∧ slots + ms ≤ R.slots) (hs0 : st0 = As.reverse ++ .ref a :: st) (hp : pc + 3 = pc2) (k : ∀ (w2 : hm_M), post w2 → hm_V p l e R s m args below meth c D A nL (cells + mc) (slots + ms) Q w2 pc2 lv st) : hm_V p l e R s m args below meth c D A nL cells slots Q w pc lv st0 := by
  subst hp; subst hs0
  have hgd : GoodIn hG (va_wsU own idx C0 owner x y (Cond.code y b n none :: hG)) := goodIn_app2 (fun z hz => by
    have : z ∈ hG := by
      simp only [List.mem_cons, List.not_mem_nil, or_false] at hz
      rcases hz with rfl | rfl | rfl | rfl | rfl
      · exact hl
      · exact hsm
      · exact hs
      · exact him
      · exact hi
    exact ⟨this, good_of_word (hG_in this).2⟩) (hG_good0 hc)
  exact fun H locs ls h1 h2 h3 h4 => hm_goV (va_runU (Ts := hG) (C := C0) ⟨E.1, E.2.1, E.2.2.1, E.2.2.2.1, E.2.2.2.2.1⟩ (C H.size) (va_cwA na E.2.2.2.2.1 hgd rfl rfl rfl (E.2.2.2.2.2.1.2.2.1 _ hdc) hd hR) ⟨hm_Pre.blind, va_recv (q0 := 0) (fs := fs) E.2.2.2.2.2.1.1 (hm_one h1 ha) hcl rfl, fun U hU hW => ⟨rfl, by rw [hU], by rw [hU]; exact h1, hm_Kn.warm hW E.2.2.2.2.2.1⟩⟩ rfl hn h4.1 rfl (lv_room hq) dd hf) h2 h3 E.2.2.2.2.2.2.1 h4 k
theorem hv_callI (E : hm_E p s m args meth c cc nL own D K A) {y : MethodName} {b : ByteArray} {n : Nat} {d na idx mc ms : Nat} {As st0 : List Value} {post : hm_M → Prop} {a : Nat} (C : hm_Cv l D K y b n d (.ref a :: As) w mc ms post) (dd : decode cc pc = .ok (.invokespecial idx, 3)) (hl : Cond.methodLink own idx y ∈ hG) (hnm : y.name = "<init>") (him : Cond.instanceMethod y ∈ hG) (hc : Cond.code y b n none ∈ hG) (hi : Cond.initialized y.cls ∈ hG) (hd : y.cls ≠ "java/lang/invoke/MethodHandle" ∧ y.cls ≠ "java/lang/invoke/VarHandle" ∧ (parseMethodDescriptor y.desc).map (fun d => d.parameters.length) = some na) (hn : As.length = na) (hR : d + 1 ≤ R.frames ∧ 8 + (n + 11) + 35 * d ≤ R.locals) (hq : (st.map fun v => v.category).sum ≤ 8) (hf : cells + mc ≤ R.cells ∧ slots + ms ≤ R.slots) (hs0 : st0 = As.reverse ++ .ref a :: st) (hp : pc + 3 = pc2) (k : ∀ (w2 : hm_M), post w2 → hm_V p l e R s m args below meth c D A nL (cells + mc) (slots + ms) Q w2 pc2 lv st) : hm_V p l e R s m args below meth c D A nL cells slots Q w pc lv st0 := by
  subst hp; subst hs0
  exact fun H locs ls h1 h2 h3 h4 => hm_goV (va_runI (Ts := hG) ⟨E.1, E.2.1, E.2.2.1, E.2.2.2.1, E.2.2.2.2.1⟩ (C H.size) ⟨callB_of na E.2.2.2.2.1 (hG_good0 hc) rfl rfl rfl (E.2.2.2.2.1 _ hi) (E.2.2.2.2.1 _ hl) hd hR, hnm, E.2.2.2.2.1 _ him⟩ ⟨hm_Pre.blind, fun U hU hW => ⟨rfl, by rw [hU], by rw [hU]; exact h1, hm_Kn.warm hW E.2.2.2.2.2.1⟩⟩ rfl hn h4.1 rfl (lv_room hq) dd hf) h2 h3 E.2.2.2.2.2.2.1 h4 k
theorem hv_callIN (E : hm_E p s m args meth c cc nL own D K A) {y : MethodName} {b : ByteArray} {n : Nat} {d na idx mc ms : Nat} {As st0 : List Value} {post : hm_M → Prop} {a : Nat} (C : hm_Cv l D K y b n d (.ref a :: As) w mc ms post) (dd : decode cc pc = .ok (.invokespecial idx, 3)) {host : String} (hl : (own, idx, y, host) ∈ hNm) (hnm : y.name = "<init>") (him : Cond.instanceMethod y ∈ hG) (hc : Cond.code y b n none ∈ hG) (hi : Cond.initialized y.cls ∈ hG) (hd : y.cls ≠ "java/lang/invoke/MethodHandle" ∧ y.cls ≠ "java/lang/invoke/VarHandle" ∧ (parseMethodDescriptor y.desc).map (fun d => d.parameters.length) = some na) (hn : As.length = na) (hR : d + 1 ≤ R.frames ∧ 8 + (n + 11) + 35 * d ≤ R.locals) (hq : (st.map fun v => v.category).sum ≤ 8) (hf : cells + mc ≤ R.cells ∧ slots + ms ≤ R.slots) (hs0 : st0 = As.reverse ++ .ref a :: st) (hp : pc + 3 = pc2) (k : ∀ (w2 : hm_M), post w2 → hm_V p l e R s m args below meth c D A nL (cells + mc) (slots + ms) Q w2 pc2 lv st) : hm_V p l e R s m args below meth c D A nL cells slots Q w pc lv st0 := by
  subst hp; subst hs0
  exact fun H locs ls h1 h2 h3 h4 => hm_goV (va_runIN (Ts := hG) ⟨E.1, E.2.1, E.2.2.1, E.2.2.2.1, E.2.2.2.2.1⟩ (C H.size) ⟨va_cnB na E.2.2.2.2.1 (hG_good0 hc) rfl rfl rfl (E.2.2.2.2.2.1.2.1 _ hl) (E.2.2.2.2.1 _ hi) hd hR, hnm, E.2.2.2.2.1 _ him⟩ ⟨hm_Pre.blind, fun U hU hW => ⟨rfl, by rw [hU], by rw [hU]; exact h1, hm_Kn.warm hW E.2.2.2.2.2.1⟩⟩ rfl hn h4.1 rfl (lv_room hq) dd hf) h2 h3 E.2.2.2.2.2.2.1 h4 k
theorem hv_objInit (E : hm_E p s m args meth c cc nL own D K A) {idx a : Nat} (dd : decode cc pc = .ok (.invokespecial idx, 3)) (hl : Cond.methodLink own idx objectInit ∈ hG) (hq : (st.map fun v => v.category).sum ≤ 8) (hR : 1 ≤ R.frames ∧ 35 ≤ R.locals) (hp : pc + 3 = pc2) (k : hm_V p l e R s m args below meth c D A nL cells slots Q w pc2 lv st) : hm_V p l e R s m args below meth c D A nL cells slots Q w pc lv (.ref a :: st) := by
  subst hp
  exact fun H locs ls h1 h2 h3 h4 => W.objInit E.1 E.2.1 E.2.2.2.1 (E.2.2.2.2.1 _ hl) (E.2.2.2.2.1 _ gI_objectInit) (E.2.2.2.2.1 _ gC_objectInit) rfl (by rw [E.2.2.1]; exact h4.1) rfl dd hR.1 (by show 2 * 0 + _ + 12 ≤ _; omega) (k H locs ls h1 h2 h3 h4)
theorem hv_new (E : hm_E p s m args meth c cc nL own D K A) {ci N idx : Nat} {C : String} {T : u_T} {ty : Nat → FieldType} {fs : List Value} (dd : decode cc pc = .ok (.new idx, 3)) (hc : vwCl[ci]? = some (C, T, N)) (hw : ∀ w ∈ u_ws C T N, w ∈ hG) (hty : ∀ k, k < N → parseFieldDescriptor (T k).2.2.1 = some (ty k)) (hcl : Cond.classLink own idx C ∈ hG) (hin : Cond.instantiable C N ∈ hG) (hi : Cond.initialized C ∈ hG) (hfs : ∀ j, j < N → defaultValue (ty j) = vp_V fs j) (hcells : cells + 1 ≤ R.cells) (hslots : slots + N ≤ R.slots) (hp : pc + 3 = pc2) (k : ∀ q : Nat, w q = none → s.heap.size ≤ q → hm_V p l e R s m args below meth c D A nL (cells + 1) (slots + N) Q (hm_up w q (.inr (ci, fs))) pc2 lv (.ref q :: st)) : hm_V p l e R s m args below meth c D A nL cells slots Q w pc lv st := by
  subst hp
  intro H locs ls h1 h2 h3 h4
  have hts := E.2.2.2.2.1
  have hKn := E.2.2.2.2.2.1.1.1 ci _ hc
  refine W.newcK E.1 E.2.1 E.2.2.2.1 (hts _ hcl) (hts _ hin) (hts _ hi) rfl dd hcells hslots hKn.2.1 rfl fun H1 kC hkC e1 z1 o1 => ?_
  refine k H.size (h1.fresh (Nat.le_refl _)) h3.1 H1 locs ls (h1.new ⟨_, hc, (u_born ty hts hw hKn hkC e1 hty).to hfs⟩ o1) (hm_dom h2 (E.2.2.2.2.2.2.1 _ h3.1)) ⟨Nat.le_trans h3.1 (by omega), fun x g1 g2 => (o1 x (Nat.lt_of_lt_of_le g1 h3.1)).trans (h3.2.1 x g1 g2), h3.2.2⟩ h4
theorem hv_newaI (E : hm_E p s m args meth c cc nL own D K A) {z : Int} (dd : decode cc pc = .ok (.newarray .int, 2)) (h0 : 0 ≤ z) (hz : z ≤ 100000) (hcells : cells + 1 ≤ R.cells) (hslots : slots + z.toNat ≤ R.slots) (hp : pc + 2 = pc2) (k : ∀ q : Nat, w q = none → s.heap.size ≤ q → hm_V p l e R s m args below meth c D A nL (cells + 1) (slots + z.toNat) Q (hm_up w q (.inl (K 0, z.toNat, .inl (fun _ => 0)))) pc2 lv (.ref q :: st)) : hm_V p l e R s m args below meth c D A nL cells slots Q w pc lv (.int (iI z) :: st) := by
  subst hp
  intro H locs ls h1 h2 h3 h4
  have hcl : (iI z).toNatClampNeg = z.toNat := iI_cl h0 (by omega)
  have hbt : componentBytes (newarray.typeOf .int) ≤ 8 := by decide
  refine va_newaK (atype := .int) E.1 E.2.1 (E.2.2.2.2.1 _ gA_int) rfl dd rfl (by rw [Int32.lt_iff_toInt_lt, iI_toInt ⟨by omega, by omega⟩]; simp; omega) hcl (Nat.le_trans (Nat.mul_le_mul_left _ hbt) (by omega)) hcells hslots rfl fun H1 cA e1 z1 o1 hAr hNm => ?_
  have hcA : cA = K 0 := Option.some.inj (hNm.symm.trans (E.2.2.2.2.2.1.1.2 0 _ rfl).2)
  subst hcA
  refine k H.size (h1.fresh (Nat.le_refl _)) h3.1 H1 locs ls (h1.new ?_ o1) (hm_dom h2 (E.2.2.2.2.2.2.1 _ h3.1)) ⟨Nat.le_trans h3.1 (by omega), fun x g1 g2 => (o1 x (Nat.lt_of_lt_of_le g1 h3.1)).trans (h3.2.1 x g1 g2), h3.2.2⟩ h4
  show H1[H.size]? = some (vp_cell _ _)
  rw [vp_cell_i]
  exact e1
theorem hv_newaZ (E : hm_E p s m args meth c cc nL own D K A) {z : Int} (dd : decode cc pc = .ok (.newarray .boolean, 2)) (h0 : 0 ≤ z) (hz : z ≤ 100000) (hcells : cells + 1 ≤ R.cells) (hslots : slots + z.toNat ≤ R.slots) (hp : pc + 2 = pc2) (k : ∀ q : Nat, w q = none → s.heap.size ≤ q → hm_V p l e R s m args below meth c D A nL (cells + 1) (slots + z.toNat) Q (hm_up w q (.inl (K 1, z.toNat, .inl (fun _ => bI false)))) pc2 lv (.ref q :: st)) : hm_V p l e R s m args below meth c D A nL cells slots Q w pc lv (.int (iI z) :: st) := by
  subst hp
  intro H locs ls h1 h2 h3 h4
  have hcl : (iI z).toNatClampNeg = z.toNat := iI_cl h0 (by omega)
  have hbt : componentBytes (newarray.typeOf .boolean) ≤ 8 := by decide
  refine va_newaK (atype := .boolean) E.1 E.2.1 (E.2.2.2.2.1 _ gA_boolean) rfl dd rfl (by rw [Int32.lt_iff_toInt_lt, iI_toInt ⟨by omega, by omega⟩]; simp; omega) hcl (Nat.le_trans (Nat.mul_le_mul_left _ hbt) (by omega)) hcells hslots rfl fun H1 cA e1 z1 o1 hAr hNm => ?_
  have hcA : cA = K 1 := Option.some.inj (hNm.symm.trans (E.2.2.2.2.2.1.1.2 1 _ rfl).2)
  subst hcA
  refine k H.size (h1.fresh (Nat.le_refl _)) h3.1 H1 locs ls (h1.new ?_ o1) (hm_dom h2 (E.2.2.2.2.2.2.1 _ h3.1)) ⟨Nat.le_trans h3.1 (by omega), fun x g1 g2 => (o1 x (Nat.lt_of_lt_of_le g1 h3.1)).trans (h3.2.1 x g1 g2), h3.2.2⟩ h4
  show H1[H.size]? = some (vp_cell _ _)
  rw [vp_cell_i]
  exact e1
theorem hv_anewN (E : hm_E p s m args meth c cc nL own D K A) {z : Int} {idx : Nat} (dd : decode cc pc = .ok (.anewarray idx, 3)) (hcl : Cond.classLink own idx "KeyRows$Numbers" ∈ hG) (h0 : 0 ≤ z) (hz : z ≤ 100000) (hcells : cells + 1 ≤ R.cells) (hslots : slots + z.toNat ≤ R.slots) (hp : pc + 3 = pc2) (k : ∀ q : Nat, w q = none → s.heap.size ≤ q → hm_V p l e R s m args below meth c D A nL (cells + 1) (slots + z.toNat) Q (hm_up w q (.inl (K 2, z.toNat, .inr (.inr (.inr (.inr (fun _ => none))))))) pc2 lv (.ref q :: st)) : hm_V p l e R s m args below meth c D A nL cells slots Q w pc lv (.int (iI z) :: st) := by
  subst hp
  intro H locs ls h1 h2 h3 h4
  have hcz : (iI z).toNatClampNeg = z.toNat := iI_cl h0 (by omega)
  refine W.anew E.1 E.2.1 E.2.2.2.1 (E.2.2.2.2.1 _ hcl) (va_AO.use (E.2.2.2.2.2.1.2.2.2.2 "KeyRows$Numbers" (by decide))) rfl dd rfl (by rw [Int32.lt_iff_toInt_lt, iI_toInt ⟨by omega, by omega⟩]; simp; omega) (by rw [hcz]; omega) hcells (by rw [hcz]; exact hslots) fun cA kA comp f1 f2 f3 f4 => ?_
  obtain ⟨kA2, comp2, _, _, _, f5⟩ := (E.2.2.2.2.2.1.1.2 2 _ rfl).2
  have hcA : cA = K 2 := Option.some.inj (f1.symm.trans f5)
  subst hcA
  rw [hcz]
  generalize hH1 : H.push ({ cls := K 2, slots := Array.replicate z.toNat .null, vm := .none } : Cell) = H1
  have z1 : H1.size = H.size + 1 := by rw [← hH1, Array.size_push]
  have e1 : H1[H.size]? = some (arrV (K 2) z.toNat (fun _ => .null)) := by rw [← hH1, Array.getElem?_push_size, ← arrV_new]
  have o1 : ∀ q : Nat, q < H.size → H1[q]? = H[q]? := fun q hq => by rw [← hH1, Array.getElem?_push, if_neg (Nat.ne_of_lt hq)]
  refine k H.size (h1.fresh (Nat.le_refl _)) h3.1 H1 locs ls (h1.new ?_ o1) (hm_dom h2 (E.2.2.2.2.2.2.1 _ h3.1)) ⟨Nat.le_trans h3.1 (by omega), fun x g1 g2 => (o1 x (Nat.lt_of_lt_of_le g1 h3.1)).trans (h3.2.1 x g1 g2), h3.2.2⟩ h4
  show H1[H.size]? = some (vp_cell _ _)
  rw [vp_cell_q]
  exact e1
theorem hv_anewC (E : hm_E p s m args meth c cc nL own D K A) {z : Int} {idx : Nat} (dd : decode cc pc = .ok (.anewarray idx, 3)) (hcl : Cond.classLink own idx "KeyRows$Code" ∈ hG) (h0 : 0 ≤ z) (hz : z ≤ 100000) (hcells : cells + 1 ≤ R.cells) (hslots : slots + z.toNat ≤ R.slots) (hp : pc + 3 = pc2) (k : ∀ q : Nat, w q = none → s.heap.size ≤ q → hm_V p l e R s m args below meth c D A nL (cells + 1) (slots + z.toNat) Q (hm_up w q (.inl (K 3, z.toNat, .inr (.inr (.inr (.inr (fun _ => none))))))) pc2 lv (.ref q :: st)) : hm_V p l e R s m args below meth c D A nL cells slots Q w pc lv (.int (iI z) :: st) := by
  subst hp
  intro H locs ls h1 h2 h3 h4
  have hcz : (iI z).toNatClampNeg = z.toNat := iI_cl h0 (by omega)
  refine W.anew E.1 E.2.1 E.2.2.2.1 (E.2.2.2.2.1 _ hcl) (va_AO.use (E.2.2.2.2.2.1.2.2.2.2 "KeyRows$Code" (by decide))) rfl dd rfl (by rw [Int32.lt_iff_toInt_lt, iI_toInt ⟨by omega, by omega⟩]; simp; omega) (by rw [hcz]; omega) hcells (by rw [hcz]; exact hslots) fun cA kA comp f1 f2 f3 f4 => ?_
  obtain ⟨kA2, comp2, _, _, _, f5⟩ := (E.2.2.2.2.2.1.1.2 3 _ rfl).2
  have hcA : cA = K 3 := Option.some.inj (f1.symm.trans f5)
  subst hcA
  rw [hcz]
  generalize hH1 : H.push ({ cls := K 3, slots := Array.replicate z.toNat .null, vm := .none } : Cell) = H1
  have z1 : H1.size = H.size + 1 := by rw [← hH1, Array.size_push]
  have e1 : H1[H.size]? = some (arrV (K 3) z.toNat (fun _ => .null)) := by rw [← hH1, Array.getElem?_push_size, ← arrV_new]
  have o1 : ∀ q : Nat, q < H.size → H1[q]? = H[q]? := fun q hq => by rw [← hH1, Array.getElem?_push, if_neg (Nat.ne_of_lt hq)]
  refine k H.size (h1.fresh (Nat.le_refl _)) h3.1 H1 locs ls (h1.new ?_ o1) (hm_dom h2 (E.2.2.2.2.2.2.1 _ h3.1)) ⟨Nat.le_trans h3.1 (by omega), fun x g1 g2 => (o1 x (Nat.lt_of_lt_of_le g1 h3.1)).trans (h3.2.1 x g1 g2), h3.2.2⟩ h4
  show H1[H.size]? = some (vp_cell _ _)
  rw [vp_cell_q]
  exact e1
end HC
end
section
/-! ===== Int32 by its bits: bt x i ===== -/
def bt (x : Int32) (i : Nat) : Bool := x.toBitVec.getLsbD i
theorem b_ext {x y : Int32} (h : ∀ i, i < 32 → bt x i = bt y i) : x = y := Int32.toBitVec_inj.mp (BitVec.eq_of_getLsbD_eq (fun i hi => h i hi))
theorem b_or (x y : Int32) (i : Nat) : bt (x ||| y) i = (bt x i || bt y i) := by unfold bt; rw [Int32.toBitVec_or, BitVec.getLsbD_or]
theorem b_and (x y : Int32) (i : Nat) : bt (x &&& y) i = (bt x i && bt y i) := by unfold bt; rw [Int32.toBitVec_and, BitVec.getLsbD_and]
theorem b_xor (x y : Int32) (i : Nat) : bt (x ^^^ y) i = (bt x i ^^ bt y i) := by unfold bt; rw [Int32.toBitVec_xor, BitVec.getLsbD_xor]
theorem b_big {x : Int32} {i : Nat} (h : 32 ≤ i) : bt x i = false := BitVec.getLsbD_of_ge _ _ h
theorem b_m1 : ∀ i, i < 32 → bt (-1) i = true := by decide +kernel
theorem b_0 (i : Nat) : bt 0 i = false := BitVec.getLsbD_zero
theorem s_l : ∀ n, n < 32 → ((nI n &&& 31).toBitVec.smod 32).toNat = n := by decide +kernel
theorem s_u : ∀ n, n < 32 → (((nI n).toUInt32 &&& Int32.toUInt32 31).toBitVec % 32).toNat = n := by decide +kernel
theorem b_shl (n : Nat) (hn : n < 32) (x : Int32) {i : Nat} (hi : i < 32) : bt (x <<< (nI n &&& 31)) i = (decide (n ≤ i) && bt x (i - n)) := by
  unfold bt
  rw [Int32.toBitVec_shiftLeft]
  show (x.toBitVec <<< ((nI n &&& 31).toBitVec.smod 32).toNat).getLsbD i = _
  rw [s_l n hn, BitVec.getLsbD_shiftLeft]
  rcases Nat.lt_or_ge i n with h | h
  · simp [h, Nat.not_le.mpr h]
  · simp [hi, h, Nat.not_lt.mpr h]
theorem b_ushr (n : Nat) (hn : n < 32) (x : Int32) (i : Nat) : bt ((x.toUInt32 >>> ((nI n).toUInt32 &&& Int32.toUInt32 31)).toInt32) i = bt x (n + i) := by
  show (x.toUInt32 >>> ((nI n).toUInt32 &&& Int32.toUInt32 31)).toBitVec.getLsbD i = x.toUInt32.toBitVec.getLsbD (n + i)
  rw [UInt32.toBitVec_shiftRight]
  show (x.toUInt32.toBitVec >>> (((nI n).toUInt32 &&& Int32.toUInt32 31).toBitVec % 32).toNat).getLsbD i = _
  rw [s_u n hn, BitVec.getLsbD_ushiftRight]
theorem b_sshr (n : Nat) (hn : n < 32) (x : Int32) {i : Nat} (hi : i < 32) : bt (x >>> (nI n &&& 31)) i = if n + i < 32 then bt x (n + i) else bt x 31 := by
  unfold bt
  rw [Int32.toBitVec_shiftRight]
  show (x.toBitVec.sshiftRight ((nI n &&& 31).toBitVec.smod 32).toNat).getLsbD i = _
  rw [s_l n hn, BitVec.getLsbD_sshiftRight, BitVec.msb_eq_getLsbD_last]
  simp [hi]
/-! ints and bits -/
theorem iI_ofN {z : Int} (h : 0 ≤ z) : iI z = nI z.toNat := by rw [← iI_nI, Int.toNat_of_nonneg h]
theorem iI_shr {z : Int} (k : Nat) (hk : k < 32) (hz : iB z) : iI z >>> (iI (k : Int) &&& 31) = iI (z / 2 ^ k) := by
  have hp : (0 : Int) < 2 ^ k := Int.pow_pos (by omega)
  have h1 : (iI z >>> (iI (k : Int) &&& 31)).toInt = z / 2 ^ k := by
    rw [iI_nI, pk_shr (iI z) (nI k &&& 31) k (s_l k hk), iI_toInt hz, Int.shiftRight_eq_div_pow]
    simp
  apply Int32.toInt_inj.mp
  rw [h1]
  have hb : iB (z / 2 ^ k) := by
    have g1 : z / 2 ^ k * 2 ^ k ≤ z := Int.ediv_mul_le z (by omega)
    have g2 : z < (z / 2 ^ k + 1) * 2 ^ k := Int.lt_ediv_add_one_mul_self z hp
    have h1' : (1 : Int) ≤ 2 ^ k := by omega
    obtain ⟨a, b⟩ := hz
    constructor
    · rcases (show z / 2 ^ k < -2147483648 ∨ -2147483648 ≤ z / 2 ^ k by omega) with q | q
      · exfalso
        have : (z / 2 ^ k + 1) * 2 ^ k ≤ (z / 2 ^ k + 1) * 1 := Int.mul_le_mul_of_nonpos_left (by omega) h1'
        omega
      · exact q
    · rcases (show z / 2 ^ k < 2147483648 ∨ 2147483648 ≤ z / 2 ^ k by omega) with q | q
      · exact q
      · exfalso
        have : (z / 2 ^ k) * 1 ≤ (z / 2 ^ k) * 2 ^ k := Int.mul_le_mul_of_nonneg_left h1' (by omega)
        omega
  exact (iI_toInt hb).symm
theorem iI_bv (z : Int) : (iI z).toBitVec = BitVec.ofInt 32 z := rfl
theorem iI_shl (z : Int) (k : Nat) (hk : k < 32) : iI z <<< (iI (k : Int) &&& 31) = iI (z * 2 ^ k) := by
  apply Int32.toBitVec_inj.mp
  rw [Int32.toBitVec_shiftLeft, iI_nI]
  show (iI z).toBitVec <<< ((nI k &&& 31).toBitVec.smod 32).toNat = _
  rw [s_l k hk, iI_bv, iI_bv, BitVec.shiftLeft_eq_mul_twoPow, BitVec.ofInt_mul]
  congr 1
  apply BitVec.eq_of_toNat_eq
  rw [BitVec.toNat_twoPow, BitVec.toNat_ofInt]
  have : ((2 : Int) ^ k) = ((2 ^ k : Nat) : Int) := by push_cast; rfl
  rw [this]
  omega
theorem iI_and31 (z : Int) : iI z &&& iI 31 = iI (z % 32) := by
  rw [pk_and (iI z) 5 (by decide +kernel), iI_bv, BitVec.toNat_ofInt, ← iI_nI]
  congr 1
  omega
theorem bt_bit (x : Int32) (n : Nat) (hn : n < 32) : (x.toUInt32 >>> ((iI (n : Int)).toUInt32 &&& Int32.toUInt32 31)).toInt32 &&& iI 1 = bI (bt x n) := by
  apply b_ext
  intro i hi
  rw [b_and, iI_nI, b_ushr n hn]
  have h1 : ∀ i, i < 32 → bt (iI 1) i = decide (i = 0) := by decide +kernel
  rw [h1 i hi]
  by_cases h0 : i = 0
  · subst h0
    cases bt x n <;> decide +kernel
  · cases bt x n <;> simp [h0] <;> (have h2 : ∀ i, i < 32 → (bt (bI true) i = decide (i = 0) ∧ bt (bI false) i = false) := by decide +kernel) <;> simp [h2 i hi, h0]
/-- the k-th bit of a word of numbers -/
def mem (f : Nat → Int32) (v : Nat) : Bool := bt (f (v / 32)) (v % 32)
/-- how many of the n from a on are in S -/
def ct (S : Nat → Bool) (a : Nat) : Nat → Nat
  | 0 => 0
  | n + 1 => ct S a n + (if S (a + n) then 1 else 0)
theorem ct_le (S : Nat → Bool) (a n : Nat) : ct S a n ≤ n := by
  induction n with
  | zero => simp [ct]
  | succ n ih => simp only [ct]; split <;> omega
theorem ct_add (S : Nat → Bool) (a n k : Nat) : ct S a (n + k) = ct S a n + ct S (a + n) k := by
  induction k with
  | zero => simp [ct]
  | succ k ih => rw [← Nat.add_assoc]; simp only [ct]; rw [ih, Nat.add_assoc a n k]; omega
theorem ct_congr {S T : Nat → Bool} {a b n : Nat} (h : ∀ i, i < n → S (a + i) = T (b + i)) : ct S a n = ct T b n := by
  induction n with
  | zero => rfl
  | succ n ih => simp only [ct]; rw [ih (fun i hi => h i (by omega)), h n (by omega)]
/-- sum of f i times 2^(k i) -/
def fld (k : Nat) (f : Nat → Nat) : Nat → Nat
  | 0 => 0
  | n + 1 => f 0 + 2 ^ k * fld k (fun i => f (i + 1)) n
theorem and_split {k lo hi m M : Nat} (h1 : lo < 2 ^ k) (h2 : m < 2 ^ k) : (lo + 2 ^ k * hi) &&& (m + 2 ^ k * M) = (lo &&& m) + 2 ^ k * (hi &&& M) := by
  have h3 : lo &&& m < 2 ^ k := Nat.lt_of_le_of_lt Nat.and_le_left h1
  apply Nat.eq_of_testBit_eq
  intro i
  rw [Nat.testBit_and, Nat.add_comm lo, Nat.add_comm m, Nat.add_comm (lo &&& m), Nat.testBit_two_pow_mul_add _ h1, Nat.testBit_two_pow_mul_add _ h2, Nat.testBit_two_pow_mul_add _ h3]
  split <;> simp
theorem fld_and {k : Nat} {f g : Nat → Nat} (n : Nat) (hf : ∀ i, i < n → f i < 2 ^ k) (hg : ∀ i, i < n → g i < 2 ^ k) : fld k f n &&& fld k g n = fld k (fun i => f i &&& g i) n := by
  induction n generalizing f g with
  | zero => simp [fld]
  | succ n ih =>
    simp only [fld]
    rw [and_split (hf 0 (by omega)) (hg 0 (by omega)), ih (fun i hi => hf (i + 1) (by omega)) (fun i hi => hg (i + 1) (by omega))]
theorem fld_congr {k : Nat} {f g : Nat → Nat} (n : Nat) (h : ∀ i, i < n → f i = g i) : fld k f n = fld k g n := by
  induction n generalizing f g with
  | zero => rfl
  | succ n ih => simp only [fld]; rw [h 0 (by omega), ih (fun i hi => h (i + 1) (by omega))]
theorem fld_add {k : Nat} {f g : Nat → Nat} (n : Nat) : fld k f n + fld k g n = fld k (fun i => f i + g i) n := by
  induction n generalizing f g with
  | zero => rfl
  | succ n ih => simp only [fld]; rw [← ih, Nat.mul_add]; omega
theorem fld_two {k : Nat} {f : Nat → Nat} (n : Nat) : fld k f (2 * n) = fld (2 * k) (fun i => f (2 * i) + 2 ^ k * f (2 * i + 1)) n := by
  induction n generalizing f with
  | zero => rfl
  | succ n ih =>
    rw [show 2 * (n + 1) = 2 * n + 1 + 1 by omega]
    simp only [fld]
    rw [ih, show 2 * k = k + k by omega, Nat.pow_add, Nat.mul_add, ← Nat.mul_assoc, ← Nat.add_assoc]
    rfl
theorem fld_div {k : Nat} {f : Nat → Nat} (n : Nat) (hf : f 0 < 2 ^ k) : fld k f (n + 1) / 2 ^ k = fld k (fun i => f (i + 1)) n := by
  simp only [fld]
  rw [Nat.add_mul_div_left _ _ (Nat.two_pow_pos k), Nat.div_eq_of_lt hf, Nat.zero_add]
theorem fld_last {k : Nat} {f : Nat → Nat} (n : Nat) (h : f n = 0) : fld k f (n + 1) = fld k f n := by
  induction n generalizing f with
  | zero => simp [fld, h]
  | succ n ih =>
    have := ih (f := fun i => f (i + 1)) h
    simp only [fld] at this ⊢
    rw [this]
theorem fld_lt {k : Nat} {f : Nat → Nat} (n : Nat) (h : ∀ i, i < n → f i < 2 ^ k) : fld k f n < 2 ^ (k * n) := by
  induction n generalizing f with
  | zero => simp [fld]
  | succ n ih =>
    simp only [fld]
    have h0 := h 0 (by omega)
    have h1 := ih (f := fun i => f (i + 1)) (fun i hi => h (i + 1) (by omega))
    rw [Nat.mul_succ, Nat.add_comm (k * n), Nat.pow_add]
    have : 2 ^ k * (fld k (fun i => f (i + 1)) n + 1) ≤ 2 ^ k * 2 ^ (k * n) := Nat.mul_le_mul_left _ h1
    rw [Nat.mul_add] at this
    omega
theorem fld_one (n : Nat) (N : Nat) (h : N < 2 ^ n) : N = fld 1 (fun i => (N.testBit i).toNat) n := by
  induction n generalizing N with
  | zero => simp [fld]; omega
  | succ n ih =>
    simp only [fld]
    have h2 : N / 2 < 2 ^ n := by rw [Nat.pow_succ] at h; omega
    have h3 := ih (N / 2) h2
    have h4 : fld 1 (fun i => (N.testBit (i + 1)).toNat) n = fld 1 (fun i => ((N / 2).testBit i).toNat) n := fld_congr n (fun i _ => by rw [Nat.testBit_succ])
    rw [h4, ← h3, Nat.testBit_zero]
    by_cases h5 : N % 2 = 1
    · simp [h5]; omega
    · simp [h5]; omega
end
section
set_option maxHeartbeats 4000000 in
set_option maxRecDepth 100000 in
theorem c6_isSet (l : Launch) (D : va_G) (K : Nat → ClassId) {w : hm_M} (z : Int) (hz : iB z)  : hm_Ci l D K yX6_isSet cX6_isSet 1 .boolean 0 [.int (iI (z))] w 0 0 (fun r w2 => r = bI (decide (0 ≤ z ∧ z < 8)) ∧ w2 = w) := by
  refine hm_enterI (by decide) (Nat.le_of_ble_eq_true rfl) ?_
  intro p e s m args below meth c E hr hnm
  show hm_V p l e (hm_rm 0 0 0) s m args below meth c D (hm_A w s.heap.size) 1 0 0 (MQ below (hm_Qi D w s.heap.size (fun r w2 => r = bI (decide (0 ≤ z ∧ z < 8)) ∧ w2 = w)) args s 0 0 (hm_A w s.heap.size)) w 0 [(0, .int (iI (z)))] []
  refine hv_iload_n E dX6_isSet_0 rfl 0 rfl rfl ?_
  refine hv_if_lt E 14 dX6_isSet_1 (by decide) hz rfl (fun c1 => ?_) (fun c1 => ?_)
  · refine hv_iconst E dX6_isSet_14 rfl ?_
    refine hv_topi (show iI (0) = bI (false) from rfl) ?_
    exact hv_zret E dX6_isSet_15 hr ⟨by rw [bI_eq]; symm; simp only [decide_eq_false_iff_not]; omega, rfl⟩
  · refine hv_iload_n E dX6_isSet_4 rfl 0 rfl rfl ?_
    refine hv_bipush E dX6_isSet_5 (by decide +kernel) rfl ?_
    refine hv_icmp_ge E 14 dX6_isSet_7 (by decide) hz ⟨by omega, by omega⟩ rfl (fun c2 => ?_) (fun c2 => ?_)
    · refine hv_iconst E dX6_isSet_14 rfl ?_
      refine hv_topi (show iI (0) = bI (false) from rfl) ?_
      exact hv_zret E dX6_isSet_15 hr ⟨by rw [bI_eq]; symm; simp only [decide_eq_false_iff_not]; omega, rfl⟩
    · refine hv_iconst E dX6_isSet_10 rfl ?_
      refine hv_goto E 15 dX6_isSet_11 (by decide) ?_
      refine hv_topi (show iI (1) = bI (true) from rfl) ?_
      exact hv_zret E dX6_isSet_15 hr ⟨by rw [bI_eq]; symm; simp only [decide_eq_true_eq]; omega, rfl⟩
set_option maxHeartbeats 4000000 in
set_option maxRecDepth 100000 in
theorem c6_isNumber (l : Launch) (D : va_G) (K : Nat → ClassId) {w : hm_M} (z : Int) (hz : iB z)  : hm_Ci l D K yX6_isNumber cX6_isNumber 1 .boolean 0 [.int (iI (z))] w 0 0 (fun r w2 => r = bI (decide (0 ≤ z ∧ z < 4096)) ∧ w2 = w) := by
  refine hm_enterI (by decide) (Nat.le_of_ble_eq_true rfl) ?_
  intro p e s m args below meth c E hr hnm
  show hm_V p l e (hm_rm 0 0 0) s m args below meth c D (hm_A w s.heap.size) 1 0 0 (MQ below (hm_Qi D w s.heap.size (fun r w2 => r = bI (decide (0 ≤ z ∧ z < 4096)) ∧ w2 = w)) args s 0 0 (hm_A w s.heap.size)) w 0 [(0, .int (iI (z)))] []
  refine hv_iload_n E dX6_isNumber_0 rfl 0 rfl rfl ?_
  refine hv_if_lt E 15 dX6_isNumber_1 (by decide) hz rfl (fun c1 => ?_) (fun c1 => ?_)
  · refine hv_iconst E dX6_isNumber_15 rfl ?_
    refine hv_topi (show iI (0) = bI (false) from rfl) ?_
    exact hv_zret E dX6_isNumber_16 hr ⟨by rw [bI_eq]; symm; simp only [decide_eq_false_iff_not]; omega, rfl⟩
  · refine hv_iload_n E dX6_isNumber_4 rfl 0 rfl rfl ?_
    refine hv_sipush E dX6_isNumber_5 (by decide +kernel) rfl ?_
    refine hv_icmp_ge E 15 dX6_isNumber_8 (by decide) hz ⟨by omega, by omega⟩ rfl (fun c2 => ?_) (fun c2 => ?_)
    · refine hv_iconst E dX6_isNumber_15 rfl ?_
      refine hv_topi (show iI (0) = bI (false) from rfl) ?_
      exact hv_zret E dX6_isNumber_16 hr ⟨by rw [bI_eq]; symm; simp only [decide_eq_false_iff_not]; omega, rfl⟩
    · refine hv_iconst E dX6_isNumber_11 rfl ?_
      refine hv_goto E 16 dX6_isNumber_12 (by decide) ?_
      refine hv_topi (show iI (1) = bI (true) from rfl) ?_
      exact hv_zret E dX6_isNumber_16 hr ⟨by rw [bI_eq]; symm; simp only [decide_eq_true_eq]; omega, rfl⟩
set_option maxHeartbeats 4000000 in
set_option maxRecDepth 100000 in
theorem c6_isBorder (l : Launch) (D : va_G) (K : Nat → ClassId) {w : hm_M} (z : Int) (hz : iB z)  : hm_Ci l D K yX6_isBorder cX6_isBorder 1 .boolean 0 [.int (iI (z))] w 0 0 (fun r w2 => r = bI (decide (0 ≤ z ∧ z ≤ 4096)) ∧ w2 = w) := by
  refine hm_enterI (by decide) (Nat.le_of_ble_eq_true rfl) ?_
  intro p e s m args below meth c E hr hnm
  show hm_V p l e (hm_rm 0 0 0) s m args below meth c D (hm_A w s.heap.size) 1 0 0 (MQ below (hm_Qi D w s.heap.size (fun r w2 => r = bI (decide (0 ≤ z ∧ z ≤ 4096)) ∧ w2 = w)) args s 0 0 (hm_A w s.heap.size)) w 0 [(0, .int (iI (z)))] []
  refine hv_iload_n E dX6_isBorder_0 rfl 0 rfl rfl ?_
  refine hv_if_lt E 15 dX6_isBorder_1 (by decide) hz rfl (fun c1 => ?_) (fun c1 => ?_)
  · refine hv_iconst E dX6_isBorder_15 rfl ?_
    refine hv_topi (show iI (0) = bI (false) from rfl) ?_
    exact hv_zret E dX6_isBorder_16 hr ⟨by rw [bI_eq]; symm; simp only [decide_eq_false_iff_not]; omega, rfl⟩
  · refine hv_iload_n E dX6_isBorder_4 rfl 0 rfl rfl ?_
    refine hv_sipush E dX6_isBorder_5 (by decide +kernel) rfl ?_
    refine hv_icmp_gt E 15 dX6_isBorder_8 (by decide) hz ⟨by omega, by omega⟩ rfl (fun c2 => ?_) (fun c2 => ?_)
    · refine hv_iconst E dX6_isBorder_15 rfl ?_
      refine hv_topi (show iI (0) = bI (false) from rfl) ?_
      exact hv_zret E dX6_isBorder_16 hr ⟨by rw [bI_eq]; symm; simp only [decide_eq_false_iff_not]; omega, rfl⟩
    · refine hv_iconst E dX6_isBorder_11 rfl ?_
      refine hv_goto E 16 dX6_isBorder_12 (by decide) ?_
      refine hv_topi (show iI (1) = bI (true) from rfl) ?_
      exact hv_zret E dX6_isBorder_16 hr ⟨by rw [bI_eq]; symm; simp only [decide_eq_true_eq]; omega, rfl⟩
set_option maxHeartbeats 4000000 in
set_option maxRecDepth 100000 in
theorem c6_isKind (l : Launch) (D : va_G) (K : Nat → ClassId) {w : hm_M} (z : Int) (hz : iB z)  : hm_Ci l D K yX6_isKind cX6_isKind 1 .boolean 0 [.int (iI (z))] w 0 0 (fun r w2 => r = bI (decide (0 ≤ z ∧ z < 3)) ∧ w2 = w) := by
  refine hm_enterI (by decide) (Nat.le_of_ble_eq_true rfl) ?_
  intro p e s m args below meth c E hr hnm
  show hm_V p l e (hm_rm 0 0 0) s m args below meth c D (hm_A w s.heap.size) 1 0 0 (MQ below (hm_Qi D w s.heap.size (fun r w2 => r = bI (decide (0 ≤ z ∧ z < 3)) ∧ w2 = w)) args s 0 0 (hm_A w s.heap.size)) w 0 [(0, .int (iI (z)))] []
  refine hv_iload_n E dX6_isKind_0 rfl 0 rfl rfl ?_
  refine hv_if_lt E 13 dX6_isKind_1 (by decide) hz rfl (fun c1 => ?_) (fun c1 => ?_)
  · refine hv_iconst E dX6_isKind_13 rfl ?_
    refine hv_topi (show iI (0) = bI (false) from rfl) ?_
    exact hv_zret E dX6_isKind_14 hr ⟨by rw [bI_eq]; symm; simp only [decide_eq_false_iff_not]; omega, rfl⟩
  · refine hv_iload_n E dX6_isKind_4 rfl 0 rfl rfl ?_
    refine hv_iconst E dX6_isKind_5 rfl ?_
    refine hv_icmp_ge E 13 dX6_isKind_6 (by decide) hz ⟨by omega, by omega⟩ rfl (fun c2 => ?_) (fun c2 => ?_)
    · refine hv_iconst E dX6_isKind_13 rfl ?_
      refine hv_topi (show iI (0) = bI (false) from rfl) ?_
      exact hv_zret E dX6_isKind_14 hr ⟨by rw [bI_eq]; symm; simp only [decide_eq_false_iff_not]; omega, rfl⟩
    · refine hv_iconst E dX6_isKind_9 rfl ?_
      refine hv_goto E 14 dX6_isKind_10 (by decide) ?_
      refine hv_topi (show iI (1) = bI (true) from rfl) ?_
      exact hv_zret E dX6_isKind_14 hr ⟨by rw [bI_eq]; symm; simp only [decide_eq_true_eq]; omega, rfl⟩
set_option maxHeartbeats 4000000 in
set_option maxRecDepth 100000 in
theorem c6_isSpan (l : Launch) (D : va_G) (K : Nat → ClassId) {w : hm_M} (x y : Int) (hx : iB x) (hy : iB y)  : hm_Ci l D K yX6_isSpan cX6_isSpan 2 .boolean 0 [.int (iI (x)), .int (iI (y))] w 0 0 (fun r w2 => r = bI (decide (0 ≤ x ∧ x ≤ y ∧ y < 4096)) ∧ w2 = w) := by
  refine hm_enterI (by decide) (Nat.le_of_ble_eq_true rfl) ?_
  intro p e s m args below meth c E hr hnm
  show hm_V p l e (hm_rm 0 0 0) s m args below meth c D (hm_A w s.heap.size) 2 0 0 (MQ below (hm_Qi D w s.heap.size (fun r w2 => r = bI (decide (0 ≤ x ∧ x ≤ y ∧ y < 4096)) ∧ w2 = w)) args s 0 0 (hm_A w s.heap.size)) w 0 [(0, .int (iI (x))), (1, .int (iI (y)))] []
  refine hv_iload_n E dX6_isSpan_0 rfl 0 rfl rfl ?_
  refine hv_if_lt E 20 dX6_isSpan_1 (by decide) hx rfl (fun c1 => ?_) (fun c1 => ?_)
  · refine hv_iconst E dX6_isSpan_20 rfl ?_
    refine hv_topi (show iI (0) = bI (false) from rfl) ?_
    exact hv_zret E dX6_isSpan_21 hr ⟨by rw [bI_eq]; symm; simp only [decide_eq_false_iff_not]; omega, rfl⟩
  · refine hv_iload_n E dX6_isSpan_4 rfl 0 rfl rfl ?_
    refine hv_iload_n E dX6_isSpan_5 rfl 1 rfl rfl ?_
    refine hv_icmp_gt E 20 dX6_isSpan_6 (by decide) hx hy rfl (fun c2 => ?_) (fun c2 => ?_)
    · refine hv_iconst E dX6_isSpan_20 rfl ?_
      refine hv_topi (show iI (0) = bI (false) from rfl) ?_
      exact hv_zret E dX6_isSpan_21 hr ⟨by rw [bI_eq]; symm; simp only [decide_eq_false_iff_not]; omega, rfl⟩
    · refine hv_iload_n E dX6_isSpan_9 rfl 1 rfl rfl ?_
      refine hv_sipush E dX6_isSpan_10 (by decide +kernel) rfl ?_
      refine hv_icmp_ge E 20 dX6_isSpan_13 (by decide) hy ⟨by omega, by omega⟩ rfl (fun c3 => ?_) (fun c3 => ?_)
      · refine hv_iconst E dX6_isSpan_20 rfl ?_
        refine hv_topi (show iI (0) = bI (false) from rfl) ?_
        exact hv_zret E dX6_isSpan_21 hr ⟨by rw [bI_eq]; symm; simp only [decide_eq_false_iff_not]; omega, rfl⟩
      · refine hv_iconst E dX6_isSpan_16 rfl ?_
        refine hv_goto E 21 dX6_isSpan_17 (by decide) ?_
        refine hv_topi (show iI (1) = bI (true) from rfl) ?_
        exact hv_zret E dX6_isSpan_21 hr ⟨by rw [bI_eq]; symm; simp only [decide_eq_true_eq]; omega, rfl⟩
set_option maxHeartbeats 4000000 in
set_option maxRecDepth 100000 in
theorem c7_within (l : Launch) (D : va_G) (K : Nat → ClassId) {w : hm_M} (x y z : Int) (hx : iB x) (hy : iB y) (hz : iB z)  : hm_Ci l D K yX7_within cX7_within 3 .boolean 0 [.int (iI (x)), .int (iI (y)), .int (iI (z))] w 0 0 (fun r w2 => r = bI (decide (y ≤ x ∧ x ≤ z)) ∧ w2 = w) := by
  refine hm_enterI (by decide) (Nat.le_of_ble_eq_true rfl) ?_
  intro p e s m args below meth c E hr hnm
  show hm_V p l e (hm_rm 0 0 0) s m args below meth c D (hm_A w s.heap.size) 3 0 0 (MQ below (hm_Qi D w s.heap.size (fun r w2 => r = bI (decide (y ≤ x ∧ x ≤ z)) ∧ w2 = w)) args s 0 0 (hm_A w s.heap.size)) w 0 [(0, .int (iI (x))), (1, .int (iI (y))), (2, .int (iI (z)))] []
  refine hv_iload_n E dX7_within_0 rfl 0 rfl rfl ?_
  refine hv_iload_n E dX7_within_1 rfl 1 rfl rfl ?_
  refine hv_icmp_lt E 14 dX7_within_2 (by decide) hx hy rfl (fun c1 => ?_) (fun c1 => ?_)
  · refine hv_iconst E dX7_within_14 rfl ?_
    refine hv_topi (show iI (0) = bI (false) from rfl) ?_
    exact hv_zret E dX7_within_15 hr ⟨by rw [bI_eq]; symm; simp only [decide_eq_false_iff_not]; omega, rfl⟩
  · refine hv_iload_n E dX7_within_5 rfl 0 rfl rfl ?_
    refine hv_iload_n E dX7_within_6 rfl 2 rfl rfl ?_
    refine hv_icmp_gt E 14 dX7_within_7 (by decide) hx hz rfl (fun c2 => ?_) (fun c2 => ?_)
    · refine hv_iconst E dX7_within_14 rfl ?_
      refine hv_topi (show iI (0) = bI (false) from rfl) ?_
      exact hv_zret E dX7_within_15 hr ⟨by rw [bI_eq]; symm; simp only [decide_eq_false_iff_not]; omega, rfl⟩
    · refine hv_iconst E dX7_within_10 rfl ?_
      refine hv_goto E 15 dX7_within_11 (by decide) ?_
      refine hv_topi (show iI (1) = bI (true) from rfl) ?_
      exact hv_zret E dX7_within_15 hr ⟨by rw [bI_eq]; symm; simp only [decide_eq_true_eq]; omega, rfl⟩
set_option maxHeartbeats 4000000 in
set_option maxRecDepth 100000 in
theorem c7_isSet (l : Launch) (D : va_G) (K : Nat → ClassId) {w : hm_M} (z : Int) (hz : iB z)  : hm_Ci l D K yX7_isSet cX7_isSet 1 .boolean 1 [.int (iI (z))] w 0 0 (fun r w2 => r = bI (decide (0 ≤ z ∧ z ≤ 7)) ∧ w2 = w) := by
  refine hm_enterI (by decide) (Nat.le_of_ble_eq_true rfl) ?_
  intro p e s m args below meth c E hr hnm
  show hm_V p l e (hm_rm 1 0 0) s m args below meth c D (hm_A w s.heap.size) 1 0 0 (MQ below (hm_Qi D w s.heap.size (fun r w2 => r = bI (decide (0 ≤ z ∧ z ≤ 7)) ∧ w2 = w)) args s 0 0 (hm_A w s.heap.size)) w 0 [(0, .int (iI (z)))] []
  refine hv_iload_n E dX7_isSet_0 rfl 0 rfl rfl ?_
  refine hv_iconst E dX7_isSet_1 rfl ?_
  refine hv_bipush E dX7_isSet_2 (by decide +kernel) rfl ?_
  refine hv_callSI (na := 3) (As := [.int (iI (z)), .int (iI (0)), .int (iI (7))]) (st := []) E (c7_within l D K z 0 7 hz ⟨by omega, by omega⟩ ⟨by omega, by omega⟩) dX7_isSet_4 gL_X7_17 gS_X7_within gC_X7_within gZ_X7 (by decide +kernel) rfl ⟨Nat.le_of_ble_eq_true rfl, Nat.le_of_ble_eq_true rfl⟩ (Nat.le_of_ble_eq_true rfl) ⟨Nat.zero_le _, Nat.zero_le _⟩ rfl rfl (fun r w2 hp => ?_)
  rw [hp.1, hp.2]
  show hm_V p l e (hm_rm 1 0 0) s m args below meth c D (hm_A w s.heap.size) 1 0 0 (MQ below (hm_Qi D w s.heap.size (fun r w2 => r = bI (decide (0 ≤ z ∧ z ≤ 7)) ∧ w2 = w)) args s 0 0 (hm_A w s.heap.size)) w 7 [(0, .int (iI (z)))] [.int (bI (decide (0 ≤ z ∧ z ≤ 7)))]
  exact hv_zret E dX7_isSet_7 hr ⟨rfl, rfl⟩
set_option maxHeartbeats 4000000 in
set_option maxRecDepth 100000 in
theorem c7_isNumber (l : Launch) (D : va_G) (K : Nat → ClassId) {w : hm_M} (z : Int) (hz : iB z)  : hm_Ci l D K yX7_isNumber cX7_isNumber 1 .boolean 1 [.int (iI (z))] w 0 0 (fun r w2 => r = bI (decide (0 ≤ z ∧ z ≤ 4095)) ∧ w2 = w) := by
  refine hm_enterI (by decide) (Nat.le_of_ble_eq_true rfl) ?_
  intro p e s m args below meth c E hr hnm
  show hm_V p l e (hm_rm 1 0 0) s m args below meth c D (hm_A w s.heap.size) 1 0 0 (MQ below (hm_Qi D w s.heap.size (fun r w2 => r = bI (decide (0 ≤ z ∧ z ≤ 4095)) ∧ w2 = w)) args s 0 0 (hm_A w s.heap.size)) w 0 [(0, .int (iI (z)))] []
  refine hv_iload_n E dX7_isNumber_0 rfl 0 rfl rfl ?_
  refine hv_iconst E dX7_isNumber_1 rfl ?_
  refine hv_sipush E dX7_isNumber_2 (by decide +kernel) rfl ?_
  refine hv_callSI (na := 3) (As := [.int (iI (z)), .int (iI (0)), .int (iI (4095))]) (st := []) E (c7_within l D K z 0 4095 hz ⟨by omega, by omega⟩ ⟨by omega, by omega⟩) dX7_isNumber_5 gL_X7_17 gS_X7_within gC_X7_within gZ_X7 (by decide +kernel) rfl ⟨Nat.le_of_ble_eq_true rfl, Nat.le_of_ble_eq_true rfl⟩ (Nat.le_of_ble_eq_true rfl) ⟨Nat.zero_le _, Nat.zero_le _⟩ rfl rfl (fun r w2 hp => ?_)
  rw [hp.1, hp.2]
  show hm_V p l e (hm_rm 1 0 0) s m args below meth c D (hm_A w s.heap.size) 1 0 0 (MQ below (hm_Qi D w s.heap.size (fun r w2 => r = bI (decide (0 ≤ z ∧ z ≤ 4095)) ∧ w2 = w)) args s 0 0 (hm_A w s.heap.size)) w 8 [(0, .int (iI (z)))] [.int (bI (decide (0 ≤ z ∧ z ≤ 4095)))]
  exact hv_zret E dX7_isNumber_8 hr ⟨rfl, rfl⟩
end
section
def bc1 (x : Int32) : Int32 := x - ((x.toUInt32 >>> ((iI (1)).toUInt32 &&& Int32.toUInt32 31)).toInt32 &&& (1431655765 : Int32))
def bc2 (x : Int32) : Int32 := (x &&& (858993459 : Int32)) + ((x.toUInt32 >>> ((iI (2)).toUInt32 &&& Int32.toUInt32 31)).toInt32 &&& (858993459 : Int32))
def bc3 (x : Int32) : Int32 := (x + (x.toUInt32 >>> ((iI (4)).toUInt32 &&& Int32.toUInt32 31)).toInt32) &&& (252645135 : Int32)
def bc4 (x : Int32) : Int32 := x + (x.toUInt32 >>> ((iI (8)).toUInt32 &&& Int32.toUInt32 31)).toInt32
def bc5 (x : Int32) : Int32 := x + (x.toUInt32 >>> ((iI (16)).toUInt32 &&& Int32.toUInt32 31)).toInt32
def tN (x : Int32) : Nat := x.toBitVec.toNat
theorem tN_lt (x : Int32) : tN x < 4294967296 := x.toBitVec.isLt
theorem tN_sh (x : Int32) (k : Nat) (z : Int) (hz : z = (k : Int)) (hk : k < 32) : tN (x.toUInt32 >>> ((iI z).toUInt32 &&& Int32.toUInt32 31)).toInt32 = tN x / 2 ^ k := by
  rw [hz, iI_nI]
  exact pk_ushr x (nI k) k (s_u k hk)
theorem tN_and (x y : Int32) : tN (x &&& y) = tN x &&& tN y := by unfold tN; rw [Int32.toBitVec_and, BitVec.toNat_and]
theorem tN_add (x y : Int32) (h : tN x + tN y < 4294967296) : tN (x + y) = tN x + tN y := by
  unfold tN at *; rw [Int32.toBitVec_add, BitVec.toNat_add]; exact Nat.mod_eq_of_lt h
theorem tN_sub (x y : Int32) (h : tN y ≤ tN x) : tN (x - y) = tN x - tN y := by
  have := tN_lt x
  unfold tN at *; rw [Int32.toBitVec_sub, BitVec.toNat_sub]; omega
theorem and3 (a c : Nat) (h : a < 4) : (a + 2 ^ 2 * c) &&& 3 = a := by
  rw [show (3 : Nat) = 2 ^ 2 - 1 from rfl, Nat.and_two_pow_sub_one_eq_mod]; omega
theorem and1 (a c : Nat) (h : a < 2) : (a + 2 ^ 1 * c) &&& 1 = a := by
  rw [show (1 : Nat) = 2 ^ 1 - 1 from rfl, Nat.and_two_pow_sub_one_eq_mod]; omega
theorem and15 (a c : Nat) (h : a < 16) : (a + 2 ^ 4 * c) &&& 15 = a := by
  rw [show (15 : Nat) = 2 ^ 4 - 1 from rfl, Nat.and_two_pow_sub_one_eq_mod]; omega
theorem bc1_ok (x : Int32) (b : Nat → Nat) (hb : ∀ i, b i < 2) (h32 : b 32 = 0) (hx : tN x = fld 1 b 32) : tN (bc1 x) = fld 2 (fun i => b (2 * i) + b (2 * i + 1)) 16 := by
  have e1 : tN x = fld 2 (fun i => b (2 * i) + 2 ^ 1 * b (2 * i + 1)) 16 := by rw [hx]; exact fld_two 16
  have e2 : tN x / 2 ^ 1 = fld 2 (fun i => b (2 * i + 1) + 2 ^ 1 * b (2 * i + 1 + 1)) 16 := by
    rw [hx, fld_div 31 (hb 0), ← fld_last (f := fun i => b (i + 1)) 31 h32]; exact fld_two (f := fun i => b (i + 1)) 16
  have e3 : tN ((x.toUInt32 >>> ((iI (1)).toUInt32 &&& Int32.toUInt32 31)).toInt32 &&& (1431655765 : Int32)) = fld 2 (fun i => b (2 * i + 1)) 16 := by
    rw [tN_and, tN_sh x 1 1 rfl (by omega), e2, show tN (1431655765 : Int32) = fld 2 (fun _ => 1) 16 by decide +kernel, fld_and 16 (fun i _ => by have := hb (2 * i + 1); have := hb (2 * i + 1 + 1); omega) (fun i _ => by omega)]
    exact fld_congr 16 (fun i _ => and1 _ _ (hb _))
  have e4 : fld 2 (fun i => b (2 * i) + b (2 * i + 1)) 16 + fld 2 (fun i => b (2 * i + 1)) 16 = tN x := by
    rw [e1, fld_add]; exact fld_congr 16 (fun i _ => by omega)
  unfold bc1
  rw [tN_sub _ _ (by rw [e3]; omega), e3]
  omega
theorem bc2_ok (x : Int32) (c : Nat → Nat) (hc : ∀ i, c i ≤ 2) (h16 : c 16 = 0) (hx : tN x = fld 2 c 16) : tN (bc2 x) = fld 4 (fun i => c (2 * i) + c (2 * i + 1)) 8 := by
  have hc3 : ∀ i, c i < 4 := fun i => by have := hc i; omega
  have e1 : tN x = fld 4 (fun i => c (2 * i) + 2 ^ 2 * c (2 * i + 1)) 8 := by rw [hx]; exact fld_two 8
  have e2 : tN x / 2 ^ 2 = fld 4 (fun i => c (2 * i + 1) + 2 ^ 2 * c (2 * i + 1 + 1)) 8 := by
    rw [hx, fld_div 15 (hc3 0), ← fld_last (f := fun i => c (i + 1)) 15 h16]; exact fld_two (f := fun i => c (i + 1)) 8
  have hm : tN (858993459 : Int32) = fld 4 (fun _ => 3) 8 := by decide +kernel
  have e3 : tN (x &&& (858993459 : Int32)) = fld 4 (fun i => c (2 * i)) 8 := by
    rw [tN_and, e1, hm, fld_and 8 (fun i _ => by have := hc (2 * i); have := hc (2 * i + 1); omega) (fun i _ => by omega)]
    exact fld_congr 8 (fun i _ => and3 _ _ (hc3 _))
  have e4 : tN ((x.toUInt32 >>> ((iI (2)).toUInt32 &&& Int32.toUInt32 31)).toInt32 &&& (858993459 : Int32)) = fld 4 (fun i => c (2 * i + 1)) 8 := by
    rw [tN_and, tN_sh x 2 2 rfl (by omega), e2, hm, fld_and 8 (fun i _ => by have := hc (2 * i + 1); have := hc (2 * i + 1 + 1); omega) (fun i _ => by omega)]
    exact fld_congr 8 (fun i _ => and3 _ _ (hc3 _))
  have e5 := fld_lt (k := 4) (f := fun i => c (2 * i) + c (2 * i + 1)) 8 (fun i _ => by have := hc (2 * i); have := hc (2 * i + 1); omega)
  unfold bc2
  rw [tN_add _ _ (by rw [e3, e4, fld_add]; exact e5), e3, e4, fld_add]
theorem bc3_ok (x : Int32) (d : Nat → Nat) (hd : ∀ i, d i ≤ 4) (h8 : d 8 = 0) (hx : tN x = fld 4 d 8) : tN (bc3 x) = fld 8 (fun i => d (2 * i) + d (2 * i + 1)) 4 := by
  have hd3 : ∀ i, d i < 16 := fun i => by have := hd i; omega
  have e2 : tN (x.toUInt32 >>> ((iI (4)).toUInt32 &&& Int32.toUInt32 31)).toInt32 = fld 4 (fun i => d (i + 1)) 8 := by
    rw [tN_sh x 4 4 rfl (by omega), hx, fld_div 7 (hd3 0), ← fld_last (f := fun i => d (i + 1)) 7 h8]
  have e5 := fld_lt (k := 4) (f := fun i => d i + d (i + 1)) 8 (fun i _ => by have := hd i; have := hd (i + 1); omega)
  have e3 : tN (x + (x.toUInt32 >>> ((iI (4)).toUInt32 &&& Int32.toUInt32 31)).toInt32) = fld 8 (fun i => (d (2 * i) + d (2 * i + 1)) + 2 ^ 4 * (d (2 * i + 1) + d (2 * i + 1 + 1))) 4 := by
    rw [tN_add _ _ (by rw [e2, hx, fld_add]; exact e5), e2, hx, fld_add]; exact fld_two (f := fun i => d i + d (i + 1)) 4
  unfold bc3
  rw [tN_and, e3, show tN (252645135 : Int32) = fld 8 (fun _ => 15) 4 by decide +kernel, fld_and 4 (fun i _ => by have := hd (2 * i); have := hd (2 * i + 1); have := hd (2 * i + 1 + 1); omega) (fun i _ => by omega)]
  exact fld_congr 4 (fun i _ => and15 _ _ (by have := hd (2 * i); have := hd (2 * i + 1); omega))
theorem bc45_ok (x : Int32) (g : Nat → Nat) (hg : ∀ i, g i ≤ 8) (hx : tN x = fld 8 g 4) : tN (bc5 (bc4 x) &&& iI 63) = g 0 + g 1 + g 2 + g 3 := by
  have h0 := hg 0; have h1 := hg 1; have h2 := hg 2; have h3 := hg 3
  have hx : tN x = g 0 + 256 * (g 1 + 256 * (g 2 + 256 * (g 3 + 256 * 0))) := hx
  have e4 : tN (bc4 x) = tN x + tN x / 2 ^ 8 := by
    unfold bc4
    rw [tN_add _ _ (by rw [tN_sh x 8 8 rfl (by omega)]; omega), tN_sh x 8 8 rfl (by omega)]
  have e5 : tN (bc5 (bc4 x)) = tN (bc4 x) + tN (bc4 x) / 2 ^ 16 := by
    unfold bc5
    rw [tN_add _ _ (by rw [tN_sh _ 16 16 rfl (by omega)]; omega), tN_sh _ 16 16 rfl (by omega)]
  rw [tN_and, show tN (iI 63) = 2 ^ 6 - 1 by decide +kernel, Nat.and_two_pow_sub_one_eq_mod, e5, e4]
  have d1 : tN x / 2 ^ 8 = g 1 + 256 * g 2 + 65536 * g 3 := by omega
  rw [d1]
  have d2 : (tN x + (g 1 + 256 * g 2 + 65536 * g 3)) / 2 ^ 16 = g 2 + g 3 + 256 * g 3 := by omega
  rw [d2, hx]
  omega
theorem bc_ok (x : Int32) : bc5 (bc4 (bc3 (bc2 (bc1 x)))) &&& iI 63 = iI ((ct (bt x) 0 32 : Nat) : Int) := by
  generalize hb : (fun i => (bt x i).toNat) = b
  have b2 : ∀ i, b i < 2 := fun i => by rw [← hb]; show (bt x i).toNat < 2; cases bt x i <;> decide
  have b32 : b 32 = 0 := by rw [← hb]; show (bt x 32).toNat = 0; rw [b_big (by omega)]; rfl
  have hx : tN x = fld 1 b 32 := by rw [← hb]; exact fld_one 32 (tN x) (tN_lt x)
  have e1 := bc1_ok x b b2 b32 hx
  have e2 := bc2_ok (bc1 x) _ (fun i => by have := b2 (2 * i); have := b2 (2 * i + 1); show b (2 * i) + b (2 * i + 1) ≤ 2; omega) (by show b 32 + b 33 = 0; rw [b32, ← hb]; show 0 + (bt x 33).toNat = 0; rw [b_big (by omega)]; rfl) e1
  have hz : ∀ i, 32 ≤ i → b i = 0 := fun i hi => by rw [← hb]; show (bt x i).toNat = 0; rw [b_big hi]; rfl
  have e3 := bc3_ok (bc2 (bc1 x)) _ (fun i => by
    have h1 := b2 (2 * (2 * i)); have h2 := b2 (2 * (2 * i) + 1); have h3 := b2 (2 * (2 * i + 1)); have h4 := b2 (2 * (2 * i + 1) + 1)
    show (b (2 * (2 * i)) + b (2 * (2 * i) + 1)) + (b (2 * (2 * i + 1)) + b (2 * (2 * i + 1) + 1)) ≤ 4; omega) (by
    show (b 32 + b 33) + (b 34 + b 35) = 0; rw [hz 32 (by omega), hz 33 (by omega), hz 34 (by omega), hz 35 (by omega)]) e2
  have e4 := bc45_ok (bc3 (bc2 (bc1 x))) _ (fun i => by
    have q : ∀ j, b j ≤ 1 := fun j => by have := b2 j; omega
    show ((b (2 * (2 * (2 * i))) + b (2 * (2 * (2 * i)) + 1)) + (b (2 * (2 * (2 * i) + 1)) + b (2 * (2 * (2 * i) + 1) + 1))) + ((b (2 * (2 * (2 * i + 1))) + b (2 * (2 * (2 * i + 1)) + 1)) + (b (2 * (2 * (2 * i + 1) + 1)) + b (2 * (2 * (2 * i + 1) + 1) + 1))) ≤ 8
    have := q (2 * (2 * (2 * i))); have := q (2 * (2 * (2 * i)) + 1); have := q (2 * (2 * (2 * i) + 1)); have := q (2 * (2 * (2 * i) + 1) + 1); have := q (2 * (2 * (2 * i + 1))); have := q (2 * (2 * (2 * i + 1)) + 1); have := q (2 * (2 * (2 * i + 1) + 1)); have := q (2 * (2 * (2 * i + 1) + 1) + 1)
    omega) e3
  have e5 : ct (bt x) 0 32 = b 0 + b 1 + b 2 + b 3 + b 4 + b 5 + b 6 + b 7 + b 8 + b 9 + b 10 + b 11 + b 12 + b 13 + b 14 + b 15 + b 16 + b 17 + b 18 + b 19 + b 20 + b 21 + b 22 + b 23 + b 24 + b 25 + b 26 + b 27 + b 28 + b 29 + b 30 + b 31 := by
    have q : ∀ j, (if bt x (0 + j) = true then 1 else 0) = b j := fun j => by rw [← hb]; show _ = (bt x j).toNat; rw [Nat.zero_add]; cases bt x j <;> rfl
    simp only [ct, q]
    omega
  rw [iI_nI]
  apply Int32.toBitVec_inj.mp
  apply BitVec.eq_of_toNat_eq
  have e6 := ct_le (bt x) 0 32
  have e7 : (nI (ct (bt x) 0 32)).toBitVec.toNat = ct (bt x) 0 32 := pk_tn (by omega)
  rw [e7, e5]
  show tN _ = _
  rw [e4]
  show ((b 0 + b 1) + (b 2 + b 3)) + ((b 4 + b 5) + (b 6 + b 7)) + (((b 8 + b 9) + (b 10 + b 11)) + ((b 12 + b 13) + (b 14 + b 15))) + (((b 16 + b 17) + (b 18 + b 19)) + ((b 20 + b 21) + (b 22 + b 23))) + (((b 24 + b 25) + (b 26 + b 27)) + ((b 28 + b 29) + (b 30 + b 31))) = _
  omega
set_option maxHeartbeats 4000000 in
set_option maxRecDepth 100000 in
theorem cJ_bitCount (l : Launch) (D : va_G) (K : Nat → ClassId) {w : hm_M} (x : Int32)  : hm_Ci l D K yJ6_bitCount_0f7a4 cJ6_bitCount_0f7a4 1 .int 0 [.int (x)] w 0 0 (fun r w2 => r = iI ((ct (bt x) 0 32 : Nat) : Int) ∧ w2 = w) := by
  refine hm_enterI (by decide) (Nat.le_of_ble_eq_true rfl) ?_
  intro p e s m args below meth c E hr hnm
  show hm_V p l e (hm_rm 0 0 0) s m args below meth c D (hm_A w s.heap.size) 1 0 0 (MQ below (hm_Qi D w s.heap.size (fun r w2 => r = iI ((ct (bt x) 0 32 : Nat) : Int) ∧ w2 = w)) args s 0 0 (hm_A w s.heap.size)) w 0 [(0, .int (x))] []
  refine hv_iload_n E dJ6_bitCount_0f7a4_0 rfl 0 rfl rfl ?_
  refine hv_iload_n E dJ6_bitCount_0f7a4_1 rfl 0 rfl rfl ?_
  refine hv_iconst E dJ6_bitCount_0f7a4_2 rfl ?_
  refine hv_iushrR E dJ6_bitCount_0f7a4_3 rfl rfl ?_
  refine hv_ldcw E dJ6_bitCount_0f7a4_4 gK_J6_265 rfl ?_
  refine hv_iandR E dJ6_bitCount_0f7a4_7 rfl ?_
  refine hv_isubR E dJ6_bitCount_0f7a4_8 rfl ?_
  refine hv_topi (show x - (((x.toUInt32 >>> ((iI (1)).toUInt32 &&& Int32.toUInt32 31)).toInt32) &&& ((1431655765 : Int32))) = bc1 x from rfl) ?_
  refine hv_istore_n (lv2 := [(0, .int (bc1 x))]) E dJ6_bitCount_0f7a4_9 rfl (by decide) rfl rfl ?_
  refine hv_iload_n E dJ6_bitCount_0f7a4_10 rfl 0 rfl rfl ?_
  refine hv_ldcw E dJ6_bitCount_0f7a4_11 gK_J6_266 rfl ?_
  refine hv_iandR E dJ6_bitCount_0f7a4_14 rfl ?_
  refine hv_iload_n E dJ6_bitCount_0f7a4_15 rfl 0 rfl rfl ?_
  refine hv_iconst E dJ6_bitCount_0f7a4_16 rfl ?_
  refine hv_iushrR E dJ6_bitCount_0f7a4_17 rfl rfl ?_
  refine hv_ldcw E dJ6_bitCount_0f7a4_18 gK_J6_266 rfl ?_
  refine hv_iandR E dJ6_bitCount_0f7a4_21 rfl ?_
  refine hv_iaddR E dJ6_bitCount_0f7a4_22 rfl ?_
  refine hv_topi (show ((bc1 x) &&& ((858993459 : Int32))) + ((((bc1 x).toUInt32 >>> ((iI (2)).toUInt32 &&& Int32.toUInt32 31)).toInt32) &&& ((858993459 : Int32))) = bc2 (bc1 x) from rfl) ?_
  refine hv_istore_n (lv2 := [(0, .int (bc2 (bc1 x)))]) E dJ6_bitCount_0f7a4_23 rfl (by decide) rfl rfl ?_
  refine hv_iload_n E dJ6_bitCount_0f7a4_24 rfl 0 rfl rfl ?_
  refine hv_iload_n E dJ6_bitCount_0f7a4_25 rfl 0 rfl rfl ?_
  refine hv_iconst E dJ6_bitCount_0f7a4_26 rfl ?_
  refine hv_iushrR E dJ6_bitCount_0f7a4_27 rfl rfl ?_
  refine hv_iaddR E dJ6_bitCount_0f7a4_28 rfl ?_
  refine hv_ldcw E dJ6_bitCount_0f7a4_29 gK_J6_267 rfl ?_
  refine hv_iandR E dJ6_bitCount_0f7a4_32 rfl ?_
  refine hv_topi (show ((bc2 (bc1 x)) + (((bc2 (bc1 x)).toUInt32 >>> ((iI (4)).toUInt32 &&& Int32.toUInt32 31)).toInt32)) &&& ((252645135 : Int32)) = bc3 (bc2 (bc1 x)) from rfl) ?_
  refine hv_istore_n (lv2 := [(0, .int (bc3 (bc2 (bc1 x))))]) E dJ6_bitCount_0f7a4_33 rfl (by decide) rfl rfl ?_
  refine hv_iload_n E dJ6_bitCount_0f7a4_34 rfl 0 rfl rfl ?_
  refine hv_iload_n E dJ6_bitCount_0f7a4_35 rfl 0 rfl rfl ?_
  refine hv_bipush E dJ6_bitCount_0f7a4_36 (by decide +kernel) rfl ?_
  refine hv_iushrR E dJ6_bitCount_0f7a4_38 rfl rfl ?_
  refine hv_iaddR E dJ6_bitCount_0f7a4_39 rfl ?_
  refine hv_topi (show (bc3 (bc2 (bc1 x))) + (((bc3 (bc2 (bc1 x))).toUInt32 >>> ((iI (8)).toUInt32 &&& Int32.toUInt32 31)).toInt32) = bc4 (bc3 (bc2 (bc1 x))) from rfl) ?_
  refine hv_istore_n (lv2 := [(0, .int (bc4 (bc3 (bc2 (bc1 x)))))]) E dJ6_bitCount_0f7a4_40 rfl (by decide) rfl rfl ?_
  refine hv_iload_n E dJ6_bitCount_0f7a4_41 rfl 0 rfl rfl ?_
  refine hv_iload_n E dJ6_bitCount_0f7a4_42 rfl 0 rfl rfl ?_
  refine hv_bipush E dJ6_bitCount_0f7a4_43 (by decide +kernel) rfl ?_
  refine hv_iushrR E dJ6_bitCount_0f7a4_45 rfl rfl ?_
  refine hv_iaddR E dJ6_bitCount_0f7a4_46 rfl ?_
  refine hv_topi (show (bc4 (bc3 (bc2 (bc1 x)))) + (((bc4 (bc3 (bc2 (bc1 x)))).toUInt32 >>> ((iI (16)).toUInt32 &&& Int32.toUInt32 31)).toInt32) = bc5 (bc4 (bc3 (bc2 (bc1 x)))) from rfl) ?_
  refine hv_istore_n (lv2 := [(0, .int (bc5 (bc4 (bc3 (bc2 (bc1 x))))))]) E dJ6_bitCount_0f7a4_47 rfl (by decide) rfl rfl ?_
  refine hv_iload_n E dJ6_bitCount_0f7a4_48 rfl 0 rfl rfl ?_
  refine hv_bipush E dJ6_bitCount_0f7a4_49 (by decide +kernel) rfl ?_
  refine hv_iandR E dJ6_bitCount_0f7a4_51 rfl ?_
  refine hv_topi (show (bc5 (bc4 (bc3 (bc2 (bc1 x))))) &&& (iI (63)) = iI ((ct (bt x) 0 32 : Nat)) from bc_ok x) ?_
  exact hv_iret E dJ6_bitCount_0f7a4_52 hr ⟨rfl, rfl⟩
end
section
/-! sets: counting, the n-th, the next; words of a set -/
theorem ct_zero {S : Nat → Bool} {a n : Nat} (h : ∀ i, i < n → S (a + i) = false) : ct S a n = 0 := by
  induction n with
  | zero => rfl
  | succ n ih => simp only [ct]; rw [ih (fun i hi => h i (by omega)), h n (by omega)]; rfl
theorem ct_mono (S : Nat → Bool) (a : Nat) {n k : Nat} (h : n ≤ k) : ct S a n ≤ ct S a k := by
  obtain ⟨d, rfl⟩ : ∃ d, k = n + d := ⟨k - n, by omega⟩
  rw [ct_add]; omega
theorem ct_step {S : Nat → Bool} {a n k : Nat} (h : n < k) (hs : S (a + n) = true) : ct S a n + 1 ≤ ct S a k := by
  have h1 := ct_mono S a (show n + 1 ≤ k from h)
  simp only [ct, hs] at h1
  simpa using h1
theorem ct_lt_of {S : Nat → Bool} {n i : Nat} (h : i < ct S 0 n) : ∃ p, p < n ∧ S p = true ∧ ct S 0 p = i := by
  induction n with
  | zero => simp [ct] at h
  | succ n ih =>
    simp only [ct, Nat.zero_add] at h
    by_cases h1 : i < ct S 0 n
    · obtain ⟨p, g1, g2, g3⟩ := ih h1
      exact ⟨p, by omega, g2, g3⟩
    · by_cases h2 : S n = true
      · simp only [h2, if_true] at h
        exact ⟨n, by omega, h2, by omega⟩
      · simp only [h2] at h
        simp at h; omega
theorem ct_pos_of {S : Nat → Bool} {a n : Nat} (h : ct S a n ≠ 0) : ∃ i, i < n ∧ S (a + i) = true := by
  rcases Classical.em (∃ i, i < n ∧ S (a + i) = true) with q | q
  · exact q
  · exact absurd (ct_zero (fun i hi => by
      cases e : S (a + i) with
      | false => rfl
      | true => exact absurd ⟨i, hi, e⟩ q)) h
/-- z is the k-th of S (below N), or -1 -/
def isNth (S : Nat → Bool) (N : Nat) (k z : Int) : Prop := (z = -1 ∧ (k < 0 ∨ (ct S 0 N : Int) ≤ k)) ∨ (0 ≤ z ∧ z < (N : Int) ∧ S z.toNat = true ∧ (ct S 0 z.toNat : Int) = k)
/-- z is the least of S from v on (below N), or -1 -/
def isNext (S : Nat → Bool) (N : Nat) (v z : Int) : Prop := (z = -1 ∧ ∀ u : Nat, v ≤ (u : Int) → u < N → S u = false) ∨ (v ≤ z ∧ 0 ≤ z ∧ z < (N : Int) ∧ S z.toNat = true ∧ ∀ u : Nat, v ≤ (u : Int) → (u : Int) < z → S u = false)
theorem isNth_inj {S : Nat → Bool} {N : Nat} {k z y : Int} (h1 : isNth S N k z) (h2 : isNth S N k y) : z = y := by
  rcases h1 with ⟨a1, a2⟩ | ⟨a1, a2, a3, a4⟩ <;> rcases h2 with ⟨b1, b2⟩ | ⟨b1, b2, b3, b4⟩
  · omega
  · exfalso
    have := ct_step (S := S) (a := 0) (n := y.toNat) (k := N) (by omega) (by rw [Nat.zero_add]; exact b3)
    omega
  · exfalso
    have := ct_step (S := S) (a := 0) (n := z.toNat) (k := N) (by omega) (by rw [Nat.zero_add]; exact a3)
    omega
  · rcases (show z.toNat < y.toNat ∨ y.toNat < z.toNat ∨ z.toNat = y.toNat by omega) with q | q | q
    · have := ct_step (S := S) (a := 0) q (by rw [Nat.zero_add]; exact a3); omega
    · have := ct_step (S := S) (a := 0) q (by rw [Nat.zero_add]; exact b3); omega
    · omega
theorem isNext_inj {S : Nat → Bool} {N : Nat} {v z y : Int} (h1 : isNext S N v z) (h2 : isNext S N v y) : z = y := by
  rcases h1 with ⟨a1, a2⟩ | ⟨a1, a2, a3, a4, a5⟩ <;> rcases h2 with ⟨b1, b2⟩ | ⟨b1, b2, b3, b4, b5⟩
  · omega
  · have := a2 y.toNat (by omega) (by omega); rw [b4] at this; cases this
  · have := b2 z.toNat (by omega) (by omega); rw [a4] at this; cases this
  · rcases (show z < y ∨ y < z ∨ z = y by omega) with q | q | q
    · have := b5 z.toNat (by omega) (by omega); rw [a4] at this; cases this
    · have := a5 y.toNat (by omega) (by omega); rw [b4] at this; cases this
    · exact q
/-! words -/
theorem mem_at (f : Nat → Int32) (j i : Nat) (hi : i < 32) : mem f (32 * j + i) = bt (f j) i := by
  unfold mem
  rw [show (32 * j + i) / 32 = j by omega, show (32 * j + i) % 32 = i by omega]
theorem ct_word (f : Nat → Int32) (j n : Nat) (hn : n ≤ 32) : ct (mem f) (32 * j) n = ct (bt (f j)) 0 n := ct_congr (fun i hi => by rw [mem_at f j i (by omega), Nat.zero_add])
theorem bt_m1 {i : Nat} (h : i < 32) : bt (iI (-1)) i = true := (by decide +kernel : ∀ i, i < 32 → bt (iI (-1)) i = true) i h
theorem bt_hi {r i : Nat} (hr : r < 32) (hi : i < 32) : bt (iI (-1) <<< (iI (r : Int) &&& 31)) i = decide (r ≤ i) := by
  rw [iI_nI, b_shl r hr _ hi]
  by_cases h : r ≤ i
  · simp [h, bt_m1 (show i - r < 32 by omega)]
  · simp [h]
theorem bt_lo {r i : Nat} (hr : r < 32) (hi : i < 32) : bt ((iI (-1) <<< (iI (r : Int) &&& 31)) ^^^ iI (-1)) i = decide (i < r) := by
  rw [b_xor, bt_hi hr hi, bt_m1 hi]
  by_cases h : r ≤ i
  · simp [h]
  · simp [h]; omega
theorem ct_mask (x : Int32) (r : Nat) (hr : r < 32) : ct (bt (x &&& ((iI (-1) <<< (iI (r : Int) &&& 31)) ^^^ iI (-1)))) 0 32 = ct (bt x) 0 r := by
  have h1 := ct_add (bt (x &&& ((iI (-1) <<< (iI (r : Int) &&& 31)) ^^^ iI (-1)))) 0 r (32 - r)
  rw [show r + (32 - r) = 32 by omega] at h1
  have h2 : ct (bt (x &&& ((iI (-1) <<< (iI (r : Int) &&& 31)) ^^^ iI (-1)))) (0 + r) (32 - r) = 0 := ct_zero (fun i hi => by
    rw [b_and, bt_lo hr (by omega), decide_eq_false (by omega)]; simp)
  have h3 : ct (bt (x &&& ((iI (-1) <<< (iI (r : Int) &&& 31)) ^^^ iI (-1)))) 0 r = ct (bt x) 0 r := ct_congr (fun i hi => by
    rw [b_and, bt_lo hr (by omega), decide_eq_true (by omega)]; simp)
  rw [h1, h2, h3]
  omega
/-- the lowest bit that is set -/
theorem low_of {N p : Nat} (h1 : N.testBit p = true) (h2 : ∀ i, i < p → N.testBit i = false) : ∃ q, N = 2 ^ (p + 1) * q + 2 ^ p := by
  refine ⟨N / 2 ^ (p + 1), ?_⟩
  have e1 : N % 2 ^ (p + 1) = 2 ^ p := by
    apply Nat.eq_of_testBit_eq
    intro i
    rw [Nat.testBit_mod_two_pow, Nat.testBit_two_pow]
    rcases (show i < p ∨ i = p ∨ p < i by omega) with q | q | q
    · rw [h2 i q, decide_eq_false (show ¬ p = i by omega)]; simp
    · subst q; rw [h1]; simp
    · rw [decide_eq_false (show ¬ i < p + 1 by omega), decide_eq_false (show ¬ p = i by omega)]; rfl
  have := Nat.div_add_mod N (2 ^ (p + 1))
  omega
theorem tb_low {p q i : Nat} : (2 ^ (p + 1) * q + 2 ^ p).testBit i = (decide (i = p) || (decide (p < i) && q.testBit (i - (p + 1)))) := by
  rw [Nat.testBit_two_pow_mul_add _ (Nat.pow_lt_pow_right (by omega) (by omega)), Nat.testBit_two_pow]
  rcases (show i < p ∨ i = p ∨ p < i by omega) with h | h | h
  · rw [if_pos (by omega), decide_eq_false (show ¬ p = i by omega), decide_eq_false (show ¬ i = p by omega), decide_eq_false (show ¬ p < i by omega)]; rfl
  · subst h; simp
  · rw [if_neg (by omega), decide_eq_false (show ¬ i = p by omega), decide_eq_true h]; rfl
theorem tb_low1 {p q i : Nat} : (2 ^ (p + 1) * q + 2 ^ p - 1).testBit i = (decide (i < p) || (decide (p < i) && q.testBit (i - (p + 1)))) := by
  have h0 : 0 < 2 ^ p := Nat.two_pow_pos p
  rw [show 2 ^ (p + 1) * q + 2 ^ p - 1 = 2 ^ (p + 1) * q + (2 ^ p - 1) by omega, Nat.testBit_two_pow_mul_add _ (by rw [Nat.pow_succ]; omega), Nat.testBit_two_pow_sub_one]
  rcases (show i < p ∨ i = p ∨ p < i by omega) with h | h | h
  · rw [if_pos (by omega), decide_eq_true h]; simp
  · subst h; simp
  · rw [if_neg (by omega), decide_eq_false (show ¬ i < p by omega), decide_eq_true h]; rfl
theorem bt_tN (x : Int32) (i : Nat) : bt x i = (tN x).testBit i := rfl
theorem tN_sub1 {x : Int32} (h : 0 < tN x) : tN (x - iI 1) = tN x - 1 := by rw [tN_sub _ _ (by rw [show tN (iI 1) = 1 by decide +kernel]; exact h), show tN (iI 1) = 1 by decide +kernel]
theorem low_and {x : Int32} {p : Nat} (h1 : bt x p = true) (h2 : ∀ i, i < p → bt x i = false) (i : Nat) : bt (x &&& (x - iI 1)) i = (bt x i && decide (i ≠ p)) := by
  obtain ⟨q, hq⟩ := low_of (N := tN x) h1 h2
  have h0 : 0 < 2 ^ p := Nat.two_pow_pos p
  rw [b_and, bt_tN x, bt_tN (x - iI 1), tN_sub1 (by omega), hq, tb_low, tb_low1]
  rcases (show i < p ∨ i = p ∨ p < i by omega) with h | h | h
  · rw [decide_eq_false (show ¬ i = p by omega), decide_eq_false (show ¬ p < i by omega)]; simp
  · subst h; simp
  · rw [decide_eq_false (show ¬ i = p by omega), decide_eq_true h, decide_eq_false (show ¬ i < p by omega), decide_eq_true (show i ≠ p by omega)]; cases q.testBit (i - (p + 1)) <;> rfl
theorem neg_bt {x : Int32} {i : Nat} (hi : i < 32) : bt (-x) i = !(bt (x - iI 1) i) := by
  have e : (-x).toBitVec = ~~~ (x - iI 1).toBitVec := by
    rw [Int32.toBitVec_sub, Int32.toBitVec_neg, BitVec.not_eq_neg_add, show (iI 1).toBitVec = 1#32 from rfl]
    rw [BitVec.neg_sub, BitVec.add_sub_cancel]
  unfold bt
  rw [e, BitVec.getLsbD_not]
  simp [hi]
theorem low_neg {x : Int32} {p : Nat} (hp : p < 32) (h1 : bt x p = true) (h2 : ∀ i, i < p → bt x i = false) : x &&& (-x) = iI ((2 ^ p : Nat) : Int) := by
  obtain ⟨q, hq⟩ := low_of (N := tN x) h1 h2
  have h0 : 0 < 2 ^ p := Nat.two_pow_pos p
  apply b_ext
  intro i hi
  have hlt : 2 ^ p < 2 ^ 32 := Nat.pow_lt_pow_right (by omega) hp
  rw [b_and, neg_bt hi, bt_tN x, bt_tN (x - iI 1), tN_sub1 (by omega), hq, tb_low, tb_low1, iI_nI, bt_tN, show tN (nI (2 ^ p)) = 2 ^ p from pk_tn hlt, Nat.testBit_two_pow]
  rcases (show i < p ∨ i = p ∨ p < i by omega) with h | h | h
  · rw [decide_eq_false (show ¬ i = p by omega), decide_eq_false (show ¬ p < i by omega), decide_eq_false (show ¬ p = i by omega)]; simp
  · subst h; simp
  · rw [decide_eq_false (show ¬ i = p by omega), decide_eq_true h, decide_eq_false (show ¬ i < p by omega), decide_eq_false (show ¬ p = i by omega)]; cases q.testBit (i - (p + 1)) <;> rfl
theorem low_ct {p : Nat} (hp : p < 32) : ct (bt (iI ((2 ^ p : Nat) : Int) - iI 1)) 0 32 = p := by
  have hlt : 2 ^ p < 2 ^ 32 := Nat.pow_lt_pow_right (by omega) hp
  have h0 : 0 < 2 ^ p := Nat.two_pow_pos p
  have hb : ∀ i, bt (iI ((2 ^ p : Nat) : Int) - iI 1) i = decide (i < p) := fun i => by
    have hN : tN (iI ((2 ^ p : Nat) : Int)) = 2 ^ p := by rw [iI_nI]; exact pk_tn hlt
    rw [bt_tN, tN_sub1 (by omega), hN, Nat.testBit_two_pow_sub_one]
  have h1 := ct_add (bt (iI ((2 ^ p : Nat) : Int) - iI 1)) 0 p (32 - p)
  rw [show p + (32 - p) = 32 by omega] at h1
  have h3 : ∀ n, n ≤ p → ct (bt (iI ((2 ^ p : Nat) : Int) - iI 1)) 0 n = n := by
    intro n
    induction n with
    | zero => intro _; rfl
    | succ n ih => intro hn; simp only [ct]; rw [ih (by omega), Nat.zero_add, hb, decide_eq_true (by omega)]; rfl
  have h4 : ct (bt (iI ((2 ^ p : Nat) : Int) - iI 1)) (0 + p) (32 - p) = 0 := ct_zero (fun i hi => by rw [hb, decide_eq_false (by omega)])
  rw [h1, h4, h3 p (Nat.le_refl p)]
  omega
end
section
/-- an object of Numbers at q with the words f at wd -/
def nAt (K : Nat → ClassId) (w : hm_M) (q wd : Nat) (f : Nat → Int32) : Prop := w q = some (.inr (1, [.ref wd])) ∧ w wd = some (.inl (K 0, 128, .inl f))
theorem iI_shr5 {z : Int} (hz : iB z) : iI z >>> (iI 5 &&& 31) = iI (z / 32) := iI_shr 5 (by omega) hz
theorem mem_bit (f : Nat → Int32) {v : Int} (h0 : 0 ≤ v) : ((f (v / 32).toNat).toUInt32 >>> ((iI (v % 32)).toUInt32 &&& Int32.toUInt32 31)).toInt32 &&& iI 1 = bI (mem f v.toNat) := by
  have h := bt_bit (f (v / 32).toNat) (v % 32).toNat (by omega)
  rw [Int.toNat_of_nonneg (by omega)] at h
  rw [h]
  unfold mem
  rw [show (v / 32).toNat = v.toNat / 32 by omega, show (v % 32).toNat = v.toNat % 32 by omega]
theorem bI_ite (b : Bool) : bI b = iI (if b then 1 else 0) := rfl
set_option maxHeartbeats 4000000 in
set_option maxRecDepth 100000 in
theorem c2_holds (l : Launch) (D : va_G) (K : Nat → ClassId) {w : hm_M} {q wd : Nat} {f : Nat → Int32} (v : Int) (hv : iB v) (hn : nAt K w q wd f)  : hm_Ci l D K yX2_holds cX2_holds 2 .boolean 1 [.ref (q), .int (iI (v))] w 0 0 (fun r w2 => r = bI (decide (0 ≤ v ∧ v < 4096) && mem f v.toNat) ∧ w2 = w) := by
  refine hm_enterI (by decide) (Nat.le_of_ble_eq_true rfl) ?_
  intro p e s m args below meth c E hr hnm
  show hm_V p l e (hm_rm 1 0 0) s m args below meth c D (hm_A w s.heap.size) 2 0 0 (MQ below (hm_Qi D w s.heap.size (fun r w2 => r = bI (decide (0 ≤ v ∧ v < 4096) && mem f v.toNat) ∧ w2 = w)) args s 0 0 (hm_A w s.heap.size)) w 0 [(0, .ref (q)), (1, .int (iI (v)))] []
  refine hv_iload_n E dX2_holds_0 rfl 1 rfl rfl ?_
  refine hv_callSNI (na := 1) (As := [.int (iI (v))]) (st := []) E (c6_isNumber l D K v hv) dX2_holds_1 gN_X2_15 gS_X6_isNumber gC_X6_isNumber gZ_X6 (by decide +kernel) rfl ⟨Nat.le_of_ble_eq_true rfl, Nat.le_of_ble_eq_true rfl⟩ (Nat.le_of_ble_eq_true rfl) ⟨Nat.zero_le _, Nat.zero_le _⟩ rfl rfl (fun r w2 hp => ?_)
  rw [hp.1, hp.2]
  show hm_V p l e (hm_rm 1 0 0) s m args below meth c D (hm_A w s.heap.size) 2 0 0 (MQ below (hm_Qi D w s.heap.size (fun r w2 => r = bI (decide (0 ≤ v ∧ v < 4096) && mem f v.toNat) ∧ w2 = w)) args s 0 0 (hm_A w s.heap.size)) w 4 [(0, .ref (q)), (1, .int (iI (v)))] [.int (bI (decide (0 ≤ v ∧ v < 4096)))]
  refine hv_if_eqB E 30 dX2_holds_4 (by decide) rfl (fun h1 => ?_) (fun h1 => ?_)
  · refine hv_iconst E dX2_holds_30 rfl ?_
    refine hv_topi (show iI (0) = bI (false) from rfl) ?_
    exact hv_zret E dX2_holds_31 hr ⟨by rw [h1]; rfl, rfl⟩
  · have h2 : 0 ≤ v ∧ v < 4096 := of_decide_eq_true h1
    refine hv_aload_n E dX2_holds_7 rfl 0 rfl rfl ?_
    refine hv_get (kf := 0) E dX2_holds_8 (show vwCl[1]? = some (RX2, TX2, 1) from rfl) (by decide) gW_X2 gF_X2_9 rfl hn.1 rfl rfl ?_
    refine hv_iload_n E dX2_holds_11 rfl 1 rfl rfl ?_
    refine hv_iconst E dX2_holds_12 rfl ?_
    refine hv_ishrR E dX2_holds_13 rfl rfl ?_
    refine hv_topi (show (iI (v)) >>> ((iI (5)) &&& 31) = iI (v / 32) from iI_shr5 hv) ?_
    refine hv_iald E dX2_holds_14 hn.2 (by omega) (by omega) (by decide) rfl ?_
    refine hv_iload_n E dX2_holds_15 rfl 1 rfl rfl ?_
    refine hv_bipush E dX2_holds_16 (by decide +kernel) rfl ?_
    refine hv_iandR E dX2_holds_18 rfl ?_
    refine hv_topi (show (iI (v)) &&& (iI (31)) = iI (v % 32) from iI_and31 v) ?_
    refine hv_iushrR E dX2_holds_19 rfl rfl ?_
    refine hv_iconst E dX2_holds_20 rfl ?_
    refine hv_iandR E dX2_holds_21 rfl ?_
    refine hv_topi (show (((f (v / 32).toNat).toUInt32 >>> ((iI (v % 32)).toUInt32 &&& Int32.toUInt32 31)).toInt32) &&& (iI (1)) = bI (mem f v.toNat) from mem_bit f h2.1) ?_
    refine hv_iconst E dX2_holds_22 rfl ?_
    refine hv_topi (show iI (1) = bI (true) from rfl) ?_
    refine hv_icmp_neB E 30 dX2_holds_23 (by decide) rfl (fun h3 => ?_) (fun h3 => ?_)
    · refine hv_iconst E dX2_holds_30 rfl ?_
      refine hv_topi (show iI (0) = bI (false) from rfl) ?_
      exact hv_zret E dX2_holds_31 hr ⟨by rw [h1, eq_false_of_ne_true h3]; rfl, rfl⟩
    · refine hv_iconst E dX2_holds_26 rfl ?_
      refine hv_goto E 31 dX2_holds_27 (by decide) ?_
      refine hv_topi (show iI (1) = bI (true) from rfl) ?_
      exact hv_zret E dX2_holds_31 hr ⟨by rw [h1, h3]; rfl, rfl⟩
set_option maxHeartbeats 4000000 in
set_option maxRecDepth 100000 in
theorem c2_amountBelow (l : Launch) (D : va_G) (K : Nat → ClassId) {w : hm_M} {q wd : Nat} {f : Nat → Int32} (v : Int) (h0 : 0 ≤ v) (h1 : v ≤ 4096) (hn : nAt K w q wd f)  : hm_Ci l D K yX2_amountBelow cX2_amountBelow 5 .int 1 [.ref (q), .int (iI (v))] w 0 0 (fun r w2 => r = iI (ct (mem f) 0 v.toNat : Nat) ∧ w2 = w) := by
  refine hm_enterI (by decide) (Nat.le_of_ble_eq_true rfl) ?_
  intro p e s m args below meth c E hr hnm
  show hm_V p l e (hm_rm 1 0 0) s m args below meth c D (hm_A w s.heap.size) 5 0 0 (MQ below (hm_Qi D w s.heap.size (fun r w2 => r = iI (ct (mem f) 0 v.toNat : Nat) ∧ w2 = w)) args s 0 0 (hm_A w s.heap.size)) w 0 [(0, .ref (q)), (1, .int (iI (v)))] []
  refine hv_iload_n E dX2_amountBelow_0 rfl 1 rfl rfl ?_
  refine hv_callSNI (na := 1) (As := [.int (iI (v))]) (st := []) E (c6_isBorder l D K v ⟨by omega, by omega⟩) dX2_amountBelow_1 gN_X2_23 gS_X6_isBorder gC_X6_isBorder gZ_X6 (by decide +kernel) rfl ⟨Nat.le_of_ble_eq_true rfl, Nat.le_of_ble_eq_true rfl⟩ (Nat.le_of_ble_eq_true rfl) ⟨Nat.zero_le _, Nat.zero_le _⟩ rfl rfl (fun r w2 hp => ?_)
  rw [hp.1, hp.2]
  show hm_V p l e (hm_rm 1 0 0) s m args below meth c D (hm_A w s.heap.size) 5 0 0 (MQ below (hm_Qi D w s.heap.size (fun r w2 => r = iI (ct (mem f) 0 v.toNat : Nat) ∧ w2 = w)) args s 0 0 (hm_A w s.heap.size)) w 4 [(0, .ref (q)), (1, .int (iI (v)))] [.int (bI (decide (0 ≤ v ∧ v ≤ 4096)))]
  refine hv_if_neB E 9 dX2_amountBelow_4 (by decide) rfl (fun h2 => ?_) (fun h2 => ?_)
  · refine hv_iload_n E dX2_amountBelow_9 rfl 1 rfl rfl ?_
    refine hv_iconst E dX2_amountBelow_10 rfl ?_
    refine hv_ishrR E dX2_amountBelow_11 rfl rfl ?_
    refine hv_topi (show (iI (v)) >>> ((iI (5)) &&& 31) = iI (v / 32) from iI_shr5 ⟨by omega, by omega⟩) ?_
    refine hv_istore_n (lv2 := [(2, .int (iI (v / 32))), (0, .ref (q)), (1, .int (iI (v)))]) E dX2_amountBelow_12 rfl (by decide) rfl rfl ?_
    refine hv_iconst E dX2_amountBelow_13 rfl ?_
    refine hv_istore_n (lv2 := [(3, .int (iI (0))), (2, .int (iI (v / 32))), (0, .ref (q)), (1, .int (iI (v)))]) E dX2_amountBelow_14 rfl (by decide) rfl rfl ?_
    refine hv_iconst E dX2_amountBelow_15 rfl ?_
    refine hv_istore (lv2 := [(4, .int (iI (0))), (3, .int (iI (0))), (2, .int (iI (v / 32))), (0, .ref (q)), (1, .int (iI (v)))]) E dX2_amountBelow_16 (by decide) rfl rfl ?_
    have LP : ∀ (k : Nat) (j : Int), (v / 32 - j < (k : Int)) → (0 ≤ j) → (j ≤ v / 32) → hm_V p l e (hm_rm 1 0 0) s m args below meth c D (hm_A w s.heap.size) 5 0 0 (MQ below (hm_Qi D w s.heap.size (fun r w2 => r = iI (ct (mem f) 0 v.toNat : Nat) ∧ w2 = w)) args s 0 0 (hm_A w s.heap.size)) w 18 [(4, .int (iI (j))), (3, .int (iI ((ct (mem f) 0 (32 * j.toNat) : Nat)))), (2, .int (iI (v / 32))), (0, .ref (q)), (1, .int (iI (v)))] [] := by
      intro k
      induction k with
      | zero =>
        intro j hk g0 g1
        exact absurd hk (by omega)
      | succ k ih =>
        intro j hk g0 g1
        have hc := ct_le (mem f) 0 (32 * j.toNat)
        refine hv_iload E dX2_amountBelow_18 0 rfl rfl ?_
        refine hv_iload_n E dX2_amountBelow_20 rfl 2 rfl rfl ?_
        refine hv_icmp_ge E 43 dX2_amountBelow_21 (by decide) ⟨by omega, by omega⟩ ⟨by omega, by omega⟩ rfl (fun h3 => ?_) (fun h3 => ?_)
        · have ej : j = v / 32 := by omega
          refine hv_iload_n E dX2_amountBelow_43 rfl 2 rfl rfl ?_
          refine hv_sipush E dX2_amountBelow_44 (by decide +kernel) rfl ?_
          refine hv_icmp_ge E 71 dX2_amountBelow_47 (by decide) ⟨by omega, by omega⟩ ⟨by omega, by omega⟩ rfl (fun h4 => ?_) (fun h4 => ?_)
          · refine hv_iload_n E dX2_amountBelow_71 rfl 1 rfl rfl ?_
            exact hv_iret E dX2_amountBelow_72 hr ⟨by rw [show 32 * j.toNat = v.toNat by omega], rfl⟩
          · refine hv_iload_n E dX2_amountBelow_50 rfl 1 rfl rfl ?_
            refine hv_aload_n E dX2_amountBelow_51 rfl 3 rfl rfl ?_
            refine hv_get (kf := 0) E dX2_amountBelow_52 (show vwCl[1]? = some (RX2, TX2, 1) from rfl) (by decide) gW_X2 gF_X2_9 rfl hn.1 rfl rfl ?_
            refine hv_iload_n E dX2_amountBelow_55 rfl 2 rfl rfl ?_
            refine hv_iald E dX2_amountBelow_56 hn.2 (by omega) (by omega) (by decide) rfl ?_
            refine hv_iconst E dX2_amountBelow_57 rfl ?_
            refine hv_iload_n E dX2_amountBelow_58 rfl 4 rfl rfl ?_
            refine hv_bipush E dX2_amountBelow_59 (by decide +kernel) rfl ?_
            refine hv_iandR E dX2_amountBelow_61 rfl ?_
            refine hv_topi (show (iI (v)) &&& (iI (31)) = iI (v % 32) from iI_and31 v) ?_
            refine hv_ishlR E dX2_amountBelow_62 rfl rfl ?_
            refine hv_iconst E dX2_amountBelow_63 rfl ?_
            refine hv_ixorR E dX2_amountBelow_64 rfl ?_
            refine hv_iandR E dX2_amountBelow_65 rfl ?_
            refine hv_callSI (na := 1) (As := [.int ((f (v / 32).toNat) &&& (((iI ((-1))) <<< ((iI (v % 32)) &&& 31)) ^^^ (iI ((-1)))))]) (st := [.int (iI ((ct (mem f) 0 (32 * j.toNat) : Nat)))]) E (cJ_bitCount l D K ((f (v / 32).toNat) &&& (((iI ((-1))) <<< ((iI (v % 32)) &&& 31)) ^^^ (iI ((-1)))))) dX2_amountBelow_66 gL_X2_26 gS_J6_bitCount_0f7a4 gC_J6_bitCount_0f7a4 gZ_J6 (by decide +kernel) rfl ⟨Nat.le_of_ble_eq_true rfl, Nat.le_of_ble_eq_true rfl⟩ (Nat.le_of_ble_eq_true rfl) ⟨Nat.zero_le _, Nat.zero_le _⟩ rfl rfl (fun r w2 hp => ?_)
            rw [hp.1, hp.2]
            show hm_V p l e (hm_rm 1 0 0) s m args below meth c D (hm_A w s.heap.size) 5 0 0 (MQ below (hm_Qi D w s.heap.size (fun r w2 => r = iI (ct (mem f) 0 v.toNat : Nat) ∧ w2 = w)) args s 0 0 (hm_A w s.heap.size)) w 69 [(4, .int (iI (j))), (3, .int (iI ((ct (mem f) 0 (32 * j.toNat) : Nat)))), (2, .int (iI (v / 32))), (0, .ref (q)), (1, .int (iI (v)))] [.int (iI ((ct (bt ((f (v / 32).toNat) &&& (((iI ((-1))) <<< ((iI (v % 32)) &&& 31)) ^^^ (iI ((-1)))))) 0 32 : Nat))), .int (iI ((ct (mem f) 0 (32 * j.toNat) : Nat)))]
            refine hv_topi (show iI ((ct (bt ((f (v / 32).toNat) &&& (((iI ((-1))) <<< ((iI (v % 32)) &&& 31)) ^^^ (iI ((-1)))))) 0 32 : Nat)) = iI ((ct (bt (f (v / 32).toNat)) 0 (v % 32).toNat : Nat)) from (by
                  have hm := ct_mask (f (v / 32).toNat) (v % 32).toNat (by omega)
                  rw [Int.toNat_of_nonneg (show 0 ≤ v % 32 by omega)] at hm
                  rw [hm])) ?_
            refine hv_iadd E dX2_amountBelow_69 rfl ?_
            refine hv_istore_n (lv2 := [(3, .int (iI (((ct (mem f) 0 (32 * j.toNat) : Nat)) + ((ct (bt (f (v / 32).toNat)) 0 (v % 32).toNat : Nat))))), (4, .int (iI (j))), (2, .int (iI (v / 32))), (0, .ref (q)), (1, .int (iI (v)))]) E dX2_amountBelow_70 rfl (by decide) rfl rfl ?_
            refine hv_iload_n E dX2_amountBelow_71 rfl 0 rfl rfl ?_
            exact hv_iret E dX2_amountBelow_72 hr ⟨by
                  have e1 := ct_add (mem f) 0 (32 * (v / 32).toNat) (v % 32).toNat
                  rw [Nat.zero_add, ct_word f _ _ (by omega), show 32 * (v / 32).toNat + (v % 32).toNat = v.toNat by omega] at e1
                  rw [e1, ej]; congr 1, rfl⟩
        · refine hv_iload_n E dX2_amountBelow_24 rfl 1 rfl rfl ?_
          refine hv_aload_n E dX2_amountBelow_25 rfl 3 rfl rfl ?_
          refine hv_get (kf := 0) E dX2_amountBelow_26 (show vwCl[1]? = some (RX2, TX2, 1) from rfl) (by decide) gW_X2 gF_X2_9 rfl hn.1 rfl rfl ?_
          refine hv_iload E dX2_amountBelow_29 0 rfl rfl ?_
          refine hv_iald E dX2_amountBelow_31 hn.2 (by omega) (by omega) (by decide) rfl ?_
          refine hv_callSI (na := 1) (As := [.int (f j.toNat)]) (st := [.int (iI ((ct (mem f) 0 (32 * j.toNat) : Nat)))]) E (cJ_bitCount l D K (f j.toNat)) dX2_amountBelow_32 gL_X2_26 gS_J6_bitCount_0f7a4 gC_J6_bitCount_0f7a4 gZ_J6 (by decide +kernel) rfl ⟨Nat.le_of_ble_eq_true rfl, Nat.le_of_ble_eq_true rfl⟩ (Nat.le_of_ble_eq_true rfl) ⟨Nat.zero_le _, Nat.zero_le _⟩ rfl rfl (fun r w2 hp => ?_)
          rw [hp.1, hp.2]
          show hm_V p l e (hm_rm 1 0 0) s m args below meth c D (hm_A w s.heap.size) 5 0 0 (MQ below (hm_Qi D w s.heap.size (fun r w2 => r = iI (ct (mem f) 0 v.toNat : Nat) ∧ w2 = w)) args s 0 0 (hm_A w s.heap.size)) w 35 [(4, .int (iI (j))), (3, .int (iI ((ct (mem f) 0 (32 * j.toNat) : Nat)))), (2, .int (iI (v / 32))), (0, .ref (q)), (1, .int (iI (v)))] [.int (iI ((ct (bt (f j.toNat)) 0 32 : Nat))), .int (iI ((ct (mem f) 0 (32 * j.toNat) : Nat)))]
          refine hv_iadd E dX2_amountBelow_35 rfl ?_
          refine hv_topi (show iI (((ct (mem f) 0 (32 * j.toNat) : Nat)) + ((ct (bt (f j.toNat)) 0 32 : Nat))) = iI ((ct (mem f) 0 (32 * (j + 1).toNat) : Nat)) from (by
                rw [show 32 * (j + 1).toNat = 32 * j.toNat + 32 by omega, ct_add, Nat.zero_add, ct_word f _ _ (by omega)]
                congr 1)) ?_
          refine hv_istore_n (lv2 := [(3, .int (iI ((ct (mem f) 0 (32 * (j + 1).toNat) : Nat)))), (4, .int (iI (j))), (2, .int (iI (v / 32))), (0, .ref (q)), (1, .int (iI (v)))]) E dX2_amountBelow_36 rfl (by decide) rfl rfl ?_
          refine hv_iinc (lv2 := [(4, .int (iI (j + 1))), (3, .int (iI ((ct (mem f) 0 (32 * (j + 1).toNat) : Nat)))), (2, .int (iI (v / 32))), (0, .ref (q)), (1, .int (iI (v)))]) E dX2_amountBelow_37 1 rfl rfl (by decide) rfl rfl ?_
          refine hv_goto E 18 dX2_amountBelow_40 (by decide) ?_
          refine hv_sub (lv2 := [(4, .int (iI (j + 1))), (3, .int (iI ((ct (mem f) 0 (32 * (j + 1).toNat) : Nat)))), (2, .int (iI (v / 32))), (0, .ref (q)), (1, .int (iI (v)))]) [0, 1, 2, 3, 4] rfl ?_
          exact ih (j + 1) (by omega) (by omega) (by omega)
    refine hv_sub (lv2 := [(4, .int (iI (0))), (3, .int (iI (0))), (2, .int (iI (v / 32))), (0, .ref (q)), (1, .int (iI (v)))]) [0, 1, 2, 3, 4] rfl ?_
    exact LP (v / 32 + 1).toNat 0 (by omega) (by omega) (by omega)
  · exact absurd (of_decide_eq_false h2) (fun z => z ⟨h0, h1⟩)
set_option maxHeartbeats 4000000 in
set_option maxRecDepth 100000 in
theorem c2_amount (l : Launch) (D : va_G) (K : Nat → ClassId) {w : hm_M} {q wd : Nat} {f : Nat → Int32} (hn : nAt K w q wd f)  : hm_Ci l D K yX2_amount cX2_amount 1 .int 2 [.ref (q)] w 0 0 (fun r w2 => r = iI (ct (mem f) 0 4096 : Nat) ∧ w2 = w) := by
  refine hm_enterI (by decide) (Nat.le_of_ble_eq_true rfl) ?_
  intro p e s m args below meth c E hr hnm
  show hm_V p l e (hm_rm 2 0 0) s m args below meth c D (hm_A w s.heap.size) 1 0 0 (MQ below (hm_Qi D w s.heap.size (fun r w2 => r = iI (ct (mem f) 0 4096 : Nat) ∧ w2 = w)) args s 0 0 (hm_A w s.heap.size)) w 0 [(0, .ref (q))] []
  refine hv_aload_n E dX2_amount_0 rfl 0 rfl rfl ?_
  refine hv_sipush E dX2_amount_1 (by decide +kernel) rfl ?_
  refine hv_callVI (na := 1) (As := [.int (iI (4096))]) (st := []) E (c2_amountBelow l D K 4096 (by omega) (by omega) hn) dX2_amount_4 hn.1 (show vwCl[1]? = some (RX2, TX2, 1) from rfl) gL_X2_19 gV_X2_amountBelow gI_X2_amountBelow gC_X2_amountBelow gZ_X2 (by decide +kernel) rfl ⟨Nat.le_of_ble_eq_true rfl, Nat.le_of_ble_eq_true rfl⟩ (Nat.le_of_ble_eq_true rfl) ⟨Nat.zero_le _, Nat.zero_le _⟩ rfl rfl (fun r w2 hp => ?_)
  rw [hp.1, hp.2]
  show hm_V p l e (hm_rm 2 0 0) s m args below meth c D (hm_A w s.heap.size) 1 0 0 (MQ below (hm_Qi D w s.heap.size (fun r w2 => r = iI (ct (mem f) 0 4096 : Nat) ∧ w2 = w)) args s 0 0 (hm_A w s.heap.size)) w 7 [(0, .ref (q))] [.int (iI ((ct (mem f) 0 (4096 : Int).toNat : Nat)))]
  exact hv_iret E dX2_amount_7 hr ⟨rfl, rfl⟩
set_option maxHeartbeats 4000000 in
set_option maxRecDepth 100000 in
theorem c2_amountIn (l : Launch) (D : va_G) (K : Nat → ClassId) {w : hm_M} {q wd : Nat} {f : Nat → Int32} (x y : Int) (h0 : 0 ≤ x) (h1 : x ≤ y) (h2 : y < 4096) (hn : nAt K w q wd f)  : hm_Ci l D K yX2_amountIn cX2_amountIn 3 .int 2 [.ref (q), .int (iI (x)), .int (iI (y))] w 0 0 (fun r w2 => r = iI ((ct (mem f) x.toNat (y - x + 1).toNat : Nat) : Int) ∧ w2 = w) := by
  refine hm_enterI (by decide) (Nat.le_of_ble_eq_true rfl) ?_
  intro p e s m args below meth c E hr hnm
  show hm_V p l e (hm_rm 2 0 0) s m args below meth c D (hm_A w s.heap.size) 3 0 0 (MQ below (hm_Qi D w s.heap.size (fun r w2 => r = iI ((ct (mem f) x.toNat (y - x + 1).toNat : Nat) : Int) ∧ w2 = w)) args s 0 0 (hm_A w s.heap.size)) w 0 [(0, .ref (q)), (1, .int (iI (x))), (2, .int (iI (y)))] []
  refine hv_aload_n E dX2_amountIn_0 rfl 0 rfl rfl ?_
  refine hv_iload_n E dX2_amountIn_1 rfl 2 rfl rfl ?_
  refine hv_iconst E dX2_amountIn_2 rfl ?_
  refine hv_iadd E dX2_amountIn_3 rfl ?_
  refine hv_callVI (na := 1) (As := [.int (iI (y + 1))]) (st := []) E (c2_amountBelow l D K (y + 1) (by omega) (by omega) hn) dX2_amountIn_4 hn.1 (show vwCl[1]? = some (RX2, TX2, 1) from rfl) gL_X2_19 gV_X2_amountBelow gI_X2_amountBelow gC_X2_amountBelow gZ_X2 (by decide +kernel) rfl ⟨Nat.le_of_ble_eq_true rfl, Nat.le_of_ble_eq_true rfl⟩ (Nat.le_of_ble_eq_true rfl) ⟨Nat.zero_le _, Nat.zero_le _⟩ rfl rfl (fun r w2 hp => ?_)
  rw [hp.1, hp.2]
  show hm_V p l e (hm_rm 2 0 0) s m args below meth c D (hm_A w s.heap.size) 3 0 0 (MQ below (hm_Qi D w s.heap.size (fun r w2 => r = iI ((ct (mem f) x.toNat (y - x + 1).toNat : Nat) : Int) ∧ w2 = w)) args s 0 0 (hm_A w s.heap.size)) w 7 [(0, .ref (q)), (1, .int (iI (x))), (2, .int (iI (y)))] [.int (iI ((ct (mem f) 0 (y + 1).toNat : Nat)))]
  refine hv_aload_n E dX2_amountIn_7 rfl 0 rfl rfl ?_
  refine hv_iload_n E dX2_amountIn_8 rfl 1 rfl rfl ?_
  refine hv_callVI (na := 1) (As := [.int (iI (x))]) (st := [.int (iI ((ct (mem f) 0 (y + 1).toNat : Nat)))]) E (c2_amountBelow l D K x (by omega) (by omega) hn) dX2_amountIn_9 hn.1 (show vwCl[1]? = some (RX2, TX2, 1) from rfl) gL_X2_19 gV_X2_amountBelow gI_X2_amountBelow gC_X2_amountBelow gZ_X2 (by decide +kernel) rfl ⟨Nat.le_of_ble_eq_true rfl, Nat.le_of_ble_eq_true rfl⟩ (Nat.le_of_ble_eq_true rfl) ⟨Nat.zero_le _, Nat.zero_le _⟩ rfl rfl (fun r w2 hp => ?_)
  rw [hp.1, hp.2]
  show hm_V p l e (hm_rm 2 0 0) s m args below meth c D (hm_A w s.heap.size) 3 0 0 (MQ below (hm_Qi D w s.heap.size (fun r w2 => r = iI ((ct (mem f) x.toNat (y - x + 1).toNat : Nat) : Int) ∧ w2 = w)) args s 0 0 (hm_A w s.heap.size)) w 12 [(0, .ref (q)), (1, .int (iI (x))), (2, .int (iI (y)))] [.int (iI ((ct (mem f) 0 x.toNat : Nat))), .int (iI ((ct (mem f) 0 (y + 1).toNat : Nat)))]
  refine hv_isub E dX2_amountIn_12 rfl ?_
  exact hv_iret E dX2_amountIn_13 hr ⟨by
      have e1 := ct_add (mem f) 0 x.toNat (y - x + 1).toNat
      rw [Nat.zero_add, show x.toNat + (y - x + 1).toNat = (y + 1).toNat by omega] at e1
      rw [e1]; congr 1; omega, rfl⟩
end
section
theorem ct_both (f g : Nat → Int32) (j : Nat) : ct (fun v => mem f v && mem g v) (32 * j) 32 = ct (bt (f j &&& g j)) 0 32 := ct_congr (fun i hi => by
  show (mem f (32 * j + i) && mem g (32 * j + i)) = _
  rw [mem_at f j i hi, mem_at g j i hi, Nat.zero_add, b_and])
theorem ct_ne0 {x : Int32} (h : ¬ x = 0) : 0 < ct (bt x) 0 32 := by
  rcases Nat.eq_zero_or_pos (ct (bt x) 0 32) with q | q
  · exfalso
    apply h
    apply b_ext
    intro i hi
    rw [b_0]
    cases e : bt x i with
    | false => rfl
    | true => have := ct_step (S := bt x) (a := 0) hi (by rw [Nat.zero_add]; exact e); omega
  · exact q
set_option maxHeartbeats 4000000 in
set_option maxRecDepth 100000 in
theorem c2_amountShared (l : Launch) (D : va_G) (K : Nat → ClassId) {w : hm_M} {q wd : Nat} {f : Nat → Int32} {q2 wd2 : Nat} {g : Nat → Int32} (hn : nAt K w q wd f) (hn2 : nAt K w q2 wd2 g)  : hm_Ci l D K yX2_amountShared cX2_amountShared 4 .int 1 [.ref (q), .ref (q2)] w 0 0 (fun r w2 => r = iI (ct (fun v => mem f v && mem g v) 0 4096 : Nat) ∧ w2 = w) := by
  refine hm_enterI (by decide) (Nat.le_of_ble_eq_true rfl) ?_
  intro p e s m args below meth c E hr hnm
  show hm_V p l e (hm_rm 1 0 0) s m args below meth c D (hm_A w s.heap.size) 4 0 0 (MQ below (hm_Qi D w s.heap.size (fun r w2 => r = iI (ct (fun v => mem f v && mem g v) 0 4096 : Nat) ∧ w2 = w)) args s 0 0 (hm_A w s.heap.size)) w 0 [(0, .ref (q)), (1, .ref (q2))] []
  refine hv_iconst E dX2_amountShared_0 rfl ?_
  refine hv_istore_n (lv2 := [(2, .int (iI (0))), (0, .ref (q)), (1, .ref (q2))]) E dX2_amountShared_1 rfl (by decide) rfl rfl ?_
  refine hv_iconst E dX2_amountShared_2 rfl ?_
  refine hv_istore_n (lv2 := [(3, .int (iI (0))), (2, .int (iI (0))), (0, .ref (q)), (1, .ref (q2))]) E dX2_amountShared_3 rfl (by decide) rfl rfl ?_
  have LP : ∀ (k : Nat) (j : Int), (128 - j < (k : Int)) → (0 ≤ j) → (j ≤ 128) → hm_V p l e (hm_rm 1 0 0) s m args below meth c D (hm_A w s.heap.size) 4 0 0 (MQ below (hm_Qi D w s.heap.size (fun r w2 => r = iI (ct (fun v => mem f v && mem g v) 0 4096 : Nat) ∧ w2 = w)) args s 0 0 (hm_A w s.heap.size)) w 4 [(3, .int (iI (j))), (2, .int (iI ((ct (fun v => mem f v && mem g v) 0 (32 * j.toNat) : Nat)))), (0, .ref (q)), (1, .ref (q2))] [] := by
    intro k
    induction k with
    | zero =>
      intro j hk g0 g1
      exact absurd hk (by omega)
    | succ k ih =>
      intro j hk g0 g1
      refine hv_iload_n E dX2_amountShared_4 rfl 0 rfl rfl ?_
      refine hv_sipush E dX2_amountShared_5 (by decide +kernel) rfl ?_
      refine hv_icmp_ge E 36 dX2_amountShared_8 (by decide) ⟨by omega, by omega⟩ ⟨by omega, by omega⟩ rfl (fun h3 => ?_) (fun h3 => ?_)
      · refine hv_iload_n E dX2_amountShared_36 rfl 1 rfl rfl ?_
        exact hv_iret E dX2_amountShared_37 hr ⟨by rw [show 32 * j.toNat = 4096 by omega], rfl⟩
      · refine hv_iload_n E dX2_amountShared_11 rfl 1 rfl rfl ?_
        refine hv_aload_n E dX2_amountShared_12 rfl 2 rfl rfl ?_
        refine hv_get (kf := 0) E dX2_amountShared_13 (show vwCl[1]? = some (RX2, TX2, 1) from rfl) (by decide) gW_X2 gF_X2_9 rfl hn.1 rfl rfl ?_
        refine hv_iload_n E dX2_amountShared_16 rfl 0 rfl rfl ?_
        refine hv_iald E dX2_amountShared_17 hn.2 (by omega) (by omega) (by decide) rfl ?_
        refine hv_aload_n E dX2_amountShared_18 rfl 3 rfl rfl ?_
        refine hv_get (kf := 0) E dX2_amountShared_19 (show vwCl[1]? = some (RX2, TX2, 1) from rfl) (by decide) gW_X2 gF_X2_9 rfl hn2.1 rfl rfl ?_
        refine hv_iload_n E dX2_amountShared_22 rfl 0 rfl rfl ?_
        refine hv_iald E dX2_amountShared_23 hn2.2 (by omega) (by omega) (by decide) rfl ?_
        refine hv_iandR E dX2_amountShared_24 rfl ?_
        refine hv_callSI (na := 1) (As := [.int ((f j.toNat) &&& (g j.toNat))]) (st := [.int (iI ((ct (fun v => mem f v && mem g v) 0 (32 * j.toNat) : Nat)))]) E (cJ_bitCount l D K ((f j.toNat) &&& (g j.toNat))) dX2_amountShared_25 gL_X2_26 gS_J6_bitCount_0f7a4 gC_J6_bitCount_0f7a4 gZ_J6 (by decide +kernel) rfl ⟨Nat.le_of_ble_eq_true rfl, Nat.le_of_ble_eq_true rfl⟩ (Nat.le_of_ble_eq_true rfl) ⟨Nat.zero_le _, Nat.zero_le _⟩ rfl rfl (fun r w2 hp => ?_)
        rw [hp.1, hp.2]
        show hm_V p l e (hm_rm 1 0 0) s m args below meth c D (hm_A w s.heap.size) 4 0 0 (MQ below (hm_Qi D w s.heap.size (fun r w2 => r = iI (ct (fun v => mem f v && mem g v) 0 4096 : Nat) ∧ w2 = w)) args s 0 0 (hm_A w s.heap.size)) w 28 [(3, .int (iI (j))), (2, .int (iI ((ct (fun v => mem f v && mem g v) 0 (32 * j.toNat) : Nat)))), (0, .ref (q)), (1, .ref (q2))] [.int (iI ((ct (bt ((f j.toNat) &&& (g j.toNat))) 0 32 : Nat))), .int (iI ((ct (fun v => mem f v && mem g v) 0 (32 * j.toNat) : Nat)))]
        refine hv_iadd E dX2_amountShared_28 rfl ?_
        refine hv_topi (show iI (((ct (fun v => mem f v && mem g v) 0 (32 * j.toNat) : Nat)) + ((ct (bt ((f j.toNat) &&& (g j.toNat))) 0 32 : Nat))) = iI ((ct (fun v => mem f v && mem g v) 0 (32 * (j + 1).toNat) : Nat)) from (by
              rw [show 32 * (j + 1).toNat = 32 * j.toNat + 32 by omega, ct_add, Nat.zero_add, ct_both]
              congr 1)) ?_
        refine hv_istore_n (lv2 := [(2, .int (iI ((ct (fun v => mem f v && mem g v) 0 (32 * (j + 1).toNat) : Nat)))), (3, .int (iI (j))), (0, .ref (q)), (1, .ref (q2))]) E dX2_amountShared_29 rfl (by decide) rfl rfl ?_
        refine hv_iinc (lv2 := [(3, .int (iI (j + 1))), (2, .int (iI ((ct (fun v => mem f v && mem g v) 0 (32 * (j + 1).toNat) : Nat)))), (0, .ref (q)), (1, .ref (q2))]) E dX2_amountShared_30 1 rfl rfl (by decide) rfl rfl ?_
        refine hv_goto E 4 dX2_amountShared_33 (by decide) ?_
        refine hv_sub (lv2 := [(3, .int (iI (j + 1))), (2, .int (iI ((ct (fun v => mem f v && mem g v) 0 (32 * (j + 1).toNat) : Nat)))), (0, .ref (q)), (1, .ref (q2))]) [0, 1, 2, 3] rfl ?_
        exact ih (j + 1) (by omega) (by omega) (by omega)
  refine hv_sub (lv2 := [(3, .int (iI (0))), (2, .int (iI (0))), (0, .ref (q)), (1, .ref (q2))]) [0, 1, 2, 3] rfl ?_
  exact LP 129 0 (by omega) (by omega) (by omega)
set_option maxHeartbeats 4000000 in
set_option maxRecDepth 100000 in
theorem c2_nthOne (l : Launch) (D : va_G) (K : Nat → ClassId) {w : hm_M} (x : Int32) (n : Int) (h0 : 0 ≤ n) (h1 : n < (ct (bt x) 0 32 : Nat))  : hm_Ci l D K yX2_nthOne cX2_nthOne 4 .int 1 [.int (x), .int (iI (n))] w 0 0 (fun r w2 => (∃ p : Nat, p < 32 ∧ bt x p = true ∧ (ct (bt x) 0 p : Int) = n ∧ r = iI (p : Int)) ∧ w2 = w) := by
  refine hm_enterI (by decide) (Nat.le_of_ble_eq_true rfl) ?_
  intro p e s m args below meth c E hr hnm
  show hm_V p l e (hm_rm 1 0 0) s m args below meth c D (hm_A w s.heap.size) 4 0 0 (MQ below (hm_Qi D w s.heap.size (fun r w2 => (∃ p : Nat, p < 32 ∧ bt x p = true ∧ (ct (bt x) 0 p : Int) = n ∧ r = iI (p : Int)) ∧ w2 = w)) args s 0 0 (hm_A w s.heap.size)) w 0 [(0, .int (x)), (1, .int (iI (n)))] []
  have hle := ct_le (bt x) 0 32
  refine hv_iload_n E dX2_nthOne_0 rfl 0 rfl rfl ?_
  refine hv_istore_n (lv2 := [(2, .int (x)), (0, .int (x)), (1, .int (iI (n)))]) E dX2_nthOne_1 rfl (by decide) rfl rfl ?_
  refine hv_iconst E dX2_nthOne_2 rfl ?_
  refine hv_istore_n (lv2 := [(3, .int (iI (0))), (2, .int (x)), (0, .int (x)), (1, .int (iI (n)))]) E dX2_nthOne_3 rfl (by decide) rfl rfl ?_
  have LP : ∀ (k : Nat) (j : Int) (y : Int32), (n - j < (k : Int)) → (0 ≤ j) → (j ≤ n) → (∀ i, bt y i = (bt x i && decide (j.toNat ≤ ct (bt x) 0 i))) → hm_V p l e (hm_rm 1 0 0) s m args below meth c D (hm_A w s.heap.size) 4 0 0 (MQ below (hm_Qi D w s.heap.size (fun r w2 => (∃ p : Nat, p < 32 ∧ bt x p = true ∧ (ct (bt x) 0 p : Int) = n ∧ r = iI (p : Int)) ∧ w2 = w)) args s 0 0 (hm_A w s.heap.size)) w 4 [(3, .int (iI (j))), (2, .int (y)), (0, .int (x)), (1, .int (iI (n)))] [] := by
    intro k
    induction k with
    | zero =>
      intro j y hk g0 g1 hy
      exact absurd hk (by omega)
    | succ k ih =>
      intro j y hk g0 g1 hy
      obtain ⟨pp, hp1, hp2, hp3⟩ := ct_lt_of (S := bt x) (n := 32) (i := j.toNat) (by omega)
      have hl1 : bt y pp = true := by rw [hy, hp2, decide_eq_true (by omega)]; rfl
      have hl2 : ∀ i, i < pp → bt y i = false := fun i hi => by
        rw [hy]
        cases e2 : bt x i with
        | false => rfl
        | true =>
          have := ct_step (S := bt x) (a := 0) hi (by rw [Nat.zero_add]; exact e2)
          rw [decide_eq_false (by omega)]; rfl
      refine hv_iload_n E dX2_nthOne_4 rfl 0 rfl rfl ?_
      refine hv_iload_n E dX2_nthOne_5 rfl 3 rfl rfl ?_
      refine hv_icmp_ge E 21 dX2_nthOne_6 (by decide) ⟨by omega, by omega⟩ ⟨by omega, by omega⟩ rfl (fun h3 => ?_) (fun h3 => ?_)
      · refine hv_iload_n E dX2_nthOne_21 rfl 1 rfl rfl ?_
        refine hv_iload_n E dX2_nthOne_22 rfl 1 rfl rfl ?_
        refine hv_inegR E dX2_nthOne_23 rfl ?_
        refine hv_iandR E dX2_nthOne_24 rfl ?_
        refine hv_iconst E dX2_nthOne_25 rfl ?_
        refine hv_isubR E dX2_nthOne_26 rfl ?_
        refine hv_callSI (na := 1) (As := [.int ((y &&& (-y)) - (iI (1)))]) (st := []) E (cJ_bitCount l D K ((y &&& (-y)) - (iI (1)))) dX2_nthOne_27 gL_X2_26 gS_J6_bitCount_0f7a4 gC_J6_bitCount_0f7a4 gZ_J6 (by decide +kernel) rfl ⟨Nat.le_of_ble_eq_true rfl, Nat.le_of_ble_eq_true rfl⟩ (Nat.le_of_ble_eq_true rfl) ⟨Nat.zero_le _, Nat.zero_le _⟩ rfl rfl (fun r w2 hp => ?_)
        rw [hp.1, hp.2]
        show hm_V p l e (hm_rm 1 0 0) s m args below meth c D (hm_A w s.heap.size) 4 0 0 (MQ below (hm_Qi D w s.heap.size (fun r w2 => (∃ p : Nat, p < 32 ∧ bt x p = true ∧ (ct (bt x) 0 p : Int) = n ∧ r = iI (p : Int)) ∧ w2 = w)) args s 0 0 (hm_A w s.heap.size)) w 30 [(3, .int (iI (j))), (2, .int (y)), (0, .int (x)), (1, .int (iI (n)))] [.int (iI ((ct (bt ((y &&& (-y)) - (iI (1)))) 0 32 : Nat)))]
        exact hv_iret E dX2_nthOne_30 hr ⟨⟨pp, hp1, hp2, by omega, by rw [low_neg hp1 hl1 hl2, low_ct hp1]⟩, rfl⟩
      · refine hv_iload_n E dX2_nthOne_9 rfl 1 rfl rfl ?_
        refine hv_iload_n E dX2_nthOne_10 rfl 1 rfl rfl ?_
        refine hv_iconst E dX2_nthOne_11 rfl ?_
        refine hv_isubR E dX2_nthOne_12 rfl ?_
        refine hv_iandR E dX2_nthOne_13 rfl ?_
        refine hv_istore_n (lv2 := [(2, .int (y &&& (y - (iI (1))))), (3, .int (iI (j))), (0, .int (x)), (1, .int (iI (n)))]) E dX2_nthOne_14 rfl (by decide) rfl rfl ?_
        refine hv_iinc (lv2 := [(3, .int (iI (j + 1))), (2, .int (y &&& (y - (iI (1))))), (0, .int (x)), (1, .int (iI (n)))]) E dX2_nthOne_15 1 rfl rfl (by decide) rfl rfl ?_
        refine hv_goto E 4 dX2_nthOne_18 (by decide) ?_
        refine hv_sub (lv2 := [(3, .int (iI (j + 1))), (2, .int (y &&& (y - (iI (1))))), (0, .int (x)), (1, .int (iI (n)))]) [0, 1, 2, 3] rfl ?_
        exact ih (j + 1) (y &&& (y - iI 1)) (by omega) (by omega) (by omega) (fun i => by
            rw [low_and hl1 hl2, hy]
            cases e2 : bt x i with
            | false => rfl
            | true =>
              rcases (show i < pp ∨ i = pp ∨ pp < i by omega) with z | z | z
              · have := ct_step (S := bt x) (a := 0) z (by rw [Nat.zero_add]; exact e2)
                rw [decide_eq_false (show ¬ j.toNat ≤ ct (bt x) 0 i by omega), decide_eq_false (show ¬ (j + 1).toNat ≤ ct (bt x) 0 i by omega)]; rfl
              · subst z
                rw [decide_eq_false (show ¬ (j + 1).toNat ≤ ct (bt x) 0 i by omega)]; simp
              · have := ct_step (S := bt x) (a := 0) z (by rw [Nat.zero_add]; exact hp2)
                rw [decide_eq_true (show j.toNat ≤ ct (bt x) 0 i by omega), decide_eq_true (show (j + 1).toNat ≤ ct (bt x) 0 i by omega), decide_eq_true (show i ≠ pp by omega)]; rfl)
  refine hv_sub (lv2 := [(3, .int (iI (0))), (2, .int (x)), (0, .int (x)), (1, .int (iI (n)))]) [0, 1, 2, 3] rfl ?_
  exact LP (n + 1).toNat 0 x (by omega) (by omega) (by omega) (fun i => by simp)
set_option maxHeartbeats 4000000 in
set_option maxRecDepth 100000 in
theorem c2_nth (l : Launch) (D : va_G) (K : Nat → ClassId) {w : hm_M} {q wd : Nat} {f : Nat → Int32} (n : Int) (hb : iB n) (hn : nAt K w q wd f)  : hm_Ci l D K yX2_nth cX2_nth 5 .int 2 [.ref (q), .int (iI (n))] w 0 0 (fun r w2 => (∃ z : Int, isNth (mem f) 4096 n z ∧ r = iI z) ∧ w2 = w) := by
  refine hm_enterI (by decide) (Nat.le_of_ble_eq_true rfl) ?_
  intro p e s m args below meth c E hr hnm
  show hm_V p l e (hm_rm 2 0 0) s m args below meth c D (hm_A w s.heap.size) 5 0 0 (MQ below (hm_Qi D w s.heap.size (fun r w2 => (∃ z : Int, isNth (mem f) 4096 n z ∧ r = iI z) ∧ w2 = w)) args s 0 0 (hm_A w s.heap.size)) w 0 [(0, .ref (q)), (1, .int (iI (n)))] []
  have hb1 := hb.1
  have hb2 := hb.2
  refine hv_iload_n E dX2_nth_0 rfl 1 rfl rfl ?_
  refine hv_if_ge E 6 dX2_nth_1 (by decide) ⟨by omega, by omega⟩ rfl (fun h1 => ?_) (fun h1 => ?_)
  · refine hv_iconst E dX2_nth_6 rfl ?_
    refine hv_istore_n (lv2 := [(2, .int (iI (0))), (0, .ref (q)), (1, .int (iI (n)))]) E dX2_nth_7 rfl (by decide) rfl rfl ?_
    refine hv_iconst E dX2_nth_8 rfl ?_
    refine hv_istore_n (lv2 := [(3, .int (iI (0))), (2, .int (iI (0))), (0, .ref (q)), (1, .int (iI (n)))]) E dX2_nth_9 rfl (by decide) rfl rfl ?_
    have LP : ∀ (k : Nat) (j : Int), (128 - j < (k : Int)) → (0 ≤ j) → (j ≤ 128) → ((ct (mem f) 0 (32 * j.toNat) : Int) ≤ n) → hm_V p l e (hm_rm 2 0 0) s m args below meth c D (hm_A w s.heap.size) 5 0 0 (MQ below (hm_Qi D w s.heap.size (fun r w2 => (∃ z : Int, isNth (mem f) 4096 n z ∧ r = iI z) ∧ w2 = w)) args s 0 0 (hm_A w s.heap.size)) w 10 [(3, .int (iI (j))), (2, .int (iI ((ct (mem f) 0 (32 * j.toNat) : Nat)))), (0, .ref (q)), (1, .int (iI (n)))] [] := by
      intro k
      induction k with
      | zero =>
        intro j hk g0 g1 g2
        exact absurd hk (by omega)
      | succ k ih =>
        intro j hk g0 g1 g2
        have hc := ct_le (mem f) 0 (32 * j.toNat)
        refine hv_iload_n E dX2_nth_10 rfl 0 rfl rfl ?_
        refine hv_sipush E dX2_nth_11 (by decide +kernel) rfl ?_
        refine hv_icmp_ge E 65 dX2_nth_14 (by decide) ⟨by omega, by omega⟩ ⟨by omega, by omega⟩ rfl (fun h3 => ?_) (fun h3 => ?_)
        · refine hv_iconst E dX2_nth_65 rfl ?_
          exact hv_iret E dX2_nth_66 hr ⟨⟨-1, Or.inl ⟨rfl, Or.inr (by rw [show 32 * j.toNat = 4096 by omega] at g2; exact g2)⟩, rfl⟩, rfl⟩
        · refine hv_aload_n E dX2_nth_17 rfl 2 rfl rfl ?_
          refine hv_get (kf := 0) E dX2_nth_18 (show vwCl[1]? = some (RX2, TX2, 1) from rfl) (by decide) gW_X2 gF_X2_9 rfl hn.1 rfl rfl ?_
          refine hv_iload_n E dX2_nth_21 rfl 0 rfl rfl ?_
          refine hv_iald E dX2_nth_22 hn.2 (by omega) (by omega) (by decide) rfl ?_
          refine hv_callSI (na := 1) (As := [.int (f j.toNat)]) (st := []) E (cJ_bitCount l D K (f j.toNat)) dX2_nth_23 gL_X2_26 gS_J6_bitCount_0f7a4 gC_J6_bitCount_0f7a4 gZ_J6 (by decide +kernel) rfl ⟨Nat.le_of_ble_eq_true rfl, Nat.le_of_ble_eq_true rfl⟩ (Nat.le_of_ble_eq_true rfl) ⟨Nat.zero_le _, Nat.zero_le _⟩ rfl rfl (fun r w2 hp => ?_)
          rw [hp.1, hp.2]
          show hm_V p l e (hm_rm 2 0 0) s m args below meth c D (hm_A w s.heap.size) 5 0 0 (MQ below (hm_Qi D w s.heap.size (fun r w2 => (∃ z : Int, isNth (mem f) 4096 n z ∧ r = iI z) ∧ w2 = w)) args s 0 0 (hm_A w s.heap.size)) w 26 [(3, .int (iI (j))), (2, .int (iI ((ct (mem f) 0 (32 * j.toNat) : Nat)))), (0, .ref (q)), (1, .int (iI (n)))] [.int (iI ((ct (bt (f j.toNat)) 0 32 : Nat)))]
          have hd := ct_le (bt (f j.toNat)) 0 32
          have he := ct_add (mem f) 0 (32 * j.toNat) 32
          rw [Nat.zero_add, ct_word f j.toNat 32 (by omega)] at he
          refine hv_istore (lv2 := [(4, .int (iI ((ct (bt (f j.toNat)) 0 32 : Nat)))), (3, .int (iI (j))), (2, .int (iI ((ct (mem f) 0 (32 * j.toNat) : Nat)))), (0, .ref (q)), (1, .int (iI (n)))]) E dX2_nth_26 (by decide) rfl rfl ?_
          refine hv_iload_n E dX2_nth_28 rfl 4 rfl rfl ?_
          refine hv_iload_n E dX2_nth_29 rfl 2 rfl rfl ?_
          refine hv_isub E dX2_nth_30 rfl ?_
          refine hv_iload E dX2_nth_31 0 rfl rfl ?_
          refine hv_icmp_ge E 54 dX2_nth_33 (by decide) ⟨by omega, by omega⟩ ⟨by omega, by omega⟩ rfl (fun h4 => ?_) (fun h4 => ?_)
          · refine hv_iload_n E dX2_nth_54 rfl 2 rfl rfl ?_
            refine hv_iload E dX2_nth_55 0 rfl rfl ?_
            refine hv_iadd E dX2_nth_57 rfl ?_
            refine hv_topi (show iI (((ct (mem f) 0 (32 * j.toNat) : Nat)) + ((ct (bt (f j.toNat)) 0 32 : Nat))) = iI ((ct (mem f) 0 (32 * (j + 1).toNat) : Nat)) from (by rw [show 32 * (j + 1).toNat = 32 * j.toNat + 32 by omega, he]; congr 1)) ?_
            refine hv_istore_n (lv2 := [(2, .int (iI ((ct (mem f) 0 (32 * (j + 1).toNat) : Nat)))), (4, .int (iI ((ct (bt (f j.toNat)) 0 32 : Nat)))), (3, .int (iI (j))), (0, .ref (q)), (1, .int (iI (n)))]) E dX2_nth_58 rfl (by decide) rfl rfl ?_
            refine hv_iinc (lv2 := [(3, .int (iI (j + 1))), (2, .int (iI ((ct (mem f) 0 (32 * (j + 1).toNat) : Nat)))), (4, .int (iI ((ct (bt (f j.toNat)) 0 32 : Nat)))), (0, .ref (q)), (1, .int (iI (n)))]) E dX2_nth_59 2 rfl rfl (by decide) rfl rfl ?_
            refine hv_goto E 10 dX2_nth_62 (by decide) ?_
            refine hv_sub (lv2 := [(3, .int (iI (j + 1))), (2, .int (iI ((ct (mem f) 0 (32 * (j + 1).toNat) : Nat)))), (0, .ref (q)), (1, .int (iI (n)))]) [0, 1, 3, 4] rfl ?_
            exact ih (j + 1) (by omega) (by omega) (by omega) (by rw [show 32 * (j + 1).toNat = 32 * j.toNat + 32 by omega, he]; omega)
          · refine hv_iload_n E dX2_nth_36 rfl 1 rfl rfl ?_
            refine hv_bipush E dX2_nth_37 (by decide +kernel) rfl ?_
            refine hv_imul E dX2_nth_39 rfl ?_
            refine hv_aload_n E dX2_nth_40 rfl 3 rfl rfl ?_
            refine hv_get (kf := 0) E dX2_nth_41 (show vwCl[1]? = some (RX2, TX2, 1) from rfl) (by decide) gW_X2 gF_X2_9 rfl hn.1 rfl rfl ?_
            refine hv_iload_n E dX2_nth_44 rfl 1 rfl rfl ?_
            refine hv_iald E dX2_nth_45 hn.2 (by omega) (by omega) (by decide) rfl ?_
            refine hv_iload_n E dX2_nth_46 rfl 4 rfl rfl ?_
            refine hv_iload_n E dX2_nth_47 rfl 2 rfl rfl ?_
            refine hv_isub E dX2_nth_48 rfl ?_
            refine hv_callSI (na := 2) (As := [.int (f j.toNat), .int (iI (n - ((ct (mem f) 0 (32 * j.toNat) : Nat))))]) (st := [.int (iI (j * 32))]) E (c2_nthOne l D K (f j.toNat) (n - (ct (mem f) 0 (32 * j.toNat) : Nat)) (by omega) (by omega)) dX2_nth_49 gL_X2_31 gS_X2_nthOne gC_X2_nthOne gZ_X2 (by decide +kernel) rfl ⟨Nat.le_of_ble_eq_true rfl, Nat.le_of_ble_eq_true rfl⟩ (Nat.le_of_ble_eq_true rfl) ⟨Nat.zero_le _, Nat.zero_le _⟩ rfl rfl (fun r w2 hp => ?_)
            obtain ⟨⟨pp, p1, p2, p3, p4⟩, p5⟩ := hp
            rw [p4, p5]
            show hm_V p l e (hm_rm 2 0 0) s m args below meth c D (hm_A w s.heap.size) 5 0 0 (MQ below (hm_Qi D w s.heap.size (fun r w2 => (∃ z : Int, isNth (mem f) 4096 n z ∧ r = iI z) ∧ w2 = w)) args s 0 0 (hm_A w s.heap.size)) w 52 [(4, .int (iI ((ct (bt (f j.toNat)) 0 32 : Nat)))), (3, .int (iI (j))), (2, .int (iI ((ct (mem f) 0 (32 * j.toNat) : Nat)))), (0, .ref (q)), (1, .int (iI (n)))] [.int (iI ((pp : Int))), .int (iI (j * 32))]
            refine hv_iadd E dX2_nth_52 rfl ?_
            exact hv_iret E dX2_nth_53 hr ⟨⟨j * 32 + pp, Or.inr ⟨by omega, by omega, by
                    rw [show (j * 32 + (pp : Int)).toNat = 32 * j.toNat + pp by omega, mem_at f _ _ p1]; exact p2, by
                    rw [show (j * 32 + (pp : Int)).toNat = 32 * j.toNat + pp by omega, ct_add, Nat.zero_add, ct_word f _ _ (by omega)]; omega⟩, rfl⟩, rfl⟩
    refine hv_sub (lv2 := [(3, .int (iI (0))), (2, .int (iI (0))), (0, .ref (q)), (1, .int (iI (n)))]) [0, 1, 2, 3] rfl ?_
    exact LP 129 0 (by omega) (by omega) (by omega) (by show ((0 : Nat) : Int) ≤ n; omega)
  · refine hv_iconst E dX2_nth_4 rfl ?_
    exact hv_iret E dX2_nth_5 hr ⟨⟨-1, Or.inl ⟨rfl, Or.inl h1⟩, rfl⟩, rfl⟩
set_option maxHeartbeats 4000000 in
set_option maxRecDepth 100000 in
theorem c2_leastFrom (l : Launch) (D : va_G) (K : Nat → ClassId) {w : hm_M} {q wd : Nat} {f : Nat → Int32} (v : Int) (h0 : 0 ≤ v) (h1 : v ≤ 4096) (hn : nAt K w q wd f)  : hm_Ci l D K yX2_leastFrom cX2_leastFrom 5 .int 2 [.ref (q), .int (iI (v))] w 0 0 (fun r w2 => (∃ z : Int, isNext (mem f) 4096 v z ∧ r = iI z) ∧ w2 = w) := by
  refine hm_enterI (by decide) (Nat.le_of_ble_eq_true rfl) ?_
  intro p e s m args below meth c E hr hnm
  show hm_V p l e (hm_rm 2 0 0) s m args below meth c D (hm_A w s.heap.size) 5 0 0 (MQ below (hm_Qi D w s.heap.size (fun r w2 => (∃ z : Int, isNext (mem f) 4096 v z ∧ r = iI z) ∧ w2 = w)) args s 0 0 (hm_A w s.heap.size)) w 0 [(0, .ref (q)), (1, .int (iI (v)))] []
  refine hv_iload_n E dX2_leastFrom_0 rfl 1 rfl rfl ?_
  refine hv_callSNI (na := 1) (As := [.int (iI (v))]) (st := []) E (c6_isNumber l D K v ⟨by omega, by omega⟩) dX2_leastFrom_1 gN_X2_15 gS_X6_isNumber gC_X6_isNumber gZ_X6 (by decide +kernel) rfl ⟨Nat.le_of_ble_eq_true rfl, Nat.le_of_ble_eq_true rfl⟩ (Nat.le_of_ble_eq_true rfl) ⟨Nat.zero_le _, Nat.zero_le _⟩ rfl rfl (fun r w2 hp => ?_)
  rw [hp.1, hp.2]
  show hm_V p l e (hm_rm 2 0 0) s m args below meth c D (hm_A w s.heap.size) 5 0 0 (MQ below (hm_Qi D w s.heap.size (fun r w2 => (∃ z : Int, isNext (mem f) 4096 v z ∧ r = iI z) ∧ w2 = w)) args s 0 0 (hm_A w s.heap.size)) w 4 [(0, .ref (q)), (1, .int (iI (v)))] [.int (bI (decide (0 ≤ v ∧ v < 4096)))]
  refine hv_if_neB E 9 dX2_leastFrom_4 (by decide) rfl (fun h2 => ?_) (fun h2 => ?_)
  · have h3 := of_decide_eq_true h2
    refine hv_iconst E dX2_leastFrom_9 rfl ?_
    refine hv_iload_n E dX2_leastFrom_10 rfl 1 rfl rfl ?_
    refine hv_bipush E dX2_leastFrom_11 (by decide +kernel) rfl ?_
    refine hv_iandR E dX2_leastFrom_13 rfl ?_
    refine hv_topi (show (iI (v)) &&& (iI (31)) = iI (v % 32) from iI_and31 v) ?_
    refine hv_ishlR E dX2_leastFrom_14 rfl rfl ?_
    refine hv_topi (show (iI ((-1))) <<< ((iI (v % 32)) &&& 31) = iI (-1) <<< (iI (((v % 32).toNat : Nat) : Int) &&& 31) from (by rw [Int.toNat_of_nonneg (show 0 ≤ v % 32 by omega)])) ?_
    refine hv_istore_n (lv2 := [(2, .int (iI (-1) <<< (iI (((v % 32).toNat : Nat) : Int) &&& 31))), (0, .ref (q)), (1, .int (iI (v)))]) E dX2_leastFrom_15 rfl (by decide) rfl rfl ?_
    refine hv_iload_n E dX2_leastFrom_16 rfl 2 rfl rfl ?_
    refine hv_iconst E dX2_leastFrom_17 rfl ?_
    refine hv_ishrR E dX2_leastFrom_18 rfl rfl ?_
    refine hv_topi (show (iI (v)) >>> ((iI (5)) &&& 31) = iI (v / 32) from iI_shr5 ⟨by omega, by omega⟩) ?_
    refine hv_istore_n (lv2 := [(3, .int (iI (v / 32))), (2, .int (iI (-1) <<< (iI (((v % 32).toNat : Nat) : Int) &&& 31))), (0, .ref (q)), (1, .int (iI (v)))]) E dX2_leastFrom_19 rfl (by decide) rfl rfl ?_
    have LP : ∀ (k : Nat) (j : Int) (mk : Int32), (128 - j < (k : Int)) → (v / 32 ≤ j) → (j ≤ 128) → (∀ i, i < 32 → bt mk i = decide (v ≤ 32 * j + (i : Int))) → (∀ u : Nat, v ≤ (u : Int) → (u : Int) < 32 * j → mem f u = false) → hm_V p l e (hm_rm 2 0 0) s m args below meth c D (hm_A w s.heap.size) 5 0 0 (MQ below (hm_Qi D w s.heap.size (fun r w2 => (∃ z : Int, isNext (mem f) 4096 v z ∧ r = iI z) ∧ w2 = w)) args s 0 0 (hm_A w s.heap.size)) w 20 [(3, .int (iI (j))), (2, .int (mk)), (0, .ref (q)), (1, .int (iI (v)))] [] := by
      intro k
      induction k with
      | zero =>
        intro j mk hk g0 g1 hm hz
        exact absurd hk (by omega)
      | succ k ih =>
        intro j mk hk g0 g1 hm hz
        refine hv_iload_n E dX2_leastFrom_20 rfl 0 rfl rfl ?_
        refine hv_sipush E dX2_leastFrom_21 (by decide +kernel) rfl ?_
        refine hv_icmp_ge E 62 dX2_leastFrom_24 (by decide) ⟨by omega, by omega⟩ ⟨by omega, by omega⟩ rfl (fun h4 => ?_) (fun h4 => ?_)
        · refine hv_iconst E dX2_leastFrom_62 rfl ?_
          exact hv_iret E dX2_leastFrom_63 hr ⟨⟨-1, Or.inl ⟨rfl, fun u a b => hz u a (by omega)⟩, rfl⟩, rfl⟩
        · refine hv_aload_n E dX2_leastFrom_27 rfl 2 rfl rfl ?_
          refine hv_get (kf := 0) E dX2_leastFrom_28 (show vwCl[1]? = some (RX2, TX2, 1) from rfl) (by decide) gW_X2 gF_X2_9 rfl hn.1 rfl rfl ?_
          refine hv_iload_n E dX2_leastFrom_31 rfl 0 rfl rfl ?_
          refine hv_iald E dX2_leastFrom_32 hn.2 (by omega) (by omega) (by decide) rfl ?_
          refine hv_iload_n E dX2_leastFrom_33 rfl 1 rfl rfl ?_
          refine hv_iandR E dX2_leastFrom_34 rfl ?_
          refine hv_istore (lv2 := [(4, .int ((f j.toNat) &&& mk)), (3, .int (iI (j))), (2, .int (mk)), (0, .ref (q)), (1, .int (iI (v)))]) E dX2_leastFrom_35 (by decide) rfl rfl ?_
          refine hv_iload E dX2_leastFrom_37 0 rfl rfl ?_
          have hbt : ∀ i, i < 32 → bt ((f j.toNat) &&& mk) i = (mem f (32 * j.toNat + i) && decide (v ≤ 32 * j + (i : Int))) := fun i hi => by rw [b_and, hm i hi, mem_at f _ _ hi]
          refine hv_if_eqR E 54 dX2_leastFrom_39 (by decide) rfl (fun h5 => ?_) (fun h5 => ?_)
          · refine hv_iconst E dX2_leastFrom_54 rfl ?_
            refine hv_istore_n (lv2 := [(2, .int (iI ((-1)))), (4, .int ((f j.toNat) &&& mk)), (3, .int (iI (j))), (0, .ref (q)), (1, .int (iI (v)))]) E dX2_leastFrom_55 rfl (by decide) rfl rfl ?_
            refine hv_iinc (lv2 := [(3, .int (iI (j + 1))), (2, .int (iI ((-1)))), (4, .int ((f j.toNat) &&& mk)), (0, .ref (q)), (1, .int (iI (v)))]) E dX2_leastFrom_56 2 rfl rfl (by decide) rfl rfl ?_
            refine hv_goto E 20 dX2_leastFrom_59 (by decide) ?_
            refine hv_sub (lv2 := [(3, .int (iI (j + 1))), (2, .int (iI ((-1)))), (0, .ref (q)), (1, .int (iI (v)))]) [0, 1, 3, 4] rfl ?_
            exact ih (j + 1) (iI (-1)) (by omega) (by omega) (by omega) (fun i hi => by rw [bt_m1 hi, decide_eq_true (by omega)]) (fun u a b => by
                  rcases (show (u : Int) < 32 * j ∨ 32 * j ≤ (u : Int) by omega) with c1 | c1
                  · exact hz u a c1
                  · have h6 := hbt (u - 32 * j.toNat) (by omega)
                    rw [h5, b_0, show 32 * j.toNat + (u - 32 * j.toNat) = u by omega, decide_eq_true (by omega), Bool.and_true] at h6
                    exact h6.symm)
          · refine hv_iload_n E dX2_leastFrom_42 rfl 1 rfl rfl ?_
            refine hv_bipush E dX2_leastFrom_43 (by decide +kernel) rfl ?_
            refine hv_imul E dX2_leastFrom_45 rfl ?_
            refine hv_iload E dX2_leastFrom_46 0 rfl rfl ?_
            refine hv_iconst E dX2_leastFrom_48 rfl ?_
            refine hv_callSI (na := 2) (As := [.int ((f j.toNat) &&& mk), .int (iI (0))]) (st := [.int (iI (j * 32))]) E (c2_nthOne l D K ((f j.toNat) &&& mk) 0 (by omega) (by have := ct_ne0 h5; omega)) dX2_leastFrom_49 gL_X2_31 gS_X2_nthOne gC_X2_nthOne gZ_X2 (by decide +kernel) rfl ⟨Nat.le_of_ble_eq_true rfl, Nat.le_of_ble_eq_true rfl⟩ (Nat.le_of_ble_eq_true rfl) ⟨Nat.zero_le _, Nat.zero_le _⟩ rfl rfl (fun r w2 hp => ?_)
            obtain ⟨⟨pp, p1, p2, p3, p4⟩, p5⟩ := hp
            rw [p4, p5]
            show hm_V p l e (hm_rm 2 0 0) s m args below meth c D (hm_A w s.heap.size) 5 0 0 (MQ below (hm_Qi D w s.heap.size (fun r w2 => (∃ z : Int, isNext (mem f) 4096 v z ∧ r = iI z) ∧ w2 = w)) args s 0 0 (hm_A w s.heap.size)) w 52 [(4, .int ((f j.toNat) &&& mk)), (3, .int (iI (j))), (2, .int (mk)), (0, .ref (q)), (1, .int (iI (v)))] [.int (iI ((pp : Int))), .int (iI (j * 32))]
            refine hv_iadd E dX2_leastFrom_52 rfl ?_
            rw [hbt pp p1, Bool.and_eq_true] at p2
            have p6 := of_decide_eq_true p2.2
            exact hv_iret E dX2_leastFrom_53 hr ⟨⟨j * 32 + pp, Or.inr ⟨by omega, by omega, by omega, by
                    rw [show (j * 32 + (pp : Int)).toNat = 32 * j.toNat + pp by omega]; exact p2.1, fun u a b => by
                    rcases (show (u : Int) < 32 * j ∨ 32 * j ≤ (u : Int) by omega) with c1 | c1
                    · exact hz u a c1
                    · have h6 := hbt (u - 32 * j.toNat) (by omega)
                      rw [show 32 * j.toNat + (u - 32 * j.toNat) = u by omega, decide_eq_true (show v ≤ 32 * j + ((u - 32 * j.toNat : Nat) : Int) by omega), Bool.and_true] at h6
                      rw [← h6]
                      cases e2 : bt ((f j.toNat) &&& mk) (u - 32 * j.toNat) with
                      | false => rfl
                      | true =>
                        have := ct_step (S := bt ((f j.toNat) &&& mk)) (a := 0) (n := u - 32 * j.toNat) (k := pp) (by omega) (by rw [Nat.zero_add]; exact e2)
                        omega⟩, rfl⟩, rfl⟩
    refine hv_sub (lv2 := [(3, .int (iI (v / 32))), (2, .int (iI (-1) <<< (iI (((v % 32).toNat : Nat) : Int) &&& 31))), (0, .ref (q)), (1, .int (iI (v)))]) [0, 1, 2, 3] rfl ?_
    exact LP 129 (v / 32) _ (by omega) (by omega) (by omega) (fun i hi => by
      rw [bt_hi (by omega) hi]
      congr 1
      apply propext
      omega) (fun u a b => by omega)
  · have h3 := of_decide_eq_false h2
    refine hv_iconst E dX2_leastFrom_7 rfl ?_
    exact hv_iret E dX2_leastFrom_8 hr ⟨⟨-1, Or.inl ⟨rfl, fun u a b => by omega⟩, rfl⟩, rfl⟩
end
section
theorem nAt.ne {K : Nat → ClassId} {w : hm_M} {q wd : Nat} {f : Nat → Int32} (h : nAt K w q wd f) : q ≠ wd := fun e => by
  have h1 := h.1
  rw [e, h.2] at h1
  cases h1
theorem nAt.ne2 {K : Nat → ClassId} {w : hm_M} {q wd q2 wd2 : Nat} {f g : Nat → Int32} (h : nAt K w q wd f) (h2 : nAt K w q2 wd2 g) : q2 ≠ wd := fun e => by
  have h1 := h2.1
  rw [e, h.2] at h1
  cases h1
theorem nAt.up {K : Nat → ClassId} {w : hm_M} {q wd : Nat} {f : Nat → Int32} (h : nAt K w q wd f) (g : Nat → Int32) : nAt K (hm_up w wd (.inl (K 0, 128, .inl g))) q wd g := ⟨by rw [hm_un h.ne]; exact h.1, hm_us⟩
theorem nAt.inj {K : Nat → ClassId} {w : hm_M} {q wd q2 : Nat} {f g : Nat → Int32} (h : nAt K w q wd f) (h2 : nAt K w q2 wd g) : g = f := by
  have := h.2.symm.trans h2.2
  cases this
  rfl
theorem bt_one {r i : Nat} (hr : r < 32) (hi : i < 32) : bt (iI 1 <<< (iI (r : Int) &&& 31)) i = decide (i = r) := by
  rw [iI_nI, b_shl r hr _ hi]
  have h1 : ∀ i, i < 32 → bt (iI 1) i = decide (i = 0) := by decide +kernel
  by_cases h : r ≤ i
  · rw [h1 _ (by omega), decide_eq_true h, Bool.true_and]; congr 1; apply propext; omega
  · rw [decide_eq_false h, decide_eq_false (by omega)]; rfl
theorem bt_ur {r i : Nat} (hr : r < 32) (hi : i < 32) : bt ((iI (-1)).toUInt32 >>> ((iI (r : Int)).toUInt32 &&& Int32.toUInt32 31)).toInt32 i = decide (r + i < 32) := by
  rw [iI_nI, b_ushr r hr]
  by_cases h : r + i < 32
  · rw [bt_m1 h, decide_eq_true h]
  · rw [b_big (by omega), decide_eq_false h]
theorem mem_upd (f : Nat → Int32) (j u : Nat) (x : Int32) : mem (upd f j x) u = if u / 32 = j then bt x (u % 32) else mem f u := by
  unfold mem upd
  split <;> rfl
theorem mem_add (f : Nat → Int32) {v : Int} (h0 : 0 ≤ v) (u : Nat) : mem (upd f (v / 32).toNat (f (v / 32).toNat ||| (iI 1 <<< (iI (v % 32) &&& 31)))) u = (mem f u || decide (u = v.toNat)) := by
  rw [mem_upd]
  have hb := bt_one (r := (v % 32).toNat) (i := u % 32) (by omega) (by omega)
  rw [Int.toNat_of_nonneg (show 0 ≤ v % 32 by omega)] at hb
  split
  · rename_i h
    rw [b_or, hb, show (f (v / 32).toNat) = f (u / 32) by rw [h]]
    show (mem f u || _) = _
    congr 1
    congr 1
    apply propext
    omega
  · rw [decide_eq_false (by omega), Bool.or_false]
def jb (n : Int) (x y : Bool) : Bool := if n = 0 then x && y else if n = 1 then x || y else if n = 2 then x && !y else x ^^ y
set_option maxHeartbeats 4000000 in
set_option maxRecDepth 100000 in
theorem c2_add (l : Launch) (D : va_G) (K : Nat → ClassId) {w : hm_M} {q wd : Nat} {f : Nat → Int32} (v : Int) (h0 : 0 ≤ v) (h1 : v < 4096) (hn : nAt K w q wd f)  : hm_Cv l D K yX2_add cX2_add 2 1 [.ref (q), .int (iI (v))] w 0 0 (fun w2 => ∃ f2 : Nat → Int32, w2 = hm_up w wd (.inl (K 0, 128, .inl (f2))) ∧ ∀ u, mem f2 u = (mem f u || decide (u = v.toNat))) := by
  refine hm_enterV (by decide) (Nat.le_of_ble_eq_true rfl) ?_
  intro p e s m args below meth c E hr hnm
  show hm_V p l e (hm_rm 1 0 0) s m args below meth c D (hm_A w s.heap.size) 2 0 0 (MQ below (hm_Qv D w s.heap.size (fun w2 => ∃ f2 : Nat → Int32, w2 = hm_up w wd (.inl (K 0, 128, .inl (f2))) ∧ ∀ u, mem f2 u = (mem f u || decide (u = v.toNat)))) args s 0 0 (hm_A w s.heap.size)) w 0 [(0, .ref (q)), (1, .int (iI (v)))] []
  refine hv_iload_n E dX2_add_0 rfl 1 rfl rfl ?_
  refine hv_callSNI (na := 1) (As := [.int (iI (v))]) (st := []) E (c6_isNumber l D K v ⟨by omega, by omega⟩) dX2_add_1 gN_X2_15 gS_X6_isNumber gC_X6_isNumber gZ_X6 (by decide +kernel) rfl ⟨Nat.le_of_ble_eq_true rfl, Nat.le_of_ble_eq_true rfl⟩ (Nat.le_of_ble_eq_true rfl) ⟨Nat.zero_le _, Nat.zero_le _⟩ rfl rfl (fun r w2 hp => ?_)
  rw [hp.1, hp.2]
  show hm_V p l e (hm_rm 1 0 0) s m args below meth c D (hm_A w s.heap.size) 2 0 0 (MQ below (hm_Qv D w s.heap.size (fun w2 => ∃ f2 : Nat → Int32, w2 = hm_up w wd (.inl (K 0, 128, .inl (f2))) ∧ ∀ u, mem f2 u = (mem f u || decide (u = v.toNat)))) args s 0 0 (hm_A w s.heap.size)) w 4 [(0, .ref (q)), (1, .int (iI (v)))] [.int (bI (decide (0 ≤ v ∧ v < 4096)))]
  refine hv_if_eqB E 24 dX2_add_4 (by decide) rfl (fun h2 => ?_) (fun h2 => ?_)
  · exact absurd (of_decide_eq_false h2) (fun z => z ⟨h0, h1⟩)
  · refine hv_aload_n E dX2_add_7 rfl 0 rfl rfl ?_
    refine hv_get (kf := 0) E dX2_add_8 (show vwCl[1]? = some (RX2, TX2, 1) from rfl) (by decide) gW_X2 gF_X2_9 rfl hn.1 rfl rfl ?_
    refine hv_iload_n E dX2_add_11 rfl 1 rfl rfl ?_
    refine hv_iconst E dX2_add_12 rfl ?_
    refine hv_ishrR E dX2_add_13 rfl rfl ?_
    refine hv_topi (show (iI (v)) >>> ((iI (5)) &&& 31) = iI (v / 32) from iI_shr5 ⟨by omega, by omega⟩) ?_
    refine hv_dup2 E dX2_add_14 rfl rfl rfl ?_
    refine hv_iald E dX2_add_15 hn.2 (by omega) (by omega) (by decide) rfl ?_
    refine hv_iconst E dX2_add_16 rfl ?_
    refine hv_iload_n E dX2_add_17 rfl 1 rfl rfl ?_
    refine hv_bipush E dX2_add_18 (by decide +kernel) rfl ?_
    refine hv_iandR E dX2_add_20 rfl ?_
    refine hv_topi (show (iI (v)) &&& (iI (31)) = iI (v % 32) from iI_and31 v) ?_
    refine hv_ishlR E dX2_add_21 rfl rfl ?_
    refine hv_iorR E dX2_add_22 rfl ?_
    refine hv_iast E dX2_add_23 hn.2 (by omega) (by omega) (by decide) rfl ?_
    exact hv_vret E dX2_add_24 hr ⟨_, rfl, fun u => mem_add f h0 u⟩
set_option maxHeartbeats 4000000 in
set_option maxRecDepth 100000 in
theorem c2_maskInWord (l : Launch) (D : va_G) (K : Nat → ClassId) {w : hm_M} (j x y : Int) (h0 : 0 ≤ x) (h1 : x ≤ y) (h2 : y < 4096) (h3 : x / 32 ≤ j) (h4 : j ≤ y / 32)  : hm_Ci l D K yX2_maskInWord cX2_maskInWord 4 .int 0 [.int (iI (j)), .int (iI (x)), .int (iI (y))] w 0 0 (fun r w2 => (∀ i : Nat, i < 32 → bt r i = decide (x ≤ 32 * j + (i : Int) ∧ 32 * j + (i : Int) ≤ y)) ∧ w2 = w) := by
  refine hm_enterI (by decide) (Nat.le_of_ble_eq_true rfl) ?_
  intro p e s m args below meth c E hr hnm
  show hm_V p l e (hm_rm 0 0 0) s m args below meth c D (hm_A w s.heap.size) 4 0 0 (MQ below (hm_Qi D w s.heap.size (fun r w2 => (∀ i : Nat, i < 32 → bt r i = decide (x ≤ 32 * j + (i : Int) ∧ 32 * j + (i : Int) ≤ y)) ∧ w2 = w)) args s 0 0 (hm_A w s.heap.size)) w 0 [(0, .int (iI (j))), (1, .int (iI (x))), (2, .int (iI (y)))] []
  refine hv_iconst E dX2_maskInWord_0 rfl ?_
  refine hv_istore_n (lv2 := [(3, .int (iI ((-1)))), (0, .int (iI (j))), (1, .int (iI (x))), (2, .int (iI (y)))]) E dX2_maskInWord_1 rfl (by decide) rfl rfl ?_
  refine hv_iload_n E dX2_maskInWord_2 rfl 1 rfl rfl ?_
  refine hv_iload_n E dX2_maskInWord_3 rfl 2 rfl rfl ?_
  refine hv_iconst E dX2_maskInWord_4 rfl ?_
  refine hv_ishrR E dX2_maskInWord_5 rfl rfl ?_
  refine hv_topi (show (iI (x)) >>> ((iI (5)) &&& 31) = iI (x / 32) from iI_shr5 ⟨by omega, by omega⟩) ?_
  refine hv_icmp_ne E 18 dX2_maskInWord_6 (by decide) ⟨by omega, by omega⟩ ⟨by omega, by omega⟩ rfl (fun h5 => ?_) (fun h5 => ?_)
  · refine hv_iload_n E dX2_maskInWord_18 rfl 1 rfl rfl ?_
    refine hv_iload_n E dX2_maskInWord_19 rfl 3 rfl rfl ?_
    refine hv_iconst E dX2_maskInWord_20 rfl ?_
    refine hv_ishrR E dX2_maskInWord_21 rfl rfl ?_
    refine hv_topi (show (iI (y)) >>> ((iI (5)) &&& 31) = iI (y / 32) from iI_shr5 ⟨by omega, by omega⟩) ?_
    refine hv_icmp_ne E 37 dX2_maskInWord_22 (by decide) ⟨by omega, by omega⟩ ⟨by omega, by omega⟩ rfl (fun h6 => ?_) (fun h6 => ?_)
    · refine hv_iload_n E dX2_maskInWord_37 rfl 0 rfl rfl ?_
      exact hv_iret E dX2_maskInWord_38 hr ⟨fun i hi => by
            rw [bt_m1 hi, decide_eq_true (by omega)], rfl⟩
    · refine hv_iload_n E dX2_maskInWord_25 rfl 0 rfl rfl ?_
      refine hv_iconst E dX2_maskInWord_26 rfl ?_
      refine hv_bipush E dX2_maskInWord_27 (by decide +kernel) rfl ?_
      refine hv_iload_n E dX2_maskInWord_29 rfl 3 rfl rfl ?_
      refine hv_bipush E dX2_maskInWord_30 (by decide +kernel) rfl ?_
      refine hv_iandR E dX2_maskInWord_32 rfl ?_
      refine hv_topi (show (iI (y)) &&& (iI (31)) = iI (y % 32) from iI_and31 y) ?_
      refine hv_isub E dX2_maskInWord_33 rfl ?_
      refine hv_topi (show iI (31 - (y % 32)) = iI ((((31 - y % 32).toNat : Nat) : Int)) from (by rw [Int.toNat_of_nonneg (show 0 ≤ 31 - y % 32 by omega)])) ?_
      refine hv_iushrR E dX2_maskInWord_34 rfl rfl ?_
      refine hv_iandR E dX2_maskInWord_35 rfl ?_
      refine hv_istore_n (lv2 := [(3, .int ((iI ((-1))) &&& (((iI ((-1))).toUInt32 >>> ((iI ((((31 - y % 32).toNat : Nat) : Int))).toUInt32 &&& Int32.toUInt32 31)).toInt32))), (0, .int (iI (j))), (1, .int (iI (x))), (2, .int (iI (y)))]) E dX2_maskInWord_36 rfl (by decide) rfl rfl ?_
      refine hv_iload_n E dX2_maskInWord_37 rfl 0 rfl rfl ?_
      exact hv_iret E dX2_maskInWord_38 hr ⟨fun i hi => by
            rw [b_and, bt_m1 hi, bt_ur (by omega) hi, Bool.true_and]
            congr 1; apply propext; omega, rfl⟩
  · refine hv_iload_n E dX2_maskInWord_9 rfl 0 rfl rfl ?_
    refine hv_iconst E dX2_maskInWord_10 rfl ?_
    refine hv_iload_n E dX2_maskInWord_11 rfl 2 rfl rfl ?_
    refine hv_bipush E dX2_maskInWord_12 (by decide +kernel) rfl ?_
    refine hv_iandR E dX2_maskInWord_14 rfl ?_
    refine hv_topi (show (iI (x)) &&& (iI (31)) = iI ((((x % 32).toNat : Nat) : Int)) from (by rw [Int.toNat_of_nonneg (show 0 ≤ x % 32 by omega)]; exact iI_and31 x)) ?_
    refine hv_ishlR E dX2_maskInWord_15 rfl rfl ?_
    refine hv_iandR E dX2_maskInWord_16 rfl ?_
    refine hv_istore_n (lv2 := [(3, .int ((iI ((-1))) &&& ((iI ((-1))) <<< ((iI ((((x % 32).toNat : Nat) : Int))) &&& 31)))), (0, .int (iI (j))), (1, .int (iI (x))), (2, .int (iI (y)))]) E dX2_maskInWord_17 rfl (by decide) rfl rfl ?_
    refine hv_iload_n E dX2_maskInWord_18 rfl 1 rfl rfl ?_
    refine hv_iload_n E dX2_maskInWord_19 rfl 3 rfl rfl ?_
    refine hv_iconst E dX2_maskInWord_20 rfl ?_
    refine hv_ishrR E dX2_maskInWord_21 rfl rfl ?_
    refine hv_topi (show (iI (y)) >>> ((iI (5)) &&& 31) = iI (y / 32) from iI_shr5 ⟨by omega, by omega⟩) ?_
    refine hv_icmp_ne E 37 dX2_maskInWord_22 (by decide) ⟨by omega, by omega⟩ ⟨by omega, by omega⟩ rfl (fun h6 => ?_) (fun h6 => ?_)
    · refine hv_iload_n E dX2_maskInWord_37 rfl 0 rfl rfl ?_
      exact hv_iret E dX2_maskInWord_38 hr ⟨fun i hi => by
            rw [b_and, bt_m1 hi, bt_hi (by omega) hi, Bool.true_and]
            congr 1; apply propext; omega, rfl⟩
    · refine hv_iload_n E dX2_maskInWord_25 rfl 0 rfl rfl ?_
      refine hv_iconst E dX2_maskInWord_26 rfl ?_
      refine hv_bipush E dX2_maskInWord_27 (by decide +kernel) rfl ?_
      refine hv_iload_n E dX2_maskInWord_29 rfl 3 rfl rfl ?_
      refine hv_bipush E dX2_maskInWord_30 (by decide +kernel) rfl ?_
      refine hv_iandR E dX2_maskInWord_32 rfl ?_
      refine hv_topi (show (iI (y)) &&& (iI (31)) = iI (y % 32) from iI_and31 y) ?_
      refine hv_isub E dX2_maskInWord_33 rfl ?_
      refine hv_topi (show iI (31 - (y % 32)) = iI ((((31 - y % 32).toNat : Nat) : Int)) from (by rw [Int.toNat_of_nonneg (show 0 ≤ 31 - y % 32 by omega)])) ?_
      refine hv_iushrR E dX2_maskInWord_34 rfl rfl ?_
      refine hv_iandR E dX2_maskInWord_35 rfl ?_
      refine hv_istore_n (lv2 := [(3, .int (((iI ((-1))) &&& ((iI ((-1))) <<< ((iI ((((x % 32).toNat : Nat) : Int))) &&& 31))) &&& (((iI ((-1))).toUInt32 >>> ((iI ((((31 - y % 32).toNat : Nat) : Int))).toUInt32 &&& Int32.toUInt32 31)).toInt32))), (0, .int (iI (j))), (1, .int (iI (x))), (2, .int (iI (y)))]) E dX2_maskInWord_36 rfl (by decide) rfl rfl ?_
      refine hv_iload_n E dX2_maskInWord_37 rfl 0 rfl rfl ?_
      exact hv_iret E dX2_maskInWord_38 hr ⟨fun i hi => by
            rw [b_and, b_and, bt_m1 hi, bt_hi (by omega) hi, bt_ur (by omega) hi, Bool.true_and, ← Bool.decide_and]
            congr 1; apply propext; omega, rfl⟩
set_option maxHeartbeats 4000000 in
set_option maxRecDepth 100000 in
theorem c2_include (l : Launch) (D : va_G) (K : Nat → ClassId) {w : hm_M} {q wd : Nat} {f : Nat → Int32} (x y : Int) (h0 : 0 ≤ x) (h1 : x ≤ y) (h2 : y < 4096) (hn : nAt K w q wd f)  : hm_Cv l D K yX2_include cX2_include 4 1 [.ref (q), .int (iI (x)), .int (iI (y))] w 0 0 (fun w2 => ∃ f2 : Nat → Int32, w2 = hm_up w wd (.inl (K 0, 128, .inl (f2))) ∧ ∀ u : Nat, mem f2 u = (mem f u || decide (x ≤ (u : Int) ∧ (u : Int) ≤ y))) := by
  refine hm_enterV (by decide) (Nat.le_of_ble_eq_true rfl) ?_
  intro p e s m args below meth c E hr hnm
  show hm_V p l e (hm_rm 1 0 0) s m args below meth c D (hm_A w s.heap.size) 4 0 0 (MQ below (hm_Qv D w s.heap.size (fun w2 => ∃ f2 : Nat → Int32, w2 = hm_up w wd (.inl (K 0, 128, .inl (f2))) ∧ ∀ u : Nat, mem f2 u = (mem f u || decide (x ≤ (u : Int) ∧ (u : Int) ≤ y)))) args s 0 0 (hm_A w s.heap.size)) w 0 [(0, .ref (q)), (1, .int (iI (x))), (2, .int (iI (y)))] []
  refine hv_iload_n E dX2_include_0 rfl 1 rfl rfl ?_
  refine hv_iload_n E dX2_include_1 rfl 2 rfl rfl ?_
  refine hv_callSNI (na := 2) (As := [.int (iI (x)), .int (iI (y))]) (st := []) E (c6_isSpan l D K x y ⟨by omega, by omega⟩ ⟨by omega, by omega⟩) dX2_include_2 gN_X2_35 gS_X6_isSpan gC_X6_isSpan gZ_X6 (by decide +kernel) rfl ⟨Nat.le_of_ble_eq_true rfl, Nat.le_of_ble_eq_true rfl⟩ (Nat.le_of_ble_eq_true rfl) ⟨Nat.zero_le _, Nat.zero_le _⟩ rfl rfl (fun r w2 hp => ?_)
  rw [hp.1, hp.2]
  show hm_V p l e (hm_rm 1 0 0) s m args below meth c D (hm_A w s.heap.size) 4 0 0 (MQ below (hm_Qv D w s.heap.size (fun w2 => ∃ f2 : Nat → Int32, w2 = hm_up w wd (.inl (K 0, 128, .inl (f2))) ∧ ∀ u : Nat, mem f2 u = (mem f u || decide (x ≤ (u : Int) ∧ (u : Int) ≤ y)))) args s 0 0 (hm_A w s.heap.size)) w 5 [(0, .ref (q)), (1, .int (iI (x))), (2, .int (iI (y)))] [.int (bI (decide (0 ≤ x ∧ x ≤ y ∧ y < 4096)))]
  refine hv_if_neB E 9 dX2_include_5 (by decide) rfl (fun h3 => ?_) (fun h3 => ?_)
  · refine hv_iload_n E dX2_include_9 rfl 1 rfl rfl ?_
    refine hv_iconst E dX2_include_10 rfl ?_
    refine hv_ishrR E dX2_include_11 rfl rfl ?_
    refine hv_topi (show (iI (x)) >>> ((iI (5)) &&& 31) = iI (x / 32) from iI_shr5 ⟨by omega, by omega⟩) ?_
    refine hv_istore_n (lv2 := [(3, .int (iI (x / 32))), (0, .ref (q)), (1, .int (iI (x))), (2, .int (iI (y)))]) E dX2_include_12 rfl (by decide) rfl rfl ?_
    refine hv_mem (show w = hm_up w wd (.inl (K 0, 128, .inl (f))) from (hm_uid hn.2).symm) ?_
    have LP : ∀ (k : Nat) (j : Int) (g : Nat → Int32), (y / 32 + 1 - j < (k : Int)) → (x / 32 ≤ j) → (j ≤ y / 32 + 1) → (∀ u : Nat, mem g u = (mem f u || decide (x ≤ (u : Int) ∧ (u : Int) ≤ y ∧ (u : Int) < 32 * j))) → hm_V p l e (hm_rm 1 0 0) s m args below meth c D (hm_A w s.heap.size) 4 0 0 (MQ below (hm_Qv D w s.heap.size (fun w2 => ∃ f2 : Nat → Int32, w2 = hm_up w wd (.inl (K 0, 128, .inl (f2))) ∧ ∀ u : Nat, mem f2 u = (mem f u || decide (x ≤ (u : Int) ∧ (u : Int) ≤ y)))) args s 0 0 (hm_A w s.heap.size)) (hm_up w wd (.inl (K 0, 128, .inl (g)))) 13 [(3, .int (iI (j))), (0, .ref (q)), (1, .int (iI (x))), (2, .int (iI (y)))] [] := by
      intro k
      induction k with
      | zero =>
        intro j g hk g0 g1 hg
        exact absurd hk (by omega)
      | succ k ih =>
        intro j g hk g0 g1 hg
        have hn2 := hn.up g
        refine hv_iload_n E dX2_include_13 rfl 0 rfl rfl ?_
        refine hv_iload_n E dX2_include_14 rfl 3 rfl rfl ?_
        refine hv_iconst E dX2_include_15 rfl ?_
        refine hv_ishrR E dX2_include_16 rfl rfl ?_
        refine hv_topi (show (iI (y)) >>> ((iI (5)) &&& 31) = iI (y / 32) from iI_shr5 ⟨by omega, by omega⟩) ?_
        refine hv_icmp_gt E 41 dX2_include_17 (by decide) ⟨by omega, by omega⟩ ⟨by omega, by omega⟩ rfl (fun h4 => ?_) (fun h4 => ?_)
        · exact hv_vret E dX2_include_41 hr ⟨g, rfl, fun u => by rw [hg]; congr 1; congr 1; apply propext; omega⟩
        · refine hv_aload_n E dX2_include_20 rfl 1 rfl rfl ?_
          refine hv_get (kf := 0) E dX2_include_21 (show vwCl[1]? = some (RX2, TX2, 1) from rfl) (by decide) gW_X2 gF_X2_9 rfl hn2.1 rfl rfl ?_
          refine hv_iload_n E dX2_include_24 rfl 0 rfl rfl ?_
          refine hv_dup2 E dX2_include_25 rfl rfl rfl ?_
          refine hv_iald E dX2_include_26 hn2.2 (by omega) (by omega) (by decide) rfl ?_
          refine hv_iload_n E dX2_include_27 rfl 0 rfl rfl ?_
          refine hv_iload_n E dX2_include_28 rfl 2 rfl rfl ?_
          refine hv_iload_n E dX2_include_29 rfl 3 rfl rfl ?_
          refine hv_callSI (na := 3) (As := [.int (iI (j)), .int (iI (x)), .int (iI (y))]) (st := [.int (g j.toNat), .int (iI (j)), .ref (wd)]) E (c2_maskInWord l D K j x y h0 h1 h2 (by omega) (by omega)) dX2_include_30 gL_X2_39 gS_X2_maskInWord gC_X2_maskInWord gZ_X2 (by decide +kernel) rfl ⟨Nat.le_of_ble_eq_true rfl, Nat.le_of_ble_eq_true rfl⟩ (Nat.le_of_ble_eq_true rfl) ⟨Nat.zero_le _, Nat.zero_le _⟩ rfl rfl (fun mk w2 hp => ?_)
          obtain ⟨hm, hw2⟩ := hp
          rw [hw2]
          show hm_V p l e (hm_rm 1 0 0) s m args below meth c D (hm_A w s.heap.size) 4 0 0 (MQ below (hm_Qv D w s.heap.size (fun w2 => ∃ f2 : Nat → Int32, w2 = hm_up w wd (.inl (K 0, 128, .inl (f2))) ∧ ∀ u : Nat, mem f2 u = (mem f u || decide (x ≤ (u : Int) ∧ (u : Int) ≤ y)))) args s 0 0 (hm_A w s.heap.size)) (hm_up w wd (.inl (K 0, 128, .inl (g)))) 33 [(3, .int (iI (j))), (0, .ref (q)), (1, .int (iI (x))), (2, .int (iI (y)))] [.int (mk), .int (g j.toNat), .int (iI (j)), .ref (wd)]
          refine hv_iorR E dX2_include_33 rfl ?_
          refine hv_iast E dX2_include_34 hn2.2 (by omega) (by omega) (by decide) rfl ?_
          refine hv_mem (show hm_up (hm_up w wd (.inl (K 0, 128, .inl (g)))) wd (.inl (K 0, 128, .inl (upd g j.toNat ((g j.toNat) ||| mk)))) = hm_up w wd (.inl (K 0, 128, .inl (upd g j.toNat ((g j.toNat) ||| mk)))) from hm_uu) ?_
          refine hv_iinc (lv2 := [(3, .int (iI (j + 1))), (0, .ref (q)), (1, .int (iI (x))), (2, .int (iI (y)))]) E dX2_include_35 0 rfl rfl (by decide) rfl rfl ?_
          refine hv_goto E 13 dX2_include_38 (by decide) ?_
          refine hv_sub (lv2 := [(3, .int (iI (j + 1))), (0, .ref (q)), (1, .int (iI (x))), (2, .int (iI (y)))]) [0, 1, 2, 3] rfl ?_
          exact ih (j + 1) _ (by omega) (by omega) (by omega) (fun u => by
                rw [mem_upd]
                split
                · rename_i hu
                  rw [b_or, hm _ (by omega), ← hu]
                  show (mem g u || decide _) = _
                  rw [hg u, decide_eq_false (show ¬ (x ≤ (u : Int) ∧ (u : Int) ≤ y ∧ (u : Int) < 32 * j) by omega)]
                  rw [Bool.or_false]
                  congr 1; congr 1; apply propext; omega
                · rw [hg u]; congr 1; congr 1; apply propext; omega)
    refine hv_sub (lv2 := [(3, .int (iI (x / 32))), (0, .ref (q)), (1, .int (iI (x))), (2, .int (iI (y)))]) [0, 1, 2, 3] rfl ?_
    exact LP (y / 32 + 2).toNat (x / 32) f (by omega) (by omega) (by omega) (fun u => by rw [decide_eq_false (by omega)]; simp)
  · exact absurd (of_decide_eq_false h3) (fun z => z ⟨h0, h1, h2⟩)
set_option maxHeartbeats 4000000 in
set_option maxRecDepth 100000 in
theorem c2_exclude (l : Launch) (D : va_G) (K : Nat → ClassId) {w : hm_M} {q wd : Nat} {f : Nat → Int32} (x y : Int) (h0 : 0 ≤ x) (h1 : x ≤ y) (h2 : y < 4096) (hn : nAt K w q wd f)  : hm_Cv l D K yX2_exclude cX2_exclude 4 1 [.ref (q), .int (iI (x)), .int (iI (y))] w 0 0 (fun w2 => ∃ f2 : Nat → Int32, w2 = hm_up w wd (.inl (K 0, 128, .inl (f2))) ∧ ∀ u : Nat, mem f2 u = (mem f u && !decide (x ≤ (u : Int) ∧ (u : Int) ≤ y))) := by
  refine hm_enterV (by decide) (Nat.le_of_ble_eq_true rfl) ?_
  intro p e s m args below meth c E hr hnm
  show hm_V p l e (hm_rm 1 0 0) s m args below meth c D (hm_A w s.heap.size) 4 0 0 (MQ below (hm_Qv D w s.heap.size (fun w2 => ∃ f2 : Nat → Int32, w2 = hm_up w wd (.inl (K 0, 128, .inl (f2))) ∧ ∀ u : Nat, mem f2 u = (mem f u && !decide (x ≤ (u : Int) ∧ (u : Int) ≤ y)))) args s 0 0 (hm_A w s.heap.size)) w 0 [(0, .ref (q)), (1, .int (iI (x))), (2, .int (iI (y)))] []
  refine hv_iload_n E dX2_exclude_0 rfl 1 rfl rfl ?_
  refine hv_iload_n E dX2_exclude_1 rfl 2 rfl rfl ?_
  refine hv_callSNI (na := 2) (As := [.int (iI (x)), .int (iI (y))]) (st := []) E (c6_isSpan l D K x y ⟨by omega, by omega⟩ ⟨by omega, by omega⟩) dX2_exclude_2 gN_X2_35 gS_X6_isSpan gC_X6_isSpan gZ_X6 (by decide +kernel) rfl ⟨Nat.le_of_ble_eq_true rfl, Nat.le_of_ble_eq_true rfl⟩ (Nat.le_of_ble_eq_true rfl) ⟨Nat.zero_le _, Nat.zero_le _⟩ rfl rfl (fun r w2 hp => ?_)
  rw [hp.1, hp.2]
  show hm_V p l e (hm_rm 1 0 0) s m args below meth c D (hm_A w s.heap.size) 4 0 0 (MQ below (hm_Qv D w s.heap.size (fun w2 => ∃ f2 : Nat → Int32, w2 = hm_up w wd (.inl (K 0, 128, .inl (f2))) ∧ ∀ u : Nat, mem f2 u = (mem f u && !decide (x ≤ (u : Int) ∧ (u : Int) ≤ y)))) args s 0 0 (hm_A w s.heap.size)) w 5 [(0, .ref (q)), (1, .int (iI (x))), (2, .int (iI (y)))] [.int (bI (decide (0 ≤ x ∧ x ≤ y ∧ y < 4096)))]
  refine hv_if_neB E 9 dX2_exclude_5 (by decide) rfl (fun h3 => ?_) (fun h3 => ?_)
  · refine hv_iload_n E dX2_exclude_9 rfl 1 rfl rfl ?_
    refine hv_iconst E dX2_exclude_10 rfl ?_
    refine hv_ishrR E dX2_exclude_11 rfl rfl ?_
    refine hv_topi (show (iI (x)) >>> ((iI (5)) &&& 31) = iI (x / 32) from iI_shr5 ⟨by omega, by omega⟩) ?_
    refine hv_istore_n (lv2 := [(3, .int (iI (x / 32))), (0, .ref (q)), (1, .int (iI (x))), (2, .int (iI (y)))]) E dX2_exclude_12 rfl (by decide) rfl rfl ?_
    refine hv_mem (show w = hm_up w wd (.inl (K 0, 128, .inl (f))) from (hm_uid hn.2).symm) ?_
    have LP : ∀ (k : Nat) (j : Int) (g : Nat → Int32), (y / 32 + 1 - j < (k : Int)) → (x / 32 ≤ j) → (j ≤ y / 32 + 1) → (∀ u : Nat, mem g u = (mem f u && !decide (x ≤ (u : Int) ∧ (u : Int) ≤ y ∧ (u : Int) < 32 * j))) → hm_V p l e (hm_rm 1 0 0) s m args below meth c D (hm_A w s.heap.size) 4 0 0 (MQ below (hm_Qv D w s.heap.size (fun w2 => ∃ f2 : Nat → Int32, w2 = hm_up w wd (.inl (K 0, 128, .inl (f2))) ∧ ∀ u : Nat, mem f2 u = (mem f u && !decide (x ≤ (u : Int) ∧ (u : Int) ≤ y)))) args s 0 0 (hm_A w s.heap.size)) (hm_up w wd (.inl (K 0, 128, .inl (g)))) 13 [(3, .int (iI (j))), (0, .ref (q)), (1, .int (iI (x))), (2, .int (iI (y)))] [] := by
      intro k
      induction k with
      | zero =>
        intro j g hk g0 g1 hg
        exact absurd hk (by omega)
      | succ k ih =>
        intro j g hk g0 g1 hg
        have hn2 := hn.up g
        refine hv_iload_n E dX2_exclude_13 rfl 0 rfl rfl ?_
        refine hv_iload_n E dX2_exclude_14 rfl 3 rfl rfl ?_
        refine hv_iconst E dX2_exclude_15 rfl ?_
        refine hv_ishrR E dX2_exclude_16 rfl rfl ?_
        refine hv_topi (show (iI (y)) >>> ((iI (5)) &&& 31) = iI (y / 32) from iI_shr5 ⟨by omega, by omega⟩) ?_
        refine hv_icmp_gt E 43 dX2_exclude_17 (by decide) ⟨by omega, by omega⟩ ⟨by omega, by omega⟩ rfl (fun h4 => ?_) (fun h4 => ?_)
        · exact hv_vret E dX2_exclude_43 hr ⟨g, rfl, fun u => by rw [hg]; congr 1; congr 1; congr 1; apply propext; omega⟩
        · refine hv_aload_n E dX2_exclude_20 rfl 1 rfl rfl ?_
          refine hv_get (kf := 0) E dX2_exclude_21 (show vwCl[1]? = some (RX2, TX2, 1) from rfl) (by decide) gW_X2 gF_X2_9 rfl hn2.1 rfl rfl ?_
          refine hv_iload_n E dX2_exclude_24 rfl 0 rfl rfl ?_
          refine hv_dup2 E dX2_exclude_25 rfl rfl rfl ?_
          refine hv_iald E dX2_exclude_26 hn2.2 (by omega) (by omega) (by decide) rfl ?_
          refine hv_iload_n E dX2_exclude_27 rfl 0 rfl rfl ?_
          refine hv_iload_n E dX2_exclude_28 rfl 2 rfl rfl ?_
          refine hv_iload_n E dX2_exclude_29 rfl 3 rfl rfl ?_
          refine hv_callSI (na := 3) (As := [.int (iI (j)), .int (iI (x)), .int (iI (y))]) (st := [.int (g j.toNat), .int (iI (j)), .ref (wd)]) E (c2_maskInWord l D K j x y h0 h1 h2 (by omega) (by omega)) dX2_exclude_30 gL_X2_39 gS_X2_maskInWord gC_X2_maskInWord gZ_X2 (by decide +kernel) rfl ⟨Nat.le_of_ble_eq_true rfl, Nat.le_of_ble_eq_true rfl⟩ (Nat.le_of_ble_eq_true rfl) ⟨Nat.zero_le _, Nat.zero_le _⟩ rfl rfl (fun mk w2 hp => ?_)
          obtain ⟨hm, hw2⟩ := hp
          rw [hw2]
          show hm_V p l e (hm_rm 1 0 0) s m args below meth c D (hm_A w s.heap.size) 4 0 0 (MQ below (hm_Qv D w s.heap.size (fun w2 => ∃ f2 : Nat → Int32, w2 = hm_up w wd (.inl (K 0, 128, .inl (f2))) ∧ ∀ u : Nat, mem f2 u = (mem f u && !decide (x ≤ (u : Int) ∧ (u : Int) ≤ y)))) args s 0 0 (hm_A w s.heap.size)) (hm_up w wd (.inl (K 0, 128, .inl (g)))) 33 [(3, .int (iI (j))), (0, .ref (q)), (1, .int (iI (x))), (2, .int (iI (y)))] [.int (mk), .int (g j.toNat), .int (iI (j)), .ref (wd)]
          refine hv_iconst E dX2_exclude_33 rfl ?_
          refine hv_ixorR E dX2_exclude_34 rfl ?_
          refine hv_iandR E dX2_exclude_35 rfl ?_
          refine hv_iast E dX2_exclude_36 hn2.2 (by omega) (by omega) (by decide) rfl ?_
          refine hv_mem (show hm_up (hm_up w wd (.inl (K 0, 128, .inl (g)))) wd (.inl (K 0, 128, .inl (upd g j.toNat ((g j.toNat) &&& (mk ^^^ (iI ((-1)))))))) = hm_up w wd (.inl (K 0, 128, .inl (upd g j.toNat ((g j.toNat) &&& (mk ^^^ (iI ((-1)))))))) from hm_uu) ?_
          refine hv_iinc (lv2 := [(3, .int (iI (j + 1))), (0, .ref (q)), (1, .int (iI (x))), (2, .int (iI (y)))]) E dX2_exclude_37 0 rfl rfl (by decide) rfl rfl ?_
          refine hv_goto E 13 dX2_exclude_40 (by decide) ?_
          refine hv_sub (lv2 := [(3, .int (iI (j + 1))), (0, .ref (q)), (1, .int (iI (x))), (2, .int (iI (y)))]) [0, 1, 2, 3] rfl ?_
          exact ih (j + 1) _ (by omega) (by omega) (by omega) (fun u => by
                rw [mem_upd]
                split
                · rename_i hu
                  rw [b_and, b_xor, bt_m1 (by omega), hm _ (by omega), ← hu]
                  show (mem g u && (decide _ ^^ true)) = _
                  rw [hg u, decide_eq_false (show ¬ (x ≤ (u : Int) ∧ (u : Int) ≤ y ∧ (u : Int) < 32 * j) by omega)]
                  rw [Bool.not_false, Bool.and_true, Bool.xor_true]
                  congr 1; congr 1; congr 1; apply propext; omega
                · rw [hg u]; congr 1; congr 1; congr 1; apply propext; omega)
    refine hv_sub (lv2 := [(3, .int (iI (x / 32))), (0, .ref (q)), (1, .int (iI (x))), (2, .int (iI (y)))]) [0, 1, 2, 3] rfl ?_
    exact LP (y / 32 + 2).toNat (x / 32) f (by omega) (by omega) (by omega) (fun u => by rw [decide_eq_false (by omega)]; simp)
  · exact absurd (of_decide_eq_false h3) (fun z => z ⟨h0, h1, h2⟩)
set_option maxHeartbeats 4000000 in
set_option maxRecDepth 100000 in
theorem c2_joined (l : Launch) (D : va_G) (K : Nat → ClassId) {w : hm_M} (x y : Int32) (n : Int) (h0 : 0 ≤ n) (h1 : n < 4)  : hm_Ci l D K yX2_joined cX2_joined 3 .int 0 [.int (x), .int (y), .int (iI (n))] w 0 0 (fun r w2 => (∀ i : Nat, i < 32 → bt r i = jb n (bt x i) (bt y i)) ∧ w2 = w) := by
  refine hm_enterI (by decide) (Nat.le_of_ble_eq_true rfl) ?_
  intro p e s m args below meth c E hr hnm
  show hm_V p l e (hm_rm 0 0 0) s m args below meth c D (hm_A w s.heap.size) 3 0 0 (MQ below (hm_Qi D w s.heap.size (fun r w2 => (∀ i : Nat, i < 32 → bt r i = jb n (bt x i) (bt y i)) ∧ w2 = w)) args s 0 0 (hm_A w s.heap.size)) w 0 [(0, .int (x)), (1, .int (y)), (2, .int (iI (n)))] []
  refine hv_iload_n E dX2_joined_0 rfl 2 rfl rfl ?_
  rcases (show n = 0 ∨ n = 1 ∨ n = 2 ∨ n = 3 by omega) with rfl | rfl | rfl | rfl
  · refine hv_tableIn E 28 dX2_joined_1 ⟨by omega, by omega⟩ (by omega) (by omega) rfl (by decide) ?_
    refine hv_iload_n E dX2_joined_28 rfl 0 rfl rfl ?_
    refine hv_iload_n E dX2_joined_29 rfl 1 rfl rfl ?_
    refine hv_iandR E dX2_joined_30 rfl ?_
    exact hv_iret E dX2_joined_31 hr ⟨fun i hi => by rw [b_and]; rfl, rfl⟩
  · refine hv_tableIn E 32 dX2_joined_1 ⟨by omega, by omega⟩ (by omega) (by omega) rfl (by decide) ?_
    refine hv_iload_n E dX2_joined_32 rfl 0 rfl rfl ?_
    refine hv_iload_n E dX2_joined_33 rfl 1 rfl rfl ?_
    refine hv_iorR E dX2_joined_34 rfl ?_
    exact hv_iret E dX2_joined_35 hr ⟨fun i hi => by rw [b_or]; rfl, rfl⟩
  · refine hv_tableIn E 36 dX2_joined_1 ⟨by omega, by omega⟩ (by omega) (by omega) rfl (by decide) ?_
    refine hv_iload_n E dX2_joined_36 rfl 0 rfl rfl ?_
    refine hv_iload_n E dX2_joined_37 rfl 1 rfl rfl ?_
    refine hv_iconst E dX2_joined_38 rfl ?_
    refine hv_ixorR E dX2_joined_39 rfl ?_
    refine hv_iandR E dX2_joined_40 rfl ?_
    exact hv_iret E dX2_joined_41 hr ⟨fun i hi => by rw [b_and, b_xor, bt_m1 hi, Bool.xor_true]; rfl, rfl⟩
  · refine hv_tableOut E 42 dX2_joined_1 ⟨by omega, by omega⟩ (by omega) (by decide) ?_
    refine hv_iload_n E dX2_joined_42 rfl 0 rfl rfl ?_
    refine hv_iload_n E dX2_joined_43 rfl 1 rfl rfl ?_
    refine hv_ixorR E dX2_joined_44 rfl ?_
    exact hv_iret E dX2_joined_45 hr ⟨fun i hi => by rw [b_xor]; rfl, rfl⟩
set_option maxHeartbeats 4000000 in
set_option maxRecDepth 100000 in
theorem c2_become (l : Launch) (D : va_G) (K : Nat → ClassId) {w : hm_M} {q wd : Nat} {f : Nat → Int32} {qa wa qb wb : Nat} {fa fb : Nat → Int32} (n : Int) (h0 : 0 ≤ n) (h1 : n < 4) (hn : nAt K w q wd f) (ha : nAt K w qa wa fa) (hb : nAt K w qb wb fb)  : hm_Cv l D K yX2_become cX2_become 5 1 [.ref (q), .ref (qa), .ref (qb), .int (iI (n))] w 0 0 (fun w2 => ∃ f2 : Nat → Int32, w2 = hm_up w wd (.inl (K 0, 128, .inl (f2))) ∧ ∀ u : Nat, u < 4096 → mem f2 u = jb n (mem fa u) (mem fb u)) := by
  refine hm_enterV (by decide) (Nat.le_of_ble_eq_true rfl) ?_
  intro p e s m args below meth c E hr hnm
  show hm_V p l e (hm_rm 1 0 0) s m args below meth c D (hm_A w s.heap.size) 5 0 0 (MQ below (hm_Qv D w s.heap.size (fun w2 => ∃ f2 : Nat → Int32, w2 = hm_up w wd (.inl (K 0, 128, .inl (f2))) ∧ ∀ u : Nat, u < 4096 → mem f2 u = jb n (mem fa u) (mem fb u))) args s 0 0 (hm_A w s.heap.size)) w 0 [(0, .ref (q)), (1, .ref (qa)), (2, .ref (qb)), (3, .int (iI (n)))] []
  refine hv_iconst E dX2_become_0 rfl ?_
  refine hv_istore (lv2 := [(4, .int (iI (0))), (0, .ref (q)), (1, .ref (qa)), (2, .ref (qb)), (3, .int (iI (n)))]) E dX2_become_1 (by decide) rfl rfl ?_
  refine hv_mem (show w = hm_up w wd (.inl (K 0, 128, .inl (f))) from (hm_uid hn.2).symm) ?_
  have LP : ∀ (k : Nat) (j : Int) (g : Nat → Int32), (128 - j < (k : Int)) → (0 ≤ j) → (j ≤ 128) → (∀ i b : Nat, i < j.toNat → b < 32 → bt (g i) b = jb n (bt (fa i) b) (bt (fb i) b)) → (∀ i : Nat, j.toNat ≤ i → g i = f i) → hm_V p l e (hm_rm 1 0 0) s m args below meth c D (hm_A w s.heap.size) 5 0 0 (MQ below (hm_Qv D w s.heap.size (fun w2 => ∃ f2 : Nat → Int32, w2 = hm_up w wd (.inl (K 0, 128, .inl (f2))) ∧ ∀ u : Nat, u < 4096 → mem f2 u = jb n (mem fa u) (mem fb u))) args s 0 0 (hm_A w s.heap.size)) (hm_up w wd (.inl (K 0, 128, .inl (g)))) 3 [(4, .int (iI (j))), (0, .ref (q)), (1, .ref (qa)), (2, .ref (qb)), (3, .int (iI (n)))] [] := by
    intro k
    induction k with
    | zero =>
      intro j g hk g0 g1 hg hf
      exact absurd hk (by omega)
    | succ k ih =>
      intro j g hk g0 g1 hg hf
      have hn2 := hn.up g
      obtain ⟨ga, ea, eja⟩ : ∃ ga : Nat → Int32, nAt K (hm_up w wd (.inl (K 0, 128, .inl (g)))) qa wa ga ∧ ga j.toNat = fa j.toNat := by
        by_cases hw : wa = wd
        · rw [hw] at ha
          have hi := hn.inj ha
          rw [hw]
          exact ⟨g, ⟨by rw [hm_un (hn.ne2 ha)]; exact ha.1, hm_us⟩, by rw [hi]; exact hf _ (Nat.le_refl _)⟩
        · exact ⟨fa, ⟨by rw [hm_un (hn.ne2 ha)]; exact ha.1, by rw [hm_un hw]; exact ha.2⟩, rfl⟩
      obtain ⟨gb, eb, ejb⟩ : ∃ gb : Nat → Int32, nAt K (hm_up w wd (.inl (K 0, 128, .inl (g)))) qb wb gb ∧ gb j.toNat = fb j.toNat := by
        by_cases hw : wb = wd
        · rw [hw] at hb
          have hi := hn.inj hb
          rw [hw]
          exact ⟨g, ⟨by rw [hm_un (hn.ne2 hb)]; exact hb.1, hm_us⟩, by rw [hi]; exact hf _ (Nat.le_refl _)⟩
        · exact ⟨fb, ⟨by rw [hm_un (hn.ne2 hb)]; exact hb.1, by rw [hm_un hw]; exact hb.2⟩, rfl⟩
      refine hv_iload E dX2_become_3 0 rfl rfl ?_
      refine hv_sipush E dX2_become_5 (by decide +kernel) rfl ?_
      refine hv_icmp_ge E 42 dX2_become_8 (by decide) ⟨by omega, by omega⟩ ⟨by omega, by omega⟩ rfl (fun h3 => ?_) (fun h3 => ?_)
      · exact hv_vret E dX2_become_42 hr ⟨g, rfl, fun u hu => by
              have := hg (u / 32) (u % 32) (by omega) (by omega)
              exact this⟩
      · refine hv_aload_n E dX2_become_11 rfl 1 rfl rfl ?_
        refine hv_get (kf := 0) E dX2_become_12 (show vwCl[1]? = some (RX2, TX2, 1) from rfl) (by decide) gW_X2 gF_X2_9 rfl hn2.1 rfl rfl ?_
        refine hv_iload E dX2_become_15 0 rfl rfl ?_
        refine hv_aload_n E dX2_become_17 rfl 2 rfl rfl ?_
        refine hv_get (kf := 0) E dX2_become_18 (show vwCl[1]? = some (RX2, TX2, 1) from rfl) (by decide) gW_X2 gF_X2_9 rfl ea.1 rfl rfl ?_
        refine hv_iload E dX2_become_21 0 rfl rfl ?_
        refine hv_iald E dX2_become_23 ea.2 (by omega) (by omega) (by decide) rfl ?_
        refine hv_aload_n E dX2_become_24 rfl 3 rfl rfl ?_
        refine hv_get (kf := 0) E dX2_become_25 (show vwCl[1]? = some (RX2, TX2, 1) from rfl) (by decide) gW_X2 gF_X2_9 rfl eb.1 rfl rfl ?_
        refine hv_iload E dX2_become_28 0 rfl rfl ?_
        refine hv_iald E dX2_become_30 eb.2 (by omega) (by omega) (by decide) rfl ?_
        refine hv_iload_n E dX2_become_31 rfl 4 rfl rfl ?_
        refine hv_callSI (na := 3) (As := [.int (ga j.toNat), .int (gb j.toNat), .int (iI (n))]) (st := [.int (iI (j)), .ref (wd)]) E (c2_joined l D K (ga j.toNat) (gb j.toNat) n h0 h1) dX2_become_32 gL_X2_43 gS_X2_joined gC_X2_joined gZ_X2 (by decide +kernel) rfl ⟨Nat.le_of_ble_eq_true rfl, Nat.le_of_ble_eq_true rfl⟩ (Nat.le_of_ble_eq_true rfl) ⟨Nat.zero_le _, Nat.zero_le _⟩ rfl rfl (fun mk w2 hp => ?_)
        obtain ⟨hm, hw2⟩ := hp
        rw [hw2]
        show hm_V p l e (hm_rm 1 0 0) s m args below meth c D (hm_A w s.heap.size) 5 0 0 (MQ below (hm_Qv D w s.heap.size (fun w2 => ∃ f2 : Nat → Int32, w2 = hm_up w wd (.inl (K 0, 128, .inl (f2))) ∧ ∀ u : Nat, u < 4096 → mem f2 u = jb n (mem fa u) (mem fb u))) args s 0 0 (hm_A w s.heap.size)) (hm_up w wd (.inl (K 0, 128, .inl (g)))) 35 [(4, .int (iI (j))), (0, .ref (q)), (1, .ref (qa)), (2, .ref (qb)), (3, .int (iI (n)))] [.int (mk), .int (iI (j)), .ref (wd)]
        refine hv_iast E dX2_become_35 hn2.2 (by omega) (by omega) (by decide) rfl ?_
        refine hv_mem (show hm_up (hm_up w wd (.inl (K 0, 128, .inl (g)))) wd (.inl (K 0, 128, .inl (upd g j.toNat mk))) = hm_up w wd (.inl (K 0, 128, .inl (upd g j.toNat mk))) from hm_uu) ?_
        refine hv_iinc (lv2 := [(4, .int (iI (j + 1))), (0, .ref (q)), (1, .ref (qa)), (2, .ref (qb)), (3, .int (iI (n)))]) E dX2_become_36 0 rfl rfl (by decide) rfl rfl ?_
        refine hv_goto E 3 dX2_become_39 (by decide) ?_
        refine hv_sub (lv2 := [(4, .int (iI (j + 1))), (0, .ref (q)), (1, .ref (qa)), (2, .ref (qb)), (3, .int (iI (n)))]) [0, 1, 2, 3, 4] rfl ?_
        exact ih (j + 1) _ (by omega) (by omega) (by omega) (fun i b hi hb2 => by
              by_cases hij : i = j.toNat
              · subst hij
                rw [pk_us, hm b hb2, eja, ejb]
              · rw [pk_un hij]; exact hg i b (by omega) hb2) (fun i hi => by rw [pk_un (by omega)]; exact hf i (by omega))
  refine hv_sub (lv2 := [(4, .int (iI (0))), (0, .ref (q)), (1, .ref (qa)), (2, .ref (qb)), (3, .int (iI (n)))]) [0, 1, 2, 3, 4] rfl ?_
  exact LP 129 0 f (by omega) (by omega) (by omega) (fun i b hi _ => by simp at hi) (fun i _ => rfl)
set_option maxHeartbeats 4000000 in
set_option maxRecDepth 100000 in
theorem c2_copyFrom (l : Launch) (D : va_G) (K : Nat → ClassId) {w : hm_M} {q wd : Nat} {f : Nat → Int32} {qa wa : Nat} {fa : Nat → Int32} (hn : nAt K w q wd f) (ha : nAt K w qa wa fa) (hne : wa ≠ wd)  : hm_Cv l D K yX2_copyFrom cX2_copyFrom 3 0 [.ref (q), .ref (qa)] w 0 0 (fun w2 => ∃ f2 : Nat → Int32, w2 = hm_up w wd (.inl (K 0, 128, .inl (f2))) ∧ ∀ u : Nat, u < 4096 → mem f2 u = mem fa u) := by
  refine hm_enterV (by decide) (Nat.le_of_ble_eq_true rfl) ?_
  intro p e s m args below meth c E hr hnm
  show hm_V p l e (hm_rm 0 0 0) s m args below meth c D (hm_A w s.heap.size) 3 0 0 (MQ below (hm_Qv D w s.heap.size (fun w2 => ∃ f2 : Nat → Int32, w2 = hm_up w wd (.inl (K 0, 128, .inl (f2))) ∧ ∀ u : Nat, u < 4096 → mem f2 u = mem fa u)) args s 0 0 (hm_A w s.heap.size)) w 0 [(0, .ref (q)), (1, .ref (qa))] []
  refine hv_iconst E dX2_copyFrom_0 rfl ?_
  refine hv_istore_n (lv2 := [(2, .int (iI (0))), (0, .ref (q)), (1, .ref (qa))]) E dX2_copyFrom_1 rfl (by decide) rfl rfl ?_
  refine hv_mem (show w = hm_up w wd (.inl (K 0, 128, .inl (f))) from (hm_uid hn.2).symm) ?_
  have LP : ∀ (k : Nat) (j : Int) (g : Nat → Int32), (128 - j < (k : Int)) → (0 ≤ j) → (j ≤ 128) → (∀ i : Nat, i < j.toNat → g i = fa i) → hm_V p l e (hm_rm 0 0 0) s m args below meth c D (hm_A w s.heap.size) 3 0 0 (MQ below (hm_Qv D w s.heap.size (fun w2 => ∃ f2 : Nat → Int32, w2 = hm_up w wd (.inl (K 0, 128, .inl (f2))) ∧ ∀ u : Nat, u < 4096 → mem f2 u = mem fa u)) args s 0 0 (hm_A w s.heap.size)) (hm_up w wd (.inl (K 0, 128, .inl (g)))) 2 [(2, .int (iI (j))), (0, .ref (q)), (1, .ref (qa))] [] := by
    intro k
    induction k with
    | zero =>
      intro j g hk g0 g1 hg
      exact absurd hk (by omega)
    | succ k ih =>
      intro j g hk g0 g1 hg
      have hn2 := hn.up g
      have ea : nAt K (hm_up w wd (.inl (K 0, 128, .inl (g)))) qa wa fa := ⟨by rw [hm_un (hn.ne2 ha)]; exact ha.1, by rw [hm_un hne]; exact ha.2⟩
      refine hv_iload_n E dX2_copyFrom_2 rfl 0 rfl rfl ?_
      refine hv_sipush E dX2_copyFrom_3 (by decide +kernel) rfl ?_
      refine hv_icmp_ge E 27 dX2_copyFrom_6 (by decide) ⟨by omega, by omega⟩ ⟨by omega, by omega⟩ rfl (fun h3 => ?_) (fun h3 => ?_)
      · exact hv_vret E dX2_copyFrom_27 hr ⟨g, rfl, fun u hu => by unfold mem; rw [hg (u / 32) (by omega)]⟩
      · refine hv_aload_n E dX2_copyFrom_9 rfl 1 rfl rfl ?_
        refine hv_get (kf := 0) E dX2_copyFrom_10 (show vwCl[1]? = some (RX2, TX2, 1) from rfl) (by decide) gW_X2 gF_X2_9 rfl hn2.1 rfl rfl ?_
        refine hv_iload_n E dX2_copyFrom_13 rfl 0 rfl rfl ?_
        refine hv_aload_n E dX2_copyFrom_14 rfl 2 rfl rfl ?_
        refine hv_get (kf := 0) E dX2_copyFrom_15 (show vwCl[1]? = some (RX2, TX2, 1) from rfl) (by decide) gW_X2 gF_X2_9 rfl ea.1 rfl rfl ?_
        refine hv_iload_n E dX2_copyFrom_18 rfl 0 rfl rfl ?_
        refine hv_iald E dX2_copyFrom_19 ea.2 (by omega) (by omega) (by decide) rfl ?_
        refine hv_iast E dX2_copyFrom_20 hn2.2 (by omega) (by omega) (by decide) rfl ?_
        refine hv_mem (show hm_up (hm_up w wd (.inl (K 0, 128, .inl (g)))) wd (.inl (K 0, 128, .inl (upd g j.toNat (fa j.toNat)))) = hm_up w wd (.inl (K 0, 128, .inl (upd g j.toNat (fa j.toNat)))) from hm_uu) ?_
        refine hv_iinc (lv2 := [(2, .int (iI (j + 1))), (0, .ref (q)), (1, .ref (qa))]) E dX2_copyFrom_21 0 rfl rfl (by decide) rfl rfl ?_
        refine hv_goto E 2 dX2_copyFrom_24 (by decide) ?_
        refine hv_sub (lv2 := [(2, .int (iI (j + 1))), (0, .ref (q)), (1, .ref (qa))]) [0, 1, 2] rfl ?_
        exact ih (j + 1) _ (by omega) (by omega) (by omega) (fun i hi => by
              by_cases hij : i = j.toNat
              · subst hij; exact pk_us
              · rw [pk_un hij]; exact hg i (by omega))
  refine hv_sub (lv2 := [(2, .int (iI (0))), (0, .ref (q)), (1, .ref (qa))]) [0, 1, 2] rfl ?_
  exact LP 129 0 f (by omega) (by omega) (by omega) (fun i hi => by simp at hi)
set_option maxHeartbeats 4000000 in
set_option maxRecDepth 100000 in
theorem c2_clear (l : Launch) (D : va_G) (K : Nat → ClassId) {w : hm_M} {q wd : Nat} {f : Nat → Int32} (hn : nAt K w q wd f)  : hm_Cv l D K yX2_clear cX2_clear 2 0 [.ref (q)] w 0 0 (fun w2 => ∃ f2 : Nat → Int32, w2 = hm_up w wd (.inl (K 0, 128, .inl (f2))) ∧ ∀ u : Nat, u < 4096 → mem f2 u = false) := by
  refine hm_enterV (by decide) (Nat.le_of_ble_eq_true rfl) ?_
  intro p e s m args below meth c E hr hnm
  show hm_V p l e (hm_rm 0 0 0) s m args below meth c D (hm_A w s.heap.size) 2 0 0 (MQ below (hm_Qv D w s.heap.size (fun w2 => ∃ f2 : Nat → Int32, w2 = hm_up w wd (.inl (K 0, 128, .inl (f2))) ∧ ∀ u : Nat, u < 4096 → mem f2 u = false)) args s 0 0 (hm_A w s.heap.size)) w 0 [(0, .ref (q))] []
  refine hv_iconst E dX2_clear_0 rfl ?_
  refine hv_istore_n (lv2 := [(1, .int (iI (0))), (0, .ref (q))]) E dX2_clear_1 rfl (by decide) rfl rfl ?_
  refine hv_mem (show w = hm_up w wd (.inl (K 0, 128, .inl (f))) from (hm_uid hn.2).symm) ?_
  have LP : ∀ (k : Nat) (j : Int) (g : Nat → Int32), (128 - j < (k : Int)) → (0 ≤ j) → (j ≤ 128) → (∀ i : Nat, i < j.toNat → g i = 0) → hm_V p l e (hm_rm 0 0 0) s m args below meth c D (hm_A w s.heap.size) 2 0 0 (MQ below (hm_Qv D w s.heap.size (fun w2 => ∃ f2 : Nat → Int32, w2 = hm_up w wd (.inl (K 0, 128, .inl (f2))) ∧ ∀ u : Nat, u < 4096 → mem f2 u = false)) args s 0 0 (hm_A w s.heap.size)) (hm_up w wd (.inl (K 0, 128, .inl (g)))) 2 [(1, .int (iI (j))), (0, .ref (q))] [] := by
    intro k
    induction k with
    | zero =>
      intro j g hk g0 g1 hg
      exact absurd hk (by omega)
    | succ k ih =>
      intro j g hk g0 g1 hg
      have hn2 := hn.up g
      refine hv_iload_n E dX2_clear_2 rfl 0 rfl rfl ?_
      refine hv_sipush E dX2_clear_3 (by decide +kernel) rfl ?_
      refine hv_icmp_ge E 22 dX2_clear_6 (by decide) ⟨by omega, by omega⟩ ⟨by omega, by omega⟩ rfl (fun h3 => ?_) (fun h3 => ?_)
      · exact hv_vret E dX2_clear_22 hr ⟨g, rfl, fun u hu => by unfold mem; rw [hg (u / 32) (by omega), b_0]⟩
      · refine hv_aload_n E dX2_clear_9 rfl 1 rfl rfl ?_
        refine hv_get (kf := 0) E dX2_clear_10 (show vwCl[1]? = some (RX2, TX2, 1) from rfl) (by decide) gW_X2 gF_X2_9 rfl hn2.1 rfl rfl ?_
        refine hv_iload_n E dX2_clear_13 rfl 0 rfl rfl ?_
        refine hv_iconst E dX2_clear_14 rfl ?_
        refine hv_iast E dX2_clear_15 hn2.2 (by omega) (by omega) (by decide) rfl ?_
        refine hv_mem (show hm_up (hm_up w wd (.inl (K 0, 128, .inl (g)))) wd (.inl (K 0, 128, .inl (upd g j.toNat (iI 0)))) = hm_up w wd (.inl (K 0, 128, .inl (upd g j.toNat (iI 0)))) from hm_uu) ?_
        refine hv_iinc (lv2 := [(1, .int (iI (j + 1))), (0, .ref (q))]) E dX2_clear_16 0 rfl rfl (by decide) rfl rfl ?_
        refine hv_goto E 2 dX2_clear_19 (by decide) ?_
        refine hv_sub (lv2 := [(1, .int (iI (j + 1))), (0, .ref (q))]) [0, 1] rfl ?_
        exact ih (j + 1) _ (by omega) (by omega) (by omega) (fun i hi => by
              by_cases hij : i = j.toNat
              · subst hij; rw [pk_us]; exact iI_0.symm
              · rw [pk_un hij]; exact hg i (by omega))
  refine hv_sub (lv2 := [(1, .int (iI (0))), (0, .ref (q))]) [0, 1] rfl ?_
  exact LP 129 0 f (by omega) (by omega) (by omega) (fun i hi => by simp at hi)
end
section
/-- a run of the piece from a on begins at its i-th number -/
def bg (S : Nat → Bool) (a i : Nat) : Bool := S (a + i) && (decide (i = 0) || !S (a + i - 1))
/-- numbers and runs of piece h; its form (-1: none) and its bits -/
def pN (S : Nat → Bool) (h : Int) : Int := (ct S (256 * h.toNat) 256 : Nat)
def pR (S : Nat → Bool) (h : Int) : Int := (ct (bg S (256 * h.toNat)) 0 256 : Nat)
def pfm (n r : Int) : Int := if n = 0 then -1 else if 8 * n ≤ 256 ∧ 8 * n ≤ 16 * r then 0 else if 256 ≤ 16 * r then 1 else 2
def pF (S : Nat → Bool) (h : Int) : Int := pfm (pN S h) (pR S h)
def pB (S : Nat → Bool) (h : Int) : Int := if pF S h = 0 then 8 * pN S h else if pF S h = 1 then 256 else if pF S h = 2 then 16 * pR S h else 0
theorem pN_b (S : Nat → Bool) (h : Int) : 0 ≤ pN S h ∧ pN S h ≤ 256 := by have := ct_le S (256 * h.toNat) 256; unfold pN; omega
theorem pR_b (S : Nat → Bool) (h : Int) : 0 ≤ pR S h ∧ pR S h ≤ 256 := by have := ct_le (bg S (256 * h.toNat)) 0 256; unfold pR; omega
theorem pF_b (S : Nat → Bool) (h : Int) : -1 ≤ pF S h ∧ pF S h ≤ 2 := by
  unfold pF pfm; split
  · omega
  · split
    · omega
    · split <;> omega
theorem ushr31 (x : Int32) : (x.toUInt32 >>> ((iI 31).toUInt32 &&& Int32.toUInt32 31)).toInt32 = bI (bt x 31) := by
  apply b_ext
  intro i hi
  have h2 : ∀ i, i < 32 → (bt (bI true) i = decide (i = 0) ∧ bt (bI false) i = false) := by decide +kernel
  have h1 := b_ushr 31 (by omega) x i
  rw [show (31 : Int) = ((31 : Nat) : Int) from rfl, iI_nI, h1]
  by_cases h0 : i = 0
  · subst h0
    cases bt x 31
    · rw [(h2 0 (by omega)).2]
    · rw [(h2 0 (by omega)).1]; rfl
  · rw [b_big (by omega)]
    cases bt x 31
    · rw [(h2 i hi).2]
    · rw [(h2 i hi).1, decide_eq_false h0]
theorem bt_firsts (x : Int32) (c : Bool) {i : Nat} (hi : i < 32) : bt (x &&& (((x <<< (iI 1 &&& 31)) ||| bI c) ^^^ iI (-1))) i = (bt x i && !(if i = 0 then c else bt x (i - 1))) := by
  have h2 : ∀ i, i < 32 → (bt (bI true) i = decide (i = 0) ∧ bt (bI false) i = false) := by decide +kernel
  have h3 := b_shl 1 (by omega) x hi
  rw [b_and, b_xor, b_or, bt_m1 hi, Bool.xor_true, show (1 : Int) = ((1 : Nat) : Int) from rfl, iI_nI, h3]
  congr 2
  by_cases h0 : i = 0
  · subst h0
    cases c
    · rw [(h2 0 (by omega)).2]; rfl
    · rw [(h2 0 (by omega)).1]; rfl
  · rw [if_neg h0, decide_eq_true (by omega), Bool.true_and]
    cases c
    · rw [(h2 i hi).2, Bool.or_false]
    · rw [(h2 i hi).1, decide_eq_false h0, Bool.or_false]
theorem runs_word (f : Nat → Int32) (a m j : Nat) (c : Bool) (h : a + 32 * m = 32 * j) (hc : c = (decide (0 < m) && mem f (32 * j - 1))) : ct (bg (mem f) a) (0 + 32 * m) 32 = ct (bt (f j &&& (((f j <<< (iI 1 &&& 31)) ||| bI c) ^^^ iI (-1)))) 0 32 := ct_congr (fun i hi => by
  rw [Nat.zero_add, Nat.zero_add, bt_firsts _ _ hi]
  unfold bg
  rw [show a + (32 * m + i) = 32 * j + i by omega, mem_at f j i hi]
  congr 1
  by_cases h0 : i = 0
  · subst h0
    rw [if_pos rfl, hc]
    by_cases h4 : m = 0
    · subst h4; rfl
    · rw [decide_eq_false (show ¬ 32 * m + 0 = 0 by omega), decide_eq_true (show 0 < m by omega), Bool.false_or, Bool.true_and]; rfl
  · rw [if_neg h0, decide_eq_false (show ¬ 32 * m + i = 0 by omega), Bool.false_or, show 32 * j + i - 1 = 32 * j + (i - 1) by omega, mem_at f j (i - 1) (by omega)])
set_option maxHeartbeats 4000000 in
set_option maxRecDepth 100000 in
theorem c2_pieceAmount (l : Launch) (D : va_G) (K : Nat → ClassId) {w : hm_M} {q wd : Nat} {f : Nat → Int32} (h : Int) (h0 : 0 ≤ h) (h1 : h < 16) (hn : nAt K w q wd f)  : hm_Ci l D K yX2_pieceAmount cX2_pieceAmount 4 .int 1 [.ref (q), .int (iI (h))] w 0 0 (fun r w2 => r = iI (pN (mem f) h) ∧ w2 = w) := by
  refine hm_enterI (by decide) (Nat.le_of_ble_eq_true rfl) ?_
  intro p e s m args below meth c E hr hnm
  show hm_V p l e (hm_rm 1 0 0) s m args below meth c D (hm_A w s.heap.size) 4 0 0 (MQ below (hm_Qi D w s.heap.size (fun r w2 => r = iI (pN (mem f) h) ∧ w2 = w)) args s 0 0 (hm_A w s.heap.size)) w 0 [(0, .ref (q)), (1, .int (iI (h)))] []
  refine hv_iload_n E dX2_pieceAmount_0 rfl 1 rfl rfl ?_
  refine hv_if_lt E 10 dX2_pieceAmount_1 (by decide) ⟨by omega, by omega⟩ rfl (fun c1 => ?_) (fun c1 => ?_)
  · exact absurd c1 (by omega)
  · refine hv_iload_n E dX2_pieceAmount_4 rfl 1 rfl rfl ?_
    refine hv_bipush E dX2_pieceAmount_5 (by decide +kernel) rfl ?_
    refine hv_icmp_lt E 12 dX2_pieceAmount_7 (by decide) ⟨by omega, by omega⟩ ⟨by omega, by omega⟩ rfl (fun c2 => ?_) (fun c2 => ?_)
    · refine hv_iconst E dX2_pieceAmount_12 rfl ?_
      refine hv_istore_n (lv2 := [(2, .int (iI (0))), (0, .ref (q)), (1, .int (iI (h)))]) E dX2_pieceAmount_13 rfl (by decide) rfl rfl ?_
      refine hv_iload_n E dX2_pieceAmount_14 rfl 2 rfl rfl ?_
      refine hv_bipush E dX2_pieceAmount_15 (by decide +kernel) rfl ?_
      refine hv_imul E dX2_pieceAmount_17 rfl ?_
      refine hv_istore_n (lv2 := [(3, .int (iI (h * 8))), (2, .int (iI (0))), (0, .ref (q)), (1, .int (iI (h)))]) E dX2_pieceAmount_18 rfl (by decide) rfl rfl ?_
      have LP : ∀ (k : Nat) (j : Int) (sm : Int), (h * 8 + 8 - j < (k : Int)) → (h * 8 ≤ j) → (j ≤ h * 8 + 8) → (sm = (ct (mem f) (256 * h.toNat) (32 * (j - h * 8).toNat) : Nat)) → hm_V p l e (hm_rm 1 0 0) s m args below meth c D (hm_A w s.heap.size) 4 0 0 (MQ below (hm_Qi D w s.heap.size (fun r w2 => r = iI (pN (mem f) h) ∧ w2 = w)) args s 0 0 (hm_A w s.heap.size)) w 19 [(3, .int (iI (j))), (2, .int (iI (sm))), (0, .ref (q)), (1, .int (iI (h)))] [] := by
        intro k
        induction k with
        | zero =>
          intro j sm hk g0 g1 hs
          exact absurd hk (by omega)
        | succ k ih =>
          intro j sm hk g0 g1 hs
          refine hv_iload_n E dX2_pieceAmount_19 rfl 0 rfl rfl ?_
          refine hv_iload_n E dX2_pieceAmount_20 rfl 3 rfl rfl ?_
          refine hv_iconst E dX2_pieceAmount_21 rfl ?_
          refine hv_iadd E dX2_pieceAmount_22 rfl ?_
          refine hv_bipush E dX2_pieceAmount_23 (by decide +kernel) rfl ?_
          refine hv_imul E dX2_pieceAmount_25 rfl ?_
          refine hv_icmp_ge E 47 dX2_pieceAmount_26 (by decide) ⟨by omega, by omega⟩ ⟨by omega, by omega⟩ rfl (fun h3 => ?_) (fun h3 => ?_)
          · refine hv_iload_n E dX2_pieceAmount_47 rfl 1 rfl rfl ?_
            exact hv_iret E dX2_pieceAmount_48 hr ⟨by unfold pN; rw [hs, show 32 * (j - h * 8).toNat = 256 by omega], rfl⟩
          · refine hv_iload_n E dX2_pieceAmount_29 rfl 1 rfl rfl ?_
            refine hv_aload_n E dX2_pieceAmount_30 rfl 2 rfl rfl ?_
            refine hv_get (kf := 0) E dX2_pieceAmount_31 (show vwCl[1]? = some (RX2, TX2, 1) from rfl) (by decide) gW_X2 gF_X2_9 rfl hn.1 rfl rfl ?_
            refine hv_iload_n E dX2_pieceAmount_34 rfl 0 rfl rfl ?_
            refine hv_iald E dX2_pieceAmount_35 hn.2 (by omega) (by omega) (by decide) rfl ?_
            refine hv_callSI (na := 1) (As := [.int (f j.toNat)]) (st := [.int (iI (sm))]) E (cJ_bitCount l D K (f j.toNat)) dX2_pieceAmount_36 gL_X2_26 gS_J6_bitCount_0f7a4 gC_J6_bitCount_0f7a4 gZ_J6 (by decide +kernel) rfl ⟨Nat.le_of_ble_eq_true rfl, Nat.le_of_ble_eq_true rfl⟩ (Nat.le_of_ble_eq_true rfl) ⟨Nat.zero_le _, Nat.zero_le _⟩ rfl rfl (fun r w2 hp => ?_)
            rw [hp.1, hp.2]
            show hm_V p l e (hm_rm 1 0 0) s m args below meth c D (hm_A w s.heap.size) 4 0 0 (MQ below (hm_Qi D w s.heap.size (fun r w2 => r = iI (pN (mem f) h) ∧ w2 = w)) args s 0 0 (hm_A w s.heap.size)) w 39 [(3, .int (iI (j))), (2, .int (iI (sm))), (0, .ref (q)), (1, .int (iI (h)))] [.int (iI ((ct (bt (f j.toNat)) 0 32 : Nat))), .int (iI (sm))]
            refine hv_iadd E dX2_pieceAmount_39 rfl ?_
            refine hv_istore_n (lv2 := [(2, .int (iI (sm + ((ct (bt (f j.toNat)) 0 32 : Nat))))), (3, .int (iI (j))), (0, .ref (q)), (1, .int (iI (h)))]) E dX2_pieceAmount_40 rfl (by decide) rfl rfl ?_
            refine hv_iinc (lv2 := [(3, .int (iI (j + 1))), (2, .int (iI (sm + ((ct (bt (f j.toNat)) 0 32 : Nat))))), (0, .ref (q)), (1, .int (iI (h)))]) E dX2_pieceAmount_41 1 rfl rfl (by decide) rfl rfl ?_
            refine hv_goto E 19 dX2_pieceAmount_44 (by decide) ?_
            refine hv_sub (lv2 := [(3, .int (iI (j + 1))), (2, .int (iI (sm + ((ct (bt (f j.toNat)) 0 32 : Nat))))), (0, .ref (q)), (1, .int (iI (h)))]) [0, 1, 2, 3] rfl ?_
            exact ih (j + 1) _ (by omega) (by omega) (by omega) (by
                  rw [show 32 * (j + 1 - h * 8).toNat = 32 * (j - h * 8).toNat + 32 by omega, ct_add, show 256 * h.toNat + 32 * (j - h * 8).toNat = 32 * j.toNat by omega, ct_word f _ _ (by omega), hs]; omega)
      refine hv_sub (lv2 := [(3, .int (iI (h * 8))), (2, .int (iI (0))), (0, .ref (q)), (1, .int (iI (h)))]) [0, 1, 2, 3] rfl ?_
      exact LP 9 (h * 8) 0 (by omega) (by omega) (by omega) (by rw [show (h * 8 - h * 8).toNat = 0 by omega]; rfl)
    · exact absurd c2 (by omega)
set_option maxHeartbeats 4000000 in
set_option maxRecDepth 100000 in
theorem c2_pieceRuns (l : Launch) (D : va_G) (K : Nat → ClassId) {w : hm_M} {q wd : Nat} {f : Nat → Int32} (h : Int) (h0 : 0 ≤ h) (h1 : h < 16) (hn : nAt K w q wd f)  : hm_Ci l D K yX2_pieceRuns cX2_pieceRuns 6 .int 1 [.ref (q), .int (iI (h))] w 0 0 (fun r w2 => r = iI (pR (mem f) h) ∧ w2 = w) := by
  refine hm_enterI (by decide) (Nat.le_of_ble_eq_true rfl) ?_
  intro p e s m args below meth c E hr hnm
  show hm_V p l e (hm_rm 1 0 0) s m args below meth c D (hm_A w s.heap.size) 6 0 0 (MQ below (hm_Qi D w s.heap.size (fun r w2 => r = iI (pR (mem f) h) ∧ w2 = w)) args s 0 0 (hm_A w s.heap.size)) w 0 [(0, .ref (q)), (1, .int (iI (h)))] []
  refine hv_iload_n E dX2_pieceRuns_0 rfl 1 rfl rfl ?_
  refine hv_if_lt E 10 dX2_pieceRuns_1 (by decide) ⟨by omega, by omega⟩ rfl (fun c1 => ?_) (fun c1 => ?_)
  · exact absurd c1 (by omega)
  · refine hv_iload_n E dX2_pieceRuns_4 rfl 1 rfl rfl ?_
    refine hv_bipush E dX2_pieceRuns_5 (by decide +kernel) rfl ?_
    refine hv_icmp_lt E 12 dX2_pieceRuns_7 (by decide) ⟨by omega, by omega⟩ ⟨by omega, by omega⟩ rfl (fun c2 => ?_) (fun c2 => ?_)
    · refine hv_iconst E dX2_pieceRuns_12 rfl ?_
      refine hv_istore_n (lv2 := [(2, .int (iI (0))), (0, .ref (q)), (1, .int (iI (h)))]) E dX2_pieceRuns_13 rfl (by decide) rfl rfl ?_
      refine hv_iconst E dX2_pieceRuns_14 rfl ?_
      refine hv_topi (show iI (0) = bI (false) from rfl) ?_
      refine hv_istore_n (lv2 := [(3, .int (bI (false))), (2, .int (iI (0))), (0, .ref (q)), (1, .int (iI (h)))]) E dX2_pieceRuns_15 rfl (by decide) rfl rfl ?_
      refine hv_iload_n E dX2_pieceRuns_16 rfl 3 rfl rfl ?_
      refine hv_bipush E dX2_pieceRuns_17 (by decide +kernel) rfl ?_
      refine hv_imul E dX2_pieceRuns_19 rfl ?_
      refine hv_istore (lv2 := [(4, .int (iI (h * 8))), (3, .int (bI (false))), (2, .int (iI (0))), (0, .ref (q)), (1, .int (iI (h)))]) E dX2_pieceRuns_20 (by decide) rfl rfl ?_
      have LP : ∀ (k : Nat) (j : Int) (sm : Int) (cy : Bool), (h * 8 + 8 - j < (k : Int)) → (h * 8 ≤ j) → (j ≤ h * 8 + 8) → (sm = (ct (bg (mem f) (256 * h.toNat)) 0 (32 * (j - h * 8).toNat) : Nat)) → (cy = (decide (0 < (j - h * 8).toNat) && mem f (32 * j.toNat - 1))) → hm_V p l e (hm_rm 1 0 0) s m args below meth c D (hm_A w s.heap.size) 6 0 0 (MQ below (hm_Qi D w s.heap.size (fun r w2 => r = iI (pR (mem f) h) ∧ w2 = w)) args s 0 0 (hm_A w s.heap.size)) w 22 [(4, .int (iI (j))), (3, .int (bI (cy))), (2, .int (iI (sm))), (0, .ref (q)), (1, .int (iI (h)))] [] := by
        intro k
        induction k with
        | zero =>
          intro j sm cy hk g0 g1 hs hc
          exact absurd hk (by omega)
        | succ k ih =>
          intro j sm cy hk g0 g1 hs hc
          refine hv_iload E dX2_pieceRuns_22 0 rfl rfl ?_
          refine hv_iload_n E dX2_pieceRuns_24 rfl 4 rfl rfl ?_
          refine hv_iconst E dX2_pieceRuns_25 rfl ?_
          refine hv_iadd E dX2_pieceRuns_26 rfl ?_
          refine hv_bipush E dX2_pieceRuns_27 (by decide +kernel) rfl ?_
          refine hv_imul E dX2_pieceRuns_29 rfl ?_
          refine hv_icmp_ge E 81 dX2_pieceRuns_30 (by decide) ⟨by omega, by omega⟩ ⟨by omega, by omega⟩ rfl (fun h3 => ?_) (fun h3 => ?_)
          · refine hv_iload_n E dX2_pieceRuns_81 rfl 2 rfl rfl ?_
            exact hv_iret E dX2_pieceRuns_82 hr ⟨by unfold pR; rw [hs, show 32 * (j - h * 8).toNat = 256 by omega], rfl⟩
          · refine hv_aload_n E dX2_pieceRuns_33 rfl 3 rfl rfl ?_
            refine hv_get (kf := 0) E dX2_pieceRuns_34 (show vwCl[1]? = some (RX2, TX2, 1) from rfl) (by decide) gW_X2 gF_X2_9 rfl hn.1 rfl rfl ?_
            refine hv_iload E dX2_pieceRuns_37 0 rfl rfl ?_
            refine hv_iald E dX2_pieceRuns_39 hn.2 (by omega) (by omega) (by decide) rfl ?_
            refine hv_aload_n E dX2_pieceRuns_40 rfl 3 rfl rfl ?_
            refine hv_get (kf := 0) E dX2_pieceRuns_41 (show vwCl[1]? = some (RX2, TX2, 1) from rfl) (by decide) gW_X2 gF_X2_9 rfl hn.1 rfl rfl ?_
            refine hv_iload E dX2_pieceRuns_44 0 rfl rfl ?_
            refine hv_iald E dX2_pieceRuns_46 hn.2 (by omega) (by omega) (by decide) rfl ?_
            refine hv_iconst E dX2_pieceRuns_47 rfl ?_
            refine hv_ishlR E dX2_pieceRuns_48 rfl rfl ?_
            refine hv_iload_n E dX2_pieceRuns_49 rfl 1 rfl rfl ?_
            refine hv_iorR E dX2_pieceRuns_50 rfl ?_
            refine hv_iconst E dX2_pieceRuns_51 rfl ?_
            refine hv_ixorR E dX2_pieceRuns_52 rfl ?_
            refine hv_iandR E dX2_pieceRuns_53 rfl ?_
            refine hv_istore (lv2 := [(5, .int ((f j.toNat) &&& ((((f j.toNat) <<< ((iI (1)) &&& 31)) ||| (bI (cy))) ^^^ (iI ((-1)))))), (4, .int (iI (j))), (3, .int (bI (cy))), (2, .int (iI (sm))), (0, .ref (q)), (1, .int (iI (h)))]) E dX2_pieceRuns_54 (by decide) rfl rfl ?_
            refine hv_iload_n E dX2_pieceRuns_56 rfl 3 rfl rfl ?_
            refine hv_iload E dX2_pieceRuns_57 0 rfl rfl ?_
            refine hv_callSI (na := 1) (As := [.int ((f j.toNat) &&& ((((f j.toNat) <<< ((iI (1)) &&& 31)) ||| (bI (cy))) ^^^ (iI ((-1)))))]) (st := [.int (iI (sm))]) E (cJ_bitCount l D K ((f j.toNat) &&& ((((f j.toNat) <<< ((iI (1)) &&& 31)) ||| (bI (cy))) ^^^ (iI ((-1)))))) dX2_pieceRuns_59 gL_X2_26 gS_J6_bitCount_0f7a4 gC_J6_bitCount_0f7a4 gZ_J6 (by decide +kernel) rfl ⟨Nat.le_of_ble_eq_true rfl, Nat.le_of_ble_eq_true rfl⟩ (Nat.le_of_ble_eq_true rfl) ⟨Nat.zero_le _, Nat.zero_le _⟩ rfl rfl (fun r w2 hp => ?_)
            rw [hp.1, hp.2]
            show hm_V p l e (hm_rm 1 0 0) s m args below meth c D (hm_A w s.heap.size) 6 0 0 (MQ below (hm_Qi D w s.heap.size (fun r w2 => r = iI (pR (mem f) h) ∧ w2 = w)) args s 0 0 (hm_A w s.heap.size)) w 62 [(5, .int ((f j.toNat) &&& ((((f j.toNat) <<< ((iI (1)) &&& 31)) ||| (bI (cy))) ^^^ (iI ((-1)))))), (4, .int (iI (j))), (3, .int (bI (cy))), (2, .int (iI (sm))), (0, .ref (q)), (1, .int (iI (h)))] [.int (iI ((ct (bt ((f j.toNat) &&& ((((f j.toNat) <<< ((iI (1)) &&& 31)) ||| (bI (cy))) ^^^ (iI ((-1)))))) 0 32 : Nat))), .int (iI (sm))]
            refine hv_iadd E dX2_pieceRuns_62 rfl ?_
            refine hv_istore_n (lv2 := [(2, .int (iI (sm + ((ct (bt ((f j.toNat) &&& ((((f j.toNat) <<< ((iI (1)) &&& 31)) ||| (bI (cy))) ^^^ (iI ((-1)))))) 0 32 : Nat))))), (5, .int ((f j.toNat) &&& ((((f j.toNat) <<< ((iI (1)) &&& 31)) ||| (bI (cy))) ^^^ (iI ((-1)))))), (4, .int (iI (j))), (3, .int (bI (cy))), (0, .ref (q)), (1, .int (iI (h)))]) E dX2_pieceRuns_63 rfl (by decide) rfl rfl ?_
            refine hv_aload_n E dX2_pieceRuns_64 rfl 4 rfl rfl ?_
            refine hv_get (kf := 0) E dX2_pieceRuns_65 (show vwCl[1]? = some (RX2, TX2, 1) from rfl) (by decide) gW_X2 gF_X2_9 rfl hn.1 rfl rfl ?_
            refine hv_iload E dX2_pieceRuns_68 2 rfl rfl ?_
            refine hv_iald E dX2_pieceRuns_70 hn.2 (by omega) (by omega) (by decide) rfl ?_
            refine hv_bipush E dX2_pieceRuns_71 (by decide +kernel) rfl ?_
            refine hv_iushrR E dX2_pieceRuns_73 rfl rfl ?_
            refine hv_topi (show ((f j.toNat).toUInt32 >>> ((iI (31)).toUInt32 &&& Int32.toUInt32 31)).toInt32 = bI (bt (f j.toNat) 31) from ushr31 _) ?_
            refine hv_istore_n (lv2 := [(3, .int (bI (bt (f j.toNat) 31))), (2, .int (iI (sm + ((ct (bt ((f j.toNat) &&& ((((f j.toNat) <<< ((iI (1)) &&& 31)) ||| (bI (cy))) ^^^ (iI ((-1)))))) 0 32 : Nat))))), (5, .int ((f j.toNat) &&& ((((f j.toNat) <<< ((iI (1)) &&& 31)) ||| (bI (cy))) ^^^ (iI ((-1)))))), (4, .int (iI (j))), (0, .ref (q)), (1, .int (iI (h)))]) E dX2_pieceRuns_74 rfl (by decide) rfl rfl ?_
            refine hv_iinc (lv2 := [(4, .int (iI (j + 1))), (3, .int (bI (bt (f j.toNat) 31))), (2, .int (iI (sm + ((ct (bt ((f j.toNat) &&& ((((f j.toNat) <<< ((iI (1)) &&& 31)) ||| (bI (cy))) ^^^ (iI ((-1)))))) 0 32 : Nat))))), (5, .int ((f j.toNat) &&& ((((f j.toNat) <<< ((iI (1)) &&& 31)) ||| (bI (cy))) ^^^ (iI ((-1)))))), (0, .ref (q)), (1, .int (iI (h)))]) E dX2_pieceRuns_75 3 rfl rfl (by decide) rfl rfl ?_
            refine hv_goto E 22 dX2_pieceRuns_78 (by decide) ?_
            refine hv_sub (lv2 := [(4, .int (iI (j + 1))), (3, .int (bI (bt (f j.toNat) 31))), (2, .int (iI (sm + ((ct (bt ((f j.toNat) &&& ((((f j.toNat) <<< ((iI (1)) &&& 31)) ||| (bI (cy))) ^^^ (iI ((-1)))))) 0 32 : Nat))))), (0, .ref (q)), (1, .int (iI (h)))]) [0, 1, 2, 4, 5] rfl ?_
            exact ih (j + 1) _ _ (by omega) (by omega) (by omega) (by
                  rw [show 32 * (j + 1 - h * 8).toNat = 32 * (j - h * 8).toNat + 32 by omega, ct_add, runs_word f (256 * h.toNat) (j - h * 8).toNat j.toNat cy (by omega) hc, hs]
                  omega) (by
                  rw [decide_eq_true (by omega), Bool.true_and, show 32 * (j + 1).toNat - 1 = 32 * j.toNat + 31 by omega, mem_at f _ _ (by omega)])
      refine hv_sub (lv2 := [(4, .int (iI (h * 8))), (3, .int (bI (false))), (2, .int (iI (0))), (0, .ref (q)), (1, .int (iI (h)))]) [0, 1, 2, 3, 4] rfl ?_
      exact LP 9 (h * 8) 0 false (by omega) (by omega) (by omega) (by rw [show (h * 8 - h * 8).toNat = 0 by omega]; rfl) (by rw [show (h * 8 - h * 8).toNat = 0 by omega]; rfl)
    · exact absurd c2 (by omega)
set_option maxHeartbeats 4000000 in
set_option maxRecDepth 100000 in
theorem c2_pieceForm (l : Launch) (D : va_G) (K : Nat → ClassId) {w : hm_M} {q wd : Nat} {f : Nat → Int32} (h : Int) (h0 : 0 ≤ h) (h1 : h < 16) (hn : nAt K w q wd f)  : hm_Ci l D K yX2_pieceForm cX2_pieceForm 5 .int 2 [.ref (q), .int (iI (h))] w 0 0 (fun r w2 => r = iI (pF (mem f) h) ∧ w2 = w) := by
  refine hm_enterI (by decide) (Nat.le_of_ble_eq_true rfl) ?_
  intro p e s m args below meth c E hr hnm
  show hm_V p l e (hm_rm 2 0 0) s m args below meth c D (hm_A w s.heap.size) 5 0 0 (MQ below (hm_Qi D w s.heap.size (fun r w2 => r = iI (pF (mem f) h) ∧ w2 = w)) args s 0 0 (hm_A w s.heap.size)) w 0 [(0, .ref (q)), (1, .int (iI (h)))] []
  have hN := pN_b (mem f) h
  have hR := pR_b (mem f) h
  refine hv_aload_n E dX2_pieceForm_0 rfl 0 rfl rfl ?_
  refine hv_iload_n E dX2_pieceForm_1 rfl 1 rfl rfl ?_
  refine hv_callVI (na := 1) (As := [.int (iI (h))]) (st := []) E (c2_pieceAmount l D K h h0 h1 hn) dX2_pieceForm_2 hn.1 (show vwCl[1]? = some (RX2, TX2, 1) from rfl) gL_X2_46 gV_X2_pieceAmount gI_X2_pieceAmount gC_X2_pieceAmount gZ_X2 (by decide +kernel) rfl ⟨Nat.le_of_ble_eq_true rfl, Nat.le_of_ble_eq_true rfl⟩ (Nat.le_of_ble_eq_true rfl) ⟨Nat.zero_le _, Nat.zero_le _⟩ rfl rfl (fun r w2 hp => ?_)
  rw [hp.1, hp.2]
  show hm_V p l e (hm_rm 2 0 0) s m args below meth c D (hm_A w s.heap.size) 5 0 0 (MQ below (hm_Qi D w s.heap.size (fun r w2 => r = iI (pF (mem f) h) ∧ w2 = w)) args s 0 0 (hm_A w s.heap.size)) w 5 [(0, .ref (q)), (1, .int (iI (h)))] [.int (iI (pN (mem f) h))]
  refine hv_istore_n (lv2 := [(2, .int (iI (pN (mem f) h))), (0, .ref (q)), (1, .int (iI (h)))]) E dX2_pieceForm_5 rfl (by decide) rfl rfl ?_
  refine hv_iload_n E dX2_pieceForm_6 rfl 0 rfl rfl ?_
  refine hv_if_ne E 12 dX2_pieceForm_7 (by decide) ⟨by omega, by omega⟩ rfl (fun a1 => ?_) (fun a1 => ?_)
  · refine hv_bipush E dX2_pieceForm_12 (by decide +kernel) rfl ?_
    refine hv_iload_n E dX2_pieceForm_14 rfl 0 rfl rfl ?_
    refine hv_imul E dX2_pieceForm_15 rfl ?_
    refine hv_istore_n (lv2 := [(3, .int (iI (8 * (pN (mem f) h)))), (2, .int (iI (pN (mem f) h))), (0, .ref (q)), (1, .int (iI (h)))]) E dX2_pieceForm_16 rfl (by decide) rfl rfl ?_
    refine hv_bipush E dX2_pieceForm_17 (by decide +kernel) rfl ?_
    refine hv_aload_n E dX2_pieceForm_19 rfl 2 rfl rfl ?_
    refine hv_iload_n E dX2_pieceForm_20 rfl 3 rfl rfl ?_
    refine hv_callVI (na := 1) (As := [.int (iI (h))]) (st := [.int (iI (16))]) E (c2_pieceRuns l D K h h0 h1 hn) dX2_pieceForm_21 hn.1 (show vwCl[1]? = some (RX2, TX2, 1) from rfl) gL_X2_49 gV_X2_pieceRuns gI_X2_pieceRuns gC_X2_pieceRuns gZ_X2 (by decide +kernel) rfl ⟨Nat.le_of_ble_eq_true rfl, Nat.le_of_ble_eq_true rfl⟩ (Nat.le_of_ble_eq_true rfl) ⟨Nat.zero_le _, Nat.zero_le _⟩ rfl rfl (fun r w2 hp => ?_)
    rw [hp.1, hp.2]
    show hm_V p l e (hm_rm 2 0 0) s m args below meth c D (hm_A w s.heap.size) 5 0 0 (MQ below (hm_Qi D w s.heap.size (fun r w2 => r = iI (pF (mem f) h) ∧ w2 = w)) args s 0 0 (hm_A w s.heap.size)) w 24 [(3, .int (iI (8 * (pN (mem f) h)))), (2, .int (iI (pN (mem f) h))), (0, .ref (q)), (1, .int (iI (h)))] [.int (iI (pR (mem f) h)), .int (iI (16))]
    refine hv_imul E dX2_pieceForm_24 rfl ?_
    refine hv_istore (lv2 := [(4, .int (iI (16 * (pR (mem f) h)))), (3, .int (iI (8 * (pN (mem f) h)))), (2, .int (iI (pN (mem f) h))), (0, .ref (q)), (1, .int (iI (h)))]) E dX2_pieceForm_25 (by decide) rfl rfl ?_
    refine hv_iload_n E dX2_pieceForm_27 rfl 1 rfl rfl ?_
    refine hv_sipush E dX2_pieceForm_28 (by decide +kernel) rfl ?_
    refine hv_icmp_gt E 42 dX2_pieceForm_31 (by decide) ⟨by omega, by omega⟩ ⟨by omega, by omega⟩ rfl (fun a2 => ?_) (fun a2 => ?_)
    · refine hv_sipush E dX2_pieceForm_42 (by decide +kernel) rfl ?_
      refine hv_iload E dX2_pieceForm_45 0 rfl rfl ?_
      refine hv_icmp_gt E 54 dX2_pieceForm_47 (by decide) ⟨by omega, by omega⟩ ⟨by omega, by omega⟩ rfl (fun a4 => ?_) (fun a4 => ?_)
      · refine hv_iconst E dX2_pieceForm_54 rfl ?_
        exact hv_iret E dX2_pieceForm_55 hr ⟨by unfold pF pfm; rw [if_neg a1, if_neg (by omega), if_neg (by omega)], rfl⟩
      · refine hv_iconst E dX2_pieceForm_50 rfl ?_
        refine hv_goto E 55 dX2_pieceForm_51 (by decide) ?_
        exact hv_iret E dX2_pieceForm_55 hr ⟨by unfold pF pfm; rw [if_neg a1, if_neg (by omega), if_pos (by omega)], rfl⟩
    · refine hv_iload_n E dX2_pieceForm_34 rfl 1 rfl rfl ?_
      refine hv_iload E dX2_pieceForm_35 0 rfl rfl ?_
      refine hv_icmp_gt E 42 dX2_pieceForm_37 (by decide) ⟨by omega, by omega⟩ ⟨by omega, by omega⟩ rfl (fun a3 => ?_) (fun a3 => ?_)
      · refine hv_sipush E dX2_pieceForm_42 (by decide +kernel) rfl ?_
        refine hv_iload E dX2_pieceForm_45 0 rfl rfl ?_
        refine hv_icmp_gt E 54 dX2_pieceForm_47 (by decide) ⟨by omega, by omega⟩ ⟨by omega, by omega⟩ rfl (fun a4 => ?_) (fun a4 => ?_)
        · refine hv_iconst E dX2_pieceForm_54 rfl ?_
          exact hv_iret E dX2_pieceForm_55 hr ⟨by unfold pF pfm; rw [if_neg a1, if_neg (by omega), if_neg (by omega)], rfl⟩
        · refine hv_iconst E dX2_pieceForm_50 rfl ?_
          refine hv_goto E 55 dX2_pieceForm_51 (by decide) ?_
          exact hv_iret E dX2_pieceForm_55 hr ⟨by unfold pF pfm; rw [if_neg a1, if_neg (by omega), if_pos (by omega)], rfl⟩
      · refine hv_iconst E dX2_pieceForm_40 rfl ?_
        exact hv_iret E dX2_pieceForm_41 hr ⟨by unfold pF pfm; rw [if_neg a1, if_pos (by omega)], rfl⟩
  · refine hv_iconst E dX2_pieceForm_10 rfl ?_
    exact hv_iret E dX2_pieceForm_11 hr ⟨by unfold pF pfm; rw [if_pos a1], rfl⟩
set_option maxHeartbeats 4000000 in
set_option maxRecDepth 100000 in
theorem c2_pieceBits (l : Launch) (D : va_G) (K : Nat → ClassId) {w : hm_M} {q wd : Nat} {f : Nat → Int32} (h : Int) (h0 : 0 ≤ h) (h1 : h < 16) (hn : nAt K w q wd f)  : hm_Ci l D K yX2_pieceBits cX2_pieceBits 2 .int 3 [.ref (q), .int (iI (h))] w 0 0 (fun r w2 => r = iI (pB (mem f) h) ∧ w2 = w) := by
  refine hm_enterI (by decide) (Nat.le_of_ble_eq_true rfl) ?_
  intro p e s m args below meth c E hr hnm
  show hm_V p l e (hm_rm 3 0 0) s m args below meth c D (hm_A w s.heap.size) 2 0 0 (MQ below (hm_Qi D w s.heap.size (fun r w2 => r = iI (pB (mem f) h) ∧ w2 = w)) args s 0 0 (hm_A w s.heap.size)) w 0 [(0, .ref (q)), (1, .int (iI (h)))] []
  have hF := pF_b (mem f) h
  refine hv_aload_n E dX2_pieceBits_0 rfl 0 rfl rfl ?_
  refine hv_iload_n E dX2_pieceBits_1 rfl 1 rfl rfl ?_
  refine hv_callVI (na := 1) (As := [.int (iI (h))]) (st := []) E (c2_pieceForm l D K h h0 h1 hn) dX2_pieceBits_2 hn.1 (show vwCl[1]? = some (RX2, TX2, 1) from rfl) gL_X2_52 gV_X2_pieceForm gI_X2_pieceForm gC_X2_pieceForm gZ_X2 (by decide +kernel) rfl ⟨Nat.le_of_ble_eq_true rfl, Nat.le_of_ble_eq_true rfl⟩ (Nat.le_of_ble_eq_true rfl) ⟨Nat.zero_le _, Nat.zero_le _⟩ rfl rfl (fun r w2 hp => ?_)
  rw [hp.1, hp.2]
  show hm_V p l e (hm_rm 3 0 0) s m args below meth c D (hm_A w s.heap.size) 2 0 0 (MQ below (hm_Qi D w s.heap.size (fun r w2 => r = iI (pB (mem f) h) ∧ w2 = w)) args s 0 0 (hm_A w s.heap.size)) w 5 [(0, .ref (q)), (1, .int (iI (h)))] [.int (iI (pF (mem f) h))]
  have hB : pB (mem f) h = if pF (mem f) h = 0 then 8 * pN (mem f) h else if pF (mem f) h = 1 then 256 else if pF (mem f) h = 2 then 16 * pR (mem f) h else 0 := rfl
  generalize pF (mem f) h = fm at hB hF ⊢
  rcases (show fm = 0 ∨ fm = 1 ∨ fm = 2 ∨ fm = -1 by omega) with rfl | rfl | rfl | rfl
  · refine hv_tableIn E 32 dX2_pieceBits_5 ⟨by omega, by omega⟩ (by omega) (by omega) rfl (by decide) ?_
    refine hv_bipush E dX2_pieceBits_32 (by decide +kernel) rfl ?_
    refine hv_aload_n E dX2_pieceBits_34 rfl 0 rfl rfl ?_
    refine hv_iload_n E dX2_pieceBits_35 rfl 1 rfl rfl ?_
    refine hv_callVI (na := 1) (As := [.int (iI (h))]) (st := [.int (iI (8))]) E (c2_pieceAmount l D K h h0 h1 hn) dX2_pieceBits_36 hn.1 (show vwCl[1]? = some (RX2, TX2, 1) from rfl) gL_X2_46 gV_X2_pieceAmount gI_X2_pieceAmount gC_X2_pieceAmount gZ_X2 (by decide +kernel) rfl ⟨Nat.le_of_ble_eq_true rfl, Nat.le_of_ble_eq_true rfl⟩ (Nat.le_of_ble_eq_true rfl) ⟨Nat.zero_le _, Nat.zero_le _⟩ rfl rfl (fun r w2 hp => ?_)
    rw [hp.1, hp.2]
    show hm_V p l e (hm_rm 3 0 0) s m args below meth c D (hm_A w s.heap.size) 2 0 0 (MQ below (hm_Qi D w s.heap.size (fun r w2 => r = iI (pB (mem f) h) ∧ w2 = w)) args s 0 0 (hm_A w s.heap.size)) w 39 [(0, .ref (q)), (1, .int (iI (h)))] [.int (iI (pN (mem f) h)), .int (iI (8))]
    refine hv_imul E dX2_pieceBits_39 rfl ?_
    exact hv_iret E dX2_pieceBits_40 hr ⟨by rw [hB]; rfl, rfl⟩
  · refine hv_tableIn E 41 dX2_pieceBits_5 ⟨by omega, by omega⟩ (by omega) (by omega) rfl (by decide) ?_
    refine hv_sipush E dX2_pieceBits_41 (by decide +kernel) rfl ?_
    exact hv_iret E dX2_pieceBits_44 hr ⟨by rw [hB]; rfl, rfl⟩
  · refine hv_tableIn E 45 dX2_pieceBits_5 ⟨by omega, by omega⟩ (by omega) (by omega) rfl (by decide) ?_
    refine hv_bipush E dX2_pieceBits_45 (by decide +kernel) rfl ?_
    refine hv_aload_n E dX2_pieceBits_47 rfl 0 rfl rfl ?_
    refine hv_iload_n E dX2_pieceBits_48 rfl 1 rfl rfl ?_
    refine hv_callVI (na := 1) (As := [.int (iI (h))]) (st := [.int (iI (16))]) E (c2_pieceRuns l D K h h0 h1 hn) dX2_pieceBits_49 hn.1 (show vwCl[1]? = some (RX2, TX2, 1) from rfl) gL_X2_49 gV_X2_pieceRuns gI_X2_pieceRuns gC_X2_pieceRuns gZ_X2 (by decide +kernel) rfl ⟨Nat.le_of_ble_eq_true rfl, Nat.le_of_ble_eq_true rfl⟩ (Nat.le_of_ble_eq_true rfl) ⟨Nat.zero_le _, Nat.zero_le _⟩ rfl rfl (fun r w2 hp => ?_)
    rw [hp.1, hp.2]
    show hm_V p l e (hm_rm 3 0 0) s m args below meth c D (hm_A w s.heap.size) 2 0 0 (MQ below (hm_Qi D w s.heap.size (fun r w2 => r = iI (pB (mem f) h) ∧ w2 = w)) args s 0 0 (hm_A w s.heap.size)) w 52 [(0, .ref (q)), (1, .int (iI (h)))] [.int (iI (pR (mem f) h)), .int (iI (16))]
    refine hv_imul E dX2_pieceBits_52 rfl ?_
    exact hv_iret E dX2_pieceBits_53 hr ⟨by rw [hB]; rfl, rfl⟩
  · refine hv_tableOut E 54 dX2_pieceBits_5 ⟨by omega, by omega⟩ (by omega) (by decide) ?_
    refine hv_iconst E dX2_pieceBits_54 rfl ?_
    exact hv_iret E dX2_pieceBits_55 hr ⟨by rw [hB]; rfl, rfl⟩
end
section
/-- the tape's object at t, its words f at tw, L bits, read up to P -/
def tAt (K : Nat → ClassId) (w : hm_M) (t tw : Nat) (f : Nat → Int32) (L P : Int) : Prop := w t = some (.inr (3, [.ref tw, .int (iI L), .int (iI P)])) ∧ w tw = some (.inl (K 0, 257, .inl f))
def tM (K : Nat → ClassId) (w : hm_M) (t tw : Nat) (f : Nat → Int32) (L P : Int) : hm_M := hm_up (hm_up w tw (.inl (K 0, 257, .inl f))) t (.inr (3, [.ref tw, .int (iI L), .int (iI P)]))
theorem tAt.ne {K : Nat → ClassId} {w : hm_M} {t tw : Nat} {f : Nat → Int32} {L P : Int} (h : tAt K w t tw f L P) : t ≠ tw := fun e => by
  have h1 := h.1
  rw [e, h.2] at h1
  cases h1
theorem tM_words {K : Nat → ClassId} {w : hm_M} {t tw : Nat} {f g : Nat → Int32} {L P : Int} (h : t ≠ tw) : hm_up (tM K w t tw f L P) tw (.inl (K 0, 257, .inl g)) = tM K w t tw g L P := by
  unfold tM; rw [hm_uc h, hm_uu]
theorem tM_obj {K : Nat → ClassId} {w : hm_M} {t tw : Nat} {f : Nat → Int32} {L P L2 P2 : Int} : hm_up (tM K w t tw f L P) t (.inr (3, [.ref tw, .int (iI L2), .int (iI P2)])) = tM K w t tw f L2 P2 := by
  unfold tM; rw [hm_uu]
theorem tM_id {K : Nat → ClassId} {w : hm_M} {t tw : Nat} {f : Nat → Int32} {L P : Int} (h : tAt K w t tw f L P) : w = tM K w t tw f L P := by
  unfold tM; rw [hm_uid h.2, hm_uid h.1]
theorem tAt_tM {K : Nat → ClassId} {w : hm_M} {t tw : Nat} {f : Nat → Int32} {L P : Int} (h : t ≠ tw) : tAt K (tM K w t tw f L P) t tw f L P := ⟨by unfold tM; exact hm_us, by unfold tM; rw [hm_un (Ne.symm h), hm_us]⟩
theorem tM_tM {K : Nat → ClassId} {w : hm_M} {t tw : Nat} {f g : Nat → Int32} {L P L2 P2 : Int} (h : t ≠ tw) : tM K (tM K w t tw f L P) t tw g L2 P2 = tM K w t tw g L2 P2 := by
  have h1 : hm_up (tM K w t tw f L P) tw (.inl (K 0, 257, .inl g)) = tM K w t tw g L P := tM_words h
  show hm_up (hm_up (tM K w t tw f L P) tw _) t _ = _
  rw [h1, tM_obj]
theorem tM_other {K : Nat → ClassId} {w : hm_M} {t tw q : Nat} {f : Nat → Int32} {L P : Int} (h1 : q ≠ t) (h2 : q ≠ tw) : tM K w t tw f L P q = w q := by
  unfold tM; rw [hm_un h1, hm_un h2]
/-- bit i of the tape; 0 behind its end -/
def tb (f : Nat → Int32) (L : Int) (i : Nat) : Bool := decide ((i : Int) < L) && mem f i
/-- the number that n bits from a on tell, the highest one first -/
def bv (b : Nat → Bool) (a : Nat) : Nat → Nat
  | 0 => 0
  | n + 1 => 2 * bv b a n + (if b (a + n) then 1 else 0)
theorem bv_lt (b : Nat → Bool) (a n : Nat) : bv b a n < 2 ^ n := by
  induction n with
  | zero => simp [bv]
  | succ n ih => simp only [bv]; rw [Nat.pow_succ]; split <;> omega
theorem or_bit (z : Int) (h0 : 0 ≤ z) (h1 : z < 1073741824) (c : Bool) : (iI z <<< (iI 1 &&& 31)) ||| bI c = iI (2 * z + (if c then 1 else 0)) := by
  have e1 : iI z <<< (iI 1 &&& 31) = iI (z * 2 ^ 1) := iI_shl z 1 (by omega)
  rw [e1]
  apply Int32.toBitVec_inj.mp
  apply BitVec.eq_of_toNat_eq
  rw [Int32.toBitVec_or, BitVec.toNat_or]
  have n1 : (iI (z * 2 ^ 1)).toBitVec.toNat = 2 * z.toNat := by
    rw [iI_bv, BitVec.toNat_ofInt]; omega
  have n2 : (bI c).toBitVec.toNat = (if c then 1 else 0) := by cases c <;> decide +kernel
  have n3 : (iI (2 * z + (if c then 1 else 0))).toBitVec.toNat = 2 * z.toNat + (if c then 1 else 0) := by
    rw [iI_bv, BitVec.toNat_ofInt]; cases c <;> simp <;> omega
  rw [n1, n2, n3]
  have := Nat.two_pow_add_eq_or_of_lt (i := 1) (b := if c then 1 else 0) (by cases c <;> decide) z.toNat
  rw [Nat.pow_one] at this
  rw [this]
set_option maxHeartbeats 4000000 in
set_option maxRecDepth 100000 in
theorem c4_held (l : Launch) (D : va_G) (K : Nat → ClassId) {w : hm_M} {t tw : Nat} {f : Nat → Int32} {L P : Int} (ht : tAt K w t tw f L P)  : hm_Ci l D K yX4_held cX4_held 1 .int 0 [.ref (t)] w 0 0 (fun r w2 => r = iI L ∧ w2 = w) := by
  refine hm_enterI (by decide) (Nat.le_of_ble_eq_true rfl) ?_
  intro p e s m args below meth c E hr hnm
  show hm_V p l e (hm_rm 0 0 0) s m args below meth c D (hm_A w s.heap.size) 1 0 0 (MQ below (hm_Qi D w s.heap.size (fun r w2 => r = iI L ∧ w2 = w)) args s 0 0 (hm_A w s.heap.size)) w 0 [(0, .ref (t))] []
  refine hv_aload_n E dX4_held_0 rfl 0 rfl rfl ?_
  refine hv_get (kf := 1) E dX4_held_1 (show vwCl[3]? = some (RX4, TX4, 3) from rfl) (by decide) gW_X4 gF_X4_15 rfl ht.1 rfl rfl ?_
  exact hv_iret E dX4_held_4 hr ⟨rfl, rfl⟩
set_option maxHeartbeats 4000000 in
set_option maxRecDepth 100000 in
theorem c4_reaches (l : Launch) (D : va_G) (K : Nat → ClassId) {w : hm_M} {t tw : Nat} {f : Nat → Int32} {L P : Int} (i : Int) (hi : iB i) (ht : tAt K w t tw f L P) (hL0 : 0 ≤ L) (hL1 : L ≤ 8210)  : hm_Ci l D K yX4_reaches cX4_reaches 2 .boolean 0 [.ref (t), .int (iI (i))] w 0 0 (fun r w2 => r = bI (decide (0 ≤ i ∧ i < L)) ∧ w2 = w) := by
  refine hm_enterI (by decide) (Nat.le_of_ble_eq_true rfl) ?_
  intro p e s m args below meth c E hr hnm
  show hm_V p l e (hm_rm 0 0 0) s m args below meth c D (hm_A w s.heap.size) 2 0 0 (MQ below (hm_Qi D w s.heap.size (fun r w2 => r = bI (decide (0 ≤ i ∧ i < L)) ∧ w2 = w)) args s 0 0 (hm_A w s.heap.size)) w 0 [(0, .ref (t)), (1, .int (iI (i)))] []
  refine hv_iload_n E dX4_reaches_0 rfl 1 rfl rfl ?_
  refine hv_if_lt E 16 dX4_reaches_1 (by decide) hi rfl (fun h1 => ?_) (fun h1 => ?_)
  · refine hv_iconst E dX4_reaches_16 rfl ?_
    refine hv_topi (show iI (0) = bI (false) from rfl) ?_
    exact hv_zret E dX4_reaches_17 hr ⟨by rw [decide_eq_false (by omega)], rfl⟩
  · refine hv_iload_n E dX4_reaches_4 rfl 1 rfl rfl ?_
    refine hv_aload_n E dX4_reaches_5 rfl 0 rfl rfl ?_
    refine hv_get (kf := 1) E dX4_reaches_6 (show vwCl[3]? = some (RX4, TX4, 3) from rfl) (by decide) gW_X4 gF_X4_15 rfl ht.1 rfl rfl ?_
    refine hv_icmp_ge E 16 dX4_reaches_9 (by decide) hi ⟨by omega, by omega⟩ rfl (fun h2 => ?_) (fun h2 => ?_)
    · refine hv_iconst E dX4_reaches_16 rfl ?_
      refine hv_topi (show iI (0) = bI (false) from rfl) ?_
      exact hv_zret E dX4_reaches_17 hr ⟨by rw [decide_eq_false (by omega)], rfl⟩
    · refine hv_iconst E dX4_reaches_12 rfl ?_
      refine hv_goto E 17 dX4_reaches_13 (by decide) ?_
      refine hv_topi (show iI (1) = bI (true) from rfl) ?_
      exact hv_zret E dX4_reaches_17 hr ⟨by rw [decide_eq_true (by omega)], rfl⟩
set_option maxHeartbeats 4000000 in
set_option maxRecDepth 100000 in
theorem c4_bitAt (l : Launch) (D : va_G) (K : Nat → ClassId) {w : hm_M} {t tw : Nat} {f : Nat → Int32} {L P : Int} (i : Int) (hi : iB i) (ht : tAt K w t tw f L P) (hL0 : 0 ≤ L) (hL1 : L ≤ 8210)  : hm_Ci l D K yX4_bitAt cX4_bitAt 2 .int 1 [.ref (t), .int (iI (i))] w 0 0 (fun r w2 => r = bI (decide (0 ≤ i) && tb f L i.toNat) ∧ w2 = w) := by
  refine hm_enterI (by decide) (Nat.le_of_ble_eq_true rfl) ?_
  intro p e s m args below meth c E hr hnm
  show hm_V p l e (hm_rm 1 0 0) s m args below meth c D (hm_A w s.heap.size) 2 0 0 (MQ below (hm_Qi D w s.heap.size (fun r w2 => r = bI (decide (0 ≤ i) && tb f L i.toNat) ∧ w2 = w)) args s 0 0 (hm_A w s.heap.size)) w 0 [(0, .ref (t)), (1, .int (iI (i)))] []
  refine hv_aload_n E dX4_bitAt_0 rfl 0 rfl rfl ?_
  refine hv_iload_n E dX4_bitAt_1 rfl 1 rfl rfl ?_
  refine hv_callVI (na := 1) (As := [.int (iI (i))]) (st := []) E (c4_reaches l D K i hi ht hL0 hL1) dX4_bitAt_2 ht.1 (show vwCl[3]? = some (RX4, TX4, 3) from rfl) gL_X4_22 gV_X4_reaches gI_X4_reaches gC_X4_reaches gZ_X4 (by decide +kernel) rfl ⟨Nat.le_of_ble_eq_true rfl, Nat.le_of_ble_eq_true rfl⟩ (Nat.le_of_ble_eq_true rfl) ⟨Nat.zero_le _, Nat.zero_le _⟩ rfl rfl (fun r w2 hp => ?_)
  rw [hp.1, hp.2]
  show hm_V p l e (hm_rm 1 0 0) s m args below meth c D (hm_A w s.heap.size) 2 0 0 (MQ below (hm_Qi D w s.heap.size (fun r w2 => r = bI (decide (0 ≤ i) && tb f L i.toNat) ∧ w2 = w)) args s 0 0 (hm_A w s.heap.size)) w 5 [(0, .ref (t)), (1, .int (iI (i)))] [.int (bI (decide (0 ≤ i ∧ i < L)))]
  refine hv_if_eqB E 26 dX4_bitAt_5 (by decide) rfl (fun h1 => ?_) (fun h1 => ?_)
  · have h2 := of_decide_eq_false h1
    refine hv_iconst E dX4_bitAt_26 rfl ?_
    exact hv_iret E dX4_bitAt_27 hr ⟨by
          show bI false = _
          congr 1; unfold tb
          by_cases h3 : 0 ≤ i
          · rw [decide_eq_false (show ¬ (i.toNat : Int) < L by omega)]; simp
          · rw [decide_eq_false h3]; rfl, rfl⟩
  · have h2 := of_decide_eq_true h1
    refine hv_aload_n E dX4_bitAt_8 rfl 0 rfl rfl ?_
    refine hv_get (kf := 0) E dX4_bitAt_9 (show vwCl[3]? = some (RX4, TX4, 3) from rfl) (by decide) gW_X4 gF_X4_9 rfl ht.1 rfl rfl ?_
    refine hv_iload_n E dX4_bitAt_12 rfl 1 rfl rfl ?_
    refine hv_iconst E dX4_bitAt_13 rfl ?_
    refine hv_ishrR E dX4_bitAt_14 rfl rfl ?_
    refine hv_topi (show (iI (i)) >>> ((iI (5)) &&& 31) = iI (i / 32) from iI_shr5 hi) ?_
    refine hv_iald E dX4_bitAt_15 ht.2 (by omega) (by omega) (by decide) rfl ?_
    refine hv_iload_n E dX4_bitAt_16 rfl 1 rfl rfl ?_
    refine hv_bipush E dX4_bitAt_17 (by decide +kernel) rfl ?_
    refine hv_iandR E dX4_bitAt_19 rfl ?_
    refine hv_topi (show (iI (i)) &&& (iI (31)) = iI (i % 32) from iI_and31 i) ?_
    refine hv_iushrR E dX4_bitAt_20 rfl rfl ?_
    refine hv_iconst E dX4_bitAt_21 rfl ?_
    refine hv_iandR E dX4_bitAt_22 rfl ?_
    refine hv_topi (show (((f (i / 32).toNat).toUInt32 >>> ((iI (i % 32)).toUInt32 &&& Int32.toUInt32 31)).toInt32) &&& (iI (1)) = bI (mem f i.toNat) from mem_bit f h2.1) ?_
    refine hv_goto E 27 dX4_bitAt_23 (by decide) ?_
    exact hv_iret E dX4_bitAt_27 hr ⟨by unfold tb; rw [decide_eq_true h2.1, decide_eq_true (show (i.toNat : Int) < L by omega)]; rfl, rfl⟩
set_option maxHeartbeats 4000000 in
set_option maxRecDepth 100000 in
theorem c4_turn (l : Launch) (D : va_G) (K : Nat → ClassId) {w : hm_M} {t tw : Nat} {f : Nat → Int32} {L P : Int} (i : Int) (hi : 0 ≤ i) (hi2 : i < L) (ht : tAt K w t tw f L P) (hL0 : 0 ≤ L) (hL1 : L ≤ 8210)  : hm_Cv l D K yX4_turn cX4_turn 2 1 [.ref (t), .int (iI (i))] w 0 0 (fun w2 => ∃ f2 : Nat → Int32, w2 = tM K w t tw f2 L P ∧ ∀ u, mem f2 u = (mem f u ^^ decide (u = i.toNat))) := by
  refine hm_enterV (by decide) (Nat.le_of_ble_eq_true rfl) ?_
  intro p e s m args below meth c E hr hnm
  show hm_V p l e (hm_rm 1 0 0) s m args below meth c D (hm_A w s.heap.size) 2 0 0 (MQ below (hm_Qv D w s.heap.size (fun w2 => ∃ f2 : Nat → Int32, w2 = tM K w t tw f2 L P ∧ ∀ u, mem f2 u = (mem f u ^^ decide (u = i.toNat)))) args s 0 0 (hm_A w s.heap.size)) w 0 [(0, .ref (t)), (1, .int (iI (i)))] []
  refine hv_aload_n E dX4_turn_0 rfl 0 rfl rfl ?_
  refine hv_iload_n E dX4_turn_1 rfl 1 rfl rfl ?_
  refine hv_callVI (na := 1) (As := [.int (iI (i))]) (st := []) E (c4_reaches l D K i ⟨by omega, by omega⟩ ht hL0 hL1) dX4_turn_2 ht.1 (show vwCl[3]? = some (RX4, TX4, 3) from rfl) gL_X4_22 gV_X4_reaches gI_X4_reaches gC_X4_reaches gZ_X4 (by decide +kernel) rfl ⟨Nat.le_of_ble_eq_true rfl, Nat.le_of_ble_eq_true rfl⟩ (Nat.le_of_ble_eq_true rfl) ⟨Nat.zero_le _, Nat.zero_le _⟩ rfl rfl (fun r w2 hp => ?_)
  rw [hp.1, hp.2]
  show hm_V p l e (hm_rm 1 0 0) s m args below meth c D (hm_A w s.heap.size) 2 0 0 (MQ below (hm_Qv D w s.heap.size (fun w2 => ∃ f2 : Nat → Int32, w2 = tM K w t tw f2 L P ∧ ∀ u, mem f2 u = (mem f u ^^ decide (u = i.toNat)))) args s 0 0 (hm_A w s.heap.size)) w 5 [(0, .ref (t)), (1, .int (iI (i)))] [.int (bI (decide (0 ≤ i ∧ i < L)))]
  refine hv_if_eqB E 25 dX4_turn_5 (by decide) rfl (fun h1 => ?_) (fun h1 => ?_)
  · exact absurd (of_decide_eq_false h1) (fun z => z ⟨hi, hi2⟩)
  · refine hv_aload_n E dX4_turn_8 rfl 0 rfl rfl ?_
    refine hv_get (kf := 0) E dX4_turn_9 (show vwCl[3]? = some (RX4, TX4, 3) from rfl) (by decide) gW_X4 gF_X4_9 rfl ht.1 rfl rfl ?_
    refine hv_iload_n E dX4_turn_12 rfl 1 rfl rfl ?_
    refine hv_iconst E dX4_turn_13 rfl ?_
    refine hv_ishrR E dX4_turn_14 rfl rfl ?_
    refine hv_topi (show (iI (i)) >>> ((iI (5)) &&& 31) = iI (i / 32) from iI_shr5 ⟨by omega, by omega⟩) ?_
    refine hv_dup2 E dX4_turn_15 rfl rfl rfl ?_
    refine hv_iald E dX4_turn_16 ht.2 (by omega) (by omega) (by decide) rfl ?_
    refine hv_iconst E dX4_turn_17 rfl ?_
    refine hv_iload_n E dX4_turn_18 rfl 1 rfl rfl ?_
    refine hv_bipush E dX4_turn_19 (by decide +kernel) rfl ?_
    refine hv_iandR E dX4_turn_21 rfl ?_
    refine hv_topi (show (iI (i)) &&& (iI (31)) = iI (i % 32) from iI_and31 i) ?_
    refine hv_ishlR E dX4_turn_22 rfl rfl ?_
    refine hv_ixorR E dX4_turn_23 rfl ?_
    refine hv_iast E dX4_turn_24 ht.2 (by omega) (by omega) (by decide) rfl ?_
    refine hv_mem (show hm_up w tw (.inl (K 0, 257, .inl (upd f (i / 32).toNat ((f (i / 32).toNat) ^^^ ((iI (1)) <<< ((iI (i % 32)) &&& 31)))))) = tM K w t tw (upd f (i / 32).toNat ((f (i / 32).toNat) ^^^ ((iI (1)) <<< ((iI (i % 32)) &&& 31)))) L P from (by
          have h9 := tM_words (K := K) (w := w) (f := f) (g := upd f (i / 32).toNat ((f (i / 32).toNat) ^^^ ((iI (1)) <<< ((iI (i % 32)) &&& 31)))) (L := L) (P := P) ht.ne
          rw [← tM_id ht] at h9; exact h9)) ?_
    exact hv_vret E dX4_turn_25 hr ⟨_, rfl, fun u => by
          rw [mem_upd]
          have hb := bt_one (r := (i % 32).toNat) (i := u % 32) (by omega) (by omega)
          rw [Int.toNat_of_nonneg (show 0 ≤ i % 32 by omega)] at hb
          split
          · rename_i h
            rw [b_xor, hb, show (f (i / 32).toNat) = f (u / 32) by rw [h]]
            show (mem f u ^^ _) = _
            congr 2; apply propext; omega
          · rw [decide_eq_false (by omega), Bool.xor_false]⟩
set_option maxHeartbeats 4000000 in
set_option maxRecDepth 100000 in
theorem c4_keepFirst (l : Launch) (D : va_G) (K : Nat → ClassId) {w : hm_M} {t tw : Nat} {f : Nat → Int32} {L P : Int} (n : Int) (hn0 : 0 ≤ n) (hn1 : n ≤ L) (ht : tAt K w t tw f L P) (hL0 : 0 ≤ L) (hL1 : L ≤ 8210)  : hm_Cv l D K yX4_keepFirst cX4_keepFirst 2 0 [.ref (t), .int (iI (n))] w 0 0 (fun w2 => w2 = tM K w t tw f n P) := by
  refine hm_enterV (by decide) (Nat.le_of_ble_eq_true rfl) ?_
  intro p e s m args below meth c E hr hnm
  show hm_V p l e (hm_rm 0 0 0) s m args below meth c D (hm_A w s.heap.size) 2 0 0 (MQ below (hm_Qv D w s.heap.size (fun w2 => w2 = tM K w t tw f n P)) args s 0 0 (hm_A w s.heap.size)) w 0 [(0, .ref (t)), (1, .int (iI (n)))] []
  refine hv_iload_n E dX4_keepFirst_0 rfl 1 rfl rfl ?_
  refine hv_if_lt E 17 dX4_keepFirst_1 (by decide) ⟨by omega, by omega⟩ rfl (fun h1 => ?_) (fun h1 => ?_)
  · exact absurd h1 (by omega)
  · refine hv_iload_n E dX4_keepFirst_4 rfl 1 rfl rfl ?_
    refine hv_aload_n E dX4_keepFirst_5 rfl 0 rfl rfl ?_
    refine hv_get (kf := 1) E dX4_keepFirst_6 (show vwCl[3]? = some (RX4, TX4, 3) from rfl) (by decide) gW_X4 gF_X4_15 rfl ht.1 rfl rfl ?_
    refine hv_icmp_gt E 17 dX4_keepFirst_9 (by decide) ⟨by omega, by omega⟩ ⟨by omega, by omega⟩ rfl (fun h2 => ?_) (fun h2 => ?_)
    · exact absurd h2 (by omega)
    · refine hv_aload_n E dX4_keepFirst_12 rfl 0 rfl rfl ?_
      refine hv_iload_n E dX4_keepFirst_13 rfl 1 rfl rfl ?_
      refine hv_put (kf := 1) (ty0 := tyX4) E dX4_keepFirst_14 (show vwCl[3]? = some (RX4, TX4, 3) from rfl) (by decide) gW_X4 tyX4_ok nmX4 gF_X4_15 rfl ht.1 rfl rfl rfl (Nat.le_of_ble_eq_true rfl) rfl ?_
      show hm_V p l e (hm_rm 0 0 0) s m args below meth c D (hm_A w s.heap.size) 2 0 0 (MQ below (hm_Qv D w s.heap.size (fun w2 => w2 = tM K w t tw f n P)) args s 0 0 (hm_A w s.heap.size)) (hm_up w t (.inr (3, [.ref tw, .int (iI (n)), .int (iI (P))]))) 17 [(0, .ref (t)), (1, .int (iI (n)))] []
      exact hv_vret E dX4_keepFirst_17 hr (by
            have h9 := tM_obj (K := K) (w := w) (t := t) (tw := tw) (f := f) (L := L) (P := P) (L2 := n) (P2 := P)
            rw [← tM_id ht] at h9; exact h9)
set_option maxHeartbeats 4000000 in
set_option maxRecDepth 100000 in
theorem c4_rewind (l : Launch) (D : va_G) (K : Nat → ClassId) {w : hm_M} {t tw : Nat} {f : Nat → Int32} {L P : Int} (ht : tAt K w t tw f L P)  : hm_Cv l D K yX4_rewind cX4_rewind 1 0 [.ref (t)] w 0 0 (fun w2 => w2 = tM K w t tw f L 0) := by
  refine hm_enterV (by decide) (Nat.le_of_ble_eq_true rfl) ?_
  intro p e s m args below meth c E hr hnm
  show hm_V p l e (hm_rm 0 0 0) s m args below meth c D (hm_A w s.heap.size) 1 0 0 (MQ below (hm_Qv D w s.heap.size (fun w2 => w2 = tM K w t tw f L 0)) args s 0 0 (hm_A w s.heap.size)) w 0 [(0, .ref (t))] []
  refine hv_aload_n E dX4_rewind_0 rfl 0 rfl rfl ?_
  refine hv_iconst E dX4_rewind_1 rfl ?_
  refine hv_put (kf := 2) (ty0 := tyX4) E dX4_rewind_2 (show vwCl[3]? = some (RX4, TX4, 3) from rfl) (by decide) gW_X4 tyX4_ok nmX4 gF_X4_19 rfl ht.1 rfl rfl rfl (Nat.le_of_ble_eq_true rfl) rfl ?_
  show hm_V p l e (hm_rm 0 0 0) s m args below meth c D (hm_A w s.heap.size) 1 0 0 (MQ below (hm_Qv D w s.heap.size (fun w2 => w2 = tM K w t tw f L 0)) args s 0 0 (hm_A w s.heap.size)) (hm_up w t (.inr (3, [.ref tw, .int (iI (L)), .int (iI (0))]))) 5 [(0, .ref (t))] []
  exact hv_vret E dX4_rewind_5 hr (by
        have h9 := tM_obj (K := K) (w := w) (t := t) (tw := tw) (f := f) (L := L) (P := P) (L2 := L) (P2 := 0)
        rw [← tM_id ht] at h9; exact h9)
set_option maxHeartbeats 4000000 in
set_option maxRecDepth 100000 in
theorem c4_isReadToItsEnd (l : Launch) (D : va_G) (K : Nat → ClassId) {w : hm_M} {t tw : Nat} {f : Nat → Int32} {L P : Int} (hP : iB P) (ht : tAt K w t tw f L P) (hL0 : 0 ≤ L) (hL1 : L ≤ 8210)  : hm_Ci l D K yX4_isReadToItsEnd cX4_isReadToItsEnd 1 .boolean 0 [.ref (t)] w 0 0 (fun r w2 => r = bI (decide (P = L)) ∧ w2 = w) := by
  refine hm_enterI (by decide) (Nat.le_of_ble_eq_true rfl) ?_
  intro p e s m args below meth c E hr hnm
  show hm_V p l e (hm_rm 0 0 0) s m args below meth c D (hm_A w s.heap.size) 1 0 0 (MQ below (hm_Qi D w s.heap.size (fun r w2 => r = bI (decide (P = L)) ∧ w2 = w)) args s 0 0 (hm_A w s.heap.size)) w 0 [(0, .ref (t))] []
  refine hv_aload_n E dX4_isReadToItsEnd_0 rfl 0 rfl rfl ?_
  refine hv_get (kf := 2) E dX4_isReadToItsEnd_1 (show vwCl[3]? = some (RX4, TX4, 3) from rfl) (by decide) gW_X4 gF_X4_19 rfl ht.1 rfl rfl ?_
  refine hv_aload_n E dX4_isReadToItsEnd_4 rfl 0 rfl rfl ?_
  refine hv_get (kf := 1) E dX4_isReadToItsEnd_5 (show vwCl[3]? = some (RX4, TX4, 3) from rfl) (by decide) gW_X4 gF_X4_15 rfl ht.1 rfl rfl ?_
  refine hv_icmp_ne E 15 dX4_isReadToItsEnd_8 (by decide) hP ⟨by omega, by omega⟩ rfl (fun h1 => ?_) (fun h1 => ?_)
  · refine hv_iconst E dX4_isReadToItsEnd_15 rfl ?_
    refine hv_topi (show iI (0) = bI (false) from rfl) ?_
    exact hv_zret E dX4_isReadToItsEnd_16 hr ⟨by rw [decide_eq_false h1], rfl⟩
  · refine hv_iconst E dX4_isReadToItsEnd_11 rfl ?_
    refine hv_goto E 16 dX4_isReadToItsEnd_12 (by decide) ?_
    refine hv_topi (show iI (1) = bI (true) from rfl) ?_
    exact hv_zret E dX4_isReadToItsEnd_16 hr ⟨by rw [decide_eq_true h1], rfl⟩
set_option maxHeartbeats 4000000 in
set_option maxRecDepth 100000 in
theorem c4_valueAt (l : Launch) (D : va_G) (K : Nat → ClassId) {w : hm_M} {t tw : Nat} {f : Nat → Int32} {L P : Int} (a n : Int) (ha0 : 0 ≤ a) (ha1 : a < 1000000) (hn0 : 0 ≤ n) (hn1 : n ≤ 29) (ht : tAt K w t tw f L P) (hL0 : 0 ≤ L) (hL1 : L ≤ 8210)  : hm_Ci l D K yX4_valueAt cX4_valueAt 5 .int 2 [.ref (t), .int (iI (a)), .int (iI (n))] w 0 0 (fun r w2 => r = iI (bv (tb f L) a.toNat n.toNat : Nat) ∧ w2 = w) := by
  refine hm_enterI (by decide) (Nat.le_of_ble_eq_true rfl) ?_
  intro p e s m args below meth c E hr hnm
  show hm_V p l e (hm_rm 2 0 0) s m args below meth c D (hm_A w s.heap.size) 5 0 0 (MQ below (hm_Qi D w s.heap.size (fun r w2 => r = iI (bv (tb f L) a.toNat n.toNat : Nat) ∧ w2 = w)) args s 0 0 (hm_A w s.heap.size)) w 0 [(0, .ref (t)), (1, .int (iI (a))), (2, .int (iI (n)))] []
  refine hv_iconst E dX4_valueAt_0 rfl ?_
  refine hv_istore_n (lv2 := [(3, .int (iI (0))), (0, .ref (t)), (1, .int (iI (a))), (2, .int (iI (n)))]) E dX4_valueAt_1 rfl (by decide) rfl rfl ?_
  refine hv_iconst E dX4_valueAt_2 rfl ?_
  refine hv_istore (lv2 := [(4, .int (iI (0))), (3, .int (iI (0))), (0, .ref (t)), (1, .int (iI (a))), (2, .int (iI (n)))]) E dX4_valueAt_3 (by decide) rfl rfl ?_
  have LP : ∀ (k : Nat) (j : Int) (vl : Int), (n - j < (k : Int)) → (0 ≤ j) → (j ≤ n) → (vl = (bv (tb f L) a.toNat j.toNat : Nat)) → hm_V p l e (hm_rm 2 0 0) s m args below meth c D (hm_A w s.heap.size) 5 0 0 (MQ below (hm_Qi D w s.heap.size (fun r w2 => r = iI (bv (tb f L) a.toNat n.toNat : Nat) ∧ w2 = w)) args s 0 0 (hm_A w s.heap.size)) w 5 [(4, .int (iI (j))), (3, .int (iI (vl))), (0, .ref (t)), (1, .int (iI (a))), (2, .int (iI (n)))] [] := by
    intro k
    induction k with
    | zero =>
      intro j vl hk g0 g1 hv
      exact absurd hk (by omega)
    | succ k ih =>
      intro j vl hk g0 g1 hv
      refine hv_iload E dX4_valueAt_5 0 rfl rfl ?_
      refine hv_iload_n E dX4_valueAt_7 rfl 4 rfl rfl ?_
      refine hv_icmp_ge E 30 dX4_valueAt_8 (by decide) ⟨by omega, by omega⟩ ⟨by omega, by omega⟩ rfl (fun h1 => ?_) (fun h1 => ?_)
      · refine hv_iload_n E dX4_valueAt_30 rfl 1 rfl rfl ?_
        exact hv_iret E dX4_valueAt_31 hr ⟨by rw [hv, show j.toNat = n.toNat by omega], rfl⟩
      · refine hv_iload_n E dX4_valueAt_11 rfl 1 rfl rfl ?_
        refine hv_iconst E dX4_valueAt_12 rfl ?_
        refine hv_ishlR E dX4_valueAt_13 rfl rfl ?_
        refine hv_aload_n E dX4_valueAt_14 rfl 2 rfl rfl ?_
        refine hv_iload_n E dX4_valueAt_15 rfl 3 rfl rfl ?_
        refine hv_iload E dX4_valueAt_16 0 rfl rfl ?_
        refine hv_iadd E dX4_valueAt_18 rfl ?_
        refine hv_callVI (na := 1) (As := [.int (iI (a + j))]) (st := [.int ((iI (vl)) <<< ((iI (1)) &&& 31))]) E (c4_bitAt l D K (a + j) ⟨by omega, by omega⟩ ht hL0 hL1) dX4_valueAt_19 ht.1 (show vwCl[3]? = some (RX4, TX4, 3) from rfl) gL_X4_26 gV_X4_bitAt gI_X4_bitAt gC_X4_bitAt gZ_X4 (by decide +kernel) rfl ⟨Nat.le_of_ble_eq_true rfl, Nat.le_of_ble_eq_true rfl⟩ (Nat.le_of_ble_eq_true rfl) ⟨Nat.zero_le _, Nat.zero_le _⟩ rfl rfl (fun r w2 hp => ?_)
        rw [hp.1, hp.2]
        show hm_V p l e (hm_rm 2 0 0) s m args below meth c D (hm_A w s.heap.size) 5 0 0 (MQ below (hm_Qi D w s.heap.size (fun r w2 => r = iI (bv (tb f L) a.toNat n.toNat : Nat) ∧ w2 = w)) args s 0 0 (hm_A w s.heap.size)) w 22 [(4, .int (iI (j))), (3, .int (iI (vl))), (0, .ref (t)), (1, .int (iI (a))), (2, .int (iI (n)))] [.int (bI (decide (0 ≤ a + j) && tb f L (a + j).toNat)), .int ((iI (vl)) <<< ((iI (1)) &&& 31))]
        refine hv_iorR E dX4_valueAt_22 rfl ?_
        have hb := bv_lt (tb f L) a.toNat j.toNat
        have hb2 : 2 ^ j.toNat ≤ 2 ^ 29 := Nat.pow_le_pow_right (by omega) (by omega)
        refine hv_topi (show ((iI (vl)) <<< ((iI (1)) &&& 31)) ||| (bI (decide (0 ≤ a + j) && tb f L (a + j).toNat)) = iI (2 * vl + (if (decide (0 ≤ a + j) && tb f L (a + j).toNat) then 1 else 0)) from or_bit vl (by omega) (by omega) _) ?_
        refine hv_istore_n (lv2 := [(3, .int (iI (2 * vl + (if (decide (0 ≤ a + j) && tb f L (a + j).toNat) then 1 else 0)))), (4, .int (iI (j))), (0, .ref (t)), (1, .int (iI (a))), (2, .int (iI (n)))]) E dX4_valueAt_23 rfl (by decide) rfl rfl ?_
        refine hv_iinc (lv2 := [(4, .int (iI (j + 1))), (3, .int (iI (2 * vl + (if (decide (0 ≤ a + j) && tb f L (a + j).toNat) then 1 else 0)))), (0, .ref (t)), (1, .int (iI (a))), (2, .int (iI (n)))]) E dX4_valueAt_24 1 rfl rfl (by decide) rfl rfl ?_
        refine hv_goto E 5 dX4_valueAt_27 (by decide) ?_
        refine hv_sub (lv2 := [(4, .int (iI (j + 1))), (3, .int (iI (2 * vl + (if (decide (0 ≤ a + j) && tb f L (a + j).toNat) then 1 else 0)))), (0, .ref (t)), (1, .int (iI (a))), (2, .int (iI (n)))]) [0, 1, 2, 3, 4] rfl ?_
        exact ih (j + 1) _ (by omega) (by omega) (by omega) (by
              rw [show (j + 1).toNat = j.toNat + 1 by omega]
              simp only [bv]
              rw [decide_eq_true (show 0 ≤ a + j by omega), Bool.true_and, show (a + j).toNat = a.toNat + j.toNat by omega, hv]
              split <;> omega)
  refine hv_sub (lv2 := [(4, .int (iI (0))), (3, .int (iI (0))), (0, .ref (t)), (1, .int (iI (a))), (2, .int (iI (n)))]) [0, 1, 2, 3, 4] rfl ?_
  exact LP (n + 1).toNat 0 0 (by omega) (by omega) (by omega) rfl
set_option maxHeartbeats 4000000 in
set_option maxRecDepth 100000 in
theorem c4_take (l : Launch) (D : va_G) (K : Nat → ClassId) {w : hm_M} {t tw : Nat} {f : Nat → Int32} {L P : Int} (n : Int) (hn0 : 0 ≤ n) (hn1 : n ≤ 29) (hP0 : 0 ≤ P) (hP1 : P < 1000000) (ht : tAt K w t tw f L P) (hL0 : 0 ≤ L) (hL1 : L ≤ 8210)  : hm_Ci l D K yX4_take cX4_take 3 .int 3 [.ref (t), .int (iI (n))] w 0 0 (fun r w2 => r = iI (bv (tb f L) P.toNat n.toNat : Nat) ∧ w2 = tM K w t tw f L (P + n)) := by
  refine hm_enterI (by decide) (Nat.le_of_ble_eq_true rfl) ?_
  intro p e s m args below meth c E hr hnm
  show hm_V p l e (hm_rm 3 0 0) s m args below meth c D (hm_A w s.heap.size) 3 0 0 (MQ below (hm_Qi D w s.heap.size (fun r w2 => r = iI (bv (tb f L) P.toNat n.toNat : Nat) ∧ w2 = tM K w t tw f L (P + n))) args s 0 0 (hm_A w s.heap.size)) w 0 [(0, .ref (t)), (1, .int (iI (n)))] []
  refine hv_aload_n E dX4_take_0 rfl 0 rfl rfl ?_
  refine hv_aload_n E dX4_take_1 rfl 0 rfl rfl ?_
  refine hv_get (kf := 2) E dX4_take_2 (show vwCl[3]? = some (RX4, TX4, 3) from rfl) (by decide) gW_X4 gF_X4_19 rfl ht.1 rfl rfl ?_
  refine hv_iload_n E dX4_take_5 rfl 1 rfl rfl ?_
  refine hv_callVI (na := 2) (As := [.int (iI (P)), .int (iI (n))]) (st := []) E (c4_valueAt l D K P n hP0 hP1 hn0 hn1 ht hL0 hL1) dX4_take_6 ht.1 (show vwCl[3]? = some (RX4, TX4, 3) from rfl) gL_X4_30 gV_X4_valueAt gI_X4_valueAt gC_X4_valueAt gZ_X4 (by decide +kernel) rfl ⟨Nat.le_of_ble_eq_true rfl, Nat.le_of_ble_eq_true rfl⟩ (Nat.le_of_ble_eq_true rfl) ⟨Nat.zero_le _, Nat.zero_le _⟩ rfl rfl (fun r w2 hp => ?_)
  rw [hp.1, hp.2]
  show hm_V p l e (hm_rm 3 0 0) s m args below meth c D (hm_A w s.heap.size) 3 0 0 (MQ below (hm_Qi D w s.heap.size (fun r w2 => r = iI (bv (tb f L) P.toNat n.toNat : Nat) ∧ w2 = tM K w t tw f L (P + n))) args s 0 0 (hm_A w s.heap.size)) w 9 [(0, .ref (t)), (1, .int (iI (n)))] [.int (iI ((bv (tb f L) P.toNat n.toNat : Nat)))]
  refine hv_istore_n (lv2 := [(2, .int (iI ((bv (tb f L) P.toNat n.toNat : Nat)))), (0, .ref (t)), (1, .int (iI (n)))]) E dX4_take_9 rfl (by decide) rfl rfl ?_
  refine hv_aload_n E dX4_take_10 rfl 1 rfl rfl ?_
  refine hv_dup E dX4_take_11 rfl rfl ?_
  refine hv_get (kf := 2) E dX4_take_12 (show vwCl[3]? = some (RX4, TX4, 3) from rfl) (by decide) gW_X4 gF_X4_19 rfl ht.1 rfl rfl ?_
  refine hv_iload_n E dX4_take_15 rfl 2 rfl rfl ?_
  refine hv_iadd E dX4_take_16 rfl ?_
  refine hv_put (kf := 2) (ty0 := tyX4) E dX4_take_17 (show vwCl[3]? = some (RX4, TX4, 3) from rfl) (by decide) gW_X4 tyX4_ok nmX4 gF_X4_19 rfl ht.1 rfl rfl rfl (Nat.le_of_ble_eq_true rfl) rfl ?_
  show hm_V p l e (hm_rm 3 0 0) s m args below meth c D (hm_A w s.heap.size) 3 0 0 (MQ below (hm_Qi D w s.heap.size (fun r w2 => r = iI (bv (tb f L) P.toNat n.toNat : Nat) ∧ w2 = tM K w t tw f L (P + n))) args s 0 0 (hm_A w s.heap.size)) (hm_up w t (.inr (3, [.ref tw, .int (iI (L)), .int (iI (P + n))]))) 20 [(2, .int (iI ((bv (tb f L) P.toNat n.toNat : Nat)))), (0, .ref (t)), (1, .int (iI (n)))] []
  refine hv_iload_n E dX4_take_20 rfl 0 rfl rfl ?_
  exact hv_iret E dX4_take_21 hr ⟨rfl, by
        have h9 := tM_obj (K := K) (w := w) (t := t) (tw := tw) (f := f) (L := L) (P := P) (L2 := L) (P2 := P + n)
        rw [← tM_id ht] at h9; exact h9⟩
set_option maxHeartbeats 4000000 in
set_option maxRecDepth 100000 in
theorem c4_append (l : Launch) (D : va_G) (K : Nat → ClassId) {w : hm_M} {t tw : Nat} {f : Nat → Int32} {L P : Int} (x : Int32) (n : Int) (hn0 : 0 ≤ n) (hn1 : n ≤ 32) (hn2 : L + n ≤ 8210) (ht : tAt K w t tw f L P) (hL0 : 0 ≤ L) (hL1 : L ≤ 8210)  : hm_Cv l D K yX4_append cX4_append 5 0 [.ref (t), .int (x), .int (iI (n))] w 0 0 (fun w2 => ∃ f2 : Nat → Int32, w2 = tM K w t tw f2 (L + n) P ∧ (∀ u : Nat, (u : Int) < L → mem f2 u = mem f u) ∧ ∀ i : Nat, (i : Int) < n → mem f2 (L.toNat + i) = bt x (n.toNat - 1 - i)) := by
  refine hm_enterV (by decide) (Nat.le_of_ble_eq_true rfl) ?_
  intro p e s m args below meth c E hr hnm
  show hm_V p l e (hm_rm 0 0 0) s m args below meth c D (hm_A w s.heap.size) 5 0 0 (MQ below (hm_Qv D w s.heap.size (fun w2 => ∃ f2 : Nat → Int32, w2 = tM K w t tw f2 (L + n) P ∧ (∀ u : Nat, (u : Int) < L → mem f2 u = mem f u) ∧ ∀ i : Nat, (i : Int) < n → mem f2 (L.toNat + i) = bt x (n.toNat - 1 - i))) args s 0 0 (hm_A w s.heap.size)) w 0 [(0, .ref (t)), (1, .int (x)), (2, .int (iI (n)))] []
  refine hv_iload_n E dX4_append_0 rfl 2 rfl rfl ?_
  refine hv_iconst E dX4_append_1 rfl ?_
  refine hv_isub E dX4_append_2 rfl ?_
  refine hv_istore_n (lv2 := [(3, .int (iI (n - 1))), (0, .ref (t)), (1, .int (x)), (2, .int (iI (n)))]) E dX4_append_3 rfl (by decide) rfl rfl ?_
  refine hv_mem (show w = tM K w t tw f (L + 0) P from (by rw [Int.add_zero]; exact tM_id ht)) ?_
  have LP : ∀ (k : Nat) (j : Int) (g : Nat → Int32), (n - j < (k : Int)) → (0 ≤ j) → (j ≤ n) → (∀ u : Nat, (u : Int) < L → mem g u = mem f u) → (∀ i : Nat, (i : Int) < j → mem g (L.toNat + i) = bt x (n.toNat - 1 - i)) → hm_V p l e (hm_rm 0 0 0) s m args below meth c D (hm_A w s.heap.size) 5 0 0 (MQ below (hm_Qv D w s.heap.size (fun w2 => ∃ f2 : Nat → Int32, w2 = tM K w t tw f2 (L + n) P ∧ (∀ u : Nat, (u : Int) < L → mem f2 u = mem f u) ∧ ∀ i : Nat, (i : Int) < n → mem f2 (L.toNat + i) = bt x (n.toNat - 1 - i))) args s 0 0 (hm_A w s.heap.size)) (tM K w t tw g (L + j) P) 4 [(3, .int (iI (n - 1 - j))), (0, .ref (t)), (1, .int (x)), (2, .int (iI (n)))] [] := by
    intro k
    induction k with
    | zero =>
      intro j g hk g0 g1 hg hg2
      exact absurd hk (by omega)
    | succ k ih =>
      intro j g hk g0 g1 hg hg2
      have hg0 := tAt_tM (K := K) (w := w) (f := g) (L := L + j) (P := P) ht.ne
      refine hv_iload_n E dX4_append_4 rfl 0 rfl rfl ?_
      refine hv_if_lt E 91 dX4_append_5 (by decide) ⟨by omega, by omega⟩ rfl (fun h1 => ?_) (fun h1 => ?_)
      · exact hv_vret E dX4_append_91 hr ⟨g, by rw [show j = n by omega], hg, fun i hi => hg2 i (by omega)⟩
      · refine hv_aload_n E dX4_append_8 rfl 1 rfl rfl ?_
        refine hv_get (kf := 1) E dX4_append_9 (show vwCl[3]? = some (RX4, TX4, 3) from rfl) (by decide) gW_X4 gF_X4_15 rfl hg0.1 rfl rfl ?_
        refine hv_sipush E dX4_append_12 (by decide +kernel) rfl ?_
        refine hv_icmp_ge E 91 dX4_append_15 (by decide) ⟨by omega, by omega⟩ ⟨by omega, by omega⟩ rfl (fun h2 => ?_) (fun h2 => ?_)
        · exact absurd h2 (by omega)
        · refine hv_iconst E dX4_append_18 rfl ?_
          refine hv_aload_n E dX4_append_19 rfl 1 rfl rfl ?_
          refine hv_get (kf := 1) E dX4_append_20 (show vwCl[3]? = some (RX4, TX4, 3) from rfl) (by decide) gW_X4 gF_X4_15 rfl hg0.1 rfl rfl ?_
          refine hv_bipush E dX4_append_23 (by decide +kernel) rfl ?_
          refine hv_iandR E dX4_append_25 rfl ?_
          refine hv_topi (show (iI (L + j)) &&& (iI (31)) = iI ((L + j) % 32) from iI_and31 _) ?_
          refine hv_ishlR E dX4_append_26 rfl rfl ?_
          refine hv_istore (lv2 := [(4, .int ((iI (1)) <<< ((iI ((L + j) % 32)) &&& 31))), (3, .int (iI (n - 1 - j))), (0, .ref (t)), (1, .int (x)), (2, .int (iI (n)))]) E dX4_append_27 (by decide) rfl rfl ?_
          refine hv_iload_n E dX4_append_29 rfl 3 rfl rfl ?_
          refine hv_iload_n E dX4_append_30 rfl 1 rfl rfl ?_
          refine hv_iushrR E dX4_append_31 rfl rfl ?_
          refine hv_iconst E dX4_append_32 rfl ?_
          refine hv_iandR E dX4_append_33 rfl ?_
          refine hv_topi (show ((x.toUInt32 >>> ((iI (n - 1 - j)).toUInt32 &&& Int32.toUInt32 31)).toInt32) &&& (iI (1)) = bI (bt x (n - 1 - j).toNat) from (by
                have h8 := bt_bit x (n - 1 - j).toNat (by omega)
                rw [Int.toNat_of_nonneg (show 0 ≤ n - 1 - j by omega)] at h8; exact h8)) ?_
          refine hv_iconst E dX4_append_34 rfl ?_
          refine hv_topi (show iI (1) = bI (true) from rfl) ?_
          refine hv_icmp_neB E 57 dX4_append_35 (by decide) rfl (fun h3 => ?_) (fun h3 => ?_)
          · refine hv_aload_n E dX4_append_57 rfl 2 rfl rfl ?_
            refine hv_get (kf := 0) E dX4_append_58 (show vwCl[3]? = some (RX4, TX4, 3) from rfl) (by decide) gW_X4 gF_X4_9 rfl hg0.1 rfl rfl ?_
            refine hv_aload_n E dX4_append_61 rfl 2 rfl rfl ?_
            refine hv_get (kf := 1) E dX4_append_62 (show vwCl[3]? = some (RX4, TX4, 3) from rfl) (by decide) gW_X4 gF_X4_15 rfl hg0.1 rfl rfl ?_
            refine hv_iconst E dX4_append_65 rfl ?_
            refine hv_ishrR E dX4_append_66 rfl rfl ?_
            refine hv_topi (show (iI (L + j)) >>> ((iI (5)) &&& 31) = iI ((L + j) / 32) from iI_shr5 ⟨by omega, by omega⟩) ?_
            refine hv_dup2 E dX4_append_67 rfl rfl rfl ?_
            refine hv_iald E dX4_append_68 hg0.2 (by omega) (by omega) (by decide) rfl ?_
            refine hv_iload E dX4_append_69 0 rfl rfl ?_
            refine hv_iconst E dX4_append_71 rfl ?_
            refine hv_ixorR E dX4_append_72 rfl ?_
            refine hv_iandR E dX4_append_73 rfl ?_
            have h3 := eq_false_of_ne_true h3
            refine hv_iast E dX4_append_74 hg0.2 (by omega) (by omega) (by decide) rfl ?_
            refine hv_mem (show hm_up (tM K w t tw g (L + j) P) tw (.inl (K 0, 257, .inl (upd g ((L + j) / 32).toNat ((g ((L + j) / 32).toNat) &&& (((iI (1)) <<< ((iI ((L + j) % 32)) &&& 31)) ^^^ (iI ((-1)))))))) = tM K w t tw (upd g ((L + j) / 32).toNat ((g ((L + j) / 32).toNat) &&& (((iI (1)) <<< ((iI ((L + j) % 32)) &&& 31)) ^^^ (iI ((-1)))))) (L + j) P from tM_words ht.ne) ?_
            have hg3 := tAt_tM (K := K) (w := w) (f := upd g ((L + j) / 32).toNat ((g ((L + j) / 32).toNat) &&& (((iI (1)) <<< ((iI ((L + j) % 32)) &&& 31)) ^^^ (iI ((-1)))))) (L := L + j) (P := P) ht.ne
            refine hv_aload_n E dX4_append_75 rfl 2 rfl rfl ?_
            refine hv_dup E dX4_append_76 rfl rfl ?_
            refine hv_get (kf := 1) E dX4_append_77 (show vwCl[3]? = some (RX4, TX4, 3) from rfl) (by decide) gW_X4 gF_X4_15 rfl hg3.1 rfl rfl ?_
            refine hv_iconst E dX4_append_80 rfl ?_
            refine hv_iadd E dX4_append_81 rfl ?_
            refine hv_put (kf := 1) (ty0 := tyX4) E dX4_append_82 (show vwCl[3]? = some (RX4, TX4, 3) from rfl) (by decide) gW_X4 tyX4_ok nmX4 gF_X4_15 rfl hg3.1 rfl rfl rfl (Nat.le_of_ble_eq_true rfl) rfl ?_
            show hm_V p l e (hm_rm 0 0 0) s m args below meth c D (hm_A w s.heap.size) 5 0 0 (MQ below (hm_Qv D w s.heap.size (fun w2 => ∃ f2 : Nat → Int32, w2 = tM K w t tw f2 (L + n) P ∧ (∀ u : Nat, (u : Int) < L → mem f2 u = mem f u) ∧ ∀ i : Nat, (i : Int) < n → mem f2 (L.toNat + i) = bt x (n.toNat - 1 - i))) args s 0 0 (hm_A w s.heap.size)) (hm_up (tM K w t tw (upd g ((L + j) / 32).toNat ((g ((L + j) / 32).toNat) &&& (((iI (1)) <<< ((iI ((L + j) % 32)) &&& 31)) ^^^ (iI ((-1)))))) (L + j) P) t (.inr (3, [.ref tw, .int (iI (L + j + 1)), .int (iI (P))]))) 85 [(4, .int ((iI (1)) <<< ((iI ((L + j) % 32)) &&& 31))), (3, .int (iI (n - 1 - j))), (0, .ref (t)), (1, .int (x)), (2, .int (iI (n)))] []
            refine hv_mem (show hm_up (tM K w t tw (upd g ((L + j) / 32).toNat ((g ((L + j) / 32).toNat) &&& (((iI (1)) <<< ((iI ((L + j) % 32)) &&& 31)) ^^^ (iI ((-1)))))) (L + j) P) t (.inr (3, [.ref tw, .int (iI (L + j + 1)), .int (iI (P))])) = tM K w t tw (upd g ((L + j) / 32).toNat ((g ((L + j) / 32).toNat) &&& (((iI (1)) <<< ((iI ((L + j) % 32)) &&& 31)) ^^^ (iI ((-1)))))) (L + (j + 1)) P from (by rw [tM_obj, show L + j + 1 = L + (j + 1) by omega])) ?_
            refine hv_iinc (lv2 := [(3, .int (iI ((n - 1 - j) + (-1)))), (4, .int ((iI (1)) <<< ((iI ((L + j) % 32)) &&& 31))), (0, .ref (t)), (1, .int (x)), (2, .int (iI (n)))]) E dX4_append_85 1 rfl rfl (by decide) rfl rfl ?_
            refine hv_goto E 4 dX4_append_88 (by decide) ?_
            have hm : ∀ u : Nat, mem (upd g ((L + j) / 32).toNat ((g ((L + j) / 32).toNat) &&& (((iI (1)) <<< ((iI ((L + j) % 32)) &&& 31)) ^^^ (iI ((-1)))))) u = if u = (L + j).toNat then bt x (n - 1 - j).toNat else mem g u := fun u => by
              rw [mem_upd]
              have hb := bt_one (r := ((L + j) % 32).toNat) (i := u % 32) (by omega) (by omega)
              rw [Int.toNat_of_nonneg (show 0 ≤ (L + j) % 32 by omega)] at hb
              split
              · rename_i h
                rw [b_and, b_xor, bt_m1 (by omega), hb, show (g ((L + j) / 32).toNat) = g (u / 32) by rw [h]]
                split
                · rename_i hu
                  rw [decide_eq_true (by omega), h3]; simp
                · rw [decide_eq_false (by omega)]; simp; rfl
              · rw [if_neg (by omega)]
            refine hv_sub (lv2 := [(3, .int (iI ((n - 1 - j) + (-1)))), (0, .ref (t)), (1, .int (x)), (2, .int (iI (n)))]) [0, 2, 3, 4] rfl ?_
            have h9 := ih (j + 1) (upd g ((L + j) / 32).toNat ((g ((L + j) / 32).toNat) &&& (((iI (1)) <<< ((iI ((L + j) % 32)) &&& 31)) ^^^ (iI ((-1)))))) (by omega) (by omega) (by omega) (fun u hu => by rw [hm, if_neg (by omega)]; exact hg u hu) (fun i hi => by
              rw [hm]
              split
              · congr 1; omega
              · exact hg2 i (by omega))
            rw [show n - 1 - (j + 1) = n - 1 - j + -1 by omega] at h9
            exact h9
          · refine hv_aload_n E dX4_append_38 rfl 2 rfl rfl ?_
            refine hv_get (kf := 0) E dX4_append_39 (show vwCl[3]? = some (RX4, TX4, 3) from rfl) (by decide) gW_X4 gF_X4_9 rfl hg0.1 rfl rfl ?_
            refine hv_aload_n E dX4_append_42 rfl 2 rfl rfl ?_
            refine hv_get (kf := 1) E dX4_append_43 (show vwCl[3]? = some (RX4, TX4, 3) from rfl) (by decide) gW_X4 gF_X4_15 rfl hg0.1 rfl rfl ?_
            refine hv_iconst E dX4_append_46 rfl ?_
            refine hv_ishrR E dX4_append_47 rfl rfl ?_
            refine hv_topi (show (iI (L + j)) >>> ((iI (5)) &&& 31) = iI ((L + j) / 32) from iI_shr5 ⟨by omega, by omega⟩) ?_
            refine hv_dup2 E dX4_append_48 rfl rfl rfl ?_
            refine hv_iald E dX4_append_49 hg0.2 (by omega) (by omega) (by decide) rfl ?_
            refine hv_iload E dX4_append_50 0 rfl rfl ?_
            refine hv_iorR E dX4_append_52 rfl ?_
            refine hv_iast E dX4_append_53 hg0.2 (by omega) (by omega) (by decide) rfl ?_
            refine hv_mem (show hm_up (tM K w t tw g (L + j) P) tw (.inl (K 0, 257, .inl (upd g ((L + j) / 32).toNat ((g ((L + j) / 32).toNat) ||| ((iI (1)) <<< ((iI ((L + j) % 32)) &&& 31)))))) = tM K w t tw (upd g ((L + j) / 32).toNat ((g ((L + j) / 32).toNat) ||| ((iI (1)) <<< ((iI ((L + j) % 32)) &&& 31)))) (L + j) P from tM_words ht.ne) ?_
            have hg3 := tAt_tM (K := K) (w := w) (f := upd g ((L + j) / 32).toNat ((g ((L + j) / 32).toNat) ||| ((iI (1)) <<< ((iI ((L + j) % 32)) &&& 31)))) (L := L + j) (P := P) ht.ne
            refine hv_goto E 75 dX4_append_54 (by decide) ?_
            refine hv_aload_n E dX4_append_75 rfl 2 rfl rfl ?_
            refine hv_dup E dX4_append_76 rfl rfl ?_
            refine hv_get (kf := 1) E dX4_append_77 (show vwCl[3]? = some (RX4, TX4, 3) from rfl) (by decide) gW_X4 gF_X4_15 rfl hg3.1 rfl rfl ?_
            refine hv_iconst E dX4_append_80 rfl ?_
            refine hv_iadd E dX4_append_81 rfl ?_
            refine hv_put (kf := 1) (ty0 := tyX4) E dX4_append_82 (show vwCl[3]? = some (RX4, TX4, 3) from rfl) (by decide) gW_X4 tyX4_ok nmX4 gF_X4_15 rfl hg3.1 rfl rfl rfl (Nat.le_of_ble_eq_true rfl) rfl ?_
            show hm_V p l e (hm_rm 0 0 0) s m args below meth c D (hm_A w s.heap.size) 5 0 0 (MQ below (hm_Qv D w s.heap.size (fun w2 => ∃ f2 : Nat → Int32, w2 = tM K w t tw f2 (L + n) P ∧ (∀ u : Nat, (u : Int) < L → mem f2 u = mem f u) ∧ ∀ i : Nat, (i : Int) < n → mem f2 (L.toNat + i) = bt x (n.toNat - 1 - i))) args s 0 0 (hm_A w s.heap.size)) (hm_up (tM K w t tw (upd g ((L + j) / 32).toNat ((g ((L + j) / 32).toNat) ||| ((iI (1)) <<< ((iI ((L + j) % 32)) &&& 31)))) (L + j) P) t (.inr (3, [.ref tw, .int (iI (L + j + 1)), .int (iI (P))]))) 85 [(4, .int ((iI (1)) <<< ((iI ((L + j) % 32)) &&& 31))), (3, .int (iI (n - 1 - j))), (0, .ref (t)), (1, .int (x)), (2, .int (iI (n)))] []
            refine hv_mem (show hm_up (tM K w t tw (upd g ((L + j) / 32).toNat ((g ((L + j) / 32).toNat) ||| ((iI (1)) <<< ((iI ((L + j) % 32)) &&& 31)))) (L + j) P) t (.inr (3, [.ref tw, .int (iI (L + j + 1)), .int (iI (P))])) = tM K w t tw (upd g ((L + j) / 32).toNat ((g ((L + j) / 32).toNat) ||| ((iI (1)) <<< ((iI ((L + j) % 32)) &&& 31)))) (L + (j + 1)) P from (by rw [tM_obj, show L + j + 1 = L + (j + 1) by omega])) ?_
            refine hv_iinc (lv2 := [(3, .int (iI ((n - 1 - j) + (-1)))), (4, .int ((iI (1)) <<< ((iI ((L + j) % 32)) &&& 31))), (0, .ref (t)), (1, .int (x)), (2, .int (iI (n)))]) E dX4_append_85 1 rfl rfl (by decide) rfl rfl ?_
            refine hv_goto E 4 dX4_append_88 (by decide) ?_
            have hm : ∀ u : Nat, mem (upd g ((L + j) / 32).toNat ((g ((L + j) / 32).toNat) ||| ((iI (1)) <<< ((iI ((L + j) % 32)) &&& 31)))) u = if u = (L + j).toNat then bt x (n - 1 - j).toNat else mem g u := fun u => by
              rw [mem_upd]
              have hb := bt_one (r := ((L + j) % 32).toNat) (i := u % 32) (by omega) (by omega)
              rw [Int.toNat_of_nonneg (show 0 ≤ (L + j) % 32 by omega)] at hb
              split
              · rename_i h
                rw [b_or, hb, show (g ((L + j) / 32).toNat) = g (u / 32) by rw [h]]
                split
                · rename_i hu
                  rw [decide_eq_true (by omega), h3]; simp
                · rw [decide_eq_false (by omega)]; simp; rfl
              · rw [if_neg (by omega)]
            refine hv_sub (lv2 := [(3, .int (iI ((n - 1 - j) + (-1)))), (0, .ref (t)), (1, .int (x)), (2, .int (iI (n)))]) [0, 2, 3, 4] rfl ?_
            have h9 := ih (j + 1) (upd g ((L + j) / 32).toNat ((g ((L + j) / 32).toNat) ||| ((iI (1)) <<< ((iI ((L + j) % 32)) &&& 31)))) (by omega) (by omega) (by omega) (fun u hu => by rw [hm, if_neg (by omega)]; exact hg u hu) (fun i hi => by
              rw [hm]
              split
              · congr 1; omega
              · exact hg2 i (by omega))
            rw [show n - 1 - (j + 1) = n - 1 - j + -1 by omega] at h9
            exact h9
  refine hv_sub (lv2 := [(3, .int (iI (n - 1))), (0, .ref (t)), (1, .int (x)), (2, .int (iI (n)))]) [0, 1, 2, 3] rfl ?_
  have h9 := LP (n + 1).toNat 0 f (by omega) (by omega) (by omega) (fun u _ => rfl) (fun i hi => by omega)
  rw [show n - 1 - 0 = n - 1 by omega] at h9
  exact h9
end
section
abbrev mE (K : Nat → ClassId) (I : Nat → Bool) : va_E := .inl (K 1, 36864, .inl (fun j => bI (I j)))
/-- the model's object at q, what is in its sets: I, at ia -/
def mI (K : Nat → ClassId) (w : hm_M) (q ia : Nat) (fs : List Value) (I : Nat → Bool) : Prop := w q = some (.inr (6, .ref ia :: fs)) ∧ w ia = some (.inl (K 1, 36864, .inl (fun j => bI (I j))))
def mS (I : Nat → Bool) (s : Int) (v : Nat) : Bool := I (4096 * s.toNat + v)
theorem mI.ne {K : Nat → ClassId} {w : hm_M} {q ia : Nat} {fs : List Value} {I : Nat → Bool} (h : mI K w q ia fs I) : q ≠ ia := fun e => by
  have h1 := h.1
  rw [e, h.2] at h1
  cases h1
theorem mI.up {K : Nat → ClassId} {w : hm_M} {q ia : Nat} {fs : List Value} {I : Nat → Bool} (h : mI K w q ia fs I) (J : Nat → Bool) : mI K (hm_up w ia (mE K J)) q ia fs J := ⟨by rw [hm_un h.ne]; exact h.1, hm_us⟩
theorem ct_succ (S : Nat → Bool) (a n : Nat) : ct S a (n + 1) = ct S a n + (if S (a + n) then 1 else 0) := rfl
set_option maxHeartbeats 4000000 in
set_option maxRecDepth 100000 in
theorem c7_is (l : Launch) (D : va_G) (K : Nat → ClassId) {w : hm_M} {q ia : Nat} {fs : List Value} {I : Nat → Bool} (x v : Int) (h0 : 0 ≤ x) (h1 : x ≤ 8) (h2 : 0 ≤ v) (h3 : v < 4096) (hm : mI K w q ia fs I)  : hm_Ci l D K yX7_is cX7_is 3 .boolean 0 [.ref (q), .int (iI (x)), .int (iI (v))] w 0 0 (fun r w2 => r = bI (mS I x v.toNat) ∧ w2 = w) := by
  refine hm_enterI (by decide) (Nat.le_of_ble_eq_true rfl) ?_
  intro p e s m args below meth c E hr hnm
  show hm_V p l e (hm_rm 0 0 0) s m args below meth c D (hm_A w s.heap.size) 3 0 0 (MQ below (hm_Qi D w s.heap.size (fun r w2 => r = bI (mS I x v.toNat) ∧ w2 = w)) args s 0 0 (hm_A w s.heap.size)) w 0 [(0, .ref (q)), (1, .int (iI (x))), (2, .int (iI (v)))] []
  refine hv_aload_n E dX7_is_0 rfl 0 rfl rfl ?_
  refine hv_get (kf := 0) E dX7_is_1 (show vwCl[6]? = some (RX7, TX7, 7) from rfl) (by decide) gW_X7 gF_X7_8 rfl hm.1 rfl rfl ?_
  refine hv_sipush E dX7_is_4 (by decide +kernel) rfl ?_
  refine hv_iload_n E dX7_is_7 rfl 1 rfl rfl ?_
  refine hv_imul E dX7_is_8 rfl ?_
  refine hv_iload_n E dX7_is_9 rfl 2 rfl rfl ?_
  refine hv_iadd E dX7_is_10 rfl ?_
  refine hv_zald E dX7_is_11 hm.2 (by omega) (by omega) (by decide) rfl ?_
  exact hv_zret E dX7_is_12 hr ⟨by unfold mS; rw [show (4096 * x + v).toNat = 4096 * x.toNat + v.toNat by omega], rfl⟩
set_option maxHeartbeats 4000000 in
set_option maxRecDepth 100000 in
theorem c7_many (l : Launch) (D : va_G) (K : Nat → ClassId) {w : hm_M} {q ia : Nat} {fs : List Value} {I : Nat → Bool} (x a b : Int) (h0 : 0 ≤ x) (h1 : x ≤ 8) (h2 : 0 ≤ a) (h3 : a ≤ b) (h4 : b ≤ 4096) (hm : mI K w q ia fs I)  : hm_Ci l D K yX7_many cX7_many 6 .int 1 [.ref (q), .int (iI (x)), .int (iI (a)), .int (iI (b))] w 0 0 (fun r w2 => r = iI (ct (mS I x) a.toNat (b - a).toNat : Nat) ∧ w2 = w) := by
  refine hm_enterI (by decide) (Nat.le_of_ble_eq_true rfl) ?_
  intro p e s m args below meth c E hr hnm
  show hm_V p l e (hm_rm 1 0 0) s m args below meth c D (hm_A w s.heap.size) 6 0 0 (MQ below (hm_Qi D w s.heap.size (fun r w2 => r = iI (ct (mS I x) a.toNat (b - a).toNat : Nat) ∧ w2 = w)) args s 0 0 (hm_A w s.heap.size)) w 0 [(0, .ref (q)), (1, .int (iI (x))), (2, .int (iI (a))), (3, .int (iI (b)))] []
  refine hv_iconst E dX7_many_0 rfl ?_
  refine hv_istore (lv2 := [(4, .int (iI (0))), (0, .ref (q)), (1, .int (iI (x))), (2, .int (iI (a))), (3, .int (iI (b)))]) E dX7_many_1 (by decide) rfl rfl ?_
  refine hv_iload_n E dX7_many_3 rfl 3 rfl rfl ?_
  refine hv_istore (lv2 := [(5, .int (iI (a))), (4, .int (iI (0))), (0, .ref (q)), (1, .int (iI (x))), (2, .int (iI (a))), (3, .int (iI (b)))]) E dX7_many_4 (by decide) rfl rfl ?_
  have LP : ∀ (k : Nat) (j sm : Int), (b - j < (k : Int)) → (a ≤ j) → (j ≤ b) → (sm = (ct (mS I x) a.toNat (j - a).toNat : Nat)) → hm_V p l e (hm_rm 1 0 0) s m args below meth c D (hm_A w s.heap.size) 6 0 0 (MQ below (hm_Qi D w s.heap.size (fun r w2 => r = iI (ct (mS I x) a.toNat (b - a).toNat : Nat) ∧ w2 = w)) args s 0 0 (hm_A w s.heap.size)) w 6 [(5, .int (iI (j))), (4, .int (iI (sm))), (0, .ref (q)), (1, .int (iI (x))), (2, .int (iI (a))), (3, .int (iI (b)))] [] := by
    intro k
    induction k with
    | zero =>
      intro j sm hk g0 g1 hs
      exact absurd hk (by omega)
    | succ k ih =>
      intro j sm hk g0 g1 hs
      refine hv_iload E dX7_many_6 0 rfl rfl ?_
      refine hv_iload_n E dX7_many_8 rfl 5 rfl rfl ?_
      refine hv_icmp_ge E 38 dX7_many_9 (by decide) ⟨by omega, by omega⟩ ⟨by omega, by omega⟩ rfl (fun c1 => ?_) (fun c1 => ?_)
      · skip
        refine hv_iload E dX7_many_38 1 rfl rfl ?_
        exact hv_iret E dX7_many_40 hr ⟨by rw [hs, show j = b by omega], rfl⟩
      · skip
        refine hv_iload E dX7_many_12 1 rfl rfl ?_
        refine hv_aload_n E dX7_many_14 rfl 2 rfl rfl ?_
        refine hv_iload_n E dX7_many_15 rfl 3 rfl rfl ?_
        refine hv_iload E dX7_many_16 0 rfl rfl ?_
        refine hv_callVI (na := 2) (As := [.int (iI (x)), .int (iI (j))]) (st := [.int (iI (sm))]) E (c7_is l D K x j (by omega) (by omega) (by omega) (by omega) hm) dX7_many_18 hm.1 (show vwCl[6]? = some (RX7, TX7, 7) from rfl) gL_X7_28 gV_X7_is gI_X7_is gC_X7_is gZ_X7 (by decide +kernel) rfl ⟨Nat.le_of_ble_eq_true rfl, Nat.le_of_ble_eq_true rfl⟩ (Nat.le_of_ble_eq_true rfl) ⟨Nat.zero_le _, Nat.zero_le _⟩ rfl rfl (fun r w2 hp => ?_)
        rw [hp.1, hp.2]
        show hm_V p l e (hm_rm 1 0 0) s m args below meth c D (hm_A w s.heap.size) 6 0 0 (MQ below (hm_Qi D w s.heap.size (fun r w2 => r = iI (ct (mS I x) a.toNat (b - a).toNat : Nat) ∧ w2 = w)) args s 0 0 (hm_A w s.heap.size)) w 21 [(5, .int (iI (j))), (4, .int (iI (sm))), (0, .ref (q)), (1, .int (iI (x))), (2, .int (iI (a))), (3, .int (iI (b)))] [.int (bI (mS I x (j).toNat)), .int (iI (sm))]
        refine hv_if_eqB E 28 dX7_many_21 (by decide) rfl (fun c2 => ?_) (fun c2 => ?_)
        · refine hv_iconst E dX7_many_28 rfl ?_
          refine hv_iadd E dX7_many_29 rfl ?_
          refine hv_istore (lv2 := [(4, .int (iI (sm + 0))), (5, .int (iI (j))), (0, .ref (q)), (1, .int (iI (x))), (2, .int (iI (a))), (3, .int (iI (b)))]) E dX7_many_30 (by decide) rfl rfl ?_
          refine hv_iinc (lv2 := [(5, .int (iI (j + 1))), (4, .int (iI (sm + 0))), (0, .ref (q)), (1, .int (iI (x))), (2, .int (iI (a))), (3, .int (iI (b)))]) E dX7_many_32 1 rfl rfl (by decide) rfl rfl ?_
          refine hv_goto E 6 dX7_many_35 (by decide) ?_
          refine hv_sub (lv2 := [(5, .int (iI (j + 1))), (4, .int (iI (sm + 0))), (0, .ref (q)), (1, .int (iI (x))), (2, .int (iI (a))), (3, .int (iI (b)))]) [0, 1, 2, 3, 4, 5] rfl ?_
          exact ih (j + 1) _ (by omega) (by omega) (by omega) (by
            rw [show (j + 1 - a).toNat = (j - a).toNat + 1 by omega, ct_succ, show a.toNat + (j - a).toNat = j.toNat by omega, c2, hs]; rfl)
        · refine hv_iconst E dX7_many_24 rfl ?_
          refine hv_goto E 29 dX7_many_25 (by decide) ?_
          refine hv_iadd E dX7_many_29 rfl ?_
          refine hv_istore (lv2 := [(4, .int (iI (sm + 1))), (5, .int (iI (j))), (0, .ref (q)), (1, .int (iI (x))), (2, .int (iI (a))), (3, .int (iI (b)))]) E dX7_many_30 (by decide) rfl rfl ?_
          refine hv_iinc (lv2 := [(5, .int (iI (j + 1))), (4, .int (iI (sm + 1))), (0, .ref (q)), (1, .int (iI (x))), (2, .int (iI (a))), (3, .int (iI (b)))]) E dX7_many_32 1 rfl rfl (by decide) rfl rfl ?_
          refine hv_goto E 6 dX7_many_35 (by decide) ?_
          refine hv_sub (lv2 := [(5, .int (iI (j + 1))), (4, .int (iI (sm + 1))), (0, .ref (q)), (1, .int (iI (x))), (2, .int (iI (a))), (3, .int (iI (b)))]) [0, 1, 2, 3, 4, 5] rfl ?_
          exact ih (j + 1) _ (by omega) (by omega) (by omega) (by
            rw [show (j + 1 - a).toNat = (j - a).toNat + 1 by omega, ct_succ, show a.toNat + (j - a).toNat = j.toNat by omega, c2, hs]; rfl)
  refine hv_sub (lv2 := [(5, .int (iI (a))), (4, .int (iI (0))), (0, .ref (q)), (1, .int (iI (x))), (2, .int (iI (a))), (3, .int (iI (b)))]) [0, 1, 2, 3, 4, 5] rfl ?_
  exact LP (b - a + 1).toNat a 0 (by omega) (by omega) (by omega) (by rw [show (a - a).toNat = 0 by omega]; rfl)
set_option maxHeartbeats 4000000 in
set_option maxRecDepth 100000 in
theorem c7_put (l : Launch) (D : va_G) (K : Nat → ClassId) {w : hm_M} {q ia : Nat} {fs : List Value} {I : Nat → Bool} (x v : Int) (hx : iB x) (hv : iB v) (hm : mI K w q ia fs I)  : hm_Ci l D K yX7_put cX7_put 4 .int 2 [.ref (q), .int (iI (x)), .int (iI (v))] w 0 0 (fun r w2 => r = iI (if 0 ≤ x ∧ x < 8 then (if 0 ≤ v ∧ v < 4096 then (if mS I x v.toNat then 0 else 1) else -3) else -2) ∧ w2 = if (0 ≤ x ∧ x < 8) ∧ 0 ≤ v ∧ v < 4096 then hm_up w ia (mE K (va_up I (4096 * x + v).toNat true)) else w) := by
  refine hm_enterI (by decide) (Nat.le_of_ble_eq_true rfl) ?_
  intro p e s m args below meth c E hr hnm
  show hm_V p l e (hm_rm 2 0 0) s m args below meth c D (hm_A w s.heap.size) 4 0 0 (MQ below (hm_Qi D w s.heap.size (fun r w2 => r = iI (if 0 ≤ x ∧ x < 8 then (if 0 ≤ v ∧ v < 4096 then (if mS I x v.toNat then 0 else 1) else -3) else -2) ∧ w2 = if (0 ≤ x ∧ x < 8) ∧ 0 ≤ v ∧ v < 4096 then hm_up w ia (mE K (va_up I (4096 * x + v).toNat true)) else w)) args s 0 0 (hm_A w s.heap.size)) w 0 [(0, .ref (q)), (1, .int (iI (x))), (2, .int (iI (v)))] []
  refine hv_iload_n E dX7_put_0 rfl 1 rfl rfl ?_
  refine hv_callSI (na := 1) (As := [.int (iI (x))]) (st := []) E (c7_isSet l D K x hx) dX7_put_1 gL_X7_21 gS_X7_isSet gC_X7_isSet gZ_X7 (by decide +kernel) rfl ⟨Nat.le_of_ble_eq_true rfl, Nat.le_of_ble_eq_true rfl⟩ (Nat.le_of_ble_eq_true rfl) ⟨Nat.zero_le _, Nat.zero_le _⟩ rfl rfl (fun r w2 hp => ?_)
  rw [hp.1, hp.2]
  show hm_V p l e (hm_rm 2 0 0) s m args below meth c D (hm_A w s.heap.size) 4 0 0 (MQ below (hm_Qi D w s.heap.size (fun r w2 => r = iI (if 0 ≤ x ∧ x < 8 then (if 0 ≤ v ∧ v < 4096 then (if mS I x v.toNat then 0 else 1) else -3) else -2) ∧ w2 = if (0 ≤ x ∧ x < 8) ∧ 0 ≤ v ∧ v < 4096 then hm_up w ia (mE K (va_up I (4096 * x + v).toNat true)) else w)) args s 0 0 (hm_A w s.heap.size)) w 4 [(0, .ref (q)), (1, .int (iI (x))), (2, .int (iI (v)))] [.int (bI (decide (0 ≤ x ∧ x ≤ 7)))]
  refine hv_if_neB E 10 dX7_put_4 (by decide) rfl (fun c1 => ?_) (fun c1 => ?_)
  · have c1 := of_decide_eq_true c1
    refine hv_iload_n E dX7_put_10 rfl 2 rfl rfl ?_
    refine hv_callSI (na := 1) (As := [.int (iI (v))]) (st := []) E (c7_isNumber l D K v hv) dX7_put_11 gL_X7_25 gS_X7_isNumber gC_X7_isNumber gZ_X7 (by decide +kernel) rfl ⟨Nat.le_of_ble_eq_true rfl, Nat.le_of_ble_eq_true rfl⟩ (Nat.le_of_ble_eq_true rfl) ⟨Nat.zero_le _, Nat.zero_le _⟩ rfl rfl (fun r w2 hp => ?_)
    rw [hp.1, hp.2]
    show hm_V p l e (hm_rm 2 0 0) s m args below meth c D (hm_A w s.heap.size) 4 0 0 (MQ below (hm_Qi D w s.heap.size (fun r w2 => r = iI (if 0 ≤ x ∧ x < 8 then (if 0 ≤ v ∧ v < 4096 then (if mS I x v.toNat then 0 else 1) else -3) else -2) ∧ w2 = if (0 ≤ x ∧ x < 8) ∧ 0 ≤ v ∧ v < 4096 then hm_up w ia (mE K (va_up I (4096 * x + v).toNat true)) else w)) args s 0 0 (hm_A w s.heap.size)) w 14 [(0, .ref (q)), (1, .int (iI (x))), (2, .int (iI (v)))] [.int (bI (decide (0 ≤ v ∧ v ≤ 4095)))]
    refine hv_if_neB E 20 dX7_put_14 (by decide) rfl (fun c2 => ?_) (fun c2 => ?_)
    · have c2 := of_decide_eq_true c2
      refine hv_aload_n E dX7_put_20 rfl 0 rfl rfl ?_
      refine hv_iload_n E dX7_put_21 rfl 1 rfl rfl ?_
      refine hv_iload_n E dX7_put_22 rfl 2 rfl rfl ?_
      refine hv_callVI (na := 2) (As := [.int (iI (x)), .int (iI (v))]) (st := []) E (c7_is l D K x v (by omega) (by omega) (by omega) (by omega) hm) dX7_put_23 hm.1 (show vwCl[6]? = some (RX7, TX7, 7) from rfl) gL_X7_28 gV_X7_is gI_X7_is gC_X7_is gZ_X7 (by decide +kernel) rfl ⟨Nat.le_of_ble_eq_true rfl, Nat.le_of_ble_eq_true rfl⟩ (Nat.le_of_ble_eq_true rfl) ⟨Nat.zero_le _, Nat.zero_le _⟩ rfl rfl (fun r w2 hp => ?_)
      rw [hp.1, hp.2]
      show hm_V p l e (hm_rm 2 0 0) s m args below meth c D (hm_A w s.heap.size) 4 0 0 (MQ below (hm_Qi D w s.heap.size (fun r w2 => r = iI (if 0 ≤ x ∧ x < 8 then (if 0 ≤ v ∧ v < 4096 then (if mS I x v.toNat then 0 else 1) else -3) else -2) ∧ w2 = if (0 ≤ x ∧ x < 8) ∧ 0 ≤ v ∧ v < 4096 then hm_up w ia (mE K (va_up I (4096 * x + v).toNat true)) else w)) args s 0 0 (hm_A w s.heap.size)) w 26 [(0, .ref (q)), (1, .int (iI (x))), (2, .int (iI (v)))] [.int (bI (mS I x (v).toNat))]
      refine hv_istore_n (lv2 := [(3, .int (bI (mS I x (v).toNat))), (0, .ref (q)), (1, .int (iI (x))), (2, .int (iI (v)))]) E dX7_put_26 rfl (by decide) rfl rfl ?_
      refine hv_aload_n E dX7_put_27 rfl 1 rfl rfl ?_
      refine hv_get (kf := 0) E dX7_put_28 (show vwCl[6]? = some (RX7, TX7, 7) from rfl) (by decide) gW_X7 gF_X7_8 rfl hm.1 rfl rfl ?_
      refine hv_sipush E dX7_put_31 (by decide +kernel) rfl ?_
      refine hv_iload_n E dX7_put_34 rfl 2 rfl rfl ?_
      refine hv_imul E dX7_put_35 rfl ?_
      refine hv_iload_n E dX7_put_36 rfl 3 rfl rfl ?_
      refine hv_iadd E dX7_put_37 rfl ?_
      refine hv_iconst E dX7_put_38 rfl ?_
      refine hv_topi (show iI (1) = bI (true) from rfl) ?_
      refine hv_zast E dX7_put_39 hm.2 (by omega) (by omega) (by decide) rfl ?_
      refine hv_iload_n E dX7_put_40 rfl 0 rfl rfl ?_
      refine hv_if_eqB E 48 dX7_put_41 (by decide) rfl (fun c3 => ?_) (fun c3 => ?_)
      · refine hv_iconst E dX7_put_48 rfl ?_
        exact hv_iret E dX7_put_49 hr ⟨by rw [if_pos (by omega), if_pos (by omega), c3]; rfl, by rw [if_pos (by omega)]⟩
      · refine hv_iconst E dX7_put_44 rfl ?_
        refine hv_goto E 49 dX7_put_45 (by decide) ?_
        exact hv_iret E dX7_put_49 hr ⟨by rw [if_pos (by omega), if_pos (by omega), c3]; rfl, by rw [if_pos (by omega)]⟩
    · have c2 := of_decide_eq_false c2
      refine hv_bipush E dX7_put_17 (by decide +kernel) rfl ?_
      exact hv_iret E dX7_put_19 hr ⟨(by (repeat (first | rw [if_pos (by omega)] | rw [if_neg (by omega)])) <;> first | done | rfl), (by (repeat (first | rw [if_pos (by omega)] | rw [if_neg (by omega)])) <;> first | done | rfl)⟩
  · have c1 := of_decide_eq_false c1
    refine hv_bipush E dX7_put_7 (by decide +kernel) rfl ?_
    exact hv_iret E dX7_put_9 hr ⟨(by (repeat (first | rw [if_pos (by omega)] | rw [if_neg (by omega)])) <;> first | done | rfl), (by (repeat (first | rw [if_pos (by omega)] | rw [if_neg (by omega)])) <;> first | done | rfl)⟩
set_option maxHeartbeats 4000000 in
set_option maxRecDepth 100000 in
theorem c7_change (l : Launch) (D : va_G) (K : Nat → ClassId) {w : hm_M} {q ia : Nat} {fs : List Value} {I : Nat → Bool} (x a b : Int) (y : Bool) (hx : iB x) (ha : iB a) (hb : iB b) (hm : mI K w q ia fs I)  : hm_Ci l D K yX7_change cX7_change 7 .int 2 [.ref (q), .int (iI (x)), .int (iI (a)), .int (iI (b)), .int (bI (y))] w 0 0 (fun r w2 => r = iI (if 0 ≤ x ∧ x < 8 then (if 0 ≤ a ∧ a ≤ b ∧ b < 4096 then (ct (fun v => mS I x v ^^ y) a.toNat (b - a + 1).toNat : Nat) else -3) else -2) ∧ w2 = if (0 ≤ x ∧ x < 8) ∧ 0 ≤ a ∧ a ≤ b ∧ b < 4096 then hm_up w ia (mE K (fun (j : Nat) => if 4096 * x + a ≤ (j : Int) ∧ (j : Int) ≤ 4096 * x + b then y else I j)) else w) := by
  refine hm_enterI (by decide) (Nat.le_of_ble_eq_true rfl) ?_
  intro p e s m args below meth c E hr hnm
  show hm_V p l e (hm_rm 2 0 0) s m args below meth c D (hm_A w s.heap.size) 7 0 0 (MQ below (hm_Qi D w s.heap.size (fun r w2 => r = iI (if 0 ≤ x ∧ x < 8 then (if 0 ≤ a ∧ a ≤ b ∧ b < 4096 then (ct (fun v => mS I x v ^^ y) a.toNat (b - a + 1).toNat : Nat) else -3) else -2) ∧ w2 = if (0 ≤ x ∧ x < 8) ∧ 0 ≤ a ∧ a ≤ b ∧ b < 4096 then hm_up w ia (mE K (fun (j : Nat) => if 4096 * x + a ≤ (j : Int) ∧ (j : Int) ≤ 4096 * x + b then y else I j)) else w)) args s 0 0 (hm_A w s.heap.size)) w 0 [(0, .ref (q)), (1, .int (iI (x))), (2, .int (iI (a))), (3, .int (iI (b))), (4, .int (bI (y)))] []
  refine hv_iload_n E dX7_change_0 rfl 1 rfl rfl ?_
  refine hv_callSI (na := 1) (As := [.int (iI (x))]) (st := []) E (c7_isSet l D K x hx) dX7_change_1 gL_X7_21 gS_X7_isSet gC_X7_isSet gZ_X7 (by decide +kernel) rfl ⟨Nat.le_of_ble_eq_true rfl, Nat.le_of_ble_eq_true rfl⟩ (Nat.le_of_ble_eq_true rfl) ⟨Nat.zero_le _, Nat.zero_le _⟩ rfl rfl (fun r w2 hp => ?_)
  rw [hp.1, hp.2]
  show hm_V p l e (hm_rm 2 0 0) s m args below meth c D (hm_A w s.heap.size) 7 0 0 (MQ below (hm_Qi D w s.heap.size (fun r w2 => r = iI (if 0 ≤ x ∧ x < 8 then (if 0 ≤ a ∧ a ≤ b ∧ b < 4096 then (ct (fun v => mS I x v ^^ y) a.toNat (b - a + 1).toNat : Nat) else -3) else -2) ∧ w2 = if (0 ≤ x ∧ x < 8) ∧ 0 ≤ a ∧ a ≤ b ∧ b < 4096 then hm_up w ia (mE K (fun (j : Nat) => if 4096 * x + a ≤ (j : Int) ∧ (j : Int) ≤ 4096 * x + b then y else I j)) else w)) args s 0 0 (hm_A w s.heap.size)) w 4 [(0, .ref (q)), (1, .int (iI (x))), (2, .int (iI (a))), (3, .int (iI (b))), (4, .int (bI (y)))] [.int (bI (decide (0 ≤ x ∧ x ≤ 7)))]
  refine hv_if_neB E 10 dX7_change_4 (by decide) rfl (fun c1 => ?_) (fun c1 => ?_)
  · have c1 := of_decide_eq_true c1
    refine hv_iload_n E dX7_change_10 rfl 2 rfl rfl ?_
    refine hv_callSI (na := 1) (As := [.int (iI (a))]) (st := []) E (c7_isNumber l D K a ha) dX7_change_11 gL_X7_25 gS_X7_isNumber gC_X7_isNumber gZ_X7 (by decide +kernel) rfl ⟨Nat.le_of_ble_eq_true rfl, Nat.le_of_ble_eq_true rfl⟩ (Nat.le_of_ble_eq_true rfl) ⟨Nat.zero_le _, Nat.zero_le _⟩ rfl rfl (fun r w2 hp => ?_)
    rw [hp.1, hp.2]
    show hm_V p l e (hm_rm 2 0 0) s m args below meth c D (hm_A w s.heap.size) 7 0 0 (MQ below (hm_Qi D w s.heap.size (fun r w2 => r = iI (if 0 ≤ x ∧ x < 8 then (if 0 ≤ a ∧ a ≤ b ∧ b < 4096 then (ct (fun v => mS I x v ^^ y) a.toNat (b - a + 1).toNat : Nat) else -3) else -2) ∧ w2 = if (0 ≤ x ∧ x < 8) ∧ 0 ≤ a ∧ a ≤ b ∧ b < 4096 then hm_up w ia (mE K (fun (j : Nat) => if 4096 * x + a ≤ (j : Int) ∧ (j : Int) ≤ 4096 * x + b then y else I j)) else w)) args s 0 0 (hm_A w s.heap.size)) w 14 [(0, .ref (q)), (1, .int (iI (x))), (2, .int (iI (a))), (3, .int (iI (b))), (4, .int (bI (y)))] [.int (bI (decide (0 ≤ a ∧ a ≤ 4095)))]
    refine hv_if_eqB E 29 dX7_change_14 (by decide) rfl (fun c2 => ?_) (fun c2 => ?_)
    · have c2 := of_decide_eq_false c2
      refine hv_bipush E dX7_change_29 (by decide +kernel) rfl ?_
      exact hv_iret E dX7_change_31 hr ⟨(by (repeat (first | rw [if_pos (by omega)] | rw [if_neg (by omega)])) <;> first | done | rfl), (by (repeat (first | rw [if_pos (by omega)] | rw [if_neg (by omega)])) <;> first | done | rfl)⟩
    · have c2 := of_decide_eq_true c2
      refine hv_iload_n E dX7_change_17 rfl 3 rfl rfl ?_
      refine hv_callSI (na := 1) (As := [.int (iI (b))]) (st := []) E (c7_isNumber l D K b hb) dX7_change_18 gL_X7_25 gS_X7_isNumber gC_X7_isNumber gZ_X7 (by decide +kernel) rfl ⟨Nat.le_of_ble_eq_true rfl, Nat.le_of_ble_eq_true rfl⟩ (Nat.le_of_ble_eq_true rfl) ⟨Nat.zero_le _, Nat.zero_le _⟩ rfl rfl (fun r w2 hp => ?_)
      rw [hp.1, hp.2]
      show hm_V p l e (hm_rm 2 0 0) s m args below meth c D (hm_A w s.heap.size) 7 0 0 (MQ below (hm_Qi D w s.heap.size (fun r w2 => r = iI (if 0 ≤ x ∧ x < 8 then (if 0 ≤ a ∧ a ≤ b ∧ b < 4096 then (ct (fun v => mS I x v ^^ y) a.toNat (b - a + 1).toNat : Nat) else -3) else -2) ∧ w2 = if (0 ≤ x ∧ x < 8) ∧ 0 ≤ a ∧ a ≤ b ∧ b < 4096 then hm_up w ia (mE K (fun (j : Nat) => if 4096 * x + a ≤ (j : Int) ∧ (j : Int) ≤ 4096 * x + b then y else I j)) else w)) args s 0 0 (hm_A w s.heap.size)) w 21 [(0, .ref (q)), (1, .int (iI (x))), (2, .int (iI (a))), (3, .int (iI (b))), (4, .int (bI (y)))] [.int (bI (decide (0 ≤ b ∧ b ≤ 4095)))]
      refine hv_if_eqB E 29 dX7_change_21 (by decide) rfl (fun c3 => ?_) (fun c3 => ?_)
      · have c3 := of_decide_eq_false c3
        refine hv_bipush E dX7_change_29 (by decide +kernel) rfl ?_
        exact hv_iret E dX7_change_31 hr ⟨(by (repeat (first | rw [if_pos (by omega)] | rw [if_neg (by omega)])) <;> first | done | rfl), (by (repeat (first | rw [if_pos (by omega)] | rw [if_neg (by omega)])) <;> first | done | rfl)⟩
      · have c3 := of_decide_eq_true c3
        refine hv_iload_n E dX7_change_24 rfl 2 rfl rfl ?_
        refine hv_iload_n E dX7_change_25 rfl 3 rfl rfl ?_
        refine hv_icmp_le E 32 dX7_change_26 (by decide) ha hb rfl (fun c4 => ?_) (fun c4 => ?_)
        · skip
          refine hv_iconst E dX7_change_32 rfl ?_
          refine hv_istore (lv2 := [(5, .int (iI (0))), (0, .ref (q)), (1, .int (iI (x))), (2, .int (iI (a))), (3, .int (iI (b))), (4, .int (bI (y)))]) E dX7_change_33 (by decide) rfl rfl ?_
          refine hv_iload_n E dX7_change_35 rfl 3 rfl rfl ?_
          refine hv_istore (lv2 := [(6, .int (iI (a))), (5, .int (iI (0))), (0, .ref (q)), (1, .int (iI (x))), (2, .int (iI (a))), (3, .int (iI (b))), (4, .int (bI (y)))]) E dX7_change_36 (by decide) rfl rfl ?_
          have hX : 0 ≤ x ∧ x ≤ 7 := by omega
          have hAB : 0 ≤ a ∧ a ≤ b ∧ b < 4096 := by omega
          refine hv_mem (show w = hm_up w ia (mE K (fun (i : Nat) => if 4096 * x + a ≤ (i : Int) ∧ (i : Int) < 4096 * x + a then y else I i)) from (by
                rw [show (fun i : Nat => if 4096 * x + a ≤ (i : Int) ∧ (i : Int) < 4096 * x + a then y else I i) = I from funext fun i => by rw [if_neg (by omega)]]
                exact (hm_uid hm.2).symm)) ?_
          have LP : ∀ (k : Nat) (j sm : Int), (b + 1 - j < (k : Int)) → (a ≤ j) → (j ≤ b + 1) → (sm = (ct (fun v => mS I x v ^^ y) a.toNat (j - a).toNat : Nat)) → hm_V p l e (hm_rm 2 0 0) s m args below meth c D (hm_A w s.heap.size) 7 0 0 (MQ below (hm_Qi D w s.heap.size (fun r w2 => r = iI (if 0 ≤ x ∧ x < 8 then (if 0 ≤ a ∧ a ≤ b ∧ b < 4096 then (ct (fun v => mS I x v ^^ y) a.toNat (b - a + 1).toNat : Nat) else -3) else -2) ∧ w2 = if (0 ≤ x ∧ x < 8) ∧ 0 ≤ a ∧ a ≤ b ∧ b < 4096 then hm_up w ia (mE K (fun (j : Nat) => if 4096 * x + a ≤ (j : Int) ∧ (j : Int) ≤ 4096 * x + b then y else I j)) else w)) args s 0 0 (hm_A w s.heap.size)) (hm_up w ia (mE K (fun (i : Nat) => if 4096 * x + a ≤ (i : Int) ∧ (i : Int) < 4096 * x + j then y else I i))) 38 [(6, .int (iI (j))), (5, .int (iI (sm))), (0, .ref (q)), (1, .int (iI (x))), (2, .int (iI (a))), (3, .int (iI (b))), (4, .int (bI (y)))] [] := by
            intro k
            induction k with
            | zero =>
              intro j sm hk g0 g1 hs
              exact absurd hk (by omega)
            | succ k ih =>
              intro j sm hk g0 g1 hs
              have hm2 := hm.up (fun (i : Nat) => if 4096 * x + a ≤ (i : Int) ∧ (i : Int) < 4096 * x + j then y else I i)
              have hc := ct_le (fun v => mS I x v ^^ y) a.toNat (j - a).toNat
              have hJ : mS (fun (i : Nat) => if 4096 * x + a ≤ (i : Int) ∧ (i : Int) < 4096 * x + j then y else I i) x j.toNat = mS I x j.toNat := by show (if _ then _ else _) = _; rw [if_neg (by omega)]; rfl
              refine hv_iload E dX7_change_38 0 rfl rfl ?_
              refine hv_iload_n E dX7_change_40 rfl 5 rfl rfl ?_
              refine hv_icmp_gt E 87 dX7_change_41 (by decide) ⟨by omega, by omega⟩ ⟨by omega, by omega⟩ rfl (fun c5 => ?_) (fun c5 => ?_)
              · skip
                refine hv_iload E dX7_change_87 1 rfl rfl ?_
                exact hv_iret E dX7_change_89 hr ⟨by rw [if_pos (by omega), if_pos (by omega), hs, show j - a = b - a + 1 by omega], by
                        rw [if_pos (by omega)]
                        congr 2
                        funext i
                        congr 1
                        apply propext; omega⟩
              · skip
                refine hv_iload E dX7_change_44 1 rfl rfl ?_
                refine hv_aload_n E dX7_change_46 rfl 2 rfl rfl ?_
                refine hv_iload_n E dX7_change_47 rfl 3 rfl rfl ?_
                refine hv_iload E dX7_change_48 0 rfl rfl ?_
                refine hv_callVI (na := 2) (As := [.int (iI (x)), .int (iI (j))]) (st := [.int (iI (sm))]) E (c7_is l D K x j (by omega) (by omega) (by omega) (by omega) hm2) dX7_change_50 hm2.1 (show vwCl[6]? = some (RX7, TX7, 7) from rfl) gL_X7_28 gV_X7_is gI_X7_is gC_X7_is gZ_X7 (by decide +kernel) rfl ⟨Nat.le_of_ble_eq_true rfl, Nat.le_of_ble_eq_true rfl⟩ (Nat.le_of_ble_eq_true rfl) ⟨Nat.zero_le _, Nat.zero_le _⟩ rfl rfl (fun r w2 hp => ?_)
                rw [hp.1, hp.2]
                show hm_V p l e (hm_rm 2 0 0) s m args below meth c D (hm_A w s.heap.size) 7 0 0 (MQ below (hm_Qi D w s.heap.size (fun r w2 => r = iI (if 0 ≤ x ∧ x < 8 then (if 0 ≤ a ∧ a ≤ b ∧ b < 4096 then (ct (fun v => mS I x v ^^ y) a.toNat (b - a + 1).toNat : Nat) else -3) else -2) ∧ w2 = if (0 ≤ x ∧ x < 8) ∧ 0 ≤ a ∧ a ≤ b ∧ b < 4096 then hm_up w ia (mE K (fun (j : Nat) => if 4096 * x + a ≤ (j : Int) ∧ (j : Int) ≤ 4096 * x + b then y else I j)) else w)) args s 0 0 (hm_A w s.heap.size)) (hm_up w ia (mE K (fun (i : Nat) => if 4096 * x + a ≤ (i : Int) ∧ (i : Int) < 4096 * x + j then y else I i))) 53 [(6, .int (iI (j))), (5, .int (iI (sm))), (0, .ref (q)), (1, .int (iI (x))), (2, .int (iI (a))), (3, .int (iI (b))), (4, .int (bI (y)))] [.int (bI (mS (fun (i : Nat) => if 4096 * x + a ≤ (i : Int) ∧ (i : Int) < 4096 * x + j then y else I i) x (j).toNat)), .int (iI (sm))]
                refine hv_iload E dX7_change_53 6 rfl rfl ?_
                refine hv_icmp_eqB E 62 dX7_change_55 (by decide) rfl (fun c6 => ?_) (fun c6 => ?_)
                · skip
                  refine hv_iconst E dX7_change_62 rfl ?_
                  refine hv_iadd E dX7_change_63 rfl ?_
                  refine hv_istore (lv2 := [(5, .int (iI (sm + 0))), (6, .int (iI (j))), (0, .ref (q)), (1, .int (iI (x))), (2, .int (iI (a))), (3, .int (iI (b))), (4, .int (bI (y)))]) E dX7_change_64 (by decide) rfl rfl ?_
                  refine hv_aload_n E dX7_change_66 rfl 2 rfl rfl ?_
                  refine hv_get (kf := 0) E dX7_change_67 (show vwCl[6]? = some (RX7, TX7, 7) from rfl) (by decide) gW_X7 gF_X7_8 rfl hm2.1 rfl rfl ?_
                  refine hv_sipush E dX7_change_70 (by decide +kernel) rfl ?_
                  refine hv_iload_n E dX7_change_73 rfl 3 rfl rfl ?_
                  refine hv_imul E dX7_change_74 rfl ?_
                  refine hv_iload E dX7_change_75 1 rfl rfl ?_
                  refine hv_iadd E dX7_change_77 rfl ?_
                  refine hv_iload E dX7_change_78 6 rfl rfl ?_
                  refine hv_zast E dX7_change_80 hm2.2 (by omega) (by omega) (by decide) rfl ?_
                  refine hv_mem (show hm_up (hm_up w ia (mE K (fun (i : Nat) => if 4096 * x + a ≤ (i : Int) ∧ (i : Int) < 4096 * x + j then y else I i))) ia (mE K (va_up (fun (i : Nat) => if 4096 * x + a ≤ (i : Int) ∧ (i : Int) < 4096 * x + j then y else I i) (4096 * x + j).toNat y)) = hm_up w ia (mE K (fun (i : Nat) => if 4096 * x + a ≤ (i : Int) ∧ (i : Int) < 4096 * x + (j + 1) then y else I i)) from (by
                            rw [hm_uu]
                            congr 2
                            funext i
                            show (if i = _ then y else _) = _
                            by_cases hi : i = (4096 * x + j).toNat
                            · rw [if_pos hi, if_pos (by omega)]
                            · rw [if_neg hi]
                              show (if _ then _ else _) = _
                              by_cases hi2 : 4096 * x + a ≤ (i : Int) ∧ (i : Int) < 4096 * x + j
                              · rw [if_pos hi2, if_pos (by omega)]
                              · rw [if_neg hi2, if_neg (by omega)])) ?_
                  refine hv_iinc (lv2 := [(6, .int (iI (j + 1))), (5, .int (iI (sm + 0))), (0, .ref (q)), (1, .int (iI (x))), (2, .int (iI (a))), (3, .int (iI (b))), (4, .int (bI (y)))]) E dX7_change_81 1 rfl rfl (by decide) rfl rfl ?_
                  refine hv_goto E 38 dX7_change_84 (by decide) ?_
                  refine hv_sub (lv2 := [(6, .int (iI (j + 1))), (5, .int (iI (sm + 0))), (0, .ref (q)), (1, .int (iI (x))), (2, .int (iI (a))), (3, .int (iI (b))), (4, .int (bI (y)))]) [0, 1, 2, 3, 4, 5, 6] rfl ?_
                  exact ih (j + 1) _ (by omega) (by omega) (by omega) (by
                            rw [show (j + 1 - a).toNat = (j - a).toNat + 1 by omega, ct_succ, show a.toNat + (j - a).toNat = j.toNat by omega, hs]
                            rw [hJ] at c6
                            cases e1 : mS I x j.toNat <;> cases e2 : y <;> simp [e1, e2] at c6 ⊢)
                · skip
                  refine hv_iconst E dX7_change_58 rfl ?_
                  refine hv_goto E 63 dX7_change_59 (by decide) ?_
                  refine hv_iadd E dX7_change_63 rfl ?_
                  refine hv_istore (lv2 := [(5, .int (iI (sm + 1))), (6, .int (iI (j))), (0, .ref (q)), (1, .int (iI (x))), (2, .int (iI (a))), (3, .int (iI (b))), (4, .int (bI (y)))]) E dX7_change_64 (by decide) rfl rfl ?_
                  refine hv_aload_n E dX7_change_66 rfl 2 rfl rfl ?_
                  refine hv_get (kf := 0) E dX7_change_67 (show vwCl[6]? = some (RX7, TX7, 7) from rfl) (by decide) gW_X7 gF_X7_8 rfl hm2.1 rfl rfl ?_
                  refine hv_sipush E dX7_change_70 (by decide +kernel) rfl ?_
                  refine hv_iload_n E dX7_change_73 rfl 3 rfl rfl ?_
                  refine hv_imul E dX7_change_74 rfl ?_
                  refine hv_iload E dX7_change_75 1 rfl rfl ?_
                  refine hv_iadd E dX7_change_77 rfl ?_
                  refine hv_iload E dX7_change_78 6 rfl rfl ?_
                  refine hv_zast E dX7_change_80 hm2.2 (by omega) (by omega) (by decide) rfl ?_
                  refine hv_mem (show hm_up (hm_up w ia (mE K (fun (i : Nat) => if 4096 * x + a ≤ (i : Int) ∧ (i : Int) < 4096 * x + j then y else I i))) ia (mE K (va_up (fun (i : Nat) => if 4096 * x + a ≤ (i : Int) ∧ (i : Int) < 4096 * x + j then y else I i) (4096 * x + j).toNat y)) = hm_up w ia (mE K (fun (i : Nat) => if 4096 * x + a ≤ (i : Int) ∧ (i : Int) < 4096 * x + (j + 1) then y else I i)) from (by
                            rw [hm_uu]
                            congr 2
                            funext i
                            show (if i = _ then y else _) = _
                            by_cases hi : i = (4096 * x + j).toNat
                            · rw [if_pos hi, if_pos (by omega)]
                            · rw [if_neg hi]
                              show (if _ then _ else _) = _
                              by_cases hi2 : 4096 * x + a ≤ (i : Int) ∧ (i : Int) < 4096 * x + j
                              · rw [if_pos hi2, if_pos (by omega)]
                              · rw [if_neg hi2, if_neg (by omega)])) ?_
                  refine hv_iinc (lv2 := [(6, .int (iI (j + 1))), (5, .int (iI (sm + 1))), (0, .ref (q)), (1, .int (iI (x))), (2, .int (iI (a))), (3, .int (iI (b))), (4, .int (bI (y)))]) E dX7_change_81 1 rfl rfl (by decide) rfl rfl ?_
                  refine hv_goto E 38 dX7_change_84 (by decide) ?_
                  refine hv_sub (lv2 := [(6, .int (iI (j + 1))), (5, .int (iI (sm + 1))), (0, .ref (q)), (1, .int (iI (x))), (2, .int (iI (a))), (3, .int (iI (b))), (4, .int (bI (y)))]) [0, 1, 2, 3, 4, 5, 6] rfl ?_
                  exact ih (j + 1) _ (by omega) (by omega) (by omega) (by
                            rw [show (j + 1 - a).toNat = (j - a).toNat + 1 by omega, ct_succ, show a.toNat + (j - a).toNat = j.toNat by omega, hs]
                            rw [hJ] at c6
                            cases e1 : mS I x j.toNat <;> cases e2 : y <;> simp [e1, e2] at c6 ⊢)
          refine hv_sub (lv2 := [(6, .int (iI (a))), (5, .int (iI (0))), (0, .ref (q)), (1, .int (iI (x))), (2, .int (iI (a))), (3, .int (iI (b))), (4, .int (bI (y)))]) [0, 1, 2, 3, 4, 5, 6] rfl ?_
          exact LP (b - a + 2).toNat a 0 (by omega) (by omega) (by omega) (by rw [show (a - a).toNat = 0 by omega]; rfl)
        · skip
          refine hv_bipush E dX7_change_29 (by decide +kernel) rfl ?_
          exact hv_iret E dX7_change_31 hr ⟨(by (repeat (first | rw [if_pos (by omega)] | rw [if_neg (by omega)])) <;> first | done | rfl), (by (repeat (first | rw [if_pos (by omega)] | rw [if_neg (by omega)])) <;> first | done | rfl)⟩
  · have c1 := of_decide_eq_false c1
    refine hv_bipush E dX7_change_7 (by decide +kernel) rfl ?_
    exact hv_iret E dX7_change_9 hr ⟨(by (repeat (first | rw [if_pos (by omega)] | rw [if_neg (by omega)])) <;> first | done | rfl), (by (repeat (first | rw [if_pos (by omega)] | rw [if_neg (by omega)])) <;> first | done | rfl)⟩
set_option maxHeartbeats 4000000 in
set_option maxRecDepth 100000 in
theorem c7_fill (l : Launch) (D : va_G) (K : Nat → ClassId) {w : hm_M} {q ia : Nat} {fs : List Value} {I : Nat → Bool} (x a b : Int) (hx : iB x) (ha : iB a) (hb : iB b) (hm : mI K w q ia fs I)  : hm_Ci l D K yX7_fill cX7_fill 4 .int 3 [.ref (q), .int (iI (x)), .int (iI (a)), .int (iI (b))] w 0 0 (fun r w2 => r = iI (if 0 ≤ x ∧ x < 8 then (if 0 ≤ a ∧ a ≤ b ∧ b < 4096 then (ct (fun v => mS I x v ^^ true) a.toNat (b - a + 1).toNat : Nat) else -3) else -2) ∧ w2 = if (0 ≤ x ∧ x < 8) ∧ 0 ≤ a ∧ a ≤ b ∧ b < 4096 then hm_up w ia (mE K (fun (j : Nat) => if 4096 * x + a ≤ (j : Int) ∧ (j : Int) ≤ 4096 * x + b then true else I j)) else w) := by
  refine hm_enterI (by decide) (Nat.le_of_ble_eq_true rfl) ?_
  intro p e s m args below meth c E hr hnm
  show hm_V p l e (hm_rm 3 0 0) s m args below meth c D (hm_A w s.heap.size) 4 0 0 (MQ below (hm_Qi D w s.heap.size (fun r w2 => r = iI (if 0 ≤ x ∧ x < 8 then (if 0 ≤ a ∧ a ≤ b ∧ b < 4096 then (ct (fun v => mS I x v ^^ true) a.toNat (b - a + 1).toNat : Nat) else -3) else -2) ∧ w2 = if (0 ≤ x ∧ x < 8) ∧ 0 ≤ a ∧ a ≤ b ∧ b < 4096 then hm_up w ia (mE K (fun (j : Nat) => if 4096 * x + a ≤ (j : Int) ∧ (j : Int) ≤ 4096 * x + b then true else I j)) else w)) args s 0 0 (hm_A w s.heap.size)) w 0 [(0, .ref (q)), (1, .int (iI (x))), (2, .int (iI (a))), (3, .int (iI (b)))] []
  refine hv_aload_n E dX7_fill_0 rfl 0 rfl rfl ?_
  refine hv_iload_n E dX7_fill_1 rfl 1 rfl rfl ?_
  refine hv_iload_n E dX7_fill_2 rfl 2 rfl rfl ?_
  refine hv_iload_n E dX7_fill_3 rfl 3 rfl rfl ?_
  refine hv_iconst E dX7_fill_4 rfl ?_
  refine hv_topi (show iI (1) = bI (true) from rfl) ?_
  refine hv_callVI (na := 4) (As := [.int (iI (x)), .int (iI (a)), .int (iI (b)), .int (bI (true))]) (st := []) E (c7_change l D K x a b true hx ha hb hm) dX7_fill_5 hm.1 (show vwCl[6]? = some (RX7, TX7, 7) from rfl) gL_X7_32 gV_X7_change gI_X7_change gC_X7_change gZ_X7 (by decide +kernel) rfl ⟨Nat.le_of_ble_eq_true rfl, Nat.le_of_ble_eq_true rfl⟩ (Nat.le_of_ble_eq_true rfl) ⟨Nat.zero_le _, Nat.zero_le _⟩ rfl rfl (fun r w2 hp => ?_)
  exact hv_iret E dX7_fill_8 hr hp
set_option maxHeartbeats 4000000 in
set_option maxRecDepth 100000 in
theorem c7_drop (l : Launch) (D : va_G) (K : Nat → ClassId) {w : hm_M} {q ia : Nat} {fs : List Value} {I : Nat → Bool} (x a b : Int) (hx : iB x) (ha : iB a) (hb : iB b) (hm : mI K w q ia fs I)  : hm_Ci l D K yX7_drop cX7_drop 4 .int 3 [.ref (q), .int (iI (x)), .int (iI (a)), .int (iI (b))] w 0 0 (fun r w2 => r = iI (if 0 ≤ x ∧ x < 8 then (if 0 ≤ a ∧ a ≤ b ∧ b < 4096 then (ct (fun v => mS I x v ^^ false) a.toNat (b - a + 1).toNat : Nat) else -3) else -2) ∧ w2 = if (0 ≤ x ∧ x < 8) ∧ 0 ≤ a ∧ a ≤ b ∧ b < 4096 then hm_up w ia (mE K (fun (j : Nat) => if 4096 * x + a ≤ (j : Int) ∧ (j : Int) ≤ 4096 * x + b then false else I j)) else w) := by
  refine hm_enterI (by decide) (Nat.le_of_ble_eq_true rfl) ?_
  intro p e s m args below meth c E hr hnm
  show hm_V p l e (hm_rm 3 0 0) s m args below meth c D (hm_A w s.heap.size) 4 0 0 (MQ below (hm_Qi D w s.heap.size (fun r w2 => r = iI (if 0 ≤ x ∧ x < 8 then (if 0 ≤ a ∧ a ≤ b ∧ b < 4096 then (ct (fun v => mS I x v ^^ false) a.toNat (b - a + 1).toNat : Nat) else -3) else -2) ∧ w2 = if (0 ≤ x ∧ x < 8) ∧ 0 ≤ a ∧ a ≤ b ∧ b < 4096 then hm_up w ia (mE K (fun (j : Nat) => if 4096 * x + a ≤ (j : Int) ∧ (j : Int) ≤ 4096 * x + b then false else I j)) else w)) args s 0 0 (hm_A w s.heap.size)) w 0 [(0, .ref (q)), (1, .int (iI (x))), (2, .int (iI (a))), (3, .int (iI (b)))] []
  refine hv_aload_n E dX7_drop_0 rfl 0 rfl rfl ?_
  refine hv_iload_n E dX7_drop_1 rfl 1 rfl rfl ?_
  refine hv_iload_n E dX7_drop_2 rfl 2 rfl rfl ?_
  refine hv_iload_n E dX7_drop_3 rfl 3 rfl rfl ?_
  refine hv_iconst E dX7_drop_4 rfl ?_
  refine hv_topi (show iI (0) = bI (false) from rfl) ?_
  refine hv_callVI (na := 4) (As := [.int (iI (x)), .int (iI (a)), .int (iI (b)), .int (bI (false))]) (st := []) E (c7_change l D K x a b false hx ha hb hm) dX7_drop_5 hm.1 (show vwCl[6]? = some (RX7, TX7, 7) from rfl) gL_X7_32 gV_X7_change gI_X7_change gC_X7_change gZ_X7 (by decide +kernel) rfl ⟨Nat.le_of_ble_eq_true rfl, Nat.le_of_ble_eq_true rfl⟩ (Nat.le_of_ble_eq_true rfl) ⟨Nat.zero_le _, Nat.zero_le _⟩ rfl rfl (fun r w2 hp => ?_)
  exact hv_iret E dX7_drop_8 hr hp
end
section
set_option maxHeartbeats 4000000 in
set_option maxRecDepth 100000 in
theorem c7_has (l : Launch) (D : va_G) (K : Nat → ClassId) {w : hm_M} {q ia : Nat} {fs : List Value} {I : Nat → Bool} (x v : Int) (hx : iB x) (hv : iB v) (hm : mI K w q ia fs I)  : hm_Ci l D K yX7_has cX7_has 3 .int 2 [.ref (q), .int (iI (x)), .int (iI (v))] w 0 0 (fun r w2 => r = iI (if 0 ≤ x ∧ x < 8 then (if 0 ≤ v ∧ v < 4096 then (if mS I x v.toNat then 1 else 0) else -3) else -2) ∧ w2 = w) := by
  refine hm_enterI (by decide) (Nat.le_of_ble_eq_true rfl) ?_
  intro p e s m args below meth c E hr hnm
  show hm_V p l e (hm_rm 2 0 0) s m args below meth c D (hm_A w s.heap.size) 3 0 0 (MQ below (hm_Qi D w s.heap.size (fun r w2 => r = iI (if 0 ≤ x ∧ x < 8 then (if 0 ≤ v ∧ v < 4096 then (if mS I x v.toNat then 1 else 0) else -3) else -2) ∧ w2 = w)) args s 0 0 (hm_A w s.heap.size)) w 0 [(0, .ref (q)), (1, .int (iI (x))), (2, .int (iI (v)))] []
  refine hv_iload_n E dX7_has_0 rfl 1 rfl rfl ?_
  refine hv_callSI (na := 1) (As := [.int (iI (x))]) (st := []) E (c7_isSet l D K x hx) dX7_has_1 gL_X7_21 gS_X7_isSet gC_X7_isSet gZ_X7 (by decide +kernel) rfl ⟨Nat.le_of_ble_eq_true rfl, Nat.le_of_ble_eq_true rfl⟩ (Nat.le_of_ble_eq_true rfl) ⟨Nat.zero_le _, Nat.zero_le _⟩ rfl rfl (fun r w2 hp => ?_)
  rw [hp.1, hp.2]
  show hm_V p l e (hm_rm 2 0 0) s m args below meth c D (hm_A w s.heap.size) 3 0 0 (MQ below (hm_Qi D w s.heap.size (fun r w2 => r = iI (if 0 ≤ x ∧ x < 8 then (if 0 ≤ v ∧ v < 4096 then (if mS I x v.toNat then 1 else 0) else -3) else -2) ∧ w2 = w)) args s 0 0 (hm_A w s.heap.size)) w 4 [(0, .ref (q)), (1, .int (iI (x))), (2, .int (iI (v)))] [.int (bI (decide (0 ≤ x ∧ x ≤ 7)))]
  refine hv_if_neB E 10 dX7_has_4 (by decide) rfl (fun c1 => ?_) (fun c1 => ?_)
  · have c1 := of_decide_eq_true c1
    refine hv_iload_n E dX7_has_10 rfl 2 rfl rfl ?_
    refine hv_callSI (na := 1) (As := [.int (iI (v))]) (st := []) E (c7_isNumber l D K v hv) dX7_has_11 gL_X7_25 gS_X7_isNumber gC_X7_isNumber gZ_X7 (by decide +kernel) rfl ⟨Nat.le_of_ble_eq_true rfl, Nat.le_of_ble_eq_true rfl⟩ (Nat.le_of_ble_eq_true rfl) ⟨Nat.zero_le _, Nat.zero_le _⟩ rfl rfl (fun r w2 hp => ?_)
    rw [hp.1, hp.2]
    show hm_V p l e (hm_rm 2 0 0) s m args below meth c D (hm_A w s.heap.size) 3 0 0 (MQ below (hm_Qi D w s.heap.size (fun r w2 => r = iI (if 0 ≤ x ∧ x < 8 then (if 0 ≤ v ∧ v < 4096 then (if mS I x v.toNat then 1 else 0) else -3) else -2) ∧ w2 = w)) args s 0 0 (hm_A w s.heap.size)) w 14 [(0, .ref (q)), (1, .int (iI (x))), (2, .int (iI (v)))] [.int (bI (decide (0 ≤ v ∧ v ≤ 4095)))]
    refine hv_if_neB E 22 dX7_has_14 (by decide) rfl (fun c2 => ?_) (fun c2 => ?_)
    · have c2 := of_decide_eq_true c2
      refine hv_aload_n E dX7_has_22 rfl 0 rfl rfl ?_
      refine hv_iload_n E dX7_has_23 rfl 1 rfl rfl ?_
      refine hv_iload_n E dX7_has_24 rfl 2 rfl rfl ?_
      refine hv_callVI (na := 2) (As := [.int (iI (x)), .int (iI (v))]) (st := []) E (c7_is l D K x v (by omega) (by omega) (by omega) (by omega) hm) dX7_has_25 hm.1 (show vwCl[6]? = some (RX7, TX7, 7) from rfl) gL_X7_28 gV_X7_is gI_X7_is gC_X7_is gZ_X7 (by decide +kernel) rfl ⟨Nat.le_of_ble_eq_true rfl, Nat.le_of_ble_eq_true rfl⟩ (Nat.le_of_ble_eq_true rfl) ⟨Nat.zero_le _, Nat.zero_le _⟩ rfl rfl (fun r w2 hp => ?_)
      rw [hp.1, hp.2]
      show hm_V p l e (hm_rm 2 0 0) s m args below meth c D (hm_A w s.heap.size) 3 0 0 (MQ below (hm_Qi D w s.heap.size (fun r w2 => r = iI (if 0 ≤ x ∧ x < 8 then (if 0 ≤ v ∧ v < 4096 then (if mS I x v.toNat then 1 else 0) else -3) else -2) ∧ w2 = w)) args s 0 0 (hm_A w s.heap.size)) w 28 [(0, .ref (q)), (1, .int (iI (x))), (2, .int (iI (v)))] [.int (bI (mS I x (v).toNat))]
      refine hv_if_eqB E 35 dX7_has_28 (by decide) rfl (fun c3 => ?_) (fun c3 => ?_)
      · refine hv_iconst E dX7_has_35 rfl ?_
        exact hv_iret E dX7_has_36 hr ⟨by rw [if_pos (by omega), if_pos (by omega), c3]; rfl, rfl⟩
      · refine hv_iconst E dX7_has_31 rfl ?_
        refine hv_goto E 36 dX7_has_32 (by decide) ?_
        exact hv_iret E dX7_has_36 hr ⟨by rw [if_pos (by omega), if_pos (by omega), c3]; rfl, rfl⟩
    · have c2 := of_decide_eq_false c2
      refine hv_bipush E dX7_has_17 (by decide +kernel) rfl ?_
      refine hv_goto E 36 dX7_has_19 (by decide) ?_
      exact hv_iret E dX7_has_36 hr ⟨(by (repeat (first | rw [if_pos (by omega)] | rw [if_neg (by omega)])) <;> first | done | rfl), rfl⟩
  · have c1 := of_decide_eq_false c1
    refine hv_bipush E dX7_has_7 (by decide +kernel) rfl ?_
    exact hv_iret E dX7_has_9 hr ⟨(by (repeat (first | rw [if_pos (by omega)] | rw [if_neg (by omega)])) <;> first | done | rfl), rfl⟩
set_option maxHeartbeats 4000000 in
set_option maxRecDepth 100000 in
theorem c7_count (l : Launch) (D : va_G) (K : Nat → ClassId) {w : hm_M} {q ia : Nat} {fs : List Value} {I : Nat → Bool} (x : Int) (hx : iB x) (hm : mI K w q ia fs I)  : hm_Ci l D K yX7_count cX7_count 2 .int 2 [.ref (q), .int (iI (x))] w 0 0 (fun r w2 => r = iI (if 0 ≤ x ∧ x < 8 then (ct (mS I x) 0 4096 : Nat) else -2) ∧ w2 = w) := by
  refine hm_enterI (by decide) (Nat.le_of_ble_eq_true rfl) ?_
  intro p e s m args below meth c E hr hnm
  show hm_V p l e (hm_rm 2 0 0) s m args below meth c D (hm_A w s.heap.size) 2 0 0 (MQ below (hm_Qi D w s.heap.size (fun r w2 => r = iI (if 0 ≤ x ∧ x < 8 then (ct (mS I x) 0 4096 : Nat) else -2) ∧ w2 = w)) args s 0 0 (hm_A w s.heap.size)) w 0 [(0, .ref (q)), (1, .int (iI (x)))] []
  refine hv_iload_n E dX7_count_0 rfl 1 rfl rfl ?_
  refine hv_callSI (na := 1) (As := [.int (iI (x))]) (st := []) E (c7_isSet l D K x hx) dX7_count_1 gL_X7_21 gS_X7_isSet gC_X7_isSet gZ_X7 (by decide +kernel) rfl ⟨Nat.le_of_ble_eq_true rfl, Nat.le_of_ble_eq_true rfl⟩ (Nat.le_of_ble_eq_true rfl) ⟨Nat.zero_le _, Nat.zero_le _⟩ rfl rfl (fun r w2 hp => ?_)
  rw [hp.1, hp.2]
  show hm_V p l e (hm_rm 2 0 0) s m args below meth c D (hm_A w s.heap.size) 2 0 0 (MQ below (hm_Qi D w s.heap.size (fun r w2 => r = iI (if 0 ≤ x ∧ x < 8 then (ct (mS I x) 0 4096 : Nat) else -2) ∧ w2 = w)) args s 0 0 (hm_A w s.heap.size)) w 4 [(0, .ref (q)), (1, .int (iI (x)))] [.int (bI (decide (0 ≤ x ∧ x ≤ 7)))]
  refine hv_if_eqB E 19 dX7_count_4 (by decide) rfl (fun c1 => ?_) (fun c1 => ?_)
  · have c1 := of_decide_eq_false c1
    refine hv_bipush E dX7_count_19 (by decide +kernel) rfl ?_
    exact hv_iret E dX7_count_21 hr ⟨(by (repeat (first | rw [if_pos (by omega)] | rw [if_neg (by omega)])) <;> first | done | rfl), rfl⟩
  · have c1 := of_decide_eq_true c1
    refine hv_aload_n E dX7_count_7 rfl 0 rfl rfl ?_
    refine hv_iload_n E dX7_count_8 rfl 1 rfl rfl ?_
    refine hv_iconst E dX7_count_9 rfl ?_
    refine hv_sipush E dX7_count_10 (by decide +kernel) rfl ?_
    refine hv_callVI (na := 3) (As := [.int (iI (x)), .int (iI (0)), .int (iI (4096))]) (st := []) E (c7_many l D K x 0 4096 (by omega) (by omega) (by omega) (by omega) (by omega) hm) dX7_count_13 hm.1 (show vwCl[6]? = some (RX7, TX7, 7) from rfl) gL_X7_36 gV_X7_many gI_X7_many gC_X7_many gZ_X7 (by decide +kernel) rfl ⟨Nat.le_of_ble_eq_true rfl, Nat.le_of_ble_eq_true rfl⟩ (Nat.le_of_ble_eq_true rfl) ⟨Nat.zero_le _, Nat.zero_le _⟩ rfl rfl (fun r w2 hp => ?_)
    rw [hp.1, hp.2]
    show hm_V p l e (hm_rm 2 0 0) s m args below meth c D (hm_A w s.heap.size) 2 0 0 (MQ below (hm_Qi D w s.heap.size (fun r w2 => r = iI (if 0 ≤ x ∧ x < 8 then (ct (mS I x) 0 4096 : Nat) else -2) ∧ w2 = w)) args s 0 0 (hm_A w s.heap.size)) w 16 [(0, .ref (q)), (1, .int (iI (x)))] [.int (iI ((ct (mS I x) (0 : Int).toNat (4096 - 0 : Int).toNat : Nat)))]
    refine hv_goto E 21 dX7_count_16 (by decide) ?_
    exact hv_iret E dX7_count_21 hr ⟨(by (repeat (first | rw [if_pos (by omega)] | rw [if_neg (by omega)])) <;> first | done | rfl), rfl⟩
set_option maxHeartbeats 4000000 in
set_option maxRecDepth 100000 in
theorem c7_rank (l : Launch) (D : va_G) (K : Nat → ClassId) {w : hm_M} {q ia : Nat} {fs : List Value} {I : Nat → Bool} (x v : Int) (hx : iB x) (hv : iB v) (hm : mI K w q ia fs I)  : hm_Ci l D K yX7_rank cX7_rank 3 .int 2 [.ref (q), .int (iI (x)), .int (iI (v))] w 0 0 (fun r w2 => r = iI (if 0 ≤ x ∧ x < 8 then (if 0 ≤ v ∧ v ≤ 4096 then (ct (mS I x) 0 v.toNat : Nat) else -3) else -2) ∧ w2 = w) := by
  refine hm_enterI (by decide) (Nat.le_of_ble_eq_true rfl) ?_
  intro p e s m args below meth c E hr hnm
  show hm_V p l e (hm_rm 2 0 0) s m args below meth c D (hm_A w s.heap.size) 3 0 0 (MQ below (hm_Qi D w s.heap.size (fun r w2 => r = iI (if 0 ≤ x ∧ x < 8 then (if 0 ≤ v ∧ v ≤ 4096 then (ct (mS I x) 0 v.toNat : Nat) else -3) else -2) ∧ w2 = w)) args s 0 0 (hm_A w s.heap.size)) w 0 [(0, .ref (q)), (1, .int (iI (x))), (2, .int (iI (v)))] []
  refine hv_iload_n E dX7_rank_0 rfl 1 rfl rfl ?_
  refine hv_callSI (na := 1) (As := [.int (iI (x))]) (st := []) E (c7_isSet l D K x hx) dX7_rank_1 gL_X7_21 gS_X7_isSet gC_X7_isSet gZ_X7 (by decide +kernel) rfl ⟨Nat.le_of_ble_eq_true rfl, Nat.le_of_ble_eq_true rfl⟩ (Nat.le_of_ble_eq_true rfl) ⟨Nat.zero_le _, Nat.zero_le _⟩ rfl rfl (fun r w2 hp => ?_)
  rw [hp.1, hp.2]
  show hm_V p l e (hm_rm 2 0 0) s m args below meth c D (hm_A w s.heap.size) 3 0 0 (MQ below (hm_Qi D w s.heap.size (fun r w2 => r = iI (if 0 ≤ x ∧ x < 8 then (if 0 ≤ v ∧ v ≤ 4096 then (ct (mS I x) 0 v.toNat : Nat) else -3) else -2) ∧ w2 = w)) args s 0 0 (hm_A w s.heap.size)) w 4 [(0, .ref (q)), (1, .int (iI (x))), (2, .int (iI (v)))] [.int (bI (decide (0 ≤ x ∧ x ≤ 7)))]
  refine hv_if_neB E 10 dX7_rank_4 (by decide) rfl (fun c1 => ?_) (fun c1 => ?_)
  · have c1 := of_decide_eq_true c1
    refine hv_iload_n E dX7_rank_10 rfl 2 rfl rfl ?_
    refine hv_iconst E dX7_rank_11 rfl ?_
    refine hv_sipush E dX7_rank_12 (by decide +kernel) rfl ?_
    refine hv_callSI (na := 3) (As := [.int (iI (v)), .int (iI (0)), .int (iI (4096))]) (st := []) E (c7_within l D K v 0 4096 hv ⟨by omega, by omega⟩ ⟨by omega, by omega⟩) dX7_rank_15 gL_X7_17 gS_X7_within gC_X7_within gZ_X7 (by decide +kernel) rfl ⟨Nat.le_of_ble_eq_true rfl, Nat.le_of_ble_eq_true rfl⟩ (Nat.le_of_ble_eq_true rfl) ⟨Nat.zero_le _, Nat.zero_le _⟩ rfl rfl (fun r w2 hp => ?_)
    rw [hp.1, hp.2]
    show hm_V p l e (hm_rm 2 0 0) s m args below meth c D (hm_A w s.heap.size) 3 0 0 (MQ below (hm_Qi D w s.heap.size (fun r w2 => r = iI (if 0 ≤ x ∧ x < 8 then (if 0 ≤ v ∧ v ≤ 4096 then (ct (mS I x) 0 v.toNat : Nat) else -3) else -2) ∧ w2 = w)) args s 0 0 (hm_A w s.heap.size)) w 18 [(0, .ref (q)), (1, .int (iI (x))), (2, .int (iI (v)))] [.int (bI (decide (0 ≤ v ∧ v ≤ 4096)))]
    refine hv_if_eqB E 31 dX7_rank_18 (by decide) rfl (fun c2 => ?_) (fun c2 => ?_)
    · have c2 := of_decide_eq_false c2
      refine hv_bipush E dX7_rank_31 (by decide +kernel) rfl ?_
      exact hv_iret E dX7_rank_33 hr ⟨(by (repeat (first | rw [if_pos (by omega)] | rw [if_neg (by omega)])) <;> first | done | rfl), rfl⟩
    · have c2 := of_decide_eq_true c2
      refine hv_aload_n E dX7_rank_21 rfl 0 rfl rfl ?_
      refine hv_iload_n E dX7_rank_22 rfl 1 rfl rfl ?_
      refine hv_iconst E dX7_rank_23 rfl ?_
      refine hv_iload_n E dX7_rank_24 rfl 2 rfl rfl ?_
      refine hv_callVI (na := 3) (As := [.int (iI (x)), .int (iI (0)), .int (iI (v))]) (st := []) E (c7_many l D K x 0 v (by omega) (by omega) (by omega) (by omega) (by omega) hm) dX7_rank_25 hm.1 (show vwCl[6]? = some (RX7, TX7, 7) from rfl) gL_X7_36 gV_X7_many gI_X7_many gC_X7_many gZ_X7 (by decide +kernel) rfl ⟨Nat.le_of_ble_eq_true rfl, Nat.le_of_ble_eq_true rfl⟩ (Nat.le_of_ble_eq_true rfl) ⟨Nat.zero_le _, Nat.zero_le _⟩ rfl rfl (fun r w2 hp => ?_)
      rw [hp.1, hp.2]
      show hm_V p l e (hm_rm 2 0 0) s m args below meth c D (hm_A w s.heap.size) 3 0 0 (MQ below (hm_Qi D w s.heap.size (fun r w2 => r = iI (if 0 ≤ x ∧ x < 8 then (if 0 ≤ v ∧ v ≤ 4096 then (ct (mS I x) 0 v.toNat : Nat) else -3) else -2) ∧ w2 = w)) args s 0 0 (hm_A w s.heap.size)) w 28 [(0, .ref (q)), (1, .int (iI (x))), (2, .int (iI (v)))] [.int (iI ((ct (mS I x) (0 : Int).toNat (v - 0 : Int).toNat : Nat)))]
      refine hv_goto E 33 dX7_rank_28 (by decide) ?_
      exact hv_iret E dX7_rank_33 hr ⟨by rw [if_pos (by omega), if_pos (by omega), show v - 0 = v by omega]; rfl, rfl⟩
  · have c1 := of_decide_eq_false c1
    refine hv_bipush E dX7_rank_7 (by decide +kernel) rfl ?_
    exact hv_iret E dX7_rank_9 hr ⟨(by (repeat (first | rw [if_pos (by omega)] | rw [if_neg (by omega)])) <;> first | done | rfl), rfl⟩
set_option maxHeartbeats 4000000 in
set_option maxRecDepth 100000 in
theorem c7_nth (l : Launch) (D : va_G) (K : Nat → ClassId) {w : hm_M} {q ia : Nat} {fs : List Value} {I : Nat → Bool} (x n : Int) (hb : iB n) (h0 : 0 ≤ x) (h1 : x ≤ 8) (hm : mI K w q ia fs I)  : hm_Ci l D K yX7_nth cX7_nth 5 .int 1 [.ref (q), .int (iI (x)), .int (iI (n))] w 0 0 (fun r w2 => (∃ z : Int, isNth (mS I x) 4096 n z ∧ r = iI z) ∧ w2 = w) := by
  refine hm_enterI (by decide) (Nat.le_of_ble_eq_true rfl) ?_
  intro p e s m args below meth c E hr hnm
  show hm_V p l e (hm_rm 1 0 0) s m args below meth c D (hm_A w s.heap.size) 5 0 0 (MQ below (hm_Qi D w s.heap.size (fun r w2 => (∃ z : Int, isNth (mS I x) 4096 n z ∧ r = iI z) ∧ w2 = w)) args s 0 0 (hm_A w s.heap.size)) w 0 [(0, .ref (q)), (1, .int (iI (x))), (2, .int (iI (n)))] []
  have hb1 := hb.1
  have hb2 := hb.2
  refine hv_iload_n E dX7_nth_0 rfl 2 rfl rfl ?_
  refine hv_istore_n (lv2 := [(3, .int (iI (n))), (0, .ref (q)), (1, .int (iI (x))), (2, .int (iI (n)))]) E dX7_nth_1 rfl (by decide) rfl rfl ?_
  refine hv_iconst E dX7_nth_2 rfl ?_
  refine hv_istore (lv2 := [(4, .int (iI (0))), (3, .int (iI (n))), (0, .ref (q)), (1, .int (iI (x))), (2, .int (iI (n)))]) E dX7_nth_3 (by decide) rfl rfl ?_
  have LP : ∀ (k : Nat) (j lf : Int), (4096 - j < (k : Int)) → (0 ≤ j) → (j ≤ 4096) → (lf = n - (ct (mS I x) 0 j.toNat : Nat)) → (0 ≤ n → 0 ≤ lf) → hm_V p l e (hm_rm 1 0 0) s m args below meth c D (hm_A w s.heap.size) 5 0 0 (MQ below (hm_Qi D w s.heap.size (fun r w2 => (∃ z : Int, isNth (mS I x) 4096 n z ∧ r = iI z) ∧ w2 = w)) args s 0 0 (hm_A w s.heap.size)) w 5 [(4, .int (iI (j))), (3, .int (iI (lf))), (0, .ref (q)), (1, .int (iI (x))), (2, .int (iI (n)))] [] := by
    intro k
    induction k with
    | zero =>
      intro j lf hk g0 g1 hs hq
      exact absurd hk (by omega)
    | succ k ih =>
      intro j lf hk g0 g1 hs hq
      have hc := ct_le (mS I x) 0 j.toNat
      refine hv_iload E dX7_nth_5 0 rfl rfl ?_
      refine hv_sipush E dX7_nth_7 (by decide +kernel) rfl ?_
      refine hv_icmp_ge E 43 dX7_nth_10 (by decide) ⟨by omega, by omega⟩ ⟨by omega, by omega⟩ rfl (fun c1 => ?_) (fun c1 => ?_)
      · skip
        refine hv_iconst E dX7_nth_43 rfl ?_
        exact hv_iret E dX7_nth_44 hr ⟨⟨-1, Or.inl ⟨rfl, by
                  rcases (show n < 0 ∨ 0 ≤ n by omega) with z | z
                  · exact Or.inl z
                  · have := hq z
                    rw [show j.toNat = 4096 by omega] at hs
                    exact Or.inr (by omega)⟩, rfl⟩, rfl⟩
      · skip
        refine hv_iload_n E dX7_nth_13 rfl 4 rfl rfl ?_
        refine hv_if_lt E 43 dX7_nth_14 (by decide) hb rfl (fun c2 => ?_) (fun c2 => ?_)
        · skip
          refine hv_iconst E dX7_nth_43 rfl ?_
          exact hv_iret E dX7_nth_44 hr ⟨⟨-1, Or.inl ⟨rfl, Or.inl (by omega)⟩, rfl⟩, rfl⟩
        · skip
          refine hv_aload_n E dX7_nth_17 rfl 2 rfl rfl ?_
          refine hv_iload_n E dX7_nth_18 rfl 3 rfl rfl ?_
          refine hv_iload E dX7_nth_19 0 rfl rfl ?_
          refine hv_callVI (na := 2) (As := [.int (iI (x)), .int (iI (j))]) (st := []) E (c7_is l D K x j (by omega) (by omega) (by omega) (by omega) hm) dX7_nth_21 hm.1 (show vwCl[6]? = some (RX7, TX7, 7) from rfl) gL_X7_28 gV_X7_is gI_X7_is gC_X7_is gZ_X7 (by decide +kernel) rfl ⟨Nat.le_of_ble_eq_true rfl, Nat.le_of_ble_eq_true rfl⟩ (Nat.le_of_ble_eq_true rfl) ⟨Nat.zero_le _, Nat.zero_le _⟩ rfl rfl (fun r w2 hp => ?_)
          rw [hp.1, hp.2]
          show hm_V p l e (hm_rm 1 0 0) s m args below meth c D (hm_A w s.heap.size) 5 0 0 (MQ below (hm_Qi D w s.heap.size (fun r w2 => (∃ z : Int, isNth (mS I x) 4096 n z ∧ r = iI z) ∧ w2 = w)) args s 0 0 (hm_A w s.heap.size)) w 24 [(4, .int (iI (j))), (3, .int (iI (lf))), (0, .ref (q)), (1, .int (iI (x))), (2, .int (iI (n)))] [.int (bI (mS I x (j).toNat))]
          refine hv_if_eqB E 37 dX7_nth_24 (by decide) rfl (fun c3 => ?_) (fun c3 => ?_)
          · refine hv_iinc (lv2 := [(4, .int (iI (j + 1))), (3, .int (iI (lf))), (0, .ref (q)), (1, .int (iI (x))), (2, .int (iI (n)))]) E dX7_nth_37 0 rfl rfl (by decide) rfl rfl ?_
            refine hv_goto E 5 dX7_nth_40 (by decide) ?_
            refine hv_sub (lv2 := [(4, .int (iI (j + 1))), (3, .int (iI (lf))), (0, .ref (q)), (1, .int (iI (x))), (2, .int (iI (n)))]) [0, 1, 2, 3, 4] rfl ?_
            exact ih (j + 1) _ (by omega) (by omega) (by omega) (by rw [show (j + 1).toNat = j.toNat + 1 by omega, ct_succ, Nat.zero_add, c3]; exact hs) hq
          · refine hv_iload_n E dX7_nth_27 rfl 1 rfl rfl ?_
            refine hv_if_ne E 34 dX7_nth_28 (by decide) ⟨by omega, by omega⟩ rfl (fun c4 => ?_) (fun c4 => ?_)
            · skip
              refine hv_iinc (lv2 := [(3, .int (iI (lf + (-1)))), (4, .int (iI (j))), (0, .ref (q)), (1, .int (iI (x))), (2, .int (iI (n)))]) E dX7_nth_34 1 rfl rfl (by decide) rfl rfl ?_
              refine hv_iinc (lv2 := [(4, .int (iI (j + 1))), (3, .int (iI (lf + (-1)))), (0, .ref (q)), (1, .int (iI (x))), (2, .int (iI (n)))]) E dX7_nth_37 1 rfl rfl (by decide) rfl rfl ?_
              refine hv_goto E 5 dX7_nth_40 (by decide) ?_
              refine hv_sub (lv2 := [(4, .int (iI (j + 1))), (3, .int (iI (lf + (-1)))), (0, .ref (q)), (1, .int (iI (x))), (2, .int (iI (n)))]) [0, 1, 2, 3, 4] rfl ?_
              exact ih (j + 1) _ (by omega) (by omega) (by omega) (by rw [show (j + 1).toNat = j.toNat + 1 by omega, ct_succ, Nat.zero_add, c3, hs]; simp; omega) (by omega)
            · skip
              refine hv_iload E dX7_nth_31 0 rfl rfl ?_
              exact hv_iret E dX7_nth_33 hr ⟨⟨j, Or.inr ⟨g0, by omega, c3, by omega⟩, rfl⟩, rfl⟩
  refine hv_sub (lv2 := [(4, .int (iI (0))), (3, .int (iI (n))), (0, .ref (q)), (1, .int (iI (x))), (2, .int (iI (n)))]) [0, 1, 2, 3, 4] rfl ?_
  exact LP 4097 0 n (by omega) (by omega) (by omega) (by show n = n - ((0 : Nat) : Int); omega) (fun z => z)
set_option maxHeartbeats 4000000 in
set_option maxRecDepth 100000 in
theorem c7_select (l : Launch) (D : va_G) (K : Nat → ClassId) {w : hm_M} {q ia : Nat} {fs : List Value} {I : Nat → Bool} (x n : Int) (hx : iB x) (hb : iB n) (hm : mI K w q ia fs I)  : hm_Ci l D K yX7_select cX7_select 3 .int 2 [.ref (q), .int (iI (x)), .int (iI (n))] w 0 0 (fun r w2 => (∃ z : Int, (0 ≤ x ∧ x < 8 → isNth (mS I x) 4096 n z) ∧ (¬ (0 ≤ x ∧ x < 8) → z = -2) ∧ r = iI z) ∧ w2 = w) := by
  refine hm_enterI (by decide) (Nat.le_of_ble_eq_true rfl) ?_
  intro p e s m args below meth c E hr hnm
  show hm_V p l e (hm_rm 2 0 0) s m args below meth c D (hm_A w s.heap.size) 3 0 0 (MQ below (hm_Qi D w s.heap.size (fun r w2 => (∃ z : Int, (0 ≤ x ∧ x < 8 → isNth (mS I x) 4096 n z) ∧ (¬ (0 ≤ x ∧ x < 8) → z = -2) ∧ r = iI z) ∧ w2 = w)) args s 0 0 (hm_A w s.heap.size)) w 0 [(0, .ref (q)), (1, .int (iI (x))), (2, .int (iI (n)))] []
  refine hv_iload_n E dX7_select_0 rfl 1 rfl rfl ?_
  refine hv_callSI (na := 1) (As := [.int (iI (x))]) (st := []) E (c7_isSet l D K x hx) dX7_select_1 gL_X7_21 gS_X7_isSet gC_X7_isSet gZ_X7 (by decide +kernel) rfl ⟨Nat.le_of_ble_eq_true rfl, Nat.le_of_ble_eq_true rfl⟩ (Nat.le_of_ble_eq_true rfl) ⟨Nat.zero_le _, Nat.zero_le _⟩ rfl rfl (fun r w2 hp => ?_)
  rw [hp.1, hp.2]
  show hm_V p l e (hm_rm 2 0 0) s m args below meth c D (hm_A w s.heap.size) 3 0 0 (MQ below (hm_Qi D w s.heap.size (fun r w2 => (∃ z : Int, (0 ≤ x ∧ x < 8 → isNth (mS I x) 4096 n z) ∧ (¬ (0 ≤ x ∧ x < 8) → z = -2) ∧ r = iI z) ∧ w2 = w)) args s 0 0 (hm_A w s.heap.size)) w 4 [(0, .ref (q)), (1, .int (iI (x))), (2, .int (iI (n)))] [.int (bI (decide (0 ≤ x ∧ x ≤ 7)))]
  refine hv_if_eqB E 16 dX7_select_4 (by decide) rfl (fun c1 => ?_) (fun c1 => ?_)
  · have c1 := of_decide_eq_false c1
    refine hv_bipush E dX7_select_16 (by decide +kernel) rfl ?_
    exact hv_iret E dX7_select_18 hr ⟨⟨-2, fun h => absurd h (by omega), fun _ => rfl, rfl⟩, rfl⟩
  · have c1 := of_decide_eq_true c1
    refine hv_aload_n E dX7_select_7 rfl 0 rfl rfl ?_
    refine hv_iload_n E dX7_select_8 rfl 1 rfl rfl ?_
    refine hv_iload_n E dX7_select_9 rfl 2 rfl rfl ?_
    refine hv_callVI (na := 2) (As := [.int (iI (x)), .int (iI (n))]) (st := []) E (c7_nth l D K x n hb (by omega) (by omega) hm) dX7_select_10 hm.1 (show vwCl[6]? = some (RX7, TX7, 7) from rfl) gL_X7_40 gV_X7_nth gI_X7_nth gC_X7_nth gZ_X7 (by decide +kernel) rfl ⟨Nat.le_of_ble_eq_true rfl, Nat.le_of_ble_eq_true rfl⟩ (Nat.le_of_ble_eq_true rfl) ⟨Nat.zero_le _, Nat.zero_le _⟩ rfl rfl (fun r w2 hp => ?_)
    obtain ⟨⟨z, p1, p2⟩, p3⟩ := hp
    rw [p2, p3]
    show hm_V p l e (hm_rm 2 0 0) s m args below meth c D (hm_A w s.heap.size) 3 0 0 (MQ below (hm_Qi D w s.heap.size (fun r w2 => (∃ z : Int, (0 ≤ x ∧ x < 8 → isNth (mS I x) 4096 n z) ∧ (¬ (0 ≤ x ∧ x < 8) → z = -2) ∧ r = iI z) ∧ w2 = w)) args s 0 0 (hm_A w s.heap.size)) w 13 [(0, .ref (q)), (1, .int (iI (x))), (2, .int (iI (n)))] [.int (iI (z))]
    refine hv_goto E 18 dX7_select_13 (by decide) ?_
    exact hv_iret E dX7_select_18 hr ⟨⟨z, fun _ => p1, fun h => absurd h (by omega), rfl⟩, rfl⟩
set_option maxHeartbeats 4000000 in
set_option maxRecDepth 100000 in
theorem c7_next (l : Launch) (D : va_G) (K : Nat → ClassId) {w : hm_M} {q ia : Nat} {fs : List Value} {I : Nat → Bool} (x v : Int) (hx : iB x) (hv : iB v) (hm : mI K w q ia fs I)  : hm_Ci l D K yX7_next cX7_next 4 .int 2 [.ref (q), .int (iI (x)), .int (iI (v))] w 0 0 (fun r w2 => (∃ z : Int, ((0 ≤ x ∧ x < 8) → (0 ≤ v ∧ v ≤ 4096) → isNext (mS I x) 4096 v z) ∧ (¬ (0 ≤ x ∧ x < 8) → z = -2) ∧ ((0 ≤ x ∧ x < 8) → ¬ (0 ≤ v ∧ v ≤ 4096) → z = -3) ∧ r = iI z) ∧ w2 = w) := by
  refine hm_enterI (by decide) (Nat.le_of_ble_eq_true rfl) ?_
  intro p e s m args below meth c E hr hnm
  show hm_V p l e (hm_rm 2 0 0) s m args below meth c D (hm_A w s.heap.size) 4 0 0 (MQ below (hm_Qi D w s.heap.size (fun r w2 => (∃ z : Int, ((0 ≤ x ∧ x < 8) → (0 ≤ v ∧ v ≤ 4096) → isNext (mS I x) 4096 v z) ∧ (¬ (0 ≤ x ∧ x < 8) → z = -2) ∧ ((0 ≤ x ∧ x < 8) → ¬ (0 ≤ v ∧ v ≤ 4096) → z = -3) ∧ r = iI z) ∧ w2 = w)) args s 0 0 (hm_A w s.heap.size)) w 0 [(0, .ref (q)), (1, .int (iI (x))), (2, .int (iI (v)))] []
  refine hv_iload_n E dX7_next_0 rfl 1 rfl rfl ?_
  refine hv_callSI (na := 1) (As := [.int (iI (x))]) (st := []) E (c7_isSet l D K x hx) dX7_next_1 gL_X7_21 gS_X7_isSet gC_X7_isSet gZ_X7 (by decide +kernel) rfl ⟨Nat.le_of_ble_eq_true rfl, Nat.le_of_ble_eq_true rfl⟩ (Nat.le_of_ble_eq_true rfl) ⟨Nat.zero_le _, Nat.zero_le _⟩ rfl rfl (fun r w2 hp => ?_)
  rw [hp.1, hp.2]
  show hm_V p l e (hm_rm 2 0 0) s m args below meth c D (hm_A w s.heap.size) 4 0 0 (MQ below (hm_Qi D w s.heap.size (fun r w2 => (∃ z : Int, ((0 ≤ x ∧ x < 8) → (0 ≤ v ∧ v ≤ 4096) → isNext (mS I x) 4096 v z) ∧ (¬ (0 ≤ x ∧ x < 8) → z = -2) ∧ ((0 ≤ x ∧ x < 8) → ¬ (0 ≤ v ∧ v ≤ 4096) → z = -3) ∧ r = iI z) ∧ w2 = w)) args s 0 0 (hm_A w s.heap.size)) w 4 [(0, .ref (q)), (1, .int (iI (x))), (2, .int (iI (v)))] [.int (bI (decide (0 ≤ x ∧ x ≤ 7)))]
  refine hv_if_neB E 10 dX7_next_4 (by decide) rfl (fun c1 => ?_) (fun c1 => ?_)
  · have c1 := of_decide_eq_true c1
    refine hv_iload_n E dX7_next_10 rfl 2 rfl rfl ?_
    refine hv_iconst E dX7_next_11 rfl ?_
    refine hv_sipush E dX7_next_12 (by decide +kernel) rfl ?_
    refine hv_callSI (na := 3) (As := [.int (iI (v)), .int (iI (0)), .int (iI (4096))]) (st := []) E (c7_within l D K v 0 4096 hv ⟨by omega, by omega⟩ ⟨by omega, by omega⟩) dX7_next_15 gL_X7_17 gS_X7_within gC_X7_within gZ_X7 (by decide +kernel) rfl ⟨Nat.le_of_ble_eq_true rfl, Nat.le_of_ble_eq_true rfl⟩ (Nat.le_of_ble_eq_true rfl) ⟨Nat.zero_le _, Nat.zero_le _⟩ rfl rfl (fun r w2 hp => ?_)
    rw [hp.1, hp.2]
    show hm_V p l e (hm_rm 2 0 0) s m args below meth c D (hm_A w s.heap.size) 4 0 0 (MQ below (hm_Qi D w s.heap.size (fun r w2 => (∃ z : Int, ((0 ≤ x ∧ x < 8) → (0 ≤ v ∧ v ≤ 4096) → isNext (mS I x) 4096 v z) ∧ (¬ (0 ≤ x ∧ x < 8) → z = -2) ∧ ((0 ≤ x ∧ x < 8) → ¬ (0 ≤ v ∧ v ≤ 4096) → z = -3) ∧ r = iI z) ∧ w2 = w)) args s 0 0 (hm_A w s.heap.size)) w 18 [(0, .ref (q)), (1, .int (iI (x))), (2, .int (iI (v)))] [.int (bI (decide (0 ≤ v ∧ v ≤ 4096)))]
    refine hv_if_neB E 24 dX7_next_18 (by decide) rfl (fun c2 => ?_) (fun c2 => ?_)
    · have c2 := of_decide_eq_true c2
      refine hv_iload_n E dX7_next_24 rfl 2 rfl rfl ?_
      refine hv_istore_n (lv2 := [(3, .int (iI (v))), (0, .ref (q)), (1, .int (iI (x))), (2, .int (iI (v)))]) E dX7_next_25 rfl (by decide) rfl rfl ?_
      have hX : 0 ≤ x ∧ x < 8 := by omega
      have hV : 0 ≤ v ∧ v ≤ 4096 := by omega
      have LP : ∀ (k : Nat) (j : Int), (4096 - j < (k : Int)) → (v ≤ j) → (j ≤ 4096) → (∀ u : Nat, v ≤ (u : Int) → (u : Int) < j → mS I x u = false) → hm_V p l e (hm_rm 2 0 0) s m args below meth c D (hm_A w s.heap.size) 4 0 0 (MQ below (hm_Qi D w s.heap.size (fun r w2 => (∃ z : Int, ((0 ≤ x ∧ x < 8) → (0 ≤ v ∧ v ≤ 4096) → isNext (mS I x) 4096 v z) ∧ (¬ (0 ≤ x ∧ x < 8) → z = -2) ∧ ((0 ≤ x ∧ x < 8) → ¬ (0 ≤ v ∧ v ≤ 4096) → z = -3) ∧ r = iI z) ∧ w2 = w)) args s 0 0 (hm_A w s.heap.size)) w 26 [(3, .int (iI (j))), (0, .ref (q)), (1, .int (iI (x))), (2, .int (iI (v)))] [] := by
        intro k
        induction k with
        | zero =>
          intro j hk g0 g1 hz
          exact absurd hk (by omega)
        | succ k ih =>
          intro j hk g0 g1 hz
          refine hv_iload_n E dX7_next_26 rfl 0 rfl rfl ?_
          refine hv_sipush E dX7_next_27 (by decide +kernel) rfl ?_
          refine hv_icmp_ge E 48 dX7_next_30 (by decide) ⟨by omega, by omega⟩ ⟨by omega, by omega⟩ rfl (fun c3 => ?_) (fun c3 => ?_)
          · skip
            refine hv_iload_n E dX7_next_48 rfl 0 rfl rfl ?_
            refine hv_sipush E dX7_next_49 (by decide +kernel) rfl ?_
            refine hv_icmp_ge E 59 dX7_next_52 (by decide) ⟨by omega, by omega⟩ ⟨by omega, by omega⟩ rfl (fun c4 => ?_) (fun c4 => ?_)
            · skip
              refine hv_iconst E dX7_next_59 rfl ?_
              exact hv_iret E dX7_next_60 hr ⟨⟨-1, fun _ _ => Or.inl ⟨rfl, fun u a b => hz u a (by omega)⟩, fun h => absurd hX h, fun _ h => absurd hV h, rfl⟩, rfl⟩
            · skip
              refine hv_iload_n E dX7_next_55 rfl 0 rfl rfl ?_
              refine hv_goto E 60 dX7_next_56 (by decide) ?_
              exact hv_iret E dX7_next_60 hr ⟨⟨j, fun _ _ => Or.inr ⟨g0, by omega, by omega, (by first | assumption | (exfalso; omega)), hz⟩, fun h => absurd hX h, fun _ h => absurd hV h, rfl⟩, rfl⟩
          · skip
            refine hv_aload_n E dX7_next_33 rfl 1 rfl rfl ?_
            refine hv_iload_n E dX7_next_34 rfl 2 rfl rfl ?_
            refine hv_iload_n E dX7_next_35 rfl 0 rfl rfl ?_
            refine hv_callVI (na := 2) (As := [.int (iI (x)), .int (iI (j))]) (st := []) E (c7_is l D K x j (by omega) (by omega) (by omega) (by omega) hm) dX7_next_36 hm.1 (show vwCl[6]? = some (RX7, TX7, 7) from rfl) gL_X7_28 gV_X7_is gI_X7_is gC_X7_is gZ_X7 (by decide +kernel) rfl ⟨Nat.le_of_ble_eq_true rfl, Nat.le_of_ble_eq_true rfl⟩ (Nat.le_of_ble_eq_true rfl) ⟨Nat.zero_le _, Nat.zero_le _⟩ rfl rfl (fun r w2 hp => ?_)
            rw [hp.1, hp.2]
            show hm_V p l e (hm_rm 2 0 0) s m args below meth c D (hm_A w s.heap.size) 4 0 0 (MQ below (hm_Qi D w s.heap.size (fun r w2 => (∃ z : Int, ((0 ≤ x ∧ x < 8) → (0 ≤ v ∧ v ≤ 4096) → isNext (mS I x) 4096 v z) ∧ (¬ (0 ≤ x ∧ x < 8) → z = -2) ∧ ((0 ≤ x ∧ x < 8) → ¬ (0 ≤ v ∧ v ≤ 4096) → z = -3) ∧ r = iI z) ∧ w2 = w)) args s 0 0 (hm_A w s.heap.size)) w 39 [(3, .int (iI (j))), (0, .ref (q)), (1, .int (iI (x))), (2, .int (iI (v)))] [.int (bI (mS I x (j).toNat))]
            refine hv_if_neB E 48 dX7_next_39 (by decide) rfl (fun c5 => ?_) (fun c5 => ?_)
            · refine hv_iload_n E dX7_next_48 rfl 0 rfl rfl ?_
              refine hv_sipush E dX7_next_49 (by decide +kernel) rfl ?_
              refine hv_icmp_ge E 59 dX7_next_52 (by decide) ⟨by omega, by omega⟩ ⟨by omega, by omega⟩ rfl (fun c6 => ?_) (fun c6 => ?_)
              · skip
                refine hv_iconst E dX7_next_59 rfl ?_
                exact hv_iret E dX7_next_60 hr ⟨⟨-1, fun _ _ => Or.inl ⟨rfl, fun u a b => hz u a (by omega)⟩, fun h => absurd hX h, fun _ h => absurd hV h, rfl⟩, rfl⟩
              · skip
                refine hv_iload_n E dX7_next_55 rfl 0 rfl rfl ?_
                refine hv_goto E 60 dX7_next_56 (by decide) ?_
                exact hv_iret E dX7_next_60 hr ⟨⟨j, fun _ _ => Or.inr ⟨g0, by omega, by omega, (by first | assumption | (exfalso; omega)), hz⟩, fun h => absurd hX h, fun _ h => absurd hV h, rfl⟩, rfl⟩
            · refine hv_iinc (lv2 := [(3, .int (iI (j + 1))), (0, .ref (q)), (1, .int (iI (x))), (2, .int (iI (v)))]) E dX7_next_42 0 rfl rfl (by decide) rfl rfl ?_
              refine hv_goto E 26 dX7_next_45 (by decide) ?_
              refine hv_sub (lv2 := [(3, .int (iI (j + 1))), (0, .ref (q)), (1, .int (iI (x))), (2, .int (iI (v)))]) [0, 1, 2, 3] rfl ?_
              exact ih (j + 1) (by omega) (by omega) (by omega) (fun u a b => by
                      rcases (show (u : Int) < j ∨ u = j.toNat by omega) with z | z
                      · exact hz u a z
                      · rw [z]; assumption)
      refine hv_sub (lv2 := [(3, .int (iI (v))), (0, .ref (q)), (1, .int (iI (x))), (2, .int (iI (v)))]) [0, 1, 2, 3] rfl ?_
      exact LP 4097 v (by omega) (by omega) (by omega) (fun u a b => by omega)
    · have c2 := of_decide_eq_false c2
      refine hv_bipush E dX7_next_21 (by decide +kernel) rfl ?_
      exact hv_iret E dX7_next_23 hr ⟨⟨-3, fun _ h => absurd h (by omega), fun h => absurd (show 0 ≤ x ∧ x < 8 by omega) h, fun _ _ => rfl, rfl⟩, rfl⟩
  · have c1 := of_decide_eq_false c1
    refine hv_bipush E dX7_next_7 (by decide +kernel) rfl ?_
    exact hv_iret E dX7_next_9 hr ⟨⟨-2, fun h => absurd h (by omega), fun _ => rfl, fun h => absurd h (by omega), rfl⟩, rfl⟩
/-- z is the greatest of S below v, or -1 -/
def isBefore (S : Nat → Bool) (v z : Int) : Prop := (z = -1 ∧ ∀ u : Nat, (u : Int) < v → S u = false) ∨ (0 ≤ z ∧ z < v ∧ S z.toNat = true ∧ ∀ u : Nat, z < (u : Int) → (u : Int) < v → S u = false)
set_option maxHeartbeats 4000000 in
set_option maxRecDepth 100000 in
theorem c7_before (l : Launch) (D : va_G) (K : Nat → ClassId) {w : hm_M} {q ia : Nat} {fs : List Value} {I : Nat → Bool} (x v : Int) (hx : iB x) (hv : iB v) (hm : mI K w q ia fs I)  : hm_Ci l D K yX7_before cX7_before 4 .int 2 [.ref (q), .int (iI (x)), .int (iI (v))] w 0 0 (fun r w2 => (∃ z : Int, ((0 ≤ x ∧ x < 8) → (0 ≤ v ∧ v ≤ 4096) → isBefore (mS I x) v z) ∧ (¬ (0 ≤ x ∧ x < 8) → z = -2) ∧ ((0 ≤ x ∧ x < 8) → ¬ (0 ≤ v ∧ v ≤ 4096) → z = -3) ∧ r = iI z) ∧ w2 = w) := by
  refine hm_enterI (by decide) (Nat.le_of_ble_eq_true rfl) ?_
  intro p e s m args below meth c E hr hnm
  show hm_V p l e (hm_rm 2 0 0) s m args below meth c D (hm_A w s.heap.size) 4 0 0 (MQ below (hm_Qi D w s.heap.size (fun r w2 => (∃ z : Int, ((0 ≤ x ∧ x < 8) → (0 ≤ v ∧ v ≤ 4096) → isBefore (mS I x) v z) ∧ (¬ (0 ≤ x ∧ x < 8) → z = -2) ∧ ((0 ≤ x ∧ x < 8) → ¬ (0 ≤ v ∧ v ≤ 4096) → z = -3) ∧ r = iI z) ∧ w2 = w)) args s 0 0 (hm_A w s.heap.size)) w 0 [(0, .ref (q)), (1, .int (iI (x))), (2, .int (iI (v)))] []
  refine hv_iload_n E dX7_before_0 rfl 1 rfl rfl ?_
  refine hv_callSI (na := 1) (As := [.int (iI (x))]) (st := []) E (c7_isSet l D K x hx) dX7_before_1 gL_X7_21 gS_X7_isSet gC_X7_isSet gZ_X7 (by decide +kernel) rfl ⟨Nat.le_of_ble_eq_true rfl, Nat.le_of_ble_eq_true rfl⟩ (Nat.le_of_ble_eq_true rfl) ⟨Nat.zero_le _, Nat.zero_le _⟩ rfl rfl (fun r w2 hp => ?_)
  rw [hp.1, hp.2]
  show hm_V p l e (hm_rm 2 0 0) s m args below meth c D (hm_A w s.heap.size) 4 0 0 (MQ below (hm_Qi D w s.heap.size (fun r w2 => (∃ z : Int, ((0 ≤ x ∧ x < 8) → (0 ≤ v ∧ v ≤ 4096) → isBefore (mS I x) v z) ∧ (¬ (0 ≤ x ∧ x < 8) → z = -2) ∧ ((0 ≤ x ∧ x < 8) → ¬ (0 ≤ v ∧ v ≤ 4096) → z = -3) ∧ r = iI z) ∧ w2 = w)) args s 0 0 (hm_A w s.heap.size)) w 4 [(0, .ref (q)), (1, .int (iI (x))), (2, .int (iI (v)))] [.int (bI (decide (0 ≤ x ∧ x ≤ 7)))]
  refine hv_if_neB E 10 dX7_before_4 (by decide) rfl (fun c1 => ?_) (fun c1 => ?_)
  · have c1 := of_decide_eq_true c1
    refine hv_iload_n E dX7_before_10 rfl 2 rfl rfl ?_
    refine hv_iconst E dX7_before_11 rfl ?_
    refine hv_sipush E dX7_before_12 (by decide +kernel) rfl ?_
    refine hv_callSI (na := 3) (As := [.int (iI (v)), .int (iI (0)), .int (iI (4096))]) (st := []) E (c7_within l D K v 0 4096 hv ⟨by omega, by omega⟩ ⟨by omega, by omega⟩) dX7_before_15 gL_X7_17 gS_X7_within gC_X7_within gZ_X7 (by decide +kernel) rfl ⟨Nat.le_of_ble_eq_true rfl, Nat.le_of_ble_eq_true rfl⟩ (Nat.le_of_ble_eq_true rfl) ⟨Nat.zero_le _, Nat.zero_le _⟩ rfl rfl (fun r w2 hp => ?_)
    rw [hp.1, hp.2]
    show hm_V p l e (hm_rm 2 0 0) s m args below meth c D (hm_A w s.heap.size) 4 0 0 (MQ below (hm_Qi D w s.heap.size (fun r w2 => (∃ z : Int, ((0 ≤ x ∧ x < 8) → (0 ≤ v ∧ v ≤ 4096) → isBefore (mS I x) v z) ∧ (¬ (0 ≤ x ∧ x < 8) → z = -2) ∧ ((0 ≤ x ∧ x < 8) → ¬ (0 ≤ v ∧ v ≤ 4096) → z = -3) ∧ r = iI z) ∧ w2 = w)) args s 0 0 (hm_A w s.heap.size)) w 18 [(0, .ref (q)), (1, .int (iI (x))), (2, .int (iI (v)))] [.int (bI (decide (0 ≤ v ∧ v ≤ 4096)))]
    refine hv_if_neB E 24 dX7_before_18 (by decide) rfl (fun c2 => ?_) (fun c2 => ?_)
    · have c2 := of_decide_eq_true c2
      refine hv_iload_n E dX7_before_24 rfl 2 rfl rfl ?_
      refine hv_iconst E dX7_before_25 rfl ?_
      refine hv_isub E dX7_before_26 rfl ?_
      refine hv_istore_n (lv2 := [(3, .int (iI (v - 1))), (0, .ref (q)), (1, .int (iI (x))), (2, .int (iI (v)))]) E dX7_before_27 rfl (by decide) rfl rfl ?_
      have hX : 0 ≤ x ∧ x < 8 := by omega
      have hV : 0 ≤ v ∧ v ≤ 4096 := by omega
      have LP : ∀ (k : Nat) (j : Int), (j + 1 < (k : Int)) → (-1 ≤ j) → (j < v) → (∀ u : Nat, j < (u : Int) → (u : Int) < v → mS I x u = false) → hm_V p l e (hm_rm 2 0 0) s m args below meth c D (hm_A w s.heap.size) 4 0 0 (MQ below (hm_Qi D w s.heap.size (fun r w2 => (∃ z : Int, ((0 ≤ x ∧ x < 8) → (0 ≤ v ∧ v ≤ 4096) → isBefore (mS I x) v z) ∧ (¬ (0 ≤ x ∧ x < 8) → z = -2) ∧ ((0 ≤ x ∧ x < 8) → ¬ (0 ≤ v ∧ v ≤ 4096) → z = -3) ∧ r = iI z) ∧ w2 = w)) args s 0 0 (hm_A w s.heap.size)) w 28 [(3, .int (iI (j))), (0, .ref (q)), (1, .int (iI (x))), (2, .int (iI (v)))] [] := by
        intro k
        induction k with
        | zero =>
          intro j hk g0 g1 hz
          exact absurd hk (by omega)
        | succ k ih =>
          intro j hk g0 g1 hz
          refine hv_iload_n E dX7_before_28 rfl 0 rfl rfl ?_
          refine hv_if_lt E 47 dX7_before_29 (by decide) ⟨by omega, by omega⟩ rfl (fun d1 => ?_) (fun d1 => ?_)
          · refine hv_iload_n E dX7_before_47 rfl 0 rfl rfl ?_
            exact hv_iret E dX7_before_48 hr ⟨⟨j, fun _ _ => Or.inl ⟨by omega, fun u b => hz u (by omega) b⟩, fun h => absurd hX h, fun _ h => absurd hV h, rfl⟩, rfl⟩
          · refine hv_aload_n E dX7_before_32 rfl 1 rfl rfl ?_
            refine hv_iload_n E dX7_before_33 rfl 2 rfl rfl ?_
            refine hv_iload_n E dX7_before_34 rfl 0 rfl rfl ?_
            refine hv_callVI (na := 2) (As := [.int (iI (x)), .int (iI (j))]) (st := []) E (c7_is l D K x j (by omega) (by omega) (by omega) (by omega) hm) dX7_before_35 hm.1 (show vwCl[6]? = some (RX7, TX7, 7) from rfl) gL_X7_28 gV_X7_is gI_X7_is gC_X7_is gZ_X7 (by decide +kernel) rfl ⟨Nat.le_of_ble_eq_true rfl, Nat.le_of_ble_eq_true rfl⟩ (Nat.le_of_ble_eq_true rfl) ⟨Nat.zero_le _, Nat.zero_le _⟩ rfl rfl (fun r w2 hp => ?_)
            rw [hp.1, hp.2]
            show hm_V p l e (hm_rm 2 0 0) s m args below meth c D (hm_A w s.heap.size) 4 0 0 (MQ below (hm_Qi D w s.heap.size (fun r w2 => (∃ z : Int, ((0 ≤ x ∧ x < 8) → (0 ≤ v ∧ v ≤ 4096) → isBefore (mS I x) v z) ∧ (¬ (0 ≤ x ∧ x < 8) → z = -2) ∧ ((0 ≤ x ∧ x < 8) → ¬ (0 ≤ v ∧ v ≤ 4096) → z = -3) ∧ r = iI z) ∧ w2 = w)) args s 0 0 (hm_A w s.heap.size)) w 38 [(3, .int (iI (j))), (0, .ref (q)), (1, .int (iI (x))), (2, .int (iI (v)))] [.int (bI (mS I x (j).toNat))]
            refine hv_if_neB E 47 dX7_before_38 (by decide) rfl (fun c3 => ?_) (fun c3 => ?_)
            · refine hv_iload_n E dX7_before_47 rfl 0 rfl rfl ?_
              exact hv_iret E dX7_before_48 hr ⟨⟨j, fun _ _ => Or.inr ⟨by omega, g1, by assumption, hz⟩, fun h => absurd hX h, fun _ h => absurd hV h, rfl⟩, rfl⟩
            · refine hv_iinc (lv2 := [(3, .int (iI (j + (-1)))), (0, .ref (q)), (1, .int (iI (x))), (2, .int (iI (v)))]) E dX7_before_41 0 rfl rfl (by decide) rfl rfl ?_
              refine hv_goto E 28 dX7_before_44 (by decide) ?_
              refine hv_sub (lv2 := [(3, .int (iI (j + (-1)))), (0, .ref (q)), (1, .int (iI (x))), (2, .int (iI (v)))]) [0, 1, 2, 3] rfl ?_
              exact ih (j + -1) (by omega) (by omega) (by omega) (fun u a b => by
                      rcases (show j < (u : Int) ∨ u = j.toNat by omega) with z | z
                      · exact hz u z b
                      · rw [z]; assumption)
      refine hv_sub (lv2 := [(3, .int (iI (v - 1))), (0, .ref (q)), (1, .int (iI (x))), (2, .int (iI (v)))]) [0, 1, 2, 3] rfl ?_
      exact LP 4097 (v - 1) (by omega) (by omega) (by omega) (fun u a b => by omega)
    · have c2 := of_decide_eq_false c2
      refine hv_bipush E dX7_before_21 (by decide +kernel) rfl ?_
      exact hv_iret E dX7_before_23 hr ⟨⟨-3, fun _ h => absurd h (by omega), fun h => absurd (show 0 ≤ x ∧ x < 8 by omega) h, fun _ _ => rfl, rfl⟩, rfl⟩
  · have c1 := of_decide_eq_false c1
    refine hv_bipush E dX7_before_7 (by decide +kernel) rfl ?_
    exact hv_iret E dX7_before_9 hr ⟨⟨-2, fun h => absurd h (by omega), fun _ => rfl, fun h => absurd h (by omega), rfl⟩, rfl⟩
set_option maxHeartbeats 4000000 in
set_option maxRecDepth 100000 in
theorem c7_common (l : Launch) (D : va_G) (K : Nat → ClassId) {w : hm_M} {q ia : Nat} {fs : List Value} {I : Nat → Bool} (x y : Int) (hx : iB x) (hy : iB y) (hm : mI K w q ia fs I)  : hm_Ci l D K yX7_common cX7_common 5 .int 2 [.ref (q), .int (iI (x)), .int (iI (y))] w 0 0 (fun r w2 => r = iI (if (0 ≤ x ∧ x < 8) ∧ 0 ≤ y ∧ y < 8 then (ct (fun v => mS I x v && mS I y v) 0 4096 : Nat) else -2) ∧ w2 = w) := by
  refine hm_enterI (by decide) (Nat.le_of_ble_eq_true rfl) ?_
  intro p e s m args below meth c E hr hnm
  show hm_V p l e (hm_rm 2 0 0) s m args below meth c D (hm_A w s.heap.size) 5 0 0 (MQ below (hm_Qi D w s.heap.size (fun r w2 => r = iI (if (0 ≤ x ∧ x < 8) ∧ 0 ≤ y ∧ y < 8 then (ct (fun v => mS I x v && mS I y v) 0 4096 : Nat) else -2) ∧ w2 = w)) args s 0 0 (hm_A w s.heap.size)) w 0 [(0, .ref (q)), (1, .int (iI (x))), (2, .int (iI (y)))] []
  refine hv_iload_n E dX7_common_0 rfl 1 rfl rfl ?_
  refine hv_callSI (na := 1) (As := [.int (iI (x))]) (st := []) E (c7_isSet l D K x hx) dX7_common_1 gL_X7_21 gS_X7_isSet gC_X7_isSet gZ_X7 (by decide +kernel) rfl ⟨Nat.le_of_ble_eq_true rfl, Nat.le_of_ble_eq_true rfl⟩ (Nat.le_of_ble_eq_true rfl) ⟨Nat.zero_le _, Nat.zero_le _⟩ rfl rfl (fun r w2 hp => ?_)
  rw [hp.1, hp.2]
  show hm_V p l e (hm_rm 2 0 0) s m args below meth c D (hm_A w s.heap.size) 5 0 0 (MQ below (hm_Qi D w s.heap.size (fun r w2 => r = iI (if (0 ≤ x ∧ x < 8) ∧ 0 ≤ y ∧ y < 8 then (ct (fun v => mS I x v && mS I y v) 0 4096 : Nat) else -2) ∧ w2 = w)) args s 0 0 (hm_A w s.heap.size)) w 4 [(0, .ref (q)), (1, .int (iI (x))), (2, .int (iI (y)))] [.int (bI (decide (0 ≤ x ∧ x ≤ 7)))]
  refine hv_if_eqB E 14 dX7_common_4 (by decide) rfl (fun c1 => ?_) (fun c1 => ?_)
  · have c1 := of_decide_eq_false c1
    refine hv_bipush E dX7_common_14 (by decide +kernel) rfl ?_
    exact hv_iret E dX7_common_16 hr ⟨(by (repeat (first | rw [if_pos (by omega)] | rw [if_neg (by omega)])) <;> first | done | rfl), rfl⟩
  · have c1 := of_decide_eq_true c1
    refine hv_iload_n E dX7_common_7 rfl 2 rfl rfl ?_
    refine hv_callSI (na := 1) (As := [.int (iI (y))]) (st := []) E (c7_isSet l D K y hy) dX7_common_8 gL_X7_21 gS_X7_isSet gC_X7_isSet gZ_X7 (by decide +kernel) rfl ⟨Nat.le_of_ble_eq_true rfl, Nat.le_of_ble_eq_true rfl⟩ (Nat.le_of_ble_eq_true rfl) ⟨Nat.zero_le _, Nat.zero_le _⟩ rfl rfl (fun r w2 hp => ?_)
    rw [hp.1, hp.2]
    show hm_V p l e (hm_rm 2 0 0) s m args below meth c D (hm_A w s.heap.size) 5 0 0 (MQ below (hm_Qi D w s.heap.size (fun r w2 => r = iI (if (0 ≤ x ∧ x < 8) ∧ 0 ≤ y ∧ y < 8 then (ct (fun v => mS I x v && mS I y v) 0 4096 : Nat) else -2) ∧ w2 = w)) args s 0 0 (hm_A w s.heap.size)) w 11 [(0, .ref (q)), (1, .int (iI (x))), (2, .int (iI (y)))] [.int (bI (decide (0 ≤ y ∧ y ≤ 7)))]
    refine hv_if_neB E 17 dX7_common_11 (by decide) rfl (fun c2 => ?_) (fun c2 => ?_)
    · have c2 := of_decide_eq_true c2
      refine hv_iconst E dX7_common_17 rfl ?_
      refine hv_istore_n (lv2 := [(3, .int (iI (0))), (0, .ref (q)), (1, .int (iI (x))), (2, .int (iI (y)))]) E dX7_common_18 rfl (by decide) rfl rfl ?_
      refine hv_iconst E dX7_common_19 rfl ?_
      refine hv_istore (lv2 := [(4, .int (iI (0))), (3, .int (iI (0))), (0, .ref (q)), (1, .int (iI (x))), (2, .int (iI (y)))]) E dX7_common_20 (by decide) rfl rfl ?_
      have hX : 0 ≤ x ∧ x < 8 := by omega
      have hY : 0 ≤ y ∧ y < 8 := by omega
      have LP : ∀ (k : Nat) (j sm : Int), (4096 - j < (k : Int)) → (0 ≤ j) → (j ≤ 4096) → (sm = (ct (fun v => mS I x v && mS I y v) 0 j.toNat : Nat)) → hm_V p l e (hm_rm 2 0 0) s m args below meth c D (hm_A w s.heap.size) 5 0 0 (MQ below (hm_Qi D w s.heap.size (fun r w2 => r = iI (if (0 ≤ x ∧ x < 8) ∧ 0 ≤ y ∧ y < 8 then (ct (fun v => mS I x v && mS I y v) 0 4096 : Nat) else -2) ∧ w2 = w)) args s 0 0 (hm_A w s.heap.size)) w 22 [(4, .int (iI (j))), (3, .int (iI (sm))), (0, .ref (q)), (1, .int (iI (x))), (2, .int (iI (y)))] [] := by
        intro k
        induction k with
        | zero =>
          intro j sm hk g0 g1 hs
          exact absurd hk (by omega)
        | succ k ih =>
          intro j sm hk g0 g1 hs
          refine hv_iload E dX7_common_22 0 rfl rfl ?_
          refine hv_sipush E dX7_common_24 (by decide +kernel) rfl ?_
          refine hv_icmp_ge E 64 dX7_common_27 (by decide) ⟨by omega, by omega⟩ ⟨by omega, by omega⟩ rfl (fun c3 => ?_) (fun c3 => ?_)
          · skip
            refine hv_iload_n E dX7_common_64 rfl 1 rfl rfl ?_
            exact hv_iret E dX7_common_65 hr ⟨by rw [if_pos (by omega), hs, show j.toNat = 4096 by omega], rfl⟩
          · skip
            refine hv_iload_n E dX7_common_30 rfl 1 rfl rfl ?_
            refine hv_aload_n E dX7_common_31 rfl 2 rfl rfl ?_
            refine hv_iload_n E dX7_common_32 rfl 3 rfl rfl ?_
            refine hv_iload E dX7_common_33 0 rfl rfl ?_
            refine hv_callVI (na := 2) (As := [.int (iI (x)), .int (iI (j))]) (st := [.int (iI (sm))]) E (c7_is l D K x j (by omega) (by omega) (by omega) (by omega) hm) dX7_common_35 hm.1 (show vwCl[6]? = some (RX7, TX7, 7) from rfl) gL_X7_28 gV_X7_is gI_X7_is gC_X7_is gZ_X7 (by decide +kernel) rfl ⟨Nat.le_of_ble_eq_true rfl, Nat.le_of_ble_eq_true rfl⟩ (Nat.le_of_ble_eq_true rfl) ⟨Nat.zero_le _, Nat.zero_le _⟩ rfl rfl (fun r w2 hp => ?_)
            rw [hp.1, hp.2]
            show hm_V p l e (hm_rm 2 0 0) s m args below meth c D (hm_A w s.heap.size) 5 0 0 (MQ below (hm_Qi D w s.heap.size (fun r w2 => r = iI (if (0 ≤ x ∧ x < 8) ∧ 0 ≤ y ∧ y < 8 then (ct (fun v => mS I x v && mS I y v) 0 4096 : Nat) else -2) ∧ w2 = w)) args s 0 0 (hm_A w s.heap.size)) w 38 [(4, .int (iI (j))), (3, .int (iI (sm))), (0, .ref (q)), (1, .int (iI (x))), (2, .int (iI (y)))] [.int (bI (mS I x (j).toNat)), .int (iI (sm))]
            refine hv_if_eqB E 55 dX7_common_38 (by decide) rfl (fun c4 => ?_) (fun c4 => ?_)
            · refine hv_iconst E dX7_common_55 rfl ?_
              refine hv_iadd E dX7_common_56 rfl ?_
              refine hv_istore_n (lv2 := [(3, .int (iI (sm + 0))), (4, .int (iI (j))), (0, .ref (q)), (1, .int (iI (x))), (2, .int (iI (y)))]) E dX7_common_57 rfl (by decide) rfl rfl ?_
              refine hv_iinc (lv2 := [(4, .int (iI (j + 1))), (3, .int (iI (sm + 0))), (0, .ref (q)), (1, .int (iI (x))), (2, .int (iI (y)))]) E dX7_common_58 1 rfl rfl (by decide) rfl rfl ?_
              refine hv_goto E 22 dX7_common_61 (by decide) ?_
              refine hv_sub (lv2 := [(4, .int (iI (j + 1))), (3, .int (iI (sm + 0))), (0, .ref (q)), (1, .int (iI (x))), (2, .int (iI (y)))]) [0, 1, 2, 3, 4] rfl ?_
              exact ih (j + 1) _ (by omega) (by omega) (by omega) (by
                      rw [show (j + 1).toNat = j.toNat + 1 by omega, ct_succ, Nat.zero_add, hs]
                      simp [*])
            · refine hv_aload_n E dX7_common_41 rfl 2 rfl rfl ?_
              refine hv_iload_n E dX7_common_42 rfl 4 rfl rfl ?_
              refine hv_iload E dX7_common_43 0 rfl rfl ?_
              refine hv_callVI (na := 2) (As := [.int (iI (y)), .int (iI (j))]) (st := [.int (iI (sm))]) E (c7_is l D K y j (by omega) (by omega) (by omega) (by omega) hm) dX7_common_45 hm.1 (show vwCl[6]? = some (RX7, TX7, 7) from rfl) gL_X7_28 gV_X7_is gI_X7_is gC_X7_is gZ_X7 (by decide +kernel) rfl ⟨Nat.le_of_ble_eq_true rfl, Nat.le_of_ble_eq_true rfl⟩ (Nat.le_of_ble_eq_true rfl) ⟨Nat.zero_le _, Nat.zero_le _⟩ rfl rfl (fun r w2 hp => ?_)
              rw [hp.1, hp.2]
              show hm_V p l e (hm_rm 2 0 0) s m args below meth c D (hm_A w s.heap.size) 5 0 0 (MQ below (hm_Qi D w s.heap.size (fun r w2 => r = iI (if (0 ≤ x ∧ x < 8) ∧ 0 ≤ y ∧ y < 8 then (ct (fun v => mS I x v && mS I y v) 0 4096 : Nat) else -2) ∧ w2 = w)) args s 0 0 (hm_A w s.heap.size)) w 48 [(4, .int (iI (j))), (3, .int (iI (sm))), (0, .ref (q)), (1, .int (iI (x))), (2, .int (iI (y)))] [.int (bI (mS I y (j).toNat)), .int (iI (sm))]
              refine hv_if_eqB E 55 dX7_common_48 (by decide) rfl (fun c5 => ?_) (fun c5 => ?_)
              · refine hv_iconst E dX7_common_55 rfl ?_
                refine hv_iadd E dX7_common_56 rfl ?_
                refine hv_istore_n (lv2 := [(3, .int (iI (sm + 0))), (4, .int (iI (j))), (0, .ref (q)), (1, .int (iI (x))), (2, .int (iI (y)))]) E dX7_common_57 rfl (by decide) rfl rfl ?_
                refine hv_iinc (lv2 := [(4, .int (iI (j + 1))), (3, .int (iI (sm + 0))), (0, .ref (q)), (1, .int (iI (x))), (2, .int (iI (y)))]) E dX7_common_58 1 rfl rfl (by decide) rfl rfl ?_
                refine hv_goto E 22 dX7_common_61 (by decide) ?_
                refine hv_sub (lv2 := [(4, .int (iI (j + 1))), (3, .int (iI (sm + 0))), (0, .ref (q)), (1, .int (iI (x))), (2, .int (iI (y)))]) [0, 1, 2, 3, 4] rfl ?_
                exact ih (j + 1) _ (by omega) (by omega) (by omega) (by
                        rw [show (j + 1).toNat = j.toNat + 1 by omega, ct_succ, Nat.zero_add, hs]
                        simp [*])
              · refine hv_iconst E dX7_common_51 rfl ?_
                refine hv_goto E 56 dX7_common_52 (by decide) ?_
                refine hv_iadd E dX7_common_56 rfl ?_
                refine hv_istore_n (lv2 := [(3, .int (iI (sm + 1))), (4, .int (iI (j))), (0, .ref (q)), (1, .int (iI (x))), (2, .int (iI (y)))]) E dX7_common_57 rfl (by decide) rfl rfl ?_
                refine hv_iinc (lv2 := [(4, .int (iI (j + 1))), (3, .int (iI (sm + 1))), (0, .ref (q)), (1, .int (iI (x))), (2, .int (iI (y)))]) E dX7_common_58 1 rfl rfl (by decide) rfl rfl ?_
                refine hv_goto E 22 dX7_common_61 (by decide) ?_
                refine hv_sub (lv2 := [(4, .int (iI (j + 1))), (3, .int (iI (sm + 1))), (0, .ref (q)), (1, .int (iI (x))), (2, .int (iI (y)))]) [0, 1, 2, 3, 4] rfl ?_
                exact ih (j + 1) _ (by omega) (by omega) (by omega) (by
                        rw [show (j + 1).toNat = j.toNat + 1 by omega, ct_succ, Nat.zero_add, hs]
                        simp [*])
      refine hv_sub (lv2 := [(4, .int (iI (0))), (3, .int (iI (0))), (0, .ref (q)), (1, .int (iI (x))), (2, .int (iI (y)))]) [0, 1, 2, 3, 4] rfl ?_
      exact LP 4097 0 0 (by omega) (by omega) (by omega) rfl
    · have c2 := of_decide_eq_false c2
      refine hv_bipush E dX7_common_14 (by decide +kernel) rfl ?_
      exact hv_iret E dX7_common_16 hr ⟨(by (repeat (first | rw [if_pos (by omega)] | rw [if_neg (by omega)])) <;> first | done | rfl), rfl⟩
end
section
def jI (I : Nat → Bool) (n x y z : Int) (i : Nat) : Bool := if 4096 * x ≤ (i : Int) ∧ (i : Int) < 4096 * x + 4096 then jb n (mS I y (i - 4096 * x.toNat)) (mS I z (i - 4096 * x.toNat)) else I i
theorem jI_at {I : Nat → Bool} {n x y z : Int} (hx : 0 ≤ x) {v : Nat} (hv : v < 4096) : mS (jI I n x y z) x v = jb n (mS I y v) (mS I z v) := by
  show jI I n x y z (4096 * x.toNat + v) = _
  unfold jI
  rw [if_pos (by omega), show 4096 * x.toNat + v - 4096 * x.toNat = v by omega]
theorem iI_rem256 {v : Int} (h0 : 0 ≤ v) (h1 : v < 2147483648) : iI v - iI v / iI 256 * iI 256 = iI (v % 256) := by
  have h := pk_rem (a := v.toNat) (d := 256) (by omega) (by omega) (by omega)
  rw [← iI_nI, ← iI_nI, ← iI_nI, Int.toNat_of_nonneg h0] at h
  rw [show ((256 : Nat) : Int) = 256 from rfl] at h
  rw [h]
  congr 1
  omega
theorem pR_pos {S : Nat → Bool} {h : Int} (hn : 0 < pN S h) : 0 < pR S h := by
  unfold pN at hn
  obtain ⟨i, hi, hS⟩ := ct_pos_of (S := S) (a := 256 * h.toNat) (n := 256) (by omega)
  obtain ⟨k, hk, hl⟩ := pk_least (fun k => S (256 * h.toNat + k) = true) ⟨i, hS⟩
  have hki : k ≤ i := by
    rcases Nat.lt_or_ge i k with z | z
    · exact absurd hS (hl i z)
    · exact z
  have hb : bg S (256 * h.toNat) k = true := by
    unfold bg
    rw [hk, Bool.true_and]
    by_cases h0 : k = 0
    · subst h0; rfl
    · rw [show 256 * h.toNat + k - 1 = 256 * h.toNat + (k - 1) by omega, eq_false_of_ne_true (hl (k - 1) (by omega))]; simp
  have := ct_step (S := bg S (256 * h.toNat)) (a := 0) (n := k) (k := 256) (by omega) (by rw [Nat.zero_add]; exact hb)
  unfold pR
  omega
theorem pB_min (S : Nat → Bool) (h : Int) : pB S h = if 16 * pR S h < (if 8 * pN S h < 256 then 8 * pN S h else 256) then 16 * pR S h else (if 8 * pN S h < 256 then 8 * pN S h else 256) := by
  have h1 := pN_b S h
  have h2 := pR_b S h
  unfold pB pF pfm
  generalize pN S h = a at *
  generalize pR S h = b at *
  (repeat' split) <;> omega
theorem pF_mod (S : Nat → Bool) (h : Int) : (if pB S h = 0 then 3 else if pB S h = 8 * pN S h then 0 else if pB S h = 256 then 1 else 2) = if pF S h = -1 then 3 else pF S h := by
  have h1 := pN_b S h
  have h2 := pR_b S h
  have h3 := pR_pos (S := S) (h := h)
  unfold pB pF pfm
  generalize pN S h = a at *
  generalize pR S h = b at *
  (repeat' split) <;> omega
def cs (S : Nat → Bool) : Nat → Int
  | 0 => 0
  | k + 1 => cs S k + (if 0 < pN S (k : Int) then 16 + pB S (k : Int) else 0)
theorem pB_b (S : Nat → Bool) (h : Int) : 0 ≤ pB S h ∧ pB S h ≤ 256 := by
  have h1 := pN_b S h
  have h2 := pR_b S h
  rw [pB_min]
  (repeat' split) <;> omega
theorem cs_b (S : Nat → Bool) (k : Nat) : 0 ≤ cs S k ∧ cs S k ≤ 272 * k := by
  induction k with
  | zero => simp [cs]
  | succ k ih =>
    have := pB_b S (k : Int)
    simp only [cs]
    split <;> omega
set_option maxHeartbeats 4000000 in
set_option maxRecDepth 100000 in
theorem c7_numbersOf (l : Launch) (D : va_G) (K : Nat → ClassId) {w : hm_M} {q ia : Nat} {fs : List Value} {I : Nat → Bool} (x h : Int) (h0 : 0 ≤ x) (h1 : x ≤ 8) (h2 : 0 ≤ h) (h3 : h < 16) (hm : mI K w q ia fs I)  : hm_Ci l D K yX7_numbersOf cX7_numbersOf 3 .int 2 [.ref (q), .int (iI (x)), .int (iI (h))] w 0 0 (fun r w2 => r = iI (pN (mS I x) h) ∧ w2 = w) := by
  refine hm_enterI (by decide) (Nat.le_of_ble_eq_true rfl) ?_
  intro p e s m args below meth c E hr hnm
  show hm_V p l e (hm_rm 2 0 0) s m args below meth c D (hm_A w s.heap.size) 3 0 0 (MQ below (hm_Qi D w s.heap.size (fun r w2 => r = iI (pN (mS I x) h) ∧ w2 = w)) args s 0 0 (hm_A w s.heap.size)) w 0 [(0, .ref (q)), (1, .int (iI (x))), (2, .int (iI (h)))] []
  refine hv_aload_n E dX7_numbersOf_0 rfl 0 rfl rfl ?_
  refine hv_iload_n E dX7_numbersOf_1 rfl 1 rfl rfl ?_
  refine hv_sipush E dX7_numbersOf_2 (by decide +kernel) rfl ?_
  refine hv_iload_n E dX7_numbersOf_5 rfl 2 rfl rfl ?_
  refine hv_imul E dX7_numbersOf_6 rfl ?_
  refine hv_sipush E dX7_numbersOf_7 (by decide +kernel) rfl ?_
  refine hv_iload_n E dX7_numbersOf_10 rfl 2 rfl rfl ?_
  refine hv_imul E dX7_numbersOf_11 rfl ?_
  refine hv_sipush E dX7_numbersOf_12 (by decide +kernel) rfl ?_
  refine hv_iadd E dX7_numbersOf_15 rfl ?_
  refine hv_callVI (na := 3) (As := [.int (iI (x)), .int (iI (256 * h)), .int (iI ((256 * h) + 256))]) (st := []) E (c7_many l D K x (256 * h) ((256 * h) + 256) (by omega) (by omega) (by omega) (by omega) (by omega) hm) dX7_numbersOf_16 hm.1 (show vwCl[6]? = some (RX7, TX7, 7) from rfl) gL_X7_36 gV_X7_many gI_X7_many gC_X7_many gZ_X7 (by decide +kernel) rfl ⟨Nat.le_of_ble_eq_true rfl, Nat.le_of_ble_eq_true rfl⟩ (Nat.le_of_ble_eq_true rfl) ⟨Nat.zero_le _, Nat.zero_le _⟩ rfl rfl (fun r w2 hp => ?_)
  rw [hp.1, hp.2]
  show hm_V p l e (hm_rm 2 0 0) s m args below meth c D (hm_A w s.heap.size) 3 0 0 (MQ below (hm_Qi D w s.heap.size (fun r w2 => r = iI (pN (mS I x) h) ∧ w2 = w)) args s 0 0 (hm_A w s.heap.size)) w 19 [(0, .ref (q)), (1, .int (iI (x))), (2, .int (iI (h)))] [.int (iI ((ct (mS I x) (256 * h : Int).toNat (((256 * h) + 256) - (256 * h) : Int).toNat : Nat)))]
  exact hv_iret E dX7_numbersOf_19 hr ⟨by unfold pN; rw [show (256 * h).toNat = 256 * h.toNat by omega, show (256 * h + 256 - 256 * h).toNat = 256 by omega], rfl⟩
set_option maxHeartbeats 4000000 in
set_option maxRecDepth 100000 in
theorem c7_begins (l : Launch) (D : va_G) (K : Nat → ClassId) {w : hm_M} {q ia : Nat} {fs : List Value} {I : Nat → Bool} (x v : Int) (h0 : 0 ≤ x) (h1 : x ≤ 8) (h2 : 0 ≤ v) (h3 : v < 4096) (hm : mI K w q ia fs I)  : hm_Ci l D K yX7_begins cX7_begins 3 .boolean 1 [.ref (q), .int (iI (x)), .int (iI (v))] w 0 0 (fun r w2 => r = bI (mS I x v.toNat && (decide (v % 256 = 0) || !mS I x (v - 1).toNat)) ∧ w2 = w) := by
  refine hm_enterI (by decide) (Nat.le_of_ble_eq_true rfl) ?_
  intro p e s m args below meth c E hr hnm
  show hm_V p l e (hm_rm 1 0 0) s m args below meth c D (hm_A w s.heap.size) 3 0 0 (MQ below (hm_Qi D w s.heap.size (fun r w2 => r = bI (mS I x v.toNat && (decide (v % 256 = 0) || !mS I x (v - 1).toNat)) ∧ w2 = w)) args s 0 0 (hm_A w s.heap.size)) w 0 [(0, .ref (q)), (1, .int (iI (x))), (2, .int (iI (v)))] []
  refine hv_aload_n E dX7_begins_0 rfl 0 rfl rfl ?_
  refine hv_iload_n E dX7_begins_1 rfl 1 rfl rfl ?_
  refine hv_iload_n E dX7_begins_2 rfl 2 rfl rfl ?_
  refine hv_callVI (na := 2) (As := [.int (iI (x)), .int (iI (v))]) (st := []) E (c7_is l D K x v (by omega) (by omega) (by omega) (by omega) hm) dX7_begins_3 hm.1 (show vwCl[6]? = some (RX7, TX7, 7) from rfl) gL_X7_28 gV_X7_is gI_X7_is gC_X7_is gZ_X7 (by decide +kernel) rfl ⟨Nat.le_of_ble_eq_true rfl, Nat.le_of_ble_eq_true rfl⟩ (Nat.le_of_ble_eq_true rfl) ⟨Nat.zero_le _, Nat.zero_le _⟩ rfl rfl (fun r w2 hp => ?_)
  rw [hp.1, hp.2]
  show hm_V p l e (hm_rm 1 0 0) s m args below meth c D (hm_A w s.heap.size) 3 0 0 (MQ below (hm_Qi D w s.heap.size (fun r w2 => r = bI (mS I x v.toNat && (decide (v % 256 = 0) || !mS I x (v - 1).toNat)) ∧ w2 = w)) args s 0 0 (hm_A w s.heap.size)) w 6 [(0, .ref (q)), (1, .int (iI (x))), (2, .int (iI (v)))] [.int (bI (mS I x (v).toNat))]
  refine hv_if_eqB E 32 dX7_begins_6 (by decide) rfl (fun c1 => ?_) (fun c1 => ?_)
  · refine hv_iconst E dX7_begins_32 rfl ?_
    refine hv_topi (show iI (0) = bI (false) from rfl) ?_
    exact hv_zret E dX7_begins_33 hr ⟨by simp [c1], rfl⟩
  · refine hv_iload_n E dX7_begins_9 rfl 2 rfl rfl ?_
    refine hv_sipush E dX7_begins_10 (by decide +kernel) rfl ?_
    refine hv_iremR E dX7_begins_13 (by decide +kernel) rfl rfl ?_
    refine hv_topi (show (iI (v)) - (iI (v)) / (iI (256)) * (iI (256)) = iI (v % 256) from iI_rem256 h2 (by omega)) ?_
    refine hv_if_eq E 28 dX7_begins_14 (by decide) ⟨by omega, by omega⟩ rfl (fun c2 => ?_) (fun c2 => ?_)
    · skip
      refine hv_iconst E dX7_begins_28 rfl ?_
      refine hv_goto E 33 dX7_begins_29 (by decide) ?_
      refine hv_topi (show iI (1) = bI (true) from rfl) ?_
      exact hv_zret E dX7_begins_33 hr ⟨by simp [c1, c2], rfl⟩
    · skip
      refine hv_aload_n E dX7_begins_17 rfl 0 rfl rfl ?_
      refine hv_iload_n E dX7_begins_18 rfl 1 rfl rfl ?_
      refine hv_iload_n E dX7_begins_19 rfl 2 rfl rfl ?_
      refine hv_iconst E dX7_begins_20 rfl ?_
      refine hv_isub E dX7_begins_21 rfl ?_
      refine hv_callVI (na := 2) (As := [.int (iI (x)), .int (iI (v - 1))]) (st := []) E (c7_is l D K x (v - 1) (by omega) (by omega) (by omega) (by omega) hm) dX7_begins_22 hm.1 (show vwCl[6]? = some (RX7, TX7, 7) from rfl) gL_X7_28 gV_X7_is gI_X7_is gC_X7_is gZ_X7 (by decide +kernel) rfl ⟨Nat.le_of_ble_eq_true rfl, Nat.le_of_ble_eq_true rfl⟩ (Nat.le_of_ble_eq_true rfl) ⟨Nat.zero_le _, Nat.zero_le _⟩ rfl rfl (fun r w2 hp => ?_)
      rw [hp.1, hp.2]
      show hm_V p l e (hm_rm 1 0 0) s m args below meth c D (hm_A w s.heap.size) 3 0 0 (MQ below (hm_Qi D w s.heap.size (fun r w2 => r = bI (mS I x v.toNat && (decide (v % 256 = 0) || !mS I x (v - 1).toNat)) ∧ w2 = w)) args s 0 0 (hm_A w s.heap.size)) w 25 [(0, .ref (q)), (1, .int (iI (x))), (2, .int (iI (v)))] [.int (bI (mS I x (v - 1).toNat))]
      refine hv_if_neB E 32 dX7_begins_25 (by decide) rfl (fun c3 => ?_) (fun c3 => ?_)
      · refine hv_iconst E dX7_begins_32 rfl ?_
        refine hv_topi (show iI (0) = bI (false) from rfl) ?_
        exact hv_zret E dX7_begins_33 hr ⟨by rw [c1, decide_eq_false c2, c3]; rfl, rfl⟩
      · refine hv_iconst E dX7_begins_28 rfl ?_
        refine hv_goto E 33 dX7_begins_29 (by decide) ?_
        refine hv_topi (show iI (1) = bI (true) from rfl) ?_
        exact hv_zret E dX7_begins_33 hr ⟨by rw [c1, decide_eq_false c2, c3]; rfl, rfl⟩
set_option maxHeartbeats 4000000 in
set_option maxRecDepth 100000 in
theorem c7_runsOf (l : Launch) (D : va_G) (K : Nat → ClassId) {w : hm_M} {q ia : Nat} {fs : List Value} {I : Nat → Bool} (x h : Int) (h0 : 0 ≤ x) (h1 : x ≤ 8) (h2 : 0 ≤ h) (h3 : h < 16) (hm : mI K w q ia fs I)  : hm_Ci l D K yX7_runsOf cX7_runsOf 5 .int 2 [.ref (q), .int (iI (x)), .int (iI (h))] w 0 0 (fun r w2 => r = iI (pR (mS I x) h) ∧ w2 = w) := by
  refine hm_enterI (by decide) (Nat.le_of_ble_eq_true rfl) ?_
  intro p e s m args below meth c E hr hnm
  show hm_V p l e (hm_rm 2 0 0) s m args below meth c D (hm_A w s.heap.size) 5 0 0 (MQ below (hm_Qi D w s.heap.size (fun r w2 => r = iI (pR (mS I x) h) ∧ w2 = w)) args s 0 0 (hm_A w s.heap.size)) w 0 [(0, .ref (q)), (1, .int (iI (x))), (2, .int (iI (h)))] []
  refine hv_iconst E dX7_runsOf_0 rfl ?_
  refine hv_istore_n (lv2 := [(3, .int (iI (0))), (0, .ref (q)), (1, .int (iI (x))), (2, .int (iI (h)))]) E dX7_runsOf_1 rfl (by decide) rfl rfl ?_
  refine hv_sipush E dX7_runsOf_2 (by decide +kernel) rfl ?_
  refine hv_iload_n E dX7_runsOf_5 rfl 3 rfl rfl ?_
  refine hv_imul E dX7_runsOf_6 rfl ?_
  refine hv_istore (lv2 := [(4, .int (iI (256 * h))), (3, .int (iI (0))), (0, .ref (q)), (1, .int (iI (x))), (2, .int (iI (h)))]) E dX7_runsOf_7 (by decide) rfl rfl ?_
  have LP : ∀ (k : Nat) (j sm : Int), (256 * h + 256 - j < (k : Int)) → (256 * h ≤ j) → (j ≤ 256 * h + 256) → (sm = (ct (bg (mS I x) (256 * h.toNat)) 0 (j - 256 * h).toNat : Nat)) → hm_V p l e (hm_rm 2 0 0) s m args below meth c D (hm_A w s.heap.size) 5 0 0 (MQ below (hm_Qi D w s.heap.size (fun r w2 => r = iI (pR (mS I x) h) ∧ w2 = w)) args s 0 0 (hm_A w s.heap.size)) w 9 [(4, .int (iI (j))), (3, .int (iI (sm))), (0, .ref (q)), (1, .int (iI (x))), (2, .int (iI (h)))] [] := by
    intro k
    induction k with
    | zero =>
      intro j sm hk g0 g1 hs
      exact absurd hk (by omega)
    | succ k ih =>
      intro j sm hk g0 g1 hs
      refine hv_iload E dX7_runsOf_9 0 rfl rfl ?_
      refine hv_sipush E dX7_runsOf_11 (by decide +kernel) rfl ?_
      refine hv_iload_n E dX7_runsOf_14 rfl 4 rfl rfl ?_
      refine hv_imul E dX7_runsOf_15 rfl ?_
      refine hv_sipush E dX7_runsOf_16 (by decide +kernel) rfl ?_
      refine hv_iadd E dX7_runsOf_19 rfl ?_
      refine hv_icmp_ge E 47 dX7_runsOf_20 (by decide) ⟨by omega, by omega⟩ ⟨by omega, by omega⟩ rfl (fun c1 => ?_) (fun c1 => ?_)
      · skip
        refine hv_iload_n E dX7_runsOf_47 rfl 1 rfl rfl ?_
        exact hv_iret E dX7_runsOf_48 hr ⟨by unfold pR; rw [hs, show (j - 256 * h).toNat = 256 by omega], rfl⟩
      · skip
        refine hv_iload_n E dX7_runsOf_23 rfl 1 rfl rfl ?_
        refine hv_aload_n E dX7_runsOf_24 rfl 2 rfl rfl ?_
        refine hv_iload_n E dX7_runsOf_25 rfl 3 rfl rfl ?_
        refine hv_iload E dX7_runsOf_26 0 rfl rfl ?_
        refine hv_callVI (na := 2) (As := [.int (iI (x)), .int (iI (j))]) (st := [.int (iI (sm))]) E (c7_begins l D K x j (by omega) (by omega) (by omega) (by omega) hm) dX7_runsOf_28 hm.1 (show vwCl[6]? = some (RX7, TX7, 7) from rfl) gL_X7_44 gV_X7_begins gI_X7_begins gC_X7_begins gZ_X7 (by decide +kernel) rfl ⟨Nat.le_of_ble_eq_true rfl, Nat.le_of_ble_eq_true rfl⟩ (Nat.le_of_ble_eq_true rfl) ⟨Nat.zero_le _, Nat.zero_le _⟩ rfl rfl (fun r w2 hp => ?_)
        rw [hp.1, hp.2]
        show hm_V p l e (hm_rm 2 0 0) s m args below meth c D (hm_A w s.heap.size) 5 0 0 (MQ below (hm_Qi D w s.heap.size (fun r w2 => r = iI (pR (mS I x) h) ∧ w2 = w)) args s 0 0 (hm_A w s.heap.size)) w 31 [(4, .int (iI (j))), (3, .int (iI (sm))), (0, .ref (q)), (1, .int (iI (x))), (2, .int (iI (h)))] [.int (bI (mS I x (j).toNat && (decide (j % 256 = 0) || !mS I x (j - 1).toNat))), .int (iI (sm))]
        refine hv_if_eqB E 38 dX7_runsOf_31 (by decide) rfl (fun c2 => ?_) (fun c2 => ?_)
        · refine hv_iconst E dX7_runsOf_38 rfl ?_
          refine hv_iadd E dX7_runsOf_39 rfl ?_
          refine hv_istore_n (lv2 := [(3, .int (iI (sm + 0))), (4, .int (iI (j))), (0, .ref (q)), (1, .int (iI (x))), (2, .int (iI (h)))]) E dX7_runsOf_40 rfl (by decide) rfl rfl ?_
          refine hv_iinc (lv2 := [(4, .int (iI (j + 1))), (3, .int (iI (sm + 0))), (0, .ref (q)), (1, .int (iI (x))), (2, .int (iI (h)))]) E dX7_runsOf_41 1 rfl rfl (by decide) rfl rfl ?_
          refine hv_goto E 9 dX7_runsOf_44 (by decide) ?_
          refine hv_sub (lv2 := [(4, .int (iI (j + 1))), (3, .int (iI (sm + 0))), (0, .ref (q)), (1, .int (iI (x))), (2, .int (iI (h)))]) [0, 1, 2, 3, 4] rfl ?_
          exact ih (j + 1) _ (by omega) (by omega) (by omega) (by
            have hb : bg (mS I x) (256 * h.toNat) (0 + (j - 256 * h).toNat) = (mS I x j.toNat && (decide (j % 256 = 0) || !mS I x (j - 1).toNat)) := by
              unfold bg
              rw [Nat.zero_add, show 256 * h.toNat + (j - 256 * h).toNat = j.toNat by omega, show j.toNat - 1 = (j - 1).toNat by omega]
              congr 2
              congr 1
              apply propext; omega
            rw [show (j + 1 - 256 * h).toNat = (j - 256 * h).toNat + 1 by omega, ct_succ, hb, c2, hs]; rfl)
        · refine hv_iconst E dX7_runsOf_34 rfl ?_
          refine hv_goto E 39 dX7_runsOf_35 (by decide) ?_
          refine hv_iadd E dX7_runsOf_39 rfl ?_
          refine hv_istore_n (lv2 := [(3, .int (iI (sm + 1))), (4, .int (iI (j))), (0, .ref (q)), (1, .int (iI (x))), (2, .int (iI (h)))]) E dX7_runsOf_40 rfl (by decide) rfl rfl ?_
          refine hv_iinc (lv2 := [(4, .int (iI (j + 1))), (3, .int (iI (sm + 1))), (0, .ref (q)), (1, .int (iI (x))), (2, .int (iI (h)))]) E dX7_runsOf_41 1 rfl rfl (by decide) rfl rfl ?_
          refine hv_goto E 9 dX7_runsOf_44 (by decide) ?_
          refine hv_sub (lv2 := [(4, .int (iI (j + 1))), (3, .int (iI (sm + 1))), (0, .ref (q)), (1, .int (iI (x))), (2, .int (iI (h)))]) [0, 1, 2, 3, 4] rfl ?_
          exact ih (j + 1) _ (by omega) (by omega) (by omega) (by
            have hb : bg (mS I x) (256 * h.toNat) (0 + (j - 256 * h).toNat) = (mS I x j.toNat && (decide (j % 256 = 0) || !mS I x (j - 1).toNat)) := by
              unfold bg
              rw [Nat.zero_add, show 256 * h.toNat + (j - 256 * h).toNat = j.toNat by omega, show j.toNat - 1 = (j - 1).toNat by omega]
              congr 2
              congr 1
              apply propext; omega
            rw [show (j + 1 - 256 * h).toNat = (j - 256 * h).toNat + 1 by omega, ct_succ, hb, c2, hs]; rfl)
  refine hv_sub (lv2 := [(4, .int (iI (256 * h))), (3, .int (iI (0))), (0, .ref (q)), (1, .int (iI (x))), (2, .int (iI (h)))]) [0, 1, 2, 3, 4] rfl ?_
  exact LP 257 (256 * h) 0 (by omega) (by omega) (by omega) (by rw [show (256 * h - 256 * h).toNat = 0 by omega]; rfl)
set_option maxHeartbeats 4000000 in
set_option maxRecDepth 100000 in
theorem c7_bitsOf (l : Launch) (D : va_G) (K : Nat → ClassId) {w : hm_M} {q ia : Nat} {fs : List Value} {I : Nat → Bool} (x h : Int) (h0 : 0 ≤ x) (h1 : x ≤ 8) (h2 : 0 ≤ h) (h3 : h < 16) (hm : mI K w q ia fs I)  : hm_Ci l D K yX7_bitsOf cX7_bitsOf 6 .int 3 [.ref (q), .int (iI (x)), .int (iI (h))] w 0 0 (fun r w2 => r = iI (pB (mS I x) h) ∧ w2 = w) := by
  refine hm_enterI (by decide) (Nat.le_of_ble_eq_true rfl) ?_
  intro p e s m args below meth c E hr hnm
  show hm_V p l e (hm_rm 3 0 0) s m args below meth c D (hm_A w s.heap.size) 6 0 0 (MQ below (hm_Qi D w s.heap.size (fun r w2 => r = iI (pB (mS I x) h) ∧ w2 = w)) args s 0 0 (hm_A w s.heap.size)) w 0 [(0, .ref (q)), (1, .int (iI (x))), (2, .int (iI (h)))] []
  refine hv_bipush E dX7_bitsOf_0 (by decide +kernel) rfl ?_
  refine hv_aload_n E dX7_bitsOf_2 rfl 0 rfl rfl ?_
  refine hv_iload_n E dX7_bitsOf_3 rfl 1 rfl rfl ?_
  refine hv_iload_n E dX7_bitsOf_4 rfl 2 rfl rfl ?_
  refine hv_callVI (na := 2) (As := [.int (iI (x)), .int (iI (h))]) (st := [.int (iI (8))]) E (c7_numbersOf l D K x h (by omega) (by omega) (by omega) (by omega) hm) dX7_bitsOf_5 hm.1 (show vwCl[6]? = some (RX7, TX7, 7) from rfl) gL_X7_47 gV_X7_numbersOf gI_X7_numbersOf gC_X7_numbersOf gZ_X7 (by decide +kernel) rfl ⟨Nat.le_of_ble_eq_true rfl, Nat.le_of_ble_eq_true rfl⟩ (Nat.le_of_ble_eq_true rfl) ⟨Nat.zero_le _, Nat.zero_le _⟩ rfl rfl (fun r w2 hp => ?_)
  rw [hp.1, hp.2]
  show hm_V p l e (hm_rm 3 0 0) s m args below meth c D (hm_A w s.heap.size) 6 0 0 (MQ below (hm_Qi D w s.heap.size (fun r w2 => r = iI (pB (mS I x) h) ∧ w2 = w)) args s 0 0 (hm_A w s.heap.size)) w 8 [(0, .ref (q)), (1, .int (iI (x))), (2, .int (iI (h)))] [.int (iI (pN (mS I x) h)), .int (iI (8))]
  have hN := pN_b (mS I x) h
  refine hv_imul E dX7_bitsOf_8 rfl ?_
  refine hv_istore_n (lv2 := [(3, .int (iI (8 * (pN (mS I x) h)))), (0, .ref (q)), (1, .int (iI (x))), (2, .int (iI (h)))]) E dX7_bitsOf_9 rfl (by decide) rfl rfl ?_
  refine hv_bipush E dX7_bitsOf_10 (by decide +kernel) rfl ?_
  refine hv_aload_n E dX7_bitsOf_12 rfl 1 rfl rfl ?_
  refine hv_iload_n E dX7_bitsOf_13 rfl 2 rfl rfl ?_
  refine hv_iload_n E dX7_bitsOf_14 rfl 3 rfl rfl ?_
  refine hv_callVI (na := 2) (As := [.int (iI (x)), .int (iI (h))]) (st := [.int (iI (16))]) E (c7_runsOf l D K x h (by omega) (by omega) (by omega) (by omega) hm) dX7_bitsOf_15 hm.1 (show vwCl[6]? = some (RX7, TX7, 7) from rfl) gL_X7_50 gV_X7_runsOf gI_X7_runsOf gC_X7_runsOf gZ_X7 (by decide +kernel) rfl ⟨Nat.le_of_ble_eq_true rfl, Nat.le_of_ble_eq_true rfl⟩ (Nat.le_of_ble_eq_true rfl) ⟨Nat.zero_le _, Nat.zero_le _⟩ rfl rfl (fun r w2 hp => ?_)
  rw [hp.1, hp.2]
  show hm_V p l e (hm_rm 3 0 0) s m args below meth c D (hm_A w s.heap.size) 6 0 0 (MQ below (hm_Qi D w s.heap.size (fun r w2 => r = iI (pB (mS I x) h) ∧ w2 = w)) args s 0 0 (hm_A w s.heap.size)) w 18 [(3, .int (iI (8 * (pN (mS I x) h)))), (0, .ref (q)), (1, .int (iI (x))), (2, .int (iI (h)))] [.int (iI (pR (mS I x) h)), .int (iI (16))]
  have hR := pR_b (mS I x) h
  refine hv_imul E dX7_bitsOf_18 rfl ?_
  refine hv_istore (lv2 := [(4, .int (iI (16 * (pR (mS I x) h)))), (3, .int (iI (8 * (pN (mS I x) h)))), (0, .ref (q)), (1, .int (iI (x))), (2, .int (iI (h)))]) E dX7_bitsOf_19 (by decide) rfl rfl ?_
  refine hv_iload_n E dX7_bitsOf_21 rfl 1 rfl rfl ?_
  refine hv_sipush E dX7_bitsOf_22 (by decide +kernel) rfl ?_
  refine hv_icmp_ge E 32 dX7_bitsOf_25 (by decide) ⟨by omega, by omega⟩ ⟨by omega, by omega⟩ rfl (fun c1 => ?_) (fun c1 => ?_)
  · skip
    refine hv_sipush E dX7_bitsOf_32 (by decide +kernel) rfl ?_
    refine hv_istore (lv2 := [(5, .int (iI (256))), (4, .int (iI (16 * (pR (mS I x) h)))), (3, .int (iI (8 * (pN (mS I x) h)))), (0, .ref (q)), (1, .int (iI (x))), (2, .int (iI (h)))]) E dX7_bitsOf_35 (by decide) rfl rfl ?_
    refine hv_iload E dX7_bitsOf_37 1 rfl rfl ?_
    refine hv_iload E dX7_bitsOf_39 0 rfl rfl ?_
    refine hv_icmp_ge E 49 dX7_bitsOf_41 (by decide) ⟨by omega, by omega⟩ ⟨by omega, by omega⟩ rfl (fun c2 => ?_) (fun c2 => ?_)
    · skip
      refine hv_iload E dX7_bitsOf_49 0 rfl rfl ?_
      exact hv_iret E dX7_bitsOf_51 hr ⟨by rw [pB_min]; congr 1; (repeat' split) <;> omega, rfl⟩
    · skip
      refine hv_iload E dX7_bitsOf_44 1 rfl rfl ?_
      refine hv_goto E 51 dX7_bitsOf_46 (by decide) ?_
      exact hv_iret E dX7_bitsOf_51 hr ⟨by rw [pB_min]; congr 1; (repeat' split) <;> omega, rfl⟩
  · skip
    refine hv_iload_n E dX7_bitsOf_28 rfl 1 rfl rfl ?_
    refine hv_goto E 35 dX7_bitsOf_29 (by decide) ?_
    refine hv_istore (lv2 := [(5, .int (iI (8 * (pN (mS I x) h)))), (4, .int (iI (16 * (pR (mS I x) h)))), (3, .int (iI (8 * (pN (mS I x) h)))), (0, .ref (q)), (1, .int (iI (x))), (2, .int (iI (h)))]) E dX7_bitsOf_35 (by decide) rfl rfl ?_
    refine hv_iload E dX7_bitsOf_37 1 rfl rfl ?_
    refine hv_iload E dX7_bitsOf_39 0 rfl rfl ?_
    refine hv_icmp_ge E 49 dX7_bitsOf_41 (by decide) ⟨by omega, by omega⟩ ⟨by omega, by omega⟩ rfl (fun c3 => ?_) (fun c3 => ?_)
    · skip
      refine hv_iload E dX7_bitsOf_49 0 rfl rfl ?_
      exact hv_iret E dX7_bitsOf_51 hr ⟨by rw [pB_min]; congr 1; (repeat' split) <;> omega, rfl⟩
    · skip
      refine hv_iload E dX7_bitsOf_44 1 rfl rfl ?_
      refine hv_goto E 51 dX7_bitsOf_46 (by decide) ?_
      exact hv_iret E dX7_bitsOf_51 hr ⟨by rw [pB_min]; congr 1; (repeat' split) <;> omega, rfl⟩
set_option maxHeartbeats 4000000 in
set_option maxRecDepth 100000 in
theorem c7_formOf (l : Launch) (D : va_G) (K : Nat → ClassId) {w : hm_M} {q ia : Nat} {fs : List Value} {I : Nat → Bool} (x h : Int) (h0 : 0 ≤ x) (h1 : x ≤ 8) (h2 : 0 ≤ h) (h3 : h < 16) (hm : mI K w q ia fs I)  : hm_Ci l D K yX7_formOf cX7_formOf 4 .int 4 [.ref (q), .int (iI (x)), .int (iI (h))] w 0 0 (fun r w2 => r = iI (if pF (mS I x) h = -1 then 3 else pF (mS I x) h) ∧ w2 = w) := by
  refine hm_enterI (by decide) (Nat.le_of_ble_eq_true rfl) ?_
  intro p e s m args below meth c E hr hnm
  show hm_V p l e (hm_rm 4 0 0) s m args below meth c D (hm_A w s.heap.size) 4 0 0 (MQ below (hm_Qi D w s.heap.size (fun r w2 => r = iI (if pF (mS I x) h = -1 then 3 else pF (mS I x) h) ∧ w2 = w)) args s 0 0 (hm_A w s.heap.size)) w 0 [(0, .ref (q)), (1, .int (iI (x))), (2, .int (iI (h)))] []
  refine hv_aload_n E dX7_formOf_0 rfl 0 rfl rfl ?_
  refine hv_iload_n E dX7_formOf_1 rfl 1 rfl rfl ?_
  refine hv_iload_n E dX7_formOf_2 rfl 2 rfl rfl ?_
  refine hv_callVI (na := 2) (As := [.int (iI (x)), .int (iI (h))]) (st := []) E (c7_bitsOf l D K x h (by omega) (by omega) (by omega) (by omega) hm) dX7_formOf_3 hm.1 (show vwCl[6]? = some (RX7, TX7, 7) from rfl) gL_X7_53 gV_X7_bitsOf gI_X7_bitsOf gC_X7_bitsOf gZ_X7 (by decide +kernel) rfl ⟨Nat.le_of_ble_eq_true rfl, Nat.le_of_ble_eq_true rfl⟩ (Nat.le_of_ble_eq_true rfl) ⟨Nat.zero_le _, Nat.zero_le _⟩ rfl rfl (fun r w2 hp => ?_)
  rw [hp.1, hp.2]
  show hm_V p l e (hm_rm 4 0 0) s m args below meth c D (hm_A w s.heap.size) 4 0 0 (MQ below (hm_Qi D w s.heap.size (fun r w2 => r = iI (if pF (mS I x) h = -1 then 3 else pF (mS I x) h) ∧ w2 = w)) args s 0 0 (hm_A w s.heap.size)) w 6 [(0, .ref (q)), (1, .int (iI (x))), (2, .int (iI (h)))] [.int (iI (pB (mS I x) h))]
  have hB := pB_b (mS I x) h
  refine hv_istore_n (lv2 := [(3, .int (iI (pB (mS I x) h))), (0, .ref (q)), (1, .int (iI (x))), (2, .int (iI (h)))]) E dX7_formOf_6 rfl (by decide) rfl rfl ?_
  refine hv_iload_n E dX7_formOf_7 rfl 0 rfl rfl ?_
  refine hv_if_ne E 15 dX7_formOf_8 (by decide) ⟨by omega, by omega⟩ rfl (fun c1 => ?_) (fun c1 => ?_)
  · skip
    refine hv_iload_n E dX7_formOf_15 rfl 0 rfl rfl ?_
    refine hv_bipush E dX7_formOf_16 (by decide +kernel) rfl ?_
    refine hv_aload_n E dX7_formOf_18 rfl 1 rfl rfl ?_
    refine hv_iload_n E dX7_formOf_19 rfl 2 rfl rfl ?_
    refine hv_iload_n E dX7_formOf_20 rfl 3 rfl rfl ?_
    refine hv_callVI (na := 2) (As := [.int (iI (x)), .int (iI (h))]) (st := [.int (iI (8)), .int (iI (pB (mS I x) h))]) E (c7_numbersOf l D K x h (by omega) (by omega) (by omega) (by omega) hm) dX7_formOf_21 hm.1 (show vwCl[6]? = some (RX7, TX7, 7) from rfl) gL_X7_47 gV_X7_numbersOf gI_X7_numbersOf gC_X7_numbersOf gZ_X7 (by decide +kernel) rfl ⟨Nat.le_of_ble_eq_true rfl, Nat.le_of_ble_eq_true rfl⟩ (Nat.le_of_ble_eq_true rfl) ⟨Nat.zero_le _, Nat.zero_le _⟩ rfl rfl (fun r w2 hp => ?_)
    rw [hp.1, hp.2]
    show hm_V p l e (hm_rm 4 0 0) s m args below meth c D (hm_A w s.heap.size) 4 0 0 (MQ below (hm_Qi D w s.heap.size (fun r w2 => r = iI (if pF (mS I x) h = -1 then 3 else pF (mS I x) h) ∧ w2 = w)) args s 0 0 (hm_A w s.heap.size)) w 24 [(3, .int (iI (pB (mS I x) h))), (0, .ref (q)), (1, .int (iI (x))), (2, .int (iI (h)))] [.int (iI (pN (mS I x) h)), .int (iI (8)), .int (iI (pB (mS I x) h))]
    have hN := pN_b (mS I x) h
    refine hv_imul E dX7_formOf_24 rfl ?_
    refine hv_icmp_ne E 32 dX7_formOf_25 (by decide) ⟨by omega, by omega⟩ ⟨by omega, by omega⟩ rfl (fun c2 => ?_) (fun c2 => ?_)
    · skip
      refine hv_iload_n E dX7_formOf_32 rfl 0 rfl rfl ?_
      refine hv_sipush E dX7_formOf_33 (by decide +kernel) rfl ?_
      refine hv_icmp_ne E 43 dX7_formOf_36 (by decide) ⟨by omega, by omega⟩ ⟨by omega, by omega⟩ rfl (fun c3 => ?_) (fun c3 => ?_)
      · skip
        refine hv_iconst E dX7_formOf_43 rfl ?_
        exact hv_iret E dX7_formOf_44 hr ⟨by rw [← pF_mod]; congr 1; (repeat' split) <;> omega, rfl⟩
      · skip
        refine hv_iconst E dX7_formOf_39 rfl ?_
        refine hv_goto E 44 dX7_formOf_40 (by decide) ?_
        exact hv_iret E dX7_formOf_44 hr ⟨by rw [← pF_mod]; congr 1; (repeat' split) <;> omega, rfl⟩
    · skip
      refine hv_iconst E dX7_formOf_28 rfl ?_
      refine hv_goto E 44 dX7_formOf_29 (by decide) ?_
      exact hv_iret E dX7_formOf_44 hr ⟨by rw [← pF_mod]; congr 1; (repeat' split) <;> omega, rfl⟩
  · skip
    refine hv_iconst E dX7_formOf_11 rfl ?_
    refine hv_goto E 44 dX7_formOf_12 (by decide) ?_
    exact hv_iret E dX7_formOf_44 hr ⟨by rw [← pF_mod]; congr 1; (repeat' split) <;> omega, rfl⟩
set_option maxHeartbeats 4000000 in
set_option maxRecDepth 100000 in
theorem c7_piece (l : Launch) (D : va_G) (K : Nat → ClassId) {w : hm_M} {q ia : Nat} {fs : List Value} {I : Nat → Bool} (x h n : Int) (hx : iB x) (hh : iB h) (hn : iB n) (hm : mI K w q ia fs I)  : hm_Ci l D K yX7_piece cX7_piece 4 .int 5 [.ref (q), .int (iI (x)), .int (iI (h)), .int (iI (n))] w 0 0 (fun r w2 => r = iI (if 0 ≤ x ∧ x < 8 then (if (0 ≤ h ∧ h < 16) ∧ 0 ≤ n ∧ n < 4 then (if n = 0 then pF (mS I x) h else if n = 1 then pN (mS I x) h else if n = 2 then pR (mS I x) h else pB (mS I x) h) else -3) else -2) ∧ w2 = w) := by
  refine hm_enterI (by decide) (Nat.le_of_ble_eq_true rfl) ?_
  intro p e s m args below meth c E hr hnm
  show hm_V p l e (hm_rm 5 0 0) s m args below meth c D (hm_A w s.heap.size) 4 0 0 (MQ below (hm_Qi D w s.heap.size (fun r w2 => r = iI (if 0 ≤ x ∧ x < 8 then (if (0 ≤ h ∧ h < 16) ∧ 0 ≤ n ∧ n < 4 then (if n = 0 then pF (mS I x) h else if n = 1 then pN (mS I x) h else if n = 2 then pR (mS I x) h else pB (mS I x) h) else -3) else -2) ∧ w2 = w)) args s 0 0 (hm_A w s.heap.size)) w 0 [(0, .ref (q)), (1, .int (iI (x))), (2, .int (iI (h))), (3, .int (iI (n)))] []
  refine hv_iload_n E dX7_piece_0 rfl 1 rfl rfl ?_
  refine hv_callSI (na := 1) (As := [.int (iI (x))]) (st := []) E (c7_isSet l D K x hx) dX7_piece_1 gL_X7_21 gS_X7_isSet gC_X7_isSet gZ_X7 (by decide +kernel) rfl ⟨Nat.le_of_ble_eq_true rfl, Nat.le_of_ble_eq_true rfl⟩ (Nat.le_of_ble_eq_true rfl) ⟨Nat.zero_le _, Nat.zero_le _⟩ rfl rfl (fun r w2 hp => ?_)
  rw [hp.1, hp.2]
  show hm_V p l e (hm_rm 5 0 0) s m args below meth c D (hm_A w s.heap.size) 4 0 0 (MQ below (hm_Qi D w s.heap.size (fun r w2 => r = iI (if 0 ≤ x ∧ x < 8 then (if (0 ≤ h ∧ h < 16) ∧ 0 ≤ n ∧ n < 4 then (if n = 0 then pF (mS I x) h else if n = 1 then pN (mS I x) h else if n = 2 then pR (mS I x) h else pB (mS I x) h) else -3) else -2) ∧ w2 = w)) args s 0 0 (hm_A w s.heap.size)) w 4 [(0, .ref (q)), (1, .int (iI (x))), (2, .int (iI (h))), (3, .int (iI (n)))] [.int (bI (decide (0 ≤ x ∧ x ≤ 7)))]
  refine hv_if_neB E 10 dX7_piece_4 (by decide) rfl (fun c1 => ?_) (fun c1 => ?_)
  · have c1 := of_decide_eq_true c1
    refine hv_iload_n E dX7_piece_10 rfl 2 rfl rfl ?_
    refine hv_iconst E dX7_piece_11 rfl ?_
    refine hv_bipush E dX7_piece_12 (by decide +kernel) rfl ?_
    refine hv_callSI (na := 3) (As := [.int (iI (h)), .int (iI (0)), .int (iI (15))]) (st := []) E (c7_within l D K h 0 15 hh ⟨by omega, by omega⟩ ⟨by omega, by omega⟩) dX7_piece_14 gL_X7_17 gS_X7_within gC_X7_within gZ_X7 (by decide +kernel) rfl ⟨Nat.le_of_ble_eq_true rfl, Nat.le_of_ble_eq_true rfl⟩ (Nat.le_of_ble_eq_true rfl) ⟨Nat.zero_le _, Nat.zero_le _⟩ rfl rfl (fun r w2 hp => ?_)
    rw [hp.1, hp.2]
    show hm_V p l e (hm_rm 5 0 0) s m args below meth c D (hm_A w s.heap.size) 4 0 0 (MQ below (hm_Qi D w s.heap.size (fun r w2 => r = iI (if 0 ≤ x ∧ x < 8 then (if (0 ≤ h ∧ h < 16) ∧ 0 ≤ n ∧ n < 4 then (if n = 0 then pF (mS I x) h else if n = 1 then pN (mS I x) h else if n = 2 then pR (mS I x) h else pB (mS I x) h) else -3) else -2) ∧ w2 = w)) args s 0 0 (hm_A w s.heap.size)) w 17 [(0, .ref (q)), (1, .int (iI (x))), (2, .int (iI (h))), (3, .int (iI (n)))] [.int (bI (decide (0 ≤ h ∧ h ≤ 15)))]
    refine hv_if_eqB E 29 dX7_piece_17 (by decide) rfl (fun c2 => ?_) (fun c2 => ?_)
    · have c2 := of_decide_eq_false c2
      refine hv_bipush E dX7_piece_29 (by decide +kernel) rfl ?_
      exact hv_iret E dX7_piece_31 hr ⟨by congr 1; (repeat' split) <;> omega, rfl⟩
    · have c2 := of_decide_eq_true c2
      refine hv_iload_n E dX7_piece_20 rfl 3 rfl rfl ?_
      refine hv_iconst E dX7_piece_21 rfl ?_
      refine hv_iconst E dX7_piece_22 rfl ?_
      refine hv_callSI (na := 3) (As := [.int (iI (n)), .int (iI (0)), .int (iI (3))]) (st := []) E (c7_within l D K n 0 3 hn ⟨by omega, by omega⟩ ⟨by omega, by omega⟩) dX7_piece_23 gL_X7_17 gS_X7_within gC_X7_within gZ_X7 (by decide +kernel) rfl ⟨Nat.le_of_ble_eq_true rfl, Nat.le_of_ble_eq_true rfl⟩ (Nat.le_of_ble_eq_true rfl) ⟨Nat.zero_le _, Nat.zero_le _⟩ rfl rfl (fun r w2 hp => ?_)
      rw [hp.1, hp.2]
      show hm_V p l e (hm_rm 5 0 0) s m args below meth c D (hm_A w s.heap.size) 4 0 0 (MQ below (hm_Qi D w s.heap.size (fun r w2 => r = iI (if 0 ≤ x ∧ x < 8 then (if (0 ≤ h ∧ h < 16) ∧ 0 ≤ n ∧ n < 4 then (if n = 0 then pF (mS I x) h else if n = 1 then pN (mS I x) h else if n = 2 then pR (mS I x) h else pB (mS I x) h) else -3) else -2) ∧ w2 = w)) args s 0 0 (hm_A w s.heap.size)) w 26 [(0, .ref (q)), (1, .int (iI (x))), (2, .int (iI (h))), (3, .int (iI (n)))] [.int (bI (decide (0 ≤ n ∧ n ≤ 3)))]
      refine hv_if_neB E 32 dX7_piece_26 (by decide) rfl (fun c3 => ?_) (fun c3 => ?_)
      · have c3 := of_decide_eq_true c3
        refine hv_iload_n E dX7_piece_32 rfl 3 rfl rfl ?_
        refine hv_if_ne E 57 dX7_piece_33 (by decide) hn rfl (fun c4 => ?_) (fun c4 => ?_)
        · skip
          refine hv_iload_n E dX7_piece_57 rfl 3 rfl rfl ?_
          refine hv_iconst E dX7_piece_58 rfl ?_
          refine hv_icmp_ne E 71 dX7_piece_59 (by decide) hn ⟨by first | omega | (split <;> omega), by first | omega | (split <;> omega)⟩ rfl (fun c5 => ?_) (fun c5 => ?_)
          · skip
            refine hv_iload_n E dX7_piece_71 rfl 3 rfl rfl ?_
            refine hv_iconst E dX7_piece_72 rfl ?_
            refine hv_icmp_ne E 85 dX7_piece_73 (by decide) hn ⟨by first | omega | (split <;> omega), by first | omega | (split <;> omega)⟩ rfl (fun c6 => ?_) (fun c6 => ?_)
            · skip
              refine hv_aload_n E dX7_piece_85 rfl 0 rfl rfl ?_
              refine hv_iload_n E dX7_piece_86 rfl 1 rfl rfl ?_
              refine hv_iload_n E dX7_piece_87 rfl 2 rfl rfl ?_
              refine hv_callVI (na := 2) (As := [.int (iI (x)), .int (iI (h))]) (st := []) E (c7_bitsOf l D K x h (by omega) (by omega) (by omega) (by omega) hm) dX7_piece_88 hm.1 (show vwCl[6]? = some (RX7, TX7, 7) from rfl) gL_X7_53 gV_X7_bitsOf gI_X7_bitsOf gC_X7_bitsOf gZ_X7 (by decide +kernel) rfl ⟨Nat.le_of_ble_eq_true rfl, Nat.le_of_ble_eq_true rfl⟩ (Nat.le_of_ble_eq_true rfl) ⟨Nat.zero_le _, Nat.zero_le _⟩ rfl rfl (fun r w2 hp => ?_)
              rw [hp.1, hp.2]
              show hm_V p l e (hm_rm 5 0 0) s m args below meth c D (hm_A w s.heap.size) 4 0 0 (MQ below (hm_Qi D w s.heap.size (fun r w2 => r = iI (if 0 ≤ x ∧ x < 8 then (if (0 ≤ h ∧ h < 16) ∧ 0 ≤ n ∧ n < 4 then (if n = 0 then pF (mS I x) h else if n = 1 then pN (mS I x) h else if n = 2 then pR (mS I x) h else pB (mS I x) h) else -3) else -2) ∧ w2 = w)) args s 0 0 (hm_A w s.heap.size)) w 91 [(0, .ref (q)), (1, .int (iI (x))), (2, .int (iI (h))), (3, .int (iI (n)))] [.int (iI (pB (mS I x) h))]
              have hB := pB_b (mS I x) h
              exact hv_iret E dX7_piece_91 hr ⟨by congr 1; (repeat' split) <;> omega, rfl⟩
            · skip
              refine hv_aload_n E dX7_piece_76 rfl 0 rfl rfl ?_
              refine hv_iload_n E dX7_piece_77 rfl 1 rfl rfl ?_
              refine hv_iload_n E dX7_piece_78 rfl 2 rfl rfl ?_
              refine hv_callVI (na := 2) (As := [.int (iI (x)), .int (iI (h))]) (st := []) E (c7_runsOf l D K x h (by omega) (by omega) (by omega) (by omega) hm) dX7_piece_79 hm.1 (show vwCl[6]? = some (RX7, TX7, 7) from rfl) gL_X7_50 gV_X7_runsOf gI_X7_runsOf gC_X7_runsOf gZ_X7 (by decide +kernel) rfl ⟨Nat.le_of_ble_eq_true rfl, Nat.le_of_ble_eq_true rfl⟩ (Nat.le_of_ble_eq_true rfl) ⟨Nat.zero_le _, Nat.zero_le _⟩ rfl rfl (fun r w2 hp => ?_)
              rw [hp.1, hp.2]
              show hm_V p l e (hm_rm 5 0 0) s m args below meth c D (hm_A w s.heap.size) 4 0 0 (MQ below (hm_Qi D w s.heap.size (fun r w2 => r = iI (if 0 ≤ x ∧ x < 8 then (if (0 ≤ h ∧ h < 16) ∧ 0 ≤ n ∧ n < 4 then (if n = 0 then pF (mS I x) h else if n = 1 then pN (mS I x) h else if n = 2 then pR (mS I x) h else pB (mS I x) h) else -3) else -2) ∧ w2 = w)) args s 0 0 (hm_A w s.heap.size)) w 82 [(0, .ref (q)), (1, .int (iI (x))), (2, .int (iI (h))), (3, .int (iI (n)))] [.int (iI (pR (mS I x) h))]
              have hR := pR_b (mS I x) h
              refine hv_goto E 91 dX7_piece_82 (by decide) ?_
              exact hv_iret E dX7_piece_91 hr ⟨by congr 1; (repeat' split) <;> omega, rfl⟩
          · skip
            refine hv_aload_n E dX7_piece_62 rfl 0 rfl rfl ?_
            refine hv_iload_n E dX7_piece_63 rfl 1 rfl rfl ?_
            refine hv_iload_n E dX7_piece_64 rfl 2 rfl rfl ?_
            refine hv_callVI (na := 2) (As := [.int (iI (x)), .int (iI (h))]) (st := []) E (c7_numbersOf l D K x h (by omega) (by omega) (by omega) (by omega) hm) dX7_piece_65 hm.1 (show vwCl[6]? = some (RX7, TX7, 7) from rfl) gL_X7_47 gV_X7_numbersOf gI_X7_numbersOf gC_X7_numbersOf gZ_X7 (by decide +kernel) rfl ⟨Nat.le_of_ble_eq_true rfl, Nat.le_of_ble_eq_true rfl⟩ (Nat.le_of_ble_eq_true rfl) ⟨Nat.zero_le _, Nat.zero_le _⟩ rfl rfl (fun r w2 hp => ?_)
            rw [hp.1, hp.2]
            show hm_V p l e (hm_rm 5 0 0) s m args below meth c D (hm_A w s.heap.size) 4 0 0 (MQ below (hm_Qi D w s.heap.size (fun r w2 => r = iI (if 0 ≤ x ∧ x < 8 then (if (0 ≤ h ∧ h < 16) ∧ 0 ≤ n ∧ n < 4 then (if n = 0 then pF (mS I x) h else if n = 1 then pN (mS I x) h else if n = 2 then pR (mS I x) h else pB (mS I x) h) else -3) else -2) ∧ w2 = w)) args s 0 0 (hm_A w s.heap.size)) w 68 [(0, .ref (q)), (1, .int (iI (x))), (2, .int (iI (h))), (3, .int (iI (n)))] [.int (iI (pN (mS I x) h))]
            have hN := pN_b (mS I x) h
            refine hv_goto E 91 dX7_piece_68 (by decide) ?_
            exact hv_iret E dX7_piece_91 hr ⟨by congr 1; (repeat' split) <;> omega, rfl⟩
        · skip
          refine hv_aload_n E dX7_piece_36 rfl 0 rfl rfl ?_
          refine hv_iload_n E dX7_piece_37 rfl 1 rfl rfl ?_
          refine hv_iload_n E dX7_piece_38 rfl 2 rfl rfl ?_
          refine hv_callVI (na := 2) (As := [.int (iI (x)), .int (iI (h))]) (st := []) E (c7_formOf l D K x h (by omega) (by omega) (by omega) (by omega) hm) dX7_piece_39 hm.1 (show vwCl[6]? = some (RX7, TX7, 7) from rfl) gL_X7_56 gV_X7_formOf gI_X7_formOf gC_X7_formOf gZ_X7 (by decide +kernel) rfl ⟨Nat.le_of_ble_eq_true rfl, Nat.le_of_ble_eq_true rfl⟩ (Nat.le_of_ble_eq_true rfl) ⟨Nat.zero_le _, Nat.zero_le _⟩ rfl rfl (fun r w2 hp => ?_)
          rw [hp.1, hp.2]
          show hm_V p l e (hm_rm 5 0 0) s m args below meth c D (hm_A w s.heap.size) 4 0 0 (MQ below (hm_Qi D w s.heap.size (fun r w2 => r = iI (if 0 ≤ x ∧ x < 8 then (if (0 ≤ h ∧ h < 16) ∧ 0 ≤ n ∧ n < 4 then (if n = 0 then pF (mS I x) h else if n = 1 then pN (mS I x) h else if n = 2 then pR (mS I x) h else pB (mS I x) h) else -3) else -2) ∧ w2 = w)) args s 0 0 (hm_A w s.heap.size)) w 42 [(0, .ref (q)), (1, .int (iI (x))), (2, .int (iI (h))), (3, .int (iI (n)))] [.int (iI (if pF (mS I x) h = -1 then 3 else pF (mS I x) h))]
          have hF := pF_b (mS I x) h
          refine hv_iconst E dX7_piece_42 rfl ?_
          refine hv_icmp_ne E 50 dX7_piece_43 (by decide) ⟨by first | omega | (split <;> omega), by first | omega | (split <;> omega)⟩ ⟨by first | omega | (split <;> omega), by first | omega | (split <;> omega)⟩ rfl (fun c7 => ?_) (fun c7 => ?_)
          · skip
            refine hv_aload_n E dX7_piece_50 rfl 0 rfl rfl ?_
            refine hv_iload_n E dX7_piece_51 rfl 1 rfl rfl ?_
            refine hv_iload_n E dX7_piece_52 rfl 2 rfl rfl ?_
            refine hv_callVI (na := 2) (As := [.int (iI (x)), .int (iI (h))]) (st := []) E (c7_formOf l D K x h (by omega) (by omega) (by omega) (by omega) hm) dX7_piece_53 hm.1 (show vwCl[6]? = some (RX7, TX7, 7) from rfl) gL_X7_56 gV_X7_formOf gI_X7_formOf gC_X7_formOf gZ_X7 (by decide +kernel) rfl ⟨Nat.le_of_ble_eq_true rfl, Nat.le_of_ble_eq_true rfl⟩ (Nat.le_of_ble_eq_true rfl) ⟨Nat.zero_le _, Nat.zero_le _⟩ rfl rfl (fun r w2 hp => ?_)
            rw [hp.1, hp.2]
            show hm_V p l e (hm_rm 5 0 0) s m args below meth c D (hm_A w s.heap.size) 4 0 0 (MQ below (hm_Qi D w s.heap.size (fun r w2 => r = iI (if 0 ≤ x ∧ x < 8 then (if (0 ≤ h ∧ h < 16) ∧ 0 ≤ n ∧ n < 4 then (if n = 0 then pF (mS I x) h else if n = 1 then pN (mS I x) h else if n = 2 then pR (mS I x) h else pB (mS I x) h) else -3) else -2) ∧ w2 = w)) args s 0 0 (hm_A w s.heap.size)) w 56 [(0, .ref (q)), (1, .int (iI (x))), (2, .int (iI (h))), (3, .int (iI (n)))] [.int (iI (if pF (mS I x) h = -1 then 3 else pF (mS I x) h))]
            have hF := pF_b (mS I x) h
            exact hv_iret E dX7_piece_56 hr ⟨by congr 1; (repeat' split) <;> omega, rfl⟩
          · skip
            refine hv_iconst E dX7_piece_46 rfl ?_
            refine hv_goto E 56 dX7_piece_47 (by decide) ?_
            exact hv_iret E dX7_piece_56 hr ⟨by congr 1; (repeat' split) <;> omega, rfl⟩
      · have c3 := of_decide_eq_false c3
        refine hv_bipush E dX7_piece_29 (by decide +kernel) rfl ?_
        exact hv_iret E dX7_piece_31 hr ⟨by congr 1; (repeat' split) <;> omega, rfl⟩
  · have c1 := of_decide_eq_false c1
    refine hv_bipush E dX7_piece_7 (by decide +kernel) rfl ?_
    exact hv_iret E dX7_piece_9 hr ⟨by congr 1; (repeat' split) <;> omega, rfl⟩
set_option maxHeartbeats 4000000 in
set_option maxRecDepth 100000 in
theorem c7_cost (l : Launch) (D : va_G) (K : Nat → ClassId) {w : hm_M} {q ia : Nat} {fs : List Value} {I : Nat → Bool} (x : Int) (hx : iB x) (hm : mI K w q ia fs I)  : hm_Ci l D K yX7_cost cX7_cost 4 .int 4 [.ref (q), .int (iI (x))] w 0 0 (fun r w2 => r = iI (if 0 ≤ x ∧ x < 8 then cs (mS I x) 16 else -2) ∧ w2 = w) := by
  refine hm_enterI (by decide) (Nat.le_of_ble_eq_true rfl) ?_
  intro p e s m args below meth c E hr hnm
  show hm_V p l e (hm_rm 4 0 0) s m args below meth c D (hm_A w s.heap.size) 4 0 0 (MQ below (hm_Qi D w s.heap.size (fun r w2 => r = iI (if 0 ≤ x ∧ x < 8 then cs (mS I x) 16 else -2) ∧ w2 = w)) args s 0 0 (hm_A w s.heap.size)) w 0 [(0, .ref (q)), (1, .int (iI (x)))] []
  refine hv_iload_n E dX7_cost_0 rfl 1 rfl rfl ?_
  refine hv_callSI (na := 1) (As := [.int (iI (x))]) (st := []) E (c7_isSet l D K x hx) dX7_cost_1 gL_X7_21 gS_X7_isSet gC_X7_isSet gZ_X7 (by decide +kernel) rfl ⟨Nat.le_of_ble_eq_true rfl, Nat.le_of_ble_eq_true rfl⟩ (Nat.le_of_ble_eq_true rfl) ⟨Nat.zero_le _, Nat.zero_le _⟩ rfl rfl (fun r w2 hp => ?_)
  rw [hp.1, hp.2]
  show hm_V p l e (hm_rm 4 0 0) s m args below meth c D (hm_A w s.heap.size) 4 0 0 (MQ below (hm_Qi D w s.heap.size (fun r w2 => r = iI (if 0 ≤ x ∧ x < 8 then cs (mS I x) 16 else -2) ∧ w2 = w)) args s 0 0 (hm_A w s.heap.size)) w 4 [(0, .ref (q)), (1, .int (iI (x)))] [.int (bI (decide (0 ≤ x ∧ x ≤ 7)))]
  refine hv_if_neB E 10 dX7_cost_4 (by decide) rfl (fun c1 => ?_) (fun c1 => ?_)
  · have c1 := of_decide_eq_true c1
    refine hv_iconst E dX7_cost_10 rfl ?_
    refine hv_istore_n (lv2 := [(2, .int (iI (0))), (0, .ref (q)), (1, .int (iI (x)))]) E dX7_cost_11 rfl (by decide) rfl rfl ?_
    refine hv_iconst E dX7_cost_12 rfl ?_
    refine hv_istore_n (lv2 := [(3, .int (iI (0))), (2, .int (iI (0))), (0, .ref (q)), (1, .int (iI (x)))]) E dX7_cost_13 rfl (by decide) rfl rfl ?_
    have hX : 0 ≤ x ∧ x < 8 := by omega
    have LP : ∀ (k : Nat) (j sm : Int), (16 - j < (k : Int)) → (0 ≤ j) → (j ≤ 16) → (sm = cs (mS I x) j.toNat) → hm_V p l e (hm_rm 4 0 0) s m args below meth c D (hm_A w s.heap.size) 4 0 0 (MQ below (hm_Qi D w s.heap.size (fun r w2 => r = iI (if 0 ≤ x ∧ x < 8 then cs (mS I x) 16 else -2) ∧ w2 = w)) args s 0 0 (hm_A w s.heap.size)) w 14 [(3, .int (iI (j))), (2, .int (iI (sm))), (0, .ref (q)), (1, .int (iI (x)))] [] := by
      intro k
      induction k with
      | zero =>
        intro j sm hk g0 g1 hs
        exact absurd hk (by omega)
      | succ k ih =>
        intro j sm hk g0 g1 hs
        refine hv_iload_n E dX7_cost_14 rfl 0 rfl rfl ?_
        refine hv_bipush E dX7_cost_15 (by decide +kernel) rfl ?_
        refine hv_icmp_ge E 51 dX7_cost_17 (by decide) ⟨by omega, by omega⟩ ⟨by omega, by omega⟩ rfl (fun c2 => ?_) (fun c2 => ?_)
        · skip
          refine hv_iload_n E dX7_cost_51 rfl 1 rfl rfl ?_
          exact hv_iret E dX7_cost_52 hr ⟨by rw [if_pos hX, hs, show j.toNat = 16 by omega], rfl⟩
        · skip
          refine hv_iload_n E dX7_cost_20 rfl 1 rfl rfl ?_
          refine hv_aload_n E dX7_cost_21 rfl 2 rfl rfl ?_
          refine hv_iload_n E dX7_cost_22 rfl 3 rfl rfl ?_
          refine hv_iload_n E dX7_cost_23 rfl 0 rfl rfl ?_
          refine hv_callVI (na := 2) (As := [.int (iI (x)), .int (iI (j))]) (st := [.int (iI (sm))]) E (c7_numbersOf l D K x j (by omega) (by omega) (by omega) (by omega) hm) dX7_cost_24 hm.1 (show vwCl[6]? = some (RX7, TX7, 7) from rfl) gL_X7_47 gV_X7_numbersOf gI_X7_numbersOf gC_X7_numbersOf gZ_X7 (by decide +kernel) rfl ⟨Nat.le_of_ble_eq_true rfl, Nat.le_of_ble_eq_true rfl⟩ (Nat.le_of_ble_eq_true rfl) ⟨Nat.zero_le _, Nat.zero_le _⟩ rfl rfl (fun r w2 hp => ?_)
          rw [hp.1, hp.2]
          show hm_V p l e (hm_rm 4 0 0) s m args below meth c D (hm_A w s.heap.size) 4 0 0 (MQ below (hm_Qi D w s.heap.size (fun r w2 => r = iI (if 0 ≤ x ∧ x < 8 then cs (mS I x) 16 else -2) ∧ w2 = w)) args s 0 0 (hm_A w s.heap.size)) w 27 [(3, .int (iI (j))), (2, .int (iI (sm))), (0, .ref (q)), (1, .int (iI (x)))] [.int (iI (pN (mS I x) j)), .int (iI (sm))]
          have hN := pN_b (mS I x) j
          refine hv_if_le E 42 dX7_cost_27 (by decide) ⟨by omega, by omega⟩ rfl (fun c3 => ?_) (fun c3 => ?_)
          · skip
            refine hv_iconst E dX7_cost_42 rfl ?_
            refine hv_iadd E dX7_cost_43 rfl ?_
            refine hv_istore_n (lv2 := [(2, .int (iI (sm + 0))), (3, .int (iI (j))), (0, .ref (q)), (1, .int (iI (x)))]) E dX7_cost_44 rfl (by decide) rfl rfl ?_
            refine hv_iinc (lv2 := [(3, .int (iI (j + 1))), (2, .int (iI (sm + 0))), (0, .ref (q)), (1, .int (iI (x)))]) E dX7_cost_45 1 rfl rfl (by decide) rfl rfl ?_
            refine hv_goto E 14 dX7_cost_48 (by decide) ?_
            refine hv_sub (lv2 := [(3, .int (iI (j + 1))), (2, .int (iI (sm + 0))), (0, .ref (q)), (1, .int (iI (x)))]) [0, 1, 2, 3] rfl ?_
            exact ih (j + 1) _ (by omega) (by omega) (by omega) (by
                  rw [show (j + 1).toNat = j.toNat + 1 by omega]
                  simp only [cs]
                  rw [Int.toNat_of_nonneg g0, hs]
                  split <;> omega)
          · skip
            refine hv_bipush E dX7_cost_30 (by decide +kernel) rfl ?_
            refine hv_aload_n E dX7_cost_32 rfl 2 rfl rfl ?_
            refine hv_iload_n E dX7_cost_33 rfl 3 rfl rfl ?_
            refine hv_iload_n E dX7_cost_34 rfl 0 rfl rfl ?_
            refine hv_callVI (na := 2) (As := [.int (iI (x)), .int (iI (j))]) (st := [.int (iI (16)), .int (iI (sm))]) E (c7_bitsOf l D K x j (by omega) (by omega) (by omega) (by omega) hm) dX7_cost_35 hm.1 (show vwCl[6]? = some (RX7, TX7, 7) from rfl) gL_X7_53 gV_X7_bitsOf gI_X7_bitsOf gC_X7_bitsOf gZ_X7 (by decide +kernel) rfl ⟨Nat.le_of_ble_eq_true rfl, Nat.le_of_ble_eq_true rfl⟩ (Nat.le_of_ble_eq_true rfl) ⟨Nat.zero_le _, Nat.zero_le _⟩ rfl rfl (fun r w2 hp => ?_)
            rw [hp.1, hp.2]
            show hm_V p l e (hm_rm 4 0 0) s m args below meth c D (hm_A w s.heap.size) 4 0 0 (MQ below (hm_Qi D w s.heap.size (fun r w2 => r = iI (if 0 ≤ x ∧ x < 8 then cs (mS I x) 16 else -2) ∧ w2 = w)) args s 0 0 (hm_A w s.heap.size)) w 38 [(3, .int (iI (j))), (2, .int (iI (sm))), (0, .ref (q)), (1, .int (iI (x)))] [.int (iI (pB (mS I x) j)), .int (iI (16)), .int (iI (sm))]
            have hB := pB_b (mS I x) j
            refine hv_iadd E dX7_cost_38 rfl ?_
            refine hv_goto E 43 dX7_cost_39 (by decide) ?_
            refine hv_iadd E dX7_cost_43 rfl ?_
            refine hv_istore_n (lv2 := [(2, .int (iI (sm + (16 + (pB (mS I x) j))))), (3, .int (iI (j))), (0, .ref (q)), (1, .int (iI (x)))]) E dX7_cost_44 rfl (by decide) rfl rfl ?_
            refine hv_iinc (lv2 := [(3, .int (iI (j + 1))), (2, .int (iI (sm + (16 + (pB (mS I x) j))))), (0, .ref (q)), (1, .int (iI (x)))]) E dX7_cost_45 1 rfl rfl (by decide) rfl rfl ?_
            refine hv_goto E 14 dX7_cost_48 (by decide) ?_
            refine hv_sub (lv2 := [(3, .int (iI (j + 1))), (2, .int (iI (sm + (16 + (pB (mS I x) j))))), (0, .ref (q)), (1, .int (iI (x)))]) [0, 1, 2, 3] rfl ?_
            exact ih (j + 1) _ (by omega) (by omega) (by omega) (by
                  rw [show (j + 1).toNat = j.toNat + 1 by omega]
                  simp only [cs]
                  rw [Int.toNat_of_nonneg g0, hs]
                  split <;> omega)
    refine hv_sub (lv2 := [(3, .int (iI (0))), (2, .int (iI (0))), (0, .ref (q)), (1, .int (iI (x)))]) [0, 1, 2, 3] rfl ?_
    exact LP 17 0 0 (by omega) (by omega) (by omega) rfl
  · have c1 := of_decide_eq_false c1
    refine hv_bipush E dX7_cost_7 (by decide +kernel) rfl ?_
    exact hv_iret E dX7_cost_9 hr ⟨(by (repeat (first | rw [if_pos (by omega)] | rw [if_neg (by omega)])) <;> first | done | rfl), rfl⟩
set_option maxHeartbeats 4000000 in
set_option maxRecDepth 100000 in
theorem c7_join (l : Launch) (D : va_G) (K : Nat → ClassId) {w : hm_M} {q ia : Nat} {fs : List Value} {I : Nat → Bool} (x y z n : Int) (hx : iB x) (hy : iB y) (hz : iB z) (hn : iB n) (hm : mI K w q ia fs I)  : hm_Ci l D K yX7_join cX7_join 8 .int 2 [.ref (q), .int (iI (x)), .int (iI (y)), .int (iI (z)), .int (iI (n))] w 0 0 (fun r w2 => r = iI (if ((0 ≤ x ∧ x < 8) ∧ (0 ≤ y ∧ y < 8) ∧ 0 ≤ z ∧ z < 8) then (if 0 ≤ n ∧ n < 4 then (ct (fun v => jb n (mS I y v) (mS I z v)) 0 4096 : Nat) else -3) else -2) ∧ w2 = if ((0 ≤ x ∧ x < 8) ∧ (0 ≤ y ∧ y < 8) ∧ 0 ≤ z ∧ z < 8) ∧ 0 ≤ n ∧ n < 4 then hm_up w ia (mE K (jI I n x y z)) else w) := by
  refine hm_enterI (by decide) (Nat.le_of_ble_eq_true rfl) ?_
  intro p e s m args below meth c E hr hnm
  show hm_V p l e (hm_rm 2 0 0) s m args below meth c D (hm_A w s.heap.size) 8 0 0 (MQ below (hm_Qi D w s.heap.size (fun r w2 => r = iI (if ((0 ≤ x ∧ x < 8) ∧ (0 ≤ y ∧ y < 8) ∧ 0 ≤ z ∧ z < 8) then (if 0 ≤ n ∧ n < 4 then (ct (fun v => jb n (mS I y v) (mS I z v)) 0 4096 : Nat) else -3) else -2) ∧ w2 = if ((0 ≤ x ∧ x < 8) ∧ (0 ≤ y ∧ y < 8) ∧ 0 ≤ z ∧ z < 8) ∧ 0 ≤ n ∧ n < 4 then hm_up w ia (mE K (jI I n x y z)) else w)) args s 0 0 (hm_A w s.heap.size)) w 0 [(0, .ref (q)), (1, .int (iI (x))), (2, .int (iI (y))), (3, .int (iI (z))), (4, .int (iI (n)))] []
  refine hv_iload_n E dX7_join_0 rfl 1 rfl rfl ?_
  refine hv_callSI (na := 1) (As := [.int (iI (x))]) (st := []) E (c7_isSet l D K x hx) dX7_join_1 gL_X7_21 gS_X7_isSet gC_X7_isSet gZ_X7 (by decide +kernel) rfl ⟨Nat.le_of_ble_eq_true rfl, Nat.le_of_ble_eq_true rfl⟩ (Nat.le_of_ble_eq_true rfl) ⟨Nat.zero_le _, Nat.zero_le _⟩ rfl rfl (fun r w2 hp => ?_)
  rw [hp.1, hp.2]
  show hm_V p l e (hm_rm 2 0 0) s m args below meth c D (hm_A w s.heap.size) 8 0 0 (MQ below (hm_Qi D w s.heap.size (fun r w2 => r = iI (if ((0 ≤ x ∧ x < 8) ∧ (0 ≤ y ∧ y < 8) ∧ 0 ≤ z ∧ z < 8) then (if 0 ≤ n ∧ n < 4 then (ct (fun v => jb n (mS I y v) (mS I z v)) 0 4096 : Nat) else -3) else -2) ∧ w2 = if ((0 ≤ x ∧ x < 8) ∧ (0 ≤ y ∧ y < 8) ∧ 0 ≤ z ∧ z < 8) ∧ 0 ≤ n ∧ n < 4 then hm_up w ia (mE K (jI I n x y z)) else w)) args s 0 0 (hm_A w s.heap.size)) w 4 [(0, .ref (q)), (1, .int (iI (x))), (2, .int (iI (y))), (3, .int (iI (z))), (4, .int (iI (n)))] [.int (bI (decide (0 ≤ x ∧ x ≤ 7)))]
  refine hv_if_eqB E 21 dX7_join_4 (by decide) rfl (fun c1 => ?_) (fun c1 => ?_)
  · have c1 := of_decide_eq_false c1
    refine hv_bipush E dX7_join_21 (by decide +kernel) rfl ?_
    exact hv_iret E dX7_join_23 hr ⟨(by (repeat (first | rw [if_pos (by omega)] | rw [if_neg (by omega)])) <;> first | done | rfl), (by (repeat (first | rw [if_pos (by omega)] | rw [if_neg (by omega)])) <;> first | done | rfl)⟩
  · have c1 := of_decide_eq_true c1
    refine hv_iload_n E dX7_join_7 rfl 2 rfl rfl ?_
    refine hv_callSI (na := 1) (As := [.int (iI (y))]) (st := []) E (c7_isSet l D K y hy) dX7_join_8 gL_X7_21 gS_X7_isSet gC_X7_isSet gZ_X7 (by decide +kernel) rfl ⟨Nat.le_of_ble_eq_true rfl, Nat.le_of_ble_eq_true rfl⟩ (Nat.le_of_ble_eq_true rfl) ⟨Nat.zero_le _, Nat.zero_le _⟩ rfl rfl (fun r w2 hp => ?_)
    rw [hp.1, hp.2]
    show hm_V p l e (hm_rm 2 0 0) s m args below meth c D (hm_A w s.heap.size) 8 0 0 (MQ below (hm_Qi D w s.heap.size (fun r w2 => r = iI (if ((0 ≤ x ∧ x < 8) ∧ (0 ≤ y ∧ y < 8) ∧ 0 ≤ z ∧ z < 8) then (if 0 ≤ n ∧ n < 4 then (ct (fun v => jb n (mS I y v) (mS I z v)) 0 4096 : Nat) else -3) else -2) ∧ w2 = if ((0 ≤ x ∧ x < 8) ∧ (0 ≤ y ∧ y < 8) ∧ 0 ≤ z ∧ z < 8) ∧ 0 ≤ n ∧ n < 4 then hm_up w ia (mE K (jI I n x y z)) else w)) args s 0 0 (hm_A w s.heap.size)) w 11 [(0, .ref (q)), (1, .int (iI (x))), (2, .int (iI (y))), (3, .int (iI (z))), (4, .int (iI (n)))] [.int (bI (decide (0 ≤ y ∧ y ≤ 7)))]
    refine hv_if_eqB E 21 dX7_join_11 (by decide) rfl (fun c2 => ?_) (fun c2 => ?_)
    · have c2 := of_decide_eq_false c2
      refine hv_bipush E dX7_join_21 (by decide +kernel) rfl ?_
      exact hv_iret E dX7_join_23 hr ⟨(by (repeat (first | rw [if_pos (by omega)] | rw [if_neg (by omega)])) <;> first | done | rfl), (by (repeat (first | rw [if_pos (by omega)] | rw [if_neg (by omega)])) <;> first | done | rfl)⟩
    · have c2 := of_decide_eq_true c2
      refine hv_iload_n E dX7_join_14 rfl 3 rfl rfl ?_
      refine hv_callSI (na := 1) (As := [.int (iI (z))]) (st := []) E (c7_isSet l D K z hz) dX7_join_15 gL_X7_21 gS_X7_isSet gC_X7_isSet gZ_X7 (by decide +kernel) rfl ⟨Nat.le_of_ble_eq_true rfl, Nat.le_of_ble_eq_true rfl⟩ (Nat.le_of_ble_eq_true rfl) ⟨Nat.zero_le _, Nat.zero_le _⟩ rfl rfl (fun r w2 hp => ?_)
      rw [hp.1, hp.2]
      show hm_V p l e (hm_rm 2 0 0) s m args below meth c D (hm_A w s.heap.size) 8 0 0 (MQ below (hm_Qi D w s.heap.size (fun r w2 => r = iI (if ((0 ≤ x ∧ x < 8) ∧ (0 ≤ y ∧ y < 8) ∧ 0 ≤ z ∧ z < 8) then (if 0 ≤ n ∧ n < 4 then (ct (fun v => jb n (mS I y v) (mS I z v)) 0 4096 : Nat) else -3) else -2) ∧ w2 = if ((0 ≤ x ∧ x < 8) ∧ (0 ≤ y ∧ y < 8) ∧ 0 ≤ z ∧ z < 8) ∧ 0 ≤ n ∧ n < 4 then hm_up w ia (mE K (jI I n x y z)) else w)) args s 0 0 (hm_A w s.heap.size)) w 18 [(0, .ref (q)), (1, .int (iI (x))), (2, .int (iI (y))), (3, .int (iI (z))), (4, .int (iI (n)))] [.int (bI (decide (0 ≤ z ∧ z ≤ 7)))]
      refine hv_if_neB E 24 dX7_join_18 (by decide) rfl (fun c3 => ?_) (fun c3 => ?_)
      · have c3 := of_decide_eq_true c3
        refine hv_iload E dX7_join_24 4 rfl rfl ?_
        refine hv_iconst E dX7_join_26 rfl ?_
        refine hv_iconst E dX7_join_27 rfl ?_
        refine hv_callSI (na := 3) (As := [.int (iI (n)), .int (iI (0)), .int (iI (3))]) (st := []) E (c7_within l D K n 0 3 hn ⟨by omega, by omega⟩ ⟨by omega, by omega⟩) dX7_join_28 gL_X7_17 gS_X7_within gC_X7_within gZ_X7 (by decide +kernel) rfl ⟨Nat.le_of_ble_eq_true rfl, Nat.le_of_ble_eq_true rfl⟩ (Nat.le_of_ble_eq_true rfl) ⟨Nat.zero_le _, Nat.zero_le _⟩ rfl rfl (fun r w2 hp => ?_)
        rw [hp.1, hp.2]
        show hm_V p l e (hm_rm 2 0 0) s m args below meth c D (hm_A w s.heap.size) 8 0 0 (MQ below (hm_Qi D w s.heap.size (fun r w2 => r = iI (if ((0 ≤ x ∧ x < 8) ∧ (0 ≤ y ∧ y < 8) ∧ 0 ≤ z ∧ z < 8) then (if 0 ≤ n ∧ n < 4 then (ct (fun v => jb n (mS I y v) (mS I z v)) 0 4096 : Nat) else -3) else -2) ∧ w2 = if ((0 ≤ x ∧ x < 8) ∧ (0 ≤ y ∧ y < 8) ∧ 0 ≤ z ∧ z < 8) ∧ 0 ≤ n ∧ n < 4 then hm_up w ia (mE K (jI I n x y z)) else w)) args s 0 0 (hm_A w s.heap.size)) w 31 [(0, .ref (q)), (1, .int (iI (x))), (2, .int (iI (y))), (3, .int (iI (z))), (4, .int (iI (n)))] [.int (bI (decide (0 ≤ n ∧ n ≤ 3)))]
        refine hv_if_neB E 37 dX7_join_31 (by decide) rfl (fun c4 => ?_) (fun c4 => ?_)
        · have c4 := of_decide_eq_true c4
          refine hv_iconst E dX7_join_37 rfl ?_
          refine hv_istore (lv2 := [(5, .int (iI (0))), (0, .ref (q)), (1, .int (iI (x))), (2, .int (iI (y))), (3, .int (iI (z))), (4, .int (iI (n)))]) E dX7_join_38 (by decide) rfl rfl ?_
          have hX : ((0 ≤ x ∧ x < 8) ∧ (0 ≤ y ∧ y < 8) ∧ 0 ≤ z ∧ z < 8) := by omega
          have hNn : 0 ≤ n ∧ n < 4 := by omega
          refine hv_mem (show w = hm_up w ia (mE K (fun (i : Nat) => if 4096 * x ≤ (i : Int) ∧ (i : Int) < 4096 * x + 0 then jb n (mS I y (i - 4096 * x.toNat)) (mS I z (i - 4096 * x.toNat)) else I i)) from (by
                rw [show (fun (i : Nat) => if 4096 * x ≤ (i : Int) ∧ (i : Int) < 4096 * x + 0 then jb n (mS I y (i - 4096 * x.toNat)) (mS I z (i - 4096 * x.toNat)) else I i) = I from funext fun i => by rw [if_neg (by omega)]]
                exact (hm_uid hm.2).symm)) ?_
          have LP : ∀ (k : Nat) (j : Int), (4096 - j < (k : Int)) → (0 ≤ j) → (j ≤ 4096) → hm_V p l e (hm_rm 2 0 0) s m args below meth c D (hm_A w s.heap.size) 8 0 0 (MQ below (hm_Qi D w s.heap.size (fun r w2 => r = iI (if ((0 ≤ x ∧ x < 8) ∧ (0 ≤ y ∧ y < 8) ∧ 0 ≤ z ∧ z < 8) then (if 0 ≤ n ∧ n < 4 then (ct (fun v => jb n (mS I y v) (mS I z v)) 0 4096 : Nat) else -3) else -2) ∧ w2 = if ((0 ≤ x ∧ x < 8) ∧ (0 ≤ y ∧ y < 8) ∧ 0 ≤ z ∧ z < 8) ∧ 0 ≤ n ∧ n < 4 then hm_up w ia (mE K (jI I n x y z)) else w)) args s 0 0 (hm_A w s.heap.size)) (hm_up w ia (mE K (fun (i : Nat) => if 4096 * x ≤ (i : Int) ∧ (i : Int) < 4096 * x + j then jb n (mS I y (i - 4096 * x.toNat)) (mS I z (i - 4096 * x.toNat)) else I i))) 40 [(5, .int (iI (j))), (0, .ref (q)), (1, .int (iI (x))), (2, .int (iI (y))), (3, .int (iI (z))), (4, .int (iI (n)))] [] := by
            intro k
            induction k with
            | zero =>
              intro j hk g0 g1
              exact absurd hk (by omega)
            | succ k ih =>
              intro j hk g0 g1
              have hm2 := hm.up (fun (i : Nat) => if 4096 * x ≤ (i : Int) ∧ (i : Int) < 4096 * x + j then jb n (mS I y (i - 4096 * x.toNat)) (mS I z (i - 4096 * x.toNat)) else I i)
              have hJy : j < 4096 → mS (fun (i : Nat) => if 4096 * x ≤ (i : Int) ∧ (i : Int) < 4096 * x + j then jb n (mS I y (i - 4096 * x.toNat)) (mS I z (i - 4096 * x.toNat)) else I i) y j.toNat = mS I y j.toNat := fun _ => by show (if _ then _ else _) = _; rw [if_neg (by omega)]; rfl
              have hJz : j < 4096 → mS (fun (i : Nat) => if 4096 * x ≤ (i : Int) ∧ (i : Int) < 4096 * x + j then jb n (mS I y (i - 4096 * x.toNat)) (mS I z (i - 4096 * x.toNat)) else I i) z j.toNat = mS I z j.toNat := fun _ => by show (if _ then _ else _) = _; rw [if_neg (by omega)]; rfl
              refine hv_iload E dX7_join_40 0 rfl rfl ?_
              refine hv_sipush E dX7_join_42 (by decide +kernel) rfl ?_
              refine hv_icmp_ge E 168 dX7_join_45 (by decide) ⟨by omega, by omega⟩ ⟨by omega, by omega⟩ rfl (fun c5 => ?_) (fun c5 => ?_)
              · skip
                refine hv_aload_n E dX7_join_168 rfl 1 rfl rfl ?_
                refine hv_iload_n E dX7_join_169 rfl 2 rfl rfl ?_
                refine hv_iconst E dX7_join_170 rfl ?_
                refine hv_sipush E dX7_join_171 (by decide +kernel) rfl ?_
                have hm3 : mI K (hm_up w ia (mE K (fun (i : Nat) => if 4096 * x ≤ (i : Int) ∧ (i : Int) < 4096 * x + j then jb n (mS I y (i - 4096 * x.toNat)) (mS I z (i - 4096 * x.toNat)) else I i))) q ia fs (jI I n x y z) := by
                  have : (fun (i : Nat) => if 4096 * x ≤ (i : Int) ∧ (i : Int) < 4096 * x + j then jb n (mS I y (i - 4096 * x.toNat)) (mS I z (i - 4096 * x.toNat)) else I i) = jI I n x y z := funext fun i => by unfold jI; rw [show j = 4096 by omega]
                  rw [this]; exact hm.up _
                refine hv_callVI (na := 3) (As := [.int (iI (x)), .int (iI (0)), .int (iI (4096))]) (st := []) E (c7_many l D K x 0 4096 (by omega) (by omega) (by omega) (by omega) (by omega) hm3) dX7_join_174 hm2.1 (show vwCl[6]? = some (RX7, TX7, 7) from rfl) gL_X7_36 gV_X7_many gI_X7_many gC_X7_many gZ_X7 (by decide +kernel) rfl ⟨Nat.le_of_ble_eq_true rfl, Nat.le_of_ble_eq_true rfl⟩ (Nat.le_of_ble_eq_true rfl) ⟨Nat.zero_le _, Nat.zero_le _⟩ rfl rfl (fun r w2 hp => ?_)
                rw [hp.1, hp.2]
                show hm_V p l e (hm_rm 2 0 0) s m args below meth c D (hm_A w s.heap.size) 8 0 0 (MQ below (hm_Qi D w s.heap.size (fun r w2 => r = iI (if ((0 ≤ x ∧ x < 8) ∧ (0 ≤ y ∧ y < 8) ∧ 0 ≤ z ∧ z < 8) then (if 0 ≤ n ∧ n < 4 then (ct (fun v => jb n (mS I y v) (mS I z v)) 0 4096 : Nat) else -3) else -2) ∧ w2 = if ((0 ≤ x ∧ x < 8) ∧ (0 ≤ y ∧ y < 8) ∧ 0 ≤ z ∧ z < 8) ∧ 0 ≤ n ∧ n < 4 then hm_up w ia (mE K (jI I n x y z)) else w)) args s 0 0 (hm_A w s.heap.size)) (hm_up w ia (mE K (fun (i : Nat) => if 4096 * x ≤ (i : Int) ∧ (i : Int) < 4096 * x + j then jb n (mS I y (i - 4096 * x.toNat)) (mS I z (i - 4096 * x.toNat)) else I i))) 177 [(5, .int (iI (j))), (0, .ref (q)), (1, .int (iI (x))), (2, .int (iI (y))), (3, .int (iI (z))), (4, .int (iI (n)))] [.int (iI ((ct (mS (jI I n x y z) x) (0 : Int).toNat (4096 - 0 : Int).toNat : Nat)))]
                exact hv_iret E dX7_join_177 hr ⟨by
                          rw [if_pos hX, if_pos hNn]
                          congr 2
                          exact ct_congr (fun i hi => by rw [jI_at (by omega) (show (0 : Int).toNat + i < 4096 by simp at hi ⊢; omega)]; rfl), by
                          rw [if_pos ⟨hX, hNn⟩]
                          congr 2
                          exact funext fun i => by unfold jI; rw [show j = 4096 by omega]⟩
              · skip
                refine hv_aload_n E dX7_join_48 rfl 1 rfl rfl ?_
                refine hv_iload_n E dX7_join_49 rfl 3 rfl rfl ?_
                refine hv_iload E dX7_join_50 0 rfl rfl ?_
                refine hv_callVI (na := 2) (As := [.int (iI (y)), .int (iI (j))]) (st := []) E (c7_is l D K y j (by omega) (by omega) (by omega) (by omega) hm2) dX7_join_52 hm2.1 (show vwCl[6]? = some (RX7, TX7, 7) from rfl) gL_X7_28 gV_X7_is gI_X7_is gC_X7_is gZ_X7 (by decide +kernel) rfl ⟨Nat.le_of_ble_eq_true rfl, Nat.le_of_ble_eq_true rfl⟩ (Nat.le_of_ble_eq_true rfl) ⟨Nat.zero_le _, Nat.zero_le _⟩ rfl rfl (fun r w2 hp => ?_)
                rw [hp.1, hp.2]
                show hm_V p l e (hm_rm 2 0 0) s m args below meth c D (hm_A w s.heap.size) 8 0 0 (MQ below (hm_Qi D w s.heap.size (fun r w2 => r = iI (if ((0 ≤ x ∧ x < 8) ∧ (0 ≤ y ∧ y < 8) ∧ 0 ≤ z ∧ z < 8) then (if 0 ≤ n ∧ n < 4 then (ct (fun v => jb n (mS I y v) (mS I z v)) 0 4096 : Nat) else -3) else -2) ∧ w2 = if ((0 ≤ x ∧ x < 8) ∧ (0 ≤ y ∧ y < 8) ∧ 0 ≤ z ∧ z < 8) ∧ 0 ≤ n ∧ n < 4 then hm_up w ia (mE K (jI I n x y z)) else w)) args s 0 0 (hm_A w s.heap.size)) (hm_up w ia (mE K (fun (i : Nat) => if 4096 * x ≤ (i : Int) ∧ (i : Int) < 4096 * x + j then jb n (mS I y (i - 4096 * x.toNat)) (mS I z (i - 4096 * x.toNat)) else I i))) 55 [(5, .int (iI (j))), (0, .ref (q)), (1, .int (iI (x))), (2, .int (iI (y))), (3, .int (iI (z))), (4, .int (iI (n)))] [.int (bI (mS (fun (i : Nat) => if 4096 * x ≤ (i : Int) ∧ (i : Int) < 4096 * x + j then jb n (mS I y (i - 4096 * x.toNat)) (mS I z (i - 4096 * x.toNat)) else I i) y (j).toNat))]
                refine hv_topi (show bI (mS (fun (i : Nat) => if 4096 * x ≤ (i : Int) ∧ (i : Int) < 4096 * x + j then jb n (mS I y (i - 4096 * x.toNat)) (mS I z (i - 4096 * x.toNat)) else I i) y (j).toNat) = bI (mS I y j.toNat) from (by rw [hJy (by omega)])) ?_
                refine hv_istore (lv2 := [(6, .int (bI (mS I y j.toNat))), (5, .int (iI (j))), (0, .ref (q)), (1, .int (iI (x))), (2, .int (iI (y))), (3, .int (iI (z))), (4, .int (iI (n)))]) E dX7_join_55 (by decide) rfl rfl ?_
                refine hv_aload_n E dX7_join_57 rfl 2 rfl rfl ?_
                refine hv_iload_n E dX7_join_58 rfl 5 rfl rfl ?_
                refine hv_iload E dX7_join_59 1 rfl rfl ?_
                refine hv_callVI (na := 2) (As := [.int (iI (z)), .int (iI (j))]) (st := []) E (c7_is l D K z j (by omega) (by omega) (by omega) (by omega) hm2) dX7_join_61 hm2.1 (show vwCl[6]? = some (RX7, TX7, 7) from rfl) gL_X7_28 gV_X7_is gI_X7_is gC_X7_is gZ_X7 (by decide +kernel) rfl ⟨Nat.le_of_ble_eq_true rfl, Nat.le_of_ble_eq_true rfl⟩ (Nat.le_of_ble_eq_true rfl) ⟨Nat.zero_le _, Nat.zero_le _⟩ rfl rfl (fun r w2 hp => ?_)
                rw [hp.1, hp.2]
                show hm_V p l e (hm_rm 2 0 0) s m args below meth c D (hm_A w s.heap.size) 8 0 0 (MQ below (hm_Qi D w s.heap.size (fun r w2 => r = iI (if ((0 ≤ x ∧ x < 8) ∧ (0 ≤ y ∧ y < 8) ∧ 0 ≤ z ∧ z < 8) then (if 0 ≤ n ∧ n < 4 then (ct (fun v => jb n (mS I y v) (mS I z v)) 0 4096 : Nat) else -3) else -2) ∧ w2 = if ((0 ≤ x ∧ x < 8) ∧ (0 ≤ y ∧ y < 8) ∧ 0 ≤ z ∧ z < 8) ∧ 0 ≤ n ∧ n < 4 then hm_up w ia (mE K (jI I n x y z)) else w)) args s 0 0 (hm_A w s.heap.size)) (hm_up w ia (mE K (fun (i : Nat) => if 4096 * x ≤ (i : Int) ∧ (i : Int) < 4096 * x + j then jb n (mS I y (i - 4096 * x.toNat)) (mS I z (i - 4096 * x.toNat)) else I i))) 64 [(6, .int (bI (mS I y j.toNat))), (5, .int (iI (j))), (0, .ref (q)), (1, .int (iI (x))), (2, .int (iI (y))), (3, .int (iI (z))), (4, .int (iI (n)))] [.int (bI (mS (fun (i : Nat) => if 4096 * x ≤ (i : Int) ∧ (i : Int) < 4096 * x + j then jb n (mS I y (i - 4096 * x.toNat)) (mS I z (i - 4096 * x.toNat)) else I i) z (j).toNat))]
                refine hv_topi (show bI (mS (fun (i : Nat) => if 4096 * x ≤ (i : Int) ∧ (i : Int) < 4096 * x + j then jb n (mS I y (i - 4096 * x.toNat)) (mS I z (i - 4096 * x.toNat)) else I i) z (j).toNat) = bI (mS I z j.toNat) from (by rw [hJz (by omega)])) ?_
                refine hv_istore (lv2 := [(7, .int (bI (mS I z j.toNat))), (6, .int (bI (mS I y j.toNat))), (5, .int (iI (j))), (0, .ref (q)), (1, .int (iI (x))), (2, .int (iI (y))), (3, .int (iI (z))), (4, .int (iI (n)))]) E dX7_join_64 (by decide) rfl rfl ?_
                refine hv_aload_n E dX7_join_66 rfl 3 rfl rfl ?_
                refine hv_get (kf := 0) E dX7_join_67 (show vwCl[6]? = some (RX7, TX7, 7) from rfl) (by decide) gW_X7 gF_X7_8 rfl hm2.1 rfl rfl ?_
                refine hv_sipush E dX7_join_70 (by decide +kernel) rfl ?_
                refine hv_iload_n E dX7_join_73 rfl 4 rfl rfl ?_
                refine hv_imul E dX7_join_74 rfl ?_
                refine hv_iload E dX7_join_75 2 rfl rfl ?_
                refine hv_iadd E dX7_join_77 rfl ?_
                refine hv_iload E dX7_join_78 7 rfl rfl ?_
                refine hv_if_ne E 101 dX7_join_80 (by decide) ⟨by omega, by omega⟩ rfl (fun c6 => ?_) (fun c6 => ?_)
                · skip
                  refine hv_iload E dX7_join_101 7 rfl rfl ?_
                  refine hv_iconst E dX7_join_103 rfl ?_
                  refine hv_icmp_ne E 125 dX7_join_104 (by decide) ⟨by omega, by omega⟩ ⟨by omega, by omega⟩ rfl (fun c7 => ?_) (fun c7 => ?_)
                  · skip
                    refine hv_iload E dX7_join_125 7 rfl rfl ?_
                    refine hv_iconst E dX7_join_127 rfl ?_
                    refine hv_icmp_ne E 149 dX7_join_128 (by decide) ⟨by omega, by omega⟩ ⟨by omega, by omega⟩ rfl (fun c8 => ?_) (fun c8 => ?_)
                    · skip
                      refine hv_iload E dX7_join_149 1 rfl rfl ?_
                      refine hv_iload E dX7_join_151 0 rfl rfl ?_
                      refine hv_icmp_eqB E 160 dX7_join_153 (by decide) rfl (fun c9 => ?_) (fun c9 => ?_)
                      · skip
                        refine hv_iconst E dX7_join_160 rfl ?_
                        refine hv_topi (show iI (0) = bI (false) from rfl) ?_
                        have hcst : false = jb n (mS I y j.toNat) (mS I z j.toNat) := by simp [jb, c5, c6, c7, c8, c9]
                        refine hv_zast E dX7_join_161 hm2.2 (by omega) (by omega) (by decide) rfl ?_
                        refine hv_mem (show hm_up (hm_up w ia (mE K (fun (i : Nat) => if 4096 * x ≤ (i : Int) ∧ (i : Int) < 4096 * x + j then jb n (mS I y (i - 4096 * x.toNat)) (mS I z (i - 4096 * x.toNat)) else I i))) ia (mE K (va_up (fun (i : Nat) => if 4096 * x ≤ (i : Int) ∧ (i : Int) < 4096 * x + j then jb n (mS I y (i - 4096 * x.toNat)) (mS I z (i - 4096 * x.toNat)) else I i) (4096 * x + j).toNat false)) = hm_up w ia (mE K (fun (i : Nat) => if 4096 * x ≤ (i : Int) ∧ (i : Int) < 4096 * x + (j + 1) then jb n (mS I y (i - 4096 * x.toNat)) (mS I z (i - 4096 * x.toNat)) else I i)) from (by
                                  rw [hm_uu]
                                  congr 2
                                  funext i
                                  show (if i = _ then _ else _) = _
                                  by_cases hi : i = (4096 * x + j).toNat
                                  · rw [if_pos hi, if_pos (by omega), hcst, show i - 4096 * x.toNat = j.toNat by omega]
                                  · rw [if_neg hi]
                                    show (if _ then _ else _) = _
                                    by_cases hi2 : 4096 * x ≤ (i : Int) ∧ (i : Int) < 4096 * x + j
                                    · rw [if_pos hi2, if_pos (by omega)]
                                    · rw [if_neg hi2, if_neg (by omega)])) ?_
                        refine hv_iinc (lv2 := [(5, .int (iI (j + 1))), (7, .int (bI (mS I z j.toNat))), (6, .int (bI (mS I y j.toNat))), (0, .ref (q)), (1, .int (iI (x))), (2, .int (iI (y))), (3, .int (iI (z))), (4, .int (iI (n)))]) E dX7_join_162 2 rfl rfl (by decide) rfl rfl ?_
                        refine hv_goto E 40 dX7_join_165 (by decide) ?_
                        refine hv_sub (lv2 := [(5, .int (iI (j + 1))), (0, .ref (q)), (1, .int (iI (x))), (2, .int (iI (y))), (3, .int (iI (z))), (4, .int (iI (n)))]) [0, 3, 4, 5, 6, 7] rfl ?_
                        exact ih (j + 1) (by omega) (by omega) (by omega)
                      · skip
                        refine hv_iconst E dX7_join_156 rfl ?_
                        refine hv_goto E 161 dX7_join_157 (by decide) ?_
                        refine hv_topi (show iI (1) = bI (true) from rfl) ?_
                        have hcst : true = jb n (mS I y j.toNat) (mS I z j.toNat) := by simp [jb, c5, c6, c7, c8, c9]
                        refine hv_zast E dX7_join_161 hm2.2 (by omega) (by omega) (by decide) rfl ?_
                        refine hv_mem (show hm_up (hm_up w ia (mE K (fun (i : Nat) => if 4096 * x ≤ (i : Int) ∧ (i : Int) < 4096 * x + j then jb n (mS I y (i - 4096 * x.toNat)) (mS I z (i - 4096 * x.toNat)) else I i))) ia (mE K (va_up (fun (i : Nat) => if 4096 * x ≤ (i : Int) ∧ (i : Int) < 4096 * x + j then jb n (mS I y (i - 4096 * x.toNat)) (mS I z (i - 4096 * x.toNat)) else I i) (4096 * x + j).toNat true)) = hm_up w ia (mE K (fun (i : Nat) => if 4096 * x ≤ (i : Int) ∧ (i : Int) < 4096 * x + (j + 1) then jb n (mS I y (i - 4096 * x.toNat)) (mS I z (i - 4096 * x.toNat)) else I i)) from (by
                                  rw [hm_uu]
                                  congr 2
                                  funext i
                                  show (if i = _ then _ else _) = _
                                  by_cases hi : i = (4096 * x + j).toNat
                                  · rw [if_pos hi, if_pos (by omega), hcst, show i - 4096 * x.toNat = j.toNat by omega]
                                  · rw [if_neg hi]
                                    show (if _ then _ else _) = _
                                    by_cases hi2 : 4096 * x ≤ (i : Int) ∧ (i : Int) < 4096 * x + j
                                    · rw [if_pos hi2, if_pos (by omega)]
                                    · rw [if_neg hi2, if_neg (by omega)])) ?_
                        refine hv_iinc (lv2 := [(5, .int (iI (j + 1))), (7, .int (bI (mS I z j.toNat))), (6, .int (bI (mS I y j.toNat))), (0, .ref (q)), (1, .int (iI (x))), (2, .int (iI (y))), (3, .int (iI (z))), (4, .int (iI (n)))]) E dX7_join_162 2 rfl rfl (by decide) rfl rfl ?_
                        refine hv_goto E 40 dX7_join_165 (by decide) ?_
                        refine hv_sub (lv2 := [(5, .int (iI (j + 1))), (0, .ref (q)), (1, .int (iI (x))), (2, .int (iI (y))), (3, .int (iI (z))), (4, .int (iI (n)))]) [0, 3, 4, 5, 6, 7] rfl ?_
                        exact ih (j + 1) (by omega) (by omega) (by omega)
                    · skip
                      refine hv_iload E dX7_join_131 1 rfl rfl ?_
                      refine hv_if_eqB E 145 dX7_join_133 (by decide) rfl (fun c10 => ?_) (fun c10 => ?_)
                      · refine hv_iconst E dX7_join_145 rfl ?_
                        refine hv_goto E 161 dX7_join_146 (by decide) ?_
                        refine hv_topi (show iI (0) = bI (false) from rfl) ?_
                        have hcst : false = jb n (mS I y j.toNat) (mS I z j.toNat) := by simp [jb, c5, c6, c7, c8, c10]
                        refine hv_zast E dX7_join_161 hm2.2 (by omega) (by omega) (by decide) rfl ?_
                        refine hv_mem (show hm_up (hm_up w ia (mE K (fun (i : Nat) => if 4096 * x ≤ (i : Int) ∧ (i : Int) < 4096 * x + j then jb n (mS I y (i - 4096 * x.toNat)) (mS I z (i - 4096 * x.toNat)) else I i))) ia (mE K (va_up (fun (i : Nat) => if 4096 * x ≤ (i : Int) ∧ (i : Int) < 4096 * x + j then jb n (mS I y (i - 4096 * x.toNat)) (mS I z (i - 4096 * x.toNat)) else I i) (4096 * x + j).toNat false)) = hm_up w ia (mE K (fun (i : Nat) => if 4096 * x ≤ (i : Int) ∧ (i : Int) < 4096 * x + (j + 1) then jb n (mS I y (i - 4096 * x.toNat)) (mS I z (i - 4096 * x.toNat)) else I i)) from (by
                                  rw [hm_uu]
                                  congr 2
                                  funext i
                                  show (if i = _ then _ else _) = _
                                  by_cases hi : i = (4096 * x + j).toNat
                                  · rw [if_pos hi, if_pos (by omega), hcst, show i - 4096 * x.toNat = j.toNat by omega]
                                  · rw [if_neg hi]
                                    show (if _ then _ else _) = _
                                    by_cases hi2 : 4096 * x ≤ (i : Int) ∧ (i : Int) < 4096 * x + j
                                    · rw [if_pos hi2, if_pos (by omega)]
                                    · rw [if_neg hi2, if_neg (by omega)])) ?_
                        refine hv_iinc (lv2 := [(5, .int (iI (j + 1))), (7, .int (bI (mS I z j.toNat))), (6, .int (bI (mS I y j.toNat))), (0, .ref (q)), (1, .int (iI (x))), (2, .int (iI (y))), (3, .int (iI (z))), (4, .int (iI (n)))]) E dX7_join_162 2 rfl rfl (by decide) rfl rfl ?_
                        refine hv_goto E 40 dX7_join_165 (by decide) ?_
                        refine hv_sub (lv2 := [(5, .int (iI (j + 1))), (0, .ref (q)), (1, .int (iI (x))), (2, .int (iI (y))), (3, .int (iI (z))), (4, .int (iI (n)))]) [0, 3, 4, 5, 6, 7] rfl ?_
                        exact ih (j + 1) (by omega) (by omega) (by omega)
                      · refine hv_iload E dX7_join_136 0 rfl rfl ?_
                        refine hv_if_neB E 145 dX7_join_138 (by decide) rfl (fun c11 => ?_) (fun c11 => ?_)
                        · refine hv_iconst E dX7_join_145 rfl ?_
                          refine hv_goto E 161 dX7_join_146 (by decide) ?_
                          refine hv_topi (show iI (0) = bI (false) from rfl) ?_
                          have hcst : false = jb n (mS I y j.toNat) (mS I z j.toNat) := by simp [jb, c5, c6, c7, c8, c10, c11]
                          refine hv_zast E dX7_join_161 hm2.2 (by omega) (by omega) (by decide) rfl ?_
                          refine hv_mem (show hm_up (hm_up w ia (mE K (fun (i : Nat) => if 4096 * x ≤ (i : Int) ∧ (i : Int) < 4096 * x + j then jb n (mS I y (i - 4096 * x.toNat)) (mS I z (i - 4096 * x.toNat)) else I i))) ia (mE K (va_up (fun (i : Nat) => if 4096 * x ≤ (i : Int) ∧ (i : Int) < 4096 * x + j then jb n (mS I y (i - 4096 * x.toNat)) (mS I z (i - 4096 * x.toNat)) else I i) (4096 * x + j).toNat false)) = hm_up w ia (mE K (fun (i : Nat) => if 4096 * x ≤ (i : Int) ∧ (i : Int) < 4096 * x + (j + 1) then jb n (mS I y (i - 4096 * x.toNat)) (mS I z (i - 4096 * x.toNat)) else I i)) from (by
                                    rw [hm_uu]
                                    congr 2
                                    funext i
                                    show (if i = _ then _ else _) = _
                                    by_cases hi : i = (4096 * x + j).toNat
                                    · rw [if_pos hi, if_pos (by omega), hcst, show i - 4096 * x.toNat = j.toNat by omega]
                                    · rw [if_neg hi]
                                      show (if _ then _ else _) = _
                                      by_cases hi2 : 4096 * x ≤ (i : Int) ∧ (i : Int) < 4096 * x + j
                                      · rw [if_pos hi2, if_pos (by omega)]
                                      · rw [if_neg hi2, if_neg (by omega)])) ?_
                          refine hv_iinc (lv2 := [(5, .int (iI (j + 1))), (7, .int (bI (mS I z j.toNat))), (6, .int (bI (mS I y j.toNat))), (0, .ref (q)), (1, .int (iI (x))), (2, .int (iI (y))), (3, .int (iI (z))), (4, .int (iI (n)))]) E dX7_join_162 2 rfl rfl (by decide) rfl rfl ?_
                          refine hv_goto E 40 dX7_join_165 (by decide) ?_
                          refine hv_sub (lv2 := [(5, .int (iI (j + 1))), (0, .ref (q)), (1, .int (iI (x))), (2, .int (iI (y))), (3, .int (iI (z))), (4, .int (iI (n)))]) [0, 3, 4, 5, 6, 7] rfl ?_
                          exact ih (j + 1) (by omega) (by omega) (by omega)
                        · refine hv_iconst E dX7_join_141 rfl ?_
                          refine hv_goto E 161 dX7_join_142 (by decide) ?_
                          refine hv_topi (show iI (1) = bI (true) from rfl) ?_
                          have hcst : true = jb n (mS I y j.toNat) (mS I z j.toNat) := by simp [jb, c5, c6, c7, c8, c10, c11]
                          refine hv_zast E dX7_join_161 hm2.2 (by omega) (by omega) (by decide) rfl ?_
                          refine hv_mem (show hm_up (hm_up w ia (mE K (fun (i : Nat) => if 4096 * x ≤ (i : Int) ∧ (i : Int) < 4096 * x + j then jb n (mS I y (i - 4096 * x.toNat)) (mS I z (i - 4096 * x.toNat)) else I i))) ia (mE K (va_up (fun (i : Nat) => if 4096 * x ≤ (i : Int) ∧ (i : Int) < 4096 * x + j then jb n (mS I y (i - 4096 * x.toNat)) (mS I z (i - 4096 * x.toNat)) else I i) (4096 * x + j).toNat true)) = hm_up w ia (mE K (fun (i : Nat) => if 4096 * x ≤ (i : Int) ∧ (i : Int) < 4096 * x + (j + 1) then jb n (mS I y (i - 4096 * x.toNat)) (mS I z (i - 4096 * x.toNat)) else I i)) from (by
                                    rw [hm_uu]
                                    congr 2
                                    funext i
                                    show (if i = _ then _ else _) = _
                                    by_cases hi : i = (4096 * x + j).toNat
                                    · rw [if_pos hi, if_pos (by omega), hcst, show i - 4096 * x.toNat = j.toNat by omega]
                                    · rw [if_neg hi]
                                      show (if _ then _ else _) = _
                                      by_cases hi2 : 4096 * x ≤ (i : Int) ∧ (i : Int) < 4096 * x + j
                                      · rw [if_pos hi2, if_pos (by omega)]
                                      · rw [if_neg hi2, if_neg (by omega)])) ?_
                          refine hv_iinc (lv2 := [(5, .int (iI (j + 1))), (7, .int (bI (mS I z j.toNat))), (6, .int (bI (mS I y j.toNat))), (0, .ref (q)), (1, .int (iI (x))), (2, .int (iI (y))), (3, .int (iI (z))), (4, .int (iI (n)))]) E dX7_join_162 2 rfl rfl (by decide) rfl rfl ?_
                          refine hv_goto E 40 dX7_join_165 (by decide) ?_
                          refine hv_sub (lv2 := [(5, .int (iI (j + 1))), (0, .ref (q)), (1, .int (iI (x))), (2, .int (iI (y))), (3, .int (iI (z))), (4, .int (iI (n)))]) [0, 3, 4, 5, 6, 7] rfl ?_
                          exact ih (j + 1) (by omega) (by omega) (by omega)
                  · skip
                    refine hv_iload E dX7_join_107 1 rfl rfl ?_
                    refine hv_if_neB E 117 dX7_join_109 (by decide) rfl (fun c12 => ?_) (fun c12 => ?_)
                    · refine hv_iconst E dX7_join_117 rfl ?_
                      refine hv_goto E 161 dX7_join_118 (by decide) ?_
                      refine hv_topi (show iI (1) = bI (true) from rfl) ?_
                      have hcst : true = jb n (mS I y j.toNat) (mS I z j.toNat) := by simp [jb, c5, c6, c7, c12]
                      refine hv_zast E dX7_join_161 hm2.2 (by omega) (by omega) (by decide) rfl ?_
                      refine hv_mem (show hm_up (hm_up w ia (mE K (fun (i : Nat) => if 4096 * x ≤ (i : Int) ∧ (i : Int) < 4096 * x + j then jb n (mS I y (i - 4096 * x.toNat)) (mS I z (i - 4096 * x.toNat)) else I i))) ia (mE K (va_up (fun (i : Nat) => if 4096 * x ≤ (i : Int) ∧ (i : Int) < 4096 * x + j then jb n (mS I y (i - 4096 * x.toNat)) (mS I z (i - 4096 * x.toNat)) else I i) (4096 * x + j).toNat true)) = hm_up w ia (mE K (fun (i : Nat) => if 4096 * x ≤ (i : Int) ∧ (i : Int) < 4096 * x + (j + 1) then jb n (mS I y (i - 4096 * x.toNat)) (mS I z (i - 4096 * x.toNat)) else I i)) from (by
                                rw [hm_uu]
                                congr 2
                                funext i
                                show (if i = _ then _ else _) = _
                                by_cases hi : i = (4096 * x + j).toNat
                                · rw [if_pos hi, if_pos (by omega), hcst, show i - 4096 * x.toNat = j.toNat by omega]
                                · rw [if_neg hi]
                                  show (if _ then _ else _) = _
                                  by_cases hi2 : 4096 * x ≤ (i : Int) ∧ (i : Int) < 4096 * x + j
                                  · rw [if_pos hi2, if_pos (by omega)]
                                  · rw [if_neg hi2, if_neg (by omega)])) ?_
                      refine hv_iinc (lv2 := [(5, .int (iI (j + 1))), (7, .int (bI (mS I z j.toNat))), (6, .int (bI (mS I y j.toNat))), (0, .ref (q)), (1, .int (iI (x))), (2, .int (iI (y))), (3, .int (iI (z))), (4, .int (iI (n)))]) E dX7_join_162 2 rfl rfl (by decide) rfl rfl ?_
                      refine hv_goto E 40 dX7_join_165 (by decide) ?_
                      refine hv_sub (lv2 := [(5, .int (iI (j + 1))), (0, .ref (q)), (1, .int (iI (x))), (2, .int (iI (y))), (3, .int (iI (z))), (4, .int (iI (n)))]) [0, 3, 4, 5, 6, 7] rfl ?_
                      exact ih (j + 1) (by omega) (by omega) (by omega)
                    · refine hv_iload E dX7_join_112 0 rfl rfl ?_
                      refine hv_if_eqB E 121 dX7_join_114 (by decide) rfl (fun c13 => ?_) (fun c13 => ?_)
                      · refine hv_iconst E dX7_join_121 rfl ?_
                        refine hv_goto E 161 dX7_join_122 (by decide) ?_
                        refine hv_topi (show iI (0) = bI (false) from rfl) ?_
                        have hcst : false = jb n (mS I y j.toNat) (mS I z j.toNat) := by simp [jb, c5, c6, c7, c12, c13]
                        refine hv_zast E dX7_join_161 hm2.2 (by omega) (by omega) (by decide) rfl ?_
                        refine hv_mem (show hm_up (hm_up w ia (mE K (fun (i : Nat) => if 4096 * x ≤ (i : Int) ∧ (i : Int) < 4096 * x + j then jb n (mS I y (i - 4096 * x.toNat)) (mS I z (i - 4096 * x.toNat)) else I i))) ia (mE K (va_up (fun (i : Nat) => if 4096 * x ≤ (i : Int) ∧ (i : Int) < 4096 * x + j then jb n (mS I y (i - 4096 * x.toNat)) (mS I z (i - 4096 * x.toNat)) else I i) (4096 * x + j).toNat false)) = hm_up w ia (mE K (fun (i : Nat) => if 4096 * x ≤ (i : Int) ∧ (i : Int) < 4096 * x + (j + 1) then jb n (mS I y (i - 4096 * x.toNat)) (mS I z (i - 4096 * x.toNat)) else I i)) from (by
                                  rw [hm_uu]
                                  congr 2
                                  funext i
                                  show (if i = _ then _ else _) = _
                                  by_cases hi : i = (4096 * x + j).toNat
                                  · rw [if_pos hi, if_pos (by omega), hcst, show i - 4096 * x.toNat = j.toNat by omega]
                                  · rw [if_neg hi]
                                    show (if _ then _ else _) = _
                                    by_cases hi2 : 4096 * x ≤ (i : Int) ∧ (i : Int) < 4096 * x + j
                                    · rw [if_pos hi2, if_pos (by omega)]
                                    · rw [if_neg hi2, if_neg (by omega)])) ?_
                        refine hv_iinc (lv2 := [(5, .int (iI (j + 1))), (7, .int (bI (mS I z j.toNat))), (6, .int (bI (mS I y j.toNat))), (0, .ref (q)), (1, .int (iI (x))), (2, .int (iI (y))), (3, .int (iI (z))), (4, .int (iI (n)))]) E dX7_join_162 2 rfl rfl (by decide) rfl rfl ?_
                        refine hv_goto E 40 dX7_join_165 (by decide) ?_
                        refine hv_sub (lv2 := [(5, .int (iI (j + 1))), (0, .ref (q)), (1, .int (iI (x))), (2, .int (iI (y))), (3, .int (iI (z))), (4, .int (iI (n)))]) [0, 3, 4, 5, 6, 7] rfl ?_
                        exact ih (j + 1) (by omega) (by omega) (by omega)
                      · refine hv_iconst E dX7_join_117 rfl ?_
                        refine hv_goto E 161 dX7_join_118 (by decide) ?_
                        refine hv_topi (show iI (1) = bI (true) from rfl) ?_
                        have hcst : true = jb n (mS I y j.toNat) (mS I z j.toNat) := by simp [jb, c5, c6, c7, c12, c13]
                        refine hv_zast E dX7_join_161 hm2.2 (by omega) (by omega) (by decide) rfl ?_
                        refine hv_mem (show hm_up (hm_up w ia (mE K (fun (i : Nat) => if 4096 * x ≤ (i : Int) ∧ (i : Int) < 4096 * x + j then jb n (mS I y (i - 4096 * x.toNat)) (mS I z (i - 4096 * x.toNat)) else I i))) ia (mE K (va_up (fun (i : Nat) => if 4096 * x ≤ (i : Int) ∧ (i : Int) < 4096 * x + j then jb n (mS I y (i - 4096 * x.toNat)) (mS I z (i - 4096 * x.toNat)) else I i) (4096 * x + j).toNat true)) = hm_up w ia (mE K (fun (i : Nat) => if 4096 * x ≤ (i : Int) ∧ (i : Int) < 4096 * x + (j + 1) then jb n (mS I y (i - 4096 * x.toNat)) (mS I z (i - 4096 * x.toNat)) else I i)) from (by
                                  rw [hm_uu]
                                  congr 2
                                  funext i
                                  show (if i = _ then _ else _) = _
                                  by_cases hi : i = (4096 * x + j).toNat
                                  · rw [if_pos hi, if_pos (by omega), hcst, show i - 4096 * x.toNat = j.toNat by omega]
                                  · rw [if_neg hi]
                                    show (if _ then _ else _) = _
                                    by_cases hi2 : 4096 * x ≤ (i : Int) ∧ (i : Int) < 4096 * x + j
                                    · rw [if_pos hi2, if_pos (by omega)]
                                    · rw [if_neg hi2, if_neg (by omega)])) ?_
                        refine hv_iinc (lv2 := [(5, .int (iI (j + 1))), (7, .int (bI (mS I z j.toNat))), (6, .int (bI (mS I y j.toNat))), (0, .ref (q)), (1, .int (iI (x))), (2, .int (iI (y))), (3, .int (iI (z))), (4, .int (iI (n)))]) E dX7_join_162 2 rfl rfl (by decide) rfl rfl ?_
                        refine hv_goto E 40 dX7_join_165 (by decide) ?_
                        refine hv_sub (lv2 := [(5, .int (iI (j + 1))), (0, .ref (q)), (1, .int (iI (x))), (2, .int (iI (y))), (3, .int (iI (z))), (4, .int (iI (n)))]) [0, 3, 4, 5, 6, 7] rfl ?_
                        exact ih (j + 1) (by omega) (by omega) (by omega)
                · skip
                  refine hv_iload E dX7_join_83 1 rfl rfl ?_
                  refine hv_if_eqB E 97 dX7_join_85 (by decide) rfl (fun c14 => ?_) (fun c14 => ?_)
                  · refine hv_iconst E dX7_join_97 rfl ?_
                    refine hv_goto E 161 dX7_join_98 (by decide) ?_
                    refine hv_topi (show iI (0) = bI (false) from rfl) ?_
                    have hcst : false = jb n (mS I y j.toNat) (mS I z j.toNat) := by simp [jb, c5, c6, c14]
                    refine hv_zast E dX7_join_161 hm2.2 (by omega) (by omega) (by decide) rfl ?_
                    refine hv_mem (show hm_up (hm_up w ia (mE K (fun (i : Nat) => if 4096 * x ≤ (i : Int) ∧ (i : Int) < 4096 * x + j then jb n (mS I y (i - 4096 * x.toNat)) (mS I z (i - 4096 * x.toNat)) else I i))) ia (mE K (va_up (fun (i : Nat) => if 4096 * x ≤ (i : Int) ∧ (i : Int) < 4096 * x + j then jb n (mS I y (i - 4096 * x.toNat)) (mS I z (i - 4096 * x.toNat)) else I i) (4096 * x + j).toNat false)) = hm_up w ia (mE K (fun (i : Nat) => if 4096 * x ≤ (i : Int) ∧ (i : Int) < 4096 * x + (j + 1) then jb n (mS I y (i - 4096 * x.toNat)) (mS I z (i - 4096 * x.toNat)) else I i)) from (by
                              rw [hm_uu]
                              congr 2
                              funext i
                              show (if i = _ then _ else _) = _
                              by_cases hi : i = (4096 * x + j).toNat
                              · rw [if_pos hi, if_pos (by omega), hcst, show i - 4096 * x.toNat = j.toNat by omega]
                              · rw [if_neg hi]
                                show (if _ then _ else _) = _
                                by_cases hi2 : 4096 * x ≤ (i : Int) ∧ (i : Int) < 4096 * x + j
                                · rw [if_pos hi2, if_pos (by omega)]
                                · rw [if_neg hi2, if_neg (by omega)])) ?_
                    refine hv_iinc (lv2 := [(5, .int (iI (j + 1))), (7, .int (bI (mS I z j.toNat))), (6, .int (bI (mS I y j.toNat))), (0, .ref (q)), (1, .int (iI (x))), (2, .int (iI (y))), (3, .int (iI (z))), (4, .int (iI (n)))]) E dX7_join_162 2 rfl rfl (by decide) rfl rfl ?_
                    refine hv_goto E 40 dX7_join_165 (by decide) ?_
                    refine hv_sub (lv2 := [(5, .int (iI (j + 1))), (0, .ref (q)), (1, .int (iI (x))), (2, .int (iI (y))), (3, .int (iI (z))), (4, .int (iI (n)))]) [0, 3, 4, 5, 6, 7] rfl ?_
                    exact ih (j + 1) (by omega) (by omega) (by omega)
                  · refine hv_iload E dX7_join_88 0 rfl rfl ?_
                    refine hv_if_eqB E 97 dX7_join_90 (by decide) rfl (fun c15 => ?_) (fun c15 => ?_)
                    · refine hv_iconst E dX7_join_97 rfl ?_
                      refine hv_goto E 161 dX7_join_98 (by decide) ?_
                      refine hv_topi (show iI (0) = bI (false) from rfl) ?_
                      have hcst : false = jb n (mS I y j.toNat) (mS I z j.toNat) := by simp [jb, c5, c6, c14, c15]
                      refine hv_zast E dX7_join_161 hm2.2 (by omega) (by omega) (by decide) rfl ?_
                      refine hv_mem (show hm_up (hm_up w ia (mE K (fun (i : Nat) => if 4096 * x ≤ (i : Int) ∧ (i : Int) < 4096 * x + j then jb n (mS I y (i - 4096 * x.toNat)) (mS I z (i - 4096 * x.toNat)) else I i))) ia (mE K (va_up (fun (i : Nat) => if 4096 * x ≤ (i : Int) ∧ (i : Int) < 4096 * x + j then jb n (mS I y (i - 4096 * x.toNat)) (mS I z (i - 4096 * x.toNat)) else I i) (4096 * x + j).toNat false)) = hm_up w ia (mE K (fun (i : Nat) => if 4096 * x ≤ (i : Int) ∧ (i : Int) < 4096 * x + (j + 1) then jb n (mS I y (i - 4096 * x.toNat)) (mS I z (i - 4096 * x.toNat)) else I i)) from (by
                                rw [hm_uu]
                                congr 2
                                funext i
                                show (if i = _ then _ else _) = _
                                by_cases hi : i = (4096 * x + j).toNat
                                · rw [if_pos hi, if_pos (by omega), hcst, show i - 4096 * x.toNat = j.toNat by omega]
                                · rw [if_neg hi]
                                  show (if _ then _ else _) = _
                                  by_cases hi2 : 4096 * x ≤ (i : Int) ∧ (i : Int) < 4096 * x + j
                                  · rw [if_pos hi2, if_pos (by omega)]
                                  · rw [if_neg hi2, if_neg (by omega)])) ?_
                      refine hv_iinc (lv2 := [(5, .int (iI (j + 1))), (7, .int (bI (mS I z j.toNat))), (6, .int (bI (mS I y j.toNat))), (0, .ref (q)), (1, .int (iI (x))), (2, .int (iI (y))), (3, .int (iI (z))), (4, .int (iI (n)))]) E dX7_join_162 2 rfl rfl (by decide) rfl rfl ?_
                      refine hv_goto E 40 dX7_join_165 (by decide) ?_
                      refine hv_sub (lv2 := [(5, .int (iI (j + 1))), (0, .ref (q)), (1, .int (iI (x))), (2, .int (iI (y))), (3, .int (iI (z))), (4, .int (iI (n)))]) [0, 3, 4, 5, 6, 7] rfl ?_
                      exact ih (j + 1) (by omega) (by omega) (by omega)
                    · refine hv_iconst E dX7_join_93 rfl ?_
                      refine hv_goto E 161 dX7_join_94 (by decide) ?_
                      refine hv_topi (show iI (1) = bI (true) from rfl) ?_
                      have hcst : true = jb n (mS I y j.toNat) (mS I z j.toNat) := by simp [jb, c5, c6, c14, c15]
                      refine hv_zast E dX7_join_161 hm2.2 (by omega) (by omega) (by decide) rfl ?_
                      refine hv_mem (show hm_up (hm_up w ia (mE K (fun (i : Nat) => if 4096 * x ≤ (i : Int) ∧ (i : Int) < 4096 * x + j then jb n (mS I y (i - 4096 * x.toNat)) (mS I z (i - 4096 * x.toNat)) else I i))) ia (mE K (va_up (fun (i : Nat) => if 4096 * x ≤ (i : Int) ∧ (i : Int) < 4096 * x + j then jb n (mS I y (i - 4096 * x.toNat)) (mS I z (i - 4096 * x.toNat)) else I i) (4096 * x + j).toNat true)) = hm_up w ia (mE K (fun (i : Nat) => if 4096 * x ≤ (i : Int) ∧ (i : Int) < 4096 * x + (j + 1) then jb n (mS I y (i - 4096 * x.toNat)) (mS I z (i - 4096 * x.toNat)) else I i)) from (by
                                rw [hm_uu]
                                congr 2
                                funext i
                                show (if i = _ then _ else _) = _
                                by_cases hi : i = (4096 * x + j).toNat
                                · rw [if_pos hi, if_pos (by omega), hcst, show i - 4096 * x.toNat = j.toNat by omega]
                                · rw [if_neg hi]
                                  show (if _ then _ else _) = _
                                  by_cases hi2 : 4096 * x ≤ (i : Int) ∧ (i : Int) < 4096 * x + j
                                  · rw [if_pos hi2, if_pos (by omega)]
                                  · rw [if_neg hi2, if_neg (by omega)])) ?_
                      refine hv_iinc (lv2 := [(5, .int (iI (j + 1))), (7, .int (bI (mS I z j.toNat))), (6, .int (bI (mS I y j.toNat))), (0, .ref (q)), (1, .int (iI (x))), (2, .int (iI (y))), (3, .int (iI (z))), (4, .int (iI (n)))]) E dX7_join_162 2 rfl rfl (by decide) rfl rfl ?_
                      refine hv_goto E 40 dX7_join_165 (by decide) ?_
                      refine hv_sub (lv2 := [(5, .int (iI (j + 1))), (0, .ref (q)), (1, .int (iI (x))), (2, .int (iI (y))), (3, .int (iI (z))), (4, .int (iI (n)))]) [0, 3, 4, 5, 6, 7] rfl ?_
                      exact ih (j + 1) (by omega) (by omega) (by omega)
          refine hv_sub (lv2 := [(5, .int (iI (0))), (0, .ref (q)), (1, .int (iI (x))), (2, .int (iI (y))), (3, .int (iI (z))), (4, .int (iI (n)))]) [0, 1, 2, 3, 4, 5] rfl ?_
          exact LP 4097 0 (by omega) (by omega) (by omega)
        · have c4 := of_decide_eq_false c4
          refine hv_bipush E dX7_join_34 (by decide +kernel) rfl ?_
          exact hv_iret E dX7_join_36 hr ⟨(by (repeat (first | rw [if_pos (by omega)] | rw [if_neg (by omega)])) <;> first | done | rfl), (by (repeat (first | rw [if_pos (by omega)] | rw [if_neg (by omega)])) <;> first | done | rfl)⟩
      · have c3 := of_decide_eq_false c3
        refine hv_bipush E dX7_join_21 (by decide +kernel) rfl ?_
        exact hv_iret E dX7_join_23 hr ⟨(by (repeat (first | rw [if_pos (by omega)] | rw [if_neg (by omega)])) <;> first | done | rfl), (by (repeat (first | rw [if_pos (by omega)] | rw [if_neg (by omega)])) <;> first | done | rfl)⟩
end
section
/-- the class's cells: ad 0 the object, 1 sets, 2 codes, 3 tape, 4 told, 5 the tape's words, 6 told's words, 7..9 the codes, 10+i the sets, 20+i their words -/
def kAt (K : Nat → ClassId) (w : hm_M) (ad : Nat → Nat) (F : Nat → Nat → Int32) (tf : Nat → Int32) (L P : Int) (df : Nat → Int32) : Prop :=
  w (ad 0) = some (.inr (5, [.ref (ad 1), .ref (ad 2), .ref (ad 3), .ref (ad 4)])) ∧
  (∃ fa : Nat → Option Nat, w (ad 1) = some (.inl (K 2, 8, .inr (.inr (.inr (.inr fa))))) ∧ ∀ i, i < 8 → fa i = some (ad (10 + i))) ∧
  (∃ fc : Nat → Option Nat, w (ad 2) = some (.inl (K 3, 3, .inr (.inr (.inr (.inr fc))))) ∧ fc 0 = some (ad 7) ∧ fc 1 = some (ad 8) ∧ fc 2 = some (ad 9)) ∧
  (w (ad 7) = some (.inr (4, [])) ∧ w (ad 8) = some (.inr (0, [])) ∧ w (ad 9) = some (.inr (2, []))) ∧
  tAt K w (ad 3) (ad 5) tf L P ∧ nAt K w (ad 4) (ad 6) df ∧ (∀ i, i < 8 → nAt K w (ad (10 + i)) (ad (20 + i)) (F i)) ∧
  (∀ i j, i < 8 → j < 8 → ad (20 + i) = ad (20 + j) → i = j) ∧ (∀ i, i < 8 → ad (20 + i) ≠ ad 6) ∧ 0 ≤ L ∧ L ≤ 8210
/-- outside the class's cells nothing changed -/
def kFr (ad : Nat → Nat) (w w2 : hm_M) : Prop := ∀ q, (∀ i, i < 28 → q ≠ ad i) → w2 q = w q
theorem kFr.rf {ad : Nat → Nat} {w : hm_M} : kFr ad w w := fun _ _ => rfl
theorem kFr.tr {ad : Nat → Nat} {w w2 w3 : hm_M} (h : kFr ad w w2) (h2 : kFr ad w2 w3) : kFr ad w w3 := fun q hq => (h2 q hq).trans (h q hq)
theorem kFr.up {ad : Nat → Nat} {w : hm_M} {e : va_E} (i : Nat) (hi : i < 28) : kFr ad w (hm_up w (ad i) e) := fun q hq => hm_un (hq i hi)
theorem kFr.tM {K : Nat → ClassId} {ad : Nat → Nat} {w : hm_M} {f : Nat → Int32} {L P : Int} : kFr ad w (tM K w (ad 3) (ad 5) f L P) := fun q hq => tM_other (hq 3 (by omega)) (hq 5 (by omega))
section KA
variable {K : Nat → ClassId} {w : hm_M} {ad : Nat → Nat} {F : Nat → Nat → Int32} {tf : Nat → Int32} {L P : Int} {df : Nat → Int32}
theorem kAt.o (h : kAt K w ad F tf L P df) : w (ad 0) = some (.inr (5, [.ref (ad 1), .ref (ad 2), .ref (ad 3), .ref (ad 4)])) := h.1
theorem kAt.t (h : kAt K w ad F tf L P df) : tAt K w (ad 3) (ad 5) tf L P := h.2.2.2.2.1
theorem kAt.d (h : kAt K w ad F tf L P df) : nAt K w (ad 4) (ad 6) df := h.2.2.2.2.2.1
theorem kAt.n (h : kAt K w ad F tf L P df) {i : Nat} (hi : i < 8) : nAt K w (ad (10 + i)) (ad (20 + i)) (F i) := h.2.2.2.2.2.2.1 i hi
theorem kAt.L0 (h : kAt K w ad F tf L P df) : 0 ≤ L := h.2.2.2.2.2.2.2.2.2.1
theorem kAt.L1 (h : kAt K w ad F tf L P df) : L ≤ 8210 := h.2.2.2.2.2.2.2.2.2.2
/-- another int row at the words of set x -/
theorem kAt.set (h : kAt K w ad F tf L P df) {x : Nat} (hx : x < 8) (f2 : Nat → Int32) : kAt K (hm_up w (ad (20 + x)) (.inl (K 0, 128, .inl f2))) ad (fun i => if i = x then f2 else F i) tf L P df := by
  obtain ⟨h0, ⟨fa, h1, h1'⟩, ⟨fc, h2, h2'⟩, ⟨h3, h4, h5⟩, h6, h7, h8, h9, h10, h11⟩ := h
  have hw := (h8 x hx).2
  have nr : ∀ {a : Nat} {o : Nat × List Value}, w a = some (.inr o) → a ≠ ad (20 + x) := fun ha e => by rw [e, hw] at ha; cases ha
  have na : ∀ {a n : Nat} {c : ClassId} {z}, w a = some (.inl (c, n, z)) → n ≠ 128 → a ≠ ad (20 + x) := fun ha hn e => by rw [e, hw] at ha; simp at ha; omega
  refine ⟨by rw [hm_un (nr h0)]; exact h0, ⟨fa, by rw [hm_un (na h1 (by omega))]; exact h1, h1'⟩, ⟨fc, by rw [hm_un (na h2 (by omega))]; exact h2, h2'⟩, ⟨by rw [hm_un (nr h3)]; exact h3, by rw [hm_un (nr h4)]; exact h4, by rw [hm_un (nr h5)]; exact h5⟩, ⟨by rw [hm_un (nr h6.1)]; exact h6.1, by rw [hm_un (na h6.2 (by omega))]; exact h6.2⟩, ⟨by rw [hm_un (nr h7.1)]; exact h7.1, by rw [hm_un (Ne.symm (h10 x hx))]; exact h7.2⟩, fun i hi => ?_, h9, h10, h11⟩
  by_cases hi2 : i = x
  · subst hi2
    exact ⟨by rw [hm_un (nr (h8 i hi).1)]; exact (h8 i hi).1, by rw [hm_us]; simp⟩
  · exact ⟨by rw [hm_un (nr (h8 i hi).1)]; exact (h8 i hi).1, by rw [hm_un (fun e => hi2 (h9 i x hi hx e))]; simp only [if_neg hi2]; exact (h8 i hi).2⟩
theorem kAt.told (h : kAt K w ad F tf L P df) (f2 : Nat → Int32) : kAt K (hm_up w (ad 6) (.inl (K 0, 128, .inl f2))) ad F tf L P f2 := by
  obtain ⟨h0, ⟨fa, h1, h1'⟩, ⟨fc, h2, h2'⟩, ⟨h3, h4, h5⟩, h6, h7, h8, h9, h10, h11⟩ := h
  have hw := h7.2
  have nr : ∀ {a : Nat} {o : Nat × List Value}, w a = some (.inr o) → a ≠ ad 6 := fun ha e => by rw [e, hw] at ha; cases ha
  have na : ∀ {a n : Nat} {c : ClassId} {z}, w a = some (.inl (c, n, z)) → n ≠ 128 → a ≠ ad 6 := fun ha hn e => by rw [e, hw] at ha; simp at ha; omega
  exact ⟨by rw [hm_un (nr h0)]; exact h0, ⟨fa, by rw [hm_un (na h1 (by omega))]; exact h1, h1'⟩, ⟨fc, by rw [hm_un (na h2 (by omega))]; exact h2, h2'⟩, ⟨by rw [hm_un (nr h3)]; exact h3, by rw [hm_un (nr h4)]; exact h4, by rw [hm_un (nr h5)]; exact h5⟩, ⟨by rw [hm_un (nr h6.1)]; exact h6.1, by rw [hm_un (na h6.2 (by omega))]; exact h6.2⟩, h7.up f2, fun i hi => ⟨by rw [hm_un (nr (h8 i hi).1)]; exact (h8 i hi).1, by rw [hm_un (h10 i hi)]; exact (h8 i hi).2⟩, h9, h10, h11⟩
/-- another tape -/
theorem kAt.tape (h : kAt K w ad F tf L P df) (f2 : Nat → Int32) {L2 P2 : Int} (hL0 : 0 ≤ L2) (hL1 : L2 ≤ 8210) : kAt K (tM K w (ad 3) (ad 5) f2 L2 P2) ad F f2 L2 P2 df := by
  obtain ⟨h0, ⟨fa, h1, h1'⟩, ⟨fc, h2, h2'⟩, ⟨h3, h4, h5⟩, h6, h7, h8, h9, h10, h11⟩ := h
  have ht := h6.1
  have hw := h6.2
  have nr : ∀ {a : Nat} {o : Nat × List Value}, w a = some (.inr o) → o.1 ≠ 3 → tM K w (ad 3) (ad 5) f2 L2 P2 a = w a := fun {a o} ha ho => tM_other (fun e => by rw [e, ht] at ha; simp at ha; rw [← ha] at ho; exact ho rfl) (fun e => by rw [e, hw] at ha; cases ha)
  have na : ∀ {a n : Nat} {c : ClassId} {z}, w a = some (.inl (c, n, z)) → n ≠ 257 → tM K w (ad 3) (ad 5) f2 L2 P2 a = w a := fun ha hn => tM_other (fun e => by rw [e, ht] at ha; cases ha) (fun e => by rw [e, hw] at ha; simp at ha; omega)
  exact ⟨by rw [nr h0 (by simp)]; exact h0, ⟨fa, by rw [na h1 (by omega)]; exact h1, h1'⟩, ⟨fc, by rw [na h2 (by omega)]; exact h2, h2'⟩, ⟨by rw [nr h3 (by decide)]; exact h3, by rw [nr h4 (by decide)]; exact h4, by rw [nr h5 (by decide)]; exact h5⟩, tAt_tM h6.ne, ⟨by rw [nr h7.1 (by simp)]; exact h7.1, by rw [na h7.2 (by omega)]; exact h7.2⟩, fun i hi => ⟨by rw [nr (h8 i hi).1 (by simp)]; exact (h8 i hi).1, by rw [na (h8 i hi).2 (by omega)]; exact (h8 i hi).2⟩, h9, h10, hL0, hL1⟩
end KA
set_option maxHeartbeats 4000000 in
set_option maxRecDepth 100000 in
theorem c6_has (l : Launch) (D : va_G) (K : Nat → ClassId) {w : hm_M} {ad : Nat → Nat} {F : Nat → Nat → Int32} {tf : Nat → Int32} {L P : Int} {df : Nat → Int32} (x v : Int) (hx : iB x) (hv : iB v) (hk : kAt K w ad F tf L P df)  : hm_Ci l D K yX6_has cX6_has 3 .int 2 [.ref (ad 0), .int (iI (x)), .int (iI (v))] w 0 0 (fun r w2 => r = iI (if 0 ≤ x ∧ x < 8 then (if 0 ≤ v ∧ v < 4096 then (if mem (F x.toNat) v.toNat then 1 else 0) else -3) else -2) ∧ w2 = w) := by
  refine hm_enterI (by decide) (Nat.le_of_ble_eq_true rfl) ?_
  intro p e s m args below meth c E hr hnm
  show hm_V p l e (hm_rm 2 0 0) s m args below meth c D (hm_A w s.heap.size) 3 0 0 (MQ below (hm_Qi D w s.heap.size (fun r w2 => r = iI (if 0 ≤ x ∧ x < 8 then (if 0 ≤ v ∧ v < 4096 then (if mem (F x.toNat) v.toNat then 1 else 0) else -3) else -2) ∧ w2 = w)) args s 0 0 (hm_A w s.heap.size)) w 0 [(0, .ref (ad 0)), (1, .int (iI (x))), (2, .int (iI (v)))] []
  refine hv_iload_n E dX6_has_0 rfl 1 rfl rfl ?_
  refine hv_callSI (na := 1) (As := [.int (iI (x))]) (st := []) E (c6_isSet l D K x hx) dX6_has_1 gL_X6_42 gS_X6_isSet gC_X6_isSet gZ_X6 (by decide +kernel) rfl ⟨Nat.le_of_ble_eq_true rfl, Nat.le_of_ble_eq_true rfl⟩ (Nat.le_of_ble_eq_true rfl) ⟨Nat.zero_le _, Nat.zero_le _⟩ rfl rfl (fun r w2 hp => ?_)
  rw [hp.1, hp.2]
  show hm_V p l e (hm_rm 2 0 0) s m args below meth c D (hm_A w s.heap.size) 3 0 0 (MQ below (hm_Qi D w s.heap.size (fun r w2 => r = iI (if 0 ≤ x ∧ x < 8 then (if 0 ≤ v ∧ v < 4096 then (if mem (F x.toNat) v.toNat then 1 else 0) else -3) else -2) ∧ w2 = w)) args s 0 0 (hm_A w s.heap.size)) w 4 [(0, .ref (ad 0)), (1, .int (iI (x))), (2, .int (iI (v)))] [.int (bI (decide (0 ≤ x ∧ x < 8)))]
  refine hv_if_neB E 10 dX6_has_4 (by decide) rfl (fun c1 => ?_) (fun c1 => ?_)
  · have c1 := of_decide_eq_true c1
    refine hv_iload_n E dX6_has_10 rfl 2 rfl rfl ?_
    refine hv_callSI (na := 1) (As := [.int (iI (v))]) (st := []) E (c6_isNumber l D K v hv) dX6_has_11 gL_X6_46 gS_X6_isNumber gC_X6_isNumber gZ_X6 (by decide +kernel) rfl ⟨Nat.le_of_ble_eq_true rfl, Nat.le_of_ble_eq_true rfl⟩ (Nat.le_of_ble_eq_true rfl) ⟨Nat.zero_le _, Nat.zero_le _⟩ rfl rfl (fun r w2 hp => ?_)
    rw [hp.1, hp.2]
    show hm_V p l e (hm_rm 2 0 0) s m args below meth c D (hm_A w s.heap.size) 3 0 0 (MQ below (hm_Qi D w s.heap.size (fun r w2 => r = iI (if 0 ≤ x ∧ x < 8 then (if 0 ≤ v ∧ v < 4096 then (if mem (F x.toNat) v.toNat then 1 else 0) else -3) else -2) ∧ w2 = w)) args s 0 0 (hm_A w s.heap.size)) w 14 [(0, .ref (ad 0)), (1, .int (iI (x))), (2, .int (iI (v)))] [.int (bI (decide (0 ≤ v ∧ v < 4096)))]
    refine hv_if_neB E 20 dX6_has_14 (by decide) rfl (fun c2 => ?_) (fun c2 => ?_)
    · have c2 := of_decide_eq_true c2
      refine hv_aload_n E dX6_has_20 rfl 0 rfl rfl ?_
      refine hv_get (kf := 0) E dX6_has_21 (show vwCl[5]? = some (RX6, TX6, 4) from rfl) (by decide) gW_X6 gF_X6_11 rfl hk.o rfl rfl ?_
      refine hv_iload_n E dX6_has_24 rfl 1 rfl rfl ?_
      obtain ⟨fa, hfa, hfb⟩ := hk.2.1
      refine hv_aaldN E dX6_has_25 hfa (by omega) (by omega) (by decide) (hfb (x).toNat (by omega)) rfl ?_
      refine hv_iload_n E dX6_has_26 rfl 2 rfl rfl ?_
      refine hv_callVI (na := 1) (As := [.int (iI (v))]) (st := []) E (c2_holds l D K v hv (hk.n (show (x).toNat < 8 by omega))) dX6_has_27 (hk.n (show (x).toNat < 8 by omega)).1 (show vwCl[1]? = some (RX2, TX2, 1) from rfl) gL_X6_49 gV_X2_holds gI_X2_holds gC_X2_holds gZ_X2 (by decide +kernel) rfl ⟨Nat.le_of_ble_eq_true rfl, Nat.le_of_ble_eq_true rfl⟩ (Nat.le_of_ble_eq_true rfl) ⟨Nat.zero_le _, Nat.zero_le _⟩ rfl rfl (fun r w2 hp => ?_)
      rw [hp.1, hp.2]
      show hm_V p l e (hm_rm 2 0 0) s m args below meth c D (hm_A w s.heap.size) 3 0 0 (MQ below (hm_Qi D w s.heap.size (fun r w2 => r = iI (if 0 ≤ x ∧ x < 8 then (if 0 ≤ v ∧ v < 4096 then (if mem (F x.toNat) v.toNat then 1 else 0) else -3) else -2) ∧ w2 = w)) args s 0 0 (hm_A w s.heap.size)) w 30 [(0, .ref (ad 0)), (1, .int (iI (x))), (2, .int (iI (v)))] [.int (bI (decide (0 ≤ v ∧ v < 4096) && mem (F x.toNat) v.toNat))]
      refine hv_if_eqB E 37 dX6_has_30 (by decide) rfl (fun c3 => ?_) (fun c3 => ?_)
      · refine hv_iconst E dX6_has_37 rfl ?_
        exact hv_iret E dX6_has_38 hr ⟨by
              have hh := c3
              rw [decide_eq_true (show 0 ≤ v ∧ v < 4096 by omega), Bool.true_and] at hh
              rw [if_pos (by omega), if_pos (by omega), hh]; rfl, rfl⟩
      · refine hv_iconst E dX6_has_33 rfl ?_
        refine hv_goto E 38 dX6_has_34 (by decide) ?_
        exact hv_iret E dX6_has_38 hr ⟨by
              have hh := c3
              rw [decide_eq_true (show 0 ≤ v ∧ v < 4096 by omega), Bool.true_and] at hh
              rw [if_pos (by omega), if_pos (by omega), hh]; rfl, rfl⟩
    · have c2 := of_decide_eq_false c2
      refine hv_bipush E dX6_has_17 (by decide +kernel) rfl ?_
      exact hv_iret E dX6_has_19 hr ⟨(by (repeat (first | rw [if_pos (by omega)] | rw [if_neg (by omega)])) <;> first | done | rfl), rfl⟩
  · have c1 := of_decide_eq_false c1
    refine hv_bipush E dX6_has_7 (by decide +kernel) rfl ?_
    exact hv_iret E dX6_has_9 hr ⟨(by (repeat (first | rw [if_pos (by omega)] | rw [if_neg (by omega)])) <;> first | done | rfl), rfl⟩
set_option maxHeartbeats 4000000 in
set_option maxRecDepth 100000 in
theorem c6_count (l : Launch) (D : va_G) (K : Nat → ClassId) {w : hm_M} {ad : Nat → Nat} {F : Nat → Nat → Int32} {tf : Nat → Int32} {L P : Int} {df : Nat → Int32} (x : Int) (hx : iB x) (hk : kAt K w ad F tf L P df)  : hm_Ci l D K yX6_count cX6_count 2 .int 3 [.ref (ad 0), .int (iI (x))] w 0 0 (fun r w2 => r = iI (if 0 ≤ x ∧ x < 8 then (ct (mem (F x.toNat)) 0 4096 : Nat) else -2) ∧ w2 = w) := by
  refine hm_enterI (by decide) (Nat.le_of_ble_eq_true rfl) ?_
  intro p e s m args below meth c E hr hnm
  show hm_V p l e (hm_rm 3 0 0) s m args below meth c D (hm_A w s.heap.size) 2 0 0 (MQ below (hm_Qi D w s.heap.size (fun r w2 => r = iI (if 0 ≤ x ∧ x < 8 then (ct (mem (F x.toNat)) 0 4096 : Nat) else -2) ∧ w2 = w)) args s 0 0 (hm_A w s.heap.size)) w 0 [(0, .ref (ad 0)), (1, .int (iI (x)))] []
  refine hv_iload_n E dX6_count_0 rfl 1 rfl rfl ?_
  refine hv_callSI (na := 1) (As := [.int (iI (x))]) (st := []) E (c6_isSet l D K x hx) dX6_count_1 gL_X6_42 gS_X6_isSet gC_X6_isSet gZ_X6 (by decide +kernel) rfl ⟨Nat.le_of_ble_eq_true rfl, Nat.le_of_ble_eq_true rfl⟩ (Nat.le_of_ble_eq_true rfl) ⟨Nat.zero_le _, Nat.zero_le _⟩ rfl rfl (fun r w2 hp => ?_)
  rw [hp.1, hp.2]
  show hm_V p l e (hm_rm 3 0 0) s m args below meth c D (hm_A w s.heap.size) 2 0 0 (MQ below (hm_Qi D w s.heap.size (fun r w2 => r = iI (if 0 ≤ x ∧ x < 8 then (ct (mem (F x.toNat)) 0 4096 : Nat) else -2) ∧ w2 = w)) args s 0 0 (hm_A w s.heap.size)) w 4 [(0, .ref (ad 0)), (1, .int (iI (x)))] [.int (bI (decide (0 ≤ x ∧ x < 8)))]
  refine hv_if_neB E 10 dX6_count_4 (by decide) rfl (fun c1 => ?_) (fun c1 => ?_)
  · have c1 := of_decide_eq_true c1
    refine hv_aload_n E dX6_count_10 rfl 0 rfl rfl ?_
    refine hv_get (kf := 0) E dX6_count_11 (show vwCl[5]? = some (RX6, TX6, 4) from rfl) (by decide) gW_X6 gF_X6_11 rfl hk.o rfl rfl ?_
    refine hv_iload_n E dX6_count_14 rfl 1 rfl rfl ?_
    obtain ⟨fa, hfa, hfb⟩ := hk.2.1
    refine hv_aaldN E dX6_count_15 hfa (by omega) (by omega) (by decide) (hfb (x).toNat (by omega)) rfl ?_
    refine hv_callVI (na := 0) (As := []) (st := []) E (c2_amount l D K (hk.n (show (x).toNat < 8 by omega))) dX6_count_16 (hk.n (show (x).toNat < 8 by omega)).1 (show vwCl[1]? = some (RX2, TX2, 1) from rfl) gL_X6_75 gV_X2_amount gI_X2_amount gC_X2_amount gZ_X2 (by decide +kernel) rfl ⟨Nat.le_of_ble_eq_true rfl, Nat.le_of_ble_eq_true rfl⟩ (Nat.le_of_ble_eq_true rfl) ⟨Nat.zero_le _, Nat.zero_le _⟩ rfl rfl (fun r w2 hp => ?_)
    rw [hp.1, hp.2]
    show hm_V p l e (hm_rm 3 0 0) s m args below meth c D (hm_A w s.heap.size) 2 0 0 (MQ below (hm_Qi D w s.heap.size (fun r w2 => r = iI (if 0 ≤ x ∧ x < 8 then (ct (mem (F x.toNat)) 0 4096 : Nat) else -2) ∧ w2 = w)) args s 0 0 (hm_A w s.heap.size)) w 19 [(0, .ref (ad 0)), (1, .int (iI (x)))] [.int (iI ((ct (mem (F x.toNat)) 0 4096 : Nat)))]
    exact hv_iret E dX6_count_19 hr ⟨(by (repeat (first | rw [if_pos (by omega)] | rw [if_neg (by omega)])) <;> first | done | rfl), rfl⟩
  · have c1 := of_decide_eq_false c1
    refine hv_bipush E dX6_count_7 (by decide +kernel) rfl ?_
    exact hv_iret E dX6_count_9 hr ⟨(by (repeat (first | rw [if_pos (by omega)] | rw [if_neg (by omega)])) <;> first | done | rfl), rfl⟩
set_option maxHeartbeats 4000000 in
set_option maxRecDepth 100000 in
theorem c6_rank (l : Launch) (D : va_G) (K : Nat → ClassId) {w : hm_M} {ad : Nat → Nat} {F : Nat → Nat → Int32} {tf : Nat → Int32} {L P : Int} {df : Nat → Int32} (x v : Int) (hx : iB x) (hv : iB v) (hk : kAt K w ad F tf L P df)  : hm_Ci l D K yX6_rank cX6_rank 3 .int 3 [.ref (ad 0), .int (iI (x)), .int (iI (v))] w 0 0 (fun r w2 => r = iI (if 0 ≤ x ∧ x < 8 then (if 0 ≤ v ∧ v ≤ 4096 then (ct (mem (F x.toNat)) 0 v.toNat : Nat) else -3) else -2) ∧ w2 = w) := by
  refine hm_enterI (by decide) (Nat.le_of_ble_eq_true rfl) ?_
  intro p e s m args below meth c E hr hnm
  show hm_V p l e (hm_rm 3 0 0) s m args below meth c D (hm_A w s.heap.size) 3 0 0 (MQ below (hm_Qi D w s.heap.size (fun r w2 => r = iI (if 0 ≤ x ∧ x < 8 then (if 0 ≤ v ∧ v ≤ 4096 then (ct (mem (F x.toNat)) 0 v.toNat : Nat) else -3) else -2) ∧ w2 = w)) args s 0 0 (hm_A w s.heap.size)) w 0 [(0, .ref (ad 0)), (1, .int (iI (x))), (2, .int (iI (v)))] []
  refine hv_iload_n E dX6_rank_0 rfl 1 rfl rfl ?_
  refine hv_callSI (na := 1) (As := [.int (iI (x))]) (st := []) E (c6_isSet l D K x hx) dX6_rank_1 gL_X6_42 gS_X6_isSet gC_X6_isSet gZ_X6 (by decide +kernel) rfl ⟨Nat.le_of_ble_eq_true rfl, Nat.le_of_ble_eq_true rfl⟩ (Nat.le_of_ble_eq_true rfl) ⟨Nat.zero_le _, Nat.zero_le _⟩ rfl rfl (fun r w2 hp => ?_)
  rw [hp.1, hp.2]
  show hm_V p l e (hm_rm 3 0 0) s m args below meth c D (hm_A w s.heap.size) 3 0 0 (MQ below (hm_Qi D w s.heap.size (fun r w2 => r = iI (if 0 ≤ x ∧ x < 8 then (if 0 ≤ v ∧ v ≤ 4096 then (ct (mem (F x.toNat)) 0 v.toNat : Nat) else -3) else -2) ∧ w2 = w)) args s 0 0 (hm_A w s.heap.size)) w 4 [(0, .ref (ad 0)), (1, .int (iI (x))), (2, .int (iI (v)))] [.int (bI (decide (0 ≤ x ∧ x < 8)))]
  refine hv_if_neB E 10 dX6_rank_4 (by decide) rfl (fun c1 => ?_) (fun c1 => ?_)
  · have c1 := of_decide_eq_true c1
    refine hv_iload_n E dX6_rank_10 rfl 2 rfl rfl ?_
    refine hv_callSI (na := 1) (As := [.int (iI (v))]) (st := []) E (c6_isBorder l D K v hv) dX6_rank_11 gL_X6_79 gS_X6_isBorder gC_X6_isBorder gZ_X6 (by decide +kernel) rfl ⟨Nat.le_of_ble_eq_true rfl, Nat.le_of_ble_eq_true rfl⟩ (Nat.le_of_ble_eq_true rfl) ⟨Nat.zero_le _, Nat.zero_le _⟩ rfl rfl (fun r w2 hp => ?_)
    rw [hp.1, hp.2]
    show hm_V p l e (hm_rm 3 0 0) s m args below meth c D (hm_A w s.heap.size) 3 0 0 (MQ below (hm_Qi D w s.heap.size (fun r w2 => r = iI (if 0 ≤ x ∧ x < 8 then (if 0 ≤ v ∧ v ≤ 4096 then (ct (mem (F x.toNat)) 0 v.toNat : Nat) else -3) else -2) ∧ w2 = w)) args s 0 0 (hm_A w s.heap.size)) w 14 [(0, .ref (ad 0)), (1, .int (iI (x))), (2, .int (iI (v)))] [.int (bI (decide (0 ≤ v ∧ v ≤ 4096)))]
    refine hv_if_neB E 20 dX6_rank_14 (by decide) rfl (fun c2 => ?_) (fun c2 => ?_)
    · have c2 := of_decide_eq_true c2
      refine hv_aload_n E dX6_rank_20 rfl 0 rfl rfl ?_
      refine hv_get (kf := 0) E dX6_rank_21 (show vwCl[5]? = some (RX6, TX6, 4) from rfl) (by decide) gW_X6 gF_X6_11 rfl hk.o rfl rfl ?_
      refine hv_iload_n E dX6_rank_24 rfl 1 rfl rfl ?_
      obtain ⟨fa, hfa, hfb⟩ := hk.2.1
      refine hv_aaldN E dX6_rank_25 hfa (by omega) (by omega) (by decide) (hfb (x).toNat (by omega)) rfl ?_
      refine hv_iload_n E dX6_rank_26 rfl 2 rfl rfl ?_
      refine hv_callVI (na := 1) (As := [.int (iI (v))]) (st := []) E (c2_amountBelow l D K v (by omega) (by omega) (hk.n (show (x).toNat < 8 by omega))) dX6_rank_27 (hk.n (show (x).toNat < 8 by omega)).1 (show vwCl[1]? = some (RX2, TX2, 1) from rfl) gL_X6_82 gV_X2_amountBelow gI_X2_amountBelow gC_X2_amountBelow gZ_X2 (by decide +kernel) rfl ⟨Nat.le_of_ble_eq_true rfl, Nat.le_of_ble_eq_true rfl⟩ (Nat.le_of_ble_eq_true rfl) ⟨Nat.zero_le _, Nat.zero_le _⟩ rfl rfl (fun r w2 hp => ?_)
      rw [hp.1, hp.2]
      show hm_V p l e (hm_rm 3 0 0) s m args below meth c D (hm_A w s.heap.size) 3 0 0 (MQ below (hm_Qi D w s.heap.size (fun r w2 => r = iI (if 0 ≤ x ∧ x < 8 then (if 0 ≤ v ∧ v ≤ 4096 then (ct (mem (F x.toNat)) 0 v.toNat : Nat) else -3) else -2) ∧ w2 = w)) args s 0 0 (hm_A w s.heap.size)) w 30 [(0, .ref (ad 0)), (1, .int (iI (x))), (2, .int (iI (v)))] [.int (iI ((ct (mem (F x.toNat)) 0 v.toNat : Nat)))]
      exact hv_iret E dX6_rank_30 hr ⟨(by (repeat (first | rw [if_pos (by omega)] | rw [if_neg (by omega)])) <;> first | done | rfl), rfl⟩
    · have c2 := of_decide_eq_false c2
      refine hv_bipush E dX6_rank_17 (by decide +kernel) rfl ?_
      exact hv_iret E dX6_rank_19 hr ⟨(by (repeat (first | rw [if_pos (by omega)] | rw [if_neg (by omega)])) <;> first | done | rfl), rfl⟩
  · have c1 := of_decide_eq_false c1
    refine hv_bipush E dX6_rank_7 (by decide +kernel) rfl ?_
    exact hv_iret E dX6_rank_9 hr ⟨(by (repeat (first | rw [if_pos (by omega)] | rw [if_neg (by omega)])) <;> first | done | rfl), rfl⟩
set_option maxHeartbeats 4000000 in
set_option maxRecDepth 100000 in
theorem c6_select (l : Launch) (D : va_G) (K : Nat → ClassId) {w : hm_M} {ad : Nat → Nat} {F : Nat → Nat → Int32} {tf : Nat → Int32} {L P : Int} {df : Nat → Int32} (x n : Int) (hx : iB x) (hb : iB n) (hk : kAt K w ad F tf L P df)  : hm_Ci l D K yX6_select cX6_select 3 .int 3 [.ref (ad 0), .int (iI (x)), .int (iI (n))] w 0 0 (fun r w2 => (∃ z : Int, (0 ≤ x ∧ x < 8 → isNth (mem (F x.toNat)) 4096 n z) ∧ (¬ (0 ≤ x ∧ x < 8) → z = -2) ∧ r = iI z) ∧ w2 = w) := by
  refine hm_enterI (by decide) (Nat.le_of_ble_eq_true rfl) ?_
  intro p e s m args below meth c E hr hnm
  show hm_V p l e (hm_rm 3 0 0) s m args below meth c D (hm_A w s.heap.size) 3 0 0 (MQ below (hm_Qi D w s.heap.size (fun r w2 => (∃ z : Int, (0 ≤ x ∧ x < 8 → isNth (mem (F x.toNat)) 4096 n z) ∧ (¬ (0 ≤ x ∧ x < 8) → z = -2) ∧ r = iI z) ∧ w2 = w)) args s 0 0 (hm_A w s.heap.size)) w 0 [(0, .ref (ad 0)), (1, .int (iI (x))), (2, .int (iI (n)))] []
  refine hv_iload_n E dX6_select_0 rfl 1 rfl rfl ?_
  refine hv_callSI (na := 1) (As := [.int (iI (x))]) (st := []) E (c6_isSet l D K x hx) dX6_select_1 gL_X6_42 gS_X6_isSet gC_X6_isSet gZ_X6 (by decide +kernel) rfl ⟨Nat.le_of_ble_eq_true rfl, Nat.le_of_ble_eq_true rfl⟩ (Nat.le_of_ble_eq_true rfl) ⟨Nat.zero_le _, Nat.zero_le _⟩ rfl rfl (fun r w2 hp => ?_)
  rw [hp.1, hp.2]
  show hm_V p l e (hm_rm 3 0 0) s m args below meth c D (hm_A w s.heap.size) 3 0 0 (MQ below (hm_Qi D w s.heap.size (fun r w2 => (∃ z : Int, (0 ≤ x ∧ x < 8 → isNth (mem (F x.toNat)) 4096 n z) ∧ (¬ (0 ≤ x ∧ x < 8) → z = -2) ∧ r = iI z) ∧ w2 = w)) args s 0 0 (hm_A w s.heap.size)) w 4 [(0, .ref (ad 0)), (1, .int (iI (x))), (2, .int (iI (n)))] [.int (bI (decide (0 ≤ x ∧ x < 8)))]
  refine hv_if_neB E 10 dX6_select_4 (by decide) rfl (fun c1 => ?_) (fun c1 => ?_)
  · have c1 := of_decide_eq_true c1
    refine hv_aload_n E dX6_select_10 rfl 0 rfl rfl ?_
    refine hv_get (kf := 0) E dX6_select_11 (show vwCl[5]? = some (RX6, TX6, 4) from rfl) (by decide) gW_X6 gF_X6_11 rfl hk.o rfl rfl ?_
    refine hv_iload_n E dX6_select_14 rfl 1 rfl rfl ?_
    obtain ⟨fa, hfa, hfb⟩ := hk.2.1
    refine hv_aaldN E dX6_select_15 hfa (by omega) (by omega) (by decide) (hfb (x).toNat (by omega)) rfl ?_
    refine hv_iload_n E dX6_select_16 rfl 2 rfl rfl ?_
    refine hv_callVI (na := 1) (As := [.int (iI (n))]) (st := []) E (c2_nth l D K n hb (hk.n (show (x).toNat < 8 by omega))) dX6_select_17 (hk.n (show (x).toNat < 8 by omega)).1 (show vwCl[1]? = some (RX2, TX2, 1) from rfl) gL_X6_86 gV_X2_nth gI_X2_nth gC_X2_nth gZ_X2 (by decide +kernel) rfl ⟨Nat.le_of_ble_eq_true rfl, Nat.le_of_ble_eq_true rfl⟩ (Nat.le_of_ble_eq_true rfl) ⟨Nat.zero_le _, Nat.zero_le _⟩ rfl rfl (fun r w2 hp => ?_)
    obtain ⟨⟨z, p1, p2⟩, p3⟩ := hp
    rw [p2, p3]
    show hm_V p l e (hm_rm 3 0 0) s m args below meth c D (hm_A w s.heap.size) 3 0 0 (MQ below (hm_Qi D w s.heap.size (fun r w2 => (∃ z : Int, (0 ≤ x ∧ x < 8 → isNth (mem (F x.toNat)) 4096 n z) ∧ (¬ (0 ≤ x ∧ x < 8) → z = -2) ∧ r = iI z) ∧ w2 = w)) args s 0 0 (hm_A w s.heap.size)) w 20 [(0, .ref (ad 0)), (1, .int (iI (x))), (2, .int (iI (n)))] [.int (iI (z))]
    exact hv_iret E dX6_select_20 hr ⟨⟨z, fun _ => p1, fun h => absurd h (by omega), rfl⟩, rfl⟩
  · have c1 := of_decide_eq_false c1
    refine hv_bipush E dX6_select_7 (by decide +kernel) rfl ?_
    exact hv_iret E dX6_select_9 hr ⟨⟨-2, fun h => absurd h (by omega), fun _ => rfl, rfl⟩, rfl⟩
set_option maxHeartbeats 4000000 in
set_option maxRecDepth 100000 in
theorem c6_next (l : Launch) (D : va_G) (K : Nat → ClassId) {w : hm_M} {ad : Nat → Nat} {F : Nat → Nat → Int32} {tf : Nat → Int32} {L P : Int} {df : Nat → Int32} (x v : Int) (hx : iB x) (hv : iB v) (hk : kAt K w ad F tf L P df)  : hm_Ci l D K yX6_next cX6_next 3 .int 3 [.ref (ad 0), .int (iI (x)), .int (iI (v))] w 0 0 (fun r w2 => (∃ z : Int, ((0 ≤ x ∧ x < 8) → (0 ≤ v ∧ v ≤ 4096) → isNext (mem (F x.toNat)) 4096 v z) ∧ (¬ (0 ≤ x ∧ x < 8) → z = -2) ∧ ((0 ≤ x ∧ x < 8) → ¬ (0 ≤ v ∧ v ≤ 4096) → z = -3) ∧ r = iI z) ∧ w2 = w) := by
  refine hm_enterI (by decide) (Nat.le_of_ble_eq_true rfl) ?_
  intro p e s m args below meth c E hr hnm
  show hm_V p l e (hm_rm 3 0 0) s m args below meth c D (hm_A w s.heap.size) 3 0 0 (MQ below (hm_Qi D w s.heap.size (fun r w2 => (∃ z : Int, ((0 ≤ x ∧ x < 8) → (0 ≤ v ∧ v ≤ 4096) → isNext (mem (F x.toNat)) 4096 v z) ∧ (¬ (0 ≤ x ∧ x < 8) → z = -2) ∧ ((0 ≤ x ∧ x < 8) → ¬ (0 ≤ v ∧ v ≤ 4096) → z = -3) ∧ r = iI z) ∧ w2 = w)) args s 0 0 (hm_A w s.heap.size)) w 0 [(0, .ref (ad 0)), (1, .int (iI (x))), (2, .int (iI (v)))] []
  refine hv_iload_n E dX6_next_0 rfl 1 rfl rfl ?_
  refine hv_callSI (na := 1) (As := [.int (iI (x))]) (st := []) E (c6_isSet l D K x hx) dX6_next_1 gL_X6_42 gS_X6_isSet gC_X6_isSet gZ_X6 (by decide +kernel) rfl ⟨Nat.le_of_ble_eq_true rfl, Nat.le_of_ble_eq_true rfl⟩ (Nat.le_of_ble_eq_true rfl) ⟨Nat.zero_le _, Nat.zero_le _⟩ rfl rfl (fun r w2 hp => ?_)
  rw [hp.1, hp.2]
  show hm_V p l e (hm_rm 3 0 0) s m args below meth c D (hm_A w s.heap.size) 3 0 0 (MQ below (hm_Qi D w s.heap.size (fun r w2 => (∃ z : Int, ((0 ≤ x ∧ x < 8) → (0 ≤ v ∧ v ≤ 4096) → isNext (mem (F x.toNat)) 4096 v z) ∧ (¬ (0 ≤ x ∧ x < 8) → z = -2) ∧ ((0 ≤ x ∧ x < 8) → ¬ (0 ≤ v ∧ v ≤ 4096) → z = -3) ∧ r = iI z) ∧ w2 = w)) args s 0 0 (hm_A w s.heap.size)) w 4 [(0, .ref (ad 0)), (1, .int (iI (x))), (2, .int (iI (v)))] [.int (bI (decide (0 ≤ x ∧ x < 8)))]
  refine hv_if_neB E 10 dX6_next_4 (by decide) rfl (fun c1 => ?_) (fun c1 => ?_)
  · have c1 := of_decide_eq_true c1
    refine hv_iload_n E dX6_next_10 rfl 2 rfl rfl ?_
    refine hv_callSI (na := 1) (As := [.int (iI (v))]) (st := []) E (c6_isBorder l D K v hv) dX6_next_11 gL_X6_79 gS_X6_isBorder gC_X6_isBorder gZ_X6 (by decide +kernel) rfl ⟨Nat.le_of_ble_eq_true rfl, Nat.le_of_ble_eq_true rfl⟩ (Nat.le_of_ble_eq_true rfl) ⟨Nat.zero_le _, Nat.zero_le _⟩ rfl rfl (fun r w2 hp => ?_)
    rw [hp.1, hp.2]
    show hm_V p l e (hm_rm 3 0 0) s m args below meth c D (hm_A w s.heap.size) 3 0 0 (MQ below (hm_Qi D w s.heap.size (fun r w2 => (∃ z : Int, ((0 ≤ x ∧ x < 8) → (0 ≤ v ∧ v ≤ 4096) → isNext (mem (F x.toNat)) 4096 v z) ∧ (¬ (0 ≤ x ∧ x < 8) → z = -2) ∧ ((0 ≤ x ∧ x < 8) → ¬ (0 ≤ v ∧ v ≤ 4096) → z = -3) ∧ r = iI z) ∧ w2 = w)) args s 0 0 (hm_A w s.heap.size)) w 14 [(0, .ref (ad 0)), (1, .int (iI (x))), (2, .int (iI (v)))] [.int (bI (decide (0 ≤ v ∧ v ≤ 4096)))]
    refine hv_if_neB E 20 dX6_next_14 (by decide) rfl (fun c2 => ?_) (fun c2 => ?_)
    · have c2 := of_decide_eq_true c2
      refine hv_aload_n E dX6_next_20 rfl 0 rfl rfl ?_
      refine hv_get (kf := 0) E dX6_next_21 (show vwCl[5]? = some (RX6, TX6, 4) from rfl) (by decide) gW_X6 gF_X6_11 rfl hk.o rfl rfl ?_
      refine hv_iload_n E dX6_next_24 rfl 1 rfl rfl ?_
      obtain ⟨fa, hfa, hfb⟩ := hk.2.1
      refine hv_aaldN E dX6_next_25 hfa (by omega) (by omega) (by decide) (hfb (x).toNat (by omega)) rfl ?_
      refine hv_iload_n E dX6_next_26 rfl 2 rfl rfl ?_
      refine hv_callVI (na := 1) (As := [.int (iI (v))]) (st := []) E (c2_leastFrom l D K v (by omega) (by omega) (hk.n (show (x).toNat < 8 by omega))) dX6_next_27 (hk.n (show (x).toNat < 8 by omega)).1 (show vwCl[1]? = some (RX2, TX2, 1) from rfl) gL_X6_89 gV_X2_leastFrom gI_X2_leastFrom gC_X2_leastFrom gZ_X2 (by decide +kernel) rfl ⟨Nat.le_of_ble_eq_true rfl, Nat.le_of_ble_eq_true rfl⟩ (Nat.le_of_ble_eq_true rfl) ⟨Nat.zero_le _, Nat.zero_le _⟩ rfl rfl (fun r w2 hp => ?_)
      obtain ⟨⟨z, p1, p2⟩, p3⟩ := hp
      rw [p2, p3]
      show hm_V p l e (hm_rm 3 0 0) s m args below meth c D (hm_A w s.heap.size) 3 0 0 (MQ below (hm_Qi D w s.heap.size (fun r w2 => (∃ z : Int, ((0 ≤ x ∧ x < 8) → (0 ≤ v ∧ v ≤ 4096) → isNext (mem (F x.toNat)) 4096 v z) ∧ (¬ (0 ≤ x ∧ x < 8) → z = -2) ∧ ((0 ≤ x ∧ x < 8) → ¬ (0 ≤ v ∧ v ≤ 4096) → z = -3) ∧ r = iI z) ∧ w2 = w)) args s 0 0 (hm_A w s.heap.size)) w 30 [(0, .ref (ad 0)), (1, .int (iI (x))), (2, .int (iI (v)))] [.int (iI (z))]
      exact hv_iret E dX6_next_30 hr ⟨⟨z, fun _ _ => p1, fun h => absurd (show 0 ≤ x ∧ x < 8 by omega) h, fun _ h => absurd (show 0 ≤ v ∧ v ≤ 4096 by omega) h, rfl⟩, rfl⟩
    · have c2 := of_decide_eq_false c2
      refine hv_bipush E dX6_next_17 (by decide +kernel) rfl ?_
      exact hv_iret E dX6_next_19 hr ⟨⟨-3, fun _ h => absurd h (by omega), fun h => absurd (show 0 ≤ x ∧ x < 8 by omega) h, fun _ _ => rfl, rfl⟩, rfl⟩
  · have c1 := of_decide_eq_false c1
    refine hv_bipush E dX6_next_7 (by decide +kernel) rfl ?_
    exact hv_iret E dX6_next_9 hr ⟨⟨-2, fun h => absurd h (by omega), fun _ => rfl, fun h => absurd h (by omega), rfl⟩, rfl⟩
theorem nth_before {S : Nat → Bool} {v z : Int} (h0 : 0 ≤ v) (h1 : v ≤ 4096) (h : isNth S 4096 ((ct S 0 v.toNat : Nat) - 1) z) : isBefore S v z := by
  rcases h with ⟨a1, a2⟩ | ⟨a1, a2, a3, a4⟩
  · refine Or.inl ⟨a1, fun u hu => ?_⟩
    cases e : S u with
    | false => rfl
    | true =>
      exfalso
      have g1 := ct_step (S := S) (a := 0) (n := u) (k := v.toNat) (by omega) (by rw [Nat.zero_add]; exact e)
      have g2 := ct_mono S 0 (show v.toNat ≤ 4096 by omega)
      rcases a2 with q | q
      · omega
      · omega
  · refine Or.inr ⟨a1, ?_, a3, fun u hu hv => ?_⟩
    · rcases (show z < v ∨ v ≤ z by omega) with q | q
      · exact q
      · exfalso
        have g2 := ct_mono S 0 (show v.toNat ≤ z.toNat by omega)
        omega
    · cases e : S u with
      | false => rfl
      | true =>
        exfalso
        have g1 := ct_step (S := S) (a := 0) (n := z.toNat) (k := u) (by omega) (by rw [Nat.zero_add]; exact a3)
        have g2 := ct_step (S := S) (a := 0) (n := u) (k := v.toNat) (by omega) (by rw [Nat.zero_add]; exact e)
        omega
theorem isBefore_inj {S : Nat → Bool} {v z y : Int} (h1 : isBefore S v z) (h2 : isBefore S v y) : z = y := by
  rcases h1 with ⟨a1, a2⟩ | ⟨a1, a2, a3, a4⟩ <;> rcases h2 with ⟨b1, b2⟩ | ⟨b1, b2, b3, b4⟩
  · omega
  · have := a2 y.toNat (by omega); rw [b3] at this; cases this
  · have := b2 z.toNat (by omega); rw [a3] at this; cases this
  · rcases (show z < y ∨ y < z ∨ z = y by omega) with q | q | q
    · have := a4 y.toNat (by omega) (by omega); rw [b3] at this; cases this
    · have := b4 z.toNat (by omega) (by omega); rw [a3] at this; cases this
    · exact q
set_option maxHeartbeats 4000000 in
set_option maxRecDepth 100000 in
theorem c6_before (l : Launch) (D : va_G) (K : Nat → ClassId) {w : hm_M} {ad : Nat → Nat} {F : Nat → Nat → Int32} {tf : Nat → Int32} {L P : Int} {df : Nat → Int32} (x v : Int) (hx : iB x) (hv : iB v) (hk : kAt K w ad F tf L P df)  : hm_Ci l D K yX6_before cX6_before 3 .int 3 [.ref (ad 0), .int (iI (x)), .int (iI (v))] w 0 0 (fun r w2 => (∃ z : Int, ((0 ≤ x ∧ x < 8) → (0 ≤ v ∧ v ≤ 4096) → isBefore (mem (F x.toNat)) v z) ∧ (¬ (0 ≤ x ∧ x < 8) → z = -2) ∧ ((0 ≤ x ∧ x < 8) → ¬ (0 ≤ v ∧ v ≤ 4096) → z = -3) ∧ r = iI z) ∧ w2 = w) := by
  refine hm_enterI (by decide) (Nat.le_of_ble_eq_true rfl) ?_
  intro p e s m args below meth c E hr hnm
  show hm_V p l e (hm_rm 3 0 0) s m args below meth c D (hm_A w s.heap.size) 3 0 0 (MQ below (hm_Qi D w s.heap.size (fun r w2 => (∃ z : Int, ((0 ≤ x ∧ x < 8) → (0 ≤ v ∧ v ≤ 4096) → isBefore (mem (F x.toNat)) v z) ∧ (¬ (0 ≤ x ∧ x < 8) → z = -2) ∧ ((0 ≤ x ∧ x < 8) → ¬ (0 ≤ v ∧ v ≤ 4096) → z = -3) ∧ r = iI z) ∧ w2 = w)) args s 0 0 (hm_A w s.heap.size)) w 0 [(0, .ref (ad 0)), (1, .int (iI (x))), (2, .int (iI (v)))] []
  refine hv_iload_n E dX6_before_0 rfl 1 rfl rfl ?_
  refine hv_callSI (na := 1) (As := [.int (iI (x))]) (st := []) E (c6_isSet l D K x hx) dX6_before_1 gL_X6_42 gS_X6_isSet gC_X6_isSet gZ_X6 (by decide +kernel) rfl ⟨Nat.le_of_ble_eq_true rfl, Nat.le_of_ble_eq_true rfl⟩ (Nat.le_of_ble_eq_true rfl) ⟨Nat.zero_le _, Nat.zero_le _⟩ rfl rfl (fun r w2 hp => ?_)
  rw [hp.1, hp.2]
  show hm_V p l e (hm_rm 3 0 0) s m args below meth c D (hm_A w s.heap.size) 3 0 0 (MQ below (hm_Qi D w s.heap.size (fun r w2 => (∃ z : Int, ((0 ≤ x ∧ x < 8) → (0 ≤ v ∧ v ≤ 4096) → isBefore (mem (F x.toNat)) v z) ∧ (¬ (0 ≤ x ∧ x < 8) → z = -2) ∧ ((0 ≤ x ∧ x < 8) → ¬ (0 ≤ v ∧ v ≤ 4096) → z = -3) ∧ r = iI z) ∧ w2 = w)) args s 0 0 (hm_A w s.heap.size)) w 4 [(0, .ref (ad 0)), (1, .int (iI (x))), (2, .int (iI (v)))] [.int (bI (decide (0 ≤ x ∧ x < 8)))]
  refine hv_if_neB E 10 dX6_before_4 (by decide) rfl (fun c1 => ?_) (fun c1 => ?_)
  · have c1 := of_decide_eq_true c1
    refine hv_iload_n E dX6_before_10 rfl 2 rfl rfl ?_
    refine hv_callSI (na := 1) (As := [.int (iI (v))]) (st := []) E (c6_isBorder l D K v hv) dX6_before_11 gL_X6_79 gS_X6_isBorder gC_X6_isBorder gZ_X6 (by decide +kernel) rfl ⟨Nat.le_of_ble_eq_true rfl, Nat.le_of_ble_eq_true rfl⟩ (Nat.le_of_ble_eq_true rfl) ⟨Nat.zero_le _, Nat.zero_le _⟩ rfl rfl (fun r w2 hp => ?_)
    rw [hp.1, hp.2]
    show hm_V p l e (hm_rm 3 0 0) s m args below meth c D (hm_A w s.heap.size) 3 0 0 (MQ below (hm_Qi D w s.heap.size (fun r w2 => (∃ z : Int, ((0 ≤ x ∧ x < 8) → (0 ≤ v ∧ v ≤ 4096) → isBefore (mem (F x.toNat)) v z) ∧ (¬ (0 ≤ x ∧ x < 8) → z = -2) ∧ ((0 ≤ x ∧ x < 8) → ¬ (0 ≤ v ∧ v ≤ 4096) → z = -3) ∧ r = iI z) ∧ w2 = w)) args s 0 0 (hm_A w s.heap.size)) w 14 [(0, .ref (ad 0)), (1, .int (iI (x))), (2, .int (iI (v)))] [.int (bI (decide (0 ≤ v ∧ v ≤ 4096)))]
    refine hv_if_neB E 20 dX6_before_14 (by decide) rfl (fun c2 => ?_) (fun c2 => ?_)
    · have c2 := of_decide_eq_true c2
      refine hv_aload_n E dX6_before_20 rfl 0 rfl rfl ?_
      refine hv_get (kf := 0) E dX6_before_21 (show vwCl[5]? = some (RX6, TX6, 4) from rfl) (by decide) gW_X6 gF_X6_11 rfl hk.o rfl rfl ?_
      refine hv_iload_n E dX6_before_24 rfl 1 rfl rfl ?_
      obtain ⟨fa, hfa, hfb⟩ := hk.2.1
      refine hv_aaldN E dX6_before_25 hfa (by omega) (by omega) (by decide) (hfb (x).toNat (by omega)) rfl ?_
      refine hv_aload_n E dX6_before_26 rfl 0 rfl rfl ?_
      refine hv_get (kf := 0) E dX6_before_27 (show vwCl[5]? = some (RX6, TX6, 4) from rfl) (by decide) gW_X6 gF_X6_11 rfl hk.o rfl rfl ?_
      refine hv_iload_n E dX6_before_30 rfl 1 rfl rfl ?_
      obtain ⟨fa, hfa, hfb⟩ := hk.2.1
      refine hv_aaldN E dX6_before_31 hfa (by omega) (by omega) (by decide) (hfb (x).toNat (by omega)) rfl ?_
      refine hv_iload_n E dX6_before_32 rfl 2 rfl rfl ?_
      refine hv_callVI (na := 1) (As := [.int (iI (v))]) (st := [.ref (ad (10 + (x).toNat))]) E (c2_amountBelow l D K v (by omega) (by omega) (hk.n (show (x).toNat < 8 by omega))) dX6_before_33 (hk.n (show (x).toNat < 8 by omega)).1 (show vwCl[1]? = some (RX2, TX2, 1) from rfl) gL_X6_82 gV_X2_amountBelow gI_X2_amountBelow gC_X2_amountBelow gZ_X2 (by decide +kernel) rfl ⟨Nat.le_of_ble_eq_true rfl, Nat.le_of_ble_eq_true rfl⟩ (Nat.le_of_ble_eq_true rfl) ⟨Nat.zero_le _, Nat.zero_le _⟩ rfl rfl (fun r w2 hp => ?_)
      rw [hp.1, hp.2]
      show hm_V p l e (hm_rm 3 0 0) s m args below meth c D (hm_A w s.heap.size) 3 0 0 (MQ below (hm_Qi D w s.heap.size (fun r w2 => (∃ z : Int, ((0 ≤ x ∧ x < 8) → (0 ≤ v ∧ v ≤ 4096) → isBefore (mem (F x.toNat)) v z) ∧ (¬ (0 ≤ x ∧ x < 8) → z = -2) ∧ ((0 ≤ x ∧ x < 8) → ¬ (0 ≤ v ∧ v ≤ 4096) → z = -3) ∧ r = iI z) ∧ w2 = w)) args s 0 0 (hm_A w s.heap.size)) w 36 [(0, .ref (ad 0)), (1, .int (iI (x))), (2, .int (iI (v)))] [.int (iI ((ct (mem (F x.toNat)) 0 v.toNat : Nat))), .ref (ad (10 + (x).toNat))]
      refine hv_iconst E dX6_before_36 rfl ?_
      refine hv_isub E dX6_before_37 rfl ?_
      have hle := ct_le (mem (F x.toNat)) 0 v.toNat
      refine hv_callVI (na := 1) (As := [.int (iI (((ct (mem (F x.toNat)) 0 v.toNat : Nat)) - 1))]) (st := []) E (c2_nth l D K (((ct (mem (F x.toNat)) 0 v.toNat : Nat)) - 1) ⟨by omega, by omega⟩ (hk.n (show (x).toNat < 8 by omega))) dX6_before_38 (hk.n (show (x).toNat < 8 by omega)).1 (show vwCl[1]? = some (RX2, TX2, 1) from rfl) gL_X6_86 gV_X2_nth gI_X2_nth gC_X2_nth gZ_X2 (by decide +kernel) rfl ⟨Nat.le_of_ble_eq_true rfl, Nat.le_of_ble_eq_true rfl⟩ (Nat.le_of_ble_eq_true rfl) ⟨Nat.zero_le _, Nat.zero_le _⟩ rfl rfl (fun r w2 hp => ?_)
      obtain ⟨⟨z, p1, p2⟩, p3⟩ := hp
      rw [p2, p3]
      show hm_V p l e (hm_rm 3 0 0) s m args below meth c D (hm_A w s.heap.size) 3 0 0 (MQ below (hm_Qi D w s.heap.size (fun r w2 => (∃ z : Int, ((0 ≤ x ∧ x < 8) → (0 ≤ v ∧ v ≤ 4096) → isBefore (mem (F x.toNat)) v z) ∧ (¬ (0 ≤ x ∧ x < 8) → z = -2) ∧ ((0 ≤ x ∧ x < 8) → ¬ (0 ≤ v ∧ v ≤ 4096) → z = -3) ∧ r = iI z) ∧ w2 = w)) args s 0 0 (hm_A w s.heap.size)) w 41 [(0, .ref (ad 0)), (1, .int (iI (x))), (2, .int (iI (v)))] [.int (iI (z))]
      exact hv_iret E dX6_before_41 hr ⟨⟨z, fun _ _ => nth_before (by omega) (by omega) p1, fun h => absurd (show 0 ≤ x ∧ x < 8 by omega) h, fun _ h => absurd (show 0 ≤ v ∧ v ≤ 4096 by omega) h, rfl⟩, rfl⟩
    · have c2 := of_decide_eq_false c2
      refine hv_bipush E dX6_before_17 (by decide +kernel) rfl ?_
      exact hv_iret E dX6_before_19 hr ⟨⟨-3, fun _ h => absurd h (by omega), fun h => absurd (show 0 ≤ x ∧ x < 8 by omega) h, fun _ _ => rfl, rfl⟩, rfl⟩
  · have c1 := of_decide_eq_false c1
    refine hv_bipush E dX6_before_7 (by decide +kernel) rfl ?_
    exact hv_iret E dX6_before_9 hr ⟨⟨-2, fun h => absurd h (by omega), fun _ => rfl, fun h => absurd h (by omega), rfl⟩, rfl⟩
set_option maxHeartbeats 4000000 in
set_option maxRecDepth 100000 in
theorem c6_common (l : Launch) (D : va_G) (K : Nat → ClassId) {w : hm_M} {ad : Nat → Nat} {F : Nat → Nat → Int32} {tf : Nat → Int32} {L P : Int} {df : Nat → Int32} (x y : Int) (hx : iB x) (hy : iB y) (hk : kAt K w ad F tf L P df)  : hm_Ci l D K yX6_common cX6_common 3 .int 2 [.ref (ad 0), .int (iI (x)), .int (iI (y))] w 0 0 (fun r w2 => r = iI (if (0 ≤ x ∧ x < 8) ∧ 0 ≤ y ∧ y < 8 then (ct (fun v => mem (F x.toNat) v && mem (F y.toNat) v) 0 4096 : Nat) else -2) ∧ w2 = w) := by
  refine hm_enterI (by decide) (Nat.le_of_ble_eq_true rfl) ?_
  intro p e s m args below meth c E hr hnm
  show hm_V p l e (hm_rm 2 0 0) s m args below meth c D (hm_A w s.heap.size) 3 0 0 (MQ below (hm_Qi D w s.heap.size (fun r w2 => r = iI (if (0 ≤ x ∧ x < 8) ∧ 0 ≤ y ∧ y < 8 then (ct (fun v => mem (F x.toNat) v && mem (F y.toNat) v) 0 4096 : Nat) else -2) ∧ w2 = w)) args s 0 0 (hm_A w s.heap.size)) w 0 [(0, .ref (ad 0)), (1, .int (iI (x))), (2, .int (iI (y)))] []
  refine hv_iload_n E dX6_common_0 rfl 1 rfl rfl ?_
  refine hv_callSI (na := 1) (As := [.int (iI (x))]) (st := []) E (c6_isSet l D K x hx) dX6_common_1 gL_X6_42 gS_X6_isSet gC_X6_isSet gZ_X6 (by decide +kernel) rfl ⟨Nat.le_of_ble_eq_true rfl, Nat.le_of_ble_eq_true rfl⟩ (Nat.le_of_ble_eq_true rfl) ⟨Nat.zero_le _, Nat.zero_le _⟩ rfl rfl (fun r w2 hp => ?_)
  rw [hp.1, hp.2]
  show hm_V p l e (hm_rm 2 0 0) s m args below meth c D (hm_A w s.heap.size) 3 0 0 (MQ below (hm_Qi D w s.heap.size (fun r w2 => r = iI (if (0 ≤ x ∧ x < 8) ∧ 0 ≤ y ∧ y < 8 then (ct (fun v => mem (F x.toNat) v && mem (F y.toNat) v) 0 4096 : Nat) else -2) ∧ w2 = w)) args s 0 0 (hm_A w s.heap.size)) w 4 [(0, .ref (ad 0)), (1, .int (iI (x))), (2, .int (iI (y)))] [.int (bI (decide (0 ≤ x ∧ x < 8)))]
  refine hv_if_eqB E 14 dX6_common_4 (by decide) rfl (fun c1 => ?_) (fun c1 => ?_)
  · have c1 := of_decide_eq_false c1
    refine hv_bipush E dX6_common_14 (by decide +kernel) rfl ?_
    exact hv_iret E dX6_common_16 hr ⟨(by (repeat (first | rw [if_pos (by omega)] | rw [if_neg (by omega)])) <;> first | done | rfl), rfl⟩
  · have c1 := of_decide_eq_true c1
    refine hv_iload_n E dX6_common_7 rfl 2 rfl rfl ?_
    refine hv_callSI (na := 1) (As := [.int (iI (y))]) (st := []) E (c6_isSet l D K y hy) dX6_common_8 gL_X6_42 gS_X6_isSet gC_X6_isSet gZ_X6 (by decide +kernel) rfl ⟨Nat.le_of_ble_eq_true rfl, Nat.le_of_ble_eq_true rfl⟩ (Nat.le_of_ble_eq_true rfl) ⟨Nat.zero_le _, Nat.zero_le _⟩ rfl rfl (fun r w2 hp => ?_)
    rw [hp.1, hp.2]
    show hm_V p l e (hm_rm 2 0 0) s m args below meth c D (hm_A w s.heap.size) 3 0 0 (MQ below (hm_Qi D w s.heap.size (fun r w2 => r = iI (if (0 ≤ x ∧ x < 8) ∧ 0 ≤ y ∧ y < 8 then (ct (fun v => mem (F x.toNat) v && mem (F y.toNat) v) 0 4096 : Nat) else -2) ∧ w2 = w)) args s 0 0 (hm_A w s.heap.size)) w 11 [(0, .ref (ad 0)), (1, .int (iI (x))), (2, .int (iI (y)))] [.int (bI (decide (0 ≤ y ∧ y < 8)))]
    refine hv_if_neB E 17 dX6_common_11 (by decide) rfl (fun c2 => ?_) (fun c2 => ?_)
    · have c2 := of_decide_eq_true c2
      refine hv_aload_n E dX6_common_17 rfl 0 rfl rfl ?_
      refine hv_get (kf := 0) E dX6_common_18 (show vwCl[5]? = some (RX6, TX6, 4) from rfl) (by decide) gW_X6 gF_X6_11 rfl hk.o rfl rfl ?_
      refine hv_iload_n E dX6_common_21 rfl 1 rfl rfl ?_
      obtain ⟨fa, hfa, hfb⟩ := hk.2.1
      refine hv_aaldN E dX6_common_22 hfa (by omega) (by omega) (by decide) (hfb (x).toNat (by omega)) rfl ?_
      refine hv_aload_n E dX6_common_23 rfl 0 rfl rfl ?_
      refine hv_get (kf := 0) E dX6_common_24 (show vwCl[5]? = some (RX6, TX6, 4) from rfl) (by decide) gW_X6 gF_X6_11 rfl hk.o rfl rfl ?_
      refine hv_iload_n E dX6_common_27 rfl 2 rfl rfl ?_
      obtain ⟨fa, hfa, hfb⟩ := hk.2.1
      refine hv_aaldN E dX6_common_28 hfa (by omega) (by omega) (by decide) (hfb (y).toNat (by omega)) rfl ?_
      refine hv_callVI (na := 1) (As := [.ref (ad (10 + (y).toNat))]) (st := []) E (c2_amountShared l D K (hk.n (show (x).toNat < 8 by omega)) (hk.n (show (y).toNat < 8 by omega))) dX6_common_29 (hk.n (show (x).toNat < 8 by omega)).1 (show vwCl[1]? = some (RX2, TX2, 1) from rfl) gL_X6_92 gV_X2_amountShared gI_X2_amountShared gC_X2_amountShared gZ_X2 (by decide +kernel) rfl ⟨Nat.le_of_ble_eq_true rfl, Nat.le_of_ble_eq_true rfl⟩ (Nat.le_of_ble_eq_true rfl) ⟨Nat.zero_le _, Nat.zero_le _⟩ rfl rfl (fun r w2 hp => ?_)
      rw [hp.1, hp.2]
      show hm_V p l e (hm_rm 2 0 0) s m args below meth c D (hm_A w s.heap.size) 3 0 0 (MQ below (hm_Qi D w s.heap.size (fun r w2 => r = iI (if (0 ≤ x ∧ x < 8) ∧ 0 ≤ y ∧ y < 8 then (ct (fun v => mem (F x.toNat) v && mem (F y.toNat) v) 0 4096 : Nat) else -2) ∧ w2 = w)) args s 0 0 (hm_A w s.heap.size)) w 32 [(0, .ref (ad 0)), (1, .int (iI (x))), (2, .int (iI (y)))] [.int (iI ((ct (fun v => mem (F x.toNat) v && mem (F y.toNat) v) 0 4096 : Nat)))]
      exact hv_iret E dX6_common_32 hr ⟨(by (repeat (first | rw [if_pos (by omega)] | rw [if_neg (by omega)])) <;> first | done | rfl), rfl⟩
    · have c2 := of_decide_eq_false c2
      refine hv_bipush E dX6_common_14 (by decide +kernel) rfl ?_
      exact hv_iret E dX6_common_16 hr ⟨(by (repeat (first | rw [if_pos (by omega)] | rw [if_neg (by omega)])) <;> first | done | rfl), rfl⟩
set_option maxHeartbeats 4000000 in
set_option maxRecDepth 100000 in
theorem c6_piece (l : Launch) (D : va_G) (K : Nat → ClassId) {w : hm_M} {ad : Nat → Nat} {F : Nat → Nat → Int32} {tf : Nat → Int32} {L P : Int} {df : Nat → Int32} (x h n : Int) (hx : iB x) (hh : iB h) (hn : iB n) (hk : kAt K w ad F tf L P df)  : hm_Ci l D K yX6_piece cX6_piece 4 .int 4 [.ref (ad 0), .int (iI (x)), .int (iI (h)), .int (iI (n))] w 0 0 (fun r w2 => r = iI (if 0 ≤ x ∧ x < 8 then (if (0 ≤ h ∧ h < 16) ∧ 0 ≤ n ∧ n < 4 then (if n = 0 then pF (mem (F x.toNat)) h else if n = 1 then pN (mem (F x.toNat)) h else if n = 2 then pR (mem (F x.toNat)) h else pB (mem (F x.toNat)) h) else -3) else -2) ∧ w2 = w) := by
  refine hm_enterI (by decide) (Nat.le_of_ble_eq_true rfl) ?_
  intro p e s m args below meth c E hr hnm
  show hm_V p l e (hm_rm 4 0 0) s m args below meth c D (hm_A w s.heap.size) 4 0 0 (MQ below (hm_Qi D w s.heap.size (fun r w2 => r = iI (if 0 ≤ x ∧ x < 8 then (if (0 ≤ h ∧ h < 16) ∧ 0 ≤ n ∧ n < 4 then (if n = 0 then pF (mem (F x.toNat)) h else if n = 1 then pN (mem (F x.toNat)) h else if n = 2 then pR (mem (F x.toNat)) h else pB (mem (F x.toNat)) h) else -3) else -2) ∧ w2 = w)) args s 0 0 (hm_A w s.heap.size)) w 0 [(0, .ref (ad 0)), (1, .int (iI (x))), (2, .int (iI (h))), (3, .int (iI (n)))] []
  refine hv_iload_n E dX6_piece_0 rfl 1 rfl rfl ?_
  refine hv_callSI (na := 1) (As := [.int (iI (x))]) (st := []) E (c6_isSet l D K x hx) dX6_piece_1 gL_X6_42 gS_X6_isSet gC_X6_isSet gZ_X6 (by decide +kernel) rfl ⟨Nat.le_of_ble_eq_true rfl, Nat.le_of_ble_eq_true rfl⟩ (Nat.le_of_ble_eq_true rfl) ⟨Nat.zero_le _, Nat.zero_le _⟩ rfl rfl (fun r w2 hp => ?_)
  rw [hp.1, hp.2]
  show hm_V p l e (hm_rm 4 0 0) s m args below meth c D (hm_A w s.heap.size) 4 0 0 (MQ below (hm_Qi D w s.heap.size (fun r w2 => r = iI (if 0 ≤ x ∧ x < 8 then (if (0 ≤ h ∧ h < 16) ∧ 0 ≤ n ∧ n < 4 then (if n = 0 then pF (mem (F x.toNat)) h else if n = 1 then pN (mem (F x.toNat)) h else if n = 2 then pR (mem (F x.toNat)) h else pB (mem (F x.toNat)) h) else -3) else -2) ∧ w2 = w)) args s 0 0 (hm_A w s.heap.size)) w 4 [(0, .ref (ad 0)), (1, .int (iI (x))), (2, .int (iI (h))), (3, .int (iI (n)))] [.int (bI (decide (0 ≤ x ∧ x < 8)))]
  refine hv_if_neB E 10 dX6_piece_4 (by decide) rfl (fun c1 => ?_) (fun c1 => ?_)
  · have c1 := of_decide_eq_true c1
    refine hv_iload_n E dX6_piece_10 rfl 2 rfl rfl ?_
    refine hv_if_lt E 20 dX6_piece_11 (by decide) hh rfl (fun c2 => ?_) (fun c2 => ?_)
    · skip
      refine hv_bipush E dX6_piece_20 (by decide +kernel) rfl ?_
      exact hv_iret E dX6_piece_22 hr ⟨(by (repeat (first | rw [if_pos (by omega)] | rw [if_neg (by omega)])) <;> first | done | rfl), rfl⟩
    · skip
      refine hv_iload_n E dX6_piece_14 rfl 2 rfl rfl ?_
      refine hv_bipush E dX6_piece_15 (by decide +kernel) rfl ?_
      refine hv_icmp_lt E 23 dX6_piece_17 (by decide) hh ⟨by omega, by omega⟩ rfl (fun c3 => ?_) (fun c3 => ?_)
      · skip
        refine hv_iload_n E dX6_piece_23 rfl 3 rfl rfl ?_
        rcases (show n = 0 ∨ n = 1 ∨ n = 2 ∨ n = 3 ∨ (n < 0 ∨ 3 < n) by omega) with hsw | hsw | hsw | hsw | hsw
        · refine hv_tableIn E 56 dX6_piece_24 hn (by omega) (by omega) (by rw [hsw]; rfl) (by decide) ?_
          refine hv_aload_n E dX6_piece_56 rfl 0 rfl rfl ?_
          refine hv_get (kf := 0) E dX6_piece_57 (show vwCl[5]? = some (RX6, TX6, 4) from rfl) (by decide) gW_X6 gF_X6_11 rfl hk.o rfl rfl ?_
          refine hv_iload_n E dX6_piece_60 rfl 1 rfl rfl ?_
          obtain ⟨fa, hfa, hfb⟩ := hk.2.1
          refine hv_aaldN E dX6_piece_61 hfa (by omega) (by omega) (by decide) (hfb (x).toNat (by omega)) rfl ?_
          refine hv_iload_n E dX6_piece_62 rfl 2 rfl rfl ?_
          refine hv_callVI (na := 1) (As := [.int (iI (h))]) (st := []) E (c2_pieceForm l D K h (by omega) (by omega) (hk.n (show (x).toNat < 8 by omega))) dX6_piece_63 (hk.n (show (x).toNat < 8 by omega)).1 (show vwCl[1]? = some (RX2, TX2, 1) from rfl) gL_X6_96 gV_X2_pieceForm gI_X2_pieceForm gC_X2_pieceForm gZ_X2 (by decide +kernel) rfl ⟨Nat.le_of_ble_eq_true rfl, Nat.le_of_ble_eq_true rfl⟩ (Nat.le_of_ble_eq_true rfl) ⟨Nat.zero_le _, Nat.zero_le _⟩ rfl rfl (fun r w2 hp => ?_)
          rw [hp.1, hp.2]
          show hm_V p l e (hm_rm 4 0 0) s m args below meth c D (hm_A w s.heap.size) 4 0 0 (MQ below (hm_Qi D w s.heap.size (fun r w2 => r = iI (if 0 ≤ x ∧ x < 8 then (if (0 ≤ h ∧ h < 16) ∧ 0 ≤ n ∧ n < 4 then (if n = 0 then pF (mem (F x.toNat)) h else if n = 1 then pN (mem (F x.toNat)) h else if n = 2 then pR (mem (F x.toNat)) h else pB (mem (F x.toNat)) h) else -3) else -2) ∧ w2 = w)) args s 0 0 (hm_A w s.heap.size)) w 66 [(0, .ref (ad 0)), (1, .int (iI (x))), (2, .int (iI (h))), (3, .int (iI (n)))] [.int (iI (pF (mem (F x.toNat)) h))]
          exact hv_iret E dX6_piece_66 hr ⟨(by (repeat (first | rw [if_pos (by omega)] | rw [if_neg (by omega)])) <;> first | done | rfl), rfl⟩
        · refine hv_tableIn E 67 dX6_piece_24 hn (by omega) (by omega) (by rw [hsw]; rfl) (by decide) ?_
          refine hv_aload_n E dX6_piece_67 rfl 0 rfl rfl ?_
          refine hv_get (kf := 0) E dX6_piece_68 (show vwCl[5]? = some (RX6, TX6, 4) from rfl) (by decide) gW_X6 gF_X6_11 rfl hk.o rfl rfl ?_
          refine hv_iload_n E dX6_piece_71 rfl 1 rfl rfl ?_
          obtain ⟨fa, hfa, hfb⟩ := hk.2.1
          refine hv_aaldN E dX6_piece_72 hfa (by omega) (by omega) (by decide) (hfb (x).toNat (by omega)) rfl ?_
          refine hv_iload_n E dX6_piece_73 rfl 2 rfl rfl ?_
          refine hv_callVI (na := 1) (As := [.int (iI (h))]) (st := []) E (c2_pieceAmount l D K h (by omega) (by omega) (hk.n (show (x).toNat < 8 by omega))) dX6_piece_74 (hk.n (show (x).toNat < 8 by omega)).1 (show vwCl[1]? = some (RX2, TX2, 1) from rfl) gL_X6_99 gV_X2_pieceAmount gI_X2_pieceAmount gC_X2_pieceAmount gZ_X2 (by decide +kernel) rfl ⟨Nat.le_of_ble_eq_true rfl, Nat.le_of_ble_eq_true rfl⟩ (Nat.le_of_ble_eq_true rfl) ⟨Nat.zero_le _, Nat.zero_le _⟩ rfl rfl (fun r w2 hp => ?_)
          rw [hp.1, hp.2]
          show hm_V p l e (hm_rm 4 0 0) s m args below meth c D (hm_A w s.heap.size) 4 0 0 (MQ below (hm_Qi D w s.heap.size (fun r w2 => r = iI (if 0 ≤ x ∧ x < 8 then (if (0 ≤ h ∧ h < 16) ∧ 0 ≤ n ∧ n < 4 then (if n = 0 then pF (mem (F x.toNat)) h else if n = 1 then pN (mem (F x.toNat)) h else if n = 2 then pR (mem (F x.toNat)) h else pB (mem (F x.toNat)) h) else -3) else -2) ∧ w2 = w)) args s 0 0 (hm_A w s.heap.size)) w 77 [(0, .ref (ad 0)), (1, .int (iI (x))), (2, .int (iI (h))), (3, .int (iI (n)))] [.int (iI (pN (mem (F x.toNat)) h))]
          have hN := pN_b (mem (F x.toNat)) h
          exact hv_iret E dX6_piece_77 hr ⟨(by (repeat (first | rw [if_pos (by omega)] | rw [if_neg (by omega)])) <;> first | done | rfl), rfl⟩
        · refine hv_tableIn E 78 dX6_piece_24 hn (by omega) (by omega) (by rw [hsw]; rfl) (by decide) ?_
          refine hv_aload_n E dX6_piece_78 rfl 0 rfl rfl ?_
          refine hv_get (kf := 0) E dX6_piece_79 (show vwCl[5]? = some (RX6, TX6, 4) from rfl) (by decide) gW_X6 gF_X6_11 rfl hk.o rfl rfl ?_
          refine hv_iload_n E dX6_piece_82 rfl 1 rfl rfl ?_
          obtain ⟨fa, hfa, hfb⟩ := hk.2.1
          refine hv_aaldN E dX6_piece_83 hfa (by omega) (by omega) (by decide) (hfb (x).toNat (by omega)) rfl ?_
          refine hv_iload_n E dX6_piece_84 rfl 2 rfl rfl ?_
          refine hv_callVI (na := 1) (As := [.int (iI (h))]) (st := []) E (c2_pieceRuns l D K h (by omega) (by omega) (hk.n (show (x).toNat < 8 by omega))) dX6_piece_85 (hk.n (show (x).toNat < 8 by omega)).1 (show vwCl[1]? = some (RX2, TX2, 1) from rfl) gL_X6_102 gV_X2_pieceRuns gI_X2_pieceRuns gC_X2_pieceRuns gZ_X2 (by decide +kernel) rfl ⟨Nat.le_of_ble_eq_true rfl, Nat.le_of_ble_eq_true rfl⟩ (Nat.le_of_ble_eq_true rfl) ⟨Nat.zero_le _, Nat.zero_le _⟩ rfl rfl (fun r w2 hp => ?_)
          rw [hp.1, hp.2]
          show hm_V p l e (hm_rm 4 0 0) s m args below meth c D (hm_A w s.heap.size) 4 0 0 (MQ below (hm_Qi D w s.heap.size (fun r w2 => r = iI (if 0 ≤ x ∧ x < 8 then (if (0 ≤ h ∧ h < 16) ∧ 0 ≤ n ∧ n < 4 then (if n = 0 then pF (mem (F x.toNat)) h else if n = 1 then pN (mem (F x.toNat)) h else if n = 2 then pR (mem (F x.toNat)) h else pB (mem (F x.toNat)) h) else -3) else -2) ∧ w2 = w)) args s 0 0 (hm_A w s.heap.size)) w 88 [(0, .ref (ad 0)), (1, .int (iI (x))), (2, .int (iI (h))), (3, .int (iI (n)))] [.int (iI (pR (mem (F x.toNat)) h))]
          exact hv_iret E dX6_piece_88 hr ⟨(by (repeat (first | rw [if_pos (by omega)] | rw [if_neg (by omega)])) <;> first | done | rfl), rfl⟩
        · refine hv_tableIn E 89 dX6_piece_24 hn (by omega) (by omega) (by rw [hsw]; rfl) (by decide) ?_
          refine hv_aload_n E dX6_piece_89 rfl 0 rfl rfl ?_
          refine hv_get (kf := 0) E dX6_piece_90 (show vwCl[5]? = some (RX6, TX6, 4) from rfl) (by decide) gW_X6 gF_X6_11 rfl hk.o rfl rfl ?_
          refine hv_iload_n E dX6_piece_93 rfl 1 rfl rfl ?_
          obtain ⟨fa, hfa, hfb⟩ := hk.2.1
          refine hv_aaldN E dX6_piece_94 hfa (by omega) (by omega) (by decide) (hfb (x).toNat (by omega)) rfl ?_
          refine hv_iload_n E dX6_piece_95 rfl 2 rfl rfl ?_
          refine hv_callVI (na := 1) (As := [.int (iI (h))]) (st := []) E (c2_pieceBits l D K h (by omega) (by omega) (hk.n (show (x).toNat < 8 by omega))) dX6_piece_96 (hk.n (show (x).toNat < 8 by omega)).1 (show vwCl[1]? = some (RX2, TX2, 1) from rfl) gL_X6_105 gV_X2_pieceBits gI_X2_pieceBits gC_X2_pieceBits gZ_X2 (by decide +kernel) rfl ⟨Nat.le_of_ble_eq_true rfl, Nat.le_of_ble_eq_true rfl⟩ (Nat.le_of_ble_eq_true rfl) ⟨Nat.zero_le _, Nat.zero_le _⟩ rfl rfl (fun r w2 hp => ?_)
          rw [hp.1, hp.2]
          show hm_V p l e (hm_rm 4 0 0) s m args below meth c D (hm_A w s.heap.size) 4 0 0 (MQ below (hm_Qi D w s.heap.size (fun r w2 => r = iI (if 0 ≤ x ∧ x < 8 then (if (0 ≤ h ∧ h < 16) ∧ 0 ≤ n ∧ n < 4 then (if n = 0 then pF (mem (F x.toNat)) h else if n = 1 then pN (mem (F x.toNat)) h else if n = 2 then pR (mem (F x.toNat)) h else pB (mem (F x.toNat)) h) else -3) else -2) ∧ w2 = w)) args s 0 0 (hm_A w s.heap.size)) w 99 [(0, .ref (ad 0)), (1, .int (iI (x))), (2, .int (iI (h))), (3, .int (iI (n)))] [.int (iI (pB (mem (F x.toNat)) h))]
          have hB := pB_b (mem (F x.toNat)) h
          exact hv_iret E dX6_piece_99 hr ⟨(by (repeat (first | rw [if_pos (by omega)] | rw [if_neg (by omega)])) <;> first | done | rfl), rfl⟩
        · refine hv_tableOut E 100 dX6_piece_24 hn hsw (by decide) ?_
          refine hv_bipush E dX6_piece_100 (by decide +kernel) rfl ?_
          exact hv_iret E dX6_piece_102 hr ⟨(by (repeat (first | rw [if_pos (by omega)] | rw [if_neg (by omega)])) <;> first | done | rfl), rfl⟩
      · skip
        refine hv_bipush E dX6_piece_20 (by decide +kernel) rfl ?_
        exact hv_iret E dX6_piece_22 hr ⟨(by (repeat (first | rw [if_pos (by omega)] | rw [if_neg (by omega)])) <;> first | done | rfl), rfl⟩
  · have c1 := of_decide_eq_false c1
    refine hv_bipush E dX6_piece_7 (by decide +kernel) rfl ?_
    exact hv_iret E dX6_piece_9 hr ⟨(by (repeat (first | rw [if_pos (by omega)] | rw [if_neg (by omega)])) <;> first | done | rfl), rfl⟩
set_option maxHeartbeats 4000000 in
set_option maxRecDepth 100000 in
theorem c6_cost (l : Launch) (D : va_G) (K : Nat → ClassId) {w : hm_M} {ad : Nat → Nat} {F : Nat → Nat → Int32} {tf : Nat → Int32} {L P : Int} {df : Nat → Int32} (x : Int) (hx : iB x) (hk : kAt K w ad F tf L P df)  : hm_Ci l D K yX6_cost cX6_cost 4 .int 4 [.ref (ad 0), .int (iI (x))] w 0 0 (fun r w2 => r = iI (if 0 ≤ x ∧ x < 8 then cs (mem (F x.toNat)) 16 else -2) ∧ w2 = w) := by
  refine hm_enterI (by decide) (Nat.le_of_ble_eq_true rfl) ?_
  intro p e s m args below meth c E hr hnm
  show hm_V p l e (hm_rm 4 0 0) s m args below meth c D (hm_A w s.heap.size) 4 0 0 (MQ below (hm_Qi D w s.heap.size (fun r w2 => r = iI (if 0 ≤ x ∧ x < 8 then cs (mem (F x.toNat)) 16 else -2) ∧ w2 = w)) args s 0 0 (hm_A w s.heap.size)) w 0 [(0, .ref (ad 0)), (1, .int (iI (x)))] []
  refine hv_iload_n E dX6_cost_0 rfl 1 rfl rfl ?_
  refine hv_callSI (na := 1) (As := [.int (iI (x))]) (st := []) E (c6_isSet l D K x hx) dX6_cost_1 gL_X6_42 gS_X6_isSet gC_X6_isSet gZ_X6 (by decide +kernel) rfl ⟨Nat.le_of_ble_eq_true rfl, Nat.le_of_ble_eq_true rfl⟩ (Nat.le_of_ble_eq_true rfl) ⟨Nat.zero_le _, Nat.zero_le _⟩ rfl rfl (fun r w2 hp => ?_)
  rw [hp.1, hp.2]
  show hm_V p l e (hm_rm 4 0 0) s m args below meth c D (hm_A w s.heap.size) 4 0 0 (MQ below (hm_Qi D w s.heap.size (fun r w2 => r = iI (if 0 ≤ x ∧ x < 8 then cs (mem (F x.toNat)) 16 else -2) ∧ w2 = w)) args s 0 0 (hm_A w s.heap.size)) w 4 [(0, .ref (ad 0)), (1, .int (iI (x)))] [.int (bI (decide (0 ≤ x ∧ x < 8)))]
  refine hv_if_neB E 10 dX6_cost_4 (by decide) rfl (fun c1 => ?_) (fun c1 => ?_)
  · have c1 := of_decide_eq_true c1
    refine hv_iconst E dX6_cost_10 rfl ?_
    refine hv_istore_n (lv2 := [(2, .int (iI (0))), (0, .ref (ad 0)), (1, .int (iI (x)))]) E dX6_cost_11 rfl (by decide) rfl rfl ?_
    refine hv_iconst E dX6_cost_12 rfl ?_
    refine hv_istore_n (lv2 := [(3, .int (iI (0))), (2, .int (iI (0))), (0, .ref (ad 0)), (1, .int (iI (x)))]) E dX6_cost_13 rfl (by decide) rfl rfl ?_
    have hX : 0 ≤ x ∧ x < 8 := by omega
    have LP : ∀ (k : Nat) (j sm : Int), (16 - j < (k : Int)) → (0 ≤ j) → (j ≤ 16) → (sm = cs (mem (F x.toNat)) j.toNat) → hm_V p l e (hm_rm 4 0 0) s m args below meth c D (hm_A w s.heap.size) 4 0 0 (MQ below (hm_Qi D w s.heap.size (fun r w2 => r = iI (if 0 ≤ x ∧ x < 8 then cs (mem (F x.toNat)) 16 else -2) ∧ w2 = w)) args s 0 0 (hm_A w s.heap.size)) w 14 [(3, .int (iI (j))), (2, .int (iI (sm))), (0, .ref (ad 0)), (1, .int (iI (x)))] [] := by
      intro k
      induction k with
      | zero =>
        intro j sm hk2 g0 g1 hs
        exact absurd hk2 (by omega)
      | succ k ih =>
        intro j sm hk2 g0 g1 hs
        refine hv_iload_n E dX6_cost_14 rfl 0 rfl rfl ?_
        refine hv_bipush E dX6_cost_15 (by decide +kernel) rfl ?_
        refine hv_icmp_ge E 55 dX6_cost_17 (by decide) ⟨by omega, by omega⟩ ⟨by omega, by omega⟩ rfl (fun c2 => ?_) (fun c2 => ?_)
        · skip
          refine hv_iload_n E dX6_cost_55 rfl 1 rfl rfl ?_
          exact hv_iret E dX6_cost_56 hr ⟨by rw [if_pos hX, hs, show j.toNat = 16 by omega], rfl⟩
        · skip
          refine hv_aload_n E dX6_cost_20 rfl 2 rfl rfl ?_
          refine hv_get (kf := 0) E dX6_cost_21 (show vwCl[5]? = some (RX6, TX6, 4) from rfl) (by decide) gW_X6 gF_X6_11 rfl hk.o rfl rfl ?_
          refine hv_iload_n E dX6_cost_24 rfl 3 rfl rfl ?_
          obtain ⟨fa, hfa, hfb⟩ := hk.2.1
          refine hv_aaldN E dX6_cost_25 hfa (by omega) (by omega) (by decide) (hfb (x).toNat (by omega)) rfl ?_
          refine hv_iload_n E dX6_cost_26 rfl 0 rfl rfl ?_
          refine hv_callVI (na := 1) (As := [.int (iI (j))]) (st := []) E (c2_pieceAmount l D K j (by omega) (by omega) (hk.n (show (x).toNat < 8 by omega))) dX6_cost_27 (hk.n (show (x).toNat < 8 by omega)).1 (show vwCl[1]? = some (RX2, TX2, 1) from rfl) gL_X6_99 gV_X2_pieceAmount gI_X2_pieceAmount gC_X2_pieceAmount gZ_X2 (by decide +kernel) rfl ⟨Nat.le_of_ble_eq_true rfl, Nat.le_of_ble_eq_true rfl⟩ (Nat.le_of_ble_eq_true rfl) ⟨Nat.zero_le _, Nat.zero_le _⟩ rfl rfl (fun r w2 hp => ?_)
          rw [hp.1, hp.2]
          show hm_V p l e (hm_rm 4 0 0) s m args below meth c D (hm_A w s.heap.size) 4 0 0 (MQ below (hm_Qi D w s.heap.size (fun r w2 => r = iI (if 0 ≤ x ∧ x < 8 then cs (mem (F x.toNat)) 16 else -2) ∧ w2 = w)) args s 0 0 (hm_A w s.heap.size)) w 30 [(3, .int (iI (j))), (2, .int (iI (sm))), (0, .ref (ad 0)), (1, .int (iI (x)))] [.int (iI (pN (mem (F x.toNat)) j))]
          have hN := pN_b (mem (F x.toNat)) j
          refine hv_if_le E 49 dX6_cost_30 (by decide) ⟨by omega, by omega⟩ rfl (fun c3 => ?_) (fun c3 => ?_)
          · skip
            refine hv_iinc (lv2 := [(3, .int (iI (j + 1))), (2, .int (iI (sm))), (0, .ref (ad 0)), (1, .int (iI (x)))]) E dX6_cost_49 0 rfl rfl (by decide) rfl rfl ?_
            refine hv_goto E 14 dX6_cost_52 (by decide) ?_
            refine hv_sub (lv2 := [(3, .int (iI (j + 1))), (2, .int (iI (sm))), (0, .ref (ad 0)), (1, .int (iI (x)))]) [0, 1, 2, 3] rfl ?_
            exact ih (j + 1) _ (by omega) (by omega) (by omega) (by
                  rw [show (j + 1).toNat = j.toNat + 1 by omega]
                  simp only [cs]
                  rw [Int.toNat_of_nonneg g0, hs]
                  split <;> omega)
          · skip
            refine hv_iload_n E dX6_cost_33 rfl 1 rfl rfl ?_
            refine hv_bipush E dX6_cost_34 (by decide +kernel) rfl ?_
            refine hv_aload_n E dX6_cost_36 rfl 2 rfl rfl ?_
            refine hv_get (kf := 0) E dX6_cost_37 (show vwCl[5]? = some (RX6, TX6, 4) from rfl) (by decide) gW_X6 gF_X6_11 rfl hk.o rfl rfl ?_
            refine hv_iload_n E dX6_cost_40 rfl 3 rfl rfl ?_
            obtain ⟨fa, hfa, hfb⟩ := hk.2.1
            refine hv_aaldN E dX6_cost_41 hfa (by omega) (by omega) (by decide) (hfb (x).toNat (by omega)) rfl ?_
            refine hv_iload_n E dX6_cost_42 rfl 0 rfl rfl ?_
            refine hv_callVI (na := 1) (As := [.int (iI (j))]) (st := [.int (iI (16)), .int (iI (sm))]) E (c2_pieceBits l D K j (by omega) (by omega) (hk.n (show (x).toNat < 8 by omega))) dX6_cost_43 (hk.n (show (x).toNat < 8 by omega)).1 (show vwCl[1]? = some (RX2, TX2, 1) from rfl) gL_X6_105 gV_X2_pieceBits gI_X2_pieceBits gC_X2_pieceBits gZ_X2 (by decide +kernel) rfl ⟨Nat.le_of_ble_eq_true rfl, Nat.le_of_ble_eq_true rfl⟩ (Nat.le_of_ble_eq_true rfl) ⟨Nat.zero_le _, Nat.zero_le _⟩ rfl rfl (fun r w2 hp => ?_)
            rw [hp.1, hp.2]
            show hm_V p l e (hm_rm 4 0 0) s m args below meth c D (hm_A w s.heap.size) 4 0 0 (MQ below (hm_Qi D w s.heap.size (fun r w2 => r = iI (if 0 ≤ x ∧ x < 8 then cs (mem (F x.toNat)) 16 else -2) ∧ w2 = w)) args s 0 0 (hm_A w s.heap.size)) w 46 [(3, .int (iI (j))), (2, .int (iI (sm))), (0, .ref (ad 0)), (1, .int (iI (x)))] [.int (iI (pB (mem (F x.toNat)) j)), .int (iI (16)), .int (iI (sm))]
            have hB := pB_b (mem (F x.toNat)) j
            refine hv_iadd E dX6_cost_46 rfl ?_
            refine hv_iadd E dX6_cost_47 rfl ?_
            refine hv_istore_n (lv2 := [(2, .int (iI (sm + (16 + (pB (mem (F x.toNat)) j))))), (3, .int (iI (j))), (0, .ref (ad 0)), (1, .int (iI (x)))]) E dX6_cost_48 rfl (by decide) rfl rfl ?_
            refine hv_iinc (lv2 := [(3, .int (iI (j + 1))), (2, .int (iI (sm + (16 + (pB (mem (F x.toNat)) j))))), (0, .ref (ad 0)), (1, .int (iI (x)))]) E dX6_cost_49 1 rfl rfl (by decide) rfl rfl ?_
            refine hv_goto E 14 dX6_cost_52 (by decide) ?_
            refine hv_sub (lv2 := [(3, .int (iI (j + 1))), (2, .int (iI (sm + (16 + (pB (mem (F x.toNat)) j))))), (0, .ref (ad 0)), (1, .int (iI (x)))]) [0, 1, 2, 3] rfl ?_
            exact ih (j + 1) _ (by omega) (by omega) (by omega) (by
                  rw [show (j + 1).toNat = j.toNat + 1 by omega]
                  simp only [cs]
                  rw [Int.toNat_of_nonneg g0, hs]
                  split <;> omega)
    refine hv_sub (lv2 := [(3, .int (iI (0))), (2, .int (iI (0))), (0, .ref (ad 0)), (1, .int (iI (x)))]) [0, 1, 2, 3] rfl ?_
    exact LP 17 0 0 (by omega) (by omega) (by omega) rfl
  · have c1 := of_decide_eq_false c1
    refine hv_bipush E dX6_cost_7 (by decide +kernel) rfl ?_
    exact hv_iret E dX6_cost_9 hr ⟨(by (repeat (first | rw [if_pos (by omega)] | rw [if_neg (by omega)])) <;> first | done | rfl), rfl⟩
end
