-- ===== PART A: goes FIRST, ahead of the names: the tables' words, and 'selects' of the private methods out of them =====
/-- a private method of a class that the tables say can be made, by its rows of tables_1 -/
def lw_okq (q : MethodName × Nat) : Prop := (q.1.cls ≠ "java/lang/invoke/MethodHandle" ∧ q.1.cls ≠ "java/lang/invoke/VarHandle") ∧ Cond.instantiable q.1.cls q.2 ∈ tables_1 ∧ Cond.privateMethod q.1 ∈ tables_1 ∧ Cond.instanceMethod q.1 ∈ tables_1
theorem lw_p0 : lw_okq (⟨"TrapSurvey$History", "dropOldest", "()V"⟩, 2) := ⟨⟨by decide +kernel, by decide +kernel⟩, List.mem_of_getElem? (i := 126) (by decide +kernel), List.mem_of_getElem? (i := 242) (by decide +kernel), List.mem_of_getElem? (i := 243) (by decide +kernel)⟩
theorem lw_p1 : lw_okq (⟨"TrapSurvey$RepairOrder", "insert", "(I)V"⟩, 4) := ⟨⟨by decide +kernel, by decide +kernel⟩, List.mem_of_getElem? (i := 143) (by decide +kernel), List.mem_of_getElem? (i := 439) (by decide +kernel), List.mem_of_getElem? (i := 440) (by decide +kernel)⟩
theorem lw_p2 : lw_okq (⟨"TrapSurvey$RepairOrder", "isBetter", "(II)Z"⟩, 4) := ⟨⟨by decide +kernel, by decide +kernel⟩, List.mem_of_getElem? (i := 143) (by decide +kernel), List.mem_of_getElem? (i := 443) (by decide +kernel), List.mem_of_getElem? (i := 444) (by decide +kernel)⟩
theorem lw_p3 : lw_okq (⟨"TrapSurvey$SurveyRound", "nearestWaiting", "(LTrapSurvey$Plant;II)I"⟩, 4) := ⟨⟨by decide +kernel, by decide +kernel⟩, List.mem_of_getElem? (i := 163) (by decide +kernel), List.mem_of_getElem? (i := 480) (by decide +kernel), List.mem_of_getElem? (i := 481) (by decide +kernel)⟩
theorem lw_p4 : lw_okq (⟨"TrapSurvey$ReadingText", "scanList", "(I)Z"⟩, 5) := ⟨⟨by decide +kernel, by decide +kernel⟩, List.mem_of_getElem? (i := 184) (by decide +kernel), List.mem_of_getElem? (i := 532) (by decide +kernel), List.mem_of_getElem? (i := 533) (by decide +kernel)⟩
theorem lw_p5 : lw_okq (⟨"TrapSurvey$ReadingText", "scanReading", "([II)Z"⟩, 5) := ⟨⟨by decide +kernel, by decide +kernel⟩, List.mem_of_getElem? (i := 184) (by decide +kernel), List.mem_of_getElem? (i := 536) (by decide +kernel), List.mem_of_getElem? (i := 537) (by decide +kernel)⟩
theorem lw_p6 : lw_okq (⟨"TrapSurvey$ReadingText", "scanNumber", "([III)Z"⟩, 5) := ⟨⟨by decide +kernel, by decide +kernel⟩, List.mem_of_getElem? (i := 184) (by decide +kernel), List.mem_of_getElem? (i := 540) (by decide +kernel), List.mem_of_getElem? (i := 541) (by decide +kernel)⟩
theorem lw_p7 : lw_okq (⟨"TrapSurvey$ReadingText", "skipBlanks", "()V"⟩, 5) := ⟨⟨by decide +kernel, by decide +kernel⟩, List.mem_of_getElem? (i := 184) (by decide +kernel), List.mem_of_getElem? (i := 544) (by decide +kernel), List.mem_of_getElem? (i := 545) (by decide +kernel)⟩
theorem lw_p8 : lw_okq (⟨"TrapSurvey$ReadingText", "scanSign", "(C)Z"⟩, 5) := ⟨⟨by decide +kernel, by decide +kernel⟩, List.mem_of_getElem? (i := 184) (by decide +kernel), List.mem_of_getElem? (i := 552) (by decide +kernel), List.mem_of_getElem? (i := 553) (by decide +kernel)⟩
theorem lw_p9 : lw_okq (⟨"TrapSurveyModel", "keeps", "()V"⟩, 13) := ⟨⟨by decide +kernel, by decide +kernel⟩, List.mem_of_getElem? (i := 571) (by decide +kernel), List.mem_of_getElem? (i := 627) (by decide +kernel), List.mem_of_getElem? (i := 628) (by decide +kernel)⟩
theorem lw_p10 : lw_okq (⟨"TrapSurveyModel", "copies", "(II)V"⟩, 13) := ⟨⟨by decide +kernel, by decide +kernel⟩, List.mem_of_getElem? (i := 571) (by decide +kernel), List.mem_of_getElem? (i := 631) (by decide +kernel), List.mem_of_getElem? (i := 632) (by decide +kernel)⟩
theorem lw_p11 : lw_okq (⟨"TrapSurveyModel", "isLine", "(I)Z"⟩, 13) := ⟨⟨by decide +kernel, by decide +kernel⟩, List.mem_of_getElem? (i := 571) (by decide +kernel), List.mem_of_getElem? (i := 643) (by decide +kernel), List.mem_of_getElem? (i := 644) (by decide +kernel)⟩
theorem lw_p12 : lw_okq (⟨"TrapSurveyModel", "isTrap", "(I)Z"⟩, 13) := ⟨⟨by decide +kernel, by decide +kernel⟩, List.mem_of_getElem? (i := 571) (by decide +kernel), List.mem_of_getElem? (i := 663) (by decide +kernel), List.mem_of_getElem? (i := 664) (by decide +kernel)⟩
theorem lw_p13 : lw_okq (⟨"TrapSurveyModel", "header", "(I)I"⟩, 13) := ⟨⟨by decide +kernel, by decide +kernel⟩, List.mem_of_getElem? (i := 571) (by decide +kernel), List.mem_of_getElem? (i := 667) (by decide +kernel), List.mem_of_getElem? (i := 668) (by decide +kernel)⟩
theorem lw_p14 : lw_okq (⟨"TrapSurveyModel", "of", "(II)I"⟩, 13) := ⟨⟨by decide +kernel, by decide +kernel⟩, List.mem_of_getElem? (i := 571) (by decide +kernel), List.mem_of_getElem? (i := 671) (by decide +kernel), List.mem_of_getElem? (i := 672) (by decide +kernel)⟩
theorem lw_p15 : lw_okq (⟨"TrapSurveyModel", "reads", "(IIII)V"⟩, 13) := ⟨⟨by decide +kernel, by decide +kernel⟩, List.mem_of_getElem? (i := 571) (by decide +kernel), List.mem_of_getElem? (i := 690) (by decide +kernel), List.mem_of_getElem? (i := 691) (by decide +kernel)⟩
def lw_privs_1 : List (MethodName × Nat) := [(⟨"TrapSurvey$History", "dropOldest", "()V"⟩, 2), (⟨"TrapSurvey$RepairOrder", "insert", "(I)V"⟩, 4), (⟨"TrapSurvey$RepairOrder", "isBetter", "(II)Z"⟩, 4), (⟨"TrapSurvey$SurveyRound", "nearestWaiting", "(LTrapSurvey$Plant;II)I"⟩, 4), (⟨"TrapSurvey$ReadingText", "scanList", "(I)Z"⟩, 5), (⟨"TrapSurvey$ReadingText", "scanReading", "([II)Z"⟩, 5), (⟨"TrapSurvey$ReadingText", "scanNumber", "([III)Z"⟩, 5), (⟨"TrapSurvey$ReadingText", "skipBlanks", "()V"⟩, 5), (⟨"TrapSurvey$ReadingText", "scanSign", "(C)Z"⟩, 5), (⟨"TrapSurveyModel", "keeps", "()V"⟩, 13), (⟨"TrapSurveyModel", "copies", "(II)V"⟩, 13), (⟨"TrapSurveyModel", "isLine", "(I)Z"⟩, 13), (⟨"TrapSurveyModel", "isTrap", "(I)Z"⟩, 13), (⟨"TrapSurveyModel", "header", "(I)I"⟩, 13), (⟨"TrapSurveyModel", "of", "(II)I"⟩, 13), (⟨"TrapSurveyModel", "reads", "(IIII)V"⟩, 13)]
theorem lw_r1 : ∀ q ∈ lw_privs_1, lw_okq q := List.forall_mem_cons.mpr ⟨lw_p0, List.forall_mem_cons.mpr ⟨lw_p1, List.forall_mem_cons.mpr ⟨lw_p2, List.forall_mem_cons.mpr ⟨lw_p3, List.forall_mem_cons.mpr ⟨lw_p4, List.forall_mem_cons.mpr ⟨lw_p5, List.forall_mem_cons.mpr ⟨lw_p6, List.forall_mem_cons.mpr ⟨lw_p7, List.forall_mem_cons.mpr ⟨lw_p8, List.forall_mem_cons.mpr ⟨lw_p9, List.forall_mem_cons.mpr ⟨lw_p10, List.forall_mem_cons.mpr ⟨lw_p11, List.forall_mem_cons.mpr ⟨lw_p12, List.forall_mem_cons.mpr ⟨lw_p13, List.forall_mem_cons.mpr ⟨lw_p14, List.forall_mem_cons.mpr ⟨lw_p15, fun _ h => absurd h List.not_mem_nil⟩⟩⟩⟩⟩⟩⟩⟩⟩⟩⟩⟩⟩⟩⟩⟩
theorem lw_p16 : lw_okq (⟨"TrapSurveyModel", "judges", "(IIII)I"⟩, 13) := ⟨⟨by decide +kernel, by decide +kernel⟩, List.mem_of_getElem? (i := 571) (by decide +kernel), List.mem_of_getElem? (i := 694) (by decide +kernel), List.mem_of_getElem? (i := 695) (by decide +kernel)⟩
theorem lw_p17 : lw_okq (⟨"TrapSurveyModel", "lossOf", "(I)I"⟩, 13) := ⟨⟨by decide +kernel, by decide +kernel⟩, List.mem_of_getElem? (i := 571) (by decide +kernel), List.mem_of_getElem? (i := 706) (by decide +kernel), List.mem_of_getElem? (i := 707) (by decide +kernel)⟩
theorem lw_p18 : lw_okq (⟨"TrapSurveyModel", "worth", "(I)J"⟩, 13) := ⟨⟨by decide +kernel, by decide +kernel⟩, List.mem_of_getElem? (i := 571) (by decide +kernel), List.mem_of_getElem? (i := 735) (by decide +kernel), List.mem_of_getElem? (i := 736) (by decide +kernel)⟩
theorem lw_p19 : lw_okq (⟨"TrapSurveyModel", "costOf", "(I)I"⟩, 13) := ⟨⟨by decide +kernel, by decide +kernel⟩, List.mem_of_getElem? (i := 571) (by decide +kernel), List.mem_of_getElem? (i := 744) (by decide +kernel), List.mem_of_getElem? (i := 745) (by decide +kernel)⟩
theorem lw_p20 : lw_okq (⟨"TrapSurveyModel", "paysBack", "(I)J"⟩, 13) := ⟨⟨by decide +kernel, by decide +kernel⟩, List.mem_of_getElem? (i := 571) (by decide +kernel), List.mem_of_getElem? (i := 752) (by decide +kernel), List.mem_of_getElem? (i := 753) (by decide +kernel)⟩
theorem lw_p21 : lw_okq (⟨"TrapSurveyModel", "ranked", "(I)I"⟩, 13) := ⟨⟨by decide +kernel, by decide +kernel⟩, List.mem_of_getElem? (i := 571) (by decide +kernel), List.mem_of_getElem? (i := 761) (by decide +kernel), List.mem_of_getElem? (i := 762) (by decide +kernel)⟩
theorem lw_p22 : lw_okq (⟨"TrapSurveyModel", "isAhead", "(II)Z"⟩, 13) := ⟨⟨by decide +kernel, by decide +kernel⟩, List.mem_of_getElem? (i := 571) (by decide +kernel), List.mem_of_getElem? (i := 765) (by decide +kernel), List.mem_of_getElem? (i := 766) (by decide +kernel)⟩
theorem lw_p23 : lw_okq (⟨"TrapSurveyModel", "repairs", "(I)V"⟩, 13) := ⟨⟨by decide +kernel, by decide +kernel⟩, List.mem_of_getElem? (i := 571) (by decide +kernel), List.mem_of_getElem? (i := 773) (by decide +kernel), List.mem_of_getElem? (i := 774) (by decide +kernel)⟩
theorem lw_p24 : lw_okq (⟨"TrapSurveyModel", "due", "(I)Z"⟩, 13) := ⟨⟨by decide +kernel, by decide +kernel⟩, List.mem_of_getElem? (i := 571) (by decide +kernel), List.mem_of_getElem? (i := 785) (by decide +kernel), List.mem_of_getElem? (i := 786) (by decide +kernel)⟩
theorem lw_p25 : lw_okq (⟨"TrapSurveyModel", "walks", "()V"⟩, 13) := ⟨⟨by decide +kernel, by decide +kernel⟩, List.mem_of_getElem? (i := 571) (by decide +kernel), List.mem_of_getElem? (i := 793) (by decide +kernel), List.mem_of_getElem? (i := 794) (by decide +kernel)⟩
theorem lw_p26 : lw_okq (⟨"TrapSurveyModel", "readsText", "(Z)Z"⟩, 13) := ⟨⟨by decide +kernel, by decide +kernel⟩, List.mem_of_getElem? (i := 571) (by decide +kernel), List.mem_of_getElem? (i := 824) (by decide +kernel), List.mem_of_getElem? (i := 825) (by decide +kernel)⟩
theorem lw_p27 : lw_okq (⟨"TrapSurveyModel", "readsReading", "(Z)Z"⟩, 13) := ⟨⟨by decide +kernel, by decide +kernel⟩, List.mem_of_getElem? (i := 571) (by decide +kernel), List.mem_of_getElem? (i := 828) (by decide +kernel), List.mem_of_getElem? (i := 829) (by decide +kernel)⟩
theorem lw_p28 : lw_okq (⟨"TrapSurveyModel", "readsNumber", "(I)Z"⟩, 13) := ⟨⟨by decide +kernel, by decide +kernel⟩, List.mem_of_getElem? (i := 571) (by decide +kernel), List.mem_of_getElem? (i := 832) (by decide +kernel), List.mem_of_getElem? (i := 833) (by decide +kernel)⟩
theorem lw_p29 : lw_okq (⟨"TrapSurveyModel", "here", "()I"⟩, 13) := ⟨⟨by decide +kernel, by decide +kernel⟩, List.mem_of_getElem? (i := 571) (by decide +kernel), List.mem_of_getElem? (i := 836) (by decide +kernel), List.mem_of_getElem? (i := 837) (by decide +kernel)⟩
theorem lw_p30 : lw_okq (⟨"TrapSurveyModel", "sign", "(I)Z"⟩, 13) := ⟨⟨by decide +kernel, by decide +kernel⟩, List.mem_of_getElem? (i := 571) (by decide +kernel), List.mem_of_getElem? (i := 840) (by decide +kernel), List.mem_of_getElem? (i := 841) (by decide +kernel)⟩
theorem lw_p31 : lw_okq (⟨"TrapSurveyModel", "note", "(J)V"⟩, 13) := ⟨⟨by decide +kernel, by decide +kernel⟩, List.mem_of_getElem? (i := 571) (by decide +kernel), List.mem_of_getElem? (i := 853) (by decide +kernel), List.mem_of_getElem? (i := 854) (by decide +kernel)⟩
def lw_privs_2 : List (MethodName × Nat) := [(⟨"TrapSurveyModel", "judges", "(IIII)I"⟩, 13), (⟨"TrapSurveyModel", "lossOf", "(I)I"⟩, 13), (⟨"TrapSurveyModel", "worth", "(I)J"⟩, 13), (⟨"TrapSurveyModel", "costOf", "(I)I"⟩, 13), (⟨"TrapSurveyModel", "paysBack", "(I)J"⟩, 13), (⟨"TrapSurveyModel", "ranked", "(I)I"⟩, 13), (⟨"TrapSurveyModel", "isAhead", "(II)Z"⟩, 13), (⟨"TrapSurveyModel", "repairs", "(I)V"⟩, 13), (⟨"TrapSurveyModel", "due", "(I)Z"⟩, 13), (⟨"TrapSurveyModel", "walks", "()V"⟩, 13), (⟨"TrapSurveyModel", "readsText", "(Z)Z"⟩, 13), (⟨"TrapSurveyModel", "readsReading", "(Z)Z"⟩, 13), (⟨"TrapSurveyModel", "readsNumber", "(I)Z"⟩, 13), (⟨"TrapSurveyModel", "here", "()I"⟩, 13), (⟨"TrapSurveyModel", "sign", "(I)Z"⟩, 13), (⟨"TrapSurveyModel", "note", "(J)V"⟩, 13)]
theorem lw_r2 : ∀ q ∈ lw_privs_2, lw_okq q := List.forall_mem_cons.mpr ⟨lw_p16, List.forall_mem_cons.mpr ⟨lw_p17, List.forall_mem_cons.mpr ⟨lw_p18, List.forall_mem_cons.mpr ⟨lw_p19, List.forall_mem_cons.mpr ⟨lw_p20, List.forall_mem_cons.mpr ⟨lw_p21, List.forall_mem_cons.mpr ⟨lw_p22, List.forall_mem_cons.mpr ⟨lw_p23, List.forall_mem_cons.mpr ⟨lw_p24, List.forall_mem_cons.mpr ⟨lw_p25, List.forall_mem_cons.mpr ⟨lw_p26, List.forall_mem_cons.mpr ⟨lw_p27, List.forall_mem_cons.mpr ⟨lw_p28, List.forall_mem_cons.mpr ⟨lw_p29, List.forall_mem_cons.mpr ⟨lw_p30, List.forall_mem_cons.mpr ⟨lw_p31, fun _ h => absurd h List.not_mem_nil⟩⟩⟩⟩⟩⟩⟩⟩⟩⟩⟩⟩⟩⟩⟩⟩
def lw_privs : List (MethodName × Nat) := lw_privs_1 ++ (lw_privs_2)
def lw_tbl : List Cond := k2_sels lw_privs ++ tables_1
theorem lw_privs_ok : ∀ q ∈ lw_privs, lw_okq q := by
  show ∀ q ∈ lw_privs_1 ++ (lw_privs_2), lw_okq q
  exact List.forall_mem_append.mpr ⟨lw_r1, lw_r2⟩
def RX0 : String := "TrapSurvey$History"
def TX0 : u_T := fun k => match k with
  | 0 => ("TrapSurvey$History", "states", "[LTrapSurvey$Plant;", true)
  | _ => ("TrapSurvey$History", "size", "I", false)
def tyX0 : Nat → FieldType := fun k => match k with
  | 0 => .array (.object "TrapSurvey$Plant")
  | _ => .int
abbrev wsX00 : List Cond := u_ws RX0 TX0 2
theorem nmX0 : ∀ a, a < 2 → ∀ b, b < 2 → a ≠ b → (TX0 a).2.1 ≠ (TX0 b).2.1 := by decide +kernel
theorem tyX0_ok : ∀ k, k < 2 → parseFieldDescriptor (TX0 k).2.2.1 = some (tyX0 k) := by decide +kernel
abbrev cX0_init : ByteArray := prog_2_method_1_code
def yX0_init : MethodName := ⟨RX0, "<init>", "()V"⟩
abbrev cX0_keep : ByteArray := prog_2_method_2_code
def yX0_keep : MethodName := ⟨RX0, "keep", "(LTrapSurvey$Plant;)V"⟩
abbrev cX0_dropOldest : ByteArray := prog_2_method_3_code
def yX0_dropOldest : MethodName := ⟨RX0, "dropOldest", "()V"⟩
abbrev cX0_takeBack : ByteArray := prog_2_method_4_code
def yX0_takeBack : MethodName := ⟨RX0, "takeBack", "(LTrapSurvey$Plant;)Z"⟩
def RX1 : String := "TrapSurvey$Plant"
def TX1 : u_T := fun k => match k with
  | 0 => ("TrapSurvey$Plant", "pressures", "[I", true)
  | 1 => ("TrapSurvey$Plant", "lineHeaders", "[I", true)
  | 2 => ("TrapSurvey$Plant", "traps", "[LTrapSurvey$Trap;", true)
  | 3 => ("TrapSurvey$Plant", "lineCount", "I", false)
  | 4 => ("TrapSurvey$Plant", "trapCount", "I", false)
  | 5 => ("TrapSurvey$Plant", "hours", "I", false)
  | 6 => ("TrapSurvey$Plant", "price", "I", false)
  | 7 => ("TrapSurvey$Plant", "interval", "I", false)
  | 8 => ("TrapSurvey$Plant", "day", "I", false)
  | 9 => ("TrapSurvey$Plant", "spent", "I", false)
  | _ => ("TrapSurvey$Plant", "repairs", "I", false)
def tyX1 : Nat → FieldType := fun k => match k with
  | 0 => .array .int
  | 1 => .array .int
  | 2 => .array (.object "TrapSurvey$Trap")
  | 3 => .int
  | 4 => .int
  | 5 => .int
  | 6 => .int
  | 7 => .int
  | 8 => .int
  | 9 => .int
  | _ => .int
abbrev wsX10 : List Cond := u_ws RX1 TX1 11
theorem nmX1 : ∀ a, a < 11 → ∀ b, b < 11 → a ≠ b → (TX1 a).2.1 ≠ (TX1 b).2.1 := by decide +kernel
theorem tyX1_ok : ∀ k, k < 11 → parseFieldDescriptor (TX1 k).2.2.1 = some (tyX1 k) := by decide +kernel
abbrev cX1_init : ByteArray := prog_3_method_1_code
def yX1_init : MethodName := ⟨RX1, "<init>", "()V"⟩
abbrev cX1_copyFrom : ByteArray := prog_3_method_2_code
def yX1_copyFrom : MethodName := ⟨RX1, "copyFrom", "(LTrapSurvey$Plant;)V"⟩
abbrev cX1_hasHeader : ByteArray := prog_3_method_3_code
def yX1_hasHeader : MethodName := ⟨RX1, "hasHeader", "(I)Z"⟩
abbrev cX1_hasLine : ByteArray := prog_3_method_4_code
def yX1_hasLine : MethodName := ⟨RX1, "hasLine", "(I)Z"⟩
abbrev cX1_trapAt : ByteArray := prog_3_method_5_code
def yX1_trapAt : MethodName := ⟨RX1, "trapAt", "(I)LTrapSurvey$Trap;"⟩
abbrev cX1_headerOfLine : ByteArray := prog_3_method_6_code
def yX1_headerOfLine : MethodName := ⟨RX1, "headerOfLine", "(I)I"⟩
abbrev cX1_pressureOfHeader : ByteArray := prog_3_method_7_code
def yX1_pressureOfHeader : MethodName := ⟨RX1, "pressureOfHeader", "(I)I"⟩
abbrev cX1_pressureAt : ByteArray := prog_3_method_8_code
def yX1_pressureAt : MethodName := ⟨RX1, "pressureAt", "(LTrapSurvey$Trap;)I"⟩
abbrev cX1_takeReading : ByteArray := prog_3_method_9_code
def yX1_takeReading : MethodName := ⟨RX1, "takeReading", "(IIII)V"⟩
abbrev cX1_letPass : ByteArray := prog_3_method_10_code
def yX1_letPass : MethodName := ⟨RX1, "letPass", "(I)V"⟩
abbrev cX1_trapsInState : ByteArray := prog_3_method_11_code
def yX1_trapsInState : MethodName := ⟨RX1, "trapsInState", "(I)I"⟩
abbrev cX1_lossOf : ByteArray := prog_3_method_12_code
def yX1_lossOf : MethodName := ⟨RX1, "lossOf", "(LTrapSurvey$Trap;)I"⟩
abbrev cX1_lossOfLine : ByteArray := prog_3_method_13_code
def yX1_lossOfLine : MethodName := ⟨RX1, "lossOfLine", "(I)I"⟩
abbrev cX1_lossOfHeader : ByteArray := prog_3_method_14_code
def yX1_lossOfHeader : MethodName := ⟨RX1, "lossOfHeader", "(I)I"⟩
abbrev cX1_lostByAll : ByteArray := prog_3_method_15_code
def yX1_lostByAll : MethodName := ⟨RX1, "lostByAll", "()J"⟩
abbrev cX1_priceADay : ByteArray := prog_3_method_16_code
def yX1_priceADay : MethodName := ⟨RX1, "priceADay", "(I)J"⟩
abbrev cX1_paybackOf : ByteArray := prog_3_method_17_code
def yX1_paybackOf : MethodName := ⟨RX1, "paybackOf", "(LTrapSurvey$Trap;)J"⟩
abbrev cX1_mend : ByteArray := prog_3_method_18_code
def yX1_mend : MethodName := ⟨RX1, "mend", "(LTrapSurvey$Trap;)V"⟩
abbrev cX1_needsVisit : ByteArray := prog_3_method_19_code
def yX1_needsVisit : MethodName := ⟨RX1, "needsVisit", "(LTrapSurvey$Trap;)Z"⟩
def RX2 : String := "TrapSurvey$ReadingText"
def TX2 : u_T := fun k => match k with
  | 0 => ("TrapSurvey$ReadingText", "codes", "[I", true)
  | 1 => ("TrapSurvey$ReadingText", "readings", "[[I", true)
  | 2 => ("TrapSurvey$ReadingText", "length", "I", false)
  | 3 => ("TrapSurvey$ReadingText", "readingCount", "I", false)
  | _ => ("TrapSurvey$ReadingText", "position", "I", false)
def tyX2 : Nat → FieldType := fun k => match k with
  | 0 => .array .int
  | 1 => .array (.array .int)
  | 2 => .int
  | 3 => .int
  | _ => .int
abbrev wsX20 : List Cond := u_ws RX2 TX2 5
theorem nmX2 : ∀ a, a < 5 → ∀ b, b < 5 → a ≠ b → (TX2 a).2.1 ≠ (TX2 b).2.1 := by decide +kernel
theorem tyX2_ok : ∀ k, k < 5 → parseFieldDescriptor (TX2 k).2.2.1 = some (tyX2 k) := by decide +kernel
abbrev cX2_init : ByteArray := prog_4_method_1_code
def yX2_init : MethodName := ⟨RX2, "<init>", "()V"⟩
abbrev cX2_append : ByteArray := prog_4_method_2_code
def yX2_append : MethodName := ⟨RX2, "append", "(I)Z"⟩
abbrev cX2_faultFor : ByteArray := prog_4_method_3_code
def yX2_faultFor : MethodName := ⟨RX2, "faultFor", "(I)I"⟩
abbrev cX2_scanList : ByteArray := prog_4_method_4_code
def yX2_scanList : MethodName := ⟨RX2, "scanList", "(I)Z"⟩
abbrev cX2_scanReading : ByteArray := prog_4_method_5_code
def yX2_scanReading : MethodName := ⟨RX2, "scanReading", "([II)Z"⟩
abbrev cX2_scanSign : ByteArray := prog_4_method_6_code
def yX2_scanSign : MethodName := ⟨RX2, "scanSign", "(C)Z"⟩
abbrev cX2_scanNumber : ByteArray := prog_4_method_7_code
def yX2_scanNumber : MethodName := ⟨RX2, "scanNumber", "([III)Z"⟩
abbrev cX2_skipBlanks : ByteArray := prog_4_method_8_code
def yX2_skipBlanks : MethodName := ⟨RX2, "skipBlanks", "()V"⟩
abbrev cX2_isDigit : ByteArray := prog_4_method_9_code
def yX2_isDigit : MethodName := ⟨RX2, "isDigit", "(I)Z"⟩
def RX3 : String := "TrapSurvey$RepairOrder"
def TX3 : u_T := fun k => match k with
  | 0 => ("TrapSurvey$RepairOrder", "ranked", "[I", true)
  | 1 => ("TrapSurvey$RepairOrder", "losses", "[I", true)
  | 2 => ("TrapSurvey$RepairOrder", "paybacks", "[J", true)
  | _ => ("TrapSurvey$RepairOrder", "size", "I", false)
def tyX3 : Nat → FieldType := fun k => match k with
  | 0 => .array .int
  | 1 => .array .int
  | 2 => .array .long
  | _ => .int
abbrev wsX30 : List Cond := u_ws RX3 TX3 4
theorem nmX3 : ∀ a, a < 4 → ∀ b, b < 4 → a ≠ b → (TX3 a).2.1 ≠ (TX3 b).2.1 := by decide +kernel
theorem tyX3_ok : ∀ k, k < 4 → parseFieldDescriptor (TX3 k).2.2.1 = some (tyX3 k) := by decide +kernel
abbrev cX3_init : ByteArray := prog_5_method_1_code
def yX3_init : MethodName := ⟨RX3, "<init>", "()V"⟩
abbrev cX3_rankTraps : ByteArray := prog_5_method_2_code
def yX3_rankTraps : MethodName := ⟨RX3, "rankTraps", "(LTrapSurvey$Plant;)V"⟩
abbrev cX3_trapAtRank : ByteArray := prog_5_method_3_code
def yX3_trapAtRank : MethodName := ⟨RX3, "trapAtRank", "(I)I"⟩
abbrev cX3_insert : ByteArray := prog_5_method_4_code
def yX3_insert : MethodName := ⟨RX3, "insert", "(I)V"⟩
abbrev cX3_isBetter : ByteArray := prog_5_method_5_code
def yX3_isBetter : MethodName := ⟨RX3, "isBetter", "(II)Z"⟩
def RX4 : String := "TrapSurvey$SurveyRound"
def TX4 : u_T := fun k => match k with
  | 0 => ("TrapSurvey$SurveyRound", "stops", "[I", true)
  | 1 => ("TrapSurvey$SurveyRound", "waits", "[Z", true)
  | 2 => ("TrapSurvey$SurveyRound", "size", "I", false)
  | _ => ("TrapSurvey$SurveyRound", "length", "I", false)
def tyX4 : Nat → FieldType := fun k => match k with
  | 0 => .array .int
  | 1 => .array .boolean
  | 2 => .int
  | _ => .int
abbrev wsX40 : List Cond := u_ws RX4 TX4 4
theorem nmX4 : ∀ a, a < 4 → ∀ b, b < 4 → a ≠ b → (TX4 a).2.1 ≠ (TX4 b).2.1 := by decide +kernel
theorem tyX4_ok : ∀ k, k < 4 → parseFieldDescriptor (TX4 k).2.2.1 = some (tyX4 k) := by decide +kernel
abbrev cX4_init : ByteArray := prog_6_method_1_code
def yX4_init : MethodName := ⟨RX4, "<init>", "()V"⟩
abbrev cX4_plan : ByteArray := prog_6_method_2_code
def yX4_plan : MethodName := ⟨RX4, "plan", "(LTrapSurvey$Plant;)V"⟩
abbrev cX4_stopAt : ByteArray := prog_6_method_3_code
def yX4_stopAt : MethodName := ⟨RX4, "stopAt", "(I)I"⟩
abbrev cX4_nearestWaiting : ByteArray := prog_6_method_4_code
def yX4_nearestWaiting : MethodName := ⟨RX4, "nearestWaiting", "(LTrapSurvey$Plant;II)I"⟩
def RX5 : String := "TrapSurvey$Trap"
def TX5 : u_T := fun k => match k with
  | 0 => ("TrapSurvey$Trap", "line", "I", false)
  | 1 => ("TrapSurvey$Trap", "kind", "I", false)
  | 2 => ("TrapSurvey$Trap", "size", "I", false)
  | 3 => ("TrapSurvey$Trap", "x", "I", false)
  | 4 => ("TrapSurvey$Trap", "y", "I", false)
  | 5 => ("TrapSurvey$Trap", "state", "I", false)
  | 6 => ("TrapSurvey$Trap", "readDay", "I", false)
  | _ => ("TrapSurvey$Trap", "lostSteam", "J", false)
def tyX5 : Nat → FieldType := fun k => match k with
  | 0 => .int
  | 1 => .int
  | 2 => .int
  | 3 => .int
  | 4 => .int
  | 5 => .int
  | 6 => .int
  | _ => .long
abbrev wsX50 : List Cond := u_ws RX5 TX5 8
theorem nmX5 : ∀ a, a < 8 → ∀ b, b < 8 → a ≠ b → (TX5 a).2.1 ≠ (TX5 b).2.1 := by decide +kernel
theorem tyX5_ok : ∀ k, k < 8 → parseFieldDescriptor (TX5 k).2.2.1 = some (tyX5 k) := by decide +kernel
abbrev cX5_init : ByteArray := prog_7_method_1_code
def yX5_init : MethodName := ⟨RX5, "<init>", "()V"⟩
abbrev cX5_install : ByteArray := prog_7_method_2_code
def yX5_install : MethodName := ⟨RX5, "install", "(IIIII)V"⟩
abbrev cX5_copyFrom : ByteArray := prog_7_method_3_code
def yX5_copyFrom : MethodName := ⟨RX5, "copyFrom", "(LTrapSurvey$Trap;)V"⟩
abbrev cX5_judged : ByteArray := prog_7_method_4_code
def yX5_judged : MethodName := ⟨RX5, "judged", "(IIII)I"⟩
abbrev cX5_judgedAsBucket : ByteArray := prog_7_method_5_code
def yX5_judgedAsBucket : MethodName := ⟨RX5, "judgedAsBucket", "(I)I"⟩
abbrev cX5_judgedAsThermostatic : ByteArray := prog_7_method_6_code
def yX5_judgedAsThermostatic : MethodName := ⟨RX5, "judgedAsThermostatic", "(II)I"⟩
abbrev cX5_judgedAsDisc : ByteArray := prog_7_method_7_code
def yX5_judgedAsDisc : MethodName := ⟨RX5, "judgedAsDisc", "(III)I"⟩
abbrev cX5_lossUnder : ByteArray := prog_7_method_8_code
def yX5_lossUnder : MethodName := ⟨RX5, "lossUnder", "(I)I"⟩
abbrev cX5_costOfRepair : ByteArray := prog_7_method_9_code
def yX5_costOfRepair : MethodName := ⟨RX5, "costOfRepair", "()I"⟩
abbrev cX5_wayFrom : ByteArray := prog_7_method_10_code
def yX5_wayFrom : MethodName := ⟨RX5, "wayFrom", "(II)I"⟩
def RX6 : String := "TrapSurvey"
def TX6 : u_T := fun k => match k with
  | 0 => ("TrapSurvey", "plant", "LTrapSurvey$Plant;", true)
  | 1 => ("TrapSurvey", "history", "LTrapSurvey$History;", true)
  | 2 => ("TrapSurvey", "repairOrder", "LTrapSurvey$RepairOrder;", true)
  | 3 => ("TrapSurvey", "surveyRound", "LTrapSurvey$SurveyRound;", true)
  | _ => ("TrapSurvey", "text", "LTrapSurvey$ReadingText;", true)
def tyX6 : Nat → FieldType := fun k => match k with
  | 0 => .object "TrapSurvey$Plant"
  | 1 => .object "TrapSurvey$History"
  | 2 => .object "TrapSurvey$RepairOrder"
  | 3 => .object "TrapSurvey$SurveyRound"
  | _ => .object "TrapSurvey$ReadingText"
abbrev wsX60 : List Cond := u_ws RX6 TX6 5
theorem nmX6 : ∀ a, a < 5 → ∀ b, b < 5 → a ≠ b → (TX6 a).2.1 ≠ (TX6 b).2.1 := by decide +kernel
theorem tyX6_ok : ∀ k, k < 5 → parseFieldDescriptor (TX6 k).2.2.1 = some (tyX6 k) := by decide +kernel
abbrev cX6_init : ByteArray := prog_1_method_1_code
def yX6_init : MethodName := ⟨RX6, "<init>", "()V"⟩
abbrev cX6_setPressure : ByteArray := prog_1_method_2_code
def yX6_setPressure : MethodName := ⟨RX6, "setPressure", "(II)I"⟩
abbrev cX6_addLine : ByteArray := prog_1_method_3_code
def yX6_addLine : MethodName := ⟨RX6, "addLine", "(I)I"⟩
abbrev cX6_addTrap : ByteArray := prog_1_method_4_code
def yX6_addTrap : MethodName := ⟨RX6, "addTrap", "(IIIII)I"⟩
abbrev cX6_moveLine : ByteArray := prog_1_method_5_code
def yX6_moveLine : MethodName := ⟨RX6, "moveLine", "(II)I"⟩
abbrev cX6_setWork : ByteArray := prog_1_method_6_code
def yX6_setWork : MethodName := ⟨RX6, "setWork", "(III)I"⟩
abbrev cX6_count : ByteArray := prog_1_method_7_code
def yX6_count : MethodName := ⟨RX6, "count", "(I)I"⟩
abbrev cX6_trap : ByteArray := prog_1_method_8_code
def yX6_trap : MethodName := ⟨RX6, "trap", "(II)I"⟩
abbrev cX6_headerOf : ByteArray := prog_1_method_9_code
def yX6_headerOf : MethodName := ⟨RX6, "headerOf", "(I)I"⟩
abbrev cX6_pressure : ByteArray := prog_1_method_10_code
def yX6_pressure : MethodName := ⟨RX6, "pressure", "(I)I"⟩
abbrev cX6_read : ByteArray := prog_1_method_11_code
def yX6_read : MethodName := ⟨RX6, "read", "(IIII)I"⟩
abbrev cX6_judge : ByteArray := prog_1_method_12_code
def yX6_judge : MethodName := ⟨RX6, "judge", "(IIII)I"⟩
abbrev cX6_pass : ByteArray := prog_1_method_13_code
def yX6_pass : MethodName := ⟨RX6, "pass", "(I)I"⟩
abbrev cX6_inState : ByteArray := prog_1_method_14_code
def yX6_inState : MethodName := ⟨RX6, "inState", "(I)I"⟩
abbrev cX6_loss : ByteArray := prog_1_method_15_code
def yX6_loss : MethodName := ⟨RX6, "loss", "(I)I"⟩
abbrev cX6_lineLoss : ByteArray := prog_1_method_16_code
def yX6_lineLoss : MethodName := ⟨RX6, "lineLoss", "(I)I"⟩
abbrev cX6_headerLoss : ByteArray := prog_1_method_17_code
def yX6_headerLoss : MethodName := ⟨RX6, "headerLoss", "(I)I"⟩
abbrev cX6_lost : ByteArray := prog_1_method_18_code
def yX6_lost : MethodName := ⟨RX6, "lost", "(I)J"⟩
abbrev cX6_saves : ByteArray := prog_1_method_19_code
def yX6_saves : MethodName := ⟨RX6, "saves", "(I)J"⟩
abbrev cX6_repairCost : ByteArray := prog_1_method_20_code
def yX6_repairCost : MethodName := ⟨RX6, "repairCost", "(I)I"⟩
abbrev cX6_payback : ByteArray := prog_1_method_21_code
def yX6_payback : MethodName := ⟨RX6, "payback", "(I)J"⟩
abbrev cX6_order : ByteArray := prog_1_method_22_code
def yX6_order : MethodName := ⟨RX6, "order", "(I)I"⟩
abbrev cX6_repair : ByteArray := prog_1_method_23_code
def yX6_repair : MethodName := ⟨RX6, "repair", "(I)I"⟩
abbrev cX6_repairAll : ByteArray := prog_1_method_24_code
def yX6_repairAll : MethodName := ⟨RX6, "repairAll", "(I)I"⟩
abbrev cX6_isDue : ByteArray := prog_1_method_25_code
def yX6_isDue : MethodName := ⟨RX6, "isDue", "(I)I"⟩
abbrev cX6_round : ByteArray := prog_1_method_26_code
def yX6_round : MethodName := ⟨RX6, "round", "(I)I"⟩
abbrev cX6_roundLength : ByteArray := prog_1_method_27_code
def yX6_roundLength : MethodName := ⟨RX6, "roundLength", "()I"⟩
abbrev cX6_dueOn : ByteArray := prog_1_method_28_code
def yX6_dueOn : MethodName := ⟨RX6, "dueOn", "(I)I"⟩
abbrev cX6_undo : ByteArray := prog_1_method_29_code
def yX6_undo : MethodName := ⟨RX6, "undo", "()I"⟩
abbrev cX6_type : ByteArray := prog_1_method_30_code
def yX6_type : MethodName := ⟨RX6, "type", "(I)I"⟩
abbrev cX6_clearText : ByteArray := prog_1_method_31_code
def yX6_clearText : MethodName := ⟨RX6, "clearText", "()I"⟩
abbrev cX6_textFault : ByteArray := prog_1_method_32_code
def yX6_textFault : MethodName := ⟨RX6, "textFault", "()I"⟩
abbrev cX6_readAll : ByteArray := prog_1_method_33_code
def yX6_readAll : MethodName := ⟨RX6, "readAll", "()I"⟩
abbrev cX6_digest : ByteArray := prog_1_method_34_code
def yX6_digest : MethodName := ⟨RX6, "digest", "()J"⟩
abbrev cX6_isWithin : ByteArray := prog_1_method_35_code
def yX6_isWithin : MethodName := ⟨RX6, "isWithin", "(III)Z"⟩
def RX7 : String := "TrapSurveyModel"
def TX7 : u_T := fun k => match k with
  | 0 => ("TrapSurveyModel", "row", "[I", true)
  | 1 => ("TrapSurveyModel", "lost", "[J", true)
  | 2 => ("TrapSurveyModel", "saved", "I", false)
  | 3 => ("TrapSurveyModel", "visited", "[Z", true)
  | 4 => ("TrapSurveyModel", "path", "[I", true)
  | 5 => ("TrapSurveyModel", "visits", "I", false)
  | 6 => ("TrapSurveyModel", "wayLength", "I", false)
  | 7 => ("TrapSurveyModel", "text", "[I", true)
  | 8 => ("TrapSurveyModel", "length", "I", false)
  | 9 => ("TrapSurveyModel", "at", "I", false)
  | 10 => ("TrapSurveyModel", "number", "I", false)
  | 11 => ("TrapSurveyModel", "readings", "I", false)
  | _ => ("TrapSurveyModel", "h", "J", false)
def tyX7 : Nat → FieldType := fun k => match k with
  | 0 => .array .int
  | 1 => .array .long
  | 2 => .int
  | 3 => .array .boolean
  | 4 => .array .int
  | 5 => .int
  | 6 => .int
  | 7 => .array .int
  | 8 => .int
  | 9 => .int
  | 10 => .int
  | 11 => .int
  | _ => .long
abbrev wsX70 : List Cond := u_ws RX7 TX7 13
theorem nmX7 : ∀ a, a < 13 → ∀ b, b < 13 → a ≠ b → (TX7 a).2.1 ≠ (TX7 b).2.1 := by decide +kernel
theorem tyX7_ok : ∀ k, k < 13 → parseFieldDescriptor (TX7 k).2.2.1 = some (tyX7 k) := by decide +kernel
abbrev cX7_init : ByteArray := prog_9_method_1_code
def yX7_init : MethodName := ⟨RX7, "<init>", "()V"⟩
abbrev cX7_in : ByteArray := prog_9_method_2_code
def yX7_in : MethodName := ⟨RX7, "in", "(III)Z"⟩
abbrev cX7_copies : ByteArray := prog_9_method_3_code
def yX7_copies : MethodName := ⟨RX7, "copies", "(II)V"⟩
abbrev cX7_keeps : ByteArray := prog_9_method_4_code
def yX7_keeps : MethodName := ⟨RX7, "keeps", "()V"⟩
abbrev cX7_of : ByteArray := prog_9_method_5_code
def yX7_of : MethodName := ⟨RX7, "of", "(II)I"⟩
abbrev cX7_isHeader : ByteArray := prog_9_method_6_code
def yX7_isHeader : MethodName := ⟨RX7, "isHeader", "(I)Z"⟩
abbrev cX7_isLine : ByteArray := prog_9_method_7_code
def yX7_isLine : MethodName := ⟨RX7, "isLine", "(I)Z"⟩
abbrev cX7_isTrap : ByteArray := prog_9_method_8_code
def yX7_isTrap : MethodName := ⟨RX7, "isTrap", "(I)Z"⟩
abbrev cX7_header : ByteArray := prog_9_method_9_code
def yX7_header : MethodName := ⟨RX7, "header", "(I)I"⟩
abbrev cX7_setPressure : ByteArray := prog_9_method_10_code
def yX7_setPressure : MethodName := ⟨RX7, "setPressure", "(II)I"⟩
abbrev cX7_addLine : ByteArray := prog_9_method_11_code
def yX7_addLine : MethodName := ⟨RX7, "addLine", "(I)I"⟩
abbrev cX7_addTrap : ByteArray := prog_9_method_12_code
def yX7_addTrap : MethodName := ⟨RX7, "addTrap", "(IIIII)I"⟩
abbrev cX7_moveLine : ByteArray := prog_9_method_13_code
def yX7_moveLine : MethodName := ⟨RX7, "moveLine", "(II)I"⟩
abbrev cX7_setWork : ByteArray := prog_9_method_14_code
def yX7_setWork : MethodName := ⟨RX7, "setWork", "(III)I"⟩
abbrev cX7_count : ByteArray := prog_9_method_15_code
def yX7_count : MethodName := ⟨RX7, "count", "(I)I"⟩
abbrev cX7_trap : ByteArray := prog_9_method_16_code
def yX7_trap : MethodName := ⟨RX7, "trap", "(II)I"⟩
abbrev cX7_headerOf : ByteArray := prog_9_method_17_code
def yX7_headerOf : MethodName := ⟨RX7, "headerOf", "(I)I"⟩
abbrev cX7_pressure : ByteArray := prog_9_method_18_code
def yX7_pressure : MethodName := ⟨RX7, "pressure", "(I)I"⟩
abbrev cX7_isReading : ByteArray := prog_9_method_19_code
def yX7_isReading : MethodName := ⟨RX7, "isReading", "(III)Z"⟩
abbrev cX7_judges : ByteArray := prog_9_method_20_code
def yX7_judges : MethodName := ⟨RX7, "judges", "(IIII)I"⟩
abbrev cX7_reads : ByteArray := prog_9_method_21_code
def yX7_reads : MethodName := ⟨RX7, "reads", "(IIII)V"⟩
abbrev cX7_read : ByteArray := prog_9_method_22_code
def yX7_read : MethodName := ⟨RX7, "read", "(IIII)I"⟩
abbrev cX7_judge : ByteArray := prog_9_method_23_code
def yX7_judge : MethodName := ⟨RX7, "judge", "(IIII)I"⟩
abbrev cX7_pass : ByteArray := prog_9_method_24_code
def yX7_pass : MethodName := ⟨RX7, "pass", "(I)I"⟩
abbrev cX7_inState : ByteArray := prog_9_method_25_code
def yX7_inState : MethodName := ⟨RX7, "inState", "(I)I"⟩
abbrev cX7_lossOf : ByteArray := prog_9_method_26_code
def yX7_lossOf : MethodName := ⟨RX7, "lossOf", "(I)I"⟩
abbrev cX7_loss : ByteArray := prog_9_method_27_code
def yX7_loss : MethodName := ⟨RX7, "loss", "(I)I"⟩
abbrev cX7_lineLoss : ByteArray := prog_9_method_28_code
def yX7_lineLoss : MethodName := ⟨RX7, "lineLoss", "(I)I"⟩
abbrev cX7_headerLoss : ByteArray := prog_9_method_29_code
def yX7_headerLoss : MethodName := ⟨RX7, "headerLoss", "(I)I"⟩
abbrev cX7_lost : ByteArray := prog_9_method_30_code
def yX7_lost : MethodName := ⟨RX7, "lost", "(I)J"⟩
abbrev cX7_worth : ByteArray := prog_9_method_31_code
def yX7_worth : MethodName := ⟨RX7, "worth", "(I)J"⟩
abbrev cX7_saves : ByteArray := prog_9_method_32_code
def yX7_saves : MethodName := ⟨RX7, "saves", "(I)J"⟩
abbrev cX7_costOf : ByteArray := prog_9_method_33_code
def yX7_costOf : MethodName := ⟨RX7, "costOf", "(I)I"⟩
abbrev cX7_repairCost : ByteArray := prog_9_method_34_code
def yX7_repairCost : MethodName := ⟨RX7, "repairCost", "(I)I"⟩
abbrev cX7_paysBack : ByteArray := prog_9_method_35_code
def yX7_paysBack : MethodName := ⟨RX7, "paysBack", "(I)J"⟩
abbrev cX7_payback : ByteArray := prog_9_method_36_code
def yX7_payback : MethodName := ⟨RX7, "payback", "(I)J"⟩
abbrev cX7_isAhead : ByteArray := prog_9_method_37_code
def yX7_isAhead : MethodName := ⟨RX7, "isAhead", "(II)Z"⟩
abbrev cX7_ranked : ByteArray := prog_9_method_38_code
def yX7_ranked : MethodName := ⟨RX7, "ranked", "(I)I"⟩
abbrev cX7_order : ByteArray := prog_9_method_39_code
def yX7_order : MethodName := ⟨RX7, "order", "(I)I"⟩
abbrev cX7_repairs : ByteArray := prog_9_method_40_code
def yX7_repairs : MethodName := ⟨RX7, "repairs", "(I)V"⟩
abbrev cX7_repair : ByteArray := prog_9_method_41_code
def yX7_repair : MethodName := ⟨RX7, "repair", "(I)I"⟩
abbrev cX7_repairAll : ByteArray := prog_9_method_42_code
def yX7_repairAll : MethodName := ⟨RX7, "repairAll", "(I)I"⟩
abbrev cX7_due : ByteArray := prog_9_method_43_code
def yX7_due : MethodName := ⟨RX7, "due", "(I)Z"⟩
abbrev cX7_isDue : ByteArray := prog_9_method_44_code
def yX7_isDue : MethodName := ⟨RX7, "isDue", "(I)I"⟩
abbrev cX7_size : ByteArray := prog_9_method_45_code
def yX7_size : MethodName := ⟨RX7, "size", "(I)I"⟩
abbrev cX7_walks : ByteArray := prog_9_method_46_code
def yX7_walks : MethodName := ⟨RX7, "walks", "()V"⟩
abbrev cX7_round : ByteArray := prog_9_method_47_code
def yX7_round : MethodName := ⟨RX7, "round", "(I)I"⟩
abbrev cX7_roundLength : ByteArray := prog_9_method_48_code
def yX7_roundLength : MethodName := ⟨RX7, "roundLength", "()I"⟩
abbrev cX7_dueOn : ByteArray := prog_9_method_49_code
def yX7_dueOn : MethodName := ⟨RX7, "dueOn", "(I)I"⟩
abbrev cX7_undo : ByteArray := prog_9_method_50_code
def yX7_undo : MethodName := ⟨RX7, "undo", "()I"⟩
abbrev cX7_type : ByteArray := prog_9_method_51_code
def yX7_type : MethodName := ⟨RX7, "type", "(I)I"⟩
abbrev cX7_clearText : ByteArray := prog_9_method_52_code
def yX7_clearText : MethodName := ⟨RX7, "clearText", "()I"⟩
abbrev cX7_here : ByteArray := prog_9_method_53_code
def yX7_here : MethodName := ⟨RX7, "here", "()I"⟩
abbrev cX7_sign : ByteArray := prog_9_method_54_code
def yX7_sign : MethodName := ⟨RX7, "sign", "(I)Z"⟩
abbrev cX7_readsNumber : ByteArray := prog_9_method_55_code
def yX7_readsNumber : MethodName := ⟨RX7, "readsNumber", "(I)Z"⟩
abbrev cX7_readsReading : ByteArray := prog_9_method_56_code
def yX7_readsReading : MethodName := ⟨RX7, "readsReading", "(Z)Z"⟩
abbrev cX7_readsText : ByteArray := prog_9_method_57_code
def yX7_readsText : MethodName := ⟨RX7, "readsText", "(Z)Z"⟩
abbrev cX7_textFault : ByteArray := prog_9_method_58_code
def yX7_textFault : MethodName := ⟨RX7, "textFault", "()I"⟩
abbrev cX7_readAll : ByteArray := prog_9_method_59_code
def yX7_readAll : MethodName := ⟨RX7, "readAll", "()I"⟩
abbrev cX7_note : ByteArray := prog_9_method_60_code
def yX7_note : MethodName := ⟨RX7, "note", "(J)V"⟩
abbrev cX7_digest : ByteArray := prog_9_method_61_code
def yX7_digest : MethodName := ⟨RX7, "digest", "()J"⟩
def RJ9 : String := "java/lang/Math"
def TJ9 : u_T := fun k => match k with
  | _ => ("", "", "", false)
def tyJ9 : Nat → FieldType := fun k => match k with
  | _ => .int
abbrev wsJ90 : List Cond := u_ws RJ9 TJ9 0
theorem nmJ9 : ∀ a, a < 0 → ∀ b, b < 0 → a ≠ b → (TJ9 a).2.1 ≠ (TJ9 b).2.1 := by decide +kernel
theorem tyJ9_ok : ∀ k, k < 0 → parseFieldDescriptor (TJ9 k).2.2.1 = some (tyJ9 k) := by decide +kernel
abbrev cJ9_abs_0f7a4 : ByteArray := prog_10_method_59_code
def yJ9_abs_0f7a4 : MethodName := ⟨RJ9, "abs", "(I)I"⟩
def RJ10 : String := "java/lang/System"
def TJ10 : u_T := fun k => match k with
  | _ => ("", "", "", false)
def tyJ10 : Nat → FieldType := fun k => match k with
  | _ => .int
abbrev wsJ100 : List Cond := u_ws RJ10 TJ10 0
theorem nmJ10 : ∀ a, a < 0 → ∀ b, b < 0 → a ≠ b → (TJ10 a).2.1 ≠ (TJ10 b).2.1 := by decide +kernel
theorem tyJ10_ok : ∀ k, k < 0 → parseFieldDescriptor (TJ10 k).2.2.1 = some (tyJ10 k) := by decide +kernel
def RJ7 : String := "java/util/Arrays"
def TJ7 : u_T := fun k => match k with
  | _ => ("", "", "", false)
def tyJ7 : Nat → FieldType := fun k => match k with
  | _ => .int
abbrev wsJ70 : List Cond := u_ws RJ7 TJ7 0
theorem nmJ7 : ∀ a, a < 0 → ∀ b, b < 0 → a ≠ b → (TJ7 a).2.1 ≠ (TJ7 b).2.1 := by decide +kernel
theorem tyJ7_ok : ∀ k, k < 0 → parseFieldDescriptor (TJ7 k).2.2.1 = some (tyJ7 k) := by decide +kernel
abbrev cJ7_fill_53178 : ByteArray := prog_12_method_103_code
def yJ7_fill_53178 : MethodName := ⟨RJ7, "fill", "([II)V"⟩
def RL : String := "TrapSurveyLaw"
abbrev cL_law : ByteArray := code
def yL_law : MethodName := ⟨RL, "law", "([I)Z"⟩
abbrev vwCl : List vw_C := [(RX0, TX0, 2), (RX1, TX1, 11), (RX2, TX2, 5), (RX3, TX3, 4), (RX4, TX4, 4), (RX5, TX5, 8), (RX6, TX6, 5), (RX7, TX7, 13)]
