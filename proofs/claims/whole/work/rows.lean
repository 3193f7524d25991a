section
-- ===== PART A: goes FIRST, ahead of the names: the tables' words, and 'selects' of the private methods out of them =====
/-- a private method of a class that the tables say can be made, by its rows of tables_1 -/
def lw_okq (q : MethodName × Nat) : Prop := (q.1.cls ≠ "java/lang/invoke/MethodHandle" ∧ q.1.cls ≠ "java/lang/invoke/VarHandle") ∧ Cond.instantiable q.1.cls q.2 ∈ tables_1 ∧ Cond.privateMethod q.1 ∈ tables_1 ∧ Cond.instanceMethod q.1 ∈ tables_1
theorem lw_p0 : lw_okq (⟨"TrapSurvey$History", "dropOldest", "()V"⟩, 2) := ⟨⟨by decide +kernel, by decide +kernel⟩, List.mem_of_getElem? (i := 126) (by decide +kernel), List.mem_of_getElem? (i := 242) (by decide +kernel), List.mem_of_getElem? (i := 243) (by decide +kernel)⟩
theorem lw_p1 : lw_okq (⟨"TrapSurvey$RepairOrder", "insert", "(I)V"⟩, 4) := ⟨⟨by decide +kernel, by decide +kernel⟩, List.mem_of_getElem? (i := 143) (by decide +kernel), List.mem_of_getElem? (i := 439) (by decide +kernel), List.mem_of_getElem? (i := 440) (by decide +kernel)⟩
theorem lw_p2 : lw_okq (⟨"TrapSurvey$RepairOrder", "isBetter", "(II)Z"⟩, 4) := ⟨⟨by decide +kernel, by decide +kernel⟩, List.mem_of_getElem? (i := 143) (by decide +kernel), List.mem_of_getElem? (i := 443) (by decide +kernel), List.mem_of_getElem? (i := 444) (by decide +kernel)⟩
theorem lw_p3 : lw_okq (⟨"TrapSurvey$SurveyRound", "nearestWaiting", "(LTrapSurvey$Plant;II)I"⟩, 4) := ⟨⟨by decide +kernel, by decide +kernel⟩, List.mem_of_getElem? (i := 163) (by decide +kernel), List.mem_of_getElem? (i := 480) (by decide +kernel), List.mem_of_getElem? (i := 481) (by decide +kernel)⟩
theorem lw_p4 : lw_okq (⟨"TrapSurvey$ReadingText", "scanList", "(I)Z"⟩, 5) := ⟨⟨by decide +kernel, by decide +kernel⟩, List.mem_of_getElem? (i := 184) (by decide +kernel), List.mem_of_getElem? (i := 533) (by decide +kernel), List.mem_of_getElem? (i := 534) (by decide +kernel)⟩
theorem lw_p5 : lw_okq (⟨"TrapSurvey$ReadingText", "scanReading", "([II)Z"⟩, 5) := ⟨⟨by decide +kernel, by decide +kernel⟩, List.mem_of_getElem? (i := 184) (by decide +kernel), List.mem_of_getElem? (i := 537) (by decide +kernel), List.mem_of_getElem? (i := 538) (by decide +kernel)⟩
theorem lw_p6 : lw_okq (⟨"TrapSurvey$ReadingText", "scanNumber", "([III)Z"⟩, 5) := ⟨⟨by decide +kernel, by decide +kernel⟩, List.mem_of_getElem? (i := 184) (by decide +kernel), List.mem_of_getElem? (i := 541) (by decide +kernel), List.mem_of_getElem? (i := 542) (by decide +kernel)⟩
theorem lw_p7 : lw_okq (⟨"TrapSurvey$ReadingText", "skipBlanks", "()V"⟩, 5) := ⟨⟨by decide +kernel, by decide +kernel⟩, List.mem_of_getElem? (i := 184) (by decide +kernel), List.mem_of_getElem? (i := 545) (by decide +kernel), List.mem_of_getElem? (i := 546) (by decide +kernel)⟩
theorem lw_p8 : lw_okq (⟨"TrapSurvey$ReadingText", "scanSign", "(C)Z"⟩, 5) := ⟨⟨by decide +kernel, by decide +kernel⟩, List.mem_of_getElem? (i := 184) (by decide +kernel), List.mem_of_getElem? (i := 553) (by decide +kernel), List.mem_of_getElem? (i := 554) (by decide +kernel)⟩
theorem lw_p9 : lw_okq (⟨"TrapSurveyModel", "keeps", "()V"⟩, 13) := ⟨⟨by decide +kernel, by decide +kernel⟩, List.mem_of_getElem? (i := 572) (by decide +kernel), List.mem_of_getElem? (i := 628) (by decide +kernel), List.mem_of_getElem? (i := 629) (by decide +kernel)⟩
theorem lw_p10 : lw_okq (⟨"TrapSurveyModel", "copies", "(II)V"⟩, 13) := ⟨⟨by decide +kernel, by decide +kernel⟩, List.mem_of_getElem? (i := 572) (by decide +kernel), List.mem_of_getElem? (i := 632) (by decide +kernel), List.mem_of_getElem? (i := 633) (by decide +kernel)⟩
theorem lw_p11 : lw_okq (⟨"TrapSurveyModel", "isLine", "(I)Z"⟩, 13) := ⟨⟨by decide +kernel, by decide +kernel⟩, List.mem_of_getElem? (i := 572) (by decide +kernel), List.mem_of_getElem? (i := 644) (by decide +kernel), List.mem_of_getElem? (i := 645) (by decide +kernel)⟩
theorem lw_p12 : lw_okq (⟨"TrapSurveyModel", "isTrap", "(I)Z"⟩, 13) := ⟨⟨by decide +kernel, by decide +kernel⟩, List.mem_of_getElem? (i := 572) (by decide +kernel), List.mem_of_getElem? (i := 664) (by decide +kernel), List.mem_of_getElem? (i := 665) (by decide +kernel)⟩
theorem lw_p13 : lw_okq (⟨"TrapSurveyModel", "header", "(I)I"⟩, 13) := ⟨⟨by decide +kernel, by decide +kernel⟩, List.mem_of_getElem? (i := 572) (by decide +kernel), List.mem_of_getElem? (i := 668) (by decide +kernel), List.mem_of_getElem? (i := 669) (by decide +kernel)⟩
theorem lw_p14 : lw_okq (⟨"TrapSurveyModel", "of", "(II)I"⟩, 13) := ⟨⟨by decide +kernel, by decide +kernel⟩, List.mem_of_getElem? (i := 572) (by decide +kernel), List.mem_of_getElem? (i := 672) (by decide +kernel), List.mem_of_getElem? (i := 673) (by decide +kernel)⟩
theorem lw_p15 : lw_okq (⟨"TrapSurveyModel", "reads", "(IIII)V"⟩, 13) := ⟨⟨by decide +kernel, by decide +kernel⟩, List.mem_of_getElem? (i := 572) (by decide +kernel), List.mem_of_getElem? (i := 691) (by decide +kernel), List.mem_of_getElem? (i := 692) (by decide +kernel)⟩
def lw_privs_1 : List (MethodName × Nat) := [(⟨"TrapSurvey$History", "dropOldest", "()V"⟩, 2), (⟨"TrapSurvey$RepairOrder", "insert", "(I)V"⟩, 4), (⟨"TrapSurvey$RepairOrder", "isBetter", "(II)Z"⟩, 4), (⟨"TrapSurvey$SurveyRound", "nearestWaiting", "(LTrapSurvey$Plant;II)I"⟩, 4), (⟨"TrapSurvey$ReadingText", "scanList", "(I)Z"⟩, 5), (⟨"TrapSurvey$ReadingText", "scanReading", "([II)Z"⟩, 5), (⟨"TrapSurvey$ReadingText", "scanNumber", "([III)Z"⟩, 5), (⟨"TrapSurvey$ReadingText", "skipBlanks", "()V"⟩, 5), (⟨"TrapSurvey$ReadingText", "scanSign", "(C)Z"⟩, 5), (⟨"TrapSurveyModel", "keeps", "()V"⟩, 13), (⟨"TrapSurveyModel", "copies", "(II)V"⟩, 13), (⟨"TrapSurveyModel", "isLine", "(I)Z"⟩, 13), (⟨"TrapSurveyModel", "isTrap", "(I)Z"⟩, 13), (⟨"TrapSurveyModel", "header", "(I)I"⟩, 13), (⟨"TrapSurveyModel", "of", "(II)I"⟩, 13), (⟨"TrapSurveyModel", "reads", "(IIII)V"⟩, 13)]
theorem lw_r1 : ∀ q ∈ lw_privs_1, lw_okq q := List.forall_mem_cons.mpr ⟨lw_p0, List.forall_mem_cons.mpr ⟨lw_p1, List.forall_mem_cons.mpr ⟨lw_p2, List.forall_mem_cons.mpr ⟨lw_p3, List.forall_mem_cons.mpr ⟨lw_p4, List.forall_mem_cons.mpr ⟨lw_p5, List.forall_mem_cons.mpr ⟨lw_p6, List.forall_mem_cons.mpr ⟨lw_p7, List.forall_mem_cons.mpr ⟨lw_p8, List.forall_mem_cons.mpr ⟨lw_p9, List.forall_mem_cons.mpr ⟨lw_p10, List.forall_mem_cons.mpr ⟨lw_p11, List.forall_mem_cons.mpr ⟨lw_p12, List.forall_mem_cons.mpr ⟨lw_p13, List.forall_mem_cons.mpr ⟨lw_p14, List.forall_mem_cons.mpr ⟨lw_p15, fun _ h => absurd h List.not_mem_nil⟩⟩⟩⟩⟩⟩⟩⟩⟩⟩⟩⟩⟩⟩⟩⟩
theorem lw_p16 : lw_okq (⟨"TrapSurveyModel", "judges", "(IIII)I"⟩, 13) := ⟨⟨by decide +kernel, by decide +kernel⟩, List.mem_of_getElem? (i := 572) (by decide +kernel), List.mem_of_getElem? (i := 695) (by decide +kernel), List.mem_of_getElem? (i := 696) (by decide +kernel)⟩
theorem lw_p17 : lw_okq (⟨"TrapSurveyModel", "lossOf", "(I)I"⟩, 13) := ⟨⟨by decide +kernel, by decide +kernel⟩, List.mem_of_getElem? (i := 572) (by decide +kernel), List.mem_of_getElem? (i := 707) (by decide +kernel), List.mem_of_getElem? (i := 708) (by decide +kernel)⟩
theorem lw_p18 : lw_okq (⟨"TrapSurveyModel", "worth", "(I)J"⟩, 13) := ⟨⟨by decide +kernel, by decide +kernel⟩, List.mem_of_getElem? (i := 572) (by decide +kernel), List.mem_of_getElem? (i := 736) (by decide +kernel), List.mem_of_getElem? (i := 737) (by decide +kernel)⟩
theorem lw_p19 : lw_okq (⟨"TrapSurveyModel", "costOf", "(I)I"⟩, 13) := ⟨⟨by decide +kernel, by decide +kernel⟩, List.mem_of_getElem? (i := 572) (by decide +kernel), List.mem_of_getElem? (i := 745) (by decide +kernel), List.mem_of_getElem? (i := 746) (by decide +kernel)⟩
theorem lw_p20 : lw_okq (⟨"TrapSurveyModel", "paysBack", "(I)J"⟩, 13) := ⟨⟨by decide +kernel, by decide +kernel⟩, List.mem_of_getElem? (i := 572) (by decide +kernel), List.mem_of_getElem? (i := 753) (by decide +kernel), List.mem_of_getElem? (i := 754) (by decide +kernel)⟩
theorem lw_p21 : lw_okq (⟨"TrapSurveyModel", "ranked", "(I)I"⟩, 13) := ⟨⟨by decide +kernel, by decide +kernel⟩, List.mem_of_getElem? (i := 572) (by decide +kernel), List.mem_of_getElem? (i := 762) (by decide +kernel), List.mem_of_getElem? (i := 763) (by decide +kernel)⟩
theorem lw_p22 : lw_okq (⟨"TrapSurveyModel", "isAhead", "(II)Z"⟩, 13) := ⟨⟨by decide +kernel, by decide +kernel⟩, List.mem_of_getElem? (i := 572) (by decide +kernel), List.mem_of_getElem? (i := 766) (by decide +kernel), List.mem_of_getElem? (i := 767) (by decide +kernel)⟩
theorem lw_p23 : lw_okq (⟨"TrapSurveyModel", "repairs", "(I)V"⟩, 13) := ⟨⟨by decide +kernel, by decide +kernel⟩, List.mem_of_getElem? (i := 572) (by decide +kernel), List.mem_of_getElem? (i := 774) (by decide +kernel), List.mem_of_getElem? (i := 775) (by decide +kernel)⟩
theorem lw_p24 : lw_okq (⟨"TrapSurveyModel", "due", "(I)Z"⟩, 13) := ⟨⟨by decide +kernel, by decide +kernel⟩, List.mem_of_getElem? (i := 572) (by decide +kernel), List.mem_of_getElem? (i := 786) (by decide +kernel), List.mem_of_getElem? (i := 787) (by decide +kernel)⟩
theorem lw_p25 : lw_okq (⟨"TrapSurveyModel", "walks", "()V"⟩, 13) := ⟨⟨by decide +kernel, by decide +kernel⟩, List.mem_of_getElem? (i := 572) (by decide +kernel), List.mem_of_getElem? (i := 794) (by decide +kernel), List.mem_of_getElem? (i := 795) (by decide +kernel)⟩
theorem lw_p26 : lw_okq (⟨"TrapSurveyModel", "readsText", "(Z)Z"⟩, 13) := ⟨⟨by decide +kernel, by decide +kernel⟩, List.mem_of_getElem? (i := 572) (by decide +kernel), List.mem_of_getElem? (i := 825) (by decide +kernel), List.mem_of_getElem? (i := 826) (by decide +kernel)⟩
theorem lw_p27 : lw_okq (⟨"TrapSurveyModel", "readsReading", "(Z)Z"⟩, 13) := ⟨⟨by decide +kernel, by decide +kernel⟩, List.mem_of_getElem? (i := 572) (by decide +kernel), List.mem_of_getElem? (i := 829) (by decide +kernel), List.mem_of_getElem? (i := 830) (by decide +kernel)⟩
theorem lw_p28 : lw_okq (⟨"TrapSurveyModel", "readsNumber", "(I)Z"⟩, 13) := ⟨⟨by decide +kernel, by decide +kernel⟩, List.mem_of_getElem? (i := 572) (by decide +kernel), List.mem_of_getElem? (i := 833) (by decide +kernel), List.mem_of_getElem? (i := 834) (by decide +kernel)⟩
theorem lw_p29 : lw_okq (⟨"TrapSurveyModel", "here", "()I"⟩, 13) := ⟨⟨by decide +kernel, by decide +kernel⟩, List.mem_of_getElem? (i := 572) (by decide +kernel), List.mem_of_getElem? (i := 837) (by decide +kernel), List.mem_of_getElem? (i := 838) (by decide +kernel)⟩
theorem lw_p30 : lw_okq (⟨"TrapSurveyModel", "sign", "(I)Z"⟩, 13) := ⟨⟨by decide +kernel, by decide +kernel⟩, List.mem_of_getElem? (i := 572) (by decide +kernel), List.mem_of_getElem? (i := 841) (by decide +kernel), List.mem_of_getElem? (i := 842) (by decide +kernel)⟩
theorem lw_p31 : lw_okq (⟨"TrapSurveyModel", "note", "(J)V"⟩, 13) := ⟨⟨by decide +kernel, by decide +kernel⟩, List.mem_of_getElem? (i := 572) (by decide +kernel), List.mem_of_getElem? (i := 854) (by decide +kernel), List.mem_of_getElem? (i := 855) (by decide +kernel)⟩
def lw_privs_2 : List (MethodName × Nat) := [(⟨"TrapSurveyModel", "judges", "(IIII)I"⟩, 13), (⟨"TrapSurveyModel", "lossOf", "(I)I"⟩, 13), (⟨"TrapSurveyModel", "worth", "(I)J"⟩, 13), (⟨"TrapSurveyModel", "costOf", "(I)I"⟩, 13), (⟨"TrapSurveyModel", "paysBack", "(I)J"⟩, 13), (⟨"TrapSurveyModel", "ranked", "(I)I"⟩, 13), (⟨"TrapSurveyModel", "isAhead", "(II)Z"⟩, 13), (⟨"TrapSurveyModel", "repairs", "(I)V"⟩, 13), (⟨"TrapSurveyModel", "due", "(I)Z"⟩, 13), (⟨"TrapSurveyModel", "walks", "()V"⟩, 13), (⟨"TrapSurveyModel", "readsText", "(Z)Z"⟩, 13), (⟨"TrapSurveyModel", "readsReading", "(Z)Z"⟩, 13), (⟨"TrapSurveyModel", "readsNumber", "(I)Z"⟩, 13), (⟨"TrapSurveyModel", "here", "()I"⟩, 13), (⟨"TrapSurveyModel", "sign", "(I)Z"⟩, 13), (⟨"TrapSurveyModel", "note", "(J)V"⟩, 13)]
theorem lw_r2 : ∀ q ∈ lw_privs_2, lw_okq q := List.forall_mem_cons.mpr ⟨lw_p16, List.forall_mem_cons.mpr ⟨lw_p17, List.forall_mem_cons.mpr ⟨lw_p18, List.forall_mem_cons.mpr ⟨lw_p19, List.forall_mem_cons.mpr ⟨lw_p20, List.forall_mem_cons.mpr ⟨lw_p21, List.forall_mem_cons.mpr ⟨lw_p22, List.forall_mem_cons.mpr ⟨lw_p23, List.forall_mem_cons.mpr ⟨lw_p24, List.forall_mem_cons.mpr ⟨lw_p25, List.forall_mem_cons.mpr ⟨lw_p26, List.forall_mem_cons.mpr ⟨lw_p27, List.forall_mem_cons.mpr ⟨lw_p28, List.forall_mem_cons.mpr ⟨lw_p29, List.forall_mem_cons.mpr ⟨lw_p30, List.forall_mem_cons.mpr ⟨lw_p31, fun _ h => absurd h List.not_mem_nil⟩⟩⟩⟩⟩⟩⟩⟩⟩⟩⟩⟩⟩⟩⟩⟩
def lw_privs : List (MethodName × Nat) := lw_privs_1 ++ (lw_privs_2)
def lw_tbl : List Cond := k2_sels lw_privs ++ tables_1
theorem lw_privs_ok : ∀ q ∈ lw_privs, lw_okq q := by
  show ∀ q ∈ lw_privs_1 ++ (lw_privs_2), lw_okq q
  exact List.forall_mem_append.mpr ⟨lw_r1, lw_r2⟩
def RX0 : String := "TrapSurvey$History"
def TX0 : u_T := fun k => match k with
  | 0 => ("TrapSurvey$History", "states", "[LTrapSurvey$Plant;", true)
  | _ => ("TrapSurvey$History", "size", "I", false)
def tyX0 : Nat → FieldType := fun k => match k with
  | 0 => .array (.object "TrapSurvey$Plant")
  | _ => .int
abbrev wsX00 : List Cond := u_ws RX0 TX0 2
theorem nmX0 : ∀ a, a < 2 → ∀ b, b < 2 → a ≠ b → (TX0 a).2.1 ≠ (TX0 b).2.1 := by decide +kernel
theorem tyX0_ok : ∀ k, k < 2 → parseFieldDescriptor (TX0 k).2.2.1 = some (tyX0 k) := by decide +kernel
abbrev cX0_init : ByteArray := prog_2_method_1_code
def yX0_init : MethodName := ⟨RX0, "<init>", "()V"⟩
abbrev cX0_keep : ByteArray := prog_2_method_2_code
def yX0_keep : MethodName := ⟨RX0, "keep", "(LTrapSurvey$Plant;)V"⟩
abbrev cX0_dropOldest : ByteArray := prog_2_method_3_code
def yX0_dropOldest : MethodName := ⟨RX0, "dropOldest", "()V"⟩
abbrev cX0_takeBack : ByteArray := prog_2_method_4_code
def yX0_takeBack : MethodName := ⟨RX0, "takeBack", "(LTrapSurvey$Plant;)Z"⟩
def RX1 : String := "TrapSurvey$Plant"
def TX1 : u_T := fun k => match k with
  | 0 => ("TrapSurvey$Plant", "pressures", "[I", true)
  | 1 => ("TrapSurvey$Plant", "lineHeaders", "[I", true)
  | 2 => ("TrapSurvey$Plant", "traps", "[LTrapSurvey$Trap;", true)
  | 3 => ("TrapSurvey$Plant", "lineCount", "I", false)
  | 4 => ("TrapSurvey$Plant", "trapCount", "I", false)
  | 5 => ("TrapSurvey$Plant", "hours", "I", false)
  | 6 => ("TrapSurvey$Plant", "price", "I", false)
  | 7 => ("TrapSurvey$Plant", "interval", "I", false)
  | 8 => ("TrapSurvey$Plant", "day", "I", false)
  | 9 => ("TrapSurvey$Plant", "spent", "I", false)
  | _ => ("TrapSurvey$Plant", "repairs", "I", false)
def tyX1 : Nat → FieldType := fun k => match k with
  | 0 => .array .int
  | 1 => .array .int
  | 2 => .array (.object "TrapSurvey$Trap")
  | 3 => .int
  | 4 => .int
  | 5 => .int
  | 6 => .int
  | 7 => .int
  | 8 => .int
  | 9 => .int
  | _ => .int
abbrev wsX10 : List Cond := u_ws RX1 TX1 11
theorem nmX1 : ∀ a, a < 11 → ∀ b, b < 11 → a ≠ b → (TX1 a).2.1 ≠ (TX1 b).2.1 := by decide +kernel
theorem tyX1_ok : ∀ k, k < 11 → parseFieldDescriptor (TX1 k).2.2.1 = some (tyX1 k) := by decide +kernel
abbrev cX1_init : ByteArray := prog_3_method_1_code
def yX1_init : MethodName := ⟨RX1, "<init>", "()V"⟩
abbrev cX1_copyFrom : ByteArray := prog_3_method_2_code
def yX1_copyFrom : MethodName := ⟨RX1, "copyFrom", "(LTrapSurvey$Plant;)V"⟩
abbrev cX1_hasHeader : ByteArray := prog_3_method_3_code
def yX1_hasHeader : MethodName := ⟨RX1, "hasHeader", "(I)Z"⟩
abbrev cX1_hasLine : ByteArray := prog_3_method_4_code
def yX1_hasLine : MethodName := ⟨RX1, "hasLine", "(I)Z"⟩
abbrev cX1_trapAt : ByteArray := prog_3_method_5_code
def yX1_trapAt : MethodName := ⟨RX1, "trapAt", "(I)LTrapSurvey$Trap;"⟩
abbrev cX1_headerOfLine : ByteArray := prog_3_method_6_code
def yX1_headerOfLine : MethodName := ⟨RX1, "headerOfLine", "(I)I"⟩
abbrev cX1_pressureOfHeader : ByteArray := prog_3_method_7_code
def yX1_pressureOfHeader : MethodName := ⟨RX1, "pressureOfHeader", "(I)I"⟩
abbrev cX1_pressureAt : ByteArray := prog_3_method_8_code
def yX1_pressureAt : MethodName := ⟨RX1, "pressureAt", "(LTrapSurvey$Trap;)I"⟩
abbrev cX1_takeReading : ByteArray := prog_3_method_9_code
def yX1_takeReading : MethodName := ⟨RX1, "takeReading", "(IIII)V"⟩
abbrev cX1_letPass : ByteArray := prog_3_method_10_code
def yX1_letPass : MethodName := ⟨RX1, "letPass", "(I)V"⟩
abbrev cX1_trapsInState : ByteArray := prog_3_method_11_code
def yX1_trapsInState : MethodName := ⟨RX1, "trapsInState", "(I)I"⟩
abbrev cX1_lossOf : ByteArray := prog_3_method_12_code
def yX1_lossOf : MethodName := ⟨RX1, "lossOf", "(LTrapSurvey$Trap;)I"⟩
abbrev cX1_lossOfLine : ByteArray := prog_3_method_13_code
def yX1_lossOfLine : MethodName := ⟨RX1, "lossOfLine", "(I)I"⟩
abbrev cX1_lossOfHeader : ByteArray := prog_3_method_14_code
def yX1_lossOfHeader : MethodName := ⟨RX1, "lossOfHeader", "(I)I"⟩
abbrev cX1_lostByAll : ByteArray := prog_3_method_15_code
def yX1_lostByAll : MethodName := ⟨RX1, "lostByAll", "()J"⟩
abbrev cX1_priceADay : ByteArray := prog_3_method_16_code
def yX1_priceADay : MethodName := ⟨RX1, "priceADay", "(I)J"⟩
abbrev cX1_paybackOf : ByteArray := prog_3_method_17_code
def yX1_paybackOf : MethodName := ⟨RX1, "paybackOf", "(LTrapSurvey$Trap;)J"⟩
abbrev cX1_mend : ByteArray := prog_3_method_18_code
def yX1_mend : MethodName := ⟨RX1, "mend", "(LTrapSurvey$Trap;)V"⟩
abbrev cX1_needsVisit : ByteArray := prog_3_method_19_code
def yX1_needsVisit : MethodName := ⟨RX1, "needsVisit", "(LTrapSurvey$Trap;)Z"⟩
def RX2 : String := "TrapSurvey$ReadingText"
def TX2 : u_T := fun k => match k with
  | 0 => ("TrapSurvey$ReadingText", "codes", "[I", true)
  | 1 => ("TrapSurvey$ReadingText", "readings", "[[I", true)
  | 2 => ("TrapSurvey$ReadingText", "length", "I", false)
  | 3 => ("TrapSurvey$ReadingText", "readingCount", "I", false)
  | _ => ("TrapSurvey$ReadingText", "position", "I", false)
def tyX2 : Nat → FieldType := fun k => match k with
  | 0 => .array .int
  | 1 => .array (.array .int)
  | 2 => .int
  | 3 => .int
  | _ => .int
abbrev wsX20 : List Cond := u_ws RX2 TX2 5
theorem nmX2 : ∀ a, a < 5 → ∀ b, b < 5 → a ≠ b → (TX2 a).2.1 ≠ (TX2 b).2.1 := by decide +kernel
theorem tyX2_ok : ∀ k, k < 5 → parseFieldDescriptor (TX2 k).2.2.1 = some (tyX2 k) := by decide +kernel
abbrev cX2_init : ByteArray := prog_4_method_1_code
def yX2_init : MethodName := ⟨RX2, "<init>", "()V"⟩
abbrev cX2_append : ByteArray := prog_4_method_2_code
def yX2_append : MethodName := ⟨RX2, "append", "(I)Z"⟩
abbrev cX2_faultFor : ByteArray := prog_4_method_3_code
def yX2_faultFor : MethodName := ⟨RX2, "faultFor", "(I)I"⟩
abbrev cX2_scanList : ByteArray := prog_4_method_4_code
def yX2_scanList : MethodName := ⟨RX2, "scanList", "(I)Z"⟩
abbrev cX2_scanReading : ByteArray := prog_4_method_5_code
def yX2_scanReading : MethodName := ⟨RX2, "scanReading", "([II)Z"⟩
abbrev cX2_scanSign : ByteArray := prog_4_method_6_code
def yX2_scanSign : MethodName := ⟨RX2, "scanSign", "(C)Z"⟩
abbrev cX2_scanNumber : ByteArray := prog_4_method_7_code
def yX2_scanNumber : MethodName := ⟨RX2, "scanNumber", "([III)Z"⟩
abbrev cX2_skipBlanks : ByteArray := prog_4_method_8_code
def yX2_skipBlanks : MethodName := ⟨RX2, "skipBlanks", "()V"⟩
abbrev cX2_isDigit : ByteArray := prog_4_method_9_code
def yX2_isDigit : MethodName := ⟨RX2, "isDigit", "(I)Z"⟩
def RX3 : String := "TrapSurvey$RepairOrder"
def TX3 : u_T := fun k => match k with
  | 0 => ("TrapSurvey$RepairOrder", "ranked", "[I", true)
  | 1 => ("TrapSurvey$RepairOrder", "losses", "[I", true)
  | 2 => ("TrapSurvey$RepairOrder", "paybacks", "[J", true)
  | _ => ("TrapSurvey$RepairOrder", "size", "I", false)
def tyX3 : Nat → FieldType := fun k => match k with
  | 0 => .array .int
  | 1 => .array .int
  | 2 => .array .long
  | _ => .int
abbrev wsX30 : List Cond := u_ws RX3 TX3 4
theorem nmX3 : ∀ a, a < 4 → ∀ b, b < 4 → a ≠ b → (TX3 a).2.1 ≠ (TX3 b).2.1 := by decide +kernel
theorem tyX3_ok : ∀ k, k < 4 → parseFieldDescriptor (TX3 k).2.2.1 = some (tyX3 k) := by decide +kernel
abbrev cX3_init : ByteArray := prog_5_method_1_code
def yX3_init : MethodName := ⟨RX3, "<init>", "()V"⟩
abbrev cX3_rankTraps : ByteArray := prog_5_method_2_code
def yX3_rankTraps : MethodName := ⟨RX3, "rankTraps", "(LTrapSurvey$Plant;)V"⟩
abbrev cX3_trapAtRank : ByteArray := prog_5_method_3_code
def yX3_trapAtRank : MethodName := ⟨RX3, "trapAtRank", "(I)I"⟩
abbrev cX3_insert : ByteArray := prog_5_method_4_code
def yX3_insert : MethodName := ⟨RX3, "insert", "(I)V"⟩
abbrev cX3_isBetter : ByteArray := prog_5_method_5_code
def yX3_isBetter : MethodName := ⟨RX3, "isBetter", "(II)Z"⟩
def RX4 : String := "TrapSurvey$SurveyRound"
def TX4 : u_T := fun k => match k with
  | 0 => ("TrapSurvey$SurveyRound", "stops", "[I", true)
  | 1 => ("TrapSurvey$SurveyRound", "waits", "[Z", true)
  | 2 => ("TrapSurvey$SurveyRound", "size", "I", false)
  | _ => ("TrapSurvey$SurveyRound", "length", "I", false)
def tyX4 : Nat → FieldType := fun k => match k with
  | 0 => .array .int
  | 1 => .array .boolean
  | 2 => .int
  | _ => .int
abbrev wsX40 : List Cond := u_ws RX4 TX4 4
theorem nmX4 : ∀ a, a < 4 → ∀ b, b < 4 → a ≠ b → (TX4 a).2.1 ≠ (TX4 b).2.1 := by decide +kernel
theorem tyX4_ok : ∀ k, k < 4 → parseFieldDescriptor (TX4 k).2.2.1 = some (tyX4 k) := by decide +kernel
abbrev cX4_init : ByteArray := prog_6_method_1_code
def yX4_init : MethodName := ⟨RX4, "<init>", "()V"⟩
abbrev cX4_plan : ByteArray := prog_6_method_2_code
def yX4_plan : MethodName := ⟨RX4, "plan", "(LTrapSurvey$Plant;)V"⟩
abbrev cX4_stopAt : ByteArray := prog_6_method_3_code
def yX4_stopAt : MethodName := ⟨RX4, "stopAt", "(I)I"⟩
abbrev cX4_nearestWaiting : ByteArray := prog_6_method_4_code
def yX4_nearestWaiting : MethodName := ⟨RX4, "nearestWaiting", "(LTrapSurvey$Plant;II)I"⟩
def RX5 : String := "TrapSurvey$Trap"
def TX5 : u_T := fun k => match k with
  | 0 => ("TrapSurvey$Trap", "line", "I", false)
  | 1 => ("TrapSurvey$Trap", "kind", "I", false)
  | 2 => ("TrapSurvey$Trap", "size", "I", false)
  | 3 => ("TrapSurvey$Trap", "x", "I", false)
  | 4 => ("TrapSurvey$Trap", "y", "I", false)
  | 5 => ("TrapSurvey$Trap", "state", "I", false)
  | 6 => ("TrapSurvey$Trap", "readDay", "I", false)
  | _ => ("TrapSurvey$Trap", "lostSteam", "J", false)
def tyX5 : Nat → FieldType := fun k => match k with
  | 0 => .int
  | 1 => .int
  | 2 => .int
  | 3 => .int
  | 4 => .int
  | 5 => .int
  | 6 => .int
  | _ => .long
abbrev wsX50 : List Cond := u_ws RX5 TX5 8
theorem nmX5 : ∀ a, a < 8 → ∀ b, b < 8 → a ≠ b → (TX5 a).2.1 ≠ (TX5 b).2.1 := by decide +kernel
theorem tyX5_ok : ∀ k, k < 8 → parseFieldDescriptor (TX5 k).2.2.1 = some (tyX5 k) := by decide +kernel
abbrev cX5_init : ByteArray := prog_7_method_1_code
def yX5_init : MethodName := ⟨RX5, "<init>", "()V"⟩
abbrev cX5_install : ByteArray := prog_7_method_2_code
def yX5_install : MethodName := ⟨RX5, "install", "(IIIII)V"⟩
abbrev cX5_copyFrom : ByteArray := prog_7_method_3_code
def yX5_copyFrom : MethodName := ⟨RX5, "copyFrom", "(LTrapSurvey$Trap;)V"⟩
abbrev cX5_judged : ByteArray := prog_7_method_4_code
def yX5_judged : MethodName := ⟨RX5, "judged", "(IIII)I"⟩
abbrev cX5_judgedAsBucket : ByteArray := prog_7_method_5_code
def yX5_judgedAsBucket : MethodName := ⟨RX5, "judgedAsBucket", "(I)I"⟩
abbrev cX5_judgedAsThermostatic : ByteArray := prog_7_method_6_code
def yX5_judgedAsThermostatic : MethodName := ⟨RX5, "judgedAsThermostatic", "(II)I"⟩
abbrev cX5_judgedAsDisc : ByteArray := prog_7_method_7_code
def yX5_judgedAsDisc : MethodName := ⟨RX5, "judgedAsDisc", "(III)I"⟩
abbrev cX5_lossUnder : ByteArray := prog_7_method_8_code
def yX5_lossUnder : MethodName := ⟨RX5, "lossUnder", "(I)I"⟩
abbrev cX5_costOfRepair : ByteArray := prog_7_method_9_code
def yX5_costOfRepair : MethodName := ⟨RX5, "costOfRepair", "()I"⟩
abbrev cX5_wayFrom : ByteArray := prog_7_method_10_code
def yX5_wayFrom : MethodName := ⟨RX5, "wayFrom", "(II)I"⟩
def RX6 : String := "TrapSurvey"
def TX6 : u_T := fun k => match k with
  | 0 => ("TrapSurvey", "plant", "LTrapSurvey$Plant;", true)
  | 1 => ("TrapSurvey", "history", "LTrapSurvey$History;", true)
  | 2 => ("TrapSurvey", "repairOrder", "LTrapSurvey$RepairOrder;", true)
  | 3 => ("TrapSurvey", "surveyRound", "LTrapSurvey$SurveyRound;", true)
  | _ => ("TrapSurvey", "text", "LTrapSurvey$ReadingText;", true)
def tyX6 : Nat → FieldType := fun k => match k with
  | 0 => .object "TrapSurvey$Plant"
  | 1 => .object "TrapSurvey$History"
  | 2 => .object "TrapSurvey$RepairOrder"
  | 3 => .object "TrapSurvey$SurveyRound"
  | _ => .object "TrapSurvey$ReadingText"
abbrev wsX60 : List Cond := u_ws RX6 TX6 5
theorem nmX6 : ∀ a, a < 5 → ∀ b, b < 5 → a ≠ b → (TX6 a).2.1 ≠ (TX6 b).2.1 := by decide +kernel
theorem tyX6_ok : ∀ k, k < 5 → parseFieldDescriptor (TX6 k).2.2.1 = some (tyX6 k) := by decide +kernel
abbrev cX6_init : ByteArray := prog_1_method_1_code
def yX6_init : MethodName := ⟨RX6, "<init>", "()V"⟩
abbrev cX6_setPressure : ByteArray := prog_1_method_2_code
def yX6_setPressure : MethodName := ⟨RX6, "setPressure", "(II)I"⟩
abbrev cX6_addLine : ByteArray := prog_1_method_3_code
def yX6_addLine : MethodName := ⟨RX6, "addLine", "(I)I"⟩
abbrev cX6_addTrap : ByteArray := prog_1_method_4_code
def yX6_addTrap : MethodName := ⟨RX6, "addTrap", "(IIIII)I"⟩
abbrev cX6_moveLine : ByteArray := prog_1_method_5_code
def yX6_moveLine : MethodName := ⟨RX6, "moveLine", "(II)I"⟩
abbrev cX6_setWork : ByteArray := prog_1_method_6_code
def yX6_setWork : MethodName := ⟨RX6, "setWork", "(III)I"⟩
abbrev cX6_count : ByteArray := prog_1_method_7_code
def yX6_count : MethodName := ⟨RX6, "count", "(I)I"⟩
abbrev cX6_trap : ByteArray := prog_1_method_8_code
def yX6_trap : MethodName := ⟨RX6, "trap", "(II)I"⟩
abbrev cX6_headerOf : ByteArray := prog_1_method_9_code
def yX6_headerOf : MethodName := ⟨RX6, "headerOf", "(I)I"⟩
abbrev cX6_pressure : ByteArray := prog_1_method_10_code
def yX6_pressure : MethodName := ⟨RX6, "pressure", "(I)I"⟩
abbrev cX6_read : ByteArray := prog_1_method_11_code
def yX6_read : MethodName := ⟨RX6, "read", "(IIII)I"⟩
abbrev cX6_judge : ByteArray := prog_1_method_12_code
def yX6_judge : MethodName := ⟨RX6, "judge", "(IIII)I"⟩
abbrev cX6_pass : ByteArray := prog_1_method_13_code
def yX6_pass : MethodName := ⟨RX6, "pass", "(I)I"⟩
abbrev cX6_inState : ByteArray := prog_1_method_14_code
def yX6_inState : MethodName := ⟨RX6, "inState", "(I)I"⟩
abbrev cX6_loss : ByteArray := prog_1_method_15_code
def yX6_loss : MethodName := ⟨RX6, "loss", "(I)I"⟩
abbrev cX6_lineLoss : ByteArray := prog_1_method_16_code
def yX6_lineLoss : MethodName := ⟨RX6, "lineLoss", "(I)I"⟩
abbrev cX6_headerLoss : ByteArray := prog_1_method_17_code
def yX6_headerLoss : MethodName := ⟨RX6, "headerLoss", "(I)I"⟩
abbrev cX6_lost : ByteArray := prog_1_method_18_code
def yX6_lost : MethodName := ⟨RX6, "lost", "(I)J"⟩
abbrev cX6_saves : ByteArray := prog_1_method_19_code
def yX6_saves : MethodName := ⟨RX6, "saves", "(I)J"⟩
abbrev cX6_repairCost : ByteArray := prog_1_method_20_code
def yX6_repairCost : MethodName := ⟨RX6, "repairCost", "(I)I"⟩
abbrev cX6_payback : ByteArray := prog_1_method_21_code
def yX6_payback : MethodName := ⟨RX6, "payback", "(I)J"⟩
abbrev cX6_order : ByteArray := prog_1_method_22_code
def yX6_order : MethodName := ⟨RX6, "order", "(I)I"⟩
abbrev cX6_repair : ByteArray := prog_1_method_23_code
def yX6_repair : MethodName := ⟨RX6, "repair", "(I)I"⟩
abbrev cX6_repairAll : ByteArray := prog_1_method_24_code
def yX6_repairAll : MethodName := ⟨RX6, "repairAll", "(I)I"⟩
abbrev cX6_isDue : ByteArray := prog_1_method_25_code
def yX6_isDue : MethodName := ⟨RX6, "isDue", "(I)I"⟩
abbrev cX6_round : ByteArray := prog_1_method_26_code
def yX6_round : MethodName := ⟨RX6, "round", "(I)I"⟩
abbrev cX6_roundLength : ByteArray := prog_1_method_27_code
def yX6_roundLength : MethodName := ⟨RX6, "roundLength", "()I"⟩
abbrev cX6_dueOn : ByteArray := prog_1_method_28_code
def yX6_dueOn : MethodName := ⟨RX6, "dueOn", "(I)I"⟩
abbrev cX6_undo : ByteArray := prog_1_method_29_code
def yX6_undo : MethodName := ⟨RX6, "undo", "()I"⟩
abbrev cX6_type : ByteArray := prog_1_method_30_code
def yX6_type : MethodName := ⟨RX6, "type", "(I)I"⟩
abbrev cX6_clearText : ByteArray := prog_1_method_31_code
def yX6_clearText : MethodName := ⟨RX6, "clearText", "()I"⟩
abbrev cX6_textFault : ByteArray := prog_1_method_32_code
def yX6_textFault : MethodName := ⟨RX6, "textFault", "()I"⟩
abbrev cX6_readAll : ByteArray := prog_1_method_33_code
def yX6_readAll : MethodName := ⟨RX6, "readAll", "()I"⟩
abbrev cX6_digest : ByteArray := prog_1_method_34_code
def yX6_digest : MethodName := ⟨RX6, "digest", "()J"⟩
abbrev cX6_isWithin : ByteArray := prog_1_method_35_code
def yX6_isWithin : MethodName := ⟨RX6, "isWithin", "(III)Z"⟩
def RX7 : String := "TrapSurveyModel"
def TX7 : u_T := fun k => match k with
  | 0 => ("TrapSurveyModel", "row", "[I", true)
  | 1 => ("TrapSurveyModel", "lost", "[J", true)
  | 2 => ("TrapSurveyModel", "saved", "I", false)
  | 3 => ("TrapSurveyModel", "visited", "[Z", true)
  | 4 => ("TrapSurveyModel", "path", "[I", true)
  | 5 => ("TrapSurveyModel", "visits", "I", false)
  | 6 => ("TrapSurveyModel", "wayLength", "I", false)
  | 7 => ("TrapSurveyModel", "text", "[I", true)
  | 8 => ("TrapSurveyModel", "length", "I", false)
  | 9 => ("TrapSurveyModel", "at", "I", false)
  | 10 => ("TrapSurveyModel", "number", "I", false)
  | 11 => ("TrapSurveyModel", "readings", "I", false)
  | _ => ("TrapSurveyModel", "h", "J", false)
def tyX7 : Nat → FieldType := fun k => match k with
  | 0 => .array .int
  | 1 => .array .long
  | 2 => .int
  | 3 => .array .boolean
  | 4 => .array .int
  | 5 => .int
  | 6 => .int
  | 7 => .array .int
  | 8 => .int
  | 9 => .int
  | 10 => .int
  | 11 => .int
  | _ => .long
abbrev wsX70 : List Cond := u_ws RX7 TX7 13
theorem nmX7 : ∀ a, a < 13 → ∀ b, b < 13 → a ≠ b → (TX7 a).2.1 ≠ (TX7 b).2.1 := by decide +kernel
theorem tyX7_ok : ∀ k, k < 13 → parseFieldDescriptor (TX7 k).2.2.1 = some (tyX7 k) := by decide +kernel
abbrev cX7_init : ByteArray := prog_9_method_1_code
def yX7_init : MethodName := ⟨RX7, "<init>", "()V"⟩
abbrev cX7_in : ByteArray := prog_9_method_2_code
def yX7_in : MethodName := ⟨RX7, "in", "(III)Z"⟩
abbrev cX7_copies : ByteArray := prog_9_method_3_code
def yX7_copies : MethodName := ⟨RX7, "copies", "(II)V"⟩
abbrev cX7_keeps : ByteArray := prog_9_method_4_code
def yX7_keeps : MethodName := ⟨RX7, "keeps", "()V"⟩
abbrev cX7_of : ByteArray := prog_9_method_5_code
def yX7_of : MethodName := ⟨RX7, "of", "(II)I"⟩
abbrev cX7_isHeader : ByteArray := prog_9_method_6_code
def yX7_isHeader : MethodName := ⟨RX7, "isHeader", "(I)Z"⟩
abbrev cX7_isLine : ByteArray := prog_9_method_7_code
def yX7_isLine : MethodName := ⟨RX7, "isLine", "(I)Z"⟩
abbrev cX7_isTrap : ByteArray := prog_9_method_8_code
def yX7_isTrap : MethodName := ⟨RX7, "isTrap", "(I)Z"⟩
abbrev cX7_header : ByteArray := prog_9_method_9_code
def yX7_header : MethodName := ⟨RX7, "header", "(I)I"⟩
abbrev cX7_setPressure : ByteArray := prog_9_method_10_code
def yX7_setPressure : MethodName := ⟨RX7, "setPressure", "(II)I"⟩
abbrev cX7_addLine : ByteArray := prog_9_method_11_code
def yX7_addLine : MethodName := ⟨RX7, "addLine", "(I)I"⟩
abbrev cX7_addTrap : ByteArray := prog_9_method_12_code
def yX7_addTrap : MethodName := ⟨RX7, "addTrap", "(IIIII)I"⟩
abbrev cX7_moveLine : ByteArray := prog_9_method_13_code
def yX7_moveLine : MethodName := ⟨RX7, "moveLine", "(II)I"⟩
abbrev cX7_setWork : ByteArray := prog_9_method_14_code
def yX7_setWork : MethodName := ⟨RX7, "setWork", "(III)I"⟩
abbrev cX7_count : ByteArray := prog_9_method_15_code
def yX7_count : MethodName := ⟨RX7, "count", "(I)I"⟩
abbrev cX7_trap : ByteArray := prog_9_method_16_code
def yX7_trap : MethodName := ⟨RX7, "trap", "(II)I"⟩
abbrev cX7_headerOf : ByteArray := prog_9_method_17_code
def yX7_headerOf : MethodName := ⟨RX7, "headerOf", "(I)I"⟩
abbrev cX7_pressure : ByteArray := prog_9_method_18_code
def yX7_pressure : MethodName := ⟨RX7, "pressure", "(I)I"⟩
abbrev cX7_isReading : ByteArray := prog_9_method_19_code
def yX7_isReading : MethodName := ⟨RX7, "isReading", "(III)Z"⟩
abbrev cX7_judges : ByteArray := prog_9_method_20_code
def yX7_judges : MethodName := ⟨RX7, "judges", "(IIII)I"⟩
abbrev cX7_reads : ByteArray := prog_9_method_21_code
def yX7_reads : MethodName := ⟨RX7, "reads", "(IIII)V"⟩
abbrev cX7_read : ByteArray := prog_9_method_22_code
def yX7_read : MethodName := ⟨RX7, "read", "(IIII)I"⟩
abbrev cX7_judge : ByteArray := prog_9_method_23_code
def yX7_judge : MethodName := ⟨RX7, "judge", "(IIII)I"⟩
abbrev cX7_pass : ByteArray := prog_9_method_24_code
def yX7_pass : MethodName := ⟨RX7, "pass", "(I)I"⟩
abbrev cX7_inState : ByteArray := prog_9_method_25_code
def yX7_inState : MethodName := ⟨RX7, "inState", "(I)I"⟩
abbrev cX7_lossOf : ByteArray := prog_9_method_26_code
def yX7_lossOf : MethodName := ⟨RX7, "lossOf", "(I)I"⟩
abbrev cX7_loss : ByteArray := prog_9_method_27_code
def yX7_loss : MethodName := ⟨RX7, "loss", "(I)I"⟩
abbrev cX7_lineLoss : ByteArray := prog_9_method_28_code
def yX7_lineLoss : MethodName := ⟨RX7, "lineLoss", "(I)I"⟩
abbrev cX7_headerLoss : ByteArray := prog_9_method_29_code
def yX7_headerLoss : MethodName := ⟨RX7, "headerLoss", "(I)I"⟩
abbrev cX7_lost : ByteArray := prog_9_method_30_code
def yX7_lost : MethodName := ⟨RX7, "lost", "(I)J"⟩
abbrev cX7_worth : ByteArray := prog_9_method_31_code
def yX7_worth : MethodName := ⟨RX7, "worth", "(I)J"⟩
abbrev cX7_saves : ByteArray := prog_9_method_32_code
def yX7_saves : MethodName := ⟨RX7, "saves", "(I)J"⟩
abbrev cX7_costOf : ByteArray := prog_9_method_33_code
def yX7_costOf : MethodName := ⟨RX7, "costOf", "(I)I"⟩
abbrev cX7_repairCost : ByteArray := prog_9_method_34_code
def yX7_repairCost : MethodName := ⟨RX7, "repairCost", "(I)I"⟩
abbrev cX7_paysBack : ByteArray := prog_9_method_35_code
def yX7_paysBack : MethodName := ⟨RX7, "paysBack", "(I)J"⟩
abbrev cX7_payback : ByteArray := prog_9_method_36_code
def yX7_payback : MethodName := ⟨RX7, "payback", "(I)J"⟩
abbrev cX7_isAhead : ByteArray := prog_9_method_37_code
def yX7_isAhead : MethodName := ⟨RX7, "isAhead", "(II)Z"⟩
abbrev cX7_ranked : ByteArray := prog_9_method_38_code
def yX7_ranked : MethodName := ⟨RX7, "ranked", "(I)I"⟩
abbrev cX7_order : ByteArray := prog_9_method_39_code
def yX7_order : MethodName := ⟨RX7, "order", "(I)I"⟩
abbrev cX7_repairs : ByteArray := prog_9_method_40_code
def yX7_repairs : MethodName := ⟨RX7, "repairs", "(I)V"⟩
abbrev cX7_repair : ByteArray := prog_9_method_41_code
def yX7_repair : MethodName := ⟨RX7, "repair", "(I)I"⟩
abbrev cX7_repairAll : ByteArray := prog_9_method_42_code
def yX7_repairAll : MethodName := ⟨RX7, "repairAll", "(I)I"⟩
abbrev cX7_due : ByteArray := prog_9_method_43_code
def yX7_due : MethodName := ⟨RX7, "due", "(I)Z"⟩
abbrev cX7_isDue : ByteArray := prog_9_method_44_code
def yX7_isDue : MethodName := ⟨RX7, "isDue", "(I)I"⟩
abbrev cX7_size : ByteArray := prog_9_method_45_code
def yX7_size : MethodName := ⟨RX7, "size", "(I)I"⟩
abbrev cX7_walks : ByteArray := prog_9_method_46_code
def yX7_walks : MethodName := ⟨RX7, "walks", "()V"⟩
abbrev cX7_round : ByteArray := prog_9_method_47_code
def yX7_round : MethodName := ⟨RX7, "round", "(I)I"⟩
abbrev cX7_roundLength : ByteArray := prog_9_method_48_code
def yX7_roundLength : MethodName := ⟨RX7, "roundLength", "()I"⟩
abbrev cX7_dueOn : ByteArray := prog_9_method_49_code
def yX7_dueOn : MethodName := ⟨RX7, "dueOn", "(I)I"⟩
abbrev cX7_undo : ByteArray := prog_9_method_50_code
def yX7_undo : MethodName := ⟨RX7, "undo", "()I"⟩
abbrev cX7_type : ByteArray := prog_9_method_51_code
def yX7_type : MethodName := ⟨RX7, "type", "(I)I"⟩
abbrev cX7_clearText : ByteArray := prog_9_method_52_code
def yX7_clearText : MethodName := ⟨RX7, "clearText", "()I"⟩
abbrev cX7_here : ByteArray := prog_9_method_53_code
def yX7_here : MethodName := ⟨RX7, "here", "()I"⟩
abbrev cX7_sign : ByteArray := prog_9_method_54_code
def yX7_sign : MethodName := ⟨RX7, "sign", "(I)Z"⟩
abbrev cX7_readsNumber : ByteArray := prog_9_method_55_code
def yX7_readsNumber : MethodName := ⟨RX7, "readsNumber", "(I)Z"⟩
abbrev cX7_readsReading : ByteArray := prog_9_method_56_code
def yX7_readsReading : MethodName := ⟨RX7, "readsReading", "(Z)Z"⟩
abbrev cX7_readsText : ByteArray := prog_9_method_57_code
def yX7_readsText : MethodName := ⟨RX7, "readsText", "(Z)Z"⟩
abbrev cX7_textFault : ByteArray := prog_9_method_58_code
def yX7_textFault : MethodName := ⟨RX7, "textFault", "()I"⟩
abbrev cX7_readAll : ByteArray := prog_9_method_59_code
def yX7_readAll : MethodName := ⟨RX7, "readAll", "()I"⟩
abbrev cX7_note : ByteArray := prog_9_method_60_code
def yX7_note : MethodName := ⟨RX7, "note", "(J)V"⟩
abbrev cX7_digest : ByteArray := prog_9_method_61_code
def yX7_digest : MethodName := ⟨RX7, "digest", "()J"⟩
def RJ9 : String := "java/lang/Math"
def TJ9 : u_T := fun k => match k with
  | _ => ("", "", "", false)
def tyJ9 : Nat → FieldType := fun k => match k with
  | _ => .int
abbrev wsJ90 : List Cond := u_ws RJ9 TJ9 0
theorem nmJ9 : ∀ a, a < 0 → ∀ b, b < 0 → a ≠ b → (TJ9 a).2.1 ≠ (TJ9 b).2.1 := by decide +kernel
theorem tyJ9_ok : ∀ k, k < 0 → parseFieldDescriptor (TJ9 k).2.2.1 = some (tyJ9 k) := by decide +kernel
abbrev cJ9_abs_0f7a4 : ByteArray := prog_10_method_59_code
def yJ9_abs_0f7a4 : MethodName := ⟨RJ9, "abs", "(I)I"⟩
def RJ10 : String := "java/lang/System"
def TJ10 : u_T := fun k => match k with
  | _ => ("", "", "", false)
def tyJ10 : Nat → FieldType := fun k => match k with
  | _ => .int
abbrev wsJ100 : List Cond := u_ws RJ10 TJ10 0
theorem nmJ10 : ∀ a, a < 0 → ∀ b, b < 0 → a ≠ b → (TJ10 a).2.1 ≠ (TJ10 b).2.1 := by decide +kernel
theorem tyJ10_ok : ∀ k, k < 0 → parseFieldDescriptor (TJ10 k).2.2.1 = some (tyJ10 k) := by decide +kernel
def RJ7 : String := "java/util/Arrays"
def TJ7 : u_T := fun k => match k with
  | _ => ("", "", "", false)
def tyJ7 : Nat → FieldType := fun k => match k with
  | _ => .int
abbrev wsJ70 : List Cond := u_ws RJ7 TJ7 0
theorem nmJ7 : ∀ a, a < 0 → ∀ b, b < 0 → a ≠ b → (TJ7 a).2.1 ≠ (TJ7 b).2.1 := by decide +kernel
theorem tyJ7_ok : ∀ k, k < 0 → parseFieldDescriptor (TJ7 k).2.2.1 = some (tyJ7 k) := by decide +kernel
abbrev cJ7_fill_53178 : ByteArray := prog_12_method_103_code
def yJ7_fill_53178 : MethodName := ⟨RJ7, "fill", "([II)V"⟩
def RL : String := "TrapSurveyLaw"
abbrev cL_law : ByteArray := code
def yL_law : MethodName := ⟨RL, "law", "([I)Z"⟩
abbrev vwCl : List vw_C := [(RX0, TX0, 2), (RX1, TX1, 11), (RX2, TX2, 5), (RX3, TX3, 4), (RX4, TX4, 4), (RX5, TX5, 8), (RX6, TX6, 5), (RX7, TX7, 13)]
end
section
theorem dX0_init_0 : decode cX0_init 0 = .ok (.aload_n 0, 1) := by decide +kernel
theorem dX0_init_1 : decode cX0_init 1 = .ok (.invokespecial 3, 3) := by decide +kernel
theorem dX0_init_4 : decode cX0_init 4 = .ok (.aload_n 0, 1) := by decide +kernel
theorem dX0_init_5 : decode cX0_init 5 = .ok (.iconst 5, 1) := by decide +kernel
theorem dX0_init_6 : decode cX0_init 6 = .ok (.anewarray 9, 3) := by decide +kernel
theorem dX0_init_9 : decode cX0_init 9 = .ok (.putfield 11, 3) := by decide +kernel
theorem dX0_init_12 : decode cX0_init 12 = .ok (.aload_n 0, 1) := by decide +kernel
theorem dX0_init_13 : decode cX0_init 13 = .ok (.iconst 0, 1) := by decide +kernel
theorem dX0_init_14 : decode cX0_init 14 = .ok (.putfield 17, 3) := by decide +kernel
theorem dX0_init_17 : decode cX0_init 17 = .ok (.iconst 0, 1) := by decide +kernel
theorem dX0_init_18 : decode cX0_init 18 = .ok (.istore_n 1, 1) := by decide +kernel
theorem dX0_init_19 : decode cX0_init 19 = .ok (.iload_n 1, 1) := by decide +kernel
theorem dX0_init_20 : decode cX0_init 20 = .ok (.aload_n 0, 1) := by decide +kernel
theorem dX0_init_21 : decode cX0_init 21 = .ok (.getfield 11, 3) := by decide +kernel
theorem dX0_init_24 : decode cX0_init 24 = .ok (.arraylength, 1) := by decide +kernel
theorem dX0_init_25 : decode cX0_init 25 = .ok (.if_icmp .ge 22, 3) := by decide +kernel
theorem dX0_init_28 : decode cX0_init 28 = .ok (.aload_n 0, 1) := by decide +kernel
theorem dX0_init_29 : decode cX0_init 29 = .ok (.getfield 11, 3) := by decide +kernel
theorem dX0_init_32 : decode cX0_init 32 = .ok (.iload_n 1, 1) := by decide +kernel
theorem dX0_init_33 : decode cX0_init 33 = .ok (.new 9, 3) := by decide +kernel
theorem dX0_init_36 : decode cX0_init 36 = .ok (.dup, 1) := by decide +kernel
theorem dX0_init_37 : decode cX0_init 37 = .ok (.invokespecial 21, 3) := by decide +kernel
theorem dX0_init_40 : decode cX0_init 40 = .ok (.aastore, 1) := by decide +kernel
theorem dX0_init_41 : decode cX0_init 41 = .ok (.iinc 1 1, 3) := by decide +kernel
theorem dX0_init_44 : decode cX0_init 44 = .ok (.goto (-25), 3) := by decide +kernel
theorem dX0_init_47 : decode cX0_init 47 = .ok (.return_, 1) := by decide +kernel
theorem dX0_keep_0 : decode cX0_keep 0 = .ok (.aload_n 0, 1) := by decide +kernel
theorem dX0_keep_1 : decode cX0_keep 1 = .ok (.getfield 17, 3) := by decide +kernel
theorem dX0_keep_4 : decode cX0_keep 4 = .ok (.iconst 5, 1) := by decide +kernel
theorem dX0_keep_5 : decode cX0_keep 5 = .ok (.if_icmp .lt 7, 3) := by decide +kernel
theorem dX0_keep_8 : decode cX0_keep 8 = .ok (.aload_n 0, 1) := by decide +kernel
theorem dX0_keep_9 : decode cX0_keep 9 = .ok (.invokevirtual 22, 3) := by decide +kernel
theorem dX0_keep_12 : decode cX0_keep 12 = .ok (.aload_n 0, 1) := by decide +kernel
theorem dX0_keep_13 : decode cX0_keep 13 = .ok (.getfield 11, 3) := by decide +kernel
theorem dX0_keep_16 : decode cX0_keep 16 = .ok (.aload_n 0, 1) := by decide +kernel
theorem dX0_keep_17 : decode cX0_keep 17 = .ok (.getfield 17, 3) := by decide +kernel
theorem dX0_keep_20 : decode cX0_keep 20 = .ok (.aaload, 1) := by decide +kernel
theorem dX0_keep_21 : decode cX0_keep 21 = .ok (.aload_n 1, 1) := by decide +kernel
theorem dX0_keep_22 : decode cX0_keep 22 = .ok (.invokevirtual 25, 3) := by decide +kernel
theorem dX0_keep_25 : decode cX0_keep 25 = .ok (.aload_n 0, 1) := by decide +kernel
theorem dX0_keep_26 : decode cX0_keep 26 = .ok (.dup, 1) := by decide +kernel
theorem dX0_keep_27 : decode cX0_keep 27 = .ok (.getfield 17, 3) := by decide +kernel
theorem dX0_keep_30 : decode cX0_keep 30 = .ok (.iconst 1, 1) := by decide +kernel
theorem dX0_keep_31 : decode cX0_keep 31 = .ok (.iadd, 1) := by decide +kernel
theorem dX0_keep_32 : decode cX0_keep 32 = .ok (.putfield 17, 3) := by decide +kernel
theorem dX0_keep_35 : decode cX0_keep 35 = .ok (.return_, 1) := by decide +kernel
theorem dX0_dropOldest_0 : decode cX0_dropOldest 0 = .ok (.aload_n 0, 1) := by decide +kernel
theorem dX0_dropOldest_1 : decode cX0_dropOldest 1 = .ok (.getfield 11, 3) := by decide +kernel
theorem dX0_dropOldest_4 : decode cX0_dropOldest 4 = .ok (.iconst 0, 1) := by decide +kernel
theorem dX0_dropOldest_5 : decode cX0_dropOldest 5 = .ok (.aaload, 1) := by decide +kernel
theorem dX0_dropOldest_6 : decode cX0_dropOldest 6 = .ok (.astore_n 1, 1) := by decide +kernel
theorem dX0_dropOldest_7 : decode cX0_dropOldest 7 = .ok (.iconst 1, 1) := by decide +kernel
theorem dX0_dropOldest_8 : decode cX0_dropOldest 8 = .ok (.istore_n 2, 1) := by decide +kernel
theorem dX0_dropOldest_9 : decode cX0_dropOldest 9 = .ok (.iload_n 2, 1) := by decide +kernel
theorem dX0_dropOldest_10 : decode cX0_dropOldest 10 = .ok (.iconst 5, 1) := by decide +kernel
theorem dX0_dropOldest_11 : decode cX0_dropOldest 11 = .ok (.if_icmp .ge 23, 3) := by decide +kernel
theorem dX0_dropOldest_14 : decode cX0_dropOldest 14 = .ok (.aload_n 0, 1) := by decide +kernel
theorem dX0_dropOldest_15 : decode cX0_dropOldest 15 = .ok (.getfield 11, 3) := by decide +kernel
theorem dX0_dropOldest_18 : decode cX0_dropOldest 18 = .ok (.iload_n 2, 1) := by decide +kernel
theorem dX0_dropOldest_19 : decode cX0_dropOldest 19 = .ok (.iconst 1, 1) := by decide +kernel
theorem dX0_dropOldest_20 : decode cX0_dropOldest 20 = .ok (.isub, 1) := by decide +kernel
theorem dX0_dropOldest_21 : decode cX0_dropOldest 21 = .ok (.aload_n 0, 1) := by decide +kernel
theorem dX0_dropOldest_22 : decode cX0_dropOldest 22 = .ok (.getfield 11, 3) := by decide +kernel
theorem dX0_dropOldest_25 : decode cX0_dropOldest 25 = .ok (.iload_n 2, 1) := by decide +kernel
theorem dX0_dropOldest_26 : decode cX0_dropOldest 26 = .ok (.aaload, 1) := by decide +kernel
theorem dX0_dropOldest_27 : decode cX0_dropOldest 27 = .ok (.aastore, 1) := by decide +kernel
theorem dX0_dropOldest_28 : decode cX0_dropOldest 28 = .ok (.iinc 2 1, 3) := by decide +kernel
theorem dX0_dropOldest_31 : decode cX0_dropOldest 31 = .ok (.goto (-22), 3) := by decide +kernel
theorem dX0_dropOldest_34 : decode cX0_dropOldest 34 = .ok (.aload_n 0, 1) := by decide +kernel
theorem dX0_dropOldest_35 : decode cX0_dropOldest 35 = .ok (.getfield 11, 3) := by decide +kernel
theorem dX0_dropOldest_38 : decode cX0_dropOldest 38 = .ok (.iconst 4, 1) := by decide +kernel
theorem dX0_dropOldest_39 : decode cX0_dropOldest 39 = .ok (.aload_n 1, 1) := by decide +kernel
theorem dX0_dropOldest_40 : decode cX0_dropOldest 40 = .ok (.aastore, 1) := by decide +kernel
theorem dX0_dropOldest_41 : decode cX0_dropOldest 41 = .ok (.aload_n 0, 1) := by decide +kernel
theorem dX0_dropOldest_42 : decode cX0_dropOldest 42 = .ok (.iconst 4, 1) := by decide +kernel
theorem dX0_dropOldest_43 : decode cX0_dropOldest 43 = .ok (.putfield 17, 3) := by decide +kernel
theorem dX0_dropOldest_46 : decode cX0_dropOldest 46 = .ok (.return_, 1) := by decide +kernel
theorem dX0_takeBack_0 : decode cX0_takeBack 0 = .ok (.aload_n 0, 1) := by decide +kernel
theorem dX0_takeBack_1 : decode cX0_takeBack 1 = .ok (.getfield 17, 3) := by decide +kernel
theorem dX0_takeBack_4 : decode cX0_takeBack 4 = .ok (.ifCond .gt 5, 3) := by decide +kernel
theorem dX0_takeBack_7 : decode cX0_takeBack 7 = .ok (.iconst 0, 1) := by decide +kernel
theorem dX0_takeBack_8 : decode cX0_takeBack 8 = .ok (.ireturn, 1) := by decide +kernel
theorem dX0_takeBack_9 : decode cX0_takeBack 9 = .ok (.aload_n 0, 1) := by decide +kernel
theorem dX0_takeBack_10 : decode cX0_takeBack 10 = .ok (.dup, 1) := by decide +kernel
theorem dX0_takeBack_11 : decode cX0_takeBack 11 = .ok (.getfield 17, 3) := by decide +kernel
theorem dX0_takeBack_14 : decode cX0_takeBack 14 = .ok (.iconst 1, 1) := by decide +kernel
theorem dX0_takeBack_15 : decode cX0_takeBack 15 = .ok (.isub, 1) := by decide +kernel
theorem dX0_takeBack_16 : decode cX0_takeBack 16 = .ok (.putfield 17, 3) := by decide +kernel
theorem dX0_takeBack_19 : decode cX0_takeBack 19 = .ok (.aload_n 1, 1) := by decide +kernel
theorem dX0_takeBack_20 : decode cX0_takeBack 20 = .ok (.aload_n 0, 1) := by decide +kernel
theorem dX0_takeBack_21 : decode cX0_takeBack 21 = .ok (.getfield 11, 3) := by decide +kernel
theorem dX0_takeBack_24 : decode cX0_takeBack 24 = .ok (.aload_n 0, 1) := by decide +kernel
theorem dX0_takeBack_25 : decode cX0_takeBack 25 = .ok (.getfield 17, 3) := by decide +kernel
theorem dX0_takeBack_28 : decode cX0_takeBack 28 = .ok (.aaload, 1) := by decide +kernel
theorem dX0_takeBack_29 : decode cX0_takeBack 29 = .ok (.invokevirtual 25, 3) := by decide +kernel
theorem dX0_takeBack_32 : decode cX0_takeBack 32 = .ok (.iconst 1, 1) := by decide +kernel
theorem dX0_takeBack_33 : decode cX0_takeBack 33 = .ok (.ireturn, 1) := by decide +kernel
theorem dX1_init_0 : decode cX1_init 0 = .ok (.aload_n 0, 1) := by decide +kernel
theorem dX1_init_1 : decode cX1_init 1 = .ok (.invokespecial 3, 3) := by decide +kernel
theorem dX1_init_4 : decode cX1_init 4 = .ok (.aload_n 0, 1) := by decide +kernel
theorem dX1_init_5 : decode cX1_init 5 = .ok (.iconst 3, 1) := by decide +kernel
theorem dX1_init_6 : decode cX1_init 6 = .ok (.newarray .int, 2) := by decide +kernel
theorem dX1_init_8 : decode cX1_init 8 = .ok (.putfield 9, 3) := by decide +kernel
theorem dX1_init_11 : decode cX1_init 11 = .ok (.aload_n 0, 1) := by decide +kernel
theorem dX1_init_12 : decode cX1_init 12 = .ok (.bipush 8, 2) := by decide +kernel
theorem dX1_init_14 : decode cX1_init 14 = .ok (.newarray .int, 2) := by decide +kernel
theorem dX1_init_16 : decode cX1_init 16 = .ok (.putfield 15, 3) := by decide +kernel
theorem dX1_init_19 : decode cX1_init 19 = .ok (.aload_n 0, 1) := by decide +kernel
theorem dX1_init_20 : decode cX1_init 20 = .ok (.bipush 16, 2) := by decide +kernel
theorem dX1_init_22 : decode cX1_init 22 = .ok (.anewarray 18, 3) := by decide +kernel
theorem dX1_init_25 : decode cX1_init 25 = .ok (.putfield 20, 3) := by decide +kernel
theorem dX1_init_28 : decode cX1_init 28 = .ok (.aload_n 0, 1) := by decide +kernel
theorem dX1_init_29 : decode cX1_init 29 = .ok (.iconst 0, 1) := by decide +kernel
theorem dX1_init_30 : decode cX1_init 30 = .ok (.putfield 24, 3) := by decide +kernel
theorem dX1_init_33 : decode cX1_init 33 = .ok (.aload_n 0, 1) := by decide +kernel
theorem dX1_init_34 : decode cX1_init 34 = .ok (.iconst 0, 1) := by decide +kernel
theorem dX1_init_35 : decode cX1_init 35 = .ok (.putfield 28, 3) := by decide +kernel
theorem dX1_init_38 : decode cX1_init 38 = .ok (.aload_n 0, 1) := by decide +kernel
theorem dX1_init_39 : decode cX1_init 39 = .ok (.bipush 24, 2) := by decide +kernel
theorem dX1_init_41 : decode cX1_init 41 = .ok (.putfield 31, 3) := by decide +kernel
theorem dX1_init_44 : decode cX1_init 44 = .ok (.aload_n 0, 1) := by decide +kernel
theorem dX1_init_45 : decode cX1_init 45 = .ok (.bipush 20, 2) := by decide +kernel
theorem dX1_init_47 : decode cX1_init 47 = .ok (.putfield 34, 3) := by decide +kernel
theorem dX1_init_50 : decode cX1_init 50 = .ok (.aload_n 0, 1) := by decide +kernel
theorem dX1_init_51 : decode cX1_init 51 = .ok (.bipush 90, 2) := by decide +kernel
theorem dX1_init_53 : decode cX1_init 53 = .ok (.putfield 37, 3) := by decide +kernel
theorem dX1_init_56 : decode cX1_init 56 = .ok (.aload_n 0, 1) := by decide +kernel
theorem dX1_init_57 : decode cX1_init 57 = .ok (.iconst 0, 1) := by decide +kernel
theorem dX1_init_58 : decode cX1_init 58 = .ok (.putfield 40, 3) := by decide +kernel
theorem dX1_init_61 : decode cX1_init 61 = .ok (.aload_n 0, 1) := by decide +kernel
theorem dX1_init_62 : decode cX1_init 62 = .ok (.iconst 0, 1) := by decide +kernel
theorem dX1_init_63 : decode cX1_init 63 = .ok (.putfield 43, 3) := by decide +kernel
theorem dX1_init_66 : decode cX1_init 66 = .ok (.aload_n 0, 1) := by decide +kernel
theorem dX1_init_67 : decode cX1_init 67 = .ok (.iconst 0, 1) := by decide +kernel
theorem dX1_init_68 : decode cX1_init 68 = .ok (.putfield 46, 3) := by decide +kernel
theorem dX1_init_71 : decode cX1_init 71 = .ok (.aload_n 0, 1) := by decide +kernel
theorem dX1_init_72 : decode cX1_init 72 = .ok (.getfield 9, 3) := by decide +kernel
theorem dX1_init_75 : decode cX1_init 75 = .ok (.bipush 10, 2) := by decide +kernel
theorem dX1_init_77 : decode cX1_init 77 = .ok (.invokestatic 49, 3) := by decide +kernel
theorem dX1_init_80 : decode cX1_init 80 = .ok (.iconst 0, 1) := by decide +kernel
theorem dX1_init_81 : decode cX1_init 81 = .ok (.istore_n 1, 1) := by decide +kernel
theorem dX1_init_82 : decode cX1_init 82 = .ok (.iload_n 1, 1) := by decide +kernel
theorem dX1_init_83 : decode cX1_init 83 = .ok (.aload_n 0, 1) := by decide +kernel
theorem dX1_init_84 : decode cX1_init 84 = .ok (.getfield 20, 3) := by decide +kernel
theorem dX1_init_87 : decode cX1_init 87 = .ok (.arraylength, 1) := by decide +kernel
theorem dX1_init_88 : decode cX1_init 88 = .ok (.if_icmp .ge 22, 3) := by decide +kernel
theorem dX1_init_91 : decode cX1_init 91 = .ok (.aload_n 0, 1) := by decide +kernel
theorem dX1_init_92 : decode cX1_init 92 = .ok (.getfield 20, 3) := by decide +kernel
theorem dX1_init_95 : decode cX1_init 95 = .ok (.iload_n 1, 1) := by decide +kernel
theorem dX1_init_96 : decode cX1_init 96 = .ok (.new 18, 3) := by decide +kernel
theorem dX1_init_99 : decode cX1_init 99 = .ok (.dup, 1) := by decide +kernel
theorem dX1_init_100 : decode cX1_init 100 = .ok (.invokespecial 55, 3) := by decide +kernel
theorem dX1_init_103 : decode cX1_init 103 = .ok (.aastore, 1) := by decide +kernel
theorem dX1_init_104 : decode cX1_init 104 = .ok (.iinc 1 1, 3) := by decide +kernel
theorem dX1_init_107 : decode cX1_init 107 = .ok (.goto (-25), 3) := by decide +kernel
theorem dX1_init_110 : decode cX1_init 110 = .ok (.return_, 1) := by decide +kernel
theorem dX1_copyFrom_0 : decode cX1_copyFrom 0 = .ok (.aload_n 1, 1) := by decide +kernel
theorem dX1_copyFrom_1 : decode cX1_copyFrom 1 = .ok (.getfield 9, 3) := by decide +kernel
theorem dX1_copyFrom_4 : decode cX1_copyFrom 4 = .ok (.iconst 0, 1) := by decide +kernel
theorem dX1_copyFrom_5 : decode cX1_copyFrom 5 = .ok (.aload_n 0, 1) := by decide +kernel
theorem dX1_copyFrom_6 : decode cX1_copyFrom 6 = .ok (.getfield 9, 3) := by decide +kernel
theorem dX1_copyFrom_9 : decode cX1_copyFrom 9 = .ok (.iconst 0, 1) := by decide +kernel
theorem dX1_copyFrom_10 : decode cX1_copyFrom 10 = .ok (.iconst 3, 1) := by decide +kernel
theorem dX1_copyFrom_11 : decode cX1_copyFrom 11 = .ok (.invokestatic 56, 3) := by decide +kernel
theorem dX1_copyFrom_14 : decode cX1_copyFrom 14 = .ok (.aload_n 1, 1) := by decide +kernel
theorem dX1_copyFrom_15 : decode cX1_copyFrom 15 = .ok (.getfield 15, 3) := by decide +kernel
theorem dX1_copyFrom_18 : decode cX1_copyFrom 18 = .ok (.iconst 0, 1) := by decide +kernel
theorem dX1_copyFrom_19 : decode cX1_copyFrom 19 = .ok (.aload_n 0, 1) := by decide +kernel
theorem dX1_copyFrom_20 : decode cX1_copyFrom 20 = .ok (.getfield 15, 3) := by decide +kernel
theorem dX1_copyFrom_23 : decode cX1_copyFrom 23 = .ok (.iconst 0, 1) := by decide +kernel
theorem dX1_copyFrom_24 : decode cX1_copyFrom 24 = .ok (.bipush 8, 2) := by decide +kernel
theorem dX1_copyFrom_26 : decode cX1_copyFrom 26 = .ok (.invokestatic 56, 3) := by decide +kernel
theorem dX1_copyFrom_29 : decode cX1_copyFrom 29 = .ok (.iconst 0, 1) := by decide +kernel
theorem dX1_copyFrom_30 : decode cX1_copyFrom 30 = .ok (.istore_n 2, 1) := by decide +kernel
theorem dX1_copyFrom_31 : decode cX1_copyFrom 31 = .ok (.iload_n 2, 1) := by decide +kernel
theorem dX1_copyFrom_32 : decode cX1_copyFrom 32 = .ok (.bipush 16, 2) := by decide +kernel
theorem dX1_copyFrom_34 : decode cX1_copyFrom 34 = .ok (.if_icmp .ge 24, 3) := by decide +kernel
theorem dX1_copyFrom_37 : decode cX1_copyFrom 37 = .ok (.aload_n 0, 1) := by decide +kernel
theorem dX1_copyFrom_38 : decode cX1_copyFrom 38 = .ok (.getfield 20, 3) := by decide +kernel
theorem dX1_copyFrom_41 : decode cX1_copyFrom 41 = .ok (.iload_n 2, 1) := by decide +kernel
theorem dX1_copyFrom_42 : decode cX1_copyFrom 42 = .ok (.aaload, 1) := by decide +kernel
theorem dX1_copyFrom_43 : decode cX1_copyFrom 43 = .ok (.aload_n 1, 1) := by decide +kernel
theorem dX1_copyFrom_44 : decode cX1_copyFrom 44 = .ok (.getfield 20, 3) := by decide +kernel
theorem dX1_copyFrom_47 : decode cX1_copyFrom 47 = .ok (.iload_n 2, 1) := by decide +kernel
theorem dX1_copyFrom_48 : decode cX1_copyFrom 48 = .ok (.aaload, 1) := by decide +kernel
theorem dX1_copyFrom_49 : decode cX1_copyFrom 49 = .ok (.invokevirtual 62, 3) := by decide +kernel
theorem dX1_copyFrom_52 : decode cX1_copyFrom 52 = .ok (.iinc 2 1, 3) := by decide +kernel
theorem dX1_copyFrom_55 : decode cX1_copyFrom 55 = .ok (.goto (-24), 3) := by decide +kernel
theorem dX1_copyFrom_58 : decode cX1_copyFrom 58 = .ok (.aload_n 0, 1) := by decide +kernel
theorem dX1_copyFrom_59 : decode cX1_copyFrom 59 = .ok (.aload_n 1, 1) := by decide +kernel
theorem dX1_copyFrom_60 : decode cX1_copyFrom 60 = .ok (.getfield 24, 3) := by decide +kernel
theorem dX1_copyFrom_63 : decode cX1_copyFrom 63 = .ok (.putfield 24, 3) := by decide +kernel
theorem dX1_copyFrom_66 : decode cX1_copyFrom 66 = .ok (.aload_n 0, 1) := by decide +kernel
theorem dX1_copyFrom_67 : decode cX1_copyFrom 67 = .ok (.aload_n 1, 1) := by decide +kernel
theorem dX1_copyFrom_68 : decode cX1_copyFrom 68 = .ok (.getfield 28, 3) := by decide +kernel
theorem dX1_copyFrom_71 : decode cX1_copyFrom 71 = .ok (.putfield 28, 3) := by decide +kernel
theorem dX1_copyFrom_74 : decode cX1_copyFrom 74 = .ok (.aload_n 0, 1) := by decide +kernel
theorem dX1_copyFrom_75 : decode cX1_copyFrom 75 = .ok (.aload_n 1, 1) := by decide +kernel
theorem dX1_copyFrom_76 : decode cX1_copyFrom 76 = .ok (.getfield 31, 3) := by decide +kernel
theorem dX1_copyFrom_79 : decode cX1_copyFrom 79 = .ok (.putfield 31, 3) := by decide +kernel
theorem dX1_copyFrom_82 : decode cX1_copyFrom 82 = .ok (.aload_n 0, 1) := by decide +kernel
theorem dX1_copyFrom_83 : decode cX1_copyFrom 83 = .ok (.aload_n 1, 1) := by decide +kernel
theorem dX1_copyFrom_84 : decode cX1_copyFrom 84 = .ok (.getfield 34, 3) := by decide +kernel
theorem dX1_copyFrom_87 : decode cX1_copyFrom 87 = .ok (.putfield 34, 3) := by decide +kernel
theorem dX1_copyFrom_90 : decode cX1_copyFrom 90 = .ok (.aload_n 0, 1) := by decide +kernel
theorem dX1_copyFrom_91 : decode cX1_copyFrom 91 = .ok (.aload_n 1, 1) := by decide +kernel
theorem dX1_copyFrom_92 : decode cX1_copyFrom 92 = .ok (.getfield 37, 3) := by decide +kernel
theorem dX1_copyFrom_95 : decode cX1_copyFrom 95 = .ok (.putfield 37, 3) := by decide +kernel
theorem dX1_copyFrom_98 : decode cX1_copyFrom 98 = .ok (.aload_n 0, 1) := by decide +kernel
theorem dX1_copyFrom_99 : decode cX1_copyFrom 99 = .ok (.aload_n 1, 1) := by decide +kernel
theorem dX1_copyFrom_100 : decode cX1_copyFrom 100 = .ok (.getfield 40, 3) := by decide +kernel
theorem dX1_copyFrom_103 : decode cX1_copyFrom 103 = .ok (.putfield 40, 3) := by decide +kernel
theorem dX1_copyFrom_106 : decode cX1_copyFrom 106 = .ok (.aload_n 0, 1) := by decide +kernel
theorem dX1_copyFrom_107 : decode cX1_copyFrom 107 = .ok (.aload_n 1, 1) := by decide +kernel
theorem dX1_copyFrom_108 : decode cX1_copyFrom 108 = .ok (.getfield 43, 3) := by decide +kernel
theorem dX1_copyFrom_111 : decode cX1_copyFrom 111 = .ok (.putfield 43, 3) := by decide +kernel
theorem dX1_copyFrom_114 : decode cX1_copyFrom 114 = .ok (.aload_n 0, 1) := by decide +kernel
theorem dX1_copyFrom_115 : decode cX1_copyFrom 115 = .ok (.aload_n 1, 1) := by decide +kernel
theorem dX1_copyFrom_116 : decode cX1_copyFrom 116 = .ok (.getfield 46, 3) := by decide +kernel
theorem dX1_copyFrom_119 : decode cX1_copyFrom 119 = .ok (.putfield 46, 3) := by decide +kernel
theorem dX1_copyFrom_122 : decode cX1_copyFrom 122 = .ok (.return_, 1) := by decide +kernel
theorem dX1_hasHeader_0 : decode cX1_hasHeader 0 = .ok (.iload_n 1, 1) := by decide +kernel
theorem dX1_hasHeader_1 : decode cX1_hasHeader 1 = .ok (.ifCond .lt 12, 3) := by decide +kernel
theorem dX1_hasHeader_4 : decode cX1_hasHeader 4 = .ok (.iload_n 1, 1) := by decide +kernel
theorem dX1_hasHeader_5 : decode cX1_hasHeader 5 = .ok (.iconst 3, 1) := by decide +kernel
theorem dX1_hasHeader_6 : decode cX1_hasHeader 6 = .ok (.if_icmp .ge 7, 3) := by decide +kernel
theorem dX1_hasHeader_9 : decode cX1_hasHeader 9 = .ok (.iconst 1, 1) := by decide +kernel
theorem dX1_hasHeader_10 : decode cX1_hasHeader 10 = .ok (.goto 4, 3) := by decide +kernel
theorem dX1_hasHeader_13 : decode cX1_hasHeader 13 = .ok (.iconst 0, 1) := by decide +kernel
theorem dX1_hasHeader_14 : decode cX1_hasHeader 14 = .ok (.ireturn, 1) := by decide +kernel
theorem dX1_hasLine_0 : decode cX1_hasLine 0 = .ok (.iload_n 1, 1) := by decide +kernel
theorem dX1_hasLine_1 : decode cX1_hasLine 1 = .ok (.ifCond .lt 15, 3) := by decide +kernel
theorem dX1_hasLine_4 : decode cX1_hasLine 4 = .ok (.iload_n 1, 1) := by decide +kernel
theorem dX1_hasLine_5 : decode cX1_hasLine 5 = .ok (.aload_n 0, 1) := by decide +kernel
theorem dX1_hasLine_6 : decode cX1_hasLine 6 = .ok (.getfield 24, 3) := by decide +kernel
theorem dX1_hasLine_9 : decode cX1_hasLine 9 = .ok (.if_icmp .ge 7, 3) := by decide +kernel
theorem dX1_hasLine_12 : decode cX1_hasLine 12 = .ok (.iconst 1, 1) := by decide +kernel
theorem dX1_hasLine_13 : decode cX1_hasLine 13 = .ok (.goto 4, 3) := by decide +kernel
theorem dX1_hasLine_16 : decode cX1_hasLine 16 = .ok (.iconst 0, 1) := by decide +kernel
theorem dX1_hasLine_17 : decode cX1_hasLine 17 = .ok (.ireturn, 1) := by decide +kernel
theorem dX1_trapAt_0 : decode cX1_trapAt 0 = .ok (.iload_n 1, 1) := by decide +kernel
theorem dX1_trapAt_1 : decode cX1_trapAt 1 = .ok (.ifCond .lt 20, 3) := by decide +kernel
theorem dX1_trapAt_4 : decode cX1_trapAt 4 = .ok (.iload_n 1, 1) := by decide +kernel
theorem dX1_trapAt_5 : decode cX1_trapAt 5 = .ok (.aload_n 0, 1) := by decide +kernel
theorem dX1_trapAt_6 : decode cX1_trapAt 6 = .ok (.getfield 28, 3) := by decide +kernel
theorem dX1_trapAt_9 : decode cX1_trapAt 9 = .ok (.if_icmp .ge 12, 3) := by decide +kernel
theorem dX1_trapAt_12 : decode cX1_trapAt 12 = .ok (.aload_n 0, 1) := by decide +kernel
theorem dX1_trapAt_13 : decode cX1_trapAt 13 = .ok (.getfield 20, 3) := by decide +kernel
theorem dX1_trapAt_16 : decode cX1_trapAt 16 = .ok (.iload_n 1, 1) := by decide +kernel
theorem dX1_trapAt_17 : decode cX1_trapAt 17 = .ok (.aaload, 1) := by decide +kernel
theorem dX1_trapAt_18 : decode cX1_trapAt 18 = .ok (.goto 4, 3) := by decide +kernel
theorem dX1_trapAt_21 : decode cX1_trapAt 21 = .ok (.aconst_null, 1) := by decide +kernel
theorem dX1_trapAt_22 : decode cX1_trapAt 22 = .ok (.areturn, 1) := by decide +kernel
theorem dX1_headerOfLine_0 : decode cX1_headerOfLine 0 = .ok (.aload_n 0, 1) := by decide +kernel
theorem dX1_headerOfLine_1 : decode cX1_headerOfLine 1 = .ok (.iload_n 1, 1) := by decide +kernel
theorem dX1_headerOfLine_2 : decode cX1_headerOfLine 2 = .ok (.invokevirtual 66, 3) := by decide +kernel
theorem dX1_headerOfLine_5 : decode cX1_headerOfLine 5 = .ok (.ifCond .eq 12, 3) := by decide +kernel
theorem dX1_headerOfLine_8 : decode cX1_headerOfLine 8 = .ok (.aload_n 0, 1) := by decide +kernel
theorem dX1_headerOfLine_9 : decode cX1_headerOfLine 9 = .ok (.getfield 15, 3) := by decide +kernel
theorem dX1_headerOfLine_12 : decode cX1_headerOfLine 12 = .ok (.iload_n 1, 1) := by decide +kernel
theorem dX1_headerOfLine_13 : decode cX1_headerOfLine 13 = .ok (.iaload, 1) := by decide +kernel
theorem dX1_headerOfLine_14 : decode cX1_headerOfLine 14 = .ok (.goto 5, 3) := by decide +kernel
theorem dX1_headerOfLine_17 : decode cX1_headerOfLine 17 = .ok (.bipush (-2), 2) := by decide +kernel
theorem dX1_headerOfLine_19 : decode cX1_headerOfLine 19 = .ok (.ireturn, 1) := by decide +kernel
theorem dX1_pressureOfHeader_0 : decode cX1_pressureOfHeader 0 = .ok (.aload_n 0, 1) := by decide +kernel
theorem dX1_pressureOfHeader_1 : decode cX1_pressureOfHeader 1 = .ok (.iload_n 1, 1) := by decide +kernel
theorem dX1_pressureOfHeader_2 : decode cX1_pressureOfHeader 2 = .ok (.invokevirtual 70, 3) := by decide +kernel
theorem dX1_pressureOfHeader_5 : decode cX1_pressureOfHeader 5 = .ok (.ifCond .eq 12, 3) := by decide +kernel
theorem dX1_pressureOfHeader_8 : decode cX1_pressureOfHeader 8 = .ok (.aload_n 0, 1) := by decide +kernel
theorem dX1_pressureOfHeader_9 : decode cX1_pressureOfHeader 9 = .ok (.getfield 9, 3) := by decide +kernel
theorem dX1_pressureOfHeader_12 : decode cX1_pressureOfHeader 12 = .ok (.iload_n 1, 1) := by decide +kernel
theorem dX1_pressureOfHeader_13 : decode cX1_pressureOfHeader 13 = .ok (.iaload, 1) := by decide +kernel
theorem dX1_pressureOfHeader_14 : decode cX1_pressureOfHeader 14 = .ok (.goto 5, 3) := by decide +kernel
theorem dX1_pressureOfHeader_17 : decode cX1_pressureOfHeader 17 = .ok (.bipush (-2), 2) := by decide +kernel
theorem dX1_pressureOfHeader_19 : decode cX1_pressureOfHeader 19 = .ok (.ireturn, 1) := by decide +kernel
theorem dX1_pressureAt_0 : decode cX1_pressureAt 0 = .ok (.aload_n 0, 1) := by decide +kernel
theorem dX1_pressureAt_1 : decode cX1_pressureAt 1 = .ok (.aload_n 0, 1) := by decide +kernel
theorem dX1_pressureAt_2 : decode cX1_pressureAt 2 = .ok (.aload_n 1, 1) := by decide +kernel
theorem dX1_pressureAt_3 : decode cX1_pressureAt 3 = .ok (.getfield 73, 3) := by decide +kernel
theorem dX1_pressureAt_6 : decode cX1_pressureAt 6 = .ok (.invokevirtual 76, 3) := by decide +kernel
theorem dX1_pressureAt_9 : decode cX1_pressureAt 9 = .ok (.invokevirtual 80, 3) := by decide +kernel
theorem dX1_pressureAt_12 : decode cX1_pressureAt 12 = .ok (.ireturn, 1) := by decide +kernel
theorem dX1_takeReading_0 : decode cX1_takeReading 0 = .ok (.aload_n 0, 1) := by decide +kernel
theorem dX1_takeReading_1 : decode cX1_takeReading 1 = .ok (.iload_n 1, 1) := by decide +kernel
theorem dX1_takeReading_2 : decode cX1_takeReading 2 = .ok (.invokevirtual 83, 3) := by decide +kernel
theorem dX1_takeReading_5 : decode cX1_takeReading 5 = .ok (.astore 5, 2) := by decide +kernel
theorem dX1_takeReading_7 : decode cX1_takeReading 7 = .ok (.aload 5, 2) := by decide +kernel
theorem dX1_takeReading_9 : decode cX1_takeReading 9 = .ok (.ifnull 32, 3) := by decide +kernel
theorem dX1_takeReading_12 : decode cX1_takeReading 12 = .ok (.aload 5, 2) := by decide +kernel
theorem dX1_takeReading_14 : decode cX1_takeReading 14 = .ok (.aload 5, 2) := by decide +kernel
theorem dX1_takeReading_16 : decode cX1_takeReading 16 = .ok (.iload_n 2, 1) := by decide +kernel
theorem dX1_takeReading_17 : decode cX1_takeReading 17 = .ok (.iload_n 3, 1) := by decide +kernel
theorem dX1_takeReading_18 : decode cX1_takeReading 18 = .ok (.iload 4, 2) := by decide +kernel
theorem dX1_takeReading_20 : decode cX1_takeReading 20 = .ok (.aload_n 0, 1) := by decide +kernel
theorem dX1_takeReading_21 : decode cX1_takeReading 21 = .ok (.aload 5, 2) := by decide +kernel
theorem dX1_takeReading_23 : decode cX1_takeReading 23 = .ok (.invokevirtual 87, 3) := by decide +kernel
theorem dX1_takeReading_26 : decode cX1_takeReading 26 = .ok (.invokevirtual 91, 3) := by decide +kernel
theorem dX1_takeReading_29 : decode cX1_takeReading 29 = .ok (.putfield 95, 3) := by decide +kernel
theorem dX1_takeReading_32 : decode cX1_takeReading 32 = .ok (.aload 5, 2) := by decide +kernel
theorem dX1_takeReading_34 : decode cX1_takeReading 34 = .ok (.aload_n 0, 1) := by decide +kernel
theorem dX1_takeReading_35 : decode cX1_takeReading 35 = .ok (.getfield 40, 3) := by decide +kernel
theorem dX1_takeReading_38 : decode cX1_takeReading 38 = .ok (.putfield 98, 3) := by decide +kernel
theorem dX1_takeReading_41 : decode cX1_takeReading 41 = .ok (.return_, 1) := by decide +kernel
theorem dX1_letPass_0 : decode cX1_letPass 0 = .ok (.iconst 0, 1) := by decide +kernel
theorem dX1_letPass_1 : decode cX1_letPass 1 = .ok (.istore_n 2, 1) := by decide +kernel
theorem dX1_letPass_2 : decode cX1_letPass 2 = .ok (.iload_n 2, 1) := by decide +kernel
theorem dX1_letPass_3 : decode cX1_letPass 3 = .ok (.aload_n 0, 1) := by decide +kernel
theorem dX1_letPass_4 : decode cX1_letPass 4 = .ok (.getfield 28, 3) := by decide +kernel
theorem dX1_letPass_7 : decode cX1_letPass 7 = .ok (.if_icmp .ge 43, 3) := by decide +kernel
theorem dX1_letPass_10 : decode cX1_letPass 10 = .ok (.aload_n 0, 1) := by decide +kernel
theorem dX1_letPass_11 : decode cX1_letPass 11 = .ok (.getfield 20, 3) := by decide +kernel
theorem dX1_letPass_14 : decode cX1_letPass 14 = .ok (.iload_n 2, 1) := by decide +kernel
theorem dX1_letPass_15 : decode cX1_letPass 15 = .ok (.aaload, 1) := by decide +kernel
theorem dX1_letPass_16 : decode cX1_letPass 16 = .ok (.dup, 1) := by decide +kernel
theorem dX1_letPass_17 : decode cX1_letPass 17 = .ok (.getfield 101, 3) := by decide +kernel
theorem dX1_letPass_20 : decode cX1_letPass 20 = .ok (.aload_n 0, 1) := by decide +kernel
theorem dX1_letPass_21 : decode cX1_letPass 21 = .ok (.aload_n 0, 1) := by decide +kernel
theorem dX1_letPass_22 : decode cX1_letPass 22 = .ok (.getfield 20, 3) := by decide +kernel
theorem dX1_letPass_25 : decode cX1_letPass 25 = .ok (.iload_n 2, 1) := by decide +kernel
theorem dX1_letPass_26 : decode cX1_letPass 26 = .ok (.aaload, 1) := by decide +kernel
theorem dX1_letPass_27 : decode cX1_letPass 27 = .ok (.invokevirtual 105, 3) := by decide +kernel
theorem dX1_letPass_30 : decode cX1_letPass 30 = .ok (.i2l, 1) := by decide +kernel
theorem dX1_letPass_31 : decode cX1_letPass 31 = .ok (.aload_n 0, 1) := by decide +kernel
theorem dX1_letPass_32 : decode cX1_letPass 32 = .ok (.getfield 31, 3) := by decide +kernel
theorem dX1_letPass_35 : decode cX1_letPass 35 = .ok (.i2l, 1) := by decide +kernel
theorem dX1_letPass_36 : decode cX1_letPass 36 = .ok (.lmul, 1) := by decide +kernel
theorem dX1_letPass_37 : decode cX1_letPass 37 = .ok (.iload_n 1, 1) := by decide +kernel
theorem dX1_letPass_38 : decode cX1_letPass 38 = .ok (.i2l, 1) := by decide +kernel
theorem dX1_letPass_39 : decode cX1_letPass 39 = .ok (.lmul, 1) := by decide +kernel
theorem dX1_letPass_40 : decode cX1_letPass 40 = .ok (.ladd, 1) := by decide +kernel
theorem dX1_letPass_41 : decode cX1_letPass 41 = .ok (.putfield 101, 3) := by decide +kernel
theorem dX1_letPass_44 : decode cX1_letPass 44 = .ok (.iinc 2 1, 3) := by decide +kernel
theorem dX1_letPass_47 : decode cX1_letPass 47 = .ok (.goto (-45), 3) := by decide +kernel
theorem dX1_letPass_50 : decode cX1_letPass 50 = .ok (.aload_n 0, 1) := by decide +kernel
theorem dX1_letPass_51 : decode cX1_letPass 51 = .ok (.dup, 1) := by decide +kernel
theorem dX1_letPass_52 : decode cX1_letPass 52 = .ok (.getfield 40, 3) := by decide +kernel
theorem dX1_letPass_55 : decode cX1_letPass 55 = .ok (.iload_n 1, 1) := by decide +kernel
theorem dX1_letPass_56 : decode cX1_letPass 56 = .ok (.iadd, 1) := by decide +kernel
theorem dX1_letPass_57 : decode cX1_letPass 57 = .ok (.putfield 40, 3) := by decide +kernel
theorem dX1_letPass_60 : decode cX1_letPass 60 = .ok (.return_, 1) := by decide +kernel
theorem dX1_trapsInState_0 : decode cX1_trapsInState 0 = .ok (.iconst 0, 1) := by decide +kernel
theorem dX1_trapsInState_1 : decode cX1_trapsInState 1 = .ok (.istore_n 2, 1) := by decide +kernel
theorem dX1_trapsInState_2 : decode cX1_trapsInState 2 = .ok (.iconst 0, 1) := by decide +kernel
theorem dX1_trapsInState_3 : decode cX1_trapsInState 3 = .ok (.istore_n 3, 1) := by decide +kernel
theorem dX1_trapsInState_4 : decode cX1_trapsInState 4 = .ok (.iload_n 3, 1) := by decide +kernel
theorem dX1_trapsInState_5 : decode cX1_trapsInState 5 = .ok (.aload_n 0, 1) := by decide +kernel
theorem dX1_trapsInState_6 : decode cX1_trapsInState 6 = .ok (.getfield 28, 3) := by decide +kernel
theorem dX1_trapsInState_9 : decode cX1_trapsInState 9 = .ok (.if_icmp .ge 25, 3) := by decide +kernel
theorem dX1_trapsInState_12 : decode cX1_trapsInState 12 = .ok (.aload_n 0, 1) := by decide +kernel
theorem dX1_trapsInState_13 : decode cX1_trapsInState 13 = .ok (.getfield 20, 3) := by decide +kernel
theorem dX1_trapsInState_16 : decode cX1_trapsInState 16 = .ok (.iload_n 3, 1) := by decide +kernel
theorem dX1_trapsInState_17 : decode cX1_trapsInState 17 = .ok (.aaload, 1) := by decide +kernel
theorem dX1_trapsInState_18 : decode cX1_trapsInState 18 = .ok (.getfield 95, 3) := by decide +kernel
theorem dX1_trapsInState_21 : decode cX1_trapsInState 21 = .ok (.iload_n 1, 1) := by decide +kernel
theorem dX1_trapsInState_22 : decode cX1_trapsInState 22 = .ok (.if_icmp .ne 6, 3) := by decide +kernel
theorem dX1_trapsInState_25 : decode cX1_trapsInState 25 = .ok (.iinc 2 1, 3) := by decide +kernel
theorem dX1_trapsInState_28 : decode cX1_trapsInState 28 = .ok (.iinc 3 1, 3) := by decide +kernel
theorem dX1_trapsInState_31 : decode cX1_trapsInState 31 = .ok (.goto (-27), 3) := by decide +kernel
theorem dX1_trapsInState_34 : decode cX1_trapsInState 34 = .ok (.iload_n 2, 1) := by decide +kernel
theorem dX1_trapsInState_35 : decode cX1_trapsInState 35 = .ok (.ireturn, 1) := by decide +kernel
theorem dX1_lossOf_0 : decode cX1_lossOf 0 = .ok (.aload_n 1, 1) := by decide +kernel
theorem dX1_lossOf_1 : decode cX1_lossOf 1 = .ok (.aload_n 0, 1) := by decide +kernel
theorem dX1_lossOf_2 : decode cX1_lossOf 2 = .ok (.aload_n 1, 1) := by decide +kernel
theorem dX1_lossOf_3 : decode cX1_lossOf 3 = .ok (.invokevirtual 87, 3) := by decide +kernel
theorem dX1_lossOf_6 : decode cX1_lossOf 6 = .ok (.invokevirtual 108, 3) := by decide +kernel
theorem dX1_lossOf_9 : decode cX1_lossOf 9 = .ok (.ireturn, 1) := by decide +kernel
theorem dX1_lossOfLine_0 : decode cX1_lossOfLine 0 = .ok (.iconst 0, 1) := by decide +kernel
theorem dX1_lossOfLine_1 : decode cX1_lossOfLine 1 = .ok (.istore_n 2, 1) := by decide +kernel
theorem dX1_lossOfLine_2 : decode cX1_lossOfLine 2 = .ok (.iconst 0, 1) := by decide +kernel
theorem dX1_lossOfLine_3 : decode cX1_lossOfLine 3 = .ok (.istore_n 3, 1) := by decide +kernel
theorem dX1_lossOfLine_4 : decode cX1_lossOfLine 4 = .ok (.iload_n 3, 1) := by decide +kernel
theorem dX1_lossOfLine_5 : decode cX1_lossOfLine 5 = .ok (.aload_n 0, 1) := by decide +kernel
theorem dX1_lossOfLine_6 : decode cX1_lossOfLine 6 = .ok (.getfield 28, 3) := by decide +kernel
theorem dX1_lossOfLine_9 : decode cX1_lossOfLine 9 = .ok (.if_icmp .ge 35, 3) := by decide +kernel
theorem dX1_lossOfLine_12 : decode cX1_lossOfLine 12 = .ok (.aload_n 0, 1) := by decide +kernel
theorem dX1_lossOfLine_13 : decode cX1_lossOfLine 13 = .ok (.getfield 20, 3) := by decide +kernel
theorem dX1_lossOfLine_16 : decode cX1_lossOfLine 16 = .ok (.iload_n 3, 1) := by decide +kernel
theorem dX1_lossOfLine_17 : decode cX1_lossOfLine 17 = .ok (.aaload, 1) := by decide +kernel
theorem dX1_lossOfLine_18 : decode cX1_lossOfLine 18 = .ok (.getfield 73, 3) := by decide +kernel
theorem dX1_lossOfLine_21 : decode cX1_lossOfLine 21 = .ok (.iload_n 1, 1) := by decide +kernel
theorem dX1_lossOfLine_22 : decode cX1_lossOfLine 22 = .ok (.if_icmp .ne 16, 3) := by decide +kernel
theorem dX1_lossOfLine_25 : decode cX1_lossOfLine 25 = .ok (.iload_n 2, 1) := by decide +kernel
theorem dX1_lossOfLine_26 : decode cX1_lossOfLine 26 = .ok (.aload_n 0, 1) := by decide +kernel
theorem dX1_lossOfLine_27 : decode cX1_lossOfLine 27 = .ok (.aload_n 0, 1) := by decide +kernel
theorem dX1_lossOfLine_28 : decode cX1_lossOfLine 28 = .ok (.getfield 20, 3) := by decide +kernel
theorem dX1_lossOfLine_31 : decode cX1_lossOfLine 31 = .ok (.iload_n 3, 1) := by decide +kernel
theorem dX1_lossOfLine_32 : decode cX1_lossOfLine 32 = .ok (.aaload, 1) := by decide +kernel
theorem dX1_lossOfLine_33 : decode cX1_lossOfLine 33 = .ok (.invokevirtual 105, 3) := by decide +kernel
theorem dX1_lossOfLine_36 : decode cX1_lossOfLine 36 = .ok (.iadd, 1) := by decide +kernel
theorem dX1_lossOfLine_37 : decode cX1_lossOfLine 37 = .ok (.istore_n 2, 1) := by decide +kernel
theorem dX1_lossOfLine_38 : decode cX1_lossOfLine 38 = .ok (.iinc 3 1, 3) := by decide +kernel
theorem dX1_lossOfLine_41 : decode cX1_lossOfLine 41 = .ok (.goto (-37), 3) := by decide +kernel
theorem dX1_lossOfLine_44 : decode cX1_lossOfLine 44 = .ok (.iload_n 2, 1) := by decide +kernel
theorem dX1_lossOfLine_45 : decode cX1_lossOfLine 45 = .ok (.ireturn, 1) := by decide +kernel
theorem dX1_lossOfHeader_0 : decode cX1_lossOfHeader 0 = .ok (.iconst 0, 1) := by decide +kernel
theorem dX1_lossOfHeader_1 : decode cX1_lossOfHeader 1 = .ok (.istore_n 2, 1) := by decide +kernel
theorem dX1_lossOfHeader_2 : decode cX1_lossOfHeader 2 = .ok (.iconst 0, 1) := by decide +kernel
theorem dX1_lossOfHeader_3 : decode cX1_lossOfHeader 3 = .ok (.istore_n 3, 1) := by decide +kernel
theorem dX1_lossOfHeader_4 : decode cX1_lossOfHeader 4 = .ok (.iload_n 3, 1) := by decide +kernel
theorem dX1_lossOfHeader_5 : decode cX1_lossOfHeader 5 = .ok (.aload_n 0, 1) := by decide +kernel
theorem dX1_lossOfHeader_6 : decode cX1_lossOfHeader 6 = .ok (.getfield 28, 3) := by decide +kernel
theorem dX1_lossOfHeader_9 : decode cX1_lossOfHeader 9 = .ok (.if_icmp .ge 39, 3) := by decide +kernel
theorem dX1_lossOfHeader_12 : decode cX1_lossOfHeader 12 = .ok (.aload_n 0, 1) := by decide +kernel
theorem dX1_lossOfHeader_13 : decode cX1_lossOfHeader 13 = .ok (.aload_n 0, 1) := by decide +kernel
theorem dX1_lossOfHeader_14 : decode cX1_lossOfHeader 14 = .ok (.getfield 20, 3) := by decide +kernel
theorem dX1_lossOfHeader_17 : decode cX1_lossOfHeader 17 = .ok (.iload_n 3, 1) := by decide +kernel
theorem dX1_lossOfHeader_18 : decode cX1_lossOfHeader 18 = .ok (.aaload, 1) := by decide +kernel
theorem dX1_lossOfHeader_19 : decode cX1_lossOfHeader 19 = .ok (.getfield 73, 3) := by decide +kernel
theorem dX1_lossOfHeader_22 : decode cX1_lossOfHeader 22 = .ok (.invokevirtual 76, 3) := by decide +kernel
theorem dX1_lossOfHeader_25 : decode cX1_lossOfHeader 25 = .ok (.iload_n 1, 1) := by decide +kernel
theorem dX1_lossOfHeader_26 : decode cX1_lossOfHeader 26 = .ok (.if_icmp .ne 16, 3) := by decide +kernel
theorem dX1_lossOfHeader_29 : decode cX1_lossOfHeader 29 = .ok (.iload_n 2, 1) := by decide +kernel
theorem dX1_lossOfHeader_30 : decode cX1_lossOfHeader 30 = .ok (.aload_n 0, 1) := by decide +kernel
theorem dX1_lossOfHeader_31 : decode cX1_lossOfHeader 31 = .ok (.aload_n 0, 1) := by decide +kernel
theorem dX1_lossOfHeader_32 : decode cX1_lossOfHeader 32 = .ok (.getfield 20, 3) := by decide +kernel
theorem dX1_lossOfHeader_35 : decode cX1_lossOfHeader 35 = .ok (.iload_n 3, 1) := by decide +kernel
theorem dX1_lossOfHeader_36 : decode cX1_lossOfHeader 36 = .ok (.aaload, 1) := by decide +kernel
theorem dX1_lossOfHeader_37 : decode cX1_lossOfHeader 37 = .ok (.invokevirtual 105, 3) := by decide +kernel
theorem dX1_lossOfHeader_40 : decode cX1_lossOfHeader 40 = .ok (.iadd, 1) := by decide +kernel
theorem dX1_lossOfHeader_41 : decode cX1_lossOfHeader 41 = .ok (.istore_n 2, 1) := by decide +kernel
theorem dX1_lossOfHeader_42 : decode cX1_lossOfHeader 42 = .ok (.iinc 3 1, 3) := by decide +kernel
theorem dX1_lossOfHeader_45 : decode cX1_lossOfHeader 45 = .ok (.goto (-41), 3) := by decide +kernel
theorem dX1_lossOfHeader_48 : decode cX1_lossOfHeader 48 = .ok (.iload_n 2, 1) := by decide +kernel
theorem dX1_lossOfHeader_49 : decode cX1_lossOfHeader 49 = .ok (.ireturn, 1) := by decide +kernel
theorem dX1_lostByAll_0 : decode cX1_lostByAll 0 = .ok (.lconst 0, 1) := by decide +kernel
theorem dX1_lostByAll_1 : decode cX1_lostByAll 1 = .ok (.lstore_n 1, 1) := by decide +kernel
theorem dX1_lostByAll_2 : decode cX1_lostByAll 2 = .ok (.iconst 0, 1) := by decide +kernel
theorem dX1_lostByAll_3 : decode cX1_lostByAll 3 = .ok (.istore_n 3, 1) := by decide +kernel
theorem dX1_lostByAll_4 : decode cX1_lostByAll 4 = .ok (.iload_n 3, 1) := by decide +kernel
theorem dX1_lostByAll_5 : decode cX1_lostByAll 5 = .ok (.aload_n 0, 1) := by decide +kernel
theorem dX1_lostByAll_6 : decode cX1_lostByAll 6 = .ok (.getfield 28, 3) := by decide +kernel
theorem dX1_lostByAll_9 : decode cX1_lostByAll 9 = .ok (.if_icmp .ge 21, 3) := by decide +kernel
theorem dX1_lostByAll_12 : decode cX1_lostByAll 12 = .ok (.lload_n 1, 1) := by decide +kernel
theorem dX1_lostByAll_13 : decode cX1_lostByAll 13 = .ok (.aload_n 0, 1) := by decide +kernel
theorem dX1_lostByAll_14 : decode cX1_lostByAll 14 = .ok (.getfield 20, 3) := by decide +kernel
theorem dX1_lostByAll_17 : decode cX1_lostByAll 17 = .ok (.iload_n 3, 1) := by decide +kernel
theorem dX1_lostByAll_18 : decode cX1_lostByAll 18 = .ok (.aaload, 1) := by decide +kernel
theorem dX1_lostByAll_19 : decode cX1_lostByAll 19 = .ok (.getfield 101, 3) := by decide +kernel
theorem dX1_lostByAll_22 : decode cX1_lostByAll 22 = .ok (.ladd, 1) := by decide +kernel
theorem dX1_lostByAll_23 : decode cX1_lostByAll 23 = .ok (.lstore_n 1, 1) := by decide +kernel
theorem dX1_lostByAll_24 : decode cX1_lostByAll 24 = .ok (.iinc 3 1, 3) := by decide +kernel
theorem dX1_lostByAll_27 : decode cX1_lostByAll 27 = .ok (.goto (-23), 3) := by decide +kernel
theorem dX1_lostByAll_30 : decode cX1_lostByAll 30 = .ok (.lload_n 1, 1) := by decide +kernel
theorem dX1_lostByAll_31 : decode cX1_lostByAll 31 = .ok (.lreturn, 1) := by decide +kernel
theorem dX1_priceADay_0 : decode cX1_priceADay 0 = .ok (.iload_n 1, 1) := by decide +kernel
theorem dX1_priceADay_1 : decode cX1_priceADay 1 = .ok (.i2l, 1) := by decide +kernel
theorem dX1_priceADay_2 : decode cX1_priceADay 2 = .ok (.aload_n 0, 1) := by decide +kernel
theorem dX1_priceADay_3 : decode cX1_priceADay 3 = .ok (.getfield 31, 3) := by decide +kernel
theorem dX1_priceADay_6 : decode cX1_priceADay 6 = .ok (.i2l, 1) := by decide +kernel
theorem dX1_priceADay_7 : decode cX1_priceADay 7 = .ok (.lmul, 1) := by decide +kernel
theorem dX1_priceADay_8 : decode cX1_priceADay 8 = .ok (.aload_n 0, 1) := by decide +kernel
theorem dX1_priceADay_9 : decode cX1_priceADay 9 = .ok (.getfield 34, 3) := by decide +kernel
theorem dX1_priceADay_12 : decode cX1_priceADay 12 = .ok (.i2l, 1) := by decide +kernel
theorem dX1_priceADay_13 : decode cX1_priceADay 13 = .ok (.lmul, 1) := by decide +kernel
theorem dX1_priceADay_14 : decode cX1_priceADay 14 = .ok (.lreturn, 1) := by decide +kernel
theorem dX1_paybackOf_0 : decode cX1_paybackOf 0 = .ok (.aload_n 0, 1) := by decide +kernel
theorem dX1_paybackOf_1 : decode cX1_paybackOf 1 = .ok (.aload_n 0, 1) := by decide +kernel
theorem dX1_paybackOf_2 : decode cX1_paybackOf 2 = .ok (.aload_n 1, 1) := by decide +kernel
theorem dX1_paybackOf_3 : decode cX1_paybackOf 3 = .ok (.invokevirtual 105, 3) := by decide +kernel
theorem dX1_paybackOf_6 : decode cX1_paybackOf 6 = .ok (.invokevirtual 111, 3) := by decide +kernel
theorem dX1_paybackOf_9 : decode cX1_paybackOf 9 = .ok (.lstore_n 2, 1) := by decide +kernel
theorem dX1_paybackOf_10 : decode cX1_paybackOf 10 = .ok (.lload_n 2, 1) := by decide +kernel
theorem dX1_paybackOf_11 : decode cX1_paybackOf 11 = .ok (.lconst 0, 1) := by decide +kernel
theorem dX1_paybackOf_12 : decode cX1_paybackOf 12 = .ok (.lcmp, 1) := by decide +kernel
theorem dX1_paybackOf_13 : decode cX1_paybackOf 13 = .ok (.ifCond .gt 7, 3) := by decide +kernel
theorem dX1_paybackOf_16 : decode cX1_paybackOf 16 = .ok (.ldc2_w 115, 3) := by decide +kernel
theorem dX1_paybackOf_19 : decode cX1_paybackOf 19 = .ok (.lreturn, 1) := by decide +kernel
theorem dX1_paybackOf_20 : decode cX1_paybackOf 20 = .ok (.ldc2_w 117, 3) := by decide +kernel
theorem dX1_paybackOf_23 : decode cX1_paybackOf 23 = .ok (.aload_n 1, 1) := by decide +kernel
theorem dX1_paybackOf_24 : decode cX1_paybackOf 24 = .ok (.invokevirtual 119, 3) := by decide +kernel
theorem dX1_paybackOf_27 : decode cX1_paybackOf 27 = .ok (.i2l, 1) := by decide +kernel
theorem dX1_paybackOf_28 : decode cX1_paybackOf 28 = .ok (.lmul, 1) := by decide +kernel
theorem dX1_paybackOf_29 : decode cX1_paybackOf 29 = .ok (.lload_n 2, 1) := by decide +kernel
theorem dX1_paybackOf_30 : decode cX1_paybackOf 30 = .ok (.ladd, 1) := by decide +kernel
theorem dX1_paybackOf_31 : decode cX1_paybackOf 31 = .ok (.lconst 1, 1) := by decide +kernel
theorem dX1_paybackOf_32 : decode cX1_paybackOf 32 = .ok (.lsub, 1) := by decide +kernel
theorem dX1_paybackOf_33 : decode cX1_paybackOf 33 = .ok (.lload_n 2, 1) := by decide +kernel
theorem dX1_paybackOf_34 : decode cX1_paybackOf 34 = .ok (.ldiv, 1) := by decide +kernel
theorem dX1_paybackOf_35 : decode cX1_paybackOf 35 = .ok (.lreturn, 1) := by decide +kernel
theorem dX1_mend_0 : decode cX1_mend 0 = .ok (.aload_n 1, 1) := by decide +kernel
theorem dX1_mend_1 : decode cX1_mend 1 = .ok (.iconst 1, 1) := by decide +kernel
theorem dX1_mend_2 : decode cX1_mend 2 = .ok (.putfield 95, 3) := by decide +kernel
theorem dX1_mend_5 : decode cX1_mend 5 = .ok (.aload_n 0, 1) := by decide +kernel
theorem dX1_mend_6 : decode cX1_mend 6 = .ok (.dup, 1) := by decide +kernel
theorem dX1_mend_7 : decode cX1_mend 7 = .ok (.getfield 43, 3) := by decide +kernel
theorem dX1_mend_10 : decode cX1_mend 10 = .ok (.aload_n 1, 1) := by decide +kernel
theorem dX1_mend_11 : decode cX1_mend 11 = .ok (.invokevirtual 119, 3) := by decide +kernel
theorem dX1_mend_14 : decode cX1_mend 14 = .ok (.iadd, 1) := by decide +kernel
theorem dX1_mend_15 : decode cX1_mend 15 = .ok (.putfield 43, 3) := by decide +kernel
theorem dX1_mend_18 : decode cX1_mend 18 = .ok (.aload_n 0, 1) := by decide +kernel
theorem dX1_mend_19 : decode cX1_mend 19 = .ok (.dup, 1) := by decide +kernel
theorem dX1_mend_20 : decode cX1_mend 20 = .ok (.getfield 46, 3) := by decide +kernel
theorem dX1_mend_23 : decode cX1_mend 23 = .ok (.iconst 1, 1) := by decide +kernel
theorem dX1_mend_24 : decode cX1_mend 24 = .ok (.iadd, 1) := by decide +kernel
theorem dX1_mend_25 : decode cX1_mend 25 = .ok (.putfield 46, 3) := by decide +kernel
theorem dX1_mend_28 : decode cX1_mend 28 = .ok (.return_, 1) := by decide +kernel
theorem dX1_needsVisit_0 : decode cX1_needsVisit 0 = .ok (.aload_n 1, 1) := by decide +kernel
theorem dX1_needsVisit_1 : decode cX1_needsVisit 1 = .ok (.getfield 98, 3) := by decide +kernel
theorem dX1_needsVisit_4 : decode cX1_needsVisit 4 = .ok (.iconst (-1), 1) := by decide +kernel
theorem dX1_needsVisit_5 : decode cX1_needsVisit 5 = .ok (.if_icmp .eq 27, 3) := by decide +kernel
theorem dX1_needsVisit_8 : decode cX1_needsVisit 8 = .ok (.aload_n 1, 1) := by decide +kernel
theorem dX1_needsVisit_9 : decode cX1_needsVisit 9 = .ok (.getfield 95, 3) := by decide +kernel
theorem dX1_needsVisit_12 : decode cX1_needsVisit 12 = .ok (.iconst 1, 1) := by decide +kernel
theorem dX1_needsVisit_13 : decode cX1_needsVisit 13 = .ok (.if_icmp .ne 19, 3) := by decide +kernel
theorem dX1_needsVisit_16 : decode cX1_needsVisit 16 = .ok (.aload_n 0, 1) := by decide +kernel
theorem dX1_needsVisit_17 : decode cX1_needsVisit 17 = .ok (.getfield 40, 3) := by decide +kernel
theorem dX1_needsVisit_20 : decode cX1_needsVisit 20 = .ok (.aload_n 1, 1) := by decide +kernel
theorem dX1_needsVisit_21 : decode cX1_needsVisit 21 = .ok (.getfield 98, 3) := by decide +kernel
theorem dX1_needsVisit_24 : decode cX1_needsVisit 24 = .ok (.isub, 1) := by decide +kernel
theorem dX1_needsVisit_25 : decode cX1_needsVisit 25 = .ok (.aload_n 0, 1) := by decide +kernel
theorem dX1_needsVisit_26 : decode cX1_needsVisit 26 = .ok (.getfield 37, 3) := by decide +kernel
theorem dX1_needsVisit_29 : decode cX1_needsVisit 29 = .ok (.if_icmp .lt 7, 3) := by decide +kernel
theorem dX1_needsVisit_32 : decode cX1_needsVisit 32 = .ok (.iconst 1, 1) := by decide +kernel
theorem dX1_needsVisit_33 : decode cX1_needsVisit 33 = .ok (.goto 4, 3) := by decide +kernel
theorem dX1_needsVisit_36 : decode cX1_needsVisit 36 = .ok (.iconst 0, 1) := by decide +kernel
theorem dX1_needsVisit_37 : decode cX1_needsVisit 37 = .ok (.ireturn, 1) := by decide +kernel
theorem dX2_init_0 : decode cX2_init 0 = .ok (.aload_n 0, 1) := by decide +kernel
theorem dX2_init_1 : decode cX2_init 1 = .ok (.invokespecial 3, 3) := by decide +kernel
theorem dX2_init_4 : decode cX2_init 4 = .ok (.aload_n 0, 1) := by decide +kernel
theorem dX2_init_5 : decode cX2_init 5 = .ok (.bipush 100, 2) := by decide +kernel
theorem dX2_init_7 : decode cX2_init 7 = .ok (.newarray .int, 2) := by decide +kernel
theorem dX2_init_9 : decode cX2_init 9 = .ok (.putfield 9, 3) := by decide +kernel
theorem dX2_init_12 : decode cX2_init 12 = .ok (.aload_n 0, 1) := by decide +kernel
theorem dX2_init_13 : decode cX2_init 13 = .ok (.bipush 20, 2) := by decide +kernel
theorem dX2_init_15 : decode cX2_init 15 = .ok (.iconst 4, 1) := by decide +kernel
theorem dX2_init_16 : decode cX2_init 16 = .ok (.multianewarray 15 2, 4) := by decide +kernel
theorem dX2_init_20 : decode cX2_init 20 = .ok (.putfield 17, 3) := by decide +kernel
theorem dX2_init_23 : decode cX2_init 23 = .ok (.aload_n 0, 1) := by decide +kernel
theorem dX2_init_24 : decode cX2_init 24 = .ok (.iconst 0, 1) := by decide +kernel
theorem dX2_init_25 : decode cX2_init 25 = .ok (.putfield 20, 3) := by decide +kernel
theorem dX2_init_28 : decode cX2_init 28 = .ok (.aload_n 0, 1) := by decide +kernel
theorem dX2_init_29 : decode cX2_init 29 = .ok (.iconst 0, 1) := by decide +kernel
theorem dX2_init_30 : decode cX2_init 30 = .ok (.putfield 24, 3) := by decide +kernel
theorem dX2_init_33 : decode cX2_init 33 = .ok (.aload_n 0, 1) := by decide +kernel
theorem dX2_init_34 : decode cX2_init 34 = .ok (.iconst 0, 1) := by decide +kernel
theorem dX2_init_35 : decode cX2_init 35 = .ok (.putfield 27, 3) := by decide +kernel
theorem dX2_init_38 : decode cX2_init 38 = .ok (.return_, 1) := by decide +kernel
theorem dX2_append_0 : decode cX2_append 0 = .ok (.aload_n 0, 1) := by decide +kernel
theorem dX2_append_1 : decode cX2_append 1 = .ok (.getfield 20, 3) := by decide +kernel
theorem dX2_append_4 : decode cX2_append 4 = .ok (.bipush 100, 2) := by decide +kernel
theorem dX2_append_6 : decode cX2_append 6 = .ok (.if_icmp .lt 5, 3) := by decide +kernel
theorem dX2_append_9 : decode cX2_append 9 = .ok (.iconst 0, 1) := by decide +kernel
theorem dX2_append_10 : decode cX2_append 10 = .ok (.ireturn, 1) := by decide +kernel
theorem dX2_append_11 : decode cX2_append 11 = .ok (.aload_n 0, 1) := by decide +kernel
theorem dX2_append_12 : decode cX2_append 12 = .ok (.getfield 9, 3) := by decide +kernel
theorem dX2_append_15 : decode cX2_append 15 = .ok (.aload_n 0, 1) := by decide +kernel
theorem dX2_append_16 : decode cX2_append 16 = .ok (.getfield 20, 3) := by decide +kernel
theorem dX2_append_19 : decode cX2_append 19 = .ok (.iload_n 1, 1) := by decide +kernel
theorem dX2_append_20 : decode cX2_append 20 = .ok (.iastore, 1) := by decide +kernel
theorem dX2_append_21 : decode cX2_append 21 = .ok (.aload_n 0, 1) := by decide +kernel
theorem dX2_append_22 : decode cX2_append 22 = .ok (.dup, 1) := by decide +kernel
theorem dX2_append_23 : decode cX2_append 23 = .ok (.getfield 20, 3) := by decide +kernel
theorem dX2_append_26 : decode cX2_append 26 = .ok (.iconst 1, 1) := by decide +kernel
theorem dX2_append_27 : decode cX2_append 27 = .ok (.iadd, 1) := by decide +kernel
theorem dX2_append_28 : decode cX2_append 28 = .ok (.putfield 20, 3) := by decide +kernel
theorem dX2_append_31 : decode cX2_append 31 = .ok (.iconst 1, 1) := by decide +kernel
theorem dX2_append_32 : decode cX2_append 32 = .ok (.ireturn, 1) := by decide +kernel
theorem dX2_faultFor_0 : decode cX2_faultFor 0 = .ok (.aload_n 0, 1) := by decide +kernel
theorem dX2_faultFor_1 : decode cX2_faultFor 1 = .ok (.iload_n 1, 1) := by decide +kernel
theorem dX2_faultFor_2 : decode cX2_faultFor 2 = .ok (.invokevirtual 30, 3) := by decide +kernel
theorem dX2_faultFor_5 : decode cX2_faultFor 5 = .ok (.ifCond .eq 7, 3) := by decide +kernel
theorem dX2_faultFor_8 : decode cX2_faultFor 8 = .ok (.iconst (-1), 1) := by decide +kernel
theorem dX2_faultFor_9 : decode cX2_faultFor 9 = .ok (.goto 7, 3) := by decide +kernel
theorem dX2_faultFor_12 : decode cX2_faultFor 12 = .ok (.aload_n 0, 1) := by decide +kernel
theorem dX2_faultFor_13 : decode cX2_faultFor 13 = .ok (.getfield 27, 3) := by decide +kernel
theorem dX2_faultFor_16 : decode cX2_faultFor 16 = .ok (.ireturn, 1) := by decide +kernel
theorem dX2_scanList_0 : decode cX2_scanList 0 = .ok (.aload_n 0, 1) := by decide +kernel
theorem dX2_scanList_1 : decode cX2_scanList 1 = .ok (.iconst 0, 1) := by decide +kernel
theorem dX2_scanList_2 : decode cX2_scanList 2 = .ok (.putfield 27, 3) := by decide +kernel
theorem dX2_scanList_5 : decode cX2_scanList 5 = .ok (.aload_n 0, 1) := by decide +kernel
theorem dX2_scanList_6 : decode cX2_scanList 6 = .ok (.iconst 0, 1) := by decide +kernel
theorem dX2_scanList_7 : decode cX2_scanList 7 = .ok (.putfield 24, 3) := by decide +kernel
theorem dX2_scanList_10 : decode cX2_scanList 10 = .ok (.iconst 1, 1) := by decide +kernel
theorem dX2_scanList_11 : decode cX2_scanList 11 = .ok (.istore_n 2, 1) := by decide +kernel
theorem dX2_scanList_12 : decode cX2_scanList 12 = .ok (.iload_n 2, 1) := by decide +kernel
theorem dX2_scanList_13 : decode cX2_scanList 13 = .ok (.ifCond .eq 51, 3) := by decide +kernel
theorem dX2_scanList_16 : decode cX2_scanList 16 = .ok (.aload_n 0, 1) := by decide +kernel
theorem dX2_scanList_17 : decode cX2_scanList 17 = .ok (.getfield 24, 3) := by decide +kernel
theorem dX2_scanList_20 : decode cX2_scanList 20 = .ok (.bipush 20, 2) := by decide +kernel
theorem dX2_scanList_22 : decode cX2_scanList 22 = .ok (.if_icmp .ge 42, 3) := by decide +kernel
theorem dX2_scanList_25 : decode cX2_scanList 25 = .ok (.aload_n 0, 1) := by decide +kernel
theorem dX2_scanList_26 : decode cX2_scanList 26 = .ok (.aload_n 0, 1) := by decide +kernel
theorem dX2_scanList_27 : decode cX2_scanList 27 = .ok (.getfield 17, 3) := by decide +kernel
theorem dX2_scanList_30 : decode cX2_scanList 30 = .ok (.aload_n 0, 1) := by decide +kernel
theorem dX2_scanList_31 : decode cX2_scanList 31 = .ok (.getfield 24, 3) := by decide +kernel
theorem dX2_scanList_34 : decode cX2_scanList 34 = .ok (.aaload, 1) := by decide +kernel
theorem dX2_scanList_35 : decode cX2_scanList 35 = .ok (.iload_n 1, 1) := by decide +kernel
theorem dX2_scanList_36 : decode cX2_scanList 36 = .ok (.invokevirtual 34, 3) := by decide +kernel
theorem dX2_scanList_39 : decode cX2_scanList 39 = .ok (.ifCond .ne 5, 3) := by decide +kernel
theorem dX2_scanList_42 : decode cX2_scanList 42 = .ok (.iconst 0, 1) := by decide +kernel
theorem dX2_scanList_43 : decode cX2_scanList 43 = .ok (.ireturn, 1) := by decide +kernel
theorem dX2_scanList_44 : decode cX2_scanList 44 = .ok (.aload_n 0, 1) := by decide +kernel
theorem dX2_scanList_45 : decode cX2_scanList 45 = .ok (.dup, 1) := by decide +kernel
theorem dX2_scanList_46 : decode cX2_scanList 46 = .ok (.getfield 24, 3) := by decide +kernel
theorem dX2_scanList_49 : decode cX2_scanList 49 = .ok (.iconst 1, 1) := by decide +kernel
theorem dX2_scanList_50 : decode cX2_scanList 50 = .ok (.iadd, 1) := by decide +kernel
theorem dX2_scanList_51 : decode cX2_scanList 51 = .ok (.putfield 24, 3) := by decide +kernel
theorem dX2_scanList_54 : decode cX2_scanList 54 = .ok (.aload_n 0, 1) := by decide +kernel
theorem dX2_scanList_55 : decode cX2_scanList 55 = .ok (.bipush 59, 2) := by decide +kernel
theorem dX2_scanList_57 : decode cX2_scanList 57 = .ok (.invokevirtual 38, 3) := by decide +kernel
theorem dX2_scanList_60 : decode cX2_scanList 60 = .ok (.istore_n 2, 1) := by decide +kernel
theorem dX2_scanList_61 : decode cX2_scanList 61 = .ok (.goto (-49), 3) := by decide +kernel
theorem dX2_scanList_64 : decode cX2_scanList 64 = .ok (.aload_n 0, 1) := by decide +kernel
theorem dX2_scanList_65 : decode cX2_scanList 65 = .ok (.getfield 27, 3) := by decide +kernel
theorem dX2_scanList_68 : decode cX2_scanList 68 = .ok (.aload_n 0, 1) := by decide +kernel
theorem dX2_scanList_69 : decode cX2_scanList 69 = .ok (.getfield 20, 3) := by decide +kernel
theorem dX2_scanList_72 : decode cX2_scanList 72 = .ok (.if_icmp .lt 7, 3) := by decide +kernel
theorem dX2_scanList_75 : decode cX2_scanList 75 = .ok (.iconst 1, 1) := by decide +kernel
theorem dX2_scanList_76 : decode cX2_scanList 76 = .ok (.goto 4, 3) := by decide +kernel
theorem dX2_scanList_79 : decode cX2_scanList 79 = .ok (.iconst 0, 1) := by decide +kernel
theorem dX2_scanList_80 : decode cX2_scanList 80 = .ok (.ireturn, 1) := by decide +kernel
theorem dX2_scanReading_0 : decode cX2_scanReading 0 = .ok (.aload_n 1, 1) := by decide +kernel
theorem dX2_scanReading_1 : decode cX2_scanReading 1 = .ok (.iconst 3, 1) := by decide +kernel
theorem dX2_scanReading_2 : decode cX2_scanReading 2 = .ok (.iconst 0, 1) := by decide +kernel
theorem dX2_scanReading_3 : decode cX2_scanReading 3 = .ok (.iastore, 1) := by decide +kernel
theorem dX2_scanReading_4 : decode cX2_scanReading 4 = .ok (.aload_n 0, 1) := by decide +kernel
theorem dX2_scanReading_5 : decode cX2_scanReading 5 = .ok (.aload_n 1, 1) := by decide +kernel
theorem dX2_scanReading_6 : decode cX2_scanReading 6 = .ok (.iconst 0, 1) := by decide +kernel
theorem dX2_scanReading_7 : decode cX2_scanReading 7 = .ok (.iload_n 2, 1) := by decide +kernel
theorem dX2_scanReading_8 : decode cX2_scanReading 8 = .ok (.iconst 1, 1) := by decide +kernel
theorem dX2_scanReading_9 : decode cX2_scanReading 9 = .ok (.isub, 1) := by decide +kernel
theorem dX2_scanReading_10 : decode cX2_scanReading 10 = .ok (.invokevirtual 42, 3) := by decide +kernel
theorem dX2_scanReading_13 : decode cX2_scanReading 13 = .ok (.ifCond .eq 69, 3) := by decide +kernel
theorem dX2_scanReading_16 : decode cX2_scanReading 16 = .ok (.aload_n 0, 1) := by decide +kernel
theorem dX2_scanReading_17 : decode cX2_scanReading 17 = .ok (.bipush 58, 2) := by decide +kernel
theorem dX2_scanReading_19 : decode cX2_scanReading 19 = .ok (.invokevirtual 38, 3) := by decide +kernel
theorem dX2_scanReading_22 : decode cX2_scanReading 22 = .ok (.ifCond .eq 60, 3) := by decide +kernel
theorem dX2_scanReading_25 : decode cX2_scanReading 25 = .ok (.aload_n 0, 1) := by decide +kernel
theorem dX2_scanReading_26 : decode cX2_scanReading 26 = .ok (.aload_n 1, 1) := by decide +kernel
theorem dX2_scanReading_27 : decode cX2_scanReading 27 = .ok (.iconst 1, 1) := by decide +kernel
theorem dX2_scanReading_28 : decode cX2_scanReading 28 = .ok (.sipush 300, 3) := by decide +kernel
theorem dX2_scanReading_31 : decode cX2_scanReading 31 = .ok (.invokevirtual 42, 3) := by decide +kernel
theorem dX2_scanReading_34 : decode cX2_scanReading 34 = .ok (.ifCond .eq 48, 3) := by decide +kernel
theorem dX2_scanReading_37 : decode cX2_scanReading 37 = .ok (.aload_n 0, 1) := by decide +kernel
theorem dX2_scanReading_38 : decode cX2_scanReading 38 = .ok (.bipush 47, 2) := by decide +kernel
theorem dX2_scanReading_40 : decode cX2_scanReading 40 = .ok (.invokevirtual 38, 3) := by decide +kernel
theorem dX2_scanReading_43 : decode cX2_scanReading 43 = .ok (.ifCond .eq 39, 3) := by decide +kernel
theorem dX2_scanReading_46 : decode cX2_scanReading 46 = .ok (.aload_n 0, 1) := by decide +kernel
theorem dX2_scanReading_47 : decode cX2_scanReading 47 = .ok (.aload_n 1, 1) := by decide +kernel
theorem dX2_scanReading_48 : decode cX2_scanReading 48 = .ok (.iconst 2, 1) := by decide +kernel
theorem dX2_scanReading_49 : decode cX2_scanReading 49 = .ok (.sipush 300, 3) := by decide +kernel
theorem dX2_scanReading_52 : decode cX2_scanReading 52 = .ok (.invokevirtual 42, 3) := by decide +kernel
theorem dX2_scanReading_55 : decode cX2_scanReading 55 = .ok (.ifCond .eq 27, 3) := by decide +kernel
theorem dX2_scanReading_58 : decode cX2_scanReading 58 = .ok (.aload_n 0, 1) := by decide +kernel
theorem dX2_scanReading_59 : decode cX2_scanReading 59 = .ok (.bipush 64, 2) := by decide +kernel
theorem dX2_scanReading_61 : decode cX2_scanReading 61 = .ok (.invokevirtual 38, 3) := by decide +kernel
theorem dX2_scanReading_64 : decode cX2_scanReading 64 = .ok (.ifCond .eq 14, 3) := by decide +kernel
theorem dX2_scanReading_67 : decode cX2_scanReading 67 = .ok (.aload_n 0, 1) := by decide +kernel
theorem dX2_scanReading_68 : decode cX2_scanReading 68 = .ok (.aload_n 1, 1) := by decide +kernel
theorem dX2_scanReading_69 : decode cX2_scanReading 69 = .ok (.iconst 3, 1) := by decide +kernel
theorem dX2_scanReading_70 : decode cX2_scanReading 70 = .ok (.bipush 60, 2) := by decide +kernel
theorem dX2_scanReading_72 : decode cX2_scanReading 72 = .ok (.invokevirtual 42, 3) := by decide +kernel
theorem dX2_scanReading_75 : decode cX2_scanReading 75 = .ok (.ifCond .eq 7, 3) := by decide +kernel
theorem dX2_scanReading_78 : decode cX2_scanReading 78 = .ok (.iconst 1, 1) := by decide +kernel
theorem dX2_scanReading_79 : decode cX2_scanReading 79 = .ok (.goto 4, 3) := by decide +kernel
theorem dX2_scanReading_82 : decode cX2_scanReading 82 = .ok (.iconst 0, 1) := by decide +kernel
theorem dX2_scanReading_83 : decode cX2_scanReading 83 = .ok (.ireturn, 1) := by decide +kernel
theorem dX2_scanSign_0 : decode cX2_scanSign 0 = .ok (.aload_n 0, 1) := by decide +kernel
theorem dX2_scanSign_1 : decode cX2_scanSign 1 = .ok (.invokevirtual 46, 3) := by decide +kernel
theorem dX2_scanSign_4 : decode cX2_scanSign 4 = .ok (.aload_n 0, 1) := by decide +kernel
theorem dX2_scanSign_5 : decode cX2_scanSign 5 = .ok (.getfield 27, 3) := by decide +kernel
theorem dX2_scanSign_8 : decode cX2_scanSign 8 = .ok (.aload_n 0, 1) := by decide +kernel
theorem dX2_scanSign_9 : decode cX2_scanSign 9 = .ok (.getfield 20, 3) := by decide +kernel
theorem dX2_scanSign_12 : decode cX2_scanSign 12 = .ok (.if_icmp .ge 28, 3) := by decide +kernel
theorem dX2_scanSign_15 : decode cX2_scanSign 15 = .ok (.aload_n 0, 1) := by decide +kernel
theorem dX2_scanSign_16 : decode cX2_scanSign 16 = .ok (.getfield 9, 3) := by decide +kernel
theorem dX2_scanSign_19 : decode cX2_scanSign 19 = .ok (.aload_n 0, 1) := by decide +kernel
theorem dX2_scanSign_20 : decode cX2_scanSign 20 = .ok (.getfield 27, 3) := by decide +kernel
theorem dX2_scanSign_23 : decode cX2_scanSign 23 = .ok (.iaload, 1) := by decide +kernel
theorem dX2_scanSign_24 : decode cX2_scanSign 24 = .ok (.iload_n 1, 1) := by decide +kernel
theorem dX2_scanSign_25 : decode cX2_scanSign 25 = .ok (.if_icmp .ne 15, 3) := by decide +kernel
theorem dX2_scanSign_28 : decode cX2_scanSign 28 = .ok (.aload_n 0, 1) := by decide +kernel
theorem dX2_scanSign_29 : decode cX2_scanSign 29 = .ok (.dup, 1) := by decide +kernel
theorem dX2_scanSign_30 : decode cX2_scanSign 30 = .ok (.getfield 27, 3) := by decide +kernel
theorem dX2_scanSign_33 : decode cX2_scanSign 33 = .ok (.iconst 1, 1) := by decide +kernel
theorem dX2_scanSign_34 : decode cX2_scanSign 34 = .ok (.iadd, 1) := by decide +kernel
theorem dX2_scanSign_35 : decode cX2_scanSign 35 = .ok (.putfield 27, 3) := by decide +kernel
theorem dX2_scanSign_38 : decode cX2_scanSign 38 = .ok (.iconst 1, 1) := by decide +kernel
theorem dX2_scanSign_39 : decode cX2_scanSign 39 = .ok (.ireturn, 1) := by decide +kernel
theorem dX2_scanSign_40 : decode cX2_scanSign 40 = .ok (.iconst 0, 1) := by decide +kernel
theorem dX2_scanSign_41 : decode cX2_scanSign 41 = .ok (.ireturn, 1) := by decide +kernel
theorem dX2_scanNumber_0 : decode cX2_scanNumber 0 = .ok (.aload_n 0, 1) := by decide +kernel
theorem dX2_scanNumber_1 : decode cX2_scanNumber 1 = .ok (.invokevirtual 46, 3) := by decide +kernel
theorem dX2_scanNumber_4 : decode cX2_scanNumber 4 = .ok (.aload_n 0, 1) := by decide +kernel
theorem dX2_scanNumber_5 : decode cX2_scanNumber 5 = .ok (.getfield 27, 3) := by decide +kernel
theorem dX2_scanNumber_8 : decode cX2_scanNumber 8 = .ok (.istore 4, 2) := by decide +kernel
theorem dX2_scanNumber_10 : decode cX2_scanNumber 10 = .ok (.iconst 0, 1) := by decide +kernel
theorem dX2_scanNumber_11 : decode cX2_scanNumber 11 = .ok (.istore 5, 2) := by decide +kernel
theorem dX2_scanNumber_13 : decode cX2_scanNumber 13 = .ok (.aload_n 0, 1) := by decide +kernel
theorem dX2_scanNumber_14 : decode cX2_scanNumber 14 = .ok (.getfield 27, 3) := by decide +kernel
theorem dX2_scanNumber_17 : decode cX2_scanNumber 17 = .ok (.aload_n 0, 1) := by decide +kernel
theorem dX2_scanNumber_18 : decode cX2_scanNumber 18 = .ok (.getfield 20, 3) := by decide +kernel
theorem dX2_scanNumber_21 : decode cX2_scanNumber 21 = .ok (.if_icmp .ge 51, 3) := by decide +kernel
theorem dX2_scanNumber_24 : decode cX2_scanNumber 24 = .ok (.aload_n 0, 1) := by decide +kernel
theorem dX2_scanNumber_25 : decode cX2_scanNumber 25 = .ok (.getfield 9, 3) := by decide +kernel
theorem dX2_scanNumber_28 : decode cX2_scanNumber 28 = .ok (.aload_n 0, 1) := by decide +kernel
theorem dX2_scanNumber_29 : decode cX2_scanNumber 29 = .ok (.getfield 27, 3) := by decide +kernel
theorem dX2_scanNumber_32 : decode cX2_scanNumber 32 = .ok (.iaload, 1) := by decide +kernel
theorem dX2_scanNumber_33 : decode cX2_scanNumber 33 = .ok (.invokestatic 49, 3) := by decide +kernel
theorem dX2_scanNumber_36 : decode cX2_scanNumber 36 = .ok (.ifCond .eq 36, 3) := by decide +kernel
theorem dX2_scanNumber_39 : decode cX2_scanNumber 39 = .ok (.bipush 10, 2) := by decide +kernel
theorem dX2_scanNumber_41 : decode cX2_scanNumber 41 = .ok (.iload 5, 2) := by decide +kernel
theorem dX2_scanNumber_43 : decode cX2_scanNumber 43 = .ok (.imul, 1) := by decide +kernel
theorem dX2_scanNumber_44 : decode cX2_scanNumber 44 = .ok (.aload_n 0, 1) := by decide +kernel
theorem dX2_scanNumber_45 : decode cX2_scanNumber 45 = .ok (.getfield 9, 3) := by decide +kernel
theorem dX2_scanNumber_48 : decode cX2_scanNumber 48 = .ok (.aload_n 0, 1) := by decide +kernel
theorem dX2_scanNumber_49 : decode cX2_scanNumber 49 = .ok (.getfield 27, 3) := by decide +kernel
theorem dX2_scanNumber_52 : decode cX2_scanNumber 52 = .ok (.iaload, 1) := by decide +kernel
theorem dX2_scanNumber_53 : decode cX2_scanNumber 53 = .ok (.iadd, 1) := by decide +kernel
theorem dX2_scanNumber_54 : decode cX2_scanNumber 54 = .ok (.bipush 48, 2) := by decide +kernel
theorem dX2_scanNumber_56 : decode cX2_scanNumber 56 = .ok (.isub, 1) := by decide +kernel
theorem dX2_scanNumber_57 : decode cX2_scanNumber 57 = .ok (.istore 5, 2) := by decide +kernel
theorem dX2_scanNumber_59 : decode cX2_scanNumber 59 = .ok (.aload_n 0, 1) := by decide +kernel
theorem dX2_scanNumber_60 : decode cX2_scanNumber 60 = .ok (.dup, 1) := by decide +kernel
theorem dX2_scanNumber_61 : decode cX2_scanNumber 61 = .ok (.getfield 27, 3) := by decide +kernel
theorem dX2_scanNumber_64 : decode cX2_scanNumber 64 = .ok (.iconst 1, 1) := by decide +kernel
theorem dX2_scanNumber_65 : decode cX2_scanNumber 65 = .ok (.iadd, 1) := by decide +kernel
theorem dX2_scanNumber_66 : decode cX2_scanNumber 66 = .ok (.putfield 27, 3) := by decide +kernel
theorem dX2_scanNumber_69 : decode cX2_scanNumber 69 = .ok (.goto (-56), 3) := by decide +kernel
theorem dX2_scanNumber_72 : decode cX2_scanNumber 72 = .ok (.aload_n 0, 1) := by decide +kernel
theorem dX2_scanNumber_73 : decode cX2_scanNumber 73 = .ok (.getfield 27, 3) := by decide +kernel
theorem dX2_scanNumber_76 : decode cX2_scanNumber 76 = .ok (.iload 4, 2) := by decide +kernel
theorem dX2_scanNumber_78 : decode cX2_scanNumber 78 = .ok (.isub, 1) := by decide +kernel
theorem dX2_scanNumber_79 : decode cX2_scanNumber 79 = .ok (.istore 6, 2) := by decide +kernel
theorem dX2_scanNumber_81 : decode cX2_scanNumber 81 = .ok (.iload 6, 2) := by decide +kernel
theorem dX2_scanNumber_83 : decode cX2_scanNumber 83 = .ok (.iconst 1, 1) := by decide +kernel
theorem dX2_scanNumber_84 : decode cX2_scanNumber 84 = .ok (.iconst 3, 1) := by decide +kernel
theorem dX2_scanNumber_85 : decode cX2_scanNumber 85 = .ok (.invokestatic 52, 3) := by decide +kernel
theorem dX2_scanNumber_88 : decode cX2_scanNumber 88 = .ok (.ifCond .eq 9, 3) := by decide +kernel
theorem dX2_scanNumber_91 : decode cX2_scanNumber 91 = .ok (.iload 5, 2) := by decide +kernel
theorem dX2_scanNumber_93 : decode cX2_scanNumber 93 = .ok (.iload_n 3, 1) := by decide +kernel
theorem dX2_scanNumber_94 : decode cX2_scanNumber 94 = .ok (.if_icmp .le 11, 3) := by decide +kernel
theorem dX2_scanNumber_97 : decode cX2_scanNumber 97 = .ok (.aload_n 0, 1) := by decide +kernel
theorem dX2_scanNumber_98 : decode cX2_scanNumber 98 = .ok (.iload 4, 2) := by decide +kernel
theorem dX2_scanNumber_100 : decode cX2_scanNumber 100 = .ok (.putfield 27, 3) := by decide +kernel
theorem dX2_scanNumber_103 : decode cX2_scanNumber 103 = .ok (.iconst 0, 1) := by decide +kernel
theorem dX2_scanNumber_104 : decode cX2_scanNumber 104 = .ok (.ireturn, 1) := by decide +kernel
theorem dX2_scanNumber_105 : decode cX2_scanNumber 105 = .ok (.aload_n 1, 1) := by decide +kernel
theorem dX2_scanNumber_106 : decode cX2_scanNumber 106 = .ok (.iload_n 2, 1) := by decide +kernel
theorem dX2_scanNumber_107 : decode cX2_scanNumber 107 = .ok (.iload 5, 2) := by decide +kernel
theorem dX2_scanNumber_109 : decode cX2_scanNumber 109 = .ok (.iastore, 1) := by decide +kernel
theorem dX2_scanNumber_110 : decode cX2_scanNumber 110 = .ok (.iconst 1, 1) := by decide +kernel
theorem dX2_scanNumber_111 : decode cX2_scanNumber 111 = .ok (.ireturn, 1) := by decide +kernel
theorem dX2_skipBlanks_0 : decode cX2_skipBlanks 0 = .ok (.aload_n 0, 1) := by decide +kernel
theorem dX2_skipBlanks_1 : decode cX2_skipBlanks 1 = .ok (.getfield 27, 3) := by decide +kernel
theorem dX2_skipBlanks_4 : decode cX2_skipBlanks 4 = .ok (.aload_n 0, 1) := by decide +kernel
theorem dX2_skipBlanks_5 : decode cX2_skipBlanks 5 = .ok (.getfield 20, 3) := by decide +kernel
theorem dX2_skipBlanks_8 : decode cX2_skipBlanks 8 = .ok (.if_icmp .ge 30, 3) := by decide +kernel
theorem dX2_skipBlanks_11 : decode cX2_skipBlanks 11 = .ok (.aload_n 0, 1) := by decide +kernel
theorem dX2_skipBlanks_12 : decode cX2_skipBlanks 12 = .ok (.getfield 9, 3) := by decide +kernel
theorem dX2_skipBlanks_15 : decode cX2_skipBlanks 15 = .ok (.aload_n 0, 1) := by decide +kernel
theorem dX2_skipBlanks_16 : decode cX2_skipBlanks 16 = .ok (.getfield 27, 3) := by decide +kernel
theorem dX2_skipBlanks_19 : decode cX2_skipBlanks 19 = .ok (.iaload, 1) := by decide +kernel
theorem dX2_skipBlanks_20 : decode cX2_skipBlanks 20 = .ok (.bipush 32, 2) := by decide +kernel
theorem dX2_skipBlanks_22 : decode cX2_skipBlanks 22 = .ok (.if_icmp .ne 16, 3) := by decide +kernel
theorem dX2_skipBlanks_25 : decode cX2_skipBlanks 25 = .ok (.aload_n 0, 1) := by decide +kernel
theorem dX2_skipBlanks_26 : decode cX2_skipBlanks 26 = .ok (.dup, 1) := by decide +kernel
theorem dX2_skipBlanks_27 : decode cX2_skipBlanks 27 = .ok (.getfield 27, 3) := by decide +kernel
theorem dX2_skipBlanks_30 : decode cX2_skipBlanks 30 = .ok (.iconst 1, 1) := by decide +kernel
theorem dX2_skipBlanks_31 : decode cX2_skipBlanks 31 = .ok (.iadd, 1) := by decide +kernel
theorem dX2_skipBlanks_32 : decode cX2_skipBlanks 32 = .ok (.putfield 27, 3) := by decide +kernel
theorem dX2_skipBlanks_35 : decode cX2_skipBlanks 35 = .ok (.goto (-35), 3) := by decide +kernel
theorem dX2_skipBlanks_38 : decode cX2_skipBlanks 38 = .ok (.return_, 1) := by decide +kernel
theorem dX2_isDigit_0 : decode cX2_isDigit 0 = .ok (.iload_n 0, 1) := by decide +kernel
theorem dX2_isDigit_1 : decode cX2_isDigit 1 = .ok (.bipush 48, 2) := by decide +kernel
theorem dX2_isDigit_3 : decode cX2_isDigit 3 = .ok (.bipush 57, 2) := by decide +kernel
theorem dX2_isDigit_5 : decode cX2_isDigit 5 = .ok (.invokestatic 52, 3) := by decide +kernel
theorem dX2_isDigit_8 : decode cX2_isDigit 8 = .ok (.ireturn, 1) := by decide +kernel
theorem dX3_init_0 : decode cX3_init 0 = .ok (.aload_n 0, 1) := by decide +kernel
theorem dX3_init_1 : decode cX3_init 1 = .ok (.invokespecial 3, 3) := by decide +kernel
theorem dX3_init_4 : decode cX3_init 4 = .ok (.aload_n 0, 1) := by decide +kernel
theorem dX3_init_5 : decode cX3_init 5 = .ok (.bipush 16, 2) := by decide +kernel
theorem dX3_init_7 : decode cX3_init 7 = .ok (.newarray .int, 2) := by decide +kernel
theorem dX3_init_9 : decode cX3_init 9 = .ok (.putfield 9, 3) := by decide +kernel
theorem dX3_init_12 : decode cX3_init 12 = .ok (.aload_n 0, 1) := by decide +kernel
theorem dX3_init_13 : decode cX3_init 13 = .ok (.bipush 16, 2) := by decide +kernel
theorem dX3_init_15 : decode cX3_init 15 = .ok (.newarray .int, 2) := by decide +kernel
theorem dX3_init_17 : decode cX3_init 17 = .ok (.putfield 15, 3) := by decide +kernel
theorem dX3_init_20 : decode cX3_init 20 = .ok (.aload_n 0, 1) := by decide +kernel
theorem dX3_init_21 : decode cX3_init 21 = .ok (.bipush 16, 2) := by decide +kernel
theorem dX3_init_23 : decode cX3_init 23 = .ok (.newarray .long, 2) := by decide +kernel
theorem dX3_init_25 : decode cX3_init 25 = .ok (.putfield 18, 3) := by decide +kernel
theorem dX3_init_28 : decode cX3_init 28 = .ok (.aload_n 0, 1) := by decide +kernel
theorem dX3_init_29 : decode cX3_init 29 = .ok (.iconst 0, 1) := by decide +kernel
theorem dX3_init_30 : decode cX3_init 30 = .ok (.putfield 22, 3) := by decide +kernel
theorem dX3_init_33 : decode cX3_init 33 = .ok (.return_, 1) := by decide +kernel
theorem dX3_rankTraps_0 : decode cX3_rankTraps 0 = .ok (.aload_n 0, 1) := by decide +kernel
theorem dX3_rankTraps_1 : decode cX3_rankTraps 1 = .ok (.iconst 0, 1) := by decide +kernel
theorem dX3_rankTraps_2 : decode cX3_rankTraps 2 = .ok (.putfield 22, 3) := by decide +kernel
theorem dX3_rankTraps_5 : decode cX3_rankTraps 5 = .ok (.iconst 0, 1) := by decide +kernel
theorem dX3_rankTraps_6 : decode cX3_rankTraps 6 = .ok (.istore_n 2, 1) := by decide +kernel
theorem dX3_rankTraps_7 : decode cX3_rankTraps 7 = .ok (.iload_n 2, 1) := by decide +kernel
theorem dX3_rankTraps_8 : decode cX3_rankTraps 8 = .ok (.aload_n 1, 1) := by decide +kernel
theorem dX3_rankTraps_9 : decode cX3_rankTraps 9 = .ok (.getfield 26, 3) := by decide +kernel
theorem dX3_rankTraps_12 : decode cX3_rankTraps 12 = .ok (.if_icmp .ge 55, 3) := by decide +kernel
theorem dX3_rankTraps_15 : decode cX3_rankTraps 15 = .ok (.aload_n 0, 1) := by decide +kernel
theorem dX3_rankTraps_16 : decode cX3_rankTraps 16 = .ok (.getfield 15, 3) := by decide +kernel
theorem dX3_rankTraps_19 : decode cX3_rankTraps 19 = .ok (.iload_n 2, 1) := by decide +kernel
theorem dX3_rankTraps_20 : decode cX3_rankTraps 20 = .ok (.aload_n 1, 1) := by decide +kernel
theorem dX3_rankTraps_21 : decode cX3_rankTraps 21 = .ok (.aload_n 1, 1) := by decide +kernel
theorem dX3_rankTraps_22 : decode cX3_rankTraps 22 = .ok (.getfield 31, 3) := by decide +kernel
theorem dX3_rankTraps_25 : decode cX3_rankTraps 25 = .ok (.iload_n 2, 1) := by decide +kernel
theorem dX3_rankTraps_26 : decode cX3_rankTraps 26 = .ok (.aaload, 1) := by decide +kernel
theorem dX3_rankTraps_27 : decode cX3_rankTraps 27 = .ok (.invokevirtual 35, 3) := by decide +kernel
theorem dX3_rankTraps_30 : decode cX3_rankTraps 30 = .ok (.iastore, 1) := by decide +kernel
theorem dX3_rankTraps_31 : decode cX3_rankTraps 31 = .ok (.aload_n 0, 1) := by decide +kernel
theorem dX3_rankTraps_32 : decode cX3_rankTraps 32 = .ok (.getfield 18, 3) := by decide +kernel
theorem dX3_rankTraps_35 : decode cX3_rankTraps 35 = .ok (.iload_n 2, 1) := by decide +kernel
theorem dX3_rankTraps_36 : decode cX3_rankTraps 36 = .ok (.aload_n 1, 1) := by decide +kernel
theorem dX3_rankTraps_37 : decode cX3_rankTraps 37 = .ok (.aload_n 1, 1) := by decide +kernel
theorem dX3_rankTraps_38 : decode cX3_rankTraps 38 = .ok (.getfield 31, 3) := by decide +kernel
theorem dX3_rankTraps_41 : decode cX3_rankTraps 41 = .ok (.iload_n 2, 1) := by decide +kernel
theorem dX3_rankTraps_42 : decode cX3_rankTraps 42 = .ok (.aaload, 1) := by decide +kernel
theorem dX3_rankTraps_43 : decode cX3_rankTraps 43 = .ok (.invokevirtual 39, 3) := by decide +kernel
theorem dX3_rankTraps_46 : decode cX3_rankTraps 46 = .ok (.lastore, 1) := by decide +kernel
theorem dX3_rankTraps_47 : decode cX3_rankTraps 47 = .ok (.aload_n 0, 1) := by decide +kernel
theorem dX3_rankTraps_48 : decode cX3_rankTraps 48 = .ok (.getfield 15, 3) := by decide +kernel
theorem dX3_rankTraps_51 : decode cX3_rankTraps 51 = .ok (.iload_n 2, 1) := by decide +kernel
theorem dX3_rankTraps_52 : decode cX3_rankTraps 52 = .ok (.iaload, 1) := by decide +kernel
theorem dX3_rankTraps_53 : decode cX3_rankTraps 53 = .ok (.ifCond .le 8, 3) := by decide +kernel
theorem dX3_rankTraps_56 : decode cX3_rankTraps 56 = .ok (.aload_n 0, 1) := by decide +kernel
theorem dX3_rankTraps_57 : decode cX3_rankTraps 57 = .ok (.iload_n 2, 1) := by decide +kernel
theorem dX3_rankTraps_58 : decode cX3_rankTraps 58 = .ok (.invokevirtual 43, 3) := by decide +kernel
theorem dX3_rankTraps_61 : decode cX3_rankTraps 61 = .ok (.iinc 2 1, 3) := by decide +kernel
theorem dX3_rankTraps_64 : decode cX3_rankTraps 64 = .ok (.goto (-57), 3) := by decide +kernel
theorem dX3_rankTraps_67 : decode cX3_rankTraps 67 = .ok (.return_, 1) := by decide +kernel
theorem dX3_trapAtRank_0 : decode cX3_trapAtRank 0 = .ok (.iload_n 1, 1) := by decide +kernel
theorem dX3_trapAtRank_1 : decode cX3_trapAtRank 1 = .ok (.ifCond .lt 20, 3) := by decide +kernel
theorem dX3_trapAtRank_4 : decode cX3_trapAtRank 4 = .ok (.iload_n 1, 1) := by decide +kernel
theorem dX3_trapAtRank_5 : decode cX3_trapAtRank 5 = .ok (.aload_n 0, 1) := by decide +kernel
theorem dX3_trapAtRank_6 : decode cX3_trapAtRank 6 = .ok (.getfield 22, 3) := by decide +kernel
theorem dX3_trapAtRank_9 : decode cX3_trapAtRank 9 = .ok (.if_icmp .ge 12, 3) := by decide +kernel
theorem dX3_trapAtRank_12 : decode cX3_trapAtRank 12 = .ok (.aload_n 0, 1) := by decide +kernel
theorem dX3_trapAtRank_13 : decode cX3_trapAtRank 13 = .ok (.getfield 9, 3) := by decide +kernel
theorem dX3_trapAtRank_16 : decode cX3_trapAtRank 16 = .ok (.iload_n 1, 1) := by decide +kernel
theorem dX3_trapAtRank_17 : decode cX3_trapAtRank 17 = .ok (.iaload, 1) := by decide +kernel
theorem dX3_trapAtRank_18 : decode cX3_trapAtRank 18 = .ok (.goto 4, 3) := by decide +kernel
theorem dX3_trapAtRank_21 : decode cX3_trapAtRank 21 = .ok (.iconst (-1), 1) := by decide +kernel
theorem dX3_trapAtRank_22 : decode cX3_trapAtRank 22 = .ok (.ireturn, 1) := by decide +kernel
theorem dX3_insert_0 : decode cX3_insert 0 = .ok (.aload_n 0, 1) := by decide +kernel
theorem dX3_insert_1 : decode cX3_insert 1 = .ok (.getfield 22, 3) := by decide +kernel
theorem dX3_insert_4 : decode cX3_insert 4 = .ok (.istore_n 2, 1) := by decide +kernel
theorem dX3_insert_5 : decode cX3_insert 5 = .ok (.iload_n 2, 1) := by decide +kernel
theorem dX3_insert_6 : decode cX3_insert 6 = .ok (.ifCond .le 39, 3) := by decide +kernel
theorem dX3_insert_9 : decode cX3_insert 9 = .ok (.aload_n 0, 1) := by decide +kernel
theorem dX3_insert_10 : decode cX3_insert 10 = .ok (.iload_n 1, 1) := by decide +kernel
theorem dX3_insert_11 : decode cX3_insert 11 = .ok (.aload_n 0, 1) := by decide +kernel
theorem dX3_insert_12 : decode cX3_insert 12 = .ok (.getfield 9, 3) := by decide +kernel
theorem dX3_insert_15 : decode cX3_insert 15 = .ok (.iload_n 2, 1) := by decide +kernel
theorem dX3_insert_16 : decode cX3_insert 16 = .ok (.iconst 1, 1) := by decide +kernel
theorem dX3_insert_17 : decode cX3_insert 17 = .ok (.isub, 1) := by decide +kernel
theorem dX3_insert_18 : decode cX3_insert 18 = .ok (.iaload, 1) := by decide +kernel
theorem dX3_insert_19 : decode cX3_insert 19 = .ok (.invokevirtual 47, 3) := by decide +kernel
theorem dX3_insert_22 : decode cX3_insert 22 = .ok (.ifCond .eq 23, 3) := by decide +kernel
theorem dX3_insert_25 : decode cX3_insert 25 = .ok (.aload_n 0, 1) := by decide +kernel
theorem dX3_insert_26 : decode cX3_insert 26 = .ok (.getfield 9, 3) := by decide +kernel
theorem dX3_insert_29 : decode cX3_insert 29 = .ok (.iload_n 2, 1) := by decide +kernel
theorem dX3_insert_30 : decode cX3_insert 30 = .ok (.aload_n 0, 1) := by decide +kernel
theorem dX3_insert_31 : decode cX3_insert 31 = .ok (.getfield 9, 3) := by decide +kernel
theorem dX3_insert_34 : decode cX3_insert 34 = .ok (.iload_n 2, 1) := by decide +kernel
theorem dX3_insert_35 : decode cX3_insert 35 = .ok (.iconst 1, 1) := by decide +kernel
theorem dX3_insert_36 : decode cX3_insert 36 = .ok (.isub, 1) := by decide +kernel
theorem dX3_insert_37 : decode cX3_insert 37 = .ok (.iaload, 1) := by decide +kernel
theorem dX3_insert_38 : decode cX3_insert 38 = .ok (.iastore, 1) := by decide +kernel
theorem dX3_insert_39 : decode cX3_insert 39 = .ok (.iinc 2 (-1), 3) := by decide +kernel
theorem dX3_insert_42 : decode cX3_insert 42 = .ok (.goto (-37), 3) := by decide +kernel
theorem dX3_insert_45 : decode cX3_insert 45 = .ok (.aload_n 0, 1) := by decide +kernel
theorem dX3_insert_46 : decode cX3_insert 46 = .ok (.getfield 9, 3) := by decide +kernel
theorem dX3_insert_49 : decode cX3_insert 49 = .ok (.iload_n 2, 1) := by decide +kernel
theorem dX3_insert_50 : decode cX3_insert 50 = .ok (.iload_n 1, 1) := by decide +kernel
theorem dX3_insert_51 : decode cX3_insert 51 = .ok (.iastore, 1) := by decide +kernel
theorem dX3_insert_52 : decode cX3_insert 52 = .ok (.aload_n 0, 1) := by decide +kernel
theorem dX3_insert_53 : decode cX3_insert 53 = .ok (.dup, 1) := by decide +kernel
theorem dX3_insert_54 : decode cX3_insert 54 = .ok (.getfield 22, 3) := by decide +kernel
theorem dX3_insert_57 : decode cX3_insert 57 = .ok (.iconst 1, 1) := by decide +kernel
theorem dX3_insert_58 : decode cX3_insert 58 = .ok (.iadd, 1) := by decide +kernel
theorem dX3_insert_59 : decode cX3_insert 59 = .ok (.putfield 22, 3) := by decide +kernel
theorem dX3_insert_62 : decode cX3_insert 62 = .ok (.return_, 1) := by decide +kernel
theorem dX3_isBetter_0 : decode cX3_isBetter 0 = .ok (.aload_n 0, 1) := by decide +kernel
theorem dX3_isBetter_1 : decode cX3_isBetter 1 = .ok (.getfield 18, 3) := by decide +kernel
theorem dX3_isBetter_4 : decode cX3_isBetter 4 = .ok (.iload_n 1, 1) := by decide +kernel
theorem dX3_isBetter_5 : decode cX3_isBetter 5 = .ok (.laload, 1) := by decide +kernel
theorem dX3_isBetter_6 : decode cX3_isBetter 6 = .ok (.aload_n 0, 1) := by decide +kernel
theorem dX3_isBetter_7 : decode cX3_isBetter 7 = .ok (.getfield 18, 3) := by decide +kernel
theorem dX3_isBetter_10 : decode cX3_isBetter 10 = .ok (.iload_n 2, 1) := by decide +kernel
theorem dX3_isBetter_11 : decode cX3_isBetter 11 = .ok (.laload, 1) := by decide +kernel
theorem dX3_isBetter_12 : decode cX3_isBetter 12 = .ok (.lcmp, 1) := by decide +kernel
theorem dX3_isBetter_13 : decode cX3_isBetter 13 = .ok (.ifCond .eq 25, 3) := by decide +kernel
theorem dX3_isBetter_16 : decode cX3_isBetter 16 = .ok (.aload_n 0, 1) := by decide +kernel
theorem dX3_isBetter_17 : decode cX3_isBetter 17 = .ok (.getfield 18, 3) := by decide +kernel
theorem dX3_isBetter_20 : decode cX3_isBetter 20 = .ok (.iload_n 1, 1) := by decide +kernel
theorem dX3_isBetter_21 : decode cX3_isBetter 21 = .ok (.laload, 1) := by decide +kernel
theorem dX3_isBetter_22 : decode cX3_isBetter 22 = .ok (.aload_n 0, 1) := by decide +kernel
theorem dX3_isBetter_23 : decode cX3_isBetter 23 = .ok (.getfield 18, 3) := by decide +kernel
theorem dX3_isBetter_26 : decode cX3_isBetter 26 = .ok (.iload_n 2, 1) := by decide +kernel
theorem dX3_isBetter_27 : decode cX3_isBetter 27 = .ok (.laload, 1) := by decide +kernel
theorem dX3_isBetter_28 : decode cX3_isBetter 28 = .ok (.lcmp, 1) := by decide +kernel
theorem dX3_isBetter_29 : decode cX3_isBetter 29 = .ok (.ifCond .ge 7, 3) := by decide +kernel
theorem dX3_isBetter_32 : decode cX3_isBetter 32 = .ok (.iconst 1, 1) := by decide +kernel
theorem dX3_isBetter_33 : decode cX3_isBetter 33 = .ok (.goto 4, 3) := by decide +kernel
theorem dX3_isBetter_36 : decode cX3_isBetter 36 = .ok (.iconst 0, 1) := by decide +kernel
theorem dX3_isBetter_37 : decode cX3_isBetter 37 = .ok (.ireturn, 1) := by decide +kernel
theorem dX3_isBetter_38 : decode cX3_isBetter 38 = .ok (.aload_n 0, 1) := by decide +kernel
theorem dX3_isBetter_39 : decode cX3_isBetter 39 = .ok (.getfield 15, 3) := by decide +kernel
theorem dX3_isBetter_42 : decode cX3_isBetter 42 = .ok (.iload_n 1, 1) := by decide +kernel
theorem dX3_isBetter_43 : decode cX3_isBetter 43 = .ok (.iaload, 1) := by decide +kernel
theorem dX3_isBetter_44 : decode cX3_isBetter 44 = .ok (.aload_n 0, 1) := by decide +kernel
theorem dX3_isBetter_45 : decode cX3_isBetter 45 = .ok (.getfield 15, 3) := by decide +kernel
theorem dX3_isBetter_48 : decode cX3_isBetter 48 = .ok (.iload_n 2, 1) := by decide +kernel
theorem dX3_isBetter_49 : decode cX3_isBetter 49 = .ok (.iaload, 1) := by decide +kernel
theorem dX3_isBetter_50 : decode cX3_isBetter 50 = .ok (.if_icmp .le 7, 3) := by decide +kernel
theorem dX3_isBetter_53 : decode cX3_isBetter 53 = .ok (.iconst 1, 1) := by decide +kernel
theorem dX3_isBetter_54 : decode cX3_isBetter 54 = .ok (.goto 4, 3) := by decide +kernel
theorem dX3_isBetter_57 : decode cX3_isBetter 57 = .ok (.iconst 0, 1) := by decide +kernel
theorem dX3_isBetter_58 : decode cX3_isBetter 58 = .ok (.ireturn, 1) := by decide +kernel
theorem dX4_init_0 : decode cX4_init 0 = .ok (.aload_n 0, 1) := by decide +kernel
theorem dX4_init_1 : decode cX4_init 1 = .ok (.invokespecial 3, 3) := by decide +kernel
theorem dX4_init_4 : decode cX4_init 4 = .ok (.aload_n 0, 1) := by decide +kernel
theorem dX4_init_5 : decode cX4_init 5 = .ok (.bipush 16, 2) := by decide +kernel
theorem dX4_init_7 : decode cX4_init 7 = .ok (.newarray .int, 2) := by decide +kernel
theorem dX4_init_9 : decode cX4_init 9 = .ok (.putfield 9, 3) := by decide +kernel
theorem dX4_init_12 : decode cX4_init 12 = .ok (.aload_n 0, 1) := by decide +kernel
theorem dX4_init_13 : decode cX4_init 13 = .ok (.bipush 16, 2) := by decide +kernel
theorem dX4_init_15 : decode cX4_init 15 = .ok (.newarray .boolean, 2) := by decide +kernel
theorem dX4_init_17 : decode cX4_init 17 = .ok (.putfield 15, 3) := by decide +kernel
theorem dX4_init_20 : decode cX4_init 20 = .ok (.aload_n 0, 1) := by decide +kernel
theorem dX4_init_21 : decode cX4_init 21 = .ok (.iconst 0, 1) := by decide +kernel
theorem dX4_init_22 : decode cX4_init 22 = .ok (.putfield 19, 3) := by decide +kernel
theorem dX4_init_25 : decode cX4_init 25 = .ok (.aload_n 0, 1) := by decide +kernel
theorem dX4_init_26 : decode cX4_init 26 = .ok (.iconst 0, 1) := by decide +kernel
theorem dX4_init_27 : decode cX4_init 27 = .ok (.putfield 23, 3) := by decide +kernel
theorem dX4_init_30 : decode cX4_init 30 = .ok (.return_, 1) := by decide +kernel
theorem dX4_plan_0 : decode cX4_plan 0 = .ok (.aload_n 0, 1) := by decide +kernel
theorem dX4_plan_1 : decode cX4_plan 1 = .ok (.iconst 0, 1) := by decide +kernel
theorem dX4_plan_2 : decode cX4_plan 2 = .ok (.putfield 19, 3) := by decide +kernel
theorem dX4_plan_5 : decode cX4_plan 5 = .ok (.aload_n 0, 1) := by decide +kernel
theorem dX4_plan_6 : decode cX4_plan 6 = .ok (.iconst 0, 1) := by decide +kernel
theorem dX4_plan_7 : decode cX4_plan 7 = .ok (.putfield 23, 3) := by decide +kernel
theorem dX4_plan_10 : decode cX4_plan 10 = .ok (.iconst 0, 1) := by decide +kernel
theorem dX4_plan_11 : decode cX4_plan 11 = .ok (.istore_n 2, 1) := by decide +kernel
theorem dX4_plan_12 : decode cX4_plan 12 = .ok (.iload_n 2, 1) := by decide +kernel
theorem dX4_plan_13 : decode cX4_plan 13 = .ok (.aload_n 1, 1) := by decide +kernel
theorem dX4_plan_14 : decode cX4_plan 14 = .ok (.getfield 26, 3) := by decide +kernel
theorem dX4_plan_17 : decode cX4_plan 17 = .ok (.if_icmp .ge 25, 3) := by decide +kernel
theorem dX4_plan_20 : decode cX4_plan 20 = .ok (.aload_n 0, 1) := by decide +kernel
theorem dX4_plan_21 : decode cX4_plan 21 = .ok (.getfield 15, 3) := by decide +kernel
theorem dX4_plan_24 : decode cX4_plan 24 = .ok (.iload_n 2, 1) := by decide +kernel
theorem dX4_plan_25 : decode cX4_plan 25 = .ok (.aload_n 1, 1) := by decide +kernel
theorem dX4_plan_26 : decode cX4_plan 26 = .ok (.aload_n 1, 1) := by decide +kernel
theorem dX4_plan_27 : decode cX4_plan 27 = .ok (.getfield 31, 3) := by decide +kernel
theorem dX4_plan_30 : decode cX4_plan 30 = .ok (.iload_n 2, 1) := by decide +kernel
theorem dX4_plan_31 : decode cX4_plan 31 = .ok (.aaload, 1) := by decide +kernel
theorem dX4_plan_32 : decode cX4_plan 32 = .ok (.invokevirtual 35, 3) := by decide +kernel
theorem dX4_plan_35 : decode cX4_plan 35 = .ok (.bastore, 1) := by decide +kernel
theorem dX4_plan_36 : decode cX4_plan 36 = .ok (.iinc 2 1, 3) := by decide +kernel
theorem dX4_plan_39 : decode cX4_plan 39 = .ok (.goto (-27), 3) := by decide +kernel
theorem dX4_plan_42 : decode cX4_plan 42 = .ok (.iconst 0, 1) := by decide +kernel
theorem dX4_plan_43 : decode cX4_plan 43 = .ok (.istore_n 2, 1) := by decide +kernel
theorem dX4_plan_44 : decode cX4_plan 44 = .ok (.iconst 0, 1) := by decide +kernel
theorem dX4_plan_45 : decode cX4_plan 45 = .ok (.istore_n 3, 1) := by decide +kernel
theorem dX4_plan_46 : decode cX4_plan 46 = .ok (.iconst 0, 1) := by decide +kernel
theorem dX4_plan_47 : decode cX4_plan 47 = .ok (.istore 4, 2) := by decide +kernel
theorem dX4_plan_49 : decode cX4_plan 49 = .ok (.iload 4, 2) := by decide +kernel
theorem dX4_plan_51 : decode cX4_plan 51 = .ok (.aload_n 1, 1) := by decide +kernel
theorem dX4_plan_52 : decode cX4_plan 52 = .ok (.getfield 26, 3) := by decide +kernel
theorem dX4_plan_55 : decode cX4_plan 55 = .ok (.if_icmp .ge 91, 3) := by decide +kernel
theorem dX4_plan_58 : decode cX4_plan 58 = .ok (.aload_n 0, 1) := by decide +kernel
theorem dX4_plan_59 : decode cX4_plan 59 = .ok (.aload_n 1, 1) := by decide +kernel
theorem dX4_plan_60 : decode cX4_plan 60 = .ok (.iload_n 2, 1) := by decide +kernel
theorem dX4_plan_61 : decode cX4_plan 61 = .ok (.iload_n 3, 1) := by decide +kernel
theorem dX4_plan_62 : decode cX4_plan 62 = .ok (.invokevirtual 39, 3) := by decide +kernel
theorem dX4_plan_65 : decode cX4_plan 65 = .ok (.istore 5, 2) := by decide +kernel
theorem dX4_plan_67 : decode cX4_plan 67 = .ok (.iload 5, 2) := by decide +kernel
theorem dX4_plan_69 : decode cX4_plan 69 = .ok (.iconst (-1), 1) := by decide +kernel
theorem dX4_plan_70 : decode cX4_plan 70 = .ok (.if_icmp .ne 6, 3) := by decide +kernel
theorem dX4_plan_73 : decode cX4_plan 73 = .ok (.goto 73, 3) := by decide +kernel
theorem dX4_plan_76 : decode cX4_plan 76 = .ok (.aload_n 1, 1) := by decide +kernel
theorem dX4_plan_77 : decode cX4_plan 77 = .ok (.getfield 31, 3) := by decide +kernel
theorem dX4_plan_80 : decode cX4_plan 80 = .ok (.iload 5, 2) := by decide +kernel
theorem dX4_plan_82 : decode cX4_plan 82 = .ok (.aaload, 1) := by decide +kernel
theorem dX4_plan_83 : decode cX4_plan 83 = .ok (.astore 6, 2) := by decide +kernel
theorem dX4_plan_85 : decode cX4_plan 85 = .ok (.aload_n 0, 1) := by decide +kernel
theorem dX4_plan_86 : decode cX4_plan 86 = .ok (.dup, 1) := by decide +kernel
theorem dX4_plan_87 : decode cX4_plan 87 = .ok (.getfield 23, 3) := by decide +kernel
theorem dX4_plan_90 : decode cX4_plan 90 = .ok (.aload 6, 2) := by decide +kernel
theorem dX4_plan_92 : decode cX4_plan 92 = .ok (.iload_n 2, 1) := by decide +kernel
theorem dX4_plan_93 : decode cX4_plan 93 = .ok (.iload_n 3, 1) := by decide +kernel
theorem dX4_plan_94 : decode cX4_plan 94 = .ok (.invokevirtual 43, 3) := by decide +kernel
theorem dX4_plan_97 : decode cX4_plan 97 = .ok (.iadd, 1) := by decide +kernel
theorem dX4_plan_98 : decode cX4_plan 98 = .ok (.putfield 23, 3) := by decide +kernel
theorem dX4_plan_101 : decode cX4_plan 101 = .ok (.aload 6, 2) := by decide +kernel
theorem dX4_plan_103 : decode cX4_plan 103 = .ok (.getfield 49, 3) := by decide +kernel
theorem dX4_plan_106 : decode cX4_plan 106 = .ok (.istore_n 2, 1) := by decide +kernel
theorem dX4_plan_107 : decode cX4_plan 107 = .ok (.aload 6, 2) := by decide +kernel
theorem dX4_plan_109 : decode cX4_plan 109 = .ok (.getfield 52, 3) := by decide +kernel
theorem dX4_plan_112 : decode cX4_plan 112 = .ok (.istore_n 3, 1) := by decide +kernel
theorem dX4_plan_113 : decode cX4_plan 113 = .ok (.aload_n 0, 1) := by decide +kernel
theorem dX4_plan_114 : decode cX4_plan 114 = .ok (.getfield 15, 3) := by decide +kernel
theorem dX4_plan_117 : decode cX4_plan 117 = .ok (.iload 5, 2) := by decide +kernel
theorem dX4_plan_119 : decode cX4_plan 119 = .ok (.iconst 0, 1) := by decide +kernel
theorem dX4_plan_120 : decode cX4_plan 120 = .ok (.bastore, 1) := by decide +kernel
theorem dX4_plan_121 : decode cX4_plan 121 = .ok (.aload_n 0, 1) := by decide +kernel
theorem dX4_plan_122 : decode cX4_plan 122 = .ok (.getfield 9, 3) := by decide +kernel
theorem dX4_plan_125 : decode cX4_plan 125 = .ok (.iload 4, 2) := by decide +kernel
theorem dX4_plan_127 : decode cX4_plan 127 = .ok (.iload 5, 2) := by decide +kernel
theorem dX4_plan_129 : decode cX4_plan 129 = .ok (.iastore, 1) := by decide +kernel
theorem dX4_plan_130 : decode cX4_plan 130 = .ok (.aload_n 0, 1) := by decide +kernel
theorem dX4_plan_131 : decode cX4_plan 131 = .ok (.dup, 1) := by decide +kernel
theorem dX4_plan_132 : decode cX4_plan 132 = .ok (.getfield 19, 3) := by decide +kernel
theorem dX4_plan_135 : decode cX4_plan 135 = .ok (.iconst 1, 1) := by decide +kernel
theorem dX4_plan_136 : decode cX4_plan 136 = .ok (.iadd, 1) := by decide +kernel
theorem dX4_plan_137 : decode cX4_plan 137 = .ok (.putfield 19, 3) := by decide +kernel
theorem dX4_plan_140 : decode cX4_plan 140 = .ok (.iinc 4 1, 3) := by decide +kernel
theorem dX4_plan_143 : decode cX4_plan 143 = .ok (.goto (-94), 3) := by decide +kernel
theorem dX4_plan_146 : decode cX4_plan 146 = .ok (.aload_n 0, 1) := by decide +kernel
theorem dX4_plan_147 : decode cX4_plan 147 = .ok (.dup, 1) := by decide +kernel
theorem dX4_plan_148 : decode cX4_plan 148 = .ok (.getfield 23, 3) := by decide +kernel
theorem dX4_plan_151 : decode cX4_plan 151 = .ok (.iload_n 2, 1) := by decide +kernel
theorem dX4_plan_152 : decode cX4_plan 152 = .ok (.iconst 0, 1) := by decide +kernel
theorem dX4_plan_153 : decode cX4_plan 153 = .ok (.isub, 1) := by decide +kernel
theorem dX4_plan_154 : decode cX4_plan 154 = .ok (.invokestatic 55, 3) := by decide +kernel
theorem dX4_plan_157 : decode cX4_plan 157 = .ok (.iload_n 3, 1) := by decide +kernel
theorem dX4_plan_158 : decode cX4_plan 158 = .ok (.iconst 0, 1) := by decide +kernel
theorem dX4_plan_159 : decode cX4_plan 159 = .ok (.isub, 1) := by decide +kernel
theorem dX4_plan_160 : decode cX4_plan 160 = .ok (.invokestatic 55, 3) := by decide +kernel
theorem dX4_plan_163 : decode cX4_plan 163 = .ok (.iadd, 1) := by decide +kernel
theorem dX4_plan_164 : decode cX4_plan 164 = .ok (.iadd, 1) := by decide +kernel
theorem dX4_plan_165 : decode cX4_plan 165 = .ok (.putfield 23, 3) := by decide +kernel
theorem dX4_plan_168 : decode cX4_plan 168 = .ok (.return_, 1) := by decide +kernel
theorem dX4_stopAt_0 : decode cX4_stopAt 0 = .ok (.iload_n 1, 1) := by decide +kernel
theorem dX4_stopAt_1 : decode cX4_stopAt 1 = .ok (.ifCond .lt 20, 3) := by decide +kernel
theorem dX4_stopAt_4 : decode cX4_stopAt 4 = .ok (.iload_n 1, 1) := by decide +kernel
theorem dX4_stopAt_5 : decode cX4_stopAt 5 = .ok (.aload_n 0, 1) := by decide +kernel
theorem dX4_stopAt_6 : decode cX4_stopAt 6 = .ok (.getfield 19, 3) := by decide +kernel
theorem dX4_stopAt_9 : decode cX4_stopAt 9 = .ok (.if_icmp .ge 12, 3) := by decide +kernel
theorem dX4_stopAt_12 : decode cX4_stopAt 12 = .ok (.aload_n 0, 1) := by decide +kernel
theorem dX4_stopAt_13 : decode cX4_stopAt 13 = .ok (.getfield 9, 3) := by decide +kernel
theorem dX4_stopAt_16 : decode cX4_stopAt 16 = .ok (.iload_n 1, 1) := by decide +kernel
theorem dX4_stopAt_17 : decode cX4_stopAt 17 = .ok (.iaload, 1) := by decide +kernel
theorem dX4_stopAt_18 : decode cX4_stopAt 18 = .ok (.goto 4, 3) := by decide +kernel
theorem dX4_stopAt_21 : decode cX4_stopAt 21 = .ok (.iconst (-1), 1) := by decide +kernel
theorem dX4_stopAt_22 : decode cX4_stopAt 22 = .ok (.ireturn, 1) := by decide +kernel
theorem dX4_nearestWaiting_0 : decode cX4_nearestWaiting 0 = .ok (.iconst (-1), 1) := by decide +kernel
theorem dX4_nearestWaiting_1 : decode cX4_nearestWaiting 1 = .ok (.istore 4, 2) := by decide +kernel
theorem dX4_nearestWaiting_3 : decode cX4_nearestWaiting 3 = .ok (.ldc 63, 2) := by decide +kernel
theorem dX4_nearestWaiting_5 : decode cX4_nearestWaiting 5 = .ok (.istore 5, 2) := by decide +kernel
theorem dX4_nearestWaiting_7 : decode cX4_nearestWaiting 7 = .ok (.iconst 0, 1) := by decide +kernel
theorem dX4_nearestWaiting_8 : decode cX4_nearestWaiting 8 = .ok (.istore 6, 2) := by decide +kernel
theorem dX4_nearestWaiting_10 : decode cX4_nearestWaiting 10 = .ok (.iload 6, 2) := by decide +kernel
theorem dX4_nearestWaiting_12 : decode cX4_nearestWaiting 12 = .ok (.aload_n 1, 1) := by decide +kernel
theorem dX4_nearestWaiting_13 : decode cX4_nearestWaiting 13 = .ok (.getfield 26, 3) := by decide +kernel
theorem dX4_nearestWaiting_16 : decode cX4_nearestWaiting 16 = .ok (.if_icmp .ge 54, 3) := by decide +kernel
theorem dX4_nearestWaiting_19 : decode cX4_nearestWaiting 19 = .ok (.aload_n 0, 1) := by decide +kernel
theorem dX4_nearestWaiting_20 : decode cX4_nearestWaiting 20 = .ok (.getfield 15, 3) := by decide +kernel
theorem dX4_nearestWaiting_23 : decode cX4_nearestWaiting 23 = .ok (.iload 6, 2) := by decide +kernel
theorem dX4_nearestWaiting_25 : decode cX4_nearestWaiting 25 = .ok (.baload, 1) := by decide +kernel
theorem dX4_nearestWaiting_26 : decode cX4_nearestWaiting 26 = .ok (.ifCond .eq 38, 3) := by decide +kernel
theorem dX4_nearestWaiting_29 : decode cX4_nearestWaiting 29 = .ok (.aload_n 1, 1) := by decide +kernel
theorem dX4_nearestWaiting_30 : decode cX4_nearestWaiting 30 = .ok (.getfield 31, 3) := by decide +kernel
theorem dX4_nearestWaiting_33 : decode cX4_nearestWaiting 33 = .ok (.iload 6, 2) := by decide +kernel
theorem dX4_nearestWaiting_35 : decode cX4_nearestWaiting 35 = .ok (.aaload, 1) := by decide +kernel
theorem dX4_nearestWaiting_36 : decode cX4_nearestWaiting 36 = .ok (.iload_n 2, 1) := by decide +kernel
theorem dX4_nearestWaiting_37 : decode cX4_nearestWaiting 37 = .ok (.iload_n 3, 1) := by decide +kernel
theorem dX4_nearestWaiting_38 : decode cX4_nearestWaiting 38 = .ok (.invokevirtual 43, 3) := by decide +kernel
theorem dX4_nearestWaiting_41 : decode cX4_nearestWaiting 41 = .ok (.iload 5, 2) := by decide +kernel
theorem dX4_nearestWaiting_43 : decode cX4_nearestWaiting 43 = .ok (.if_icmp .ge 21, 3) := by decide +kernel
theorem dX4_nearestWaiting_46 : decode cX4_nearestWaiting 46 = .ok (.iload 6, 2) := by decide +kernel
theorem dX4_nearestWaiting_48 : decode cX4_nearestWaiting 48 = .ok (.istore 4, 2) := by decide +kernel
theorem dX4_nearestWaiting_50 : decode cX4_nearestWaiting 50 = .ok (.aload_n 1, 1) := by decide +kernel
theorem dX4_nearestWaiting_51 : decode cX4_nearestWaiting 51 = .ok (.getfield 31, 3) := by decide +kernel
theorem dX4_nearestWaiting_54 : decode cX4_nearestWaiting 54 = .ok (.iload 6, 2) := by decide +kernel
theorem dX4_nearestWaiting_56 : decode cX4_nearestWaiting 56 = .ok (.aaload, 1) := by decide +kernel
theorem dX4_nearestWaiting_57 : decode cX4_nearestWaiting 57 = .ok (.iload_n 2, 1) := by decide +kernel
theorem dX4_nearestWaiting_58 : decode cX4_nearestWaiting 58 = .ok (.iload_n 3, 1) := by decide +kernel
theorem dX4_nearestWaiting_59 : decode cX4_nearestWaiting 59 = .ok (.invokevirtual 43, 3) := by decide +kernel
theorem dX4_nearestWaiting_62 : decode cX4_nearestWaiting 62 = .ok (.istore 5, 2) := by decide +kernel
theorem dX4_nearestWaiting_64 : decode cX4_nearestWaiting 64 = .ok (.iinc 6 1, 3) := by decide +kernel
theorem dX4_nearestWaiting_67 : decode cX4_nearestWaiting 67 = .ok (.goto (-57), 3) := by decide +kernel
theorem dX4_nearestWaiting_70 : decode cX4_nearestWaiting 70 = .ok (.iload 4, 2) := by decide +kernel
theorem dX4_nearestWaiting_72 : decode cX4_nearestWaiting 72 = .ok (.ireturn, 1) := by decide +kernel
theorem dX5_init_0 : decode cX5_init 0 = .ok (.aload_n 0, 1) := by decide +kernel
theorem dX5_init_1 : decode cX5_init 1 = .ok (.invokespecial 3, 3) := by decide +kernel
theorem dX5_init_4 : decode cX5_init 4 = .ok (.aload_n 0, 1) := by decide +kernel
theorem dX5_init_5 : decode cX5_init 5 = .ok (.iconst 0, 1) := by decide +kernel
theorem dX5_init_6 : decode cX5_init 6 = .ok (.putfield 9, 3) := by decide +kernel
theorem dX5_init_9 : decode cX5_init 9 = .ok (.aload_n 0, 1) := by decide +kernel
theorem dX5_init_10 : decode cX5_init 10 = .ok (.iconst (-1), 1) := by decide +kernel
theorem dX5_init_11 : decode cX5_init 11 = .ok (.putfield 15, 3) := by decide +kernel
theorem dX5_init_14 : decode cX5_init 14 = .ok (.aload_n 0, 1) := by decide +kernel
theorem dX5_init_15 : decode cX5_init 15 = .ok (.lconst 0, 1) := by decide +kernel
theorem dX5_init_16 : decode cX5_init 16 = .ok (.putfield 18, 3) := by decide +kernel
theorem dX5_init_19 : decode cX5_init 19 = .ok (.return_, 1) := by decide +kernel
theorem dX5_install_0 : decode cX5_install 0 = .ok (.aload_n 0, 1) := by decide +kernel
theorem dX5_install_1 : decode cX5_install 1 = .ok (.iload_n 1, 1) := by decide +kernel
theorem dX5_install_2 : decode cX5_install 2 = .ok (.putfield 22, 3) := by decide +kernel
theorem dX5_install_5 : decode cX5_install 5 = .ok (.aload_n 0, 1) := by decide +kernel
theorem dX5_install_6 : decode cX5_install 6 = .ok (.iload_n 2, 1) := by decide +kernel
theorem dX5_install_7 : decode cX5_install 7 = .ok (.putfield 25, 3) := by decide +kernel
theorem dX5_install_10 : decode cX5_install 10 = .ok (.aload_n 0, 1) := by decide +kernel
theorem dX5_install_11 : decode cX5_install 11 = .ok (.iload_n 3, 1) := by decide +kernel
theorem dX5_install_12 : decode cX5_install 12 = .ok (.putfield 28, 3) := by decide +kernel
theorem dX5_install_15 : decode cX5_install 15 = .ok (.aload_n 0, 1) := by decide +kernel
theorem dX5_install_16 : decode cX5_install 16 = .ok (.iload 4, 2) := by decide +kernel
theorem dX5_install_18 : decode cX5_install 18 = .ok (.putfield 31, 3) := by decide +kernel
theorem dX5_install_21 : decode cX5_install 21 = .ok (.aload_n 0, 1) := by decide +kernel
theorem dX5_install_22 : decode cX5_install 22 = .ok (.iload 5, 2) := by decide +kernel
theorem dX5_install_24 : decode cX5_install 24 = .ok (.putfield 34, 3) := by decide +kernel
theorem dX5_install_27 : decode cX5_install 27 = .ok (.return_, 1) := by decide +kernel
theorem dX5_copyFrom_0 : decode cX5_copyFrom 0 = .ok (.aload_n 0, 1) := by decide +kernel
theorem dX5_copyFrom_1 : decode cX5_copyFrom 1 = .ok (.aload_n 1, 1) := by decide +kernel
theorem dX5_copyFrom_2 : decode cX5_copyFrom 2 = .ok (.getfield 22, 3) := by decide +kernel
theorem dX5_copyFrom_5 : decode cX5_copyFrom 5 = .ok (.putfield 22, 3) := by decide +kernel
theorem dX5_copyFrom_8 : decode cX5_copyFrom 8 = .ok (.aload_n 0, 1) := by decide +kernel
theorem dX5_copyFrom_9 : decode cX5_copyFrom 9 = .ok (.aload_n 1, 1) := by decide +kernel
theorem dX5_copyFrom_10 : decode cX5_copyFrom 10 = .ok (.getfield 25, 3) := by decide +kernel
theorem dX5_copyFrom_13 : decode cX5_copyFrom 13 = .ok (.putfield 25, 3) := by decide +kernel
theorem dX5_copyFrom_16 : decode cX5_copyFrom 16 = .ok (.aload_n 0, 1) := by decide +kernel
theorem dX5_copyFrom_17 : decode cX5_copyFrom 17 = .ok (.aload_n 1, 1) := by decide +kernel
theorem dX5_copyFrom_18 : decode cX5_copyFrom 18 = .ok (.getfield 28, 3) := by decide +kernel
theorem dX5_copyFrom_21 : decode cX5_copyFrom 21 = .ok (.putfield 28, 3) := by decide +kernel
theorem dX5_copyFrom_24 : decode cX5_copyFrom 24 = .ok (.aload_n 0, 1) := by decide +kernel
theorem dX5_copyFrom_25 : decode cX5_copyFrom 25 = .ok (.aload_n 1, 1) := by decide +kernel
theorem dX5_copyFrom_26 : decode cX5_copyFrom 26 = .ok (.getfield 31, 3) := by decide +kernel
theorem dX5_copyFrom_29 : decode cX5_copyFrom 29 = .ok (.putfield 31, 3) := by decide +kernel
theorem dX5_copyFrom_32 : decode cX5_copyFrom 32 = .ok (.aload_n 0, 1) := by decide +kernel
theorem dX5_copyFrom_33 : decode cX5_copyFrom 33 = .ok (.aload_n 1, 1) := by decide +kernel
theorem dX5_copyFrom_34 : decode cX5_copyFrom 34 = .ok (.getfield 34, 3) := by decide +kernel
theorem dX5_copyFrom_37 : decode cX5_copyFrom 37 = .ok (.putfield 34, 3) := by decide +kernel
theorem dX5_copyFrom_40 : decode cX5_copyFrom 40 = .ok (.aload_n 0, 1) := by decide +kernel
theorem dX5_copyFrom_41 : decode cX5_copyFrom 41 = .ok (.aload_n 1, 1) := by decide +kernel
theorem dX5_copyFrom_42 : decode cX5_copyFrom 42 = .ok (.getfield 9, 3) := by decide +kernel
theorem dX5_copyFrom_45 : decode cX5_copyFrom 45 = .ok (.putfield 9, 3) := by decide +kernel
theorem dX5_copyFrom_48 : decode cX5_copyFrom 48 = .ok (.aload_n 0, 1) := by decide +kernel
theorem dX5_copyFrom_49 : decode cX5_copyFrom 49 = .ok (.aload_n 1, 1) := by decide +kernel
theorem dX5_copyFrom_50 : decode cX5_copyFrom 50 = .ok (.getfield 15, 3) := by decide +kernel
theorem dX5_copyFrom_53 : decode cX5_copyFrom 53 = .ok (.putfield 15, 3) := by decide +kernel
theorem dX5_copyFrom_56 : decode cX5_copyFrom 56 = .ok (.aload_n 0, 1) := by decide +kernel
theorem dX5_copyFrom_57 : decode cX5_copyFrom 57 = .ok (.aload_n 1, 1) := by decide +kernel
theorem dX5_copyFrom_58 : decode cX5_copyFrom 58 = .ok (.getfield 18, 3) := by decide +kernel
theorem dX5_copyFrom_61 : decode cX5_copyFrom 61 = .ok (.putfield 18, 3) := by decide +kernel
theorem dX5_copyFrom_64 : decode cX5_copyFrom 64 = .ok (.return_, 1) := by decide +kernel
theorem dX5_judged_0 : decode cX5_judged 0 = .ok (.bipush 100, 2) := by decide +kernel
theorem dX5_judged_2 : decode cX5_judged 2 = .ok (.bipush 6, 2) := by decide +kernel
theorem dX5_judged_4 : decode cX5_judged 4 = .ok (.iload 4, 2) := by decide +kernel
theorem dX5_judged_6 : decode cX5_judged 6 = .ok (.imul, 1) := by decide +kernel
theorem dX5_judged_7 : decode cX5_judged 7 = .ok (.iadd, 1) := by decide +kernel
theorem dX5_judged_8 : decode cX5_judged 8 = .ok (.istore 5, 2) := by decide +kernel
theorem dX5_judged_10 : decode cX5_judged 10 = .ok (.iload_n 1, 1) := by decide +kernel
theorem dX5_judged_11 : decode cX5_judged 11 = .ok (.iload 5, 2) := by decide +kernel
theorem dX5_judged_13 : decode cX5_judged 13 = .ok (.iconst 2, 1) := by decide +kernel
theorem dX5_judged_14 : decode cX5_judged 14 = .ok (.idiv, 1) := by decide +kernel
theorem dX5_judged_15 : decode cX5_judged 15 = .ok (.if_icmp .ge 5, 3) := by decide +kernel
theorem dX5_judged_18 : decode cX5_judged 18 = .ok (.iconst 5, 1) := by decide +kernel
theorem dX5_judged_19 : decode cX5_judged 19 = .ok (.ireturn, 1) := by decide +kernel
theorem dX5_judged_20 : decode cX5_judged 20 = .ok (.iload_n 3, 1) := by decide +kernel
theorem dX5_judged_21 : decode cX5_judged 21 = .ok (.ifCond .ne 13, 3) := by decide +kernel
theorem dX5_judged_24 : decode cX5_judged 24 = .ok (.iload_n 2, 1) := by decide +kernel
theorem dX5_judged_25 : decode cX5_judged 25 = .ok (.iload_n 1, 1) := by decide +kernel
theorem dX5_judged_26 : decode cX5_judged 26 = .ok (.bipush 40, 2) := by decide +kernel
theorem dX5_judged_28 : decode cX5_judged 28 = .ok (.isub, 1) := by decide +kernel
theorem dX5_judged_29 : decode cX5_judged 29 = .ok (.if_icmp .gt 5, 3) := by decide +kernel
theorem dX5_judged_32 : decode cX5_judged 32 = .ok (.iconst 4, 1) := by decide +kernel
theorem dX5_judged_33 : decode cX5_judged 33 = .ok (.ireturn, 1) := by decide +kernel
theorem dX5_judged_34 : decode cX5_judged 34 = .ok (.aload_n 0, 1) := by decide +kernel
theorem dX5_judged_35 : decode cX5_judged 35 = .ok (.getfield 25, 3) := by decide +kernel
theorem dX5_judged_38 : decode cX5_judged 38 = .ok (.lookupswitch 37 #[(0, 26), (1, 31)], 26) := by decide +kernel
theorem dX5_judged_64 : decode cX5_judged 64 = .ok (.iload_n 3, 1) := by decide +kernel
theorem dX5_judged_65 : decode cX5_judged 65 = .ok (.invokestatic 37, 3) := by decide +kernel
theorem dX5_judged_68 : decode cX5_judged 68 = .ok (.ireturn, 1) := by decide +kernel
theorem dX5_judged_69 : decode cX5_judged 69 = .ok (.iload_n 1, 1) := by decide +kernel
theorem dX5_judged_70 : decode cX5_judged 70 = .ok (.iload_n 2, 1) := by decide +kernel
theorem dX5_judged_71 : decode cX5_judged 71 = .ok (.invokestatic 41, 3) := by decide +kernel
theorem dX5_judged_74 : decode cX5_judged 74 = .ok (.ireturn, 1) := by decide +kernel
theorem dX5_judged_75 : decode cX5_judged 75 = .ok (.iload_n 1, 1) := by decide +kernel
theorem dX5_judged_76 : decode cX5_judged 76 = .ok (.iload_n 2, 1) := by decide +kernel
theorem dX5_judged_77 : decode cX5_judged 77 = .ok (.iload_n 3, 1) := by decide +kernel
theorem dX5_judged_78 : decode cX5_judged 78 = .ok (.invokestatic 45, 3) := by decide +kernel
theorem dX5_judged_81 : decode cX5_judged 81 = .ok (.ireturn, 1) := by decide +kernel
theorem dX5_judgedAsBucket_0 : decode cX5_judgedAsBucket 0 = .ok (.iload_n 0, 1) := by decide +kernel
theorem dX5_judgedAsBucket_1 : decode cX5_judgedAsBucket 1 = .ok (.bipush 30, 2) := by decide +kernel
theorem dX5_judgedAsBucket_3 : decode cX5_judgedAsBucket 3 = .ok (.if_icmp .lt 5, 3) := by decide +kernel
theorem dX5_judgedAsBucket_6 : decode cX5_judgedAsBucket 6 = .ok (.iconst 3, 1) := by decide +kernel
theorem dX5_judgedAsBucket_7 : decode cX5_judgedAsBucket 7 = .ok (.ireturn, 1) := by decide +kernel
theorem dX5_judgedAsBucket_8 : decode cX5_judgedAsBucket 8 = .ok (.iload_n 0, 1) := by decide +kernel
theorem dX5_judgedAsBucket_9 : decode cX5_judgedAsBucket 9 = .ok (.bipush 15, 2) := by decide +kernel
theorem dX5_judgedAsBucket_11 : decode cX5_judgedAsBucket 11 = .ok (.if_icmp .lt 7, 3) := by decide +kernel
theorem dX5_judgedAsBucket_14 : decode cX5_judgedAsBucket 14 = .ok (.iconst 2, 1) := by decide +kernel
theorem dX5_judgedAsBucket_15 : decode cX5_judgedAsBucket 15 = .ok (.goto 4, 3) := by decide +kernel
theorem dX5_judgedAsBucket_18 : decode cX5_judgedAsBucket 18 = .ok (.iconst 1, 1) := by decide +kernel
theorem dX5_judgedAsBucket_19 : decode cX5_judgedAsBucket 19 = .ok (.ireturn, 1) := by decide +kernel
theorem dX5_judgedAsThermostatic_0 : decode cX5_judgedAsThermostatic 0 = .ok (.iload_n 1, 1) := by decide +kernel
theorem dX5_judgedAsThermostatic_1 : decode cX5_judgedAsThermostatic 1 = .ok (.iload_n 0, 1) := by decide +kernel
theorem dX5_judgedAsThermostatic_2 : decode cX5_judgedAsThermostatic 2 = .ok (.iconst 5, 1) := by decide +kernel
theorem dX5_judgedAsThermostatic_3 : decode cX5_judgedAsThermostatic 3 = .ok (.isub, 1) := by decide +kernel
theorem dX5_judgedAsThermostatic_4 : decode cX5_judgedAsThermostatic 4 = .ok (.if_icmp .lt 5, 3) := by decide +kernel
theorem dX5_judgedAsThermostatic_7 : decode cX5_judgedAsThermostatic 7 = .ok (.iconst 3, 1) := by decide +kernel
theorem dX5_judgedAsThermostatic_8 : decode cX5_judgedAsThermostatic 8 = .ok (.ireturn, 1) := by decide +kernel
theorem dX5_judgedAsThermostatic_9 : decode cX5_judgedAsThermostatic 9 = .ok (.iload_n 1, 1) := by decide +kernel
theorem dX5_judgedAsThermostatic_10 : decode cX5_judgedAsThermostatic 10 = .ok (.iload_n 0, 1) := by decide +kernel
theorem dX5_judgedAsThermostatic_11 : decode cX5_judgedAsThermostatic 11 = .ok (.bipush 15, 2) := by decide +kernel
theorem dX5_judgedAsThermostatic_13 : decode cX5_judgedAsThermostatic 13 = .ok (.isub, 1) := by decide +kernel
theorem dX5_judgedAsThermostatic_14 : decode cX5_judgedAsThermostatic 14 = .ok (.if_icmp .lt 7, 3) := by decide +kernel
theorem dX5_judgedAsThermostatic_17 : decode cX5_judgedAsThermostatic 17 = .ok (.iconst 2, 1) := by decide +kernel
theorem dX5_judgedAsThermostatic_18 : decode cX5_judgedAsThermostatic 18 = .ok (.goto 4, 3) := by decide +kernel
theorem dX5_judgedAsThermostatic_21 : decode cX5_judgedAsThermostatic 21 = .ok (.iconst 1, 1) := by decide +kernel
theorem dX5_judgedAsThermostatic_22 : decode cX5_judgedAsThermostatic 22 = .ok (.ireturn, 1) := by decide +kernel
theorem dX5_judgedAsDisc_0 : decode cX5_judgedAsDisc 0 = .ok (.iload_n 2, 1) := by decide +kernel
theorem dX5_judgedAsDisc_1 : decode cX5_judgedAsDisc 1 = .ok (.bipush 40, 2) := by decide +kernel
theorem dX5_judgedAsDisc_3 : decode cX5_judgedAsDisc 3 = .ok (.if_icmp .ge 10, 3) := by decide +kernel
theorem dX5_judgedAsDisc_6 : decode cX5_judgedAsDisc 6 = .ok (.iload_n 1, 1) := by decide +kernel
theorem dX5_judgedAsDisc_7 : decode cX5_judgedAsDisc 7 = .ok (.iload_n 0, 1) := by decide +kernel
theorem dX5_judgedAsDisc_8 : decode cX5_judgedAsDisc 8 = .ok (.iconst 2, 1) := by decide +kernel
theorem dX5_judgedAsDisc_9 : decode cX5_judgedAsDisc 9 = .ok (.isub, 1) := by decide +kernel
theorem dX5_judgedAsDisc_10 : decode cX5_judgedAsDisc 10 = .ok (.if_icmp .lt 5, 3) := by decide +kernel
theorem dX5_judgedAsDisc_13 : decode cX5_judgedAsDisc 13 = .ok (.iconst 3, 1) := by decide +kernel
theorem dX5_judgedAsDisc_14 : decode cX5_judgedAsDisc 14 = .ok (.ireturn, 1) := by decide +kernel
theorem dX5_judgedAsDisc_15 : decode cX5_judgedAsDisc 15 = .ok (.iload_n 2, 1) := by decide +kernel
theorem dX5_judgedAsDisc_16 : decode cX5_judgedAsDisc 16 = .ok (.bipush 20, 2) := by decide +kernel
theorem dX5_judgedAsDisc_18 : decode cX5_judgedAsDisc 18 = .ok (.if_icmp .lt 7, 3) := by decide +kernel
theorem dX5_judgedAsDisc_21 : decode cX5_judgedAsDisc 21 = .ok (.iconst 2, 1) := by decide +kernel
theorem dX5_judgedAsDisc_22 : decode cX5_judgedAsDisc 22 = .ok (.goto 4, 3) := by decide +kernel
theorem dX5_judgedAsDisc_25 : decode cX5_judgedAsDisc 25 = .ok (.iconst 1, 1) := by decide +kernel
theorem dX5_judgedAsDisc_26 : decode cX5_judgedAsDisc 26 = .ok (.ireturn, 1) := by decide +kernel
theorem dX5_lossUnder_0 : decode cX5_lossUnder 0 = .ok (.aload_n 0, 1) := by decide +kernel
theorem dX5_lossUnder_1 : decode cX5_lossUnder 1 = .ok (.getfield 28, 3) := by decide +kernel
theorem dX5_lossUnder_4 : decode cX5_lossUnder 4 = .ok (.aload_n 0, 1) := by decide +kernel
theorem dX5_lossUnder_5 : decode cX5_lossUnder 5 = .ok (.getfield 28, 3) := by decide +kernel
theorem dX5_lossUnder_8 : decode cX5_lossUnder 8 = .ok (.imul, 1) := by decide +kernel
theorem dX5_lossUnder_9 : decode cX5_lossUnder 9 = .ok (.iload_n 1, 1) := by decide +kernel
theorem dX5_lossUnder_10 : decode cX5_lossUnder 10 = .ok (.iconst 1, 1) := by decide +kernel
theorem dX5_lossUnder_11 : decode cX5_lossUnder 11 = .ok (.iadd, 1) := by decide +kernel
theorem dX5_lossUnder_12 : decode cX5_lossUnder 12 = .ok (.imul, 1) := by decide +kernel
theorem dX5_lossUnder_13 : decode cX5_lossUnder 13 = .ok (.bipush 10, 2) := by decide +kernel
theorem dX5_lossUnder_15 : decode cX5_lossUnder 15 = .ok (.imul, 1) := by decide +kernel
theorem dX5_lossUnder_16 : decode cX5_lossUnder 16 = .ok (.istore_n 2, 1) := by decide +kernel
theorem dX5_lossUnder_17 : decode cX5_lossUnder 17 = .ok (.aload_n 0, 1) := by decide +kernel
theorem dX5_lossUnder_18 : decode cX5_lossUnder 18 = .ok (.getfield 9, 3) := by decide +kernel
theorem dX5_lossUnder_21 : decode cX5_lossUnder 21 = .ok (.lookupswitch 33 #[(2, 27), (3, 31)], 27) := by decide +kernel
theorem dX5_lossUnder_48 : decode cX5_lossUnder 48 = .ok (.iload_n 2, 1) := by decide +kernel
theorem dX5_lossUnder_49 : decode cX5_lossUnder 49 = .ok (.iconst 4, 1) := by decide +kernel
theorem dX5_lossUnder_50 : decode cX5_lossUnder 50 = .ok (.idiv, 1) := by decide +kernel
theorem dX5_lossUnder_51 : decode cX5_lossUnder 51 = .ok (.ireturn, 1) := by decide +kernel
theorem dX5_lossUnder_52 : decode cX5_lossUnder 52 = .ok (.iload_n 2, 1) := by decide +kernel
theorem dX5_lossUnder_53 : decode cX5_lossUnder 53 = .ok (.ireturn, 1) := by decide +kernel
theorem dX5_lossUnder_54 : decode cX5_lossUnder 54 = .ok (.iconst 0, 1) := by decide +kernel
theorem dX5_lossUnder_55 : decode cX5_lossUnder 55 = .ok (.ireturn, 1) := by decide +kernel
theorem dX5_costOfRepair_0 : decode cX5_costOfRepair 0 = .ok (.aload_n 0, 1) := by decide +kernel
theorem dX5_costOfRepair_1 : decode cX5_costOfRepair 1 = .ok (.getfield 25, 3) := by decide +kernel
theorem dX5_costOfRepair_4 : decode cX5_costOfRepair 4 = .ok (.iconst 2, 1) := by decide +kernel
theorem dX5_costOfRepair_5 : decode cX5_costOfRepair 5 = .ok (.if_icmp .ne 16, 3) := by decide +kernel
theorem dX5_costOfRepair_8 : decode cX5_costOfRepair 8 = .ok (.bipush 30, 2) := by decide +kernel
theorem dX5_costOfRepair_10 : decode cX5_costOfRepair 10 = .ok (.bipush 10, 2) := by decide +kernel
theorem dX5_costOfRepair_12 : decode cX5_costOfRepair 12 = .ok (.aload_n 0, 1) := by decide +kernel
theorem dX5_costOfRepair_13 : decode cX5_costOfRepair 13 = .ok (.getfield 28, 3) := by decide +kernel
theorem dX5_costOfRepair_16 : decode cX5_costOfRepair 16 = .ok (.imul, 1) := by decide +kernel
theorem dX5_costOfRepair_17 : decode cX5_costOfRepair 17 = .ok (.iadd, 1) := by decide +kernel
theorem dX5_costOfRepair_18 : decode cX5_costOfRepair 18 = .ok (.goto 13, 3) := by decide +kernel
theorem dX5_costOfRepair_21 : decode cX5_costOfRepair 21 = .ok (.bipush 50, 2) := by decide +kernel
theorem dX5_costOfRepair_23 : decode cX5_costOfRepair 23 = .ok (.bipush 20, 2) := by decide +kernel
theorem dX5_costOfRepair_25 : decode cX5_costOfRepair 25 = .ok (.aload_n 0, 1) := by decide +kernel
theorem dX5_costOfRepair_26 : decode cX5_costOfRepair 26 = .ok (.getfield 28, 3) := by decide +kernel
theorem dX5_costOfRepair_29 : decode cX5_costOfRepair 29 = .ok (.imul, 1) := by decide +kernel
theorem dX5_costOfRepair_30 : decode cX5_costOfRepair 30 = .ok (.iadd, 1) := by decide +kernel
theorem dX5_costOfRepair_31 : decode cX5_costOfRepair 31 = .ok (.ireturn, 1) := by decide +kernel
theorem dX5_wayFrom_0 : decode cX5_wayFrom 0 = .ok (.aload_n 0, 1) := by decide +kernel
theorem dX5_wayFrom_1 : decode cX5_wayFrom 1 = .ok (.getfield 31, 3) := by decide +kernel
theorem dX5_wayFrom_4 : decode cX5_wayFrom 4 = .ok (.iload_n 1, 1) := by decide +kernel
theorem dX5_wayFrom_5 : decode cX5_wayFrom 5 = .ok (.isub, 1) := by decide +kernel
theorem dX5_wayFrom_6 : decode cX5_wayFrom 6 = .ok (.invokestatic 49, 3) := by decide +kernel
theorem dX5_wayFrom_9 : decode cX5_wayFrom 9 = .ok (.aload_n 0, 1) := by decide +kernel
theorem dX5_wayFrom_10 : decode cX5_wayFrom 10 = .ok (.getfield 34, 3) := by decide +kernel
theorem dX5_wayFrom_13 : decode cX5_wayFrom 13 = .ok (.iload_n 2, 1) := by decide +kernel
theorem dX5_wayFrom_14 : decode cX5_wayFrom 14 = .ok (.isub, 1) := by decide +kernel
theorem dX5_wayFrom_15 : decode cX5_wayFrom 15 = .ok (.invokestatic 49, 3) := by decide +kernel
theorem dX5_wayFrom_18 : decode cX5_wayFrom 18 = .ok (.iadd, 1) := by decide +kernel
theorem dX5_wayFrom_19 : decode cX5_wayFrom 19 = .ok (.ireturn, 1) := by decide +kernel
theorem dJ9_abs_0f7a4_0 : decode cJ9_abs_0f7a4 0 = .ok (.iload_n 0, 1) := by decide +kernel
theorem dJ9_abs_0f7a4_1 : decode cJ9_abs_0f7a4 1 = .ok (.ifCond .ge 8, 3) := by decide +kernel
theorem dJ9_abs_0f7a4_4 : decode cJ9_abs_0f7a4 4 = .ok (.iload_n 0, 1) := by decide +kernel
theorem dJ9_abs_0f7a4_5 : decode cJ9_abs_0f7a4 5 = .ok (.ineg, 1) := by decide +kernel
theorem dJ9_abs_0f7a4_6 : decode cJ9_abs_0f7a4 6 = .ok (.goto 4, 3) := by decide +kernel
theorem dJ9_abs_0f7a4_9 : decode cJ9_abs_0f7a4 9 = .ok (.iload_n 0, 1) := by decide +kernel
theorem dJ9_abs_0f7a4_10 : decode cJ9_abs_0f7a4 10 = .ok (.ireturn, 1) := by decide +kernel
theorem dJ7_fill_53178_0 : decode cJ7_fill_53178 0 = .ok (.iconst 0, 1) := by decide +kernel
theorem dJ7_fill_53178_1 : decode cJ7_fill_53178 1 = .ok (.istore_n 2, 1) := by decide +kernel
theorem dJ7_fill_53178_2 : decode cJ7_fill_53178 2 = .ok (.aload_n 0, 1) := by decide +kernel
theorem dJ7_fill_53178_3 : decode cJ7_fill_53178 3 = .ok (.arraylength, 1) := by decide +kernel
theorem dJ7_fill_53178_4 : decode cJ7_fill_53178 4 = .ok (.istore_n 3, 1) := by decide +kernel
theorem dJ7_fill_53178_5 : decode cJ7_fill_53178 5 = .ok (.iload_n 2, 1) := by decide +kernel
theorem dJ7_fill_53178_6 : decode cJ7_fill_53178 6 = .ok (.iload_n 3, 1) := by decide +kernel
theorem dJ7_fill_53178_7 : decode cJ7_fill_53178 7 = .ok (.if_icmp .ge 13, 3) := by decide +kernel
theorem dJ7_fill_53178_10 : decode cJ7_fill_53178 10 = .ok (.aload_n 0, 1) := by decide +kernel
theorem dJ7_fill_53178_11 : decode cJ7_fill_53178 11 = .ok (.iload_n 2, 1) := by decide +kernel
theorem dJ7_fill_53178_12 : decode cJ7_fill_53178 12 = .ok (.iload_n 1, 1) := by decide +kernel
theorem dJ7_fill_53178_13 : decode cJ7_fill_53178 13 = .ok (.iastore, 1) := by decide +kernel
theorem dJ7_fill_53178_14 : decode cJ7_fill_53178 14 = .ok (.iinc 2 1, 3) := by decide +kernel
theorem dJ7_fill_53178_17 : decode cJ7_fill_53178 17 = .ok (.goto (-12), 3) := by decide +kernel
theorem dJ7_fill_53178_20 : decode cJ7_fill_53178 20 = .ok (.return_, 1) := by decide +kernel
end
section
theorem dL_law_0 : decode cL_law 0 = .ok (.new 7, 3) := by decide +kernel
theorem dL_law_3 : decode cL_law 3 = .ok (.dup, 1) := by decide +kernel
theorem dL_law_4 : decode cL_law 4 = .ok (.invokespecial 9, 3) := by decide +kernel
theorem dL_law_7 : decode cL_law 7 = .ok (.astore_n 1, 1) := by decide +kernel
theorem dL_law_8 : decode cL_law 8 = .ok (.new 10, 3) := by decide +kernel
theorem dL_law_11 : decode cL_law 11 = .ok (.dup, 1) := by decide +kernel
theorem dL_law_12 : decode cL_law 12 = .ok (.invokespecial 12, 3) := by decide +kernel
theorem dL_law_15 : decode cL_law 15 = .ok (.astore_n 2, 1) := by decide +kernel
theorem dL_law_16 : decode cL_law 16 = .ok (.iconst 0, 1) := by decide +kernel
theorem dL_law_17 : decode cL_law 17 = .ok (.istore_n 3, 1) := by decide +kernel
theorem dL_law_18 : decode cL_law 18 = .ok (.iload_n 3, 1) := by decide +kernel
theorem dL_law_19 : decode cL_law 19 = .ok (.aload_n 0, 1) := by decide +kernel
theorem dL_law_20 : decode cL_law 20 = .ok (.arraylength, 1) := by decide +kernel
theorem dL_law_21 : decode cL_law 21 = .ok (.bipush 6, 2) := by decide +kernel
theorem dL_law_23 : decode cL_law 23 = .ok (.isub, 1) := by decide +kernel
theorem dL_law_24 : decode cL_law 24 = .ok (.if_icmp .gt 1015, 3) := by decide +kernel
theorem dL_law_27 : decode cL_law 27 = .ok (.aload_n 0, 1) := by decide +kernel
theorem dL_law_28 : decode cL_law 28 = .ok (.iload_n 3, 1) := by decide +kernel
theorem dL_law_29 : decode cL_law 29 = .ok (.iaload, 1) := by decide +kernel
theorem dL_law_30 : decode cL_law 30 = .ok (.bipush 63, 2) := by decide +kernel
theorem dL_law_32 : decode cL_law 32 = .ok (.iand, 1) := by decide +kernel
theorem dL_law_33 : decode cL_law 33 = .ok (.tableswitch 1000 0 32 #[147, 180, 203, 266, 299, 342, 365, 398, 421, 444, 497, 550, 573, 596, 619, 642, 665, 689, 713, 736, 760, 783, 806, 829, 852, 875, 888, 911, 924, 947, 960, 973, 986], 147) := by decide +kernel
theorem dL_law_180 : decode cL_law 180 = .ok (.aload_n 1, 1) := by decide +kernel
theorem dL_law_181 : decode cL_law 181 = .ok (.aload_n 0, 1) := by decide +kernel
theorem dL_law_182 : decode cL_law 182 = .ok (.iload_n 3, 1) := by decide +kernel
theorem dL_law_183 : decode cL_law 183 = .ok (.iconst 1, 1) := by decide +kernel
theorem dL_law_184 : decode cL_law 184 = .ok (.iadd, 1) := by decide +kernel
theorem dL_law_185 : decode cL_law 185 = .ok (.iaload, 1) := by decide +kernel
theorem dL_law_186 : decode cL_law 186 = .ok (.aload_n 0, 1) := by decide +kernel
theorem dL_law_187 : decode cL_law 187 = .ok (.iload_n 3, 1) := by decide +kernel
theorem dL_law_188 : decode cL_law 188 = .ok (.iconst 2, 1) := by decide +kernel
theorem dL_law_189 : decode cL_law 189 = .ok (.iadd, 1) := by decide +kernel
theorem dL_law_190 : decode cL_law 190 = .ok (.iaload, 1) := by decide +kernel
theorem dL_law_191 : decode cL_law 191 = .ok (.invokevirtual 13, 3) := by decide +kernel
theorem dL_law_194 : decode cL_law 194 = .ok (.aload_n 2, 1) := by decide +kernel
theorem dL_law_195 : decode cL_law 195 = .ok (.aload_n 0, 1) := by decide +kernel
theorem dL_law_196 : decode cL_law 196 = .ok (.iload_n 3, 1) := by decide +kernel
theorem dL_law_197 : decode cL_law 197 = .ok (.iconst 1, 1) := by decide +kernel
theorem dL_law_198 : decode cL_law 198 = .ok (.iadd, 1) := by decide +kernel
theorem dL_law_199 : decode cL_law 199 = .ok (.iaload, 1) := by decide +kernel
theorem dL_law_200 : decode cL_law 200 = .ok (.aload_n 0, 1) := by decide +kernel
theorem dL_law_201 : decode cL_law 201 = .ok (.iload_n 3, 1) := by decide +kernel
theorem dL_law_202 : decode cL_law 202 = .ok (.iconst 2, 1) := by decide +kernel
theorem dL_law_203 : decode cL_law 203 = .ok (.iadd, 1) := by decide +kernel
theorem dL_law_204 : decode cL_law 204 = .ok (.iaload, 1) := by decide +kernel
theorem dL_law_205 : decode cL_law 205 = .ok (.invokevirtual 17, 3) := by decide +kernel
theorem dL_law_208 : decode cL_law 208 = .ok (.if_icmp .eq 825, 3) := by decide +kernel
theorem dL_law_211 : decode cL_law 211 = .ok (.iconst 0, 1) := by decide +kernel
theorem dL_law_212 : decode cL_law 212 = .ok (.ireturn, 1) := by decide +kernel
theorem dL_law_213 : decode cL_law 213 = .ok (.aload_n 1, 1) := by decide +kernel
theorem dL_law_214 : decode cL_law 214 = .ok (.aload_n 0, 1) := by decide +kernel
theorem dL_law_215 : decode cL_law 215 = .ok (.iload_n 3, 1) := by decide +kernel
theorem dL_law_216 : decode cL_law 216 = .ok (.iconst 1, 1) := by decide +kernel
theorem dL_law_217 : decode cL_law 217 = .ok (.iadd, 1) := by decide +kernel
theorem dL_law_218 : decode cL_law 218 = .ok (.iaload, 1) := by decide +kernel
theorem dL_law_219 : decode cL_law 219 = .ok (.invokevirtual 18, 3) := by decide +kernel
theorem dL_law_222 : decode cL_law 222 = .ok (.aload_n 2, 1) := by decide +kernel
theorem dL_law_223 : decode cL_law 223 = .ok (.aload_n 0, 1) := by decide +kernel
theorem dL_law_224 : decode cL_law 224 = .ok (.iload_n 3, 1) := by decide +kernel
theorem dL_law_225 : decode cL_law 225 = .ok (.iconst 1, 1) := by decide +kernel
theorem dL_law_226 : decode cL_law 226 = .ok (.iadd, 1) := by decide +kernel
theorem dL_law_227 : decode cL_law 227 = .ok (.iaload, 1) := by decide +kernel
theorem dL_law_228 : decode cL_law 228 = .ok (.invokevirtual 22, 3) := by decide +kernel
theorem dL_law_231 : decode cL_law 231 = .ok (.if_icmp .eq 802, 3) := by decide +kernel
theorem dL_law_234 : decode cL_law 234 = .ok (.iconst 0, 1) := by decide +kernel
theorem dL_law_235 : decode cL_law 235 = .ok (.ireturn, 1) := by decide +kernel
theorem dL_law_236 : decode cL_law 236 = .ok (.aload_n 1, 1) := by decide +kernel
theorem dL_law_237 : decode cL_law 237 = .ok (.aload_n 0, 1) := by decide +kernel
theorem dL_law_238 : decode cL_law 238 = .ok (.iload_n 3, 1) := by decide +kernel
theorem dL_law_239 : decode cL_law 239 = .ok (.iconst 1, 1) := by decide +kernel
theorem dL_law_240 : decode cL_law 240 = .ok (.iadd, 1) := by decide +kernel
theorem dL_law_241 : decode cL_law 241 = .ok (.iaload, 1) := by decide +kernel
theorem dL_law_242 : decode cL_law 242 = .ok (.aload_n 0, 1) := by decide +kernel
theorem dL_law_243 : decode cL_law 243 = .ok (.iload_n 3, 1) := by decide +kernel
theorem dL_law_244 : decode cL_law 244 = .ok (.iconst 2, 1) := by decide +kernel
theorem dL_law_245 : decode cL_law 245 = .ok (.iadd, 1) := by decide +kernel
theorem dL_law_246 : decode cL_law 246 = .ok (.iaload, 1) := by decide +kernel
theorem dL_law_247 : decode cL_law 247 = .ok (.aload_n 0, 1) := by decide +kernel
theorem dL_law_248 : decode cL_law 248 = .ok (.iload_n 3, 1) := by decide +kernel
theorem dL_law_249 : decode cL_law 249 = .ok (.iconst 3, 1) := by decide +kernel
theorem dL_law_250 : decode cL_law 250 = .ok (.iadd, 1) := by decide +kernel
theorem dL_law_251 : decode cL_law 251 = .ok (.iaload, 1) := by decide +kernel
theorem dL_law_252 : decode cL_law 252 = .ok (.aload_n 0, 1) := by decide +kernel
theorem dL_law_253 : decode cL_law 253 = .ok (.iload_n 3, 1) := by decide +kernel
theorem dL_law_254 : decode cL_law 254 = .ok (.iconst 4, 1) := by decide +kernel
theorem dL_law_255 : decode cL_law 255 = .ok (.iadd, 1) := by decide +kernel
theorem dL_law_256 : decode cL_law 256 = .ok (.iaload, 1) := by decide +kernel
theorem dL_law_257 : decode cL_law 257 = .ok (.aload_n 0, 1) := by decide +kernel
theorem dL_law_258 : decode cL_law 258 = .ok (.iload_n 3, 1) := by decide +kernel
theorem dL_law_259 : decode cL_law 259 = .ok (.iconst 5, 1) := by decide +kernel
theorem dL_law_260 : decode cL_law 260 = .ok (.iadd, 1) := by decide +kernel
theorem dL_law_261 : decode cL_law 261 = .ok (.iaload, 1) := by decide +kernel
theorem dL_law_262 : decode cL_law 262 = .ok (.invokevirtual 23, 3) := by decide +kernel
theorem dL_law_265 : decode cL_law 265 = .ok (.aload_n 2, 1) := by decide +kernel
theorem dL_law_266 : decode cL_law 266 = .ok (.aload_n 0, 1) := by decide +kernel
theorem dL_law_267 : decode cL_law 267 = .ok (.iload_n 3, 1) := by decide +kernel
theorem dL_law_268 : decode cL_law 268 = .ok (.iconst 1, 1) := by decide +kernel
theorem dL_law_269 : decode cL_law 269 = .ok (.iadd, 1) := by decide +kernel
theorem dL_law_270 : decode cL_law 270 = .ok (.iaload, 1) := by decide +kernel
theorem dL_law_271 : decode cL_law 271 = .ok (.aload_n 0, 1) := by decide +kernel
theorem dL_law_272 : decode cL_law 272 = .ok (.iload_n 3, 1) := by decide +kernel
theorem dL_law_273 : decode cL_law 273 = .ok (.iconst 2, 1) := by decide +kernel
theorem dL_law_274 : decode cL_law 274 = .ok (.iadd, 1) := by decide +kernel
theorem dL_law_275 : decode cL_law 275 = .ok (.iaload, 1) := by decide +kernel
theorem dL_law_276 : decode cL_law 276 = .ok (.aload_n 0, 1) := by decide +kernel
theorem dL_law_277 : decode cL_law 277 = .ok (.iload_n 3, 1) := by decide +kernel
theorem dL_law_278 : decode cL_law 278 = .ok (.iconst 3, 1) := by decide +kernel
theorem dL_law_279 : decode cL_law 279 = .ok (.iadd, 1) := by decide +kernel
theorem dL_law_280 : decode cL_law 280 = .ok (.iaload, 1) := by decide +kernel
theorem dL_law_281 : decode cL_law 281 = .ok (.aload_n 0, 1) := by decide +kernel
theorem dL_law_282 : decode cL_law 282 = .ok (.iload_n 3, 1) := by decide +kernel
theorem dL_law_283 : decode cL_law 283 = .ok (.iconst 4, 1) := by decide +kernel
theorem dL_law_284 : decode cL_law 284 = .ok (.iadd, 1) := by decide +kernel
theorem dL_law_285 : decode cL_law 285 = .ok (.iaload, 1) := by decide +kernel
theorem dL_law_286 : decode cL_law 286 = .ok (.aload_n 0, 1) := by decide +kernel
theorem dL_law_287 : decode cL_law 287 = .ok (.iload_n 3, 1) := by decide +kernel
theorem dL_law_288 : decode cL_law 288 = .ok (.iconst 5, 1) := by decide +kernel
theorem dL_law_289 : decode cL_law 289 = .ok (.iadd, 1) := by decide +kernel
theorem dL_law_290 : decode cL_law 290 = .ok (.iaload, 1) := by decide +kernel
theorem dL_law_291 : decode cL_law 291 = .ok (.invokevirtual 27, 3) := by decide +kernel
theorem dL_law_294 : decode cL_law 294 = .ok (.if_icmp .eq 739, 3) := by decide +kernel
theorem dL_law_297 : decode cL_law 297 = .ok (.iconst 0, 1) := by decide +kernel
theorem dL_law_298 : decode cL_law 298 = .ok (.ireturn, 1) := by decide +kernel
theorem dL_law_299 : decode cL_law 299 = .ok (.aload_n 1, 1) := by decide +kernel
theorem dL_law_300 : decode cL_law 300 = .ok (.aload_n 0, 1) := by decide +kernel
theorem dL_law_301 : decode cL_law 301 = .ok (.iload_n 3, 1) := by decide +kernel
theorem dL_law_302 : decode cL_law 302 = .ok (.iconst 1, 1) := by decide +kernel
theorem dL_law_303 : decode cL_law 303 = .ok (.iadd, 1) := by decide +kernel
theorem dL_law_304 : decode cL_law 304 = .ok (.iaload, 1) := by decide +kernel
theorem dL_law_305 : decode cL_law 305 = .ok (.aload_n 0, 1) := by decide +kernel
theorem dL_law_306 : decode cL_law 306 = .ok (.iload_n 3, 1) := by decide +kernel
theorem dL_law_307 : decode cL_law 307 = .ok (.iconst 2, 1) := by decide +kernel
theorem dL_law_308 : decode cL_law 308 = .ok (.iadd, 1) := by decide +kernel
theorem dL_law_309 : decode cL_law 309 = .ok (.iaload, 1) := by decide +kernel
theorem dL_law_310 : decode cL_law 310 = .ok (.invokevirtual 28, 3) := by decide +kernel
theorem dL_law_313 : decode cL_law 313 = .ok (.aload_n 2, 1) := by decide +kernel
theorem dL_law_314 : decode cL_law 314 = .ok (.aload_n 0, 1) := by decide +kernel
theorem dL_law_315 : decode cL_law 315 = .ok (.iload_n 3, 1) := by decide +kernel
theorem dL_law_316 : decode cL_law 316 = .ok (.iconst 1, 1) := by decide +kernel
theorem dL_law_317 : decode cL_law 317 = .ok (.iadd, 1) := by decide +kernel
theorem dL_law_318 : decode cL_law 318 = .ok (.iaload, 1) := by decide +kernel
theorem dL_law_319 : decode cL_law 319 = .ok (.aload_n 0, 1) := by decide +kernel
theorem dL_law_320 : decode cL_law 320 = .ok (.iload_n 3, 1) := by decide +kernel
theorem dL_law_321 : decode cL_law 321 = .ok (.iconst 2, 1) := by decide +kernel
theorem dL_law_322 : decode cL_law 322 = .ok (.iadd, 1) := by decide +kernel
theorem dL_law_323 : decode cL_law 323 = .ok (.iaload, 1) := by decide +kernel
theorem dL_law_324 : decode cL_law 324 = .ok (.invokevirtual 31, 3) := by decide +kernel
theorem dL_law_327 : decode cL_law 327 = .ok (.if_icmp .eq 706, 3) := by decide +kernel
theorem dL_law_330 : decode cL_law 330 = .ok (.iconst 0, 1) := by decide +kernel
theorem dL_law_331 : decode cL_law 331 = .ok (.ireturn, 1) := by decide +kernel
theorem dL_law_332 : decode cL_law 332 = .ok (.aload_n 1, 1) := by decide +kernel
theorem dL_law_333 : decode cL_law 333 = .ok (.aload_n 0, 1) := by decide +kernel
theorem dL_law_334 : decode cL_law 334 = .ok (.iload_n 3, 1) := by decide +kernel
theorem dL_law_335 : decode cL_law 335 = .ok (.iconst 1, 1) := by decide +kernel
theorem dL_law_336 : decode cL_law 336 = .ok (.iadd, 1) := by decide +kernel
theorem dL_law_337 : decode cL_law 337 = .ok (.iaload, 1) := by decide +kernel
theorem dL_law_338 : decode cL_law 338 = .ok (.aload_n 0, 1) := by decide +kernel
theorem dL_law_339 : decode cL_law 339 = .ok (.iload_n 3, 1) := by decide +kernel
theorem dL_law_340 : decode cL_law 340 = .ok (.iconst 2, 1) := by decide +kernel
theorem dL_law_341 : decode cL_law 341 = .ok (.iadd, 1) := by decide +kernel
theorem dL_law_342 : decode cL_law 342 = .ok (.iaload, 1) := by decide +kernel
theorem dL_law_343 : decode cL_law 343 = .ok (.aload_n 0, 1) := by decide +kernel
theorem dL_law_344 : decode cL_law 344 = .ok (.iload_n 3, 1) := by decide +kernel
theorem dL_law_345 : decode cL_law 345 = .ok (.iconst 3, 1) := by decide +kernel
theorem dL_law_346 : decode cL_law 346 = .ok (.iadd, 1) := by decide +kernel
theorem dL_law_347 : decode cL_law 347 = .ok (.iaload, 1) := by decide +kernel
theorem dL_law_348 : decode cL_law 348 = .ok (.invokevirtual 32, 3) := by decide +kernel
theorem dL_law_351 : decode cL_law 351 = .ok (.aload_n 2, 1) := by decide +kernel
theorem dL_law_352 : decode cL_law 352 = .ok (.aload_n 0, 1) := by decide +kernel
theorem dL_law_353 : decode cL_law 353 = .ok (.iload_n 3, 1) := by decide +kernel
theorem dL_law_354 : decode cL_law 354 = .ok (.iconst 1, 1) := by decide +kernel
theorem dL_law_355 : decode cL_law 355 = .ok (.iadd, 1) := by decide +kernel
theorem dL_law_356 : decode cL_law 356 = .ok (.iaload, 1) := by decide +kernel
theorem dL_law_357 : decode cL_law 357 = .ok (.aload_n 0, 1) := by decide +kernel
theorem dL_law_358 : decode cL_law 358 = .ok (.iload_n 3, 1) := by decide +kernel
theorem dL_law_359 : decode cL_law 359 = .ok (.iconst 2, 1) := by decide +kernel
theorem dL_law_360 : decode cL_law 360 = .ok (.iadd, 1) := by decide +kernel
theorem dL_law_361 : decode cL_law 361 = .ok (.iaload, 1) := by decide +kernel
theorem dL_law_362 : decode cL_law 362 = .ok (.aload_n 0, 1) := by decide +kernel
theorem dL_law_363 : decode cL_law 363 = .ok (.iload_n 3, 1) := by decide +kernel
theorem dL_law_364 : decode cL_law 364 = .ok (.iconst 3, 1) := by decide +kernel
theorem dL_law_365 : decode cL_law 365 = .ok (.iadd, 1) := by decide +kernel
theorem dL_law_366 : decode cL_law 366 = .ok (.iaload, 1) := by decide +kernel
theorem dL_law_367 : decode cL_law 367 = .ok (.invokevirtual 36, 3) := by decide +kernel
theorem dL_law_370 : decode cL_law 370 = .ok (.if_icmp .eq 663, 3) := by decide +kernel
theorem dL_law_373 : decode cL_law 373 = .ok (.iconst 0, 1) := by decide +kernel
theorem dL_law_374 : decode cL_law 374 = .ok (.ireturn, 1) := by decide +kernel
theorem dL_law_375 : decode cL_law 375 = .ok (.aload_n 1, 1) := by decide +kernel
theorem dL_law_376 : decode cL_law 376 = .ok (.aload_n 0, 1) := by decide +kernel
theorem dL_law_377 : decode cL_law 377 = .ok (.iload_n 3, 1) := by decide +kernel
theorem dL_law_378 : decode cL_law 378 = .ok (.iconst 1, 1) := by decide +kernel
theorem dL_law_379 : decode cL_law 379 = .ok (.iadd, 1) := by decide +kernel
theorem dL_law_380 : decode cL_law 380 = .ok (.iaload, 1) := by decide +kernel
theorem dL_law_381 : decode cL_law 381 = .ok (.invokevirtual 37, 3) := by decide +kernel
theorem dL_law_384 : decode cL_law 384 = .ok (.aload_n 2, 1) := by decide +kernel
theorem dL_law_385 : decode cL_law 385 = .ok (.aload_n 0, 1) := by decide +kernel
theorem dL_law_386 : decode cL_law 386 = .ok (.iload_n 3, 1) := by decide +kernel
theorem dL_law_387 : decode cL_law 387 = .ok (.iconst 1, 1) := by decide +kernel
theorem dL_law_388 : decode cL_law 388 = .ok (.iadd, 1) := by decide +kernel
theorem dL_law_389 : decode cL_law 389 = .ok (.iaload, 1) := by decide +kernel
theorem dL_law_390 : decode cL_law 390 = .ok (.invokevirtual 40, 3) := by decide +kernel
theorem dL_law_393 : decode cL_law 393 = .ok (.if_icmp .eq 640, 3) := by decide +kernel
theorem dL_law_396 : decode cL_law 396 = .ok (.iconst 0, 1) := by decide +kernel
theorem dL_law_397 : decode cL_law 397 = .ok (.ireturn, 1) := by decide +kernel
theorem dL_law_398 : decode cL_law 398 = .ok (.aload_n 1, 1) := by decide +kernel
theorem dL_law_399 : decode cL_law 399 = .ok (.aload_n 0, 1) := by decide +kernel
theorem dL_law_400 : decode cL_law 400 = .ok (.iload_n 3, 1) := by decide +kernel
theorem dL_law_401 : decode cL_law 401 = .ok (.iconst 1, 1) := by decide +kernel
theorem dL_law_402 : decode cL_law 402 = .ok (.iadd, 1) := by decide +kernel
theorem dL_law_403 : decode cL_law 403 = .ok (.iaload, 1) := by decide +kernel
theorem dL_law_404 : decode cL_law 404 = .ok (.aload_n 0, 1) := by decide +kernel
theorem dL_law_405 : decode cL_law 405 = .ok (.iload_n 3, 1) := by decide +kernel
theorem dL_law_406 : decode cL_law 406 = .ok (.iconst 2, 1) := by decide +kernel
theorem dL_law_407 : decode cL_law 407 = .ok (.iadd, 1) := by decide +kernel
theorem dL_law_408 : decode cL_law 408 = .ok (.iaload, 1) := by decide +kernel
theorem dL_law_409 : decode cL_law 409 = .ok (.invokevirtual 41, 3) := by decide +kernel
theorem dL_law_412 : decode cL_law 412 = .ok (.aload_n 2, 1) := by decide +kernel
theorem dL_law_413 : decode cL_law 413 = .ok (.aload_n 0, 1) := by decide +kernel
theorem dL_law_414 : decode cL_law 414 = .ok (.iload_n 3, 1) := by decide +kernel
theorem dL_law_415 : decode cL_law 415 = .ok (.iconst 1, 1) := by decide +kernel
theorem dL_law_416 : decode cL_law 416 = .ok (.iadd, 1) := by decide +kernel
theorem dL_law_417 : decode cL_law 417 = .ok (.iaload, 1) := by decide +kernel
theorem dL_law_418 : decode cL_law 418 = .ok (.aload_n 0, 1) := by decide +kernel
theorem dL_law_419 : decode cL_law 419 = .ok (.iload_n 3, 1) := by decide +kernel
theorem dL_law_420 : decode cL_law 420 = .ok (.iconst 2, 1) := by decide +kernel
theorem dL_law_421 : decode cL_law 421 = .ok (.iadd, 1) := by decide +kernel
theorem dL_law_422 : decode cL_law 422 = .ok (.iaload, 1) := by decide +kernel
theorem dL_law_423 : decode cL_law 423 = .ok (.invokevirtual 44, 3) := by decide +kernel
theorem dL_law_426 : decode cL_law 426 = .ok (.if_icmp .eq 607, 3) := by decide +kernel
theorem dL_law_429 : decode cL_law 429 = .ok (.iconst 0, 1) := by decide +kernel
theorem dL_law_430 : decode cL_law 430 = .ok (.ireturn, 1) := by decide +kernel
theorem dL_law_431 : decode cL_law 431 = .ok (.aload_n 1, 1) := by decide +kernel
theorem dL_law_432 : decode cL_law 432 = .ok (.aload_n 0, 1) := by decide +kernel
theorem dL_law_433 : decode cL_law 433 = .ok (.iload_n 3, 1) := by decide +kernel
theorem dL_law_434 : decode cL_law 434 = .ok (.iconst 1, 1) := by decide +kernel
theorem dL_law_435 : decode cL_law 435 = .ok (.iadd, 1) := by decide +kernel
theorem dL_law_436 : decode cL_law 436 = .ok (.iaload, 1) := by decide +kernel
theorem dL_law_437 : decode cL_law 437 = .ok (.invokevirtual 45, 3) := by decide +kernel
theorem dL_law_440 : decode cL_law 440 = .ok (.aload_n 2, 1) := by decide +kernel
theorem dL_law_441 : decode cL_law 441 = .ok (.aload_n 0, 1) := by decide +kernel
theorem dL_law_442 : decode cL_law 442 = .ok (.iload_n 3, 1) := by decide +kernel
theorem dL_law_443 : decode cL_law 443 = .ok (.iconst 1, 1) := by decide +kernel
theorem dL_law_444 : decode cL_law 444 = .ok (.iadd, 1) := by decide +kernel
theorem dL_law_445 : decode cL_law 445 = .ok (.iaload, 1) := by decide +kernel
theorem dL_law_446 : decode cL_law 446 = .ok (.invokevirtual 48, 3) := by decide +kernel
theorem dL_law_449 : decode cL_law 449 = .ok (.if_icmp .eq 584, 3) := by decide +kernel
theorem dL_law_452 : decode cL_law 452 = .ok (.iconst 0, 1) := by decide +kernel
theorem dL_law_453 : decode cL_law 453 = .ok (.ireturn, 1) := by decide +kernel
theorem dL_law_454 : decode cL_law 454 = .ok (.aload_n 1, 1) := by decide +kernel
theorem dL_law_455 : decode cL_law 455 = .ok (.aload_n 0, 1) := by decide +kernel
theorem dL_law_456 : decode cL_law 456 = .ok (.iload_n 3, 1) := by decide +kernel
theorem dL_law_457 : decode cL_law 457 = .ok (.iconst 1, 1) := by decide +kernel
theorem dL_law_458 : decode cL_law 458 = .ok (.iadd, 1) := by decide +kernel
theorem dL_law_459 : decode cL_law 459 = .ok (.iaload, 1) := by decide +kernel
theorem dL_law_460 : decode cL_law 460 = .ok (.invokevirtual 49, 3) := by decide +kernel
theorem dL_law_463 : decode cL_law 463 = .ok (.aload_n 2, 1) := by decide +kernel
theorem dL_law_464 : decode cL_law 464 = .ok (.aload_n 0, 1) := by decide +kernel
theorem dL_law_465 : decode cL_law 465 = .ok (.iload_n 3, 1) := by decide +kernel
theorem dL_law_466 : decode cL_law 466 = .ok (.iconst 1, 1) := by decide +kernel
theorem dL_law_467 : decode cL_law 467 = .ok (.iadd, 1) := by decide +kernel
theorem dL_law_468 : decode cL_law 468 = .ok (.iaload, 1) := by decide +kernel
theorem dL_law_469 : decode cL_law 469 = .ok (.invokevirtual 52, 3) := by decide +kernel
theorem dL_law_472 : decode cL_law 472 = .ok (.if_icmp .eq 561, 3) := by decide +kernel
theorem dL_law_475 : decode cL_law 475 = .ok (.iconst 0, 1) := by decide +kernel
theorem dL_law_476 : decode cL_law 476 = .ok (.ireturn, 1) := by decide +kernel
theorem dL_law_477 : decode cL_law 477 = .ok (.aload_n 1, 1) := by decide +kernel
theorem dL_law_478 : decode cL_law 478 = .ok (.aload_n 0, 1) := by decide +kernel
theorem dL_law_479 : decode cL_law 479 = .ok (.iload_n 3, 1) := by decide +kernel
theorem dL_law_480 : decode cL_law 480 = .ok (.iconst 1, 1) := by decide +kernel
theorem dL_law_481 : decode cL_law 481 = .ok (.iadd, 1) := by decide +kernel
theorem dL_law_482 : decode cL_law 482 = .ok (.iaload, 1) := by decide +kernel
theorem dL_law_483 : decode cL_law 483 = .ok (.aload_n 0, 1) := by decide +kernel
theorem dL_law_484 : decode cL_law 484 = .ok (.iload_n 3, 1) := by decide +kernel
theorem dL_law_485 : decode cL_law 485 = .ok (.iconst 2, 1) := by decide +kernel
theorem dL_law_486 : decode cL_law 486 = .ok (.iadd, 1) := by decide +kernel
theorem dL_law_487 : decode cL_law 487 = .ok (.iaload, 1) := by decide +kernel
theorem dL_law_488 : decode cL_law 488 = .ok (.aload_n 0, 1) := by decide +kernel
theorem dL_law_489 : decode cL_law 489 = .ok (.iload_n 3, 1) := by decide +kernel
theorem dL_law_490 : decode cL_law 490 = .ok (.iconst 3, 1) := by decide +kernel
theorem dL_law_491 : decode cL_law 491 = .ok (.iadd, 1) := by decide +kernel
theorem dL_law_492 : decode cL_law 492 = .ok (.iaload, 1) := by decide +kernel
theorem dL_law_493 : decode cL_law 493 = .ok (.aload_n 0, 1) := by decide +kernel
theorem dL_law_494 : decode cL_law 494 = .ok (.iload_n 3, 1) := by decide +kernel
theorem dL_law_495 : decode cL_law 495 = .ok (.iconst 4, 1) := by decide +kernel
theorem dL_law_496 : decode cL_law 496 = .ok (.iadd, 1) := by decide +kernel
theorem dL_law_497 : decode cL_law 497 = .ok (.iaload, 1) := by decide +kernel
theorem dL_law_498 : decode cL_law 498 = .ok (.invokevirtual 53, 3) := by decide +kernel
theorem dL_law_501 : decode cL_law 501 = .ok (.aload_n 2, 1) := by decide +kernel
theorem dL_law_502 : decode cL_law 502 = .ok (.aload_n 0, 1) := by decide +kernel
theorem dL_law_503 : decode cL_law 503 = .ok (.iload_n 3, 1) := by decide +kernel
theorem dL_law_504 : decode cL_law 504 = .ok (.iconst 1, 1) := by decide +kernel
theorem dL_law_505 : decode cL_law 505 = .ok (.iadd, 1) := by decide +kernel
theorem dL_law_506 : decode cL_law 506 = .ok (.iaload, 1) := by decide +kernel
theorem dL_law_507 : decode cL_law 507 = .ok (.aload_n 0, 1) := by decide +kernel
theorem dL_law_508 : decode cL_law 508 = .ok (.iload_n 3, 1) := by decide +kernel
theorem dL_law_509 : decode cL_law 509 = .ok (.iconst 2, 1) := by decide +kernel
theorem dL_law_510 : decode cL_law 510 = .ok (.iadd, 1) := by decide +kernel
theorem dL_law_511 : decode cL_law 511 = .ok (.iaload, 1) := by decide +kernel
theorem dL_law_512 : decode cL_law 512 = .ok (.aload_n 0, 1) := by decide +kernel
theorem dL_law_513 : decode cL_law 513 = .ok (.iload_n 3, 1) := by decide +kernel
theorem dL_law_514 : decode cL_law 514 = .ok (.iconst 3, 1) := by decide +kernel
theorem dL_law_515 : decode cL_law 515 = .ok (.iadd, 1) := by decide +kernel
theorem dL_law_516 : decode cL_law 516 = .ok (.iaload, 1) := by decide +kernel
theorem dL_law_517 : decode cL_law 517 = .ok (.aload_n 0, 1) := by decide +kernel
theorem dL_law_518 : decode cL_law 518 = .ok (.iload_n 3, 1) := by decide +kernel
theorem dL_law_519 : decode cL_law 519 = .ok (.iconst 4, 1) := by decide +kernel
theorem dL_law_520 : decode cL_law 520 = .ok (.iadd, 1) := by decide +kernel
theorem dL_law_521 : decode cL_law 521 = .ok (.iaload, 1) := by decide +kernel
theorem dL_law_522 : decode cL_law 522 = .ok (.invokevirtual 57, 3) := by decide +kernel
theorem dL_law_525 : decode cL_law 525 = .ok (.if_icmp .eq 508, 3) := by decide +kernel
theorem dL_law_528 : decode cL_law 528 = .ok (.iconst 0, 1) := by decide +kernel
theorem dL_law_529 : decode cL_law 529 = .ok (.ireturn, 1) := by decide +kernel
theorem dL_law_530 : decode cL_law 530 = .ok (.aload_n 1, 1) := by decide +kernel
theorem dL_law_531 : decode cL_law 531 = .ok (.aload_n 0, 1) := by decide +kernel
theorem dL_law_532 : decode cL_law 532 = .ok (.iload_n 3, 1) := by decide +kernel
theorem dL_law_533 : decode cL_law 533 = .ok (.iconst 1, 1) := by decide +kernel
theorem dL_law_534 : decode cL_law 534 = .ok (.iadd, 1) := by decide +kernel
theorem dL_law_535 : decode cL_law 535 = .ok (.iaload, 1) := by decide +kernel
theorem dL_law_536 : decode cL_law 536 = .ok (.aload_n 0, 1) := by decide +kernel
theorem dL_law_537 : decode cL_law 537 = .ok (.iload_n 3, 1) := by decide +kernel
theorem dL_law_538 : decode cL_law 538 = .ok (.iconst 2, 1) := by decide +kernel
theorem dL_law_539 : decode cL_law 539 = .ok (.iadd, 1) := by decide +kernel
theorem dL_law_540 : decode cL_law 540 = .ok (.iaload, 1) := by decide +kernel
theorem dL_law_541 : decode cL_law 541 = .ok (.aload_n 0, 1) := by decide +kernel
theorem dL_law_542 : decode cL_law 542 = .ok (.iload_n 3, 1) := by decide +kernel
theorem dL_law_543 : decode cL_law 543 = .ok (.iconst 3, 1) := by decide +kernel
theorem dL_law_544 : decode cL_law 544 = .ok (.iadd, 1) := by decide +kernel
theorem dL_law_545 : decode cL_law 545 = .ok (.iaload, 1) := by decide +kernel
theorem dL_law_546 : decode cL_law 546 = .ok (.aload_n 0, 1) := by decide +kernel
theorem dL_law_547 : decode cL_law 547 = .ok (.iload_n 3, 1) := by decide +kernel
theorem dL_law_548 : decode cL_law 548 = .ok (.iconst 4, 1) := by decide +kernel
theorem dL_law_549 : decode cL_law 549 = .ok (.iadd, 1) := by decide +kernel
theorem dL_law_550 : decode cL_law 550 = .ok (.iaload, 1) := by decide +kernel
theorem dL_law_551 : decode cL_law 551 = .ok (.invokevirtual 58, 3) := by decide +kernel
theorem dL_law_554 : decode cL_law 554 = .ok (.aload_n 2, 1) := by decide +kernel
theorem dL_law_555 : decode cL_law 555 = .ok (.aload_n 0, 1) := by decide +kernel
theorem dL_law_556 : decode cL_law 556 = .ok (.iload_n 3, 1) := by decide +kernel
theorem dL_law_557 : decode cL_law 557 = .ok (.iconst 1, 1) := by decide +kernel
theorem dL_law_558 : decode cL_law 558 = .ok (.iadd, 1) := by decide +kernel
theorem dL_law_559 : decode cL_law 559 = .ok (.iaload, 1) := by decide +kernel
theorem dL_law_560 : decode cL_law 560 = .ok (.aload_n 0, 1) := by decide +kernel
theorem dL_law_561 : decode cL_law 561 = .ok (.iload_n 3, 1) := by decide +kernel
theorem dL_law_562 : decode cL_law 562 = .ok (.iconst 2, 1) := by decide +kernel
theorem dL_law_563 : decode cL_law 563 = .ok (.iadd, 1) := by decide +kernel
theorem dL_law_564 : decode cL_law 564 = .ok (.iaload, 1) := by decide +kernel
theorem dL_law_565 : decode cL_law 565 = .ok (.aload_n 0, 1) := by decide +kernel
theorem dL_law_566 : decode cL_law 566 = .ok (.iload_n 3, 1) := by decide +kernel
theorem dL_law_567 : decode cL_law 567 = .ok (.iconst 3, 1) := by decide +kernel
theorem dL_law_568 : decode cL_law 568 = .ok (.iadd, 1) := by decide +kernel
theorem dL_law_569 : decode cL_law 569 = .ok (.iaload, 1) := by decide +kernel
theorem dL_law_570 : decode cL_law 570 = .ok (.aload_n 0, 1) := by decide +kernel
theorem dL_law_571 : decode cL_law 571 = .ok (.iload_n 3, 1) := by decide +kernel
theorem dL_law_572 : decode cL_law 572 = .ok (.iconst 4, 1) := by decide +kernel
theorem dL_law_573 : decode cL_law 573 = .ok (.iadd, 1) := by decide +kernel
theorem dL_law_574 : decode cL_law 574 = .ok (.iaload, 1) := by decide +kernel
theorem dL_law_575 : decode cL_law 575 = .ok (.invokevirtual 61, 3) := by decide +kernel
theorem dL_law_578 : decode cL_law 578 = .ok (.if_icmp .eq 455, 3) := by decide +kernel
theorem dL_law_581 : decode cL_law 581 = .ok (.iconst 0, 1) := by decide +kernel
theorem dL_law_582 : decode cL_law 582 = .ok (.ireturn, 1) := by decide +kernel
theorem dL_law_583 : decode cL_law 583 = .ok (.aload_n 1, 1) := by decide +kernel
theorem dL_law_584 : decode cL_law 584 = .ok (.aload_n 0, 1) := by decide +kernel
theorem dL_law_585 : decode cL_law 585 = .ok (.iload_n 3, 1) := by decide +kernel
theorem dL_law_586 : decode cL_law 586 = .ok (.iconst 1, 1) := by decide +kernel
theorem dL_law_587 : decode cL_law 587 = .ok (.iadd, 1) := by decide +kernel
theorem dL_law_588 : decode cL_law 588 = .ok (.iaload, 1) := by decide +kernel
theorem dL_law_589 : decode cL_law 589 = .ok (.invokevirtual 62, 3) := by decide +kernel
theorem dL_law_592 : decode cL_law 592 = .ok (.aload_n 2, 1) := by decide +kernel
theorem dL_law_593 : decode cL_law 593 = .ok (.aload_n 0, 1) := by decide +kernel
theorem dL_law_594 : decode cL_law 594 = .ok (.iload_n 3, 1) := by decide +kernel
theorem dL_law_595 : decode cL_law 595 = .ok (.iconst 1, 1) := by decide +kernel
theorem dL_law_596 : decode cL_law 596 = .ok (.iadd, 1) := by decide +kernel
theorem dL_law_597 : decode cL_law 597 = .ok (.iaload, 1) := by decide +kernel
theorem dL_law_598 : decode cL_law 598 = .ok (.invokevirtual 65, 3) := by decide +kernel
theorem dL_law_601 : decode cL_law 601 = .ok (.if_icmp .eq 432, 3) := by decide +kernel
theorem dL_law_604 : decode cL_law 604 = .ok (.iconst 0, 1) := by decide +kernel
theorem dL_law_605 : decode cL_law 605 = .ok (.ireturn, 1) := by decide +kernel
theorem dL_law_606 : decode cL_law 606 = .ok (.aload_n 1, 1) := by decide +kernel
theorem dL_law_607 : decode cL_law 607 = .ok (.aload_n 0, 1) := by decide +kernel
theorem dL_law_608 : decode cL_law 608 = .ok (.iload_n 3, 1) := by decide +kernel
theorem dL_law_609 : decode cL_law 609 = .ok (.iconst 1, 1) := by decide +kernel
theorem dL_law_610 : decode cL_law 610 = .ok (.iadd, 1) := by decide +kernel
theorem dL_law_611 : decode cL_law 611 = .ok (.iaload, 1) := by decide +kernel
theorem dL_law_612 : decode cL_law 612 = .ok (.invokevirtual 66, 3) := by decide +kernel
theorem dL_law_615 : decode cL_law 615 = .ok (.aload_n 2, 1) := by decide +kernel
theorem dL_law_616 : decode cL_law 616 = .ok (.aload_n 0, 1) := by decide +kernel
theorem dL_law_617 : decode cL_law 617 = .ok (.iload_n 3, 1) := by decide +kernel
theorem dL_law_618 : decode cL_law 618 = .ok (.iconst 1, 1) := by decide +kernel
theorem dL_law_619 : decode cL_law 619 = .ok (.iadd, 1) := by decide +kernel
theorem dL_law_620 : decode cL_law 620 = .ok (.iaload, 1) := by decide +kernel
theorem dL_law_621 : decode cL_law 621 = .ok (.invokevirtual 69, 3) := by decide +kernel
theorem dL_law_624 : decode cL_law 624 = .ok (.if_icmp .eq 409, 3) := by decide +kernel
theorem dL_law_627 : decode cL_law 627 = .ok (.iconst 0, 1) := by decide +kernel
theorem dL_law_628 : decode cL_law 628 = .ok (.ireturn, 1) := by decide +kernel
theorem dL_law_629 : decode cL_law 629 = .ok (.aload_n 1, 1) := by decide +kernel
theorem dL_law_630 : decode cL_law 630 = .ok (.aload_n 0, 1) := by decide +kernel
theorem dL_law_631 : decode cL_law 631 = .ok (.iload_n 3, 1) := by decide +kernel
theorem dL_law_632 : decode cL_law 632 = .ok (.iconst 1, 1) := by decide +kernel
theorem dL_law_633 : decode cL_law 633 = .ok (.iadd, 1) := by decide +kernel
theorem dL_law_634 : decode cL_law 634 = .ok (.iaload, 1) := by decide +kernel
theorem dL_law_635 : decode cL_law 635 = .ok (.invokevirtual 70, 3) := by decide +kernel
theorem dL_law_638 : decode cL_law 638 = .ok (.aload_n 2, 1) := by decide +kernel
theorem dL_law_639 : decode cL_law 639 = .ok (.aload_n 0, 1) := by decide +kernel
theorem dL_law_640 : decode cL_law 640 = .ok (.iload_n 3, 1) := by decide +kernel
theorem dL_law_641 : decode cL_law 641 = .ok (.iconst 1, 1) := by decide +kernel
theorem dL_law_642 : decode cL_law 642 = .ok (.iadd, 1) := by decide +kernel
theorem dL_law_643 : decode cL_law 643 = .ok (.iaload, 1) := by decide +kernel
theorem dL_law_644 : decode cL_law 644 = .ok (.invokevirtual 73, 3) := by decide +kernel
theorem dL_law_647 : decode cL_law 647 = .ok (.if_icmp .eq 386, 3) := by decide +kernel
theorem dL_law_650 : decode cL_law 650 = .ok (.iconst 0, 1) := by decide +kernel
theorem dL_law_651 : decode cL_law 651 = .ok (.ireturn, 1) := by decide +kernel
theorem dL_law_652 : decode cL_law 652 = .ok (.aload_n 1, 1) := by decide +kernel
theorem dL_law_653 : decode cL_law 653 = .ok (.aload_n 0, 1) := by decide +kernel
theorem dL_law_654 : decode cL_law 654 = .ok (.iload_n 3, 1) := by decide +kernel
theorem dL_law_655 : decode cL_law 655 = .ok (.iconst 1, 1) := by decide +kernel
theorem dL_law_656 : decode cL_law 656 = .ok (.iadd, 1) := by decide +kernel
theorem dL_law_657 : decode cL_law 657 = .ok (.iaload, 1) := by decide +kernel
theorem dL_law_658 : decode cL_law 658 = .ok (.invokevirtual 74, 3) := by decide +kernel
theorem dL_law_661 : decode cL_law 661 = .ok (.aload_n 2, 1) := by decide +kernel
theorem dL_law_662 : decode cL_law 662 = .ok (.aload_n 0, 1) := by decide +kernel
theorem dL_law_663 : decode cL_law 663 = .ok (.iload_n 3, 1) := by decide +kernel
theorem dL_law_664 : decode cL_law 664 = .ok (.iconst 1, 1) := by decide +kernel
theorem dL_law_665 : decode cL_law 665 = .ok (.iadd, 1) := by decide +kernel
theorem dL_law_666 : decode cL_law 666 = .ok (.iaload, 1) := by decide +kernel
theorem dL_law_667 : decode cL_law 667 = .ok (.invokevirtual 77, 3) := by decide +kernel
theorem dL_law_670 : decode cL_law 670 = .ok (.if_icmp .eq 363, 3) := by decide +kernel
theorem dL_law_673 : decode cL_law 673 = .ok (.iconst 0, 1) := by decide +kernel
theorem dL_law_674 : decode cL_law 674 = .ok (.ireturn, 1) := by decide +kernel
theorem dL_law_675 : decode cL_law 675 = .ok (.aload_n 1, 1) := by decide +kernel
theorem dL_law_676 : decode cL_law 676 = .ok (.aload_n 0, 1) := by decide +kernel
theorem dL_law_677 : decode cL_law 677 = .ok (.iload_n 3, 1) := by decide +kernel
theorem dL_law_678 : decode cL_law 678 = .ok (.iconst 1, 1) := by decide +kernel
theorem dL_law_679 : decode cL_law 679 = .ok (.iadd, 1) := by decide +kernel
theorem dL_law_680 : decode cL_law 680 = .ok (.iaload, 1) := by decide +kernel
theorem dL_law_681 : decode cL_law 681 = .ok (.invokevirtual 78, 3) := by decide +kernel
theorem dL_law_684 : decode cL_law 684 = .ok (.aload_n 2, 1) := by decide +kernel
theorem dL_law_685 : decode cL_law 685 = .ok (.aload_n 0, 1) := by decide +kernel
theorem dL_law_686 : decode cL_law 686 = .ok (.iload_n 3, 1) := by decide +kernel
theorem dL_law_687 : decode cL_law 687 = .ok (.iconst 1, 1) := by decide +kernel
theorem dL_law_688 : decode cL_law 688 = .ok (.iadd, 1) := by decide +kernel
theorem dL_law_689 : decode cL_law 689 = .ok (.iaload, 1) := by decide +kernel
theorem dL_law_690 : decode cL_law 690 = .ok (.invokevirtual 81, 3) := by decide +kernel
theorem dL_law_693 : decode cL_law 693 = .ok (.if_icmp .eq 340, 3) := by decide +kernel
theorem dL_law_696 : decode cL_law 696 = .ok (.iconst 0, 1) := by decide +kernel
theorem dL_law_697 : decode cL_law 697 = .ok (.ireturn, 1) := by decide +kernel
theorem dL_law_698 : decode cL_law 698 = .ok (.aload_n 1, 1) := by decide +kernel
theorem dL_law_699 : decode cL_law 699 = .ok (.aload_n 0, 1) := by decide +kernel
theorem dL_law_700 : decode cL_law 700 = .ok (.iload_n 3, 1) := by decide +kernel
theorem dL_law_701 : decode cL_law 701 = .ok (.iconst 1, 1) := by decide +kernel
theorem dL_law_702 : decode cL_law 702 = .ok (.iadd, 1) := by decide +kernel
theorem dL_law_703 : decode cL_law 703 = .ok (.iaload, 1) := by decide +kernel
theorem dL_law_704 : decode cL_law 704 = .ok (.invokevirtual 82, 3) := by decide +kernel
theorem dL_law_707 : decode cL_law 707 = .ok (.aload_n 2, 1) := by decide +kernel
theorem dL_law_708 : decode cL_law 708 = .ok (.aload_n 0, 1) := by decide +kernel
theorem dL_law_709 : decode cL_law 709 = .ok (.iload_n 3, 1) := by decide +kernel
theorem dL_law_710 : decode cL_law 710 = .ok (.iconst 1, 1) := by decide +kernel
theorem dL_law_711 : decode cL_law 711 = .ok (.iadd, 1) := by decide +kernel
theorem dL_law_712 : decode cL_law 712 = .ok (.iaload, 1) := by decide +kernel
theorem dL_law_713 : decode cL_law 713 = .ok (.invokevirtual 86, 3) := by decide +kernel
theorem dL_law_716 : decode cL_law 716 = .ok (.lcmp, 1) := by decide +kernel
theorem dL_law_717 : decode cL_law 717 = .ok (.ifCond .eq 316, 3) := by decide +kernel
theorem dL_law_720 : decode cL_law 720 = .ok (.iconst 0, 1) := by decide +kernel
theorem dL_law_721 : decode cL_law 721 = .ok (.ireturn, 1) := by decide +kernel
theorem dL_law_722 : decode cL_law 722 = .ok (.aload_n 1, 1) := by decide +kernel
theorem dL_law_723 : decode cL_law 723 = .ok (.aload_n 0, 1) := by decide +kernel
theorem dL_law_724 : decode cL_law 724 = .ok (.iload_n 3, 1) := by decide +kernel
theorem dL_law_725 : decode cL_law 725 = .ok (.iconst 1, 1) := by decide +kernel
theorem dL_law_726 : decode cL_law 726 = .ok (.iadd, 1) := by decide +kernel
theorem dL_law_727 : decode cL_law 727 = .ok (.iaload, 1) := by decide +kernel
theorem dL_law_728 : decode cL_law 728 = .ok (.invokevirtual 87, 3) := by decide +kernel
theorem dL_law_731 : decode cL_law 731 = .ok (.aload_n 2, 1) := by decide +kernel
theorem dL_law_732 : decode cL_law 732 = .ok (.aload_n 0, 1) := by decide +kernel
theorem dL_law_733 : decode cL_law 733 = .ok (.iload_n 3, 1) := by decide +kernel
theorem dL_law_734 : decode cL_law 734 = .ok (.iconst 1, 1) := by decide +kernel
theorem dL_law_735 : decode cL_law 735 = .ok (.iadd, 1) := by decide +kernel
theorem dL_law_736 : decode cL_law 736 = .ok (.iaload, 1) := by decide +kernel
theorem dL_law_737 : decode cL_law 737 = .ok (.invokevirtual 90, 3) := by decide +kernel
theorem dL_law_740 : decode cL_law 740 = .ok (.lcmp, 1) := by decide +kernel
theorem dL_law_741 : decode cL_law 741 = .ok (.ifCond .eq 292, 3) := by decide +kernel
theorem dL_law_744 : decode cL_law 744 = .ok (.iconst 0, 1) := by decide +kernel
theorem dL_law_745 : decode cL_law 745 = .ok (.ireturn, 1) := by decide +kernel
theorem dL_law_746 : decode cL_law 746 = .ok (.aload_n 1, 1) := by decide +kernel
theorem dL_law_747 : decode cL_law 747 = .ok (.aload_n 0, 1) := by decide +kernel
theorem dL_law_748 : decode cL_law 748 = .ok (.iload_n 3, 1) := by decide +kernel
theorem dL_law_749 : decode cL_law 749 = .ok (.iconst 1, 1) := by decide +kernel
theorem dL_law_750 : decode cL_law 750 = .ok (.iadd, 1) := by decide +kernel
theorem dL_law_751 : decode cL_law 751 = .ok (.iaload, 1) := by decide +kernel
theorem dL_law_752 : decode cL_law 752 = .ok (.invokevirtual 91, 3) := by decide +kernel
theorem dL_law_755 : decode cL_law 755 = .ok (.aload_n 2, 1) := by decide +kernel
theorem dL_law_756 : decode cL_law 756 = .ok (.aload_n 0, 1) := by decide +kernel
theorem dL_law_757 : decode cL_law 757 = .ok (.iload_n 3, 1) := by decide +kernel
theorem dL_law_758 : decode cL_law 758 = .ok (.iconst 1, 1) := by decide +kernel
theorem dL_law_759 : decode cL_law 759 = .ok (.iadd, 1) := by decide +kernel
theorem dL_law_760 : decode cL_law 760 = .ok (.iaload, 1) := by decide +kernel
theorem dL_law_761 : decode cL_law 761 = .ok (.invokevirtual 94, 3) := by decide +kernel
theorem dL_law_764 : decode cL_law 764 = .ok (.if_icmp .eq 269, 3) := by decide +kernel
theorem dL_law_767 : decode cL_law 767 = .ok (.iconst 0, 1) := by decide +kernel
theorem dL_law_768 : decode cL_law 768 = .ok (.ireturn, 1) := by decide +kernel
theorem dL_law_769 : decode cL_law 769 = .ok (.aload_n 1, 1) := by decide +kernel
theorem dL_law_770 : decode cL_law 770 = .ok (.aload_n 0, 1) := by decide +kernel
theorem dL_law_771 : decode cL_law 771 = .ok (.iload_n 3, 1) := by decide +kernel
theorem dL_law_772 : decode cL_law 772 = .ok (.iconst 1, 1) := by decide +kernel
theorem dL_law_773 : decode cL_law 773 = .ok (.iadd, 1) := by decide +kernel
theorem dL_law_774 : decode cL_law 774 = .ok (.iaload, 1) := by decide +kernel
theorem dL_law_775 : decode cL_law 775 = .ok (.invokevirtual 95, 3) := by decide +kernel
theorem dL_law_778 : decode cL_law 778 = .ok (.aload_n 2, 1) := by decide +kernel
theorem dL_law_779 : decode cL_law 779 = .ok (.aload_n 0, 1) := by decide +kernel
theorem dL_law_780 : decode cL_law 780 = .ok (.iload_n 3, 1) := by decide +kernel
theorem dL_law_781 : decode cL_law 781 = .ok (.iconst 1, 1) := by decide +kernel
theorem dL_law_782 : decode cL_law 782 = .ok (.iadd, 1) := by decide +kernel
theorem dL_law_783 : decode cL_law 783 = .ok (.iaload, 1) := by decide +kernel
theorem dL_law_784 : decode cL_law 784 = .ok (.invokevirtual 98, 3) := by decide +kernel
theorem dL_law_787 : decode cL_law 787 = .ok (.lcmp, 1) := by decide +kernel
theorem dL_law_788 : decode cL_law 788 = .ok (.ifCond .eq 245, 3) := by decide +kernel
theorem dL_law_791 : decode cL_law 791 = .ok (.iconst 0, 1) := by decide +kernel
theorem dL_law_792 : decode cL_law 792 = .ok (.ireturn, 1) := by decide +kernel
theorem dL_law_793 : decode cL_law 793 = .ok (.aload_n 1, 1) := by decide +kernel
theorem dL_law_794 : decode cL_law 794 = .ok (.aload_n 0, 1) := by decide +kernel
theorem dL_law_795 : decode cL_law 795 = .ok (.iload_n 3, 1) := by decide +kernel
theorem dL_law_796 : decode cL_law 796 = .ok (.iconst 1, 1) := by decide +kernel
theorem dL_law_797 : decode cL_law 797 = .ok (.iadd, 1) := by decide +kernel
theorem dL_law_798 : decode cL_law 798 = .ok (.iaload, 1) := by decide +kernel
theorem dL_law_799 : decode cL_law 799 = .ok (.invokevirtual 99, 3) := by decide +kernel
theorem dL_law_802 : decode cL_law 802 = .ok (.aload_n 2, 1) := by decide +kernel
theorem dL_law_803 : decode cL_law 803 = .ok (.aload_n 0, 1) := by decide +kernel
theorem dL_law_804 : decode cL_law 804 = .ok (.iload_n 3, 1) := by decide +kernel
theorem dL_law_805 : decode cL_law 805 = .ok (.iconst 1, 1) := by decide +kernel
theorem dL_law_806 : decode cL_law 806 = .ok (.iadd, 1) := by decide +kernel
theorem dL_law_807 : decode cL_law 807 = .ok (.iaload, 1) := by decide +kernel
theorem dL_law_808 : decode cL_law 808 = .ok (.invokevirtual 102, 3) := by decide +kernel
theorem dL_law_811 : decode cL_law 811 = .ok (.if_icmp .eq 222, 3) := by decide +kernel
theorem dL_law_814 : decode cL_law 814 = .ok (.iconst 0, 1) := by decide +kernel
theorem dL_law_815 : decode cL_law 815 = .ok (.ireturn, 1) := by decide +kernel
theorem dL_law_816 : decode cL_law 816 = .ok (.aload_n 1, 1) := by decide +kernel
theorem dL_law_817 : decode cL_law 817 = .ok (.aload_n 0, 1) := by decide +kernel
theorem dL_law_818 : decode cL_law 818 = .ok (.iload_n 3, 1) := by decide +kernel
theorem dL_law_819 : decode cL_law 819 = .ok (.iconst 1, 1) := by decide +kernel
theorem dL_law_820 : decode cL_law 820 = .ok (.iadd, 1) := by decide +kernel
theorem dL_law_821 : decode cL_law 821 = .ok (.iaload, 1) := by decide +kernel
theorem dL_law_822 : decode cL_law 822 = .ok (.invokevirtual 103, 3) := by decide +kernel
theorem dL_law_825 : decode cL_law 825 = .ok (.aload_n 2, 1) := by decide +kernel
theorem dL_law_826 : decode cL_law 826 = .ok (.aload_n 0, 1) := by decide +kernel
theorem dL_law_827 : decode cL_law 827 = .ok (.iload_n 3, 1) := by decide +kernel
theorem dL_law_828 : decode cL_law 828 = .ok (.iconst 1, 1) := by decide +kernel
theorem dL_law_829 : decode cL_law 829 = .ok (.iadd, 1) := by decide +kernel
theorem dL_law_830 : decode cL_law 830 = .ok (.iaload, 1) := by decide +kernel
theorem dL_law_831 : decode cL_law 831 = .ok (.invokevirtual 106, 3) := by decide +kernel
theorem dL_law_834 : decode cL_law 834 = .ok (.if_icmp .eq 199, 3) := by decide +kernel
theorem dL_law_837 : decode cL_law 837 = .ok (.iconst 0, 1) := by decide +kernel
theorem dL_law_838 : decode cL_law 838 = .ok (.ireturn, 1) := by decide +kernel
theorem dL_law_839 : decode cL_law 839 = .ok (.aload_n 1, 1) := by decide +kernel
theorem dL_law_840 : decode cL_law 840 = .ok (.aload_n 0, 1) := by decide +kernel
theorem dL_law_841 : decode cL_law 841 = .ok (.iload_n 3, 1) := by decide +kernel
theorem dL_law_842 : decode cL_law 842 = .ok (.iconst 1, 1) := by decide +kernel
theorem dL_law_843 : decode cL_law 843 = .ok (.iadd, 1) := by decide +kernel
theorem dL_law_844 : decode cL_law 844 = .ok (.iaload, 1) := by decide +kernel
theorem dL_law_845 : decode cL_law 845 = .ok (.invokevirtual 107, 3) := by decide +kernel
theorem dL_law_848 : decode cL_law 848 = .ok (.aload_n 2, 1) := by decide +kernel
theorem dL_law_849 : decode cL_law 849 = .ok (.aload_n 0, 1) := by decide +kernel
theorem dL_law_850 : decode cL_law 850 = .ok (.iload_n 3, 1) := by decide +kernel
theorem dL_law_851 : decode cL_law 851 = .ok (.iconst 1, 1) := by decide +kernel
theorem dL_law_852 : decode cL_law 852 = .ok (.iadd, 1) := by decide +kernel
theorem dL_law_853 : decode cL_law 853 = .ok (.iaload, 1) := by decide +kernel
theorem dL_law_854 : decode cL_law 854 = .ok (.invokevirtual 110, 3) := by decide +kernel
theorem dL_law_857 : decode cL_law 857 = .ok (.if_icmp .eq 176, 3) := by decide +kernel
theorem dL_law_860 : decode cL_law 860 = .ok (.iconst 0, 1) := by decide +kernel
theorem dL_law_861 : decode cL_law 861 = .ok (.ireturn, 1) := by decide +kernel
theorem dL_law_862 : decode cL_law 862 = .ok (.aload_n 1, 1) := by decide +kernel
theorem dL_law_863 : decode cL_law 863 = .ok (.aload_n 0, 1) := by decide +kernel
theorem dL_law_864 : decode cL_law 864 = .ok (.iload_n 3, 1) := by decide +kernel
theorem dL_law_865 : decode cL_law 865 = .ok (.iconst 1, 1) := by decide +kernel
theorem dL_law_866 : decode cL_law 866 = .ok (.iadd, 1) := by decide +kernel
theorem dL_law_867 : decode cL_law 867 = .ok (.iaload, 1) := by decide +kernel
theorem dL_law_868 : decode cL_law 868 = .ok (.invokevirtual 111, 3) := by decide +kernel
theorem dL_law_871 : decode cL_law 871 = .ok (.aload_n 2, 1) := by decide +kernel
theorem dL_law_872 : decode cL_law 872 = .ok (.aload_n 0, 1) := by decide +kernel
theorem dL_law_873 : decode cL_law 873 = .ok (.iload_n 3, 1) := by decide +kernel
theorem dL_law_874 : decode cL_law 874 = .ok (.iconst 1, 1) := by decide +kernel
theorem dL_law_875 : decode cL_law 875 = .ok (.iadd, 1) := by decide +kernel
theorem dL_law_876 : decode cL_law 876 = .ok (.iaload, 1) := by decide +kernel
theorem dL_law_877 : decode cL_law 877 = .ok (.invokevirtual 114, 3) := by decide +kernel
theorem dL_law_880 : decode cL_law 880 = .ok (.if_icmp .eq 153, 3) := by decide +kernel
theorem dL_law_883 : decode cL_law 883 = .ok (.iconst 0, 1) := by decide +kernel
theorem dL_law_884 : decode cL_law 884 = .ok (.ireturn, 1) := by decide +kernel
theorem dL_law_885 : decode cL_law 885 = .ok (.aload_n 1, 1) := by decide +kernel
theorem dL_law_886 : decode cL_law 886 = .ok (.aload_n 0, 1) := by decide +kernel
theorem dL_law_887 : decode cL_law 887 = .ok (.iload_n 3, 1) := by decide +kernel
theorem dL_law_888 : decode cL_law 888 = .ok (.iconst 1, 1) := by decide +kernel
theorem dL_law_889 : decode cL_law 889 = .ok (.iadd, 1) := by decide +kernel
theorem dL_law_890 : decode cL_law 890 = .ok (.iaload, 1) := by decide +kernel
theorem dL_law_891 : decode cL_law 891 = .ok (.invokevirtual 115, 3) := by decide +kernel
theorem dL_law_894 : decode cL_law 894 = .ok (.aload_n 2, 1) := by decide +kernel
theorem dL_law_895 : decode cL_law 895 = .ok (.aload_n 0, 1) := by decide +kernel
theorem dL_law_896 : decode cL_law 896 = .ok (.iload_n 3, 1) := by decide +kernel
theorem dL_law_897 : decode cL_law 897 = .ok (.iconst 1, 1) := by decide +kernel
theorem dL_law_898 : decode cL_law 898 = .ok (.iadd, 1) := by decide +kernel
theorem dL_law_899 : decode cL_law 899 = .ok (.iaload, 1) := by decide +kernel
theorem dL_law_900 : decode cL_law 900 = .ok (.invokevirtual 118, 3) := by decide +kernel
theorem dL_law_903 : decode cL_law 903 = .ok (.if_icmp .eq 130, 3) := by decide +kernel
theorem dL_law_906 : decode cL_law 906 = .ok (.iconst 0, 1) := by decide +kernel
theorem dL_law_907 : decode cL_law 907 = .ok (.ireturn, 1) := by decide +kernel
theorem dL_law_908 : decode cL_law 908 = .ok (.aload_n 1, 1) := by decide +kernel
theorem dL_law_909 : decode cL_law 909 = .ok (.invokevirtual 119, 3) := by decide +kernel
theorem dL_law_912 : decode cL_law 912 = .ok (.aload_n 2, 1) := by decide +kernel
theorem dL_law_913 : decode cL_law 913 = .ok (.invokevirtual 123, 3) := by decide +kernel
theorem dL_law_916 : decode cL_law 916 = .ok (.if_icmp .eq 117, 3) := by decide +kernel
theorem dL_law_919 : decode cL_law 919 = .ok (.iconst 0, 1) := by decide +kernel
theorem dL_law_920 : decode cL_law 920 = .ok (.ireturn, 1) := by decide +kernel
theorem dL_law_921 : decode cL_law 921 = .ok (.aload_n 1, 1) := by decide +kernel
theorem dL_law_922 : decode cL_law 922 = .ok (.aload_n 0, 1) := by decide +kernel
theorem dL_law_923 : decode cL_law 923 = .ok (.iload_n 3, 1) := by decide +kernel
theorem dL_law_924 : decode cL_law 924 = .ok (.iconst 1, 1) := by decide +kernel
theorem dL_law_925 : decode cL_law 925 = .ok (.iadd, 1) := by decide +kernel
theorem dL_law_926 : decode cL_law 926 = .ok (.iaload, 1) := by decide +kernel
theorem dL_law_927 : decode cL_law 927 = .ok (.invokevirtual 124, 3) := by decide +kernel
theorem dL_law_930 : decode cL_law 930 = .ok (.aload_n 2, 1) := by decide +kernel
theorem dL_law_931 : decode cL_law 931 = .ok (.aload_n 0, 1) := by decide +kernel
theorem dL_law_932 : decode cL_law 932 = .ok (.iload_n 3, 1) := by decide +kernel
theorem dL_law_933 : decode cL_law 933 = .ok (.iconst 1, 1) := by decide +kernel
theorem dL_law_934 : decode cL_law 934 = .ok (.iadd, 1) := by decide +kernel
theorem dL_law_935 : decode cL_law 935 = .ok (.iaload, 1) := by decide +kernel
theorem dL_law_936 : decode cL_law 936 = .ok (.invokevirtual 127, 3) := by decide +kernel
theorem dL_law_939 : decode cL_law 939 = .ok (.if_icmp .eq 94, 3) := by decide +kernel
theorem dL_law_942 : decode cL_law 942 = .ok (.iconst 0, 1) := by decide +kernel
theorem dL_law_943 : decode cL_law 943 = .ok (.ireturn, 1) := by decide +kernel
theorem dL_law_944 : decode cL_law 944 = .ok (.aload_n 1, 1) := by decide +kernel
theorem dL_law_945 : decode cL_law 945 = .ok (.invokevirtual 128, 3) := by decide +kernel
theorem dL_law_948 : decode cL_law 948 = .ok (.aload_n 2, 1) := by decide +kernel
theorem dL_law_949 : decode cL_law 949 = .ok (.invokevirtual 131, 3) := by decide +kernel
theorem dL_law_952 : decode cL_law 952 = .ok (.if_icmp .eq 81, 3) := by decide +kernel
theorem dL_law_955 : decode cL_law 955 = .ok (.iconst 0, 1) := by decide +kernel
theorem dL_law_956 : decode cL_law 956 = .ok (.ireturn, 1) := by decide +kernel
theorem dL_law_957 : decode cL_law 957 = .ok (.aload_n 1, 1) := by decide +kernel
theorem dL_law_958 : decode cL_law 958 = .ok (.aload_n 0, 1) := by decide +kernel
theorem dL_law_959 : decode cL_law 959 = .ok (.iload_n 3, 1) := by decide +kernel
theorem dL_law_960 : decode cL_law 960 = .ok (.iconst 1, 1) := by decide +kernel
theorem dL_law_961 : decode cL_law 961 = .ok (.iadd, 1) := by decide +kernel
theorem dL_law_962 : decode cL_law 962 = .ok (.iaload, 1) := by decide +kernel
theorem dL_law_963 : decode cL_law 963 = .ok (.invokevirtual 132, 3) := by decide +kernel
theorem dL_law_966 : decode cL_law 966 = .ok (.aload_n 2, 1) := by decide +kernel
theorem dL_law_967 : decode cL_law 967 = .ok (.aload_n 0, 1) := by decide +kernel
theorem dL_law_968 : decode cL_law 968 = .ok (.iload_n 3, 1) := by decide +kernel
theorem dL_law_969 : decode cL_law 969 = .ok (.iconst 1, 1) := by decide +kernel
theorem dL_law_970 : decode cL_law 970 = .ok (.iadd, 1) := by decide +kernel
theorem dL_law_971 : decode cL_law 971 = .ok (.iaload, 1) := by decide +kernel
theorem dL_law_972 : decode cL_law 972 = .ok (.invokevirtual 135, 3) := by decide +kernel
theorem dL_law_975 : decode cL_law 975 = .ok (.if_icmp .eq 58, 3) := by decide +kernel
theorem dL_law_978 : decode cL_law 978 = .ok (.iconst 0, 1) := by decide +kernel
theorem dL_law_979 : decode cL_law 979 = .ok (.ireturn, 1) := by decide +kernel
theorem dL_law_980 : decode cL_law 980 = .ok (.aload_n 1, 1) := by decide +kernel
theorem dL_law_981 : decode cL_law 981 = .ok (.invokevirtual 136, 3) := by decide +kernel
theorem dL_law_984 : decode cL_law 984 = .ok (.aload_n 2, 1) := by decide +kernel
theorem dL_law_985 : decode cL_law 985 = .ok (.invokevirtual 139, 3) := by decide +kernel
theorem dL_law_988 : decode cL_law 988 = .ok (.if_icmp .eq 45, 3) := by decide +kernel
theorem dL_law_991 : decode cL_law 991 = .ok (.iconst 0, 1) := by decide +kernel
theorem dL_law_992 : decode cL_law 992 = .ok (.ireturn, 1) := by decide +kernel
theorem dL_law_993 : decode cL_law 993 = .ok (.aload_n 1, 1) := by decide +kernel
theorem dL_law_994 : decode cL_law 994 = .ok (.invokevirtual 140, 3) := by decide +kernel
theorem dL_law_997 : decode cL_law 997 = .ok (.aload_n 2, 1) := by decide +kernel
theorem dL_law_998 : decode cL_law 998 = .ok (.invokevirtual 143, 3) := by decide +kernel
theorem dL_law_1001 : decode cL_law 1001 = .ok (.if_icmp .eq 32, 3) := by decide +kernel
theorem dL_law_1004 : decode cL_law 1004 = .ok (.iconst 0, 1) := by decide +kernel
theorem dL_law_1005 : decode cL_law 1005 = .ok (.ireturn, 1) := by decide +kernel
theorem dL_law_1006 : decode cL_law 1006 = .ok (.aload_n 1, 1) := by decide +kernel
theorem dL_law_1007 : decode cL_law 1007 = .ok (.invokevirtual 144, 3) := by decide +kernel
theorem dL_law_1010 : decode cL_law 1010 = .ok (.aload_n 2, 1) := by decide +kernel
theorem dL_law_1011 : decode cL_law 1011 = .ok (.invokevirtual 147, 3) := by decide +kernel
theorem dL_law_1014 : decode cL_law 1014 = .ok (.if_icmp .eq 19, 3) := by decide +kernel
theorem dL_law_1017 : decode cL_law 1017 = .ok (.iconst 0, 1) := by decide +kernel
theorem dL_law_1018 : decode cL_law 1018 = .ok (.ireturn, 1) := by decide +kernel
theorem dL_law_1019 : decode cL_law 1019 = .ok (.aload_n 1, 1) := by decide +kernel
theorem dL_law_1020 : decode cL_law 1020 = .ok (.invokevirtual 148, 3) := by decide +kernel
theorem dL_law_1023 : decode cL_law 1023 = .ok (.aload_n 2, 1) := by decide +kernel
theorem dL_law_1024 : decode cL_law 1024 = .ok (.invokevirtual 152, 3) := by decide +kernel
theorem dL_law_1027 : decode cL_law 1027 = .ok (.lcmp, 1) := by decide +kernel
theorem dL_law_1028 : decode cL_law 1028 = .ok (.ifCond .eq 5, 3) := by decide +kernel
theorem dL_law_1031 : decode cL_law 1031 = .ok (.iconst 0, 1) := by decide +kernel
theorem dL_law_1032 : decode cL_law 1032 = .ok (.ireturn, 1) := by decide +kernel
theorem dL_law_1033 : decode cL_law 1033 = .ok (.iinc 3 6, 3) := by decide +kernel
theorem dL_law_1036 : decode cL_law 1036 = .ok (.goto (-1018), 3) := by decide +kernel
theorem dL_law_1039 : decode cL_law 1039 = .ok (.iconst 1, 1) := by decide +kernel
theorem dL_law_1040 : decode cL_law 1040 = .ok (.ireturn, 1) := by decide +kernel
end
section
theorem dX7_init_0 : decode cX7_init 0 = .ok (.aload_n 0, 1) := by decide +kernel
theorem dX7_init_1 : decode cX7_init 1 = .ok (.invokespecial 1, 3) := by decide +kernel
theorem dX7_init_4 : decode cX7_init 4 = .ok (.aload_n 0, 1) := by decide +kernel
theorem dX7_init_5 : decode cX7_init 5 = .ok (.sipush 786, 3) := by decide +kernel
theorem dX7_init_8 : decode cX7_init 8 = .ok (.newarray .int, 2) := by decide +kernel
theorem dX7_init_10 : decode cX7_init 10 = .ok (.putfield 7, 3) := by decide +kernel
theorem dX7_init_13 : decode cX7_init 13 = .ok (.aload_n 0, 1) := by decide +kernel
theorem dX7_init_14 : decode cX7_init 14 = .ok (.bipush 96, 2) := by decide +kernel
theorem dX7_init_16 : decode cX7_init 16 = .ok (.newarray .long, 2) := by decide +kernel
theorem dX7_init_18 : decode cX7_init 18 = .ok (.putfield 13, 3) := by decide +kernel
theorem dX7_init_21 : decode cX7_init 21 = .ok (.aload_n 0, 1) := by decide +kernel
theorem dX7_init_22 : decode cX7_init 22 = .ok (.bipush 16, 2) := by decide +kernel
theorem dX7_init_24 : decode cX7_init 24 = .ok (.newarray .boolean, 2) := by decide +kernel
theorem dX7_init_26 : decode cX7_init 26 = .ok (.putfield 17, 3) := by decide +kernel
theorem dX7_init_29 : decode cX7_init 29 = .ok (.aload_n 0, 1) := by decide +kernel
theorem dX7_init_30 : decode cX7_init 30 = .ok (.bipush 16, 2) := by decide +kernel
theorem dX7_init_32 : decode cX7_init 32 = .ok (.newarray .int, 2) := by decide +kernel
theorem dX7_init_34 : decode cX7_init 34 = .ok (.putfield 21, 3) := by decide +kernel
theorem dX7_init_37 : decode cX7_init 37 = .ok (.aload_n 0, 1) := by decide +kernel
theorem dX7_init_38 : decode cX7_init 38 = .ok (.bipush 100, 2) := by decide +kernel
theorem dX7_init_40 : decode cX7_init 40 = .ok (.newarray .int, 2) := by decide +kernel
theorem dX7_init_42 : decode cX7_init 42 = .ok (.putfield 24, 3) := by decide +kernel
theorem dX7_init_45 : decode cX7_init 45 = .ok (.aload_n 0, 1) := by decide +kernel
theorem dX7_init_46 : decode cX7_init 46 = .ok (.getfield 7, 3) := by decide +kernel
theorem dX7_init_49 : decode cX7_init 49 = .ok (.iconst 2, 1) := by decide +kernel
theorem dX7_init_50 : decode cX7_init 50 = .ok (.bipush 24, 2) := by decide +kernel
theorem dX7_init_52 : decode cX7_init 52 = .ok (.iastore, 1) := by decide +kernel
theorem dX7_init_53 : decode cX7_init 53 = .ok (.aload_n 0, 1) := by decide +kernel
theorem dX7_init_54 : decode cX7_init 54 = .ok (.getfield 7, 3) := by decide +kernel
theorem dX7_init_57 : decode cX7_init 57 = .ok (.iconst 3, 1) := by decide +kernel
theorem dX7_init_58 : decode cX7_init 58 = .ok (.bipush 20, 2) := by decide +kernel
theorem dX7_init_60 : decode cX7_init 60 = .ok (.iastore, 1) := by decide +kernel
theorem dX7_init_61 : decode cX7_init 61 = .ok (.aload_n 0, 1) := by decide +kernel
theorem dX7_init_62 : decode cX7_init 62 = .ok (.getfield 7, 3) := by decide +kernel
theorem dX7_init_65 : decode cX7_init 65 = .ok (.iconst 4, 1) := by decide +kernel
theorem dX7_init_66 : decode cX7_init 66 = .ok (.bipush 90, 2) := by decide +kernel
theorem dX7_init_68 : decode cX7_init 68 = .ok (.iastore, 1) := by decide +kernel
theorem dX7_init_69 : decode cX7_init 69 = .ok (.iconst 0, 1) := by decide +kernel
theorem dX7_init_70 : decode cX7_init 70 = .ok (.istore_n 1, 1) := by decide +kernel
theorem dX7_init_71 : decode cX7_init 71 = .ok (.iload_n 1, 1) := by decide +kernel
theorem dX7_init_72 : decode cX7_init 72 = .ok (.iconst 3, 1) := by decide +kernel
theorem dX7_init_73 : decode cX7_init 73 = .ok (.if_icmp .ge 20, 3) := by decide +kernel
theorem dX7_init_76 : decode cX7_init 76 = .ok (.aload_n 0, 1) := by decide +kernel
theorem dX7_init_77 : decode cX7_init 77 = .ok (.getfield 7, 3) := by decide +kernel
theorem dX7_init_80 : decode cX7_init 80 = .ok (.bipush 8, 2) := by decide +kernel
theorem dX7_init_82 : decode cX7_init 82 = .ok (.iload_n 1, 1) := by decide +kernel
theorem dX7_init_83 : decode cX7_init 83 = .ok (.iadd, 1) := by decide +kernel
theorem dX7_init_84 : decode cX7_init 84 = .ok (.bipush 10, 2) := by decide +kernel
theorem dX7_init_86 : decode cX7_init 86 = .ok (.iastore, 1) := by decide +kernel
theorem dX7_init_87 : decode cX7_init 87 = .ok (.iinc 1 1, 3) := by decide +kernel
theorem dX7_init_90 : decode cX7_init 90 = .ok (.goto (-19), 3) := by decide +kernel
theorem dX7_init_93 : decode cX7_init 93 = .ok (.return_, 1) := by decide +kernel
theorem dX7_in_0 : decode cX7_in 0 = .ok (.iload_n 0, 1) := by decide +kernel
theorem dX7_in_1 : decode cX7_in 1 = .ok (.iload_n 1, 1) := by decide +kernel
theorem dX7_in_2 : decode cX7_in 2 = .ok (.if_icmp .lt 12, 3) := by decide +kernel
theorem dX7_in_5 : decode cX7_in 5 = .ok (.iload_n 0, 1) := by decide +kernel
theorem dX7_in_6 : decode cX7_in 6 = .ok (.iload_n 2, 1) := by decide +kernel
theorem dX7_in_7 : decode cX7_in 7 = .ok (.if_icmp .gt 7, 3) := by decide +kernel
theorem dX7_in_10 : decode cX7_in 10 = .ok (.iconst 1, 1) := by decide +kernel
theorem dX7_in_11 : decode cX7_in 11 = .ok (.goto 4, 3) := by decide +kernel
theorem dX7_in_14 : decode cX7_in 14 = .ok (.iconst 0, 1) := by decide +kernel
theorem dX7_in_15 : decode cX7_in 15 = .ok (.ireturn, 1) := by decide +kernel
theorem dX7_copies_0 : decode cX7_copies 0 = .ok (.iconst 0, 1) := by decide +kernel
theorem dX7_copies_1 : decode cX7_copies 1 = .ok (.istore_n 3, 1) := by decide +kernel
theorem dX7_copies_2 : decode cX7_copies 2 = .ok (.iload_n 3, 1) := by decide +kernel
theorem dX7_copies_3 : decode cX7_copies 3 = .ok (.sipush 131, 3) := by decide +kernel
theorem dX7_copies_6 : decode cX7_copies 6 = .ok (.if_icmp .ge 33, 3) := by decide +kernel
theorem dX7_copies_9 : decode cX7_copies 9 = .ok (.aload_n 0, 1) := by decide +kernel
theorem dX7_copies_10 : decode cX7_copies 10 = .ok (.getfield 7, 3) := by decide +kernel
theorem dX7_copies_13 : decode cX7_copies 13 = .ok (.sipush 131, 3) := by decide +kernel
theorem dX7_copies_16 : decode cX7_copies 16 = .ok (.iload_n 2, 1) := by decide +kernel
theorem dX7_copies_17 : decode cX7_copies 17 = .ok (.imul, 1) := by decide +kernel
theorem dX7_copies_18 : decode cX7_copies 18 = .ok (.iload_n 3, 1) := by decide +kernel
theorem dX7_copies_19 : decode cX7_copies 19 = .ok (.iadd, 1) := by decide +kernel
theorem dX7_copies_20 : decode cX7_copies 20 = .ok (.aload_n 0, 1) := by decide +kernel
theorem dX7_copies_21 : decode cX7_copies 21 = .ok (.getfield 7, 3) := by decide +kernel
theorem dX7_copies_24 : decode cX7_copies 24 = .ok (.sipush 131, 3) := by decide +kernel
theorem dX7_copies_27 : decode cX7_copies 27 = .ok (.iload_n 1, 1) := by decide +kernel
theorem dX7_copies_28 : decode cX7_copies 28 = .ok (.imul, 1) := by decide +kernel
theorem dX7_copies_29 : decode cX7_copies 29 = .ok (.iload_n 3, 1) := by decide +kernel
theorem dX7_copies_30 : decode cX7_copies 30 = .ok (.iadd, 1) := by decide +kernel
theorem dX7_copies_31 : decode cX7_copies 31 = .ok (.iaload, 1) := by decide +kernel
theorem dX7_copies_32 : decode cX7_copies 32 = .ok (.iastore, 1) := by decide +kernel
theorem dX7_copies_33 : decode cX7_copies 33 = .ok (.iinc 3 1, 3) := by decide +kernel
theorem dX7_copies_36 : decode cX7_copies 36 = .ok (.goto (-34), 3) := by decide +kernel
theorem dX7_copies_39 : decode cX7_copies 39 = .ok (.iconst 0, 1) := by decide +kernel
theorem dX7_copies_40 : decode cX7_copies 40 = .ok (.istore_n 3, 1) := by decide +kernel
theorem dX7_copies_41 : decode cX7_copies 41 = .ok (.iload_n 3, 1) := by decide +kernel
theorem dX7_copies_42 : decode cX7_copies 42 = .ok (.bipush 16, 2) := by decide +kernel
theorem dX7_copies_44 : decode cX7_copies 44 = .ok (.if_icmp .ge 31, 3) := by decide +kernel
theorem dX7_copies_47 : decode cX7_copies 47 = .ok (.aload_n 0, 1) := by decide +kernel
theorem dX7_copies_48 : decode cX7_copies 48 = .ok (.getfield 13, 3) := by decide +kernel
theorem dX7_copies_51 : decode cX7_copies 51 = .ok (.bipush 16, 2) := by decide +kernel
theorem dX7_copies_53 : decode cX7_copies 53 = .ok (.iload_n 2, 1) := by decide +kernel
theorem dX7_copies_54 : decode cX7_copies 54 = .ok (.imul, 1) := by decide +kernel
theorem dX7_copies_55 : decode cX7_copies 55 = .ok (.iload_n 3, 1) := by decide +kernel
theorem dX7_copies_56 : decode cX7_copies 56 = .ok (.iadd, 1) := by decide +kernel
theorem dX7_copies_57 : decode cX7_copies 57 = .ok (.aload_n 0, 1) := by decide +kernel
theorem dX7_copies_58 : decode cX7_copies 58 = .ok (.getfield 13, 3) := by decide +kernel
theorem dX7_copies_61 : decode cX7_copies 61 = .ok (.bipush 16, 2) := by decide +kernel
theorem dX7_copies_63 : decode cX7_copies 63 = .ok (.iload_n 1, 1) := by decide +kernel
theorem dX7_copies_64 : decode cX7_copies 64 = .ok (.imul, 1) := by decide +kernel
theorem dX7_copies_65 : decode cX7_copies 65 = .ok (.iload_n 3, 1) := by decide +kernel
theorem dX7_copies_66 : decode cX7_copies 66 = .ok (.iadd, 1) := by decide +kernel
theorem dX7_copies_67 : decode cX7_copies 67 = .ok (.laload, 1) := by decide +kernel
theorem dX7_copies_68 : decode cX7_copies 68 = .ok (.lastore, 1) := by decide +kernel
theorem dX7_copies_69 : decode cX7_copies 69 = .ok (.iinc 3 1, 3) := by decide +kernel
theorem dX7_copies_72 : decode cX7_copies 72 = .ok (.goto (-31), 3) := by decide +kernel
theorem dX7_copies_75 : decode cX7_copies 75 = .ok (.return_, 1) := by decide +kernel
theorem dX7_keeps_0 : decode cX7_keeps 0 = .ok (.iconst 1, 1) := by decide +kernel
theorem dX7_keeps_1 : decode cX7_keeps 1 = .ok (.istore_n 1, 1) := by decide +kernel
theorem dX7_keeps_2 : decode cX7_keeps 2 = .ok (.iload_n 1, 1) := by decide +kernel
theorem dX7_keeps_3 : decode cX7_keeps 3 = .ok (.iconst 5, 1) := by decide +kernel
theorem dX7_keeps_4 : decode cX7_keeps 4 = .ok (.if_icmp .ge 25, 3) := by decide +kernel
theorem dX7_keeps_7 : decode cX7_keeps 7 = .ok (.aload_n 0, 1) := by decide +kernel
theorem dX7_keeps_8 : decode cX7_keeps 8 = .ok (.getfield 27, 3) := by decide +kernel
theorem dX7_keeps_11 : decode cX7_keeps 11 = .ok (.iconst 5, 1) := by decide +kernel
theorem dX7_keeps_12 : decode cX7_keeps 12 = .ok (.if_icmp .ne 17, 3) := by decide +kernel
theorem dX7_keeps_15 : decode cX7_keeps 15 = .ok (.aload_n 0, 1) := by decide +kernel
theorem dX7_keeps_16 : decode cX7_keeps 16 = .ok (.iload_n 1, 1) := by decide +kernel
theorem dX7_keeps_17 : decode cX7_keeps 17 = .ok (.iconst 1, 1) := by decide +kernel
theorem dX7_keeps_18 : decode cX7_keeps 18 = .ok (.iadd, 1) := by decide +kernel
theorem dX7_keeps_19 : decode cX7_keeps 19 = .ok (.iload_n 1, 1) := by decide +kernel
theorem dX7_keeps_20 : decode cX7_keeps 20 = .ok (.invokevirtual 31, 3) := by decide +kernel
theorem dX7_keeps_23 : decode cX7_keeps 23 = .ok (.iinc 1 1, 3) := by decide +kernel
theorem dX7_keeps_26 : decode cX7_keeps 26 = .ok (.goto (-24), 3) := by decide +kernel
theorem dX7_keeps_29 : decode cX7_keeps 29 = .ok (.aload_n 0, 1) := by decide +kernel
theorem dX7_keeps_30 : decode cX7_keeps 30 = .ok (.dup, 1) := by decide +kernel
theorem dX7_keeps_31 : decode cX7_keeps 31 = .ok (.getfield 27, 3) := by decide +kernel
theorem dX7_keeps_34 : decode cX7_keeps 34 = .ok (.aload_n 0, 1) := by decide +kernel
theorem dX7_keeps_35 : decode cX7_keeps 35 = .ok (.getfield 27, 3) := by decide +kernel
theorem dX7_keeps_38 : decode cX7_keeps 38 = .ok (.iconst 5, 1) := by decide +kernel
theorem dX7_keeps_39 : decode cX7_keeps 39 = .ok (.if_icmp .ne 7, 3) := by decide +kernel
theorem dX7_keeps_42 : decode cX7_keeps 42 = .ok (.iconst 1, 1) := by decide +kernel
theorem dX7_keeps_43 : decode cX7_keeps 43 = .ok (.goto 4, 3) := by decide +kernel
theorem dX7_keeps_46 : decode cX7_keeps 46 = .ok (.iconst 0, 1) := by decide +kernel
theorem dX7_keeps_47 : decode cX7_keeps 47 = .ok (.isub, 1) := by decide +kernel
theorem dX7_keeps_48 : decode cX7_keeps 48 = .ok (.putfield 27, 3) := by decide +kernel
theorem dX7_keeps_51 : decode cX7_keeps 51 = .ok (.aload_n 0, 1) := by decide +kernel
theorem dX7_keeps_52 : decode cX7_keeps 52 = .ok (.dup, 1) := by decide +kernel
theorem dX7_keeps_53 : decode cX7_keeps 53 = .ok (.getfield 27, 3) := by decide +kernel
theorem dX7_keeps_56 : decode cX7_keeps 56 = .ok (.iconst 1, 1) := by decide +kernel
theorem dX7_keeps_57 : decode cX7_keeps 57 = .ok (.iadd, 1) := by decide +kernel
theorem dX7_keeps_58 : decode cX7_keeps 58 = .ok (.putfield 27, 3) := by decide +kernel
theorem dX7_keeps_61 : decode cX7_keeps 61 = .ok (.aload_n 0, 1) := by decide +kernel
theorem dX7_keeps_62 : decode cX7_keeps 62 = .ok (.iconst 0, 1) := by decide +kernel
theorem dX7_keeps_63 : decode cX7_keeps 63 = .ok (.aload_n 0, 1) := by decide +kernel
theorem dX7_keeps_64 : decode cX7_keeps 64 = .ok (.getfield 27, 3) := by decide +kernel
theorem dX7_keeps_67 : decode cX7_keeps 67 = .ok (.invokevirtual 31, 3) := by decide +kernel
theorem dX7_keeps_70 : decode cX7_keeps 70 = .ok (.return_, 1) := by decide +kernel
theorem dX7_of_0 : decode cX7_of 0 = .ok (.aload_n 0, 1) := by decide +kernel
theorem dX7_of_1 : decode cX7_of 1 = .ok (.getfield 7, 3) := by decide +kernel
theorem dX7_of_4 : decode cX7_of 4 = .ok (.bipush 19, 2) := by decide +kernel
theorem dX7_of_6 : decode cX7_of 6 = .ok (.bipush 7, 2) := by decide +kernel
theorem dX7_of_8 : decode cX7_of 8 = .ok (.iload_n 1, 1) := by decide +kernel
theorem dX7_of_9 : decode cX7_of 9 = .ok (.imul, 1) := by decide +kernel
theorem dX7_of_10 : decode cX7_of 10 = .ok (.iadd, 1) := by decide +kernel
theorem dX7_of_11 : decode cX7_of 11 = .ok (.iload_n 2, 1) := by decide +kernel
theorem dX7_of_12 : decode cX7_of 12 = .ok (.iadd, 1) := by decide +kernel
theorem dX7_of_13 : decode cX7_of 13 = .ok (.iaload, 1) := by decide +kernel
theorem dX7_of_14 : decode cX7_of 14 = .ok (.ireturn, 1) := by decide +kernel
theorem dX7_isHeader_0 : decode cX7_isHeader 0 = .ok (.iload_n 0, 1) := by decide +kernel
theorem dX7_isHeader_1 : decode cX7_isHeader 1 = .ok (.iconst 0, 1) := by decide +kernel
theorem dX7_isHeader_2 : decode cX7_isHeader 2 = .ok (.iconst 2, 1) := by decide +kernel
theorem dX7_isHeader_3 : decode cX7_isHeader 3 = .ok (.invokestatic 35, 3) := by decide +kernel
theorem dX7_isHeader_6 : decode cX7_isHeader 6 = .ok (.ireturn, 1) := by decide +kernel
theorem dX7_isLine_0 : decode cX7_isLine 0 = .ok (.iload_n 1, 1) := by decide +kernel
theorem dX7_isLine_1 : decode cX7_isLine 1 = .ok (.iconst 0, 1) := by decide +kernel
theorem dX7_isLine_2 : decode cX7_isLine 2 = .ok (.aload_n 0, 1) := by decide +kernel
theorem dX7_isLine_3 : decode cX7_isLine 3 = .ok (.getfield 7, 3) := by decide +kernel
theorem dX7_isLine_6 : decode cX7_isLine 6 = .ok (.iconst 0, 1) := by decide +kernel
theorem dX7_isLine_7 : decode cX7_isLine 7 = .ok (.iaload, 1) := by decide +kernel
theorem dX7_isLine_8 : decode cX7_isLine 8 = .ok (.iconst 1, 1) := by decide +kernel
theorem dX7_isLine_9 : decode cX7_isLine 9 = .ok (.isub, 1) := by decide +kernel
theorem dX7_isLine_10 : decode cX7_isLine 10 = .ok (.invokestatic 35, 3) := by decide +kernel
theorem dX7_isLine_13 : decode cX7_isLine 13 = .ok (.ireturn, 1) := by decide +kernel
theorem dX7_isTrap_0 : decode cX7_isTrap 0 = .ok (.iload_n 1, 1) := by decide +kernel
theorem dX7_isTrap_1 : decode cX7_isTrap 1 = .ok (.iconst 0, 1) := by decide +kernel
theorem dX7_isTrap_2 : decode cX7_isTrap 2 = .ok (.aload_n 0, 1) := by decide +kernel
theorem dX7_isTrap_3 : decode cX7_isTrap 3 = .ok (.getfield 7, 3) := by decide +kernel
theorem dX7_isTrap_6 : decode cX7_isTrap 6 = .ok (.iconst 1, 1) := by decide +kernel
theorem dX7_isTrap_7 : decode cX7_isTrap 7 = .ok (.iaload, 1) := by decide +kernel
theorem dX7_isTrap_8 : decode cX7_isTrap 8 = .ok (.iconst 1, 1) := by decide +kernel
theorem dX7_isTrap_9 : decode cX7_isTrap 9 = .ok (.isub, 1) := by decide +kernel
theorem dX7_isTrap_10 : decode cX7_isTrap 10 = .ok (.invokestatic 35, 3) := by decide +kernel
theorem dX7_isTrap_13 : decode cX7_isTrap 13 = .ok (.ireturn, 1) := by decide +kernel
theorem dX7_header_0 : decode cX7_header 0 = .ok (.aload_n 0, 1) := by decide +kernel
theorem dX7_header_1 : decode cX7_header 1 = .ok (.getfield 7, 3) := by decide +kernel
theorem dX7_header_4 : decode cX7_header 4 = .ok (.bipush 11, 2) := by decide +kernel
theorem dX7_header_6 : decode cX7_header 6 = .ok (.aload_n 0, 1) := by decide +kernel
theorem dX7_header_7 : decode cX7_header 7 = .ok (.iload_n 1, 1) := by decide +kernel
theorem dX7_header_8 : decode cX7_header 8 = .ok (.iconst 0, 1) := by decide +kernel
theorem dX7_header_9 : decode cX7_header 9 = .ok (.invokevirtual 39, 3) := by decide +kernel
theorem dX7_header_12 : decode cX7_header 12 = .ok (.iadd, 1) := by decide +kernel
theorem dX7_header_13 : decode cX7_header 13 = .ok (.iaload, 1) := by decide +kernel
theorem dX7_header_14 : decode cX7_header 14 = .ok (.ireturn, 1) := by decide +kernel
theorem dX7_setPressure_0 : decode cX7_setPressure 0 = .ok (.iload_n 1, 1) := by decide +kernel
theorem dX7_setPressure_1 : decode cX7_setPressure 1 = .ok (.invokestatic 43, 3) := by decide +kernel
theorem dX7_setPressure_4 : decode cX7_setPressure 4 = .ok (.ifCond .ne 6, 3) := by decide +kernel
theorem dX7_setPressure_7 : decode cX7_setPressure 7 = .ok (.bipush (-2), 2) := by decide +kernel
theorem dX7_setPressure_9 : decode cX7_setPressure 9 = .ok (.ireturn, 1) := by decide +kernel
theorem dX7_setPressure_10 : decode cX7_setPressure 10 = .ok (.iload_n 2, 1) := by decide +kernel
theorem dX7_setPressure_11 : decode cX7_setPressure 11 = .ok (.iconst 1, 1) := by decide +kernel
theorem dX7_setPressure_12 : decode cX7_setPressure 12 = .ok (.bipush 20, 2) := by decide +kernel
theorem dX7_setPressure_14 : decode cX7_setPressure 14 = .ok (.invokestatic 35, 3) := by decide +kernel
theorem dX7_setPressure_17 : decode cX7_setPressure 17 = .ok (.ifCond .ne 6, 3) := by decide +kernel
theorem dX7_setPressure_20 : decode cX7_setPressure 20 = .ok (.bipush (-3), 2) := by decide +kernel
theorem dX7_setPressure_22 : decode cX7_setPressure 22 = .ok (.ireturn, 1) := by decide +kernel
theorem dX7_setPressure_23 : decode cX7_setPressure 23 = .ok (.aload_n 0, 1) := by decide +kernel
theorem dX7_setPressure_24 : decode cX7_setPressure 24 = .ok (.invokevirtual 47, 3) := by decide +kernel
theorem dX7_setPressure_27 : decode cX7_setPressure 27 = .ok (.aload_n 0, 1) := by decide +kernel
theorem dX7_setPressure_28 : decode cX7_setPressure 28 = .ok (.getfield 7, 3) := by decide +kernel
theorem dX7_setPressure_31 : decode cX7_setPressure 31 = .ok (.bipush 8, 2) := by decide +kernel
theorem dX7_setPressure_33 : decode cX7_setPressure 33 = .ok (.iload_n 1, 1) := by decide +kernel
theorem dX7_setPressure_34 : decode cX7_setPressure 34 = .ok (.iadd, 1) := by decide +kernel
theorem dX7_setPressure_35 : decode cX7_setPressure 35 = .ok (.iaload, 1) := by decide +kernel
theorem dX7_setPressure_36 : decode cX7_setPressure 36 = .ok (.istore_n 3, 1) := by decide +kernel
theorem dX7_setPressure_37 : decode cX7_setPressure 37 = .ok (.aload_n 0, 1) := by decide +kernel
theorem dX7_setPressure_38 : decode cX7_setPressure 38 = .ok (.getfield 7, 3) := by decide +kernel
theorem dX7_setPressure_41 : decode cX7_setPressure 41 = .ok (.bipush 8, 2) := by decide +kernel
theorem dX7_setPressure_43 : decode cX7_setPressure 43 = .ok (.iload_n 1, 1) := by decide +kernel
theorem dX7_setPressure_44 : decode cX7_setPressure 44 = .ok (.iadd, 1) := by decide +kernel
theorem dX7_setPressure_45 : decode cX7_setPressure 45 = .ok (.iload_n 2, 1) := by decide +kernel
theorem dX7_setPressure_46 : decode cX7_setPressure 46 = .ok (.iastore, 1) := by decide +kernel
theorem dX7_setPressure_47 : decode cX7_setPressure 47 = .ok (.iload_n 3, 1) := by decide +kernel
theorem dX7_setPressure_48 : decode cX7_setPressure 48 = .ok (.ireturn, 1) := by decide +kernel
theorem dX7_addLine_0 : decode cX7_addLine 0 = .ok (.iload_n 1, 1) := by decide +kernel
theorem dX7_addLine_1 : decode cX7_addLine 1 = .ok (.invokestatic 43, 3) := by decide +kernel
theorem dX7_addLine_4 : decode cX7_addLine 4 = .ok (.ifCond .ne 6, 3) := by decide +kernel
theorem dX7_addLine_7 : decode cX7_addLine 7 = .ok (.bipush (-2), 2) := by decide +kernel
theorem dX7_addLine_9 : decode cX7_addLine 9 = .ok (.ireturn, 1) := by decide +kernel
theorem dX7_addLine_10 : decode cX7_addLine 10 = .ok (.aload_n 0, 1) := by decide +kernel
theorem dX7_addLine_11 : decode cX7_addLine 11 = .ok (.getfield 7, 3) := by decide +kernel
theorem dX7_addLine_14 : decode cX7_addLine 14 = .ok (.iconst 0, 1) := by decide +kernel
theorem dX7_addLine_15 : decode cX7_addLine 15 = .ok (.iaload, 1) := by decide +kernel
theorem dX7_addLine_16 : decode cX7_addLine 16 = .ok (.bipush 8, 2) := by decide +kernel
theorem dX7_addLine_18 : decode cX7_addLine 18 = .ok (.if_icmp .ne 6, 3) := by decide +kernel
theorem dX7_addLine_21 : decode cX7_addLine 21 = .ok (.bipush (-5), 2) := by decide +kernel
theorem dX7_addLine_23 : decode cX7_addLine 23 = .ok (.ireturn, 1) := by decide +kernel
theorem dX7_addLine_24 : decode cX7_addLine 24 = .ok (.aload_n 0, 1) := by decide +kernel
theorem dX7_addLine_25 : decode cX7_addLine 25 = .ok (.invokevirtual 47, 3) := by decide +kernel
theorem dX7_addLine_28 : decode cX7_addLine 28 = .ok (.aload_n 0, 1) := by decide +kernel
theorem dX7_addLine_29 : decode cX7_addLine 29 = .ok (.getfield 7, 3) := by decide +kernel
theorem dX7_addLine_32 : decode cX7_addLine 32 = .ok (.bipush 11, 2) := by decide +kernel
theorem dX7_addLine_34 : decode cX7_addLine 34 = .ok (.aload_n 0, 1) := by decide +kernel
theorem dX7_addLine_35 : decode cX7_addLine 35 = .ok (.getfield 7, 3) := by decide +kernel
theorem dX7_addLine_38 : decode cX7_addLine 38 = .ok (.iconst 0, 1) := by decide +kernel
theorem dX7_addLine_39 : decode cX7_addLine 39 = .ok (.iaload, 1) := by decide +kernel
theorem dX7_addLine_40 : decode cX7_addLine 40 = .ok (.iadd, 1) := by decide +kernel
theorem dX7_addLine_41 : decode cX7_addLine 41 = .ok (.iload_n 1, 1) := by decide +kernel
theorem dX7_addLine_42 : decode cX7_addLine 42 = .ok (.iastore, 1) := by decide +kernel
theorem dX7_addLine_43 : decode cX7_addLine 43 = .ok (.aload_n 0, 1) := by decide +kernel
theorem dX7_addLine_44 : decode cX7_addLine 44 = .ok (.getfield 7, 3) := by decide +kernel
theorem dX7_addLine_47 : decode cX7_addLine 47 = .ok (.iconst 0, 1) := by decide +kernel
theorem dX7_addLine_48 : decode cX7_addLine 48 = .ok (.dup2, 1) := by decide +kernel
theorem dX7_addLine_49 : decode cX7_addLine 49 = .ok (.iaload, 1) := by decide +kernel
theorem dX7_addLine_50 : decode cX7_addLine 50 = .ok (.iconst 1, 1) := by decide +kernel
theorem dX7_addLine_51 : decode cX7_addLine 51 = .ok (.iadd, 1) := by decide +kernel
theorem dX7_addLine_52 : decode cX7_addLine 52 = .ok (.iastore, 1) := by decide +kernel
theorem dX7_addLine_53 : decode cX7_addLine 53 = .ok (.aload_n 0, 1) := by decide +kernel
theorem dX7_addLine_54 : decode cX7_addLine 54 = .ok (.getfield 7, 3) := by decide +kernel
theorem dX7_addLine_57 : decode cX7_addLine 57 = .ok (.iconst 0, 1) := by decide +kernel
theorem dX7_addLine_58 : decode cX7_addLine 58 = .ok (.iaload, 1) := by decide +kernel
theorem dX7_addLine_59 : decode cX7_addLine 59 = .ok (.iconst 1, 1) := by decide +kernel
theorem dX7_addLine_60 : decode cX7_addLine 60 = .ok (.isub, 1) := by decide +kernel
theorem dX7_addLine_61 : decode cX7_addLine 61 = .ok (.ireturn, 1) := by decide +kernel
theorem dX7_addTrap_0 : decode cX7_addTrap 0 = .ok (.aload_n 0, 1) := by decide +kernel
theorem dX7_addTrap_1 : decode cX7_addTrap 1 = .ok (.iload_n 1, 1) := by decide +kernel
theorem dX7_addTrap_2 : decode cX7_addTrap 2 = .ok (.invokevirtual 50, 3) := by decide +kernel
theorem dX7_addTrap_5 : decode cX7_addTrap 5 = .ok (.ifCond .ne 6, 3) := by decide +kernel
theorem dX7_addTrap_8 : decode cX7_addTrap 8 = .ok (.bipush (-2), 2) := by decide +kernel
theorem dX7_addTrap_10 : decode cX7_addTrap 10 = .ok (.ireturn, 1) := by decide +kernel
theorem dX7_addTrap_11 : decode cX7_addTrap 11 = .ok (.iload_n 2, 1) := by decide +kernel
theorem dX7_addTrap_12 : decode cX7_addTrap 12 = .ok (.iconst 0, 1) := by decide +kernel
theorem dX7_addTrap_13 : decode cX7_addTrap 13 = .ok (.iconst 2, 1) := by decide +kernel
theorem dX7_addTrap_14 : decode cX7_addTrap 14 = .ok (.invokestatic 35, 3) := by decide +kernel
theorem dX7_addTrap_17 : decode cX7_addTrap 17 = .ok (.ifCond .eq 35, 3) := by decide +kernel
theorem dX7_addTrap_20 : decode cX7_addTrap 20 = .ok (.iload_n 3, 1) := by decide +kernel
theorem dX7_addTrap_21 : decode cX7_addTrap 21 = .ok (.iconst 1, 1) := by decide +kernel
theorem dX7_addTrap_22 : decode cX7_addTrap 22 = .ok (.bipush 9, 2) := by decide +kernel
theorem dX7_addTrap_24 : decode cX7_addTrap 24 = .ok (.invokestatic 35, 3) := by decide +kernel
theorem dX7_addTrap_27 : decode cX7_addTrap 27 = .ok (.ifCond .eq 25, 3) := by decide +kernel
theorem dX7_addTrap_30 : decode cX7_addTrap 30 = .ok (.iload 4, 2) := by decide +kernel
theorem dX7_addTrap_32 : decode cX7_addTrap 32 = .ok (.iconst 0, 1) := by decide +kernel
theorem dX7_addTrap_33 : decode cX7_addTrap 33 = .ok (.bipush 50, 2) := by decide +kernel
theorem dX7_addTrap_35 : decode cX7_addTrap 35 = .ok (.invokestatic 35, 3) := by decide +kernel
theorem dX7_addTrap_38 : decode cX7_addTrap 38 = .ok (.ifCond .eq 14, 3) := by decide +kernel
theorem dX7_addTrap_41 : decode cX7_addTrap 41 = .ok (.iload 5, 2) := by decide +kernel
theorem dX7_addTrap_43 : decode cX7_addTrap 43 = .ok (.iconst 0, 1) := by decide +kernel
theorem dX7_addTrap_44 : decode cX7_addTrap 44 = .ok (.bipush 50, 2) := by decide +kernel
theorem dX7_addTrap_46 : decode cX7_addTrap 46 = .ok (.invokestatic 35, 3) := by decide +kernel
theorem dX7_addTrap_49 : decode cX7_addTrap 49 = .ok (.ifCond .ne 6, 3) := by decide +kernel
theorem dX7_addTrap_52 : decode cX7_addTrap 52 = .ok (.bipush (-3), 2) := by decide +kernel
theorem dX7_addTrap_54 : decode cX7_addTrap 54 = .ok (.ireturn, 1) := by decide +kernel
theorem dX7_addTrap_55 : decode cX7_addTrap 55 = .ok (.aload_n 0, 1) := by decide +kernel
theorem dX7_addTrap_56 : decode cX7_addTrap 56 = .ok (.getfield 7, 3) := by decide +kernel
theorem dX7_addTrap_59 : decode cX7_addTrap 59 = .ok (.iconst 1, 1) := by decide +kernel
theorem dX7_addTrap_60 : decode cX7_addTrap 60 = .ok (.iaload, 1) := by decide +kernel
theorem dX7_addTrap_61 : decode cX7_addTrap 61 = .ok (.bipush 16, 2) := by decide +kernel
theorem dX7_addTrap_63 : decode cX7_addTrap 63 = .ok (.if_icmp .ne 6, 3) := by decide +kernel
theorem dX7_addTrap_66 : decode cX7_addTrap 66 = .ok (.bipush (-5), 2) := by decide +kernel
theorem dX7_addTrap_68 : decode cX7_addTrap 68 = .ok (.ireturn, 1) := by decide +kernel
theorem dX7_addTrap_69 : decode cX7_addTrap 69 = .ok (.aload_n 0, 1) := by decide +kernel
theorem dX7_addTrap_70 : decode cX7_addTrap 70 = .ok (.invokevirtual 47, 3) := by decide +kernel
theorem dX7_addTrap_73 : decode cX7_addTrap 73 = .ok (.bipush 19, 2) := by decide +kernel
theorem dX7_addTrap_75 : decode cX7_addTrap 75 = .ok (.bipush 7, 2) := by decide +kernel
theorem dX7_addTrap_77 : decode cX7_addTrap 77 = .ok (.aload_n 0, 1) := by decide +kernel
theorem dX7_addTrap_78 : decode cX7_addTrap 78 = .ok (.getfield 7, 3) := by decide +kernel
theorem dX7_addTrap_81 : decode cX7_addTrap 81 = .ok (.iconst 1, 1) := by decide +kernel
theorem dX7_addTrap_82 : decode cX7_addTrap 82 = .ok (.iaload, 1) := by decide +kernel
theorem dX7_addTrap_83 : decode cX7_addTrap 83 = .ok (.imul, 1) := by decide +kernel
theorem dX7_addTrap_84 : decode cX7_addTrap 84 = .ok (.iadd, 1) := by decide +kernel
theorem dX7_addTrap_85 : decode cX7_addTrap 85 = .ok (.istore 6, 2) := by decide +kernel
theorem dX7_addTrap_87 : decode cX7_addTrap 87 = .ok (.aload_n 0, 1) := by decide +kernel
theorem dX7_addTrap_88 : decode cX7_addTrap 88 = .ok (.getfield 7, 3) := by decide +kernel
theorem dX7_addTrap_91 : decode cX7_addTrap 91 = .ok (.iload 6, 2) := by decide +kernel
theorem dX7_addTrap_93 : decode cX7_addTrap 93 = .ok (.iload_n 1, 1) := by decide +kernel
theorem dX7_addTrap_94 : decode cX7_addTrap 94 = .ok (.iastore, 1) := by decide +kernel
theorem dX7_addTrap_95 : decode cX7_addTrap 95 = .ok (.aload_n 0, 1) := by decide +kernel
theorem dX7_addTrap_96 : decode cX7_addTrap 96 = .ok (.getfield 7, 3) := by decide +kernel
theorem dX7_addTrap_99 : decode cX7_addTrap 99 = .ok (.iload 6, 2) := by decide +kernel
theorem dX7_addTrap_101 : decode cX7_addTrap 101 = .ok (.iconst 1, 1) := by decide +kernel
theorem dX7_addTrap_102 : decode cX7_addTrap 102 = .ok (.iadd, 1) := by decide +kernel
theorem dX7_addTrap_103 : decode cX7_addTrap 103 = .ok (.iload_n 2, 1) := by decide +kernel
theorem dX7_addTrap_104 : decode cX7_addTrap 104 = .ok (.iastore, 1) := by decide +kernel
theorem dX7_addTrap_105 : decode cX7_addTrap 105 = .ok (.aload_n 0, 1) := by decide +kernel
theorem dX7_addTrap_106 : decode cX7_addTrap 106 = .ok (.getfield 7, 3) := by decide +kernel
theorem dX7_addTrap_109 : decode cX7_addTrap 109 = .ok (.iload 6, 2) := by decide +kernel
theorem dX7_addTrap_111 : decode cX7_addTrap 111 = .ok (.iconst 2, 1) := by decide +kernel
theorem dX7_addTrap_112 : decode cX7_addTrap 112 = .ok (.iadd, 1) := by decide +kernel
theorem dX7_addTrap_113 : decode cX7_addTrap 113 = .ok (.iload_n 3, 1) := by decide +kernel
theorem dX7_addTrap_114 : decode cX7_addTrap 114 = .ok (.iastore, 1) := by decide +kernel
theorem dX7_addTrap_115 : decode cX7_addTrap 115 = .ok (.aload_n 0, 1) := by decide +kernel
theorem dX7_addTrap_116 : decode cX7_addTrap 116 = .ok (.getfield 7, 3) := by decide +kernel
theorem dX7_addTrap_119 : decode cX7_addTrap 119 = .ok (.iload 6, 2) := by decide +kernel
theorem dX7_addTrap_121 : decode cX7_addTrap 121 = .ok (.iconst 3, 1) := by decide +kernel
theorem dX7_addTrap_122 : decode cX7_addTrap 122 = .ok (.iadd, 1) := by decide +kernel
theorem dX7_addTrap_123 : decode cX7_addTrap 123 = .ok (.iload 4, 2) := by decide +kernel
theorem dX7_addTrap_125 : decode cX7_addTrap 125 = .ok (.iastore, 1) := by decide +kernel
theorem dX7_addTrap_126 : decode cX7_addTrap 126 = .ok (.aload_n 0, 1) := by decide +kernel
theorem dX7_addTrap_127 : decode cX7_addTrap 127 = .ok (.getfield 7, 3) := by decide +kernel
theorem dX7_addTrap_130 : decode cX7_addTrap 130 = .ok (.iload 6, 2) := by decide +kernel
theorem dX7_addTrap_132 : decode cX7_addTrap 132 = .ok (.iconst 4, 1) := by decide +kernel
theorem dX7_addTrap_133 : decode cX7_addTrap 133 = .ok (.iadd, 1) := by decide +kernel
theorem dX7_addTrap_134 : decode cX7_addTrap 134 = .ok (.iload 5, 2) := by decide +kernel
theorem dX7_addTrap_136 : decode cX7_addTrap 136 = .ok (.iastore, 1) := by decide +kernel
theorem dX7_addTrap_137 : decode cX7_addTrap 137 = .ok (.aload_n 0, 1) := by decide +kernel
theorem dX7_addTrap_138 : decode cX7_addTrap 138 = .ok (.getfield 7, 3) := by decide +kernel
theorem dX7_addTrap_141 : decode cX7_addTrap 141 = .ok (.iload 6, 2) := by decide +kernel
theorem dX7_addTrap_143 : decode cX7_addTrap 143 = .ok (.iconst 5, 1) := by decide +kernel
theorem dX7_addTrap_144 : decode cX7_addTrap 144 = .ok (.iadd, 1) := by decide +kernel
theorem dX7_addTrap_145 : decode cX7_addTrap 145 = .ok (.iconst 0, 1) := by decide +kernel
theorem dX7_addTrap_146 : decode cX7_addTrap 146 = .ok (.iastore, 1) := by decide +kernel
theorem dX7_addTrap_147 : decode cX7_addTrap 147 = .ok (.aload_n 0, 1) := by decide +kernel
theorem dX7_addTrap_148 : decode cX7_addTrap 148 = .ok (.getfield 7, 3) := by decide +kernel
theorem dX7_addTrap_151 : decode cX7_addTrap 151 = .ok (.iload 6, 2) := by decide +kernel
theorem dX7_addTrap_153 : decode cX7_addTrap 153 = .ok (.bipush 6, 2) := by decide +kernel
theorem dX7_addTrap_155 : decode cX7_addTrap 155 = .ok (.iadd, 1) := by decide +kernel
theorem dX7_addTrap_156 : decode cX7_addTrap 156 = .ok (.iconst (-1), 1) := by decide +kernel
theorem dX7_addTrap_157 : decode cX7_addTrap 157 = .ok (.iastore, 1) := by decide +kernel
theorem dX7_addTrap_158 : decode cX7_addTrap 158 = .ok (.aload_n 0, 1) := by decide +kernel
theorem dX7_addTrap_159 : decode cX7_addTrap 159 = .ok (.getfield 13, 3) := by decide +kernel
theorem dX7_addTrap_162 : decode cX7_addTrap 162 = .ok (.aload_n 0, 1) := by decide +kernel
theorem dX7_addTrap_163 : decode cX7_addTrap 163 = .ok (.getfield 7, 3) := by decide +kernel
theorem dX7_addTrap_166 : decode cX7_addTrap 166 = .ok (.iconst 1, 1) := by decide +kernel
theorem dX7_addTrap_167 : decode cX7_addTrap 167 = .ok (.iaload, 1) := by decide +kernel
theorem dX7_addTrap_168 : decode cX7_addTrap 168 = .ok (.lconst 0, 1) := by decide +kernel
theorem dX7_addTrap_169 : decode cX7_addTrap 169 = .ok (.lastore, 1) := by decide +kernel
theorem dX7_addTrap_170 : decode cX7_addTrap 170 = .ok (.aload_n 0, 1) := by decide +kernel
theorem dX7_addTrap_171 : decode cX7_addTrap 171 = .ok (.getfield 7, 3) := by decide +kernel
theorem dX7_addTrap_174 : decode cX7_addTrap 174 = .ok (.iconst 1, 1) := by decide +kernel
theorem dX7_addTrap_175 : decode cX7_addTrap 175 = .ok (.dup2, 1) := by decide +kernel
theorem dX7_addTrap_176 : decode cX7_addTrap 176 = .ok (.iaload, 1) := by decide +kernel
theorem dX7_addTrap_177 : decode cX7_addTrap 177 = .ok (.iconst 1, 1) := by decide +kernel
theorem dX7_addTrap_178 : decode cX7_addTrap 178 = .ok (.iadd, 1) := by decide +kernel
theorem dX7_addTrap_179 : decode cX7_addTrap 179 = .ok (.iastore, 1) := by decide +kernel
theorem dX7_addTrap_180 : decode cX7_addTrap 180 = .ok (.aload_n 0, 1) := by decide +kernel
theorem dX7_addTrap_181 : decode cX7_addTrap 181 = .ok (.getfield 7, 3) := by decide +kernel
theorem dX7_addTrap_184 : decode cX7_addTrap 184 = .ok (.iconst 1, 1) := by decide +kernel
theorem dX7_addTrap_185 : decode cX7_addTrap 185 = .ok (.iaload, 1) := by decide +kernel
theorem dX7_addTrap_186 : decode cX7_addTrap 186 = .ok (.iconst 1, 1) := by decide +kernel
theorem dX7_addTrap_187 : decode cX7_addTrap 187 = .ok (.isub, 1) := by decide +kernel
theorem dX7_addTrap_188 : decode cX7_addTrap 188 = .ok (.ireturn, 1) := by decide +kernel
theorem dX7_moveLine_0 : decode cX7_moveLine 0 = .ok (.aload_n 0, 1) := by decide +kernel
theorem dX7_moveLine_1 : decode cX7_moveLine 1 = .ok (.iload_n 1, 1) := by decide +kernel
theorem dX7_moveLine_2 : decode cX7_moveLine 2 = .ok (.invokevirtual 50, 3) := by decide +kernel
theorem dX7_moveLine_5 : decode cX7_moveLine 5 = .ok (.ifCond .eq 10, 3) := by decide +kernel
theorem dX7_moveLine_8 : decode cX7_moveLine 8 = .ok (.iload_n 2, 1) := by decide +kernel
theorem dX7_moveLine_9 : decode cX7_moveLine 9 = .ok (.invokestatic 43, 3) := by decide +kernel
theorem dX7_moveLine_12 : decode cX7_moveLine 12 = .ok (.ifCond .ne 6, 3) := by decide +kernel
theorem dX7_moveLine_15 : decode cX7_moveLine 15 = .ok (.bipush (-2), 2) := by decide +kernel
theorem dX7_moveLine_17 : decode cX7_moveLine 17 = .ok (.ireturn, 1) := by decide +kernel
theorem dX7_moveLine_18 : decode cX7_moveLine 18 = .ok (.aload_n 0, 1) := by decide +kernel
theorem dX7_moveLine_19 : decode cX7_moveLine 19 = .ok (.invokevirtual 47, 3) := by decide +kernel
theorem dX7_moveLine_22 : decode cX7_moveLine 22 = .ok (.aload_n 0, 1) := by decide +kernel
theorem dX7_moveLine_23 : decode cX7_moveLine 23 = .ok (.getfield 7, 3) := by decide +kernel
theorem dX7_moveLine_26 : decode cX7_moveLine 26 = .ok (.bipush 11, 2) := by decide +kernel
theorem dX7_moveLine_28 : decode cX7_moveLine 28 = .ok (.iload_n 1, 1) := by decide +kernel
theorem dX7_moveLine_29 : decode cX7_moveLine 29 = .ok (.iadd, 1) := by decide +kernel
theorem dX7_moveLine_30 : decode cX7_moveLine 30 = .ok (.iaload, 1) := by decide +kernel
theorem dX7_moveLine_31 : decode cX7_moveLine 31 = .ok (.istore_n 3, 1) := by decide +kernel
theorem dX7_moveLine_32 : decode cX7_moveLine 32 = .ok (.aload_n 0, 1) := by decide +kernel
theorem dX7_moveLine_33 : decode cX7_moveLine 33 = .ok (.getfield 7, 3) := by decide +kernel
theorem dX7_moveLine_36 : decode cX7_moveLine 36 = .ok (.bipush 11, 2) := by decide +kernel
theorem dX7_moveLine_38 : decode cX7_moveLine 38 = .ok (.iload_n 1, 1) := by decide +kernel
theorem dX7_moveLine_39 : decode cX7_moveLine 39 = .ok (.iadd, 1) := by decide +kernel
theorem dX7_moveLine_40 : decode cX7_moveLine 40 = .ok (.iload_n 2, 1) := by decide +kernel
theorem dX7_moveLine_41 : decode cX7_moveLine 41 = .ok (.iastore, 1) := by decide +kernel
theorem dX7_moveLine_42 : decode cX7_moveLine 42 = .ok (.iload_n 3, 1) := by decide +kernel
theorem dX7_moveLine_43 : decode cX7_moveLine 43 = .ok (.ireturn, 1) := by decide +kernel
theorem dX7_setWork_0 : decode cX7_setWork 0 = .ok (.iload_n 1, 1) := by decide +kernel
theorem dX7_setWork_1 : decode cX7_setWork 1 = .ok (.iconst 1, 1) := by decide +kernel
theorem dX7_setWork_2 : decode cX7_setWork 2 = .ok (.bipush 24, 2) := by decide +kernel
theorem dX7_setWork_4 : decode cX7_setWork 4 = .ok (.invokestatic 35, 3) := by decide +kernel
theorem dX7_setWork_7 : decode cX7_setWork 7 = .ok (.ifCond .eq 25, 3) := by decide +kernel
theorem dX7_setWork_10 : decode cX7_setWork 10 = .ok (.iload_n 2, 1) := by decide +kernel
theorem dX7_setWork_11 : decode cX7_setWork 11 = .ok (.iconst 1, 1) := by decide +kernel
theorem dX7_setWork_12 : decode cX7_setWork 12 = .ok (.sipush 1000, 3) := by decide +kernel
theorem dX7_setWork_15 : decode cX7_setWork 15 = .ok (.invokestatic 35, 3) := by decide +kernel
theorem dX7_setWork_18 : decode cX7_setWork 18 = .ok (.ifCond .eq 14, 3) := by decide +kernel
theorem dX7_setWork_21 : decode cX7_setWork 21 = .ok (.iload_n 3, 1) := by decide +kernel
theorem dX7_setWork_22 : decode cX7_setWork 22 = .ok (.iconst 1, 1) := by decide +kernel
theorem dX7_setWork_23 : decode cX7_setWork 23 = .ok (.sipush 400, 3) := by decide +kernel
theorem dX7_setWork_26 : decode cX7_setWork 26 = .ok (.invokestatic 35, 3) := by decide +kernel
theorem dX7_setWork_29 : decode cX7_setWork 29 = .ok (.ifCond .ne 6, 3) := by decide +kernel
theorem dX7_setWork_32 : decode cX7_setWork 32 = .ok (.bipush (-3), 2) := by decide +kernel
theorem dX7_setWork_34 : decode cX7_setWork 34 = .ok (.ireturn, 1) := by decide +kernel
theorem dX7_setWork_35 : decode cX7_setWork 35 = .ok (.aload_n 0, 1) := by decide +kernel
theorem dX7_setWork_36 : decode cX7_setWork 36 = .ok (.invokevirtual 47, 3) := by decide +kernel
theorem dX7_setWork_39 : decode cX7_setWork 39 = .ok (.aload_n 0, 1) := by decide +kernel
theorem dX7_setWork_40 : decode cX7_setWork 40 = .ok (.getfield 7, 3) := by decide +kernel
theorem dX7_setWork_43 : decode cX7_setWork 43 = .ok (.iconst 2, 1) := by decide +kernel
theorem dX7_setWork_44 : decode cX7_setWork 44 = .ok (.iaload, 1) := by decide +kernel
theorem dX7_setWork_45 : decode cX7_setWork 45 = .ok (.istore 4, 2) := by decide +kernel
theorem dX7_setWork_47 : decode cX7_setWork 47 = .ok (.aload_n 0, 1) := by decide +kernel
theorem dX7_setWork_48 : decode cX7_setWork 48 = .ok (.getfield 7, 3) := by decide +kernel
theorem dX7_setWork_51 : decode cX7_setWork 51 = .ok (.iconst 2, 1) := by decide +kernel
theorem dX7_setWork_52 : decode cX7_setWork 52 = .ok (.iload_n 1, 1) := by decide +kernel
theorem dX7_setWork_53 : decode cX7_setWork 53 = .ok (.iastore, 1) := by decide +kernel
theorem dX7_setWork_54 : decode cX7_setWork 54 = .ok (.aload_n 0, 1) := by decide +kernel
theorem dX7_setWork_55 : decode cX7_setWork 55 = .ok (.getfield 7, 3) := by decide +kernel
theorem dX7_setWork_58 : decode cX7_setWork 58 = .ok (.iconst 3, 1) := by decide +kernel
theorem dX7_setWork_59 : decode cX7_setWork 59 = .ok (.iload_n 2, 1) := by decide +kernel
theorem dX7_setWork_60 : decode cX7_setWork 60 = .ok (.iastore, 1) := by decide +kernel
theorem dX7_setWork_61 : decode cX7_setWork 61 = .ok (.aload_n 0, 1) := by decide +kernel
theorem dX7_setWork_62 : decode cX7_setWork 62 = .ok (.getfield 7, 3) := by decide +kernel
theorem dX7_setWork_65 : decode cX7_setWork 65 = .ok (.iconst 4, 1) := by decide +kernel
theorem dX7_setWork_66 : decode cX7_setWork 66 = .ok (.iload_n 3, 1) := by decide +kernel
theorem dX7_setWork_67 : decode cX7_setWork 67 = .ok (.iastore, 1) := by decide +kernel
theorem dX7_setWork_68 : decode cX7_setWork 68 = .ok (.iload 4, 2) := by decide +kernel
theorem dX7_setWork_70 : decode cX7_setWork 70 = .ok (.ireturn, 1) := by decide +kernel
theorem dX7_count_0 : decode cX7_count 0 = .ok (.iload_n 1, 1) := by decide +kernel
theorem dX7_count_1 : decode cX7_count 1 = .ok (.iconst 0, 1) := by decide +kernel
theorem dX7_count_2 : decode cX7_count 2 = .ok (.bipush 7, 2) := by decide +kernel
theorem dX7_count_4 : decode cX7_count 4 = .ok (.invokestatic 35, 3) := by decide +kernel
theorem dX7_count_7 : decode cX7_count 7 = .ok (.ifCond .eq 12, 3) := by decide +kernel
theorem dX7_count_10 : decode cX7_count 10 = .ok (.aload_n 0, 1) := by decide +kernel
theorem dX7_count_11 : decode cX7_count 11 = .ok (.getfield 7, 3) := by decide +kernel
theorem dX7_count_14 : decode cX7_count 14 = .ok (.iload_n 1, 1) := by decide +kernel
theorem dX7_count_15 : decode cX7_count 15 = .ok (.iaload, 1) := by decide +kernel
theorem dX7_count_16 : decode cX7_count 16 = .ok (.goto 5, 3) := by decide +kernel
theorem dX7_count_19 : decode cX7_count 19 = .ok (.bipush (-3), 2) := by decide +kernel
theorem dX7_count_21 : decode cX7_count 21 = .ok (.ireturn, 1) := by decide +kernel
theorem dX7_trap_0 : decode cX7_trap 0 = .ok (.aload_n 0, 1) := by decide +kernel
theorem dX7_trap_1 : decode cX7_trap 1 = .ok (.iload_n 1, 1) := by decide +kernel
theorem dX7_trap_2 : decode cX7_trap 2 = .ok (.invokevirtual 53, 3) := by decide +kernel
theorem dX7_trap_5 : decode cX7_trap 5 = .ok (.ifCond .ne 6, 3) := by decide +kernel
theorem dX7_trap_8 : decode cX7_trap 8 = .ok (.bipush (-2), 2) := by decide +kernel
theorem dX7_trap_10 : decode cX7_trap 10 = .ok (.ireturn, 1) := by decide +kernel
theorem dX7_trap_11 : decode cX7_trap 11 = .ok (.iload_n 2, 1) := by decide +kernel
theorem dX7_trap_12 : decode cX7_trap 12 = .ok (.iconst 0, 1) := by decide +kernel
theorem dX7_trap_13 : decode cX7_trap 13 = .ok (.bipush 7, 2) := by decide +kernel
theorem dX7_trap_15 : decode cX7_trap 15 = .ok (.invokestatic 35, 3) := by decide +kernel
theorem dX7_trap_18 : decode cX7_trap 18 = .ok (.ifCond .ne 8, 3) := by decide +kernel
theorem dX7_trap_21 : decode cX7_trap 21 = .ok (.bipush (-3), 2) := by decide +kernel
theorem dX7_trap_23 : decode cX7_trap 23 = .ok (.goto 23, 3) := by decide +kernel
theorem dX7_trap_26 : decode cX7_trap 26 = .ok (.iload_n 2, 1) := by decide +kernel
theorem dX7_trap_27 : decode cX7_trap 27 = .ok (.bipush 7, 2) := by decide +kernel
theorem dX7_trap_29 : decode cX7_trap 29 = .ok (.if_icmp .ne 11, 3) := by decide +kernel
theorem dX7_trap_32 : decode cX7_trap 32 = .ok (.aload_n 0, 1) := by decide +kernel
theorem dX7_trap_33 : decode cX7_trap 33 = .ok (.iload_n 1, 1) := by decide +kernel
theorem dX7_trap_34 : decode cX7_trap 34 = .ok (.invokevirtual 56, 3) := by decide +kernel
theorem dX7_trap_37 : decode cX7_trap 37 = .ok (.goto 9, 3) := by decide +kernel
theorem dX7_trap_40 : decode cX7_trap 40 = .ok (.aload_n 0, 1) := by decide +kernel
theorem dX7_trap_41 : decode cX7_trap 41 = .ok (.iload_n 1, 1) := by decide +kernel
theorem dX7_trap_42 : decode cX7_trap 42 = .ok (.iload_n 2, 1) := by decide +kernel
theorem dX7_trap_43 : decode cX7_trap 43 = .ok (.invokevirtual 39, 3) := by decide +kernel
theorem dX7_trap_46 : decode cX7_trap 46 = .ok (.ireturn, 1) := by decide +kernel
theorem dX7_headerOf_0 : decode cX7_headerOf 0 = .ok (.aload_n 0, 1) := by decide +kernel
theorem dX7_headerOf_1 : decode cX7_headerOf 1 = .ok (.iload_n 1, 1) := by decide +kernel
theorem dX7_headerOf_2 : decode cX7_headerOf 2 = .ok (.invokevirtual 50, 3) := by decide +kernel
theorem dX7_headerOf_5 : decode cX7_headerOf 5 = .ok (.ifCond .eq 15, 3) := by decide +kernel
theorem dX7_headerOf_8 : decode cX7_headerOf 8 = .ok (.aload_n 0, 1) := by decide +kernel
theorem dX7_headerOf_9 : decode cX7_headerOf 9 = .ok (.getfield 7, 3) := by decide +kernel
theorem dX7_headerOf_12 : decode cX7_headerOf 12 = .ok (.bipush 11, 2) := by decide +kernel
theorem dX7_headerOf_14 : decode cX7_headerOf 14 = .ok (.iload_n 1, 1) := by decide +kernel
theorem dX7_headerOf_15 : decode cX7_headerOf 15 = .ok (.iadd, 1) := by decide +kernel
theorem dX7_headerOf_16 : decode cX7_headerOf 16 = .ok (.iaload, 1) := by decide +kernel
theorem dX7_headerOf_17 : decode cX7_headerOf 17 = .ok (.goto 5, 3) := by decide +kernel
theorem dX7_headerOf_20 : decode cX7_headerOf 20 = .ok (.bipush (-2), 2) := by decide +kernel
theorem dX7_headerOf_22 : decode cX7_headerOf 22 = .ok (.ireturn, 1) := by decide +kernel
theorem dX7_pressure_0 : decode cX7_pressure 0 = .ok (.iload_n 1, 1) := by decide +kernel
theorem dX7_pressure_1 : decode cX7_pressure 1 = .ok (.invokestatic 43, 3) := by decide +kernel
theorem dX7_pressure_4 : decode cX7_pressure 4 = .ok (.ifCond .eq 15, 3) := by decide +kernel
theorem dX7_pressure_7 : decode cX7_pressure 7 = .ok (.aload_n 0, 1) := by decide +kernel
theorem dX7_pressure_8 : decode cX7_pressure 8 = .ok (.getfield 7, 3) := by decide +kernel
theorem dX7_pressure_11 : decode cX7_pressure 11 = .ok (.bipush 8, 2) := by decide +kernel
theorem dX7_pressure_13 : decode cX7_pressure 13 = .ok (.iload_n 1, 1) := by decide +kernel
theorem dX7_pressure_14 : decode cX7_pressure 14 = .ok (.iadd, 1) := by decide +kernel
theorem dX7_pressure_15 : decode cX7_pressure 15 = .ok (.iaload, 1) := by decide +kernel
theorem dX7_pressure_16 : decode cX7_pressure 16 = .ok (.goto 5, 3) := by decide +kernel
theorem dX7_pressure_19 : decode cX7_pressure 19 = .ok (.bipush (-2), 2) := by decide +kernel
theorem dX7_pressure_21 : decode cX7_pressure 21 = .ok (.ireturn, 1) := by decide +kernel
theorem dX7_isReading_0 : decode cX7_isReading 0 = .ok (.iload_n 0, 1) := by decide +kernel
theorem dX7_isReading_1 : decode cX7_isReading 1 = .ok (.iconst 0, 1) := by decide +kernel
theorem dX7_isReading_2 : decode cX7_isReading 2 = .ok (.sipush 300, 3) := by decide +kernel
theorem dX7_isReading_5 : decode cX7_isReading 5 = .ok (.invokestatic 35, 3) := by decide +kernel
theorem dX7_isReading_8 : decode cX7_isReading 8 = .ok (.ifCond .eq 28, 3) := by decide +kernel
theorem dX7_isReading_11 : decode cX7_isReading 11 = .ok (.iload_n 1, 1) := by decide +kernel
theorem dX7_isReading_12 : decode cX7_isReading 12 = .ok (.iconst 0, 1) := by decide +kernel
theorem dX7_isReading_13 : decode cX7_isReading 13 = .ok (.sipush 300, 3) := by decide +kernel
theorem dX7_isReading_16 : decode cX7_isReading 16 = .ok (.invokestatic 35, 3) := by decide +kernel
theorem dX7_isReading_19 : decode cX7_isReading 19 = .ok (.ifCond .eq 17, 3) := by decide +kernel
theorem dX7_isReading_22 : decode cX7_isReading 22 = .ok (.iload_n 2, 1) := by decide +kernel
theorem dX7_isReading_23 : decode cX7_isReading 23 = .ok (.iconst 0, 1) := by decide +kernel
theorem dX7_isReading_24 : decode cX7_isReading 24 = .ok (.bipush 60, 2) := by decide +kernel
theorem dX7_isReading_26 : decode cX7_isReading 26 = .ok (.invokestatic 35, 3) := by decide +kernel
theorem dX7_isReading_29 : decode cX7_isReading 29 = .ok (.ifCond .eq 7, 3) := by decide +kernel
theorem dX7_isReading_32 : decode cX7_isReading 32 = .ok (.iconst 1, 1) := by decide +kernel
theorem dX7_isReading_33 : decode cX7_isReading 33 = .ok (.goto 4, 3) := by decide +kernel
theorem dX7_isReading_36 : decode cX7_isReading 36 = .ok (.iconst 0, 1) := by decide +kernel
theorem dX7_isReading_37 : decode cX7_isReading 37 = .ok (.ireturn, 1) := by decide +kernel
theorem dX7_judges_0 : decode cX7_judges 0 = .ok (.bipush 100, 2) := by decide +kernel
theorem dX7_judges_2 : decode cX7_judges 2 = .ok (.bipush 6, 2) := by decide +kernel
theorem dX7_judges_4 : decode cX7_judges 4 = .ok (.aload_n 0, 1) := by decide +kernel
theorem dX7_judges_5 : decode cX7_judges 5 = .ok (.getfield 7, 3) := by decide +kernel
theorem dX7_judges_8 : decode cX7_judges 8 = .ok (.bipush 8, 2) := by decide +kernel
theorem dX7_judges_10 : decode cX7_judges 10 = .ok (.aload_n 0, 1) := by decide +kernel
theorem dX7_judges_11 : decode cX7_judges 11 = .ok (.iload_n 1, 1) := by decide +kernel
theorem dX7_judges_12 : decode cX7_judges 12 = .ok (.invokevirtual 56, 3) := by decide +kernel
theorem dX7_judges_15 : decode cX7_judges 15 = .ok (.iadd, 1) := by decide +kernel
theorem dX7_judges_16 : decode cX7_judges 16 = .ok (.iaload, 1) := by decide +kernel
theorem dX7_judges_17 : decode cX7_judges 17 = .ok (.imul, 1) := by decide +kernel
theorem dX7_judges_18 : decode cX7_judges 18 = .ok (.iadd, 1) := by decide +kernel
theorem dX7_judges_19 : decode cX7_judges 19 = .ok (.istore 5, 2) := by decide +kernel
theorem dX7_judges_21 : decode cX7_judges 21 = .ok (.aload_n 0, 1) := by decide +kernel
theorem dX7_judges_22 : decode cX7_judges 22 = .ok (.iload_n 1, 1) := by decide +kernel
theorem dX7_judges_23 : decode cX7_judges 23 = .ok (.iconst 1, 1) := by decide +kernel
theorem dX7_judges_24 : decode cX7_judges 24 = .ok (.invokevirtual 39, 3) := by decide +kernel
theorem dX7_judges_27 : decode cX7_judges 27 = .ok (.istore 6, 2) := by decide +kernel
theorem dX7_judges_29 : decode cX7_judges 29 = .ok (.iload_n 2, 1) := by decide +kernel
theorem dX7_judges_30 : decode cX7_judges 30 = .ok (.iload_n 3, 1) := by decide +kernel
theorem dX7_judges_31 : decode cX7_judges 31 = .ok (.isub, 1) := by decide +kernel
theorem dX7_judges_32 : decode cX7_judges 32 = .ok (.istore 7, 2) := by decide +kernel
theorem dX7_judges_34 : decode cX7_judges 34 = .ok (.iload_n 2, 1) := by decide +kernel
theorem dX7_judges_35 : decode cX7_judges 35 = .ok (.iload 5, 2) := by decide +kernel
theorem dX7_judges_37 : decode cX7_judges 37 = .ok (.iconst 2, 1) := by decide +kernel
theorem dX7_judges_38 : decode cX7_judges 38 = .ok (.idiv, 1) := by decide +kernel
theorem dX7_judges_39 : decode cX7_judges 39 = .ok (.if_icmp .ge 5, 3) := by decide +kernel
theorem dX7_judges_42 : decode cX7_judges 42 = .ok (.iconst 5, 1) := by decide +kernel
theorem dX7_judges_43 : decode cX7_judges 43 = .ok (.ireturn, 1) := by decide +kernel
theorem dX7_judges_44 : decode cX7_judges 44 = .ok (.iload 4, 2) := by decide +kernel
theorem dX7_judges_46 : decode cX7_judges 46 = .ok (.ifCond .ne 12, 3) := by decide +kernel
theorem dX7_judges_49 : decode cX7_judges 49 = .ok (.iload 7, 2) := by decide +kernel
theorem dX7_judges_51 : decode cX7_judges 51 = .ok (.bipush 40, 2) := by decide +kernel
theorem dX7_judges_53 : decode cX7_judges 53 = .ok (.if_icmp .lt 5, 3) := by decide +kernel
theorem dX7_judges_56 : decode cX7_judges 56 = .ok (.iconst 4, 1) := by decide +kernel
theorem dX7_judges_57 : decode cX7_judges 57 = .ok (.ireturn, 1) := by decide +kernel
theorem dX7_judges_58 : decode cX7_judges 58 = .ok (.iload 6, 2) := by decide +kernel
theorem dX7_judges_60 : decode cX7_judges 60 = .ok (.ifCond .ne 18, 3) := by decide +kernel
theorem dX7_judges_63 : decode cX7_judges 63 = .ok (.iload 4, 2) := by decide +kernel
theorem dX7_judges_65 : decode cX7_judges 65 = .ok (.bipush 30, 2) := by decide +kernel
theorem dX7_judges_67 : decode cX7_judges 67 = .ok (.if_icmp .lt 7, 3) := by decide +kernel
theorem dX7_judges_70 : decode cX7_judges 70 = .ok (.iconst 1, 1) := by decide +kernel
theorem dX7_judges_71 : decode cX7_judges 71 = .ok (.goto 45, 3) := by decide +kernel
theorem dX7_judges_74 : decode cX7_judges 74 = .ok (.iconst 0, 1) := by decide +kernel
theorem dX7_judges_75 : decode cX7_judges 75 = .ok (.goto 41, 3) := by decide +kernel
theorem dX7_judges_78 : decode cX7_judges 78 = .ok (.iload 6, 2) := by decide +kernel
theorem dX7_judges_80 : decode cX7_judges 80 = .ok (.iconst 1, 1) := by decide +kernel
theorem dX7_judges_81 : decode cX7_judges 81 = .ok (.if_icmp .ne 17, 3) := by decide +kernel
theorem dX7_judges_84 : decode cX7_judges 84 = .ok (.iload 7, 2) := by decide +kernel
theorem dX7_judges_86 : decode cX7_judges 86 = .ok (.iconst 5, 1) := by decide +kernel
theorem dX7_judges_87 : decode cX7_judges 87 = .ok (.if_icmp .gt 7, 3) := by decide +kernel
theorem dX7_judges_90 : decode cX7_judges 90 = .ok (.iconst 1, 1) := by decide +kernel
theorem dX7_judges_91 : decode cX7_judges 91 = .ok (.goto 25, 3) := by decide +kernel
theorem dX7_judges_94 : decode cX7_judges 94 = .ok (.iconst 0, 1) := by decide +kernel
theorem dX7_judges_95 : decode cX7_judges 95 = .ok (.goto 21, 3) := by decide +kernel
theorem dX7_judges_98 : decode cX7_judges 98 = .ok (.iload 4, 2) := by decide +kernel
theorem dX7_judges_100 : decode cX7_judges 100 = .ok (.bipush 40, 2) := by decide +kernel
theorem dX7_judges_102 : decode cX7_judges 102 = .ok (.if_icmp .ge 9, 3) := by decide +kernel
theorem dX7_judges_105 : decode cX7_judges 105 = .ok (.iload 7, 2) := by decide +kernel
theorem dX7_judges_107 : decode cX7_judges 107 = .ok (.iconst 2, 1) := by decide +kernel
theorem dX7_judges_108 : decode cX7_judges 108 = .ok (.if_icmp .gt 7, 3) := by decide +kernel
theorem dX7_judges_111 : decode cX7_judges 111 = .ok (.iconst 1, 1) := by decide +kernel
theorem dX7_judges_112 : decode cX7_judges 112 = .ok (.goto 4, 3) := by decide +kernel
theorem dX7_judges_115 : decode cX7_judges 115 = .ok (.iconst 0, 1) := by decide +kernel
theorem dX7_judges_116 : decode cX7_judges 116 = .ok (.istore 8, 2) := by decide +kernel
theorem dX7_judges_118 : decode cX7_judges 118 = .ok (.iload 6, 2) := by decide +kernel
theorem dX7_judges_120 : decode cX7_judges 120 = .ok (.ifCond .ne 18, 3) := by decide +kernel
theorem dX7_judges_123 : decode cX7_judges 123 = .ok (.iload 4, 2) := by decide +kernel
theorem dX7_judges_125 : decode cX7_judges 125 = .ok (.bipush 15, 2) := by decide +kernel
theorem dX7_judges_127 : decode cX7_judges 127 = .ok (.if_icmp .lt 7, 3) := by decide +kernel
theorem dX7_judges_130 : decode cX7_judges 130 = .ok (.iconst 1, 1) := by decide +kernel
theorem dX7_judges_131 : decode cX7_judges 131 = .ok (.goto 40, 3) := by decide +kernel
theorem dX7_judges_134 : decode cX7_judges 134 = .ok (.iconst 0, 1) := by decide +kernel
theorem dX7_judges_135 : decode cX7_judges 135 = .ok (.goto 36, 3) := by decide +kernel
theorem dX7_judges_138 : decode cX7_judges 138 = .ok (.iload 6, 2) := by decide +kernel
theorem dX7_judges_140 : decode cX7_judges 140 = .ok (.iconst 1, 1) := by decide +kernel
theorem dX7_judges_141 : decode cX7_judges 141 = .ok (.if_icmp .ne 18, 3) := by decide +kernel
theorem dX7_judges_144 : decode cX7_judges 144 = .ok (.iload 7, 2) := by decide +kernel
theorem dX7_judges_146 : decode cX7_judges 146 = .ok (.bipush 15, 2) := by decide +kernel
theorem dX7_judges_148 : decode cX7_judges 148 = .ok (.if_icmp .gt 7, 3) := by decide +kernel
theorem dX7_judges_151 : decode cX7_judges 151 = .ok (.iconst 1, 1) := by decide +kernel
theorem dX7_judges_152 : decode cX7_judges 152 = .ok (.goto 19, 3) := by decide +kernel
theorem dX7_judges_155 : decode cX7_judges 155 = .ok (.iconst 0, 1) := by decide +kernel
theorem dX7_judges_156 : decode cX7_judges 156 = .ok (.goto 15, 3) := by decide +kernel
theorem dX7_judges_159 : decode cX7_judges 159 = .ok (.iload 4, 2) := by decide +kernel
theorem dX7_judges_161 : decode cX7_judges 161 = .ok (.bipush 20, 2) := by decide +kernel
theorem dX7_judges_163 : decode cX7_judges 163 = .ok (.if_icmp .lt 7, 3) := by decide +kernel
theorem dX7_judges_166 : decode cX7_judges 166 = .ok (.iconst 1, 1) := by decide +kernel
theorem dX7_judges_167 : decode cX7_judges 167 = .ok (.goto 4, 3) := by decide +kernel
theorem dX7_judges_170 : decode cX7_judges 170 = .ok (.iconst 0, 1) := by decide +kernel
theorem dX7_judges_171 : decode cX7_judges 171 = .ok (.istore 9, 2) := by decide +kernel
theorem dX7_judges_173 : decode cX7_judges 173 = .ok (.iload 8, 2) := by decide +kernel
theorem dX7_judges_175 : decode cX7_judges 175 = .ok (.ifCond .eq 7, 3) := by decide +kernel
theorem dX7_judges_178 : decode cX7_judges 178 = .ok (.iconst 3, 1) := by decide +kernel
theorem dX7_judges_179 : decode cX7_judges 179 = .ok (.goto 13, 3) := by decide +kernel
theorem dX7_judges_182 : decode cX7_judges 182 = .ok (.iload 9, 2) := by decide +kernel
theorem dX7_judges_184 : decode cX7_judges 184 = .ok (.ifCond .eq 7, 3) := by decide +kernel
theorem dX7_judges_187 : decode cX7_judges 187 = .ok (.iconst 2, 1) := by decide +kernel
theorem dX7_judges_188 : decode cX7_judges 188 = .ok (.goto 4, 3) := by decide +kernel
theorem dX7_judges_191 : decode cX7_judges 191 = .ok (.iconst 1, 1) := by decide +kernel
theorem dX7_judges_192 : decode cX7_judges 192 = .ok (.ireturn, 1) := by decide +kernel
theorem dX7_reads_0 : decode cX7_reads 0 = .ok (.aload_n 0, 1) := by decide +kernel
theorem dX7_reads_1 : decode cX7_reads 1 = .ok (.getfield 7, 3) := by decide +kernel
theorem dX7_reads_4 : decode cX7_reads 4 = .ok (.bipush 19, 2) := by decide +kernel
theorem dX7_reads_6 : decode cX7_reads 6 = .ok (.bipush 7, 2) := by decide +kernel
theorem dX7_reads_8 : decode cX7_reads 8 = .ok (.iload_n 1, 1) := by decide +kernel
theorem dX7_reads_9 : decode cX7_reads 9 = .ok (.imul, 1) := by decide +kernel
theorem dX7_reads_10 : decode cX7_reads 10 = .ok (.iadd, 1) := by decide +kernel
theorem dX7_reads_11 : decode cX7_reads 11 = .ok (.iconst 5, 1) := by decide +kernel
theorem dX7_reads_12 : decode cX7_reads 12 = .ok (.iadd, 1) := by decide +kernel
theorem dX7_reads_13 : decode cX7_reads 13 = .ok (.aload_n 0, 1) := by decide +kernel
theorem dX7_reads_14 : decode cX7_reads 14 = .ok (.iload_n 1, 1) := by decide +kernel
theorem dX7_reads_15 : decode cX7_reads 15 = .ok (.iload_n 2, 1) := by decide +kernel
theorem dX7_reads_16 : decode cX7_reads 16 = .ok (.iload_n 3, 1) := by decide +kernel
theorem dX7_reads_17 : decode cX7_reads 17 = .ok (.iload 4, 2) := by decide +kernel
theorem dX7_reads_19 : decode cX7_reads 19 = .ok (.invokevirtual 60, 3) := by decide +kernel
theorem dX7_reads_22 : decode cX7_reads 22 = .ok (.iastore, 1) := by decide +kernel
theorem dX7_reads_23 : decode cX7_reads 23 = .ok (.aload_n 0, 1) := by decide +kernel
theorem dX7_reads_24 : decode cX7_reads 24 = .ok (.getfield 7, 3) := by decide +kernel
theorem dX7_reads_27 : decode cX7_reads 27 = .ok (.bipush 19, 2) := by decide +kernel
theorem dX7_reads_29 : decode cX7_reads 29 = .ok (.bipush 7, 2) := by decide +kernel
theorem dX7_reads_31 : decode cX7_reads 31 = .ok (.iload_n 1, 1) := by decide +kernel
theorem dX7_reads_32 : decode cX7_reads 32 = .ok (.imul, 1) := by decide +kernel
theorem dX7_reads_33 : decode cX7_reads 33 = .ok (.iadd, 1) := by decide +kernel
theorem dX7_reads_34 : decode cX7_reads 34 = .ok (.bipush 6, 2) := by decide +kernel
theorem dX7_reads_36 : decode cX7_reads 36 = .ok (.iadd, 1) := by decide +kernel
theorem dX7_reads_37 : decode cX7_reads 37 = .ok (.aload_n 0, 1) := by decide +kernel
theorem dX7_reads_38 : decode cX7_reads 38 = .ok (.getfield 7, 3) := by decide +kernel
theorem dX7_reads_41 : decode cX7_reads 41 = .ok (.iconst 5, 1) := by decide +kernel
theorem dX7_reads_42 : decode cX7_reads 42 = .ok (.iaload, 1) := by decide +kernel
theorem dX7_reads_43 : decode cX7_reads 43 = .ok (.iastore, 1) := by decide +kernel
theorem dX7_reads_44 : decode cX7_reads 44 = .ok (.return_, 1) := by decide +kernel
theorem dX7_read_0 : decode cX7_read 0 = .ok (.aload_n 0, 1) := by decide +kernel
theorem dX7_read_1 : decode cX7_read 1 = .ok (.iload_n 1, 1) := by decide +kernel
theorem dX7_read_2 : decode cX7_read 2 = .ok (.invokevirtual 53, 3) := by decide +kernel
theorem dX7_read_5 : decode cX7_read 5 = .ok (.ifCond .ne 6, 3) := by decide +kernel
theorem dX7_read_8 : decode cX7_read 8 = .ok (.bipush (-2), 2) := by decide +kernel
theorem dX7_read_10 : decode cX7_read 10 = .ok (.ireturn, 1) := by decide +kernel
theorem dX7_read_11 : decode cX7_read 11 = .ok (.iload_n 2, 1) := by decide +kernel
theorem dX7_read_12 : decode cX7_read 12 = .ok (.iload_n 3, 1) := by decide +kernel
theorem dX7_read_13 : decode cX7_read 13 = .ok (.iload 4, 2) := by decide +kernel
theorem dX7_read_15 : decode cX7_read 15 = .ok (.invokestatic 64, 3) := by decide +kernel
theorem dX7_read_18 : decode cX7_read 18 = .ok (.ifCond .ne 6, 3) := by decide +kernel
theorem dX7_read_21 : decode cX7_read 21 = .ok (.bipush (-3), 2) := by decide +kernel
theorem dX7_read_23 : decode cX7_read 23 = .ok (.ireturn, 1) := by decide +kernel
theorem dX7_read_24 : decode cX7_read 24 = .ok (.aload_n 0, 1) := by decide +kernel
theorem dX7_read_25 : decode cX7_read 25 = .ok (.invokevirtual 47, 3) := by decide +kernel
theorem dX7_read_28 : decode cX7_read 28 = .ok (.aload_n 0, 1) := by decide +kernel
theorem dX7_read_29 : decode cX7_read 29 = .ok (.iload_n 1, 1) := by decide +kernel
theorem dX7_read_30 : decode cX7_read 30 = .ok (.iload_n 2, 1) := by decide +kernel
theorem dX7_read_31 : decode cX7_read 31 = .ok (.iload_n 3, 1) := by decide +kernel
theorem dX7_read_32 : decode cX7_read 32 = .ok (.iload 4, 2) := by decide +kernel
theorem dX7_read_34 : decode cX7_read 34 = .ok (.invokevirtual 67, 3) := by decide +kernel
theorem dX7_read_37 : decode cX7_read 37 = .ok (.aload_n 0, 1) := by decide +kernel
theorem dX7_read_38 : decode cX7_read 38 = .ok (.iload_n 1, 1) := by decide +kernel
theorem dX7_read_39 : decode cX7_read 39 = .ok (.iconst 5, 1) := by decide +kernel
theorem dX7_read_40 : decode cX7_read 40 = .ok (.invokevirtual 39, 3) := by decide +kernel
theorem dX7_read_43 : decode cX7_read 43 = .ok (.ireturn, 1) := by decide +kernel
theorem dX7_judge_0 : decode cX7_judge 0 = .ok (.aload_n 0, 1) := by decide +kernel
theorem dX7_judge_1 : decode cX7_judge 1 = .ok (.iload_n 1, 1) := by decide +kernel
theorem dX7_judge_2 : decode cX7_judge 2 = .ok (.invokevirtual 53, 3) := by decide +kernel
theorem dX7_judge_5 : decode cX7_judge 5 = .ok (.ifCond .ne 6, 3) := by decide +kernel
theorem dX7_judge_8 : decode cX7_judge 8 = .ok (.bipush (-2), 2) := by decide +kernel
theorem dX7_judge_10 : decode cX7_judge 10 = .ok (.ireturn, 1) := by decide +kernel
theorem dX7_judge_11 : decode cX7_judge 11 = .ok (.iload_n 2, 1) := by decide +kernel
theorem dX7_judge_12 : decode cX7_judge 12 = .ok (.iload_n 3, 1) := by decide +kernel
theorem dX7_judge_13 : decode cX7_judge 13 = .ok (.iload 4, 2) := by decide +kernel
theorem dX7_judge_15 : decode cX7_judge 15 = .ok (.invokestatic 64, 3) := by decide +kernel
theorem dX7_judge_18 : decode cX7_judge 18 = .ok (.ifCond .eq 15, 3) := by decide +kernel
theorem dX7_judge_21 : decode cX7_judge 21 = .ok (.aload_n 0, 1) := by decide +kernel
theorem dX7_judge_22 : decode cX7_judge 22 = .ok (.iload_n 1, 1) := by decide +kernel
theorem dX7_judge_23 : decode cX7_judge 23 = .ok (.iload_n 2, 1) := by decide +kernel
theorem dX7_judge_24 : decode cX7_judge 24 = .ok (.iload_n 3, 1) := by decide +kernel
theorem dX7_judge_25 : decode cX7_judge 25 = .ok (.iload 4, 2) := by decide +kernel
theorem dX7_judge_27 : decode cX7_judge 27 = .ok (.invokevirtual 60, 3) := by decide +kernel
theorem dX7_judge_30 : decode cX7_judge 30 = .ok (.goto 5, 3) := by decide +kernel
theorem dX7_judge_33 : decode cX7_judge 33 = .ok (.bipush (-3), 2) := by decide +kernel
theorem dX7_judge_35 : decode cX7_judge 35 = .ok (.ireturn, 1) := by decide +kernel
theorem dX7_pass_0 : decode cX7_pass 0 = .ok (.iload_n 1, 1) := by decide +kernel
theorem dX7_pass_1 : decode cX7_pass 1 = .ok (.iconst 1, 1) := by decide +kernel
theorem dX7_pass_2 : decode cX7_pass 2 = .ok (.bipush 100, 2) := by decide +kernel
theorem dX7_pass_4 : decode cX7_pass 4 = .ok (.invokestatic 35, 3) := by decide +kernel
theorem dX7_pass_7 : decode cX7_pass 7 = .ok (.ifCond .ne 6, 3) := by decide +kernel
theorem dX7_pass_10 : decode cX7_pass 10 = .ok (.bipush (-3), 2) := by decide +kernel
theorem dX7_pass_12 : decode cX7_pass 12 = .ok (.ireturn, 1) := by decide +kernel
theorem dX7_pass_13 : decode cX7_pass 13 = .ok (.aload_n 0, 1) := by decide +kernel
theorem dX7_pass_14 : decode cX7_pass 14 = .ok (.getfield 7, 3) := by decide +kernel
theorem dX7_pass_17 : decode cX7_pass 17 = .ok (.iconst 5, 1) := by decide +kernel
theorem dX7_pass_18 : decode cX7_pass 18 = .ok (.iaload, 1) := by decide +kernel
theorem dX7_pass_19 : decode cX7_pass 19 = .ok (.iload_n 1, 1) := by decide +kernel
theorem dX7_pass_20 : decode cX7_pass 20 = .ok (.iadd, 1) := by decide +kernel
theorem dX7_pass_21 : decode cX7_pass 21 = .ok (.sipush 10000, 3) := by decide +kernel
theorem dX7_pass_24 : decode cX7_pass 24 = .ok (.if_icmp .le 6, 3) := by decide +kernel
theorem dX7_pass_27 : decode cX7_pass 27 = .ok (.bipush (-5), 2) := by decide +kernel
theorem dX7_pass_29 : decode cX7_pass 29 = .ok (.ireturn, 1) := by decide +kernel
theorem dX7_pass_30 : decode cX7_pass 30 = .ok (.aload_n 0, 1) := by decide +kernel
theorem dX7_pass_31 : decode cX7_pass 31 = .ok (.invokevirtual 47, 3) := by decide +kernel
theorem dX7_pass_34 : decode cX7_pass 34 = .ok (.aload_n 0, 1) := by decide +kernel
theorem dX7_pass_35 : decode cX7_pass 35 = .ok (.getfield 7, 3) := by decide +kernel
theorem dX7_pass_38 : decode cX7_pass 38 = .ok (.iconst 5, 1) := by decide +kernel
theorem dX7_pass_39 : decode cX7_pass 39 = .ok (.dup2, 1) := by decide +kernel
theorem dX7_pass_40 : decode cX7_pass 40 = .ok (.iaload, 1) := by decide +kernel
theorem dX7_pass_41 : decode cX7_pass 41 = .ok (.iload_n 1, 1) := by decide +kernel
theorem dX7_pass_42 : decode cX7_pass 42 = .ok (.iadd, 1) := by decide +kernel
theorem dX7_pass_43 : decode cX7_pass 43 = .ok (.iastore, 1) := by decide +kernel
theorem dX7_pass_44 : decode cX7_pass 44 = .ok (.iconst 0, 1) := by decide +kernel
theorem dX7_pass_45 : decode cX7_pass 45 = .ok (.istore_n 2, 1) := by decide +kernel
theorem dX7_pass_46 : decode cX7_pass 46 = .ok (.iload_n 2, 1) := by decide +kernel
theorem dX7_pass_47 : decode cX7_pass 47 = .ok (.aload_n 0, 1) := by decide +kernel
theorem dX7_pass_48 : decode cX7_pass 48 = .ok (.getfield 7, 3) := by decide +kernel
theorem dX7_pass_51 : decode cX7_pass 51 = .ok (.iconst 1, 1) := by decide +kernel
theorem dX7_pass_52 : decode cX7_pass 52 = .ok (.iaload, 1) := by decide +kernel
theorem dX7_pass_53 : decode cX7_pass 53 = .ok (.if_icmp .ge 35, 3) := by decide +kernel
theorem dX7_pass_56 : decode cX7_pass 56 = .ok (.aload_n 0, 1) := by decide +kernel
theorem dX7_pass_57 : decode cX7_pass 57 = .ok (.getfield 13, 3) := by decide +kernel
theorem dX7_pass_60 : decode cX7_pass 60 = .ok (.iload_n 2, 1) := by decide +kernel
theorem dX7_pass_61 : decode cX7_pass 61 = .ok (.dup2, 1) := by decide +kernel
theorem dX7_pass_62 : decode cX7_pass 62 = .ok (.laload, 1) := by decide +kernel
theorem dX7_pass_63 : decode cX7_pass 63 = .ok (.aload_n 0, 1) := by decide +kernel
theorem dX7_pass_64 : decode cX7_pass 64 = .ok (.iload_n 2, 1) := by decide +kernel
theorem dX7_pass_65 : decode cX7_pass 65 = .ok (.invokevirtual 71, 3) := by decide +kernel
theorem dX7_pass_68 : decode cX7_pass 68 = .ok (.i2l, 1) := by decide +kernel
theorem dX7_pass_69 : decode cX7_pass 69 = .ok (.aload_n 0, 1) := by decide +kernel
theorem dX7_pass_70 : decode cX7_pass 70 = .ok (.getfield 7, 3) := by decide +kernel
theorem dX7_pass_73 : decode cX7_pass 73 = .ok (.iconst 2, 1) := by decide +kernel
theorem dX7_pass_74 : decode cX7_pass 74 = .ok (.iaload, 1) := by decide +kernel
theorem dX7_pass_75 : decode cX7_pass 75 = .ok (.i2l, 1) := by decide +kernel
theorem dX7_pass_76 : decode cX7_pass 76 = .ok (.lmul, 1) := by decide +kernel
theorem dX7_pass_77 : decode cX7_pass 77 = .ok (.iload_n 1, 1) := by decide +kernel
theorem dX7_pass_78 : decode cX7_pass 78 = .ok (.i2l, 1) := by decide +kernel
theorem dX7_pass_79 : decode cX7_pass 79 = .ok (.lmul, 1) := by decide +kernel
theorem dX7_pass_80 : decode cX7_pass 80 = .ok (.ladd, 1) := by decide +kernel
theorem dX7_pass_81 : decode cX7_pass 81 = .ok (.lastore, 1) := by decide +kernel
theorem dX7_pass_82 : decode cX7_pass 82 = .ok (.iinc 2 1, 3) := by decide +kernel
theorem dX7_pass_85 : decode cX7_pass 85 = .ok (.goto (-39), 3) := by decide +kernel
theorem dX7_pass_88 : decode cX7_pass 88 = .ok (.aload_n 0, 1) := by decide +kernel
theorem dX7_pass_89 : decode cX7_pass 89 = .ok (.getfield 7, 3) := by decide +kernel
theorem dX7_pass_92 : decode cX7_pass 92 = .ok (.iconst 5, 1) := by decide +kernel
theorem dX7_pass_93 : decode cX7_pass 93 = .ok (.iaload, 1) := by decide +kernel
theorem dX7_pass_94 : decode cX7_pass 94 = .ok (.ireturn, 1) := by decide +kernel
theorem dX7_inState_0 : decode cX7_inState 0 = .ok (.iload_n 1, 1) := by decide +kernel
theorem dX7_inState_1 : decode cX7_inState 1 = .ok (.iconst 0, 1) := by decide +kernel
theorem dX7_inState_2 : decode cX7_inState 2 = .ok (.iconst 5, 1) := by decide +kernel
theorem dX7_inState_3 : decode cX7_inState 3 = .ok (.invokestatic 35, 3) := by decide +kernel
theorem dX7_inState_6 : decode cX7_inState 6 = .ok (.ifCond .ne 6, 3) := by decide +kernel
theorem dX7_inState_9 : decode cX7_inState 9 = .ok (.bipush (-3), 2) := by decide +kernel
theorem dX7_inState_11 : decode cX7_inState 11 = .ok (.ireturn, 1) := by decide +kernel
theorem dX7_inState_12 : decode cX7_inState 12 = .ok (.iconst 0, 1) := by decide +kernel
theorem dX7_inState_13 : decode cX7_inState 13 = .ok (.istore_n 2, 1) := by decide +kernel
theorem dX7_inState_14 : decode cX7_inState 14 = .ok (.iconst 0, 1) := by decide +kernel
theorem dX7_inState_15 : decode cX7_inState 15 = .ok (.istore_n 3, 1) := by decide +kernel
theorem dX7_inState_16 : decode cX7_inState 16 = .ok (.iload_n 3, 1) := by decide +kernel
theorem dX7_inState_17 : decode cX7_inState 17 = .ok (.aload_n 0, 1) := by decide +kernel
theorem dX7_inState_18 : decode cX7_inState 18 = .ok (.getfield 7, 3) := by decide +kernel
theorem dX7_inState_21 : decode cX7_inState 21 = .ok (.iconst 1, 1) := by decide +kernel
theorem dX7_inState_22 : decode cX7_inState 22 = .ok (.iaload, 1) := by decide +kernel
theorem dX7_inState_23 : decode cX7_inState 23 = .ok (.if_icmp .ge 27, 3) := by decide +kernel
theorem dX7_inState_26 : decode cX7_inState 26 = .ok (.iload_n 2, 1) := by decide +kernel
theorem dX7_inState_27 : decode cX7_inState 27 = .ok (.aload_n 0, 1) := by decide +kernel
theorem dX7_inState_28 : decode cX7_inState 28 = .ok (.iload_n 3, 1) := by decide +kernel
theorem dX7_inState_29 : decode cX7_inState 29 = .ok (.iconst 5, 1) := by decide +kernel
theorem dX7_inState_30 : decode cX7_inState 30 = .ok (.invokevirtual 39, 3) := by decide +kernel
theorem dX7_inState_33 : decode cX7_inState 33 = .ok (.iload_n 1, 1) := by decide +kernel
theorem dX7_inState_34 : decode cX7_inState 34 = .ok (.if_icmp .ne 7, 3) := by decide +kernel
theorem dX7_inState_37 : decode cX7_inState 37 = .ok (.iconst 1, 1) := by decide +kernel
theorem dX7_inState_38 : decode cX7_inState 38 = .ok (.goto 4, 3) := by decide +kernel
theorem dX7_inState_41 : decode cX7_inState 41 = .ok (.iconst 0, 1) := by decide +kernel
theorem dX7_inState_42 : decode cX7_inState 42 = .ok (.iadd, 1) := by decide +kernel
theorem dX7_inState_43 : decode cX7_inState 43 = .ok (.istore_n 2, 1) := by decide +kernel
theorem dX7_inState_44 : decode cX7_inState 44 = .ok (.iinc 3 1, 3) := by decide +kernel
theorem dX7_inState_47 : decode cX7_inState 47 = .ok (.goto (-31), 3) := by decide +kernel
theorem dX7_inState_50 : decode cX7_inState 50 = .ok (.iload_n 2, 1) := by decide +kernel
theorem dX7_inState_51 : decode cX7_inState 51 = .ok (.ireturn, 1) := by decide +kernel
theorem dX7_lossOf_0 : decode cX7_lossOf 0 = .ok (.aload_n 0, 1) := by decide +kernel
theorem dX7_lossOf_1 : decode cX7_lossOf 1 = .ok (.iload_n 1, 1) := by decide +kernel
theorem dX7_lossOf_2 : decode cX7_lossOf 2 = .ok (.iconst 2, 1) := by decide +kernel
theorem dX7_lossOf_3 : decode cX7_lossOf 3 = .ok (.invokevirtual 39, 3) := by decide +kernel
theorem dX7_lossOf_6 : decode cX7_lossOf 6 = .ok (.aload_n 0, 1) := by decide +kernel
theorem dX7_lossOf_7 : decode cX7_lossOf 7 = .ok (.iload_n 1, 1) := by decide +kernel
theorem dX7_lossOf_8 : decode cX7_lossOf 8 = .ok (.iconst 2, 1) := by decide +kernel
theorem dX7_lossOf_9 : decode cX7_lossOf 9 = .ok (.invokevirtual 39, 3) := by decide +kernel
theorem dX7_lossOf_12 : decode cX7_lossOf 12 = .ok (.imul, 1) := by decide +kernel
theorem dX7_lossOf_13 : decode cX7_lossOf 13 = .ok (.aload_n 0, 1) := by decide +kernel
theorem dX7_lossOf_14 : decode cX7_lossOf 14 = .ok (.getfield 7, 3) := by decide +kernel
theorem dX7_lossOf_17 : decode cX7_lossOf 17 = .ok (.bipush 8, 2) := by decide +kernel
theorem dX7_lossOf_19 : decode cX7_lossOf 19 = .ok (.aload_n 0, 1) := by decide +kernel
theorem dX7_lossOf_20 : decode cX7_lossOf 20 = .ok (.iload_n 1, 1) := by decide +kernel
theorem dX7_lossOf_21 : decode cX7_lossOf 21 = .ok (.invokevirtual 56, 3) := by decide +kernel
theorem dX7_lossOf_24 : decode cX7_lossOf 24 = .ok (.iadd, 1) := by decide +kernel
theorem dX7_lossOf_25 : decode cX7_lossOf 25 = .ok (.iaload, 1) := by decide +kernel
theorem dX7_lossOf_26 : decode cX7_lossOf 26 = .ok (.iconst 1, 1) := by decide +kernel
theorem dX7_lossOf_27 : decode cX7_lossOf 27 = .ok (.iadd, 1) := by decide +kernel
theorem dX7_lossOf_28 : decode cX7_lossOf 28 = .ok (.imul, 1) := by decide +kernel
theorem dX7_lossOf_29 : decode cX7_lossOf 29 = .ok (.bipush 10, 2) := by decide +kernel
theorem dX7_lossOf_31 : decode cX7_lossOf 31 = .ok (.imul, 1) := by decide +kernel
theorem dX7_lossOf_32 : decode cX7_lossOf 32 = .ok (.istore_n 2, 1) := by decide +kernel
theorem dX7_lossOf_33 : decode cX7_lossOf 33 = .ok (.aload_n 0, 1) := by decide +kernel
theorem dX7_lossOf_34 : decode cX7_lossOf 34 = .ok (.iload_n 1, 1) := by decide +kernel
theorem dX7_lossOf_35 : decode cX7_lossOf 35 = .ok (.iconst 5, 1) := by decide +kernel
theorem dX7_lossOf_36 : decode cX7_lossOf 36 = .ok (.invokevirtual 39, 3) := by decide +kernel
theorem dX7_lossOf_39 : decode cX7_lossOf 39 = .ok (.iconst 3, 1) := by decide +kernel
theorem dX7_lossOf_40 : decode cX7_lossOf 40 = .ok (.if_icmp .ne 7, 3) := by decide +kernel
theorem dX7_lossOf_43 : decode cX7_lossOf 43 = .ok (.iload_n 2, 1) := by decide +kernel
theorem dX7_lossOf_44 : decode cX7_lossOf 44 = .ok (.goto 20, 3) := by decide +kernel
theorem dX7_lossOf_47 : decode cX7_lossOf 47 = .ok (.aload_n 0, 1) := by decide +kernel
theorem dX7_lossOf_48 : decode cX7_lossOf 48 = .ok (.iload_n 1, 1) := by decide +kernel
theorem dX7_lossOf_49 : decode cX7_lossOf 49 = .ok (.iconst 5, 1) := by decide +kernel
theorem dX7_lossOf_50 : decode cX7_lossOf 50 = .ok (.invokevirtual 39, 3) := by decide +kernel
theorem dX7_lossOf_53 : decode cX7_lossOf 53 = .ok (.iconst 2, 1) := by decide +kernel
theorem dX7_lossOf_54 : decode cX7_lossOf 54 = .ok (.if_icmp .ne 9, 3) := by decide +kernel
theorem dX7_lossOf_57 : decode cX7_lossOf 57 = .ok (.iload_n 2, 1) := by decide +kernel
theorem dX7_lossOf_58 : decode cX7_lossOf 58 = .ok (.iconst 4, 1) := by decide +kernel
theorem dX7_lossOf_59 : decode cX7_lossOf 59 = .ok (.idiv, 1) := by decide +kernel
theorem dX7_lossOf_60 : decode cX7_lossOf 60 = .ok (.goto 4, 3) := by decide +kernel
theorem dX7_lossOf_63 : decode cX7_lossOf 63 = .ok (.iconst 0, 1) := by decide +kernel
theorem dX7_lossOf_64 : decode cX7_lossOf 64 = .ok (.ireturn, 1) := by decide +kernel
theorem dX7_loss_0 : decode cX7_loss 0 = .ok (.aload_n 0, 1) := by decide +kernel
theorem dX7_loss_1 : decode cX7_loss 1 = .ok (.iload_n 1, 1) := by decide +kernel
theorem dX7_loss_2 : decode cX7_loss 2 = .ok (.invokevirtual 53, 3) := by decide +kernel
theorem dX7_loss_5 : decode cX7_loss 5 = .ok (.ifCond .eq 11, 3) := by decide +kernel
theorem dX7_loss_8 : decode cX7_loss 8 = .ok (.aload_n 0, 1) := by decide +kernel
theorem dX7_loss_9 : decode cX7_loss 9 = .ok (.iload_n 1, 1) := by decide +kernel
theorem dX7_loss_10 : decode cX7_loss 10 = .ok (.invokevirtual 71, 3) := by decide +kernel
theorem dX7_loss_13 : decode cX7_loss 13 = .ok (.goto 5, 3) := by decide +kernel
theorem dX7_loss_16 : decode cX7_loss 16 = .ok (.bipush (-2), 2) := by decide +kernel
theorem dX7_loss_18 : decode cX7_loss 18 = .ok (.ireturn, 1) := by decide +kernel
theorem dX7_lineLoss_0 : decode cX7_lineLoss 0 = .ok (.aload_n 0, 1) := by decide +kernel
theorem dX7_lineLoss_1 : decode cX7_lineLoss 1 = .ok (.iload_n 1, 1) := by decide +kernel
theorem dX7_lineLoss_2 : decode cX7_lineLoss 2 = .ok (.invokevirtual 50, 3) := by decide +kernel
theorem dX7_lineLoss_5 : decode cX7_lineLoss 5 = .ok (.ifCond .ne 6, 3) := by decide +kernel
theorem dX7_lineLoss_8 : decode cX7_lineLoss 8 = .ok (.bipush (-2), 2) := by decide +kernel
theorem dX7_lineLoss_10 : decode cX7_lineLoss 10 = .ok (.ireturn, 1) := by decide +kernel
theorem dX7_lineLoss_11 : decode cX7_lineLoss 11 = .ok (.iconst 0, 1) := by decide +kernel
theorem dX7_lineLoss_12 : decode cX7_lineLoss 12 = .ok (.istore_n 2, 1) := by decide +kernel
theorem dX7_lineLoss_13 : decode cX7_lineLoss 13 = .ok (.iconst 0, 1) := by decide +kernel
theorem dX7_lineLoss_14 : decode cX7_lineLoss 14 = .ok (.istore_n 3, 1) := by decide +kernel
theorem dX7_lineLoss_15 : decode cX7_lineLoss 15 = .ok (.iload_n 3, 1) := by decide +kernel
theorem dX7_lineLoss_16 : decode cX7_lineLoss 16 = .ok (.aload_n 0, 1) := by decide +kernel
theorem dX7_lineLoss_17 : decode cX7_lineLoss 17 = .ok (.getfield 7, 3) := by decide +kernel
theorem dX7_lineLoss_20 : decode cX7_lineLoss 20 = .ok (.iconst 1, 1) := by decide +kernel
theorem dX7_lineLoss_21 : decode cX7_lineLoss 21 = .ok (.iaload, 1) := by decide +kernel
theorem dX7_lineLoss_22 : decode cX7_lineLoss 22 = .ok (.if_icmp .ge 31, 3) := by decide +kernel
theorem dX7_lineLoss_25 : decode cX7_lineLoss 25 = .ok (.iload_n 2, 1) := by decide +kernel
theorem dX7_lineLoss_26 : decode cX7_lineLoss 26 = .ok (.aload_n 0, 1) := by decide +kernel
theorem dX7_lineLoss_27 : decode cX7_lineLoss 27 = .ok (.iload_n 3, 1) := by decide +kernel
theorem dX7_lineLoss_28 : decode cX7_lineLoss 28 = .ok (.iconst 0, 1) := by decide +kernel
theorem dX7_lineLoss_29 : decode cX7_lineLoss 29 = .ok (.invokevirtual 39, 3) := by decide +kernel
theorem dX7_lineLoss_32 : decode cX7_lineLoss 32 = .ok (.iload_n 1, 1) := by decide +kernel
theorem dX7_lineLoss_33 : decode cX7_lineLoss 33 = .ok (.if_icmp .ne 11, 3) := by decide +kernel
theorem dX7_lineLoss_36 : decode cX7_lineLoss 36 = .ok (.aload_n 0, 1) := by decide +kernel
theorem dX7_lineLoss_37 : decode cX7_lineLoss 37 = .ok (.iload_n 3, 1) := by decide +kernel
theorem dX7_lineLoss_38 : decode cX7_lineLoss 38 = .ok (.invokevirtual 71, 3) := by decide +kernel
theorem dX7_lineLoss_41 : decode cX7_lineLoss 41 = .ok (.goto 4, 3) := by decide +kernel
theorem dX7_lineLoss_44 : decode cX7_lineLoss 44 = .ok (.iconst 0, 1) := by decide +kernel
theorem dX7_lineLoss_45 : decode cX7_lineLoss 45 = .ok (.iadd, 1) := by decide +kernel
theorem dX7_lineLoss_46 : decode cX7_lineLoss 46 = .ok (.istore_n 2, 1) := by decide +kernel
theorem dX7_lineLoss_47 : decode cX7_lineLoss 47 = .ok (.iinc 3 1, 3) := by decide +kernel
theorem dX7_lineLoss_50 : decode cX7_lineLoss 50 = .ok (.goto (-35), 3) := by decide +kernel
theorem dX7_lineLoss_53 : decode cX7_lineLoss 53 = .ok (.iload_n 2, 1) := by decide +kernel
theorem dX7_lineLoss_54 : decode cX7_lineLoss 54 = .ok (.ireturn, 1) := by decide +kernel
theorem dX7_headerLoss_0 : decode cX7_headerLoss 0 = .ok (.iload_n 1, 1) := by decide +kernel
theorem dX7_headerLoss_1 : decode cX7_headerLoss 1 = .ok (.invokestatic 43, 3) := by decide +kernel
theorem dX7_headerLoss_4 : decode cX7_headerLoss 4 = .ok (.ifCond .ne 6, 3) := by decide +kernel
theorem dX7_headerLoss_7 : decode cX7_headerLoss 7 = .ok (.bipush (-2), 2) := by decide +kernel
theorem dX7_headerLoss_9 : decode cX7_headerLoss 9 = .ok (.ireturn, 1) := by decide +kernel
theorem dX7_headerLoss_10 : decode cX7_headerLoss 10 = .ok (.iconst 0, 1) := by decide +kernel
theorem dX7_headerLoss_11 : decode cX7_headerLoss 11 = .ok (.istore_n 2, 1) := by decide +kernel
theorem dX7_headerLoss_12 : decode cX7_headerLoss 12 = .ok (.iconst 0, 1) := by decide +kernel
theorem dX7_headerLoss_13 : decode cX7_headerLoss 13 = .ok (.istore_n 3, 1) := by decide +kernel
theorem dX7_headerLoss_14 : decode cX7_headerLoss 14 = .ok (.iload_n 3, 1) := by decide +kernel
theorem dX7_headerLoss_15 : decode cX7_headerLoss 15 = .ok (.aload_n 0, 1) := by decide +kernel
theorem dX7_headerLoss_16 : decode cX7_headerLoss 16 = .ok (.getfield 7, 3) := by decide +kernel
theorem dX7_headerLoss_19 : decode cX7_headerLoss 19 = .ok (.iconst 1, 1) := by decide +kernel
theorem dX7_headerLoss_20 : decode cX7_headerLoss 20 = .ok (.iaload, 1) := by decide +kernel
theorem dX7_headerLoss_21 : decode cX7_headerLoss 21 = .ok (.if_icmp .ge 30, 3) := by decide +kernel
theorem dX7_headerLoss_24 : decode cX7_headerLoss 24 = .ok (.iload_n 2, 1) := by decide +kernel
theorem dX7_headerLoss_25 : decode cX7_headerLoss 25 = .ok (.aload_n 0, 1) := by decide +kernel
theorem dX7_headerLoss_26 : decode cX7_headerLoss 26 = .ok (.iload_n 3, 1) := by decide +kernel
theorem dX7_headerLoss_27 : decode cX7_headerLoss 27 = .ok (.invokevirtual 56, 3) := by decide +kernel
theorem dX7_headerLoss_30 : decode cX7_headerLoss 30 = .ok (.iload_n 1, 1) := by decide +kernel
theorem dX7_headerLoss_31 : decode cX7_headerLoss 31 = .ok (.if_icmp .ne 11, 3) := by decide +kernel
theorem dX7_headerLoss_34 : decode cX7_headerLoss 34 = .ok (.aload_n 0, 1) := by decide +kernel
theorem dX7_headerLoss_35 : decode cX7_headerLoss 35 = .ok (.iload_n 3, 1) := by decide +kernel
theorem dX7_headerLoss_36 : decode cX7_headerLoss 36 = .ok (.invokevirtual 71, 3) := by decide +kernel
theorem dX7_headerLoss_39 : decode cX7_headerLoss 39 = .ok (.goto 4, 3) := by decide +kernel
theorem dX7_headerLoss_42 : decode cX7_headerLoss 42 = .ok (.iconst 0, 1) := by decide +kernel
theorem dX7_headerLoss_43 : decode cX7_headerLoss 43 = .ok (.iadd, 1) := by decide +kernel
theorem dX7_headerLoss_44 : decode cX7_headerLoss 44 = .ok (.istore_n 2, 1) := by decide +kernel
theorem dX7_headerLoss_45 : decode cX7_headerLoss 45 = .ok (.iinc 3 1, 3) := by decide +kernel
theorem dX7_headerLoss_48 : decode cX7_headerLoss 48 = .ok (.goto (-34), 3) := by decide +kernel
theorem dX7_headerLoss_51 : decode cX7_headerLoss 51 = .ok (.iload_n 2, 1) := by decide +kernel
theorem dX7_headerLoss_52 : decode cX7_headerLoss 52 = .ok (.ireturn, 1) := by decide +kernel
theorem dX7_lost_0 : decode cX7_lost 0 = .ok (.iload_n 1, 1) := by decide +kernel
theorem dX7_lost_1 : decode cX7_lost 1 = .ok (.iconst (-1), 1) := by decide +kernel
theorem dX7_lost_2 : decode cX7_lost 2 = .ok (.if_icmp .eq 24, 3) := by decide +kernel
theorem dX7_lost_5 : decode cX7_lost 5 = .ok (.aload_n 0, 1) := by decide +kernel
theorem dX7_lost_6 : decode cX7_lost 6 = .ok (.iload_n 1, 1) := by decide +kernel
theorem dX7_lost_7 : decode cX7_lost 7 = .ok (.invokevirtual 53, 3) := by decide +kernel
theorem dX7_lost_10 : decode cX7_lost 10 = .ok (.ifCond .eq 12, 3) := by decide +kernel
theorem dX7_lost_13 : decode cX7_lost 13 = .ok (.aload_n 0, 1) := by decide +kernel
theorem dX7_lost_14 : decode cX7_lost 14 = .ok (.getfield 13, 3) := by decide +kernel
theorem dX7_lost_17 : decode cX7_lost 17 = .ok (.iload_n 1, 1) := by decide +kernel
theorem dX7_lost_18 : decode cX7_lost 18 = .ok (.laload, 1) := by decide +kernel
theorem dX7_lost_19 : decode cX7_lost 19 = .ok (.goto 6, 3) := by decide +kernel
theorem dX7_lost_22 : decode cX7_lost 22 = .ok (.ldc2_w 74, 3) := by decide +kernel
theorem dX7_lost_25 : decode cX7_lost 25 = .ok (.lreturn, 1) := by decide +kernel
theorem dX7_lost_26 : decode cX7_lost 26 = .ok (.lconst 0, 1) := by decide +kernel
theorem dX7_lost_27 : decode cX7_lost 27 = .ok (.lstore_n 2, 1) := by decide +kernel
theorem dX7_lost_28 : decode cX7_lost 28 = .ok (.iconst 0, 1) := by decide +kernel
theorem dX7_lost_29 : decode cX7_lost 29 = .ok (.istore 4, 2) := by decide +kernel
theorem dX7_lost_31 : decode cX7_lost 31 = .ok (.iload 4, 2) := by decide +kernel
theorem dX7_lost_33 : decode cX7_lost 33 = .ok (.aload_n 0, 1) := by decide +kernel
theorem dX7_lost_34 : decode cX7_lost 34 = .ok (.getfield 7, 3) := by decide +kernel
theorem dX7_lost_37 : decode cX7_lost 37 = .ok (.iconst 1, 1) := by decide +kernel
theorem dX7_lost_38 : decode cX7_lost 38 = .ok (.iaload, 1) := by decide +kernel
theorem dX7_lost_39 : decode cX7_lost 39 = .ok (.if_icmp .ge 19, 3) := by decide +kernel
theorem dX7_lost_42 : decode cX7_lost 42 = .ok (.lload_n 2, 1) := by decide +kernel
theorem dX7_lost_43 : decode cX7_lost 43 = .ok (.aload_n 0, 1) := by decide +kernel
theorem dX7_lost_44 : decode cX7_lost 44 = .ok (.getfield 13, 3) := by decide +kernel
theorem dX7_lost_47 : decode cX7_lost 47 = .ok (.iload 4, 2) := by decide +kernel
theorem dX7_lost_49 : decode cX7_lost 49 = .ok (.laload, 1) := by decide +kernel
theorem dX7_lost_50 : decode cX7_lost 50 = .ok (.ladd, 1) := by decide +kernel
theorem dX7_lost_51 : decode cX7_lost 51 = .ok (.lstore_n 2, 1) := by decide +kernel
theorem dX7_lost_52 : decode cX7_lost 52 = .ok (.iinc 4 1, 3) := by decide +kernel
theorem dX7_lost_55 : decode cX7_lost 55 = .ok (.goto (-24), 3) := by decide +kernel
theorem dX7_lost_58 : decode cX7_lost 58 = .ok (.lload_n 2, 1) := by decide +kernel
theorem dX7_lost_59 : decode cX7_lost 59 = .ok (.lreturn, 1) := by decide +kernel
theorem dX7_worth_0 : decode cX7_worth 0 = .ok (.aload_n 0, 1) := by decide +kernel
theorem dX7_worth_1 : decode cX7_worth 1 = .ok (.iload_n 1, 1) := by decide +kernel
theorem dX7_worth_2 : decode cX7_worth 2 = .ok (.invokevirtual 71, 3) := by decide +kernel
theorem dX7_worth_5 : decode cX7_worth 5 = .ok (.i2l, 1) := by decide +kernel
theorem dX7_worth_6 : decode cX7_worth 6 = .ok (.aload_n 0, 1) := by decide +kernel
theorem dX7_worth_7 : decode cX7_worth 7 = .ok (.getfield 7, 3) := by decide +kernel
theorem dX7_worth_10 : decode cX7_worth 10 = .ok (.iconst 2, 1) := by decide +kernel
theorem dX7_worth_11 : decode cX7_worth 11 = .ok (.iaload, 1) := by decide +kernel
theorem dX7_worth_12 : decode cX7_worth 12 = .ok (.i2l, 1) := by decide +kernel
theorem dX7_worth_13 : decode cX7_worth 13 = .ok (.lmul, 1) := by decide +kernel
theorem dX7_worth_14 : decode cX7_worth 14 = .ok (.aload_n 0, 1) := by decide +kernel
theorem dX7_worth_15 : decode cX7_worth 15 = .ok (.getfield 7, 3) := by decide +kernel
theorem dX7_worth_18 : decode cX7_worth 18 = .ok (.iconst 3, 1) := by decide +kernel
theorem dX7_worth_19 : decode cX7_worth 19 = .ok (.iaload, 1) := by decide +kernel
theorem dX7_worth_20 : decode cX7_worth 20 = .ok (.i2l, 1) := by decide +kernel
theorem dX7_worth_21 : decode cX7_worth 21 = .ok (.lmul, 1) := by decide +kernel
theorem dX7_worth_22 : decode cX7_worth 22 = .ok (.lreturn, 1) := by decide +kernel
theorem dX7_saves_0 : decode cX7_saves 0 = .ok (.aload_n 0, 1) := by decide +kernel
theorem dX7_saves_1 : decode cX7_saves 1 = .ok (.iload_n 1, 1) := by decide +kernel
theorem dX7_saves_2 : decode cX7_saves 2 = .ok (.invokevirtual 53, 3) := by decide +kernel
theorem dX7_saves_5 : decode cX7_saves 5 = .ok (.ifCond .eq 15, 3) := by decide +kernel
theorem dX7_saves_8 : decode cX7_saves 8 = .ok (.aload_n 0, 1) := by decide +kernel
theorem dX7_saves_9 : decode cX7_saves 9 = .ok (.iload_n 1, 1) := by decide +kernel
theorem dX7_saves_10 : decode cX7_saves 10 = .ok (.invokevirtual 76, 3) := by decide +kernel
theorem dX7_saves_13 : decode cX7_saves 13 = .ok (.ldc2_w 80, 3) := by decide +kernel
theorem dX7_saves_16 : decode cX7_saves 16 = .ok (.ldiv, 1) := by decide +kernel
theorem dX7_saves_17 : decode cX7_saves 17 = .ok (.goto 6, 3) := by decide +kernel
theorem dX7_saves_20 : decode cX7_saves 20 = .ok (.ldc2_w 74, 3) := by decide +kernel
theorem dX7_saves_23 : decode cX7_saves 23 = .ok (.lreturn, 1) := by decide +kernel
theorem dX7_costOf_0 : decode cX7_costOf 0 = .ok (.aload_n 0, 1) := by decide +kernel
theorem dX7_costOf_1 : decode cX7_costOf 1 = .ok (.iload_n 1, 1) := by decide +kernel
theorem dX7_costOf_2 : decode cX7_costOf 2 = .ok (.iconst 1, 1) := by decide +kernel
theorem dX7_costOf_3 : decode cX7_costOf 3 = .ok (.invokevirtual 39, 3) := by decide +kernel
theorem dX7_costOf_6 : decode cX7_costOf 6 = .ok (.iconst 2, 1) := by decide +kernel
theorem dX7_costOf_7 : decode cX7_costOf 7 = .ok (.if_icmp .ne 18, 3) := by decide +kernel
theorem dX7_costOf_10 : decode cX7_costOf 10 = .ok (.bipush 30, 2) := by decide +kernel
theorem dX7_costOf_12 : decode cX7_costOf 12 = .ok (.bipush 10, 2) := by decide +kernel
theorem dX7_costOf_14 : decode cX7_costOf 14 = .ok (.aload_n 0, 1) := by decide +kernel
theorem dX7_costOf_15 : decode cX7_costOf 15 = .ok (.iload_n 1, 1) := by decide +kernel
theorem dX7_costOf_16 : decode cX7_costOf 16 = .ok (.iconst 2, 1) := by decide +kernel
theorem dX7_costOf_17 : decode cX7_costOf 17 = .ok (.invokevirtual 39, 3) := by decide +kernel
theorem dX7_costOf_20 : decode cX7_costOf 20 = .ok (.imul, 1) := by decide +kernel
theorem dX7_costOf_21 : decode cX7_costOf 21 = .ok (.iadd, 1) := by decide +kernel
theorem dX7_costOf_22 : decode cX7_costOf 22 = .ok (.goto 15, 3) := by decide +kernel
theorem dX7_costOf_25 : decode cX7_costOf 25 = .ok (.bipush 50, 2) := by decide +kernel
theorem dX7_costOf_27 : decode cX7_costOf 27 = .ok (.bipush 20, 2) := by decide +kernel
theorem dX7_costOf_29 : decode cX7_costOf 29 = .ok (.aload_n 0, 1) := by decide +kernel
theorem dX7_costOf_30 : decode cX7_costOf 30 = .ok (.iload_n 1, 1) := by decide +kernel
theorem dX7_costOf_31 : decode cX7_costOf 31 = .ok (.iconst 2, 1) := by decide +kernel
theorem dX7_costOf_32 : decode cX7_costOf 32 = .ok (.invokevirtual 39, 3) := by decide +kernel
theorem dX7_costOf_35 : decode cX7_costOf 35 = .ok (.imul, 1) := by decide +kernel
theorem dX7_costOf_36 : decode cX7_costOf 36 = .ok (.iadd, 1) := by decide +kernel
theorem dX7_costOf_37 : decode cX7_costOf 37 = .ok (.ireturn, 1) := by decide +kernel
theorem dX7_repairCost_0 : decode cX7_repairCost 0 = .ok (.aload_n 0, 1) := by decide +kernel
theorem dX7_repairCost_1 : decode cX7_repairCost 1 = .ok (.iload_n 1, 1) := by decide +kernel
theorem dX7_repairCost_2 : decode cX7_repairCost 2 = .ok (.invokevirtual 53, 3) := by decide +kernel
theorem dX7_repairCost_5 : decode cX7_repairCost 5 = .ok (.ifCond .eq 11, 3) := by decide +kernel
theorem dX7_repairCost_8 : decode cX7_repairCost 8 = .ok (.aload_n 0, 1) := by decide +kernel
theorem dX7_repairCost_9 : decode cX7_repairCost 9 = .ok (.iload_n 1, 1) := by decide +kernel
theorem dX7_repairCost_10 : decode cX7_repairCost 10 = .ok (.invokevirtual 82, 3) := by decide +kernel
theorem dX7_repairCost_13 : decode cX7_repairCost 13 = .ok (.goto 5, 3) := by decide +kernel
theorem dX7_repairCost_16 : decode cX7_repairCost 16 = .ok (.bipush (-2), 2) := by decide +kernel
theorem dX7_repairCost_18 : decode cX7_repairCost 18 = .ok (.ireturn, 1) := by decide +kernel
theorem dX7_paysBack_0 : decode cX7_paysBack 0 = .ok (.aload_n 0, 1) := by decide +kernel
theorem dX7_paysBack_1 : decode cX7_paysBack 1 = .ok (.iload_n 1, 1) := by decide +kernel
theorem dX7_paysBack_2 : decode cX7_paysBack 2 = .ok (.invokevirtual 76, 3) := by decide +kernel
theorem dX7_paysBack_5 : decode cX7_paysBack 5 = .ok (.lstore_n 2, 1) := by decide +kernel
theorem dX7_paysBack_6 : decode cX7_paysBack 6 = .ok (.lload_n 2, 1) := by decide +kernel
theorem dX7_paysBack_7 : decode cX7_paysBack 7 = .ok (.lconst 0, 1) := by decide +kernel
theorem dX7_paysBack_8 : decode cX7_paysBack 8 = .ok (.lcmp, 1) := by decide +kernel
theorem dX7_paysBack_9 : decode cX7_paysBack 9 = .ok (.ifCond .ne 9, 3) := by decide +kernel
theorem dX7_paysBack_12 : decode cX7_paysBack 12 = .ok (.ldc2_w 85, 3) := by decide +kernel
theorem dX7_paysBack_15 : decode cX7_paysBack 15 = .ok (.goto 19, 3) := by decide +kernel
theorem dX7_paysBack_18 : decode cX7_paysBack 18 = .ok (.ldc2_w 80, 3) := by decide +kernel
theorem dX7_paysBack_21 : decode cX7_paysBack 21 = .ok (.aload_n 0, 1) := by decide +kernel
theorem dX7_paysBack_22 : decode cX7_paysBack 22 = .ok (.iload_n 1, 1) := by decide +kernel
theorem dX7_paysBack_23 : decode cX7_paysBack 23 = .ok (.invokevirtual 82, 3) := by decide +kernel
theorem dX7_paysBack_26 : decode cX7_paysBack 26 = .ok (.i2l, 1) := by decide +kernel
theorem dX7_paysBack_27 : decode cX7_paysBack 27 = .ok (.lmul, 1) := by decide +kernel
theorem dX7_paysBack_28 : decode cX7_paysBack 28 = .ok (.lload_n 2, 1) := by decide +kernel
theorem dX7_paysBack_29 : decode cX7_paysBack 29 = .ok (.ladd, 1) := by decide +kernel
theorem dX7_paysBack_30 : decode cX7_paysBack 30 = .ok (.lconst 1, 1) := by decide +kernel
theorem dX7_paysBack_31 : decode cX7_paysBack 31 = .ok (.lsub, 1) := by decide +kernel
theorem dX7_paysBack_32 : decode cX7_paysBack 32 = .ok (.lload_n 2, 1) := by decide +kernel
theorem dX7_paysBack_33 : decode cX7_paysBack 33 = .ok (.ldiv, 1) := by decide +kernel
theorem dX7_paysBack_34 : decode cX7_paysBack 34 = .ok (.lreturn, 1) := by decide +kernel
theorem dX7_payback_0 : decode cX7_payback 0 = .ok (.aload_n 0, 1) := by decide +kernel
theorem dX7_payback_1 : decode cX7_payback 1 = .ok (.iload_n 1, 1) := by decide +kernel
theorem dX7_payback_2 : decode cX7_payback 2 = .ok (.invokevirtual 53, 3) := by decide +kernel
theorem dX7_payback_5 : decode cX7_payback 5 = .ok (.ifCond .eq 11, 3) := by decide +kernel
theorem dX7_payback_8 : decode cX7_payback 8 = .ok (.aload_n 0, 1) := by decide +kernel
theorem dX7_payback_9 : decode cX7_payback 9 = .ok (.iload_n 1, 1) := by decide +kernel
theorem dX7_payback_10 : decode cX7_payback 10 = .ok (.invokevirtual 87, 3) := by decide +kernel
theorem dX7_payback_13 : decode cX7_payback 13 = .ok (.goto 6, 3) := by decide +kernel
theorem dX7_payback_16 : decode cX7_payback 16 = .ok (.ldc2_w 74, 3) := by decide +kernel
theorem dX7_payback_19 : decode cX7_payback 19 = .ok (.lreturn, 1) := by decide +kernel
theorem dX7_isAhead_0 : decode cX7_isAhead 0 = .ok (.aload_n 0, 1) := by decide +kernel
theorem dX7_isAhead_1 : decode cX7_isAhead 1 = .ok (.iload_n 1, 1) := by decide +kernel
theorem dX7_isAhead_2 : decode cX7_isAhead 2 = .ok (.invokevirtual 87, 3) := by decide +kernel
theorem dX7_isAhead_5 : decode cX7_isAhead 5 = .ok (.aload_n 0, 1) := by decide +kernel
theorem dX7_isAhead_6 : decode cX7_isAhead 6 = .ok (.iload_n 2, 1) := by decide +kernel
theorem dX7_isAhead_7 : decode cX7_isAhead 7 = .ok (.invokevirtual 87, 3) := by decide +kernel
theorem dX7_isAhead_10 : decode cX7_isAhead 10 = .ok (.lcmp, 1) := by decide +kernel
theorem dX7_isAhead_11 : decode cX7_isAhead 11 = .ok (.ifCond .eq 23, 3) := by decide +kernel
theorem dX7_isAhead_14 : decode cX7_isAhead 14 = .ok (.aload_n 0, 1) := by decide +kernel
theorem dX7_isAhead_15 : decode cX7_isAhead 15 = .ok (.iload_n 1, 1) := by decide +kernel
theorem dX7_isAhead_16 : decode cX7_isAhead 16 = .ok (.invokevirtual 87, 3) := by decide +kernel
theorem dX7_isAhead_19 : decode cX7_isAhead 19 = .ok (.aload_n 0, 1) := by decide +kernel
theorem dX7_isAhead_20 : decode cX7_isAhead 20 = .ok (.iload_n 2, 1) := by decide +kernel
theorem dX7_isAhead_21 : decode cX7_isAhead 21 = .ok (.invokevirtual 87, 3) := by decide +kernel
theorem dX7_isAhead_24 : decode cX7_isAhead 24 = .ok (.lcmp, 1) := by decide +kernel
theorem dX7_isAhead_25 : decode cX7_isAhead 25 = .ok (.ifCond .ge 7, 3) := by decide +kernel
theorem dX7_isAhead_28 : decode cX7_isAhead 28 = .ok (.iconst 1, 1) := by decide +kernel
theorem dX7_isAhead_29 : decode cX7_isAhead 29 = .ok (.goto 4, 3) := by decide +kernel
theorem dX7_isAhead_32 : decode cX7_isAhead 32 = .ok (.iconst 0, 1) := by decide +kernel
theorem dX7_isAhead_33 : decode cX7_isAhead 33 = .ok (.ireturn, 1) := by decide +kernel
theorem dX7_isAhead_34 : decode cX7_isAhead 34 = .ok (.aload_n 0, 1) := by decide +kernel
theorem dX7_isAhead_35 : decode cX7_isAhead 35 = .ok (.iload_n 1, 1) := by decide +kernel
theorem dX7_isAhead_36 : decode cX7_isAhead 36 = .ok (.invokevirtual 71, 3) := by decide +kernel
theorem dX7_isAhead_39 : decode cX7_isAhead 39 = .ok (.aload_n 0, 1) := by decide +kernel
theorem dX7_isAhead_40 : decode cX7_isAhead 40 = .ok (.iload_n 2, 1) := by decide +kernel
theorem dX7_isAhead_41 : decode cX7_isAhead 41 = .ok (.invokevirtual 71, 3) := by decide +kernel
theorem dX7_isAhead_44 : decode cX7_isAhead 44 = .ok (.if_icmp .gt 21, 3) := by decide +kernel
theorem dX7_isAhead_47 : decode cX7_isAhead 47 = .ok (.aload_n 0, 1) := by decide +kernel
theorem dX7_isAhead_48 : decode cX7_isAhead 48 = .ok (.iload_n 1, 1) := by decide +kernel
theorem dX7_isAhead_49 : decode cX7_isAhead 49 = .ok (.invokevirtual 71, 3) := by decide +kernel
theorem dX7_isAhead_52 : decode cX7_isAhead 52 = .ok (.aload_n 0, 1) := by decide +kernel
theorem dX7_isAhead_53 : decode cX7_isAhead 53 = .ok (.iload_n 2, 1) := by decide +kernel
theorem dX7_isAhead_54 : decode cX7_isAhead 54 = .ok (.invokevirtual 71, 3) := by decide +kernel
theorem dX7_isAhead_57 : decode cX7_isAhead 57 = .ok (.if_icmp .ne 12, 3) := by decide +kernel
theorem dX7_isAhead_60 : decode cX7_isAhead 60 = .ok (.iload_n 1, 1) := by decide +kernel
theorem dX7_isAhead_61 : decode cX7_isAhead 61 = .ok (.iload_n 2, 1) := by decide +kernel
theorem dX7_isAhead_62 : decode cX7_isAhead 62 = .ok (.if_icmp .ge 7, 3) := by decide +kernel
theorem dX7_isAhead_65 : decode cX7_isAhead 65 = .ok (.iconst 1, 1) := by decide +kernel
theorem dX7_isAhead_66 : decode cX7_isAhead 66 = .ok (.goto 4, 3) := by decide +kernel
theorem dX7_isAhead_69 : decode cX7_isAhead 69 = .ok (.iconst 0, 1) := by decide +kernel
theorem dX7_isAhead_70 : decode cX7_isAhead 70 = .ok (.ireturn, 1) := by decide +kernel
theorem dX7_ranked_0 : decode cX7_ranked 0 = .ok (.iconst 0, 1) := by decide +kernel
theorem dX7_ranked_1 : decode cX7_ranked 1 = .ok (.istore_n 2, 1) := by decide +kernel
theorem dX7_ranked_2 : decode cX7_ranked 2 = .ok (.iload_n 2, 1) := by decide +kernel
theorem dX7_ranked_3 : decode cX7_ranked 3 = .ok (.aload_n 0, 1) := by decide +kernel
theorem dX7_ranked_4 : decode cX7_ranked 4 = .ok (.getfield 7, 3) := by decide +kernel
theorem dX7_ranked_7 : decode cX7_ranked 7 = .ok (.iconst 1, 1) := by decide +kernel
theorem dX7_ranked_8 : decode cX7_ranked 8 = .ok (.iaload, 1) := by decide +kernel
theorem dX7_ranked_9 : decode cX7_ranked 9 = .ok (.if_icmp .ge 79, 3) := by decide +kernel
theorem dX7_ranked_12 : decode cX7_ranked 12 = .ok (.iconst 0, 1) := by decide +kernel
theorem dX7_ranked_13 : decode cX7_ranked 13 = .ok (.istore_n 3, 1) := by decide +kernel
theorem dX7_ranked_14 : decode cX7_ranked 14 = .ok (.iconst 0, 1) := by decide +kernel
theorem dX7_ranked_15 : decode cX7_ranked 15 = .ok (.istore 4, 2) := by decide +kernel
theorem dX7_ranked_17 : decode cX7_ranked 17 = .ok (.iload 4, 2) := by decide +kernel
theorem dX7_ranked_19 : decode cX7_ranked 19 = .ok (.aload_n 0, 1) := by decide +kernel
theorem dX7_ranked_20 : decode cX7_ranked 20 = .ok (.getfield 7, 3) := by decide +kernel
theorem dX7_ranked_23 : decode cX7_ranked 23 = .ok (.iconst 1, 1) := by decide +kernel
theorem dX7_ranked_24 : decode cX7_ranked 24 = .ok (.iaload, 1) := by decide +kernel
theorem dX7_ranked_25 : decode cX7_ranked 25 = .ok (.if_icmp .ge 42, 3) := by decide +kernel
theorem dX7_ranked_28 : decode cX7_ranked 28 = .ok (.iload_n 3, 1) := by decide +kernel
theorem dX7_ranked_29 : decode cX7_ranked 29 = .ok (.iload 4, 2) := by decide +kernel
theorem dX7_ranked_31 : decode cX7_ranked 31 = .ok (.iload_n 2, 1) := by decide +kernel
theorem dX7_ranked_32 : decode cX7_ranked 32 = .ok (.if_icmp .eq 26, 3) := by decide +kernel
theorem dX7_ranked_35 : decode cX7_ranked 35 = .ok (.aload_n 0, 1) := by decide +kernel
theorem dX7_ranked_36 : decode cX7_ranked 36 = .ok (.iload 4, 2) := by decide +kernel
theorem dX7_ranked_38 : decode cX7_ranked 38 = .ok (.invokevirtual 71, 3) := by decide +kernel
theorem dX7_ranked_41 : decode cX7_ranked 41 = .ok (.ifCond .le 17, 3) := by decide +kernel
theorem dX7_ranked_44 : decode cX7_ranked 44 = .ok (.aload_n 0, 1) := by decide +kernel
theorem dX7_ranked_45 : decode cX7_ranked 45 = .ok (.iload 4, 2) := by decide +kernel
theorem dX7_ranked_47 : decode cX7_ranked 47 = .ok (.iload_n 2, 1) := by decide +kernel
theorem dX7_ranked_48 : decode cX7_ranked 48 = .ok (.invokevirtual 90, 3) := by decide +kernel
theorem dX7_ranked_51 : decode cX7_ranked 51 = .ok (.ifCond .eq 7, 3) := by decide +kernel
theorem dX7_ranked_54 : decode cX7_ranked 54 = .ok (.iconst 1, 1) := by decide +kernel
theorem dX7_ranked_55 : decode cX7_ranked 55 = .ok (.goto 4, 3) := by decide +kernel
theorem dX7_ranked_58 : decode cX7_ranked 58 = .ok (.iconst 0, 1) := by decide +kernel
theorem dX7_ranked_59 : decode cX7_ranked 59 = .ok (.iadd, 1) := by decide +kernel
theorem dX7_ranked_60 : decode cX7_ranked 60 = .ok (.istore_n 3, 1) := by decide +kernel
theorem dX7_ranked_61 : decode cX7_ranked 61 = .ok (.iinc 4 1, 3) := by decide +kernel
theorem dX7_ranked_64 : decode cX7_ranked 64 = .ok (.goto (-47), 3) := by decide +kernel
theorem dX7_ranked_67 : decode cX7_ranked 67 = .ok (.aload_n 0, 1) := by decide +kernel
theorem dX7_ranked_68 : decode cX7_ranked 68 = .ok (.iload_n 2, 1) := by decide +kernel
theorem dX7_ranked_69 : decode cX7_ranked 69 = .ok (.invokevirtual 71, 3) := by decide +kernel
theorem dX7_ranked_72 : decode cX7_ranked 72 = .ok (.ifCond .le 10, 3) := by decide +kernel
theorem dX7_ranked_75 : decode cX7_ranked 75 = .ok (.iload_n 3, 1) := by decide +kernel
theorem dX7_ranked_76 : decode cX7_ranked 76 = .ok (.iload_n 1, 1) := by decide +kernel
theorem dX7_ranked_77 : decode cX7_ranked 77 = .ok (.if_icmp .ne 5, 3) := by decide +kernel
theorem dX7_ranked_80 : decode cX7_ranked 80 = .ok (.iload_n 2, 1) := by decide +kernel
theorem dX7_ranked_81 : decode cX7_ranked 81 = .ok (.ireturn, 1) := by decide +kernel
theorem dX7_ranked_82 : decode cX7_ranked 82 = .ok (.iinc 2 1, 3) := by decide +kernel
theorem dX7_ranked_85 : decode cX7_ranked 85 = .ok (.goto (-83), 3) := by decide +kernel
theorem dX7_ranked_88 : decode cX7_ranked 88 = .ok (.iconst (-1), 1) := by decide +kernel
theorem dX7_ranked_89 : decode cX7_ranked 89 = .ok (.ireturn, 1) := by decide +kernel
theorem dX7_order_0 : decode cX7_order 0 = .ok (.iload_n 1, 1) := by decide +kernel
theorem dX7_order_1 : decode cX7_order 1 = .ok (.ifCond .ge 8, 3) := by decide +kernel
theorem dX7_order_4 : decode cX7_order 4 = .ok (.bipush (-3), 2) := by decide +kernel
theorem dX7_order_6 : decode cX7_order 6 = .ok (.goto 8, 3) := by decide +kernel
theorem dX7_order_9 : decode cX7_order 9 = .ok (.aload_n 0, 1) := by decide +kernel
theorem dX7_order_10 : decode cX7_order 10 = .ok (.iload_n 1, 1) := by decide +kernel
theorem dX7_order_11 : decode cX7_order 11 = .ok (.invokevirtual 94, 3) := by decide +kernel
theorem dX7_order_14 : decode cX7_order 14 = .ok (.ireturn, 1) := by decide +kernel
theorem dX7_repairs_0 : decode cX7_repairs 0 = .ok (.aload_n 0, 1) := by decide +kernel
theorem dX7_repairs_1 : decode cX7_repairs 1 = .ok (.getfield 7, 3) := by decide +kernel
theorem dX7_repairs_4 : decode cX7_repairs 4 = .ok (.bipush 19, 2) := by decide +kernel
theorem dX7_repairs_6 : decode cX7_repairs 6 = .ok (.bipush 7, 2) := by decide +kernel
theorem dX7_repairs_8 : decode cX7_repairs 8 = .ok (.iload_n 1, 1) := by decide +kernel
theorem dX7_repairs_9 : decode cX7_repairs 9 = .ok (.imul, 1) := by decide +kernel
theorem dX7_repairs_10 : decode cX7_repairs 10 = .ok (.iadd, 1) := by decide +kernel
theorem dX7_repairs_11 : decode cX7_repairs 11 = .ok (.iconst 5, 1) := by decide +kernel
theorem dX7_repairs_12 : decode cX7_repairs 12 = .ok (.iadd, 1) := by decide +kernel
theorem dX7_repairs_13 : decode cX7_repairs 13 = .ok (.iconst 1, 1) := by decide +kernel
theorem dX7_repairs_14 : decode cX7_repairs 14 = .ok (.iastore, 1) := by decide +kernel
theorem dX7_repairs_15 : decode cX7_repairs 15 = .ok (.aload_n 0, 1) := by decide +kernel
theorem dX7_repairs_16 : decode cX7_repairs 16 = .ok (.getfield 7, 3) := by decide +kernel
theorem dX7_repairs_19 : decode cX7_repairs 19 = .ok (.bipush 6, 2) := by decide +kernel
theorem dX7_repairs_21 : decode cX7_repairs 21 = .ok (.dup2, 1) := by decide +kernel
theorem dX7_repairs_22 : decode cX7_repairs 22 = .ok (.iaload, 1) := by decide +kernel
theorem dX7_repairs_23 : decode cX7_repairs 23 = .ok (.aload_n 0, 1) := by decide +kernel
theorem dX7_repairs_24 : decode cX7_repairs 24 = .ok (.iload_n 1, 1) := by decide +kernel
theorem dX7_repairs_25 : decode cX7_repairs 25 = .ok (.invokevirtual 82, 3) := by decide +kernel
theorem dX7_repairs_28 : decode cX7_repairs 28 = .ok (.iadd, 1) := by decide +kernel
theorem dX7_repairs_29 : decode cX7_repairs 29 = .ok (.iastore, 1) := by decide +kernel
theorem dX7_repairs_30 : decode cX7_repairs 30 = .ok (.aload_n 0, 1) := by decide +kernel
theorem dX7_repairs_31 : decode cX7_repairs 31 = .ok (.getfield 7, 3) := by decide +kernel
theorem dX7_repairs_34 : decode cX7_repairs 34 = .ok (.bipush 7, 2) := by decide +kernel
theorem dX7_repairs_36 : decode cX7_repairs 36 = .ok (.dup2, 1) := by decide +kernel
theorem dX7_repairs_37 : decode cX7_repairs 37 = .ok (.iaload, 1) := by decide +kernel
theorem dX7_repairs_38 : decode cX7_repairs 38 = .ok (.iconst 1, 1) := by decide +kernel
theorem dX7_repairs_39 : decode cX7_repairs 39 = .ok (.iadd, 1) := by decide +kernel
theorem dX7_repairs_40 : decode cX7_repairs 40 = .ok (.iastore, 1) := by decide +kernel
theorem dX7_repairs_41 : decode cX7_repairs 41 = .ok (.return_, 1) := by decide +kernel
theorem dX7_repair_0 : decode cX7_repair 0 = .ok (.aload_n 0, 1) := by decide +kernel
theorem dX7_repair_1 : decode cX7_repair 1 = .ok (.iload_n 1, 1) := by decide +kernel
theorem dX7_repair_2 : decode cX7_repair 2 = .ok (.invokevirtual 53, 3) := by decide +kernel
theorem dX7_repair_5 : decode cX7_repair 5 = .ok (.ifCond .ne 6, 3) := by decide +kernel
theorem dX7_repair_8 : decode cX7_repair 8 = .ok (.bipush (-2), 2) := by decide +kernel
theorem dX7_repair_10 : decode cX7_repair 10 = .ok (.ireturn, 1) := by decide +kernel
theorem dX7_repair_11 : decode cX7_repair 11 = .ok (.aload_n 0, 1) := by decide +kernel
theorem dX7_repair_12 : decode cX7_repair 12 = .ok (.iload_n 1, 1) := by decide +kernel
theorem dX7_repair_13 : decode cX7_repair 13 = .ok (.iconst 5, 1) := by decide +kernel
theorem dX7_repair_14 : decode cX7_repair 14 = .ok (.invokevirtual 39, 3) := by decide +kernel
theorem dX7_repair_17 : decode cX7_repair 17 = .ok (.iconst 2, 1) := by decide +kernel
theorem dX7_repair_18 : decode cX7_repair 18 = .ok (.if_icmp .ge 6, 3) := by decide +kernel
theorem dX7_repair_21 : decode cX7_repair 21 = .ok (.bipush (-4), 2) := by decide +kernel
theorem dX7_repair_23 : decode cX7_repair 23 = .ok (.ireturn, 1) := by decide +kernel
theorem dX7_repair_24 : decode cX7_repair 24 = .ok (.aload_n 0, 1) := by decide +kernel
theorem dX7_repair_25 : decode cX7_repair 25 = .ok (.invokevirtual 47, 3) := by decide +kernel
theorem dX7_repair_28 : decode cX7_repair 28 = .ok (.aload_n 0, 1) := by decide +kernel
theorem dX7_repair_29 : decode cX7_repair 29 = .ok (.iload_n 1, 1) := by decide +kernel
theorem dX7_repair_30 : decode cX7_repair 30 = .ok (.invokevirtual 97, 3) := by decide +kernel
theorem dX7_repair_33 : decode cX7_repair 33 = .ok (.aload_n 0, 1) := by decide +kernel
theorem dX7_repair_34 : decode cX7_repair 34 = .ok (.iload_n 1, 1) := by decide +kernel
theorem dX7_repair_35 : decode cX7_repair 35 = .ok (.invokevirtual 82, 3) := by decide +kernel
theorem dX7_repair_38 : decode cX7_repair 38 = .ok (.ireturn, 1) := by decide +kernel
theorem dX7_repairAll_0 : decode cX7_repairAll 0 = .ok (.iload_n 1, 1) := by decide +kernel
theorem dX7_repairAll_1 : decode cX7_repairAll 1 = .ok (.iconst 0, 1) := by decide +kernel
theorem dX7_repairAll_2 : decode cX7_repairAll 2 = .ok (.sipush 10000, 3) := by decide +kernel
theorem dX7_repairAll_5 : decode cX7_repairAll 5 = .ok (.invokestatic 35, 3) := by decide +kernel
theorem dX7_repairAll_8 : decode cX7_repairAll 8 = .ok (.ifCond .ne 6, 3) := by decide +kernel
theorem dX7_repairAll_11 : decode cX7_repairAll 11 = .ok (.bipush (-3), 2) := by decide +kernel
theorem dX7_repairAll_13 : decode cX7_repairAll 13 = .ok (.ireturn, 1) := by decide +kernel
theorem dX7_repairAll_14 : decode cX7_repairAll 14 = .ok (.aload_n 0, 1) := by decide +kernel
theorem dX7_repairAll_15 : decode cX7_repairAll 15 = .ok (.invokevirtual 47, 3) := by decide +kernel
theorem dX7_repairAll_18 : decode cX7_repairAll 18 = .ok (.iload_n 1, 1) := by decide +kernel
theorem dX7_repairAll_19 : decode cX7_repairAll 19 = .ok (.istore_n 2, 1) := by decide +kernel
theorem dX7_repairAll_20 : decode cX7_repairAll 20 = .ok (.iconst 0, 1) := by decide +kernel
theorem dX7_repairAll_21 : decode cX7_repairAll 21 = .ok (.istore_n 3, 1) := by decide +kernel
theorem dX7_repairAll_22 : decode cX7_repairAll 22 = .ok (.aload_n 0, 1) := by decide +kernel
theorem dX7_repairAll_23 : decode cX7_repairAll 23 = .ok (.iconst 0, 1) := by decide +kernel
theorem dX7_repairAll_24 : decode cX7_repairAll 24 = .ok (.invokevirtual 94, 3) := by decide +kernel
theorem dX7_repairAll_27 : decode cX7_repairAll 27 = .ok (.istore 4, 2) := by decide +kernel
theorem dX7_repairAll_29 : decode cX7_repairAll 29 = .ok (.iload 4, 2) := by decide +kernel
theorem dX7_repairAll_31 : decode cX7_repairAll 31 = .ok (.iconst (-1), 1) := by decide +kernel
theorem dX7_repairAll_32 : decode cX7_repairAll 32 = .ok (.if_icmp .eq 41, 3) := by decide +kernel
theorem dX7_repairAll_35 : decode cX7_repairAll 35 = .ok (.aload_n 0, 1) := by decide +kernel
theorem dX7_repairAll_36 : decode cX7_repairAll 36 = .ok (.iload 4, 2) := by decide +kernel
theorem dX7_repairAll_38 : decode cX7_repairAll 38 = .ok (.invokevirtual 82, 3) := by decide +kernel
theorem dX7_repairAll_41 : decode cX7_repairAll 41 = .ok (.iload_n 2, 1) := by decide +kernel
theorem dX7_repairAll_42 : decode cX7_repairAll 42 = .ok (.if_icmp .gt 31, 3) := by decide +kernel
theorem dX7_repairAll_45 : decode cX7_repairAll 45 = .ok (.iload_n 2, 1) := by decide +kernel
theorem dX7_repairAll_46 : decode cX7_repairAll 46 = .ok (.aload_n 0, 1) := by decide +kernel
theorem dX7_repairAll_47 : decode cX7_repairAll 47 = .ok (.iload 4, 2) := by decide +kernel
theorem dX7_repairAll_49 : decode cX7_repairAll 49 = .ok (.invokevirtual 82, 3) := by decide +kernel
theorem dX7_repairAll_52 : decode cX7_repairAll 52 = .ok (.isub, 1) := by decide +kernel
theorem dX7_repairAll_53 : decode cX7_repairAll 53 = .ok (.istore_n 2, 1) := by decide +kernel
theorem dX7_repairAll_54 : decode cX7_repairAll 54 = .ok (.aload_n 0, 1) := by decide +kernel
theorem dX7_repairAll_55 : decode cX7_repairAll 55 = .ok (.iload 4, 2) := by decide +kernel
theorem dX7_repairAll_57 : decode cX7_repairAll 57 = .ok (.invokevirtual 97, 3) := by decide +kernel
theorem dX7_repairAll_60 : decode cX7_repairAll 60 = .ok (.iinc 3 1, 3) := by decide +kernel
theorem dX7_repairAll_63 : decode cX7_repairAll 63 = .ok (.aload_n 0, 1) := by decide +kernel
theorem dX7_repairAll_64 : decode cX7_repairAll 64 = .ok (.iconst 0, 1) := by decide +kernel
theorem dX7_repairAll_65 : decode cX7_repairAll 65 = .ok (.invokevirtual 94, 3) := by decide +kernel
theorem dX7_repairAll_68 : decode cX7_repairAll 68 = .ok (.istore 4, 2) := by decide +kernel
theorem dX7_repairAll_70 : decode cX7_repairAll 70 = .ok (.goto (-41), 3) := by decide +kernel
theorem dX7_repairAll_73 : decode cX7_repairAll 73 = .ok (.iload_n 3, 1) := by decide +kernel
theorem dX7_repairAll_74 : decode cX7_repairAll 74 = .ok (.ireturn, 1) := by decide +kernel
theorem dX7_due_0 : decode cX7_due 0 = .ok (.aload_n 0, 1) := by decide +kernel
theorem dX7_due_1 : decode cX7_due 1 = .ok (.iload_n 1, 1) := by decide +kernel
theorem dX7_due_2 : decode cX7_due 2 = .ok (.bipush 6, 2) := by decide +kernel
theorem dX7_due_4 : decode cX7_due 4 = .ok (.invokevirtual 39, 3) := by decide +kernel
theorem dX7_due_7 : decode cX7_due 7 = .ok (.iconst (-1), 1) := by decide +kernel
theorem dX7_due_8 : decode cX7_due 8 = .ok (.if_icmp .eq 36, 3) := by decide +kernel
theorem dX7_due_11 : decode cX7_due 11 = .ok (.aload_n 0, 1) := by decide +kernel
theorem dX7_due_12 : decode cX7_due 12 = .ok (.iload_n 1, 1) := by decide +kernel
theorem dX7_due_13 : decode cX7_due 13 = .ok (.iconst 5, 1) := by decide +kernel
theorem dX7_due_14 : decode cX7_due 14 = .ok (.invokevirtual 39, 3) := by decide +kernel
theorem dX7_due_17 : decode cX7_due 17 = .ok (.iconst 1, 1) := by decide +kernel
theorem dX7_due_18 : decode cX7_due 18 = .ok (.if_icmp .ne 26, 3) := by decide +kernel
theorem dX7_due_21 : decode cX7_due 21 = .ok (.aload_n 0, 1) := by decide +kernel
theorem dX7_due_22 : decode cX7_due 22 = .ok (.getfield 7, 3) := by decide +kernel
theorem dX7_due_25 : decode cX7_due 25 = .ok (.iconst 5, 1) := by decide +kernel
theorem dX7_due_26 : decode cX7_due 26 = .ok (.iaload, 1) := by decide +kernel
theorem dX7_due_27 : decode cX7_due 27 = .ok (.aload_n 0, 1) := by decide +kernel
theorem dX7_due_28 : decode cX7_due 28 = .ok (.iload_n 1, 1) := by decide +kernel
theorem dX7_due_29 : decode cX7_due 29 = .ok (.bipush 6, 2) := by decide +kernel
theorem dX7_due_31 : decode cX7_due 31 = .ok (.invokevirtual 39, 3) := by decide +kernel
theorem dX7_due_34 : decode cX7_due 34 = .ok (.isub, 1) := by decide +kernel
theorem dX7_due_35 : decode cX7_due 35 = .ok (.aload_n 0, 1) := by decide +kernel
theorem dX7_due_36 : decode cX7_due 36 = .ok (.getfield 7, 3) := by decide +kernel
theorem dX7_due_39 : decode cX7_due 39 = .ok (.iconst 4, 1) := by decide +kernel
theorem dX7_due_40 : decode cX7_due 40 = .ok (.iaload, 1) := by decide +kernel
theorem dX7_due_41 : decode cX7_due 41 = .ok (.if_icmp .lt 7, 3) := by decide +kernel
theorem dX7_due_44 : decode cX7_due 44 = .ok (.iconst 1, 1) := by decide +kernel
theorem dX7_due_45 : decode cX7_due 45 = .ok (.goto 4, 3) := by decide +kernel
theorem dX7_due_48 : decode cX7_due 48 = .ok (.iconst 0, 1) := by decide +kernel
theorem dX7_due_49 : decode cX7_due 49 = .ok (.ireturn, 1) := by decide +kernel
theorem dX7_isDue_0 : decode cX7_isDue 0 = .ok (.aload_n 0, 1) := by decide +kernel
theorem dX7_isDue_1 : decode cX7_isDue 1 = .ok (.iload_n 1, 1) := by decide +kernel
theorem dX7_isDue_2 : decode cX7_isDue 2 = .ok (.invokevirtual 53, 3) := by decide +kernel
theorem dX7_isDue_5 : decode cX7_isDue 5 = .ok (.ifCond .ne 8, 3) := by decide +kernel
theorem dX7_isDue_8 : decode cX7_isDue 8 = .ok (.bipush (-2), 2) := by decide +kernel
theorem dX7_isDue_10 : decode cX7_isDue 10 = .ok (.goto 16, 3) := by decide +kernel
theorem dX7_isDue_13 : decode cX7_isDue 13 = .ok (.aload_n 0, 1) := by decide +kernel
theorem dX7_isDue_14 : decode cX7_isDue 14 = .ok (.iload_n 1, 1) := by decide +kernel
theorem dX7_isDue_15 : decode cX7_isDue 15 = .ok (.invokevirtual 101, 3) := by decide +kernel
theorem dX7_isDue_18 : decode cX7_isDue 18 = .ok (.ifCond .eq 7, 3) := by decide +kernel
theorem dX7_isDue_21 : decode cX7_isDue 21 = .ok (.iconst 1, 1) := by decide +kernel
theorem dX7_isDue_22 : decode cX7_isDue 22 = .ok (.goto 4, 3) := by decide +kernel
theorem dX7_isDue_25 : decode cX7_isDue 25 = .ok (.iconst 0, 1) := by decide +kernel
theorem dX7_isDue_26 : decode cX7_isDue 26 = .ok (.ireturn, 1) := by decide +kernel
theorem dX7_size_0 : decode cX7_size 0 = .ok (.iload_n 0, 1) := by decide +kernel
theorem dX7_size_1 : decode cX7_size 1 = .ok (.ifCond .ge 8, 3) := by decide +kernel
theorem dX7_size_4 : decode cX7_size 4 = .ok (.iload_n 0, 1) := by decide +kernel
theorem dX7_size_5 : decode cX7_size 5 = .ok (.ineg, 1) := by decide +kernel
theorem dX7_size_6 : decode cX7_size 6 = .ok (.goto 4, 3) := by decide +kernel
theorem dX7_size_9 : decode cX7_size 9 = .ok (.iload_n 0, 1) := by decide +kernel
theorem dX7_size_10 : decode cX7_size 10 = .ok (.ireturn, 1) := by decide +kernel
theorem dX7_walks_0 : decode cX7_walks 0 = .ok (.iconst 0, 1) := by decide +kernel
theorem dX7_walks_1 : decode cX7_walks 1 = .ok (.istore_n 1, 1) := by decide +kernel
theorem dX7_walks_2 : decode cX7_walks 2 = .ok (.iconst 0, 1) := by decide +kernel
theorem dX7_walks_3 : decode cX7_walks 3 = .ok (.istore_n 2, 1) := by decide +kernel
theorem dX7_walks_4 : decode cX7_walks 4 = .ok (.aload_n 0, 1) := by decide +kernel
theorem dX7_walks_5 : decode cX7_walks 5 = .ok (.iconst 0, 1) := by decide +kernel
theorem dX7_walks_6 : decode cX7_walks 6 = .ok (.putfield 104, 3) := by decide +kernel
theorem dX7_walks_9 : decode cX7_walks 9 = .ok (.aload_n 0, 1) := by decide +kernel
theorem dX7_walks_10 : decode cX7_walks 10 = .ok (.iconst 0, 1) := by decide +kernel
theorem dX7_walks_11 : decode cX7_walks 11 = .ok (.putfield 107, 3) := by decide +kernel
theorem dX7_walks_14 : decode cX7_walks 14 = .ok (.iconst 0, 1) := by decide +kernel
theorem dX7_walks_15 : decode cX7_walks 15 = .ok (.istore_n 3, 1) := by decide +kernel
theorem dX7_walks_16 : decode cX7_walks 16 = .ok (.iload_n 3, 1) := by decide +kernel
theorem dX7_walks_17 : decode cX7_walks 17 = .ok (.aload_n 0, 1) := by decide +kernel
theorem dX7_walks_18 : decode cX7_walks 18 = .ok (.getfield 7, 3) := by decide +kernel
theorem dX7_walks_21 : decode cX7_walks 21 = .ok (.iconst 1, 1) := by decide +kernel
theorem dX7_walks_22 : decode cX7_walks 22 = .ok (.iaload, 1) := by decide +kernel
theorem dX7_walks_23 : decode cX7_walks 23 = .ok (.if_icmp .ge 28, 3) := by decide +kernel
theorem dX7_walks_26 : decode cX7_walks 26 = .ok (.aload_n 0, 1) := by decide +kernel
theorem dX7_walks_27 : decode cX7_walks 27 = .ok (.getfield 17, 3) := by decide +kernel
theorem dX7_walks_30 : decode cX7_walks 30 = .ok (.iload_n 3, 1) := by decide +kernel
theorem dX7_walks_31 : decode cX7_walks 31 = .ok (.aload_n 0, 1) := by decide +kernel
theorem dX7_walks_32 : decode cX7_walks 32 = .ok (.iload_n 3, 1) := by decide +kernel
theorem dX7_walks_33 : decode cX7_walks 33 = .ok (.invokevirtual 101, 3) := by decide +kernel
theorem dX7_walks_36 : decode cX7_walks 36 = .ok (.ifCond .ne 7, 3) := by decide +kernel
theorem dX7_walks_39 : decode cX7_walks 39 = .ok (.iconst 1, 1) := by decide +kernel
theorem dX7_walks_40 : decode cX7_walks 40 = .ok (.goto 4, 3) := by decide +kernel
theorem dX7_walks_43 : decode cX7_walks 43 = .ok (.iconst 0, 1) := by decide +kernel
theorem dX7_walks_44 : decode cX7_walks 44 = .ok (.bastore, 1) := by decide +kernel
theorem dX7_walks_45 : decode cX7_walks 45 = .ok (.iinc 3 1, 3) := by decide +kernel
theorem dX7_walks_48 : decode cX7_walks 48 = .ok (.goto (-32), 3) := by decide +kernel
theorem dX7_walks_51 : decode cX7_walks 51 = .ok (.iconst 0, 1) := by decide +kernel
theorem dX7_walks_52 : decode cX7_walks 52 = .ok (.istore_n 3, 1) := by decide +kernel
theorem dX7_walks_53 : decode cX7_walks 53 = .ok (.iload_n 3, 1) := by decide +kernel
theorem dX7_walks_54 : decode cX7_walks 54 = .ok (.iconst (-1), 1) := by decide +kernel
theorem dX7_walks_55 : decode cX7_walks 55 = .ok (.if_icmp .eq 144, 3) := by decide +kernel
theorem dX7_walks_58 : decode cX7_walks 58 = .ok (.iconst (-1), 1) := by decide +kernel
theorem dX7_walks_59 : decode cX7_walks 59 = .ok (.istore_n 3, 1) := by decide +kernel
theorem dX7_walks_60 : decode cX7_walks 60 = .ok (.iconst 0, 1) := by decide +kernel
theorem dX7_walks_61 : decode cX7_walks 61 = .ok (.istore 4, 2) := by decide +kernel
theorem dX7_walks_63 : decode cX7_walks 63 = .ok (.iconst 0, 1) := by decide +kernel
theorem dX7_walks_64 : decode cX7_walks 64 = .ok (.istore 5, 2) := by decide +kernel
theorem dX7_walks_66 : decode cX7_walks 66 = .ok (.iload 5, 2) := by decide +kernel
theorem dX7_walks_68 : decode cX7_walks 68 = .ok (.aload_n 0, 1) := by decide +kernel
theorem dX7_walks_69 : decode cX7_walks 69 = .ok (.getfield 7, 3) := by decide +kernel
theorem dX7_walks_72 : decode cX7_walks 72 = .ok (.iconst 1, 1) := by decide +kernel
theorem dX7_walks_73 : decode cX7_walks 73 = .ok (.iaload, 1) := by decide +kernel
theorem dX7_walks_74 : decode cX7_walks 74 = .ok (.if_icmp .ge 65, 3) := by decide +kernel
theorem dX7_walks_77 : decode cX7_walks 77 = .ok (.aload_n 0, 1) := by decide +kernel
theorem dX7_walks_78 : decode cX7_walks 78 = .ok (.iload 5, 2) := by decide +kernel
theorem dX7_walks_80 : decode cX7_walks 80 = .ok (.iconst 3, 1) := by decide +kernel
theorem dX7_walks_81 : decode cX7_walks 81 = .ok (.invokevirtual 39, 3) := by decide +kernel
theorem dX7_walks_84 : decode cX7_walks 84 = .ok (.iload_n 1, 1) := by decide +kernel
theorem dX7_walks_85 : decode cX7_walks 85 = .ok (.isub, 1) := by decide +kernel
theorem dX7_walks_86 : decode cX7_walks 86 = .ok (.invokestatic 110, 3) := by decide +kernel
theorem dX7_walks_89 : decode cX7_walks 89 = .ok (.aload_n 0, 1) := by decide +kernel
theorem dX7_walks_90 : decode cX7_walks 90 = .ok (.iload 5, 2) := by decide +kernel
theorem dX7_walks_92 : decode cX7_walks 92 = .ok (.iconst 4, 1) := by decide +kernel
theorem dX7_walks_93 : decode cX7_walks 93 = .ok (.invokevirtual 39, 3) := by decide +kernel
theorem dX7_walks_96 : decode cX7_walks 96 = .ok (.iload_n 2, 1) := by decide +kernel
theorem dX7_walks_97 : decode cX7_walks 97 = .ok (.isub, 1) := by decide +kernel
theorem dX7_walks_98 : decode cX7_walks 98 = .ok (.invokestatic 110, 3) := by decide +kernel
theorem dX7_walks_101 : decode cX7_walks 101 = .ok (.iadd, 1) := by decide +kernel
theorem dX7_walks_102 : decode cX7_walks 102 = .ok (.istore 6, 2) := by decide +kernel
theorem dX7_walks_104 : decode cX7_walks 104 = .ok (.aload_n 0, 1) := by decide +kernel
theorem dX7_walks_105 : decode cX7_walks 105 = .ok (.getfield 17, 3) := by decide +kernel
theorem dX7_walks_108 : decode cX7_walks 108 = .ok (.iload 5, 2) := by decide +kernel
theorem dX7_walks_110 : decode cX7_walks 110 = .ok (.baload, 1) := by decide +kernel
theorem dX7_walks_111 : decode cX7_walks 111 = .ok (.ifCond .ne 22, 3) := by decide +kernel
theorem dX7_walks_114 : decode cX7_walks 114 = .ok (.iload_n 3, 1) := by decide +kernel
theorem dX7_walks_115 : decode cX7_walks 115 = .ok (.iconst (-1), 1) := by decide +kernel
theorem dX7_walks_116 : decode cX7_walks 116 = .ok (.if_icmp .eq 10, 3) := by decide +kernel
theorem dX7_walks_119 : decode cX7_walks 119 = .ok (.iload 6, 2) := by decide +kernel
theorem dX7_walks_121 : decode cX7_walks 121 = .ok (.iload 4, 2) := by decide +kernel
theorem dX7_walks_123 : decode cX7_walks 123 = .ok (.if_icmp .ge 10, 3) := by decide +kernel
theorem dX7_walks_126 : decode cX7_walks 126 = .ok (.iload 5, 2) := by decide +kernel
theorem dX7_walks_128 : decode cX7_walks 128 = .ok (.istore_n 3, 1) := by decide +kernel
theorem dX7_walks_129 : decode cX7_walks 129 = .ok (.iload 6, 2) := by decide +kernel
theorem dX7_walks_131 : decode cX7_walks 131 = .ok (.istore 4, 2) := by decide +kernel
theorem dX7_walks_133 : decode cX7_walks 133 = .ok (.iinc 5 1, 3) := by decide +kernel
theorem dX7_walks_136 : decode cX7_walks 136 = .ok (.goto (-70), 3) := by decide +kernel
theorem dX7_walks_139 : decode cX7_walks 139 = .ok (.iload_n 3, 1) := by decide +kernel
theorem dX7_walks_140 : decode cX7_walks 140 = .ok (.iconst (-1), 1) := by decide +kernel
theorem dX7_walks_141 : decode cX7_walks 141 = .ok (.if_icmp .eq 55, 3) := by decide +kernel
theorem dX7_walks_144 : decode cX7_walks 144 = .ok (.aload_n 0, 1) := by decide +kernel
theorem dX7_walks_145 : decode cX7_walks 145 = .ok (.getfield 17, 3) := by decide +kernel
theorem dX7_walks_148 : decode cX7_walks 148 = .ok (.iload_n 3, 1) := by decide +kernel
theorem dX7_walks_149 : decode cX7_walks 149 = .ok (.iconst 1, 1) := by decide +kernel
theorem dX7_walks_150 : decode cX7_walks 150 = .ok (.bastore, 1) := by decide +kernel
theorem dX7_walks_151 : decode cX7_walks 151 = .ok (.aload_n 0, 1) := by decide +kernel
theorem dX7_walks_152 : decode cX7_walks 152 = .ok (.getfield 21, 3) := by decide +kernel
theorem dX7_walks_155 : decode cX7_walks 155 = .ok (.aload_n 0, 1) := by decide +kernel
theorem dX7_walks_156 : decode cX7_walks 156 = .ok (.getfield 107, 3) := by decide +kernel
theorem dX7_walks_159 : decode cX7_walks 159 = .ok (.iload_n 3, 1) := by decide +kernel
theorem dX7_walks_160 : decode cX7_walks 160 = .ok (.iastore, 1) := by decide +kernel
theorem dX7_walks_161 : decode cX7_walks 161 = .ok (.aload_n 0, 1) := by decide +kernel
theorem dX7_walks_162 : decode cX7_walks 162 = .ok (.dup, 1) := by decide +kernel
theorem dX7_walks_163 : decode cX7_walks 163 = .ok (.getfield 107, 3) := by decide +kernel
theorem dX7_walks_166 : decode cX7_walks 166 = .ok (.iconst 1, 1) := by decide +kernel
theorem dX7_walks_167 : decode cX7_walks 167 = .ok (.iadd, 1) := by decide +kernel
theorem dX7_walks_168 : decode cX7_walks 168 = .ok (.putfield 107, 3) := by decide +kernel
theorem dX7_walks_171 : decode cX7_walks 171 = .ok (.aload_n 0, 1) := by decide +kernel
theorem dX7_walks_172 : decode cX7_walks 172 = .ok (.dup, 1) := by decide +kernel
theorem dX7_walks_173 : decode cX7_walks 173 = .ok (.getfield 104, 3) := by decide +kernel
theorem dX7_walks_176 : decode cX7_walks 176 = .ok (.iload 4, 2) := by decide +kernel
theorem dX7_walks_178 : decode cX7_walks 178 = .ok (.iadd, 1) := by decide +kernel
theorem dX7_walks_179 : decode cX7_walks 179 = .ok (.putfield 104, 3) := by decide +kernel
theorem dX7_walks_182 : decode cX7_walks 182 = .ok (.aload_n 0, 1) := by decide +kernel
theorem dX7_walks_183 : decode cX7_walks 183 = .ok (.iload_n 3, 1) := by decide +kernel
theorem dX7_walks_184 : decode cX7_walks 184 = .ok (.iconst 3, 1) := by decide +kernel
theorem dX7_walks_185 : decode cX7_walks 185 = .ok (.invokevirtual 39, 3) := by decide +kernel
theorem dX7_walks_188 : decode cX7_walks 188 = .ok (.istore_n 1, 1) := by decide +kernel
theorem dX7_walks_189 : decode cX7_walks 189 = .ok (.aload_n 0, 1) := by decide +kernel
theorem dX7_walks_190 : decode cX7_walks 190 = .ok (.iload_n 3, 1) := by decide +kernel
theorem dX7_walks_191 : decode cX7_walks 191 = .ok (.iconst 4, 1) := by decide +kernel
theorem dX7_walks_192 : decode cX7_walks 192 = .ok (.invokevirtual 39, 3) := by decide +kernel
theorem dX7_walks_195 : decode cX7_walks 195 = .ok (.istore_n 2, 1) := by decide +kernel
theorem dX7_walks_196 : decode cX7_walks 196 = .ok (.goto (-143), 3) := by decide +kernel
theorem dX7_walks_199 : decode cX7_walks 199 = .ok (.aload_n 0, 1) := by decide +kernel
theorem dX7_walks_200 : decode cX7_walks 200 = .ok (.dup, 1) := by decide +kernel
theorem dX7_walks_201 : decode cX7_walks 201 = .ok (.getfield 104, 3) := by decide +kernel
theorem dX7_walks_204 : decode cX7_walks 204 = .ok (.iload_n 1, 1) := by decide +kernel
theorem dX7_walks_205 : decode cX7_walks 205 = .ok (.iload_n 2, 1) := by decide +kernel
theorem dX7_walks_206 : decode cX7_walks 206 = .ok (.iadd, 1) := by decide +kernel
theorem dX7_walks_207 : decode cX7_walks 207 = .ok (.iadd, 1) := by decide +kernel
theorem dX7_walks_208 : decode cX7_walks 208 = .ok (.putfield 104, 3) := by decide +kernel
theorem dX7_walks_211 : decode cX7_walks 211 = .ok (.return_, 1) := by decide +kernel
theorem dX7_round_0 : decode cX7_round 0 = .ok (.iload_n 1, 1) := by decide +kernel
theorem dX7_round_1 : decode cX7_round 1 = .ok (.ifCond .ge 6, 3) := by decide +kernel
theorem dX7_round_4 : decode cX7_round 4 = .ok (.bipush (-3), 2) := by decide +kernel
theorem dX7_round_6 : decode cX7_round 6 = .ok (.ireturn, 1) := by decide +kernel
theorem dX7_round_7 : decode cX7_round 7 = .ok (.aload_n 0, 1) := by decide +kernel
theorem dX7_round_8 : decode cX7_round 8 = .ok (.invokevirtual 113, 3) := by decide +kernel
theorem dX7_round_11 : decode cX7_round 11 = .ok (.iload_n 1, 1) := by decide +kernel
theorem dX7_round_12 : decode cX7_round 12 = .ok (.aload_n 0, 1) := by decide +kernel
theorem dX7_round_13 : decode cX7_round 13 = .ok (.getfield 107, 3) := by decide +kernel
theorem dX7_round_16 : decode cX7_round 16 = .ok (.if_icmp .ge 12, 3) := by decide +kernel
theorem dX7_round_19 : decode cX7_round 19 = .ok (.aload_n 0, 1) := by decide +kernel
theorem dX7_round_20 : decode cX7_round 20 = .ok (.getfield 21, 3) := by decide +kernel
theorem dX7_round_23 : decode cX7_round 23 = .ok (.iload_n 1, 1) := by decide +kernel
theorem dX7_round_24 : decode cX7_round 24 = .ok (.iaload, 1) := by decide +kernel
theorem dX7_round_25 : decode cX7_round 25 = .ok (.goto 4, 3) := by decide +kernel
theorem dX7_round_28 : decode cX7_round 28 = .ok (.iconst (-1), 1) := by decide +kernel
theorem dX7_round_29 : decode cX7_round 29 = .ok (.ireturn, 1) := by decide +kernel
theorem dX7_roundLength_0 : decode cX7_roundLength 0 = .ok (.aload_n 0, 1) := by decide +kernel
theorem dX7_roundLength_1 : decode cX7_roundLength 1 = .ok (.invokevirtual 113, 3) := by decide +kernel
theorem dX7_roundLength_4 : decode cX7_roundLength 4 = .ok (.aload_n 0, 1) := by decide +kernel
theorem dX7_roundLength_5 : decode cX7_roundLength 5 = .ok (.getfield 104, 3) := by decide +kernel
theorem dX7_roundLength_8 : decode cX7_roundLength 8 = .ok (.ireturn, 1) := by decide +kernel
theorem dX7_dueOn_0 : decode cX7_dueOn 0 = .ok (.aload_n 0, 1) := by decide +kernel
theorem dX7_dueOn_1 : decode cX7_dueOn 1 = .ok (.iload_n 1, 1) := by decide +kernel
theorem dX7_dueOn_2 : decode cX7_dueOn 2 = .ok (.invokevirtual 53, 3) := by decide +kernel
theorem dX7_dueOn_5 : decode cX7_dueOn 5 = .ok (.ifCond .ne 6, 3) := by decide +kernel
theorem dX7_dueOn_8 : decode cX7_dueOn 8 = .ok (.bipush (-2), 2) := by decide +kernel
theorem dX7_dueOn_10 : decode cX7_dueOn 10 = .ok (.ireturn, 1) := by decide +kernel
theorem dX7_dueOn_11 : decode cX7_dueOn 11 = .ok (.aload_n 0, 1) := by decide +kernel
theorem dX7_dueOn_12 : decode cX7_dueOn 12 = .ok (.iload_n 1, 1) := by decide +kernel
theorem dX7_dueOn_13 : decode cX7_dueOn 13 = .ok (.invokevirtual 101, 3) := by decide +kernel
theorem dX7_dueOn_16 : decode cX7_dueOn 16 = .ok (.ifCond .eq 12, 3) := by decide +kernel
theorem dX7_dueOn_19 : decode cX7_dueOn 19 = .ok (.aload_n 0, 1) := by decide +kernel
theorem dX7_dueOn_20 : decode cX7_dueOn 20 = .ok (.getfield 7, 3) := by decide +kernel
theorem dX7_dueOn_23 : decode cX7_dueOn 23 = .ok (.iconst 5, 1) := by decide +kernel
theorem dX7_dueOn_24 : decode cX7_dueOn 24 = .ok (.iaload, 1) := by decide +kernel
theorem dX7_dueOn_25 : decode cX7_dueOn 25 = .ok (.goto 17, 3) := by decide +kernel
theorem dX7_dueOn_28 : decode cX7_dueOn 28 = .ok (.aload_n 0, 1) := by decide +kernel
theorem dX7_dueOn_29 : decode cX7_dueOn 29 = .ok (.iload_n 1, 1) := by decide +kernel
theorem dX7_dueOn_30 : decode cX7_dueOn 30 = .ok (.bipush 6, 2) := by decide +kernel
theorem dX7_dueOn_32 : decode cX7_dueOn 32 = .ok (.invokevirtual 39, 3) := by decide +kernel
theorem dX7_dueOn_35 : decode cX7_dueOn 35 = .ok (.aload_n 0, 1) := by decide +kernel
theorem dX7_dueOn_36 : decode cX7_dueOn 36 = .ok (.getfield 7, 3) := by decide +kernel
theorem dX7_dueOn_39 : decode cX7_dueOn 39 = .ok (.iconst 4, 1) := by decide +kernel
theorem dX7_dueOn_40 : decode cX7_dueOn 40 = .ok (.iaload, 1) := by decide +kernel
theorem dX7_dueOn_41 : decode cX7_dueOn 41 = .ok (.iadd, 1) := by decide +kernel
theorem dX7_dueOn_42 : decode cX7_dueOn 42 = .ok (.ireturn, 1) := by decide +kernel
theorem dX7_undo_0 : decode cX7_undo 0 = .ok (.aload_n 0, 1) := by decide +kernel
theorem dX7_undo_1 : decode cX7_undo 1 = .ok (.getfield 27, 3) := by decide +kernel
theorem dX7_undo_4 : decode cX7_undo 4 = .ok (.ifCond .ne 6, 3) := by decide +kernel
theorem dX7_undo_7 : decode cX7_undo 7 = .ok (.bipush (-4), 2) := by decide +kernel
theorem dX7_undo_9 : decode cX7_undo 9 = .ok (.ireturn, 1) := by decide +kernel
theorem dX7_undo_10 : decode cX7_undo 10 = .ok (.aload_n 0, 1) := by decide +kernel
theorem dX7_undo_11 : decode cX7_undo 11 = .ok (.aload_n 0, 1) := by decide +kernel
theorem dX7_undo_12 : decode cX7_undo 12 = .ok (.getfield 27, 3) := by decide +kernel
theorem dX7_undo_15 : decode cX7_undo 15 = .ok (.iconst 0, 1) := by decide +kernel
theorem dX7_undo_16 : decode cX7_undo 16 = .ok (.invokevirtual 31, 3) := by decide +kernel
theorem dX7_undo_19 : decode cX7_undo 19 = .ok (.aload_n 0, 1) := by decide +kernel
theorem dX7_undo_20 : decode cX7_undo 20 = .ok (.dup, 1) := by decide +kernel
theorem dX7_undo_21 : decode cX7_undo 21 = .ok (.getfield 27, 3) := by decide +kernel
theorem dX7_undo_24 : decode cX7_undo 24 = .ok (.iconst 1, 1) := by decide +kernel
theorem dX7_undo_25 : decode cX7_undo 25 = .ok (.isub, 1) := by decide +kernel
theorem dX7_undo_26 : decode cX7_undo 26 = .ok (.putfield 27, 3) := by decide +kernel
theorem dX7_undo_29 : decode cX7_undo 29 = .ok (.aload_n 0, 1) := by decide +kernel
theorem dX7_undo_30 : decode cX7_undo 30 = .ok (.getfield 27, 3) := by decide +kernel
theorem dX7_undo_33 : decode cX7_undo 33 = .ok (.ireturn, 1) := by decide +kernel
theorem dX7_type_0 : decode cX7_type 0 = .ok (.iload_n 1, 1) := by decide +kernel
theorem dX7_type_1 : decode cX7_type 1 = .ok (.iconst 0, 1) := by decide +kernel
theorem dX7_type_2 : decode cX7_type 2 = .ok (.sipush 255, 3) := by decide +kernel
theorem dX7_type_5 : decode cX7_type 5 = .ok (.invokestatic 35, 3) := by decide +kernel
theorem dX7_type_8 : decode cX7_type 8 = .ok (.ifCond .ne 6, 3) := by decide +kernel
theorem dX7_type_11 : decode cX7_type 11 = .ok (.bipush (-3), 2) := by decide +kernel
theorem dX7_type_13 : decode cX7_type 13 = .ok (.ireturn, 1) := by decide +kernel
theorem dX7_type_14 : decode cX7_type 14 = .ok (.aload_n 0, 1) := by decide +kernel
theorem dX7_type_15 : decode cX7_type 15 = .ok (.getfield 116, 3) := by decide +kernel
theorem dX7_type_18 : decode cX7_type 18 = .ok (.bipush 100, 2) := by decide +kernel
theorem dX7_type_20 : decode cX7_type 20 = .ok (.if_icmp .ne 6, 3) := by decide +kernel
theorem dX7_type_23 : decode cX7_type 23 = .ok (.bipush (-5), 2) := by decide +kernel
theorem dX7_type_25 : decode cX7_type 25 = .ok (.ireturn, 1) := by decide +kernel
theorem dX7_type_26 : decode cX7_type 26 = .ok (.aload_n 0, 1) := by decide +kernel
theorem dX7_type_27 : decode cX7_type 27 = .ok (.getfield 24, 3) := by decide +kernel
theorem dX7_type_30 : decode cX7_type 30 = .ok (.aload_n 0, 1) := by decide +kernel
theorem dX7_type_31 : decode cX7_type 31 = .ok (.getfield 116, 3) := by decide +kernel
theorem dX7_type_34 : decode cX7_type 34 = .ok (.iload_n 1, 1) := by decide +kernel
theorem dX7_type_35 : decode cX7_type 35 = .ok (.iastore, 1) := by decide +kernel
theorem dX7_type_36 : decode cX7_type 36 = .ok (.aload_n 0, 1) := by decide +kernel
theorem dX7_type_37 : decode cX7_type 37 = .ok (.dup, 1) := by decide +kernel
theorem dX7_type_38 : decode cX7_type 38 = .ok (.getfield 116, 3) := by decide +kernel
theorem dX7_type_41 : decode cX7_type 41 = .ok (.iconst 1, 1) := by decide +kernel
theorem dX7_type_42 : decode cX7_type 42 = .ok (.iadd, 1) := by decide +kernel
theorem dX7_type_43 : decode cX7_type 43 = .ok (.putfield 116, 3) := by decide +kernel
theorem dX7_type_46 : decode cX7_type 46 = .ok (.aload_n 0, 1) := by decide +kernel
theorem dX7_type_47 : decode cX7_type 47 = .ok (.getfield 116, 3) := by decide +kernel
theorem dX7_type_50 : decode cX7_type 50 = .ok (.ireturn, 1) := by decide +kernel
theorem dX7_clearText_0 : decode cX7_clearText 0 = .ok (.aload_n 0, 1) := by decide +kernel
theorem dX7_clearText_1 : decode cX7_clearText 1 = .ok (.getfield 116, 3) := by decide +kernel
theorem dX7_clearText_4 : decode cX7_clearText 4 = .ok (.istore_n 1, 1) := by decide +kernel
theorem dX7_clearText_5 : decode cX7_clearText 5 = .ok (.aload_n 0, 1) := by decide +kernel
theorem dX7_clearText_6 : decode cX7_clearText 6 = .ok (.iconst 0, 1) := by decide +kernel
theorem dX7_clearText_7 : decode cX7_clearText 7 = .ok (.putfield 116, 3) := by decide +kernel
theorem dX7_clearText_10 : decode cX7_clearText 10 = .ok (.iload_n 1, 1) := by decide +kernel
theorem dX7_clearText_11 : decode cX7_clearText 11 = .ok (.ireturn, 1) := by decide +kernel
theorem dX7_here_0 : decode cX7_here 0 = .ok (.aload_n 0, 1) := by decide +kernel
theorem dX7_here_1 : decode cX7_here 1 = .ok (.getfield 119, 3) := by decide +kernel
theorem dX7_here_4 : decode cX7_here 4 = .ok (.aload_n 0, 1) := by decide +kernel
theorem dX7_here_5 : decode cX7_here 5 = .ok (.getfield 116, 3) := by decide +kernel
theorem dX7_here_8 : decode cX7_here 8 = .ok (.if_icmp .ge 30, 3) := by decide +kernel
theorem dX7_here_11 : decode cX7_here 11 = .ok (.aload_n 0, 1) := by decide +kernel
theorem dX7_here_12 : decode cX7_here 12 = .ok (.getfield 24, 3) := by decide +kernel
theorem dX7_here_15 : decode cX7_here 15 = .ok (.aload_n 0, 1) := by decide +kernel
theorem dX7_here_16 : decode cX7_here 16 = .ok (.getfield 119, 3) := by decide +kernel
theorem dX7_here_19 : decode cX7_here 19 = .ok (.iaload, 1) := by decide +kernel
theorem dX7_here_20 : decode cX7_here 20 = .ok (.bipush 32, 2) := by decide +kernel
theorem dX7_here_22 : decode cX7_here 22 = .ok (.if_icmp .ne 16, 3) := by decide +kernel
theorem dX7_here_25 : decode cX7_here 25 = .ok (.aload_n 0, 1) := by decide +kernel
theorem dX7_here_26 : decode cX7_here 26 = .ok (.dup, 1) := by decide +kernel
theorem dX7_here_27 : decode cX7_here 27 = .ok (.getfield 119, 3) := by decide +kernel
theorem dX7_here_30 : decode cX7_here 30 = .ok (.iconst 1, 1) := by decide +kernel
theorem dX7_here_31 : decode cX7_here 31 = .ok (.iadd, 1) := by decide +kernel
theorem dX7_here_32 : decode cX7_here 32 = .ok (.putfield 119, 3) := by decide +kernel
theorem dX7_here_35 : decode cX7_here 35 = .ok (.goto (-35), 3) := by decide +kernel
theorem dX7_here_38 : decode cX7_here 38 = .ok (.aload_n 0, 1) := by decide +kernel
theorem dX7_here_39 : decode cX7_here 39 = .ok (.getfield 119, 3) := by decide +kernel
theorem dX7_here_42 : decode cX7_here 42 = .ok (.aload_n 0, 1) := by decide +kernel
theorem dX7_here_43 : decode cX7_here 43 = .ok (.getfield 116, 3) := by decide +kernel
theorem dX7_here_46 : decode cX7_here 46 = .ok (.if_icmp .ge 15, 3) := by decide +kernel
theorem dX7_here_49 : decode cX7_here 49 = .ok (.aload_n 0, 1) := by decide +kernel
theorem dX7_here_50 : decode cX7_here 50 = .ok (.getfield 24, 3) := by decide +kernel
theorem dX7_here_53 : decode cX7_here 53 = .ok (.aload_n 0, 1) := by decide +kernel
theorem dX7_here_54 : decode cX7_here 54 = .ok (.getfield 119, 3) := by decide +kernel
theorem dX7_here_57 : decode cX7_here 57 = .ok (.iaload, 1) := by decide +kernel
theorem dX7_here_58 : decode cX7_here 58 = .ok (.goto 4, 3) := by decide +kernel
theorem dX7_here_61 : decode cX7_here 61 = .ok (.iconst (-1), 1) := by decide +kernel
theorem dX7_here_62 : decode cX7_here 62 = .ok (.ireturn, 1) := by decide +kernel
theorem dX7_sign_0 : decode cX7_sign 0 = .ok (.aload_n 0, 1) := by decide +kernel
theorem dX7_sign_1 : decode cX7_sign 1 = .ok (.invokevirtual 122, 3) := by decide +kernel
theorem dX7_sign_4 : decode cX7_sign 4 = .ok (.iload_n 1, 1) := by decide +kernel
theorem dX7_sign_5 : decode cX7_sign 5 = .ok (.if_icmp .ne 7, 3) := by decide +kernel
theorem dX7_sign_8 : decode cX7_sign 8 = .ok (.iconst 1, 1) := by decide +kernel
theorem dX7_sign_9 : decode cX7_sign 9 = .ok (.goto 4, 3) := by decide +kernel
theorem dX7_sign_12 : decode cX7_sign 12 = .ok (.iconst 0, 1) := by decide +kernel
theorem dX7_sign_13 : decode cX7_sign 13 = .ok (.istore_n 2, 1) := by decide +kernel
theorem dX7_sign_14 : decode cX7_sign 14 = .ok (.aload_n 0, 1) := by decide +kernel
theorem dX7_sign_15 : decode cX7_sign 15 = .ok (.dup, 1) := by decide +kernel
theorem dX7_sign_16 : decode cX7_sign 16 = .ok (.getfield 119, 3) := by decide +kernel
theorem dX7_sign_19 : decode cX7_sign 19 = .ok (.iload_n 2, 1) := by decide +kernel
theorem dX7_sign_20 : decode cX7_sign 20 = .ok (.ifCond .eq 7, 3) := by decide +kernel
theorem dX7_sign_23 : decode cX7_sign 23 = .ok (.iconst 1, 1) := by decide +kernel
theorem dX7_sign_24 : decode cX7_sign 24 = .ok (.goto 4, 3) := by decide +kernel
theorem dX7_sign_27 : decode cX7_sign 27 = .ok (.iconst 0, 1) := by decide +kernel
theorem dX7_sign_28 : decode cX7_sign 28 = .ok (.iadd, 1) := by decide +kernel
theorem dX7_sign_29 : decode cX7_sign 29 = .ok (.putfield 119, 3) := by decide +kernel
theorem dX7_sign_32 : decode cX7_sign 32 = .ok (.iload_n 2, 1) := by decide +kernel
theorem dX7_sign_33 : decode cX7_sign 33 = .ok (.ireturn, 1) := by decide +kernel
theorem dX7_readsNumber_0 : decode cX7_readsNumber 0 = .ok (.aload_n 0, 1) := by decide +kernel
theorem dX7_readsNumber_1 : decode cX7_readsNumber 1 = .ok (.invokevirtual 122, 3) := by decide +kernel
theorem dX7_readsNumber_4 : decode cX7_readsNumber 4 = .ok (.istore_n 2, 1) := by decide +kernel
theorem dX7_readsNumber_5 : decode cX7_readsNumber 5 = .ok (.aload_n 0, 1) := by decide +kernel
theorem dX7_readsNumber_6 : decode cX7_readsNumber 6 = .ok (.getfield 119, 3) := by decide +kernel
theorem dX7_readsNumber_9 : decode cX7_readsNumber 9 = .ok (.istore_n 3, 1) := by decide +kernel
theorem dX7_readsNumber_10 : decode cX7_readsNumber 10 = .ok (.iconst 0, 1) := by decide +kernel
theorem dX7_readsNumber_11 : decode cX7_readsNumber 11 = .ok (.istore 4, 2) := by decide +kernel
theorem dX7_readsNumber_13 : decode cX7_readsNumber 13 = .ok (.iload_n 2, 1) := by decide +kernel
theorem dX7_readsNumber_14 : decode cX7_readsNumber 14 = .ok (.ifCond .lt 65, 3) := by decide +kernel
theorem dX7_readsNumber_17 : decode cX7_readsNumber 17 = .ok (.iload_n 3, 1) := by decide +kernel
theorem dX7_readsNumber_18 : decode cX7_readsNumber 18 = .ok (.aload_n 0, 1) := by decide +kernel
theorem dX7_readsNumber_19 : decode cX7_readsNumber 19 = .ok (.getfield 116, 3) := by decide +kernel
theorem dX7_readsNumber_22 : decode cX7_readsNumber 22 = .ok (.if_icmp .ge 57, 3) := by decide +kernel
theorem dX7_readsNumber_25 : decode cX7_readsNumber 25 = .ok (.aload_n 0, 1) := by decide +kernel
theorem dX7_readsNumber_26 : decode cX7_readsNumber 26 = .ok (.getfield 24, 3) := by decide +kernel
theorem dX7_readsNumber_29 : decode cX7_readsNumber 29 = .ok (.iload_n 3, 1) := by decide +kernel
theorem dX7_readsNumber_30 : decode cX7_readsNumber 30 = .ok (.iaload, 1) := by decide +kernel
theorem dX7_readsNumber_31 : decode cX7_readsNumber 31 = .ok (.bipush 48, 2) := by decide +kernel
theorem dX7_readsNumber_33 : decode cX7_readsNumber 33 = .ok (.bipush 57, 2) := by decide +kernel
theorem dX7_readsNumber_35 : decode cX7_readsNumber 35 = .ok (.invokestatic 35, 3) := by decide +kernel
theorem dX7_readsNumber_38 : decode cX7_readsNumber 38 = .ok (.ifCond .eq 41, 3) := by decide +kernel
theorem dX7_readsNumber_41 : decode cX7_readsNumber 41 = .ok (.iload_n 3, 1) := by decide +kernel
theorem dX7_readsNumber_42 : decode cX7_readsNumber 42 = .ok (.aload_n 0, 1) := by decide +kernel
theorem dX7_readsNumber_43 : decode cX7_readsNumber 43 = .ok (.getfield 119, 3) := by decide +kernel
theorem dX7_readsNumber_46 : decode cX7_readsNumber 46 = .ok (.isub, 1) := by decide +kernel
theorem dX7_readsNumber_47 : decode cX7_readsNumber 47 = .ok (.iconst 4, 1) := by decide +kernel
theorem dX7_readsNumber_48 : decode cX7_readsNumber 48 = .ok (.if_icmp .ge 21, 3) := by decide +kernel
theorem dX7_readsNumber_51 : decode cX7_readsNumber 51 = .ok (.bipush 10, 2) := by decide +kernel
theorem dX7_readsNumber_53 : decode cX7_readsNumber 53 = .ok (.iload 4, 2) := by decide +kernel
theorem dX7_readsNumber_55 : decode cX7_readsNumber 55 = .ok (.imul, 1) := by decide +kernel
theorem dX7_readsNumber_56 : decode cX7_readsNumber 56 = .ok (.aload_n 0, 1) := by decide +kernel
theorem dX7_readsNumber_57 : decode cX7_readsNumber 57 = .ok (.getfield 24, 3) := by decide +kernel
theorem dX7_readsNumber_60 : decode cX7_readsNumber 60 = .ok (.iload_n 3, 1) := by decide +kernel
theorem dX7_readsNumber_61 : decode cX7_readsNumber 61 = .ok (.iaload, 1) := by decide +kernel
theorem dX7_readsNumber_62 : decode cX7_readsNumber 62 = .ok (.iadd, 1) := by decide +kernel
theorem dX7_readsNumber_63 : decode cX7_readsNumber 63 = .ok (.bipush 48, 2) := by decide +kernel
theorem dX7_readsNumber_65 : decode cX7_readsNumber 65 = .ok (.isub, 1) := by decide +kernel
theorem dX7_readsNumber_66 : decode cX7_readsNumber 66 = .ok (.goto 5, 3) := by decide +kernel
theorem dX7_readsNumber_69 : decode cX7_readsNumber 69 = .ok (.iload 4, 2) := by decide +kernel
theorem dX7_readsNumber_71 : decode cX7_readsNumber 71 = .ok (.istore 4, 2) := by decide +kernel
theorem dX7_readsNumber_73 : decode cX7_readsNumber 73 = .ok (.iinc 3 1, 3) := by decide +kernel
theorem dX7_readsNumber_76 : decode cX7_readsNumber 76 = .ok (.goto (-63), 3) := by decide +kernel
theorem dX7_readsNumber_79 : decode cX7_readsNumber 79 = .ok (.iload_n 3, 1) := by decide +kernel
theorem dX7_readsNumber_80 : decode cX7_readsNumber 80 = .ok (.aload_n 0, 1) := by decide +kernel
theorem dX7_readsNumber_81 : decode cX7_readsNumber 81 = .ok (.getfield 119, 3) := by decide +kernel
theorem dX7_readsNumber_84 : decode cX7_readsNumber 84 = .ok (.if_icmp .eq 19, 3) := by decide +kernel
theorem dX7_readsNumber_87 : decode cX7_readsNumber 87 = .ok (.iload_n 3, 1) := by decide +kernel
theorem dX7_readsNumber_88 : decode cX7_readsNumber 88 = .ok (.aload_n 0, 1) := by decide +kernel
theorem dX7_readsNumber_89 : decode cX7_readsNumber 89 = .ok (.getfield 119, 3) := by decide +kernel
theorem dX7_readsNumber_92 : decode cX7_readsNumber 92 = .ok (.isub, 1) := by decide +kernel
theorem dX7_readsNumber_93 : decode cX7_readsNumber 93 = .ok (.iconst 3, 1) := by decide +kernel
theorem dX7_readsNumber_94 : decode cX7_readsNumber 94 = .ok (.if_icmp .gt 9, 3) := by decide +kernel
theorem dX7_readsNumber_97 : decode cX7_readsNumber 97 = .ok (.iload 4, 2) := by decide +kernel
theorem dX7_readsNumber_99 : decode cX7_readsNumber 99 = .ok (.iload_n 1, 1) := by decide +kernel
theorem dX7_readsNumber_100 : decode cX7_readsNumber 100 = .ok (.if_icmp .le 5, 3) := by decide +kernel
theorem dX7_readsNumber_103 : decode cX7_readsNumber 103 = .ok (.iconst 0, 1) := by decide +kernel
theorem dX7_readsNumber_104 : decode cX7_readsNumber 104 = .ok (.ireturn, 1) := by decide +kernel
theorem dX7_readsNumber_105 : decode cX7_readsNumber 105 = .ok (.aload_n 0, 1) := by decide +kernel
theorem dX7_readsNumber_106 : decode cX7_readsNumber 106 = .ok (.iload_n 3, 1) := by decide +kernel
theorem dX7_readsNumber_107 : decode cX7_readsNumber 107 = .ok (.putfield 119, 3) := by decide +kernel
theorem dX7_readsNumber_110 : decode cX7_readsNumber 110 = .ok (.aload_n 0, 1) := by decide +kernel
theorem dX7_readsNumber_111 : decode cX7_readsNumber 111 = .ok (.iload 4, 2) := by decide +kernel
theorem dX7_readsNumber_113 : decode cX7_readsNumber 113 = .ok (.putfield 126, 3) := by decide +kernel
theorem dX7_readsNumber_116 : decode cX7_readsNumber 116 = .ok (.iconst 1, 1) := by decide +kernel
theorem dX7_readsNumber_117 : decode cX7_readsNumber 117 = .ok (.ireturn, 1) := by decide +kernel
theorem dX7_readsReading_0 : decode cX7_readsReading 0 = .ok (.aload_n 0, 1) := by decide +kernel
theorem dX7_readsReading_1 : decode cX7_readsReading 1 = .ok (.aload_n 0, 1) := by decide +kernel
theorem dX7_readsReading_2 : decode cX7_readsReading 2 = .ok (.getfield 7, 3) := by decide +kernel
theorem dX7_readsReading_5 : decode cX7_readsReading 5 = .ok (.iconst 1, 1) := by decide +kernel
theorem dX7_readsReading_6 : decode cX7_readsReading 6 = .ok (.iaload, 1) := by decide +kernel
theorem dX7_readsReading_7 : decode cX7_readsReading 7 = .ok (.iconst 1, 1) := by decide +kernel
theorem dX7_readsReading_8 : decode cX7_readsReading 8 = .ok (.isub, 1) := by decide +kernel
theorem dX7_readsReading_9 : decode cX7_readsReading 9 = .ok (.invokevirtual 129, 3) := by decide +kernel
theorem dX7_readsReading_12 : decode cX7_readsReading 12 = .ok (.ifCond .ne 5, 3) := by decide +kernel
theorem dX7_readsReading_15 : decode cX7_readsReading 15 = .ok (.iconst 0, 1) := by decide +kernel
theorem dX7_readsReading_16 : decode cX7_readsReading 16 = .ok (.ireturn, 1) := by decide +kernel
theorem dX7_readsReading_17 : decode cX7_readsReading 17 = .ok (.aload_n 0, 1) := by decide +kernel
theorem dX7_readsReading_18 : decode cX7_readsReading 18 = .ok (.getfield 126, 3) := by decide +kernel
theorem dX7_readsReading_21 : decode cX7_readsReading 21 = .ok (.istore_n 2, 1) := by decide +kernel
theorem dX7_readsReading_22 : decode cX7_readsReading 22 = .ok (.aload_n 0, 1) := by decide +kernel
theorem dX7_readsReading_23 : decode cX7_readsReading 23 = .ok (.bipush 58, 2) := by decide +kernel
theorem dX7_readsReading_25 : decode cX7_readsReading 25 = .ok (.invokevirtual 132, 3) := by decide +kernel
theorem dX7_readsReading_28 : decode cX7_readsReading 28 = .ok (.ifCond .eq 13, 3) := by decide +kernel
theorem dX7_readsReading_31 : decode cX7_readsReading 31 = .ok (.aload_n 0, 1) := by decide +kernel
theorem dX7_readsReading_32 : decode cX7_readsReading 32 = .ok (.sipush 300, 3) := by decide +kernel
theorem dX7_readsReading_35 : decode cX7_readsReading 35 = .ok (.invokevirtual 129, 3) := by decide +kernel
theorem dX7_readsReading_38 : decode cX7_readsReading 38 = .ok (.ifCond .ne 5, 3) := by decide +kernel
theorem dX7_readsReading_41 : decode cX7_readsReading 41 = .ok (.iconst 0, 1) := by decide +kernel
theorem dX7_readsReading_42 : decode cX7_readsReading 42 = .ok (.ireturn, 1) := by decide +kernel
theorem dX7_readsReading_43 : decode cX7_readsReading 43 = .ok (.aload_n 0, 1) := by decide +kernel
theorem dX7_readsReading_44 : decode cX7_readsReading 44 = .ok (.getfield 126, 3) := by decide +kernel
theorem dX7_readsReading_47 : decode cX7_readsReading 47 = .ok (.istore_n 3, 1) := by decide +kernel
theorem dX7_readsReading_48 : decode cX7_readsReading 48 = .ok (.aload_n 0, 1) := by decide +kernel
theorem dX7_readsReading_49 : decode cX7_readsReading 49 = .ok (.bipush 47, 2) := by decide +kernel
theorem dX7_readsReading_51 : decode cX7_readsReading 51 = .ok (.invokevirtual 132, 3) := by decide +kernel
theorem dX7_readsReading_54 : decode cX7_readsReading 54 = .ok (.ifCond .eq 13, 3) := by decide +kernel
theorem dX7_readsReading_57 : decode cX7_readsReading 57 = .ok (.aload_n 0, 1) := by decide +kernel
theorem dX7_readsReading_58 : decode cX7_readsReading 58 = .ok (.sipush 300, 3) := by decide +kernel
theorem dX7_readsReading_61 : decode cX7_readsReading 61 = .ok (.invokevirtual 129, 3) := by decide +kernel
theorem dX7_readsReading_64 : decode cX7_readsReading 64 = .ok (.ifCond .ne 5, 3) := by decide +kernel
theorem dX7_readsReading_67 : decode cX7_readsReading 67 = .ok (.iconst 0, 1) := by decide +kernel
theorem dX7_readsReading_68 : decode cX7_readsReading 68 = .ok (.ireturn, 1) := by decide +kernel
theorem dX7_readsReading_69 : decode cX7_readsReading 69 = .ok (.aload_n 0, 1) := by decide +kernel
theorem dX7_readsReading_70 : decode cX7_readsReading 70 = .ok (.getfield 126, 3) := by decide +kernel
theorem dX7_readsReading_73 : decode cX7_readsReading 73 = .ok (.istore 4, 2) := by decide +kernel
theorem dX7_readsReading_75 : decode cX7_readsReading 75 = .ok (.aload_n 0, 1) := by decide +kernel
theorem dX7_readsReading_76 : decode cX7_readsReading 76 = .ok (.iconst 0, 1) := by decide +kernel
theorem dX7_readsReading_77 : decode cX7_readsReading 77 = .ok (.putfield 126, 3) := by decide +kernel
theorem dX7_readsReading_80 : decode cX7_readsReading 80 = .ok (.aload_n 0, 1) := by decide +kernel
theorem dX7_readsReading_81 : decode cX7_readsReading 81 = .ok (.bipush 64, 2) := by decide +kernel
theorem dX7_readsReading_83 : decode cX7_readsReading 83 = .ok (.invokevirtual 132, 3) := by decide +kernel
theorem dX7_readsReading_86 : decode cX7_readsReading 86 = .ok (.ifCond .eq 14, 3) := by decide +kernel
theorem dX7_readsReading_89 : decode cX7_readsReading 89 = .ok (.aload_n 0, 1) := by decide +kernel
theorem dX7_readsReading_90 : decode cX7_readsReading 90 = .ok (.bipush 60, 2) := by decide +kernel
theorem dX7_readsReading_92 : decode cX7_readsReading 92 = .ok (.invokevirtual 129, 3) := by decide +kernel
theorem dX7_readsReading_95 : decode cX7_readsReading 95 = .ok (.ifCond .ne 5, 3) := by decide +kernel
theorem dX7_readsReading_98 : decode cX7_readsReading 98 = .ok (.iconst 0, 1) := by decide +kernel
theorem dX7_readsReading_99 : decode cX7_readsReading 99 = .ok (.ireturn, 1) := by decide +kernel
theorem dX7_readsReading_100 : decode cX7_readsReading 100 = .ok (.aload_n 0, 1) := by decide +kernel
theorem dX7_readsReading_101 : decode cX7_readsReading 101 = .ok (.dup, 1) := by decide +kernel
theorem dX7_readsReading_102 : decode cX7_readsReading 102 = .ok (.getfield 135, 3) := by decide +kernel
theorem dX7_readsReading_105 : decode cX7_readsReading 105 = .ok (.iconst 1, 1) := by decide +kernel
theorem dX7_readsReading_106 : decode cX7_readsReading 106 = .ok (.iadd, 1) := by decide +kernel
theorem dX7_readsReading_107 : decode cX7_readsReading 107 = .ok (.putfield 135, 3) := by decide +kernel
theorem dX7_readsReading_110 : decode cX7_readsReading 110 = .ok (.iload_n 1, 1) := by decide +kernel
theorem dX7_readsReading_111 : decode cX7_readsReading 111 = .ok (.ifCond .eq 15, 3) := by decide +kernel
theorem dX7_readsReading_114 : decode cX7_readsReading 114 = .ok (.aload_n 0, 1) := by decide +kernel
theorem dX7_readsReading_115 : decode cX7_readsReading 115 = .ok (.iload_n 2, 1) := by decide +kernel
theorem dX7_readsReading_116 : decode cX7_readsReading 116 = .ok (.iload_n 3, 1) := by decide +kernel
theorem dX7_readsReading_117 : decode cX7_readsReading 117 = .ok (.iload 4, 2) := by decide +kernel
theorem dX7_readsReading_119 : decode cX7_readsReading 119 = .ok (.aload_n 0, 1) := by decide +kernel
theorem dX7_readsReading_120 : decode cX7_readsReading 120 = .ok (.getfield 126, 3) := by decide +kernel
theorem dX7_readsReading_123 : decode cX7_readsReading 123 = .ok (.invokevirtual 67, 3) := by decide +kernel
theorem dX7_readsReading_126 : decode cX7_readsReading 126 = .ok (.iconst 1, 1) := by decide +kernel
theorem dX7_readsReading_127 : decode cX7_readsReading 127 = .ok (.ireturn, 1) := by decide +kernel
theorem dX7_readsText_0 : decode cX7_readsText 0 = .ok (.aload_n 0, 1) := by decide +kernel
theorem dX7_readsText_1 : decode cX7_readsText 1 = .ok (.iconst 0, 1) := by decide +kernel
theorem dX7_readsText_2 : decode cX7_readsText 2 = .ok (.putfield 119, 3) := by decide +kernel
theorem dX7_readsText_5 : decode cX7_readsText 5 = .ok (.aload_n 0, 1) := by decide +kernel
theorem dX7_readsText_6 : decode cX7_readsText 6 = .ok (.iconst 0, 1) := by decide +kernel
theorem dX7_readsText_7 : decode cX7_readsText 7 = .ok (.putfield 135, 3) := by decide +kernel
theorem dX7_readsText_10 : decode cX7_readsText 10 = .ok (.aload_n 0, 1) := by decide +kernel
theorem dX7_readsText_11 : decode cX7_readsText 11 = .ok (.iload_n 1, 1) := by decide +kernel
theorem dX7_readsText_12 : decode cX7_readsText 12 = .ok (.invokevirtual 138, 3) := by decide +kernel
theorem dX7_readsText_15 : decode cX7_readsText 15 = .ok (.istore_n 2, 1) := by decide +kernel
theorem dX7_readsText_16 : decode cX7_readsText 16 = .ok (.aload_n 0, 1) := by decide +kernel
theorem dX7_readsText_17 : decode cX7_readsText 17 = .ok (.invokevirtual 122, 3) := by decide +kernel
theorem dX7_readsText_20 : decode cX7_readsText 20 = .ok (.istore_n 3, 1) := by decide +kernel
theorem dX7_readsText_21 : decode cX7_readsText 21 = .ok (.iload_n 2, 1) := by decide +kernel
theorem dX7_readsText_22 : decode cX7_readsText 22 = .ok (.ifCond .eq 39, 3) := by decide +kernel
theorem dX7_readsText_25 : decode cX7_readsText 25 = .ok (.iload_n 3, 1) := by decide +kernel
theorem dX7_readsText_26 : decode cX7_readsText 26 = .ok (.iconst (-1), 1) := by decide +kernel
theorem dX7_readsText_27 : decode cX7_readsText 27 = .ok (.if_icmp .eq 34, 3) := by decide +kernel
theorem dX7_readsText_30 : decode cX7_readsText 30 = .ok (.aload_n 0, 1) := by decide +kernel
theorem dX7_readsText_31 : decode cX7_readsText 31 = .ok (.bipush 59, 2) := by decide +kernel
theorem dX7_readsText_33 : decode cX7_readsText 33 = .ok (.invokevirtual 132, 3) := by decide +kernel
theorem dX7_readsText_36 : decode cX7_readsText 36 = .ok (.ifCond .eq 15, 3) := by decide +kernel
theorem dX7_readsText_39 : decode cX7_readsText 39 = .ok (.aload_n 0, 1) := by decide +kernel
theorem dX7_readsText_40 : decode cX7_readsText 40 = .ok (.iload_n 1, 1) := by decide +kernel
theorem dX7_readsText_41 : decode cX7_readsText 41 = .ok (.invokevirtual 138, 3) := by decide +kernel
theorem dX7_readsText_44 : decode cX7_readsText 44 = .ok (.ifCond .eq 7, 3) := by decide +kernel
theorem dX7_readsText_47 : decode cX7_readsText 47 = .ok (.iconst 1, 1) := by decide +kernel
theorem dX7_readsText_48 : decode cX7_readsText 48 = .ok (.goto 4, 3) := by decide +kernel
theorem dX7_readsText_51 : decode cX7_readsText 51 = .ok (.iconst 0, 1) := by decide +kernel
theorem dX7_readsText_52 : decode cX7_readsText 52 = .ok (.istore_n 2, 1) := by decide +kernel
theorem dX7_readsText_53 : decode cX7_readsText 53 = .ok (.aload_n 0, 1) := by decide +kernel
theorem dX7_readsText_54 : decode cX7_readsText 54 = .ok (.invokevirtual 122, 3) := by decide +kernel
theorem dX7_readsText_57 : decode cX7_readsText 57 = .ok (.istore_n 3, 1) := by decide +kernel
theorem dX7_readsText_58 : decode cX7_readsText 58 = .ok (.goto (-37), 3) := by decide +kernel
theorem dX7_readsText_61 : decode cX7_readsText 61 = .ok (.iload_n 2, 1) := by decide +kernel
theorem dX7_readsText_62 : decode cX7_readsText 62 = .ok (.ireturn, 1) := by decide +kernel
theorem dX7_textFault_0 : decode cX7_textFault 0 = .ok (.aload_n 0, 1) := by decide +kernel
theorem dX7_textFault_1 : decode cX7_textFault 1 = .ok (.iconst 0, 1) := by decide +kernel
theorem dX7_textFault_2 : decode cX7_textFault 2 = .ok (.invokevirtual 142, 3) := by decide +kernel
theorem dX7_textFault_5 : decode cX7_textFault 5 = .ok (.ifCond .eq 7, 3) := by decide +kernel
theorem dX7_textFault_8 : decode cX7_textFault 8 = .ok (.iconst (-1), 1) := by decide +kernel
theorem dX7_textFault_9 : decode cX7_textFault 9 = .ok (.goto 7, 3) := by decide +kernel
theorem dX7_textFault_12 : decode cX7_textFault 12 = .ok (.aload_n 0, 1) := by decide +kernel
theorem dX7_textFault_13 : decode cX7_textFault 13 = .ok (.getfield 119, 3) := by decide +kernel
theorem dX7_textFault_16 : decode cX7_textFault 16 = .ok (.ireturn, 1) := by decide +kernel
theorem dX7_readAll_0 : decode cX7_readAll 0 = .ok (.aload_n 0, 1) := by decide +kernel
theorem dX7_readAll_1 : decode cX7_readAll 1 = .ok (.iconst 0, 1) := by decide +kernel
theorem dX7_readAll_2 : decode cX7_readAll 2 = .ok (.invokevirtual 142, 3) := by decide +kernel
theorem dX7_readAll_5 : decode cX7_readAll 5 = .ok (.ifCond .ne 6, 3) := by decide +kernel
theorem dX7_readAll_8 : decode cX7_readAll 8 = .ok (.bipush (-4), 2) := by decide +kernel
theorem dX7_readAll_10 : decode cX7_readAll 10 = .ok (.ireturn, 1) := by decide +kernel
theorem dX7_readAll_11 : decode cX7_readAll 11 = .ok (.aload_n 0, 1) := by decide +kernel
theorem dX7_readAll_12 : decode cX7_readAll 12 = .ok (.invokevirtual 47, 3) := by decide +kernel
theorem dX7_readAll_15 : decode cX7_readAll 15 = .ok (.aload_n 0, 1) := by decide +kernel
theorem dX7_readAll_16 : decode cX7_readAll 16 = .ok (.iconst 1, 1) := by decide +kernel
theorem dX7_readAll_17 : decode cX7_readAll 17 = .ok (.invokevirtual 142, 3) := by decide +kernel
theorem dX7_readAll_20 : decode cX7_readAll 20 = .ok (.istore_n 1, 1) := by decide +kernel
theorem dX7_readAll_21 : decode cX7_readAll 21 = .ok (.aload_n 0, 1) := by decide +kernel
theorem dX7_readAll_22 : decode cX7_readAll 22 = .ok (.getfield 135, 3) := by decide +kernel
theorem dX7_readAll_25 : decode cX7_readAll 25 = .ok (.ireturn, 1) := by decide +kernel
theorem dX7_note_0 : decode cX7_note 0 = .ok (.aload_n 0, 1) := by decide +kernel
theorem dX7_note_1 : decode cX7_note 1 = .ok (.ldc2_w 145, 3) := by decide +kernel
theorem dX7_note_4 : decode cX7_note 4 = .ok (.aload_n 0, 1) := by decide +kernel
theorem dX7_note_5 : decode cX7_note 5 = .ok (.getfield 147, 3) := by decide +kernel
theorem dX7_note_8 : decode cX7_note 8 = .ok (.lmul, 1) := by decide +kernel
theorem dX7_note_9 : decode cX7_note 9 = .ok (.lload_n 1, 1) := by decide +kernel
theorem dX7_note_10 : decode cX7_note 10 = .ok (.ladd, 1) := by decide +kernel
theorem dX7_note_11 : decode cX7_note 11 = .ok (.putfield 147, 3) := by decide +kernel
theorem dX7_note_14 : decode cX7_note 14 = .ok (.return_, 1) := by decide +kernel
theorem dX7_digest_0 : decode cX7_digest 0 = .ok (.aload_n 0, 1) := by decide +kernel
theorem dX7_digest_1 : decode cX7_digest 1 = .ok (.ldc2_w 151, 3) := by decide +kernel
theorem dX7_digest_4 : decode cX7_digest 4 = .ok (.putfield 147, 3) := by decide +kernel
theorem dX7_digest_7 : decode cX7_digest 7 = .ok (.iconst 0, 1) := by decide +kernel
theorem dX7_digest_8 : decode cX7_digest 8 = .ok (.istore_n 1, 1) := by decide +kernel
theorem dX7_digest_9 : decode cX7_digest 9 = .ok (.iload_n 1, 1) := by decide +kernel
theorem dX7_digest_10 : decode cX7_digest 10 = .ok (.bipush 11, 2) := by decide +kernel
theorem dX7_digest_12 : decode cX7_digest 12 = .ok (.aload_n 0, 1) := by decide +kernel
theorem dX7_digest_13 : decode cX7_digest 13 = .ok (.getfield 7, 3) := by decide +kernel
theorem dX7_digest_16 : decode cX7_digest 16 = .ok (.iconst 0, 1) := by decide +kernel
theorem dX7_digest_17 : decode cX7_digest 17 = .ok (.iaload, 1) := by decide +kernel
theorem dX7_digest_18 : decode cX7_digest 18 = .ok (.iadd, 1) := by decide +kernel
theorem dX7_digest_19 : decode cX7_digest 19 = .ok (.if_icmp .ge 20, 3) := by decide +kernel
theorem dX7_digest_22 : decode cX7_digest 22 = .ok (.aload_n 0, 1) := by decide +kernel
theorem dX7_digest_23 : decode cX7_digest 23 = .ok (.aload_n 0, 1) := by decide +kernel
theorem dX7_digest_24 : decode cX7_digest 24 = .ok (.getfield 7, 3) := by decide +kernel
theorem dX7_digest_27 : decode cX7_digest 27 = .ok (.iload_n 1, 1) := by decide +kernel
theorem dX7_digest_28 : decode cX7_digest 28 = .ok (.iaload, 1) := by decide +kernel
theorem dX7_digest_29 : decode cX7_digest 29 = .ok (.i2l, 1) := by decide +kernel
theorem dX7_digest_30 : decode cX7_digest 30 = .ok (.invokevirtual 153, 3) := by decide +kernel
theorem dX7_digest_33 : decode cX7_digest 33 = .ok (.iinc 1 1, 3) := by decide +kernel
theorem dX7_digest_36 : decode cX7_digest 36 = .ok (.goto (-27), 3) := by decide +kernel
theorem dX7_digest_39 : decode cX7_digest 39 = .ok (.iconst 0, 1) := by decide +kernel
theorem dX7_digest_40 : decode cX7_digest 40 = .ok (.istore_n 1, 1) := by decide +kernel
theorem dX7_digest_41 : decode cX7_digest 41 = .ok (.iload_n 1, 1) := by decide +kernel
theorem dX7_digest_42 : decode cX7_digest 42 = .ok (.aload_n 0, 1) := by decide +kernel
theorem dX7_digest_43 : decode cX7_digest 43 = .ok (.getfield 7, 3) := by decide +kernel
theorem dX7_digest_46 : decode cX7_digest 46 = .ok (.iconst 1, 1) := by decide +kernel
theorem dX7_digest_47 : decode cX7_digest 47 = .ok (.iaload, 1) := by decide +kernel
theorem dX7_digest_48 : decode cX7_digest 48 = .ok (.if_icmp .ge 44, 3) := by decide +kernel
theorem dX7_digest_51 : decode cX7_digest 51 = .ok (.iconst 0, 1) := by decide +kernel
theorem dX7_digest_52 : decode cX7_digest 52 = .ok (.istore_n 2, 1) := by decide +kernel
theorem dX7_digest_53 : decode cX7_digest 53 = .ok (.iload_n 2, 1) := by decide +kernel
theorem dX7_digest_54 : decode cX7_digest 54 = .ok (.bipush 7, 2) := by decide +kernel
theorem dX7_digest_56 : decode cX7_digest 56 = .ok (.if_icmp .ge 20, 3) := by decide +kernel
theorem dX7_digest_59 : decode cX7_digest 59 = .ok (.aload_n 0, 1) := by decide +kernel
theorem dX7_digest_60 : decode cX7_digest 60 = .ok (.aload_n 0, 1) := by decide +kernel
theorem dX7_digest_61 : decode cX7_digest 61 = .ok (.iload_n 1, 1) := by decide +kernel
theorem dX7_digest_62 : decode cX7_digest 62 = .ok (.iload_n 2, 1) := by decide +kernel
theorem dX7_digest_63 : decode cX7_digest 63 = .ok (.invokevirtual 39, 3) := by decide +kernel
theorem dX7_digest_66 : decode cX7_digest 66 = .ok (.i2l, 1) := by decide +kernel
theorem dX7_digest_67 : decode cX7_digest 67 = .ok (.invokevirtual 153, 3) := by decide +kernel
theorem dX7_digest_70 : decode cX7_digest 70 = .ok (.iinc 2 1, 3) := by decide +kernel
theorem dX7_digest_73 : decode cX7_digest 73 = .ok (.goto (-20), 3) := by decide +kernel
theorem dX7_digest_76 : decode cX7_digest 76 = .ok (.aload_n 0, 1) := by decide +kernel
theorem dX7_digest_77 : decode cX7_digest 77 = .ok (.aload_n 0, 1) := by decide +kernel
theorem dX7_digest_78 : decode cX7_digest 78 = .ok (.getfield 13, 3) := by decide +kernel
theorem dX7_digest_81 : decode cX7_digest 81 = .ok (.iload_n 1, 1) := by decide +kernel
theorem dX7_digest_82 : decode cX7_digest 82 = .ok (.laload, 1) := by decide +kernel
theorem dX7_digest_83 : decode cX7_digest 83 = .ok (.invokevirtual 153, 3) := by decide +kernel
theorem dX7_digest_86 : decode cX7_digest 86 = .ok (.iinc 1 1, 3) := by decide +kernel
theorem dX7_digest_89 : decode cX7_digest 89 = .ok (.goto (-48), 3) := by decide +kernel
theorem dX7_digest_92 : decode cX7_digest 92 = .ok (.aload_n 0, 1) := by decide +kernel
theorem dX7_digest_93 : decode cX7_digest 93 = .ok (.getfield 147, 3) := by decide +kernel
theorem dX7_digest_96 : decode cX7_digest 96 = .ok (.lreturn, 1) := by decide +kernel
end
section
theorem dX6_init_0 : decode cX6_init 0 = .ok (.aload_n 0, 1) := by decide +kernel
theorem dX6_init_1 : decode cX6_init 1 = .ok (.invokespecial 1, 3) := by decide +kernel
theorem dX6_init_4 : decode cX6_init 4 = .ok (.aload_n 0, 1) := by decide +kernel
theorem dX6_init_5 : decode cX6_init 5 = .ok (.new 7, 3) := by decide +kernel
theorem dX6_init_8 : decode cX6_init 8 = .ok (.dup, 1) := by decide +kernel
theorem dX6_init_9 : decode cX6_init 9 = .ok (.invokespecial 9, 3) := by decide +kernel
theorem dX6_init_12 : decode cX6_init 12 = .ok (.putfield 10, 3) := by decide +kernel
theorem dX6_init_15 : decode cX6_init 15 = .ok (.aload_n 0, 1) := by decide +kernel
theorem dX6_init_16 : decode cX6_init 16 = .ok (.new 16, 3) := by decide +kernel
theorem dX6_init_19 : decode cX6_init 19 = .ok (.dup, 1) := by decide +kernel
theorem dX6_init_20 : decode cX6_init 20 = .ok (.invokespecial 18, 3) := by decide +kernel
theorem dX6_init_23 : decode cX6_init 23 = .ok (.putfield 19, 3) := by decide +kernel
theorem dX6_init_26 : decode cX6_init 26 = .ok (.aload_n 0, 1) := by decide +kernel
theorem dX6_init_27 : decode cX6_init 27 = .ok (.new 23, 3) := by decide +kernel
theorem dX6_init_30 : decode cX6_init 30 = .ok (.dup, 1) := by decide +kernel
theorem dX6_init_31 : decode cX6_init 31 = .ok (.invokespecial 25, 3) := by decide +kernel
theorem dX6_init_34 : decode cX6_init 34 = .ok (.putfield 26, 3) := by decide +kernel
theorem dX6_init_37 : decode cX6_init 37 = .ok (.aload_n 0, 1) := by decide +kernel
theorem dX6_init_38 : decode cX6_init 38 = .ok (.new 30, 3) := by decide +kernel
theorem dX6_init_41 : decode cX6_init 41 = .ok (.dup, 1) := by decide +kernel
theorem dX6_init_42 : decode cX6_init 42 = .ok (.invokespecial 32, 3) := by decide +kernel
theorem dX6_init_45 : decode cX6_init 45 = .ok (.putfield 33, 3) := by decide +kernel
theorem dX6_init_48 : decode cX6_init 48 = .ok (.aload_n 0, 1) := by decide +kernel
theorem dX6_init_49 : decode cX6_init 49 = .ok (.new 37, 3) := by decide +kernel
theorem dX6_init_52 : decode cX6_init 52 = .ok (.dup, 1) := by decide +kernel
theorem dX6_init_53 : decode cX6_init 53 = .ok (.invokespecial 39, 3) := by decide +kernel
theorem dX6_init_56 : decode cX6_init 56 = .ok (.putfield 40, 3) := by decide +kernel
theorem dX6_init_59 : decode cX6_init 59 = .ok (.return_, 1) := by decide +kernel
theorem dX6_setPressure_0 : decode cX6_setPressure 0 = .ok (.aload_n 0, 1) := by decide +kernel
theorem dX6_setPressure_1 : decode cX6_setPressure 1 = .ok (.getfield 10, 3) := by decide +kernel
theorem dX6_setPressure_4 : decode cX6_setPressure 4 = .ok (.iload_n 1, 1) := by decide +kernel
theorem dX6_setPressure_5 : decode cX6_setPressure 5 = .ok (.invokevirtual 44, 3) := by decide +kernel
theorem dX6_setPressure_8 : decode cX6_setPressure 8 = .ok (.ifCond .ne 6, 3) := by decide +kernel
theorem dX6_setPressure_11 : decode cX6_setPressure 11 = .ok (.bipush (-2), 2) := by decide +kernel
theorem dX6_setPressure_13 : decode cX6_setPressure 13 = .ok (.ireturn, 1) := by decide +kernel
theorem dX6_setPressure_14 : decode cX6_setPressure 14 = .ok (.iload_n 2, 1) := by decide +kernel
theorem dX6_setPressure_15 : decode cX6_setPressure 15 = .ok (.iconst 1, 1) := by decide +kernel
theorem dX6_setPressure_16 : decode cX6_setPressure 16 = .ok (.bipush 20, 2) := by decide +kernel
theorem dX6_setPressure_18 : decode cX6_setPressure 18 = .ok (.invokestatic 48, 3) := by decide +kernel
theorem dX6_setPressure_21 : decode cX6_setPressure 21 = .ok (.ifCond .ne 6, 3) := by decide +kernel
theorem dX6_setPressure_24 : decode cX6_setPressure 24 = .ok (.bipush (-3), 2) := by decide +kernel
theorem dX6_setPressure_26 : decode cX6_setPressure 26 = .ok (.ireturn, 1) := by decide +kernel
theorem dX6_setPressure_27 : decode cX6_setPressure 27 = .ok (.aload_n 0, 1) := by decide +kernel
theorem dX6_setPressure_28 : decode cX6_setPressure 28 = .ok (.getfield 19, 3) := by decide +kernel
theorem dX6_setPressure_31 : decode cX6_setPressure 31 = .ok (.aload_n 0, 1) := by decide +kernel
theorem dX6_setPressure_32 : decode cX6_setPressure 32 = .ok (.getfield 10, 3) := by decide +kernel
theorem dX6_setPressure_35 : decode cX6_setPressure 35 = .ok (.invokevirtual 52, 3) := by decide +kernel
theorem dX6_setPressure_38 : decode cX6_setPressure 38 = .ok (.aload_n 0, 1) := by decide +kernel
theorem dX6_setPressure_39 : decode cX6_setPressure 39 = .ok (.getfield 10, 3) := by decide +kernel
theorem dX6_setPressure_42 : decode cX6_setPressure 42 = .ok (.getfield 56, 3) := by decide +kernel
theorem dX6_setPressure_45 : decode cX6_setPressure 45 = .ok (.iload_n 1, 1) := by decide +kernel
theorem dX6_setPressure_46 : decode cX6_setPressure 46 = .ok (.iaload, 1) := by decide +kernel
theorem dX6_setPressure_47 : decode cX6_setPressure 47 = .ok (.istore_n 3, 1) := by decide +kernel
theorem dX6_setPressure_48 : decode cX6_setPressure 48 = .ok (.aload_n 0, 1) := by decide +kernel
theorem dX6_setPressure_49 : decode cX6_setPressure 49 = .ok (.getfield 10, 3) := by decide +kernel
theorem dX6_setPressure_52 : decode cX6_setPressure 52 = .ok (.getfield 56, 3) := by decide +kernel
theorem dX6_setPressure_55 : decode cX6_setPressure 55 = .ok (.iload_n 1, 1) := by decide +kernel
theorem dX6_setPressure_56 : decode cX6_setPressure 56 = .ok (.iload_n 2, 1) := by decide +kernel
theorem dX6_setPressure_57 : decode cX6_setPressure 57 = .ok (.iastore, 1) := by decide +kernel
theorem dX6_setPressure_58 : decode cX6_setPressure 58 = .ok (.iload_n 3, 1) := by decide +kernel
theorem dX6_setPressure_59 : decode cX6_setPressure 59 = .ok (.ireturn, 1) := by decide +kernel
theorem dX6_addLine_0 : decode cX6_addLine 0 = .ok (.aload_n 0, 1) := by decide +kernel
theorem dX6_addLine_1 : decode cX6_addLine 1 = .ok (.getfield 10, 3) := by decide +kernel
theorem dX6_addLine_4 : decode cX6_addLine 4 = .ok (.iload_n 1, 1) := by decide +kernel
theorem dX6_addLine_5 : decode cX6_addLine 5 = .ok (.invokevirtual 44, 3) := by decide +kernel
theorem dX6_addLine_8 : decode cX6_addLine 8 = .ok (.ifCond .ne 6, 3) := by decide +kernel
theorem dX6_addLine_11 : decode cX6_addLine 11 = .ok (.bipush (-2), 2) := by decide +kernel
theorem dX6_addLine_13 : decode cX6_addLine 13 = .ok (.ireturn, 1) := by decide +kernel
theorem dX6_addLine_14 : decode cX6_addLine 14 = .ok (.aload_n 0, 1) := by decide +kernel
theorem dX6_addLine_15 : decode cX6_addLine 15 = .ok (.getfield 10, 3) := by decide +kernel
theorem dX6_addLine_18 : decode cX6_addLine 18 = .ok (.getfield 60, 3) := by decide +kernel
theorem dX6_addLine_21 : decode cX6_addLine 21 = .ok (.bipush 8, 2) := by decide +kernel
theorem dX6_addLine_23 : decode cX6_addLine 23 = .ok (.if_icmp .lt 6, 3) := by decide +kernel
theorem dX6_addLine_26 : decode cX6_addLine 26 = .ok (.bipush (-5), 2) := by decide +kernel
theorem dX6_addLine_28 : decode cX6_addLine 28 = .ok (.ireturn, 1) := by decide +kernel
theorem dX6_addLine_29 : decode cX6_addLine 29 = .ok (.aload_n 0, 1) := by decide +kernel
theorem dX6_addLine_30 : decode cX6_addLine 30 = .ok (.getfield 19, 3) := by decide +kernel
theorem dX6_addLine_33 : decode cX6_addLine 33 = .ok (.aload_n 0, 1) := by decide +kernel
theorem dX6_addLine_34 : decode cX6_addLine 34 = .ok (.getfield 10, 3) := by decide +kernel
theorem dX6_addLine_37 : decode cX6_addLine 37 = .ok (.invokevirtual 52, 3) := by decide +kernel
theorem dX6_addLine_40 : decode cX6_addLine 40 = .ok (.aload_n 0, 1) := by decide +kernel
theorem dX6_addLine_41 : decode cX6_addLine 41 = .ok (.getfield 10, 3) := by decide +kernel
theorem dX6_addLine_44 : decode cX6_addLine 44 = .ok (.getfield 60, 3) := by decide +kernel
theorem dX6_addLine_47 : decode cX6_addLine 47 = .ok (.istore_n 2, 1) := by decide +kernel
theorem dX6_addLine_48 : decode cX6_addLine 48 = .ok (.aload_n 0, 1) := by decide +kernel
theorem dX6_addLine_49 : decode cX6_addLine 49 = .ok (.getfield 10, 3) := by decide +kernel
theorem dX6_addLine_52 : decode cX6_addLine 52 = .ok (.getfield 64, 3) := by decide +kernel
theorem dX6_addLine_55 : decode cX6_addLine 55 = .ok (.iload_n 2, 1) := by decide +kernel
theorem dX6_addLine_56 : decode cX6_addLine 56 = .ok (.iload_n 1, 1) := by decide +kernel
theorem dX6_addLine_57 : decode cX6_addLine 57 = .ok (.iastore, 1) := by decide +kernel
theorem dX6_addLine_58 : decode cX6_addLine 58 = .ok (.aload_n 0, 1) := by decide +kernel
theorem dX6_addLine_59 : decode cX6_addLine 59 = .ok (.getfield 10, 3) := by decide +kernel
theorem dX6_addLine_62 : decode cX6_addLine 62 = .ok (.dup, 1) := by decide +kernel
theorem dX6_addLine_63 : decode cX6_addLine 63 = .ok (.getfield 60, 3) := by decide +kernel
theorem dX6_addLine_66 : decode cX6_addLine 66 = .ok (.iconst 1, 1) := by decide +kernel
theorem dX6_addLine_67 : decode cX6_addLine 67 = .ok (.iadd, 1) := by decide +kernel
theorem dX6_addLine_68 : decode cX6_addLine 68 = .ok (.putfield 60, 3) := by decide +kernel
theorem dX6_addLine_71 : decode cX6_addLine 71 = .ok (.iload_n 2, 1) := by decide +kernel
theorem dX6_addLine_72 : decode cX6_addLine 72 = .ok (.ireturn, 1) := by decide +kernel
theorem dX6_addTrap_0 : decode cX6_addTrap 0 = .ok (.aload_n 0, 1) := by decide +kernel
theorem dX6_addTrap_1 : decode cX6_addTrap 1 = .ok (.getfield 10, 3) := by decide +kernel
theorem dX6_addTrap_4 : decode cX6_addTrap 4 = .ok (.iload_n 1, 1) := by decide +kernel
theorem dX6_addTrap_5 : decode cX6_addTrap 5 = .ok (.invokevirtual 67, 3) := by decide +kernel
theorem dX6_addTrap_8 : decode cX6_addTrap 8 = .ok (.ifCond .ne 6, 3) := by decide +kernel
theorem dX6_addTrap_11 : decode cX6_addTrap 11 = .ok (.bipush (-2), 2) := by decide +kernel
theorem dX6_addTrap_13 : decode cX6_addTrap 13 = .ok (.ireturn, 1) := by decide +kernel
theorem dX6_addTrap_14 : decode cX6_addTrap 14 = .ok (.iload_n 2, 1) := by decide +kernel
theorem dX6_addTrap_15 : decode cX6_addTrap 15 = .ok (.iconst 0, 1) := by decide +kernel
theorem dX6_addTrap_16 : decode cX6_addTrap 16 = .ok (.iconst 2, 1) := by decide +kernel
theorem dX6_addTrap_17 : decode cX6_addTrap 17 = .ok (.invokestatic 48, 3) := by decide +kernel
theorem dX6_addTrap_20 : decode cX6_addTrap 20 = .ok (.ifCond .eq 35, 3) := by decide +kernel
theorem dX6_addTrap_23 : decode cX6_addTrap 23 = .ok (.iload_n 3, 1) := by decide +kernel
theorem dX6_addTrap_24 : decode cX6_addTrap 24 = .ok (.iconst 1, 1) := by decide +kernel
theorem dX6_addTrap_25 : decode cX6_addTrap 25 = .ok (.bipush 9, 2) := by decide +kernel
theorem dX6_addTrap_27 : decode cX6_addTrap 27 = .ok (.invokestatic 48, 3) := by decide +kernel
theorem dX6_addTrap_30 : decode cX6_addTrap 30 = .ok (.ifCond .eq 25, 3) := by decide +kernel
theorem dX6_addTrap_33 : decode cX6_addTrap 33 = .ok (.iload 4, 2) := by decide +kernel
theorem dX6_addTrap_35 : decode cX6_addTrap 35 = .ok (.iconst 0, 1) := by decide +kernel
theorem dX6_addTrap_36 : decode cX6_addTrap 36 = .ok (.bipush 50, 2) := by decide +kernel
theorem dX6_addTrap_38 : decode cX6_addTrap 38 = .ok (.invokestatic 48, 3) := by decide +kernel
theorem dX6_addTrap_41 : decode cX6_addTrap 41 = .ok (.ifCond .eq 14, 3) := by decide +kernel
theorem dX6_addTrap_44 : decode cX6_addTrap 44 = .ok (.iload 5, 2) := by decide +kernel
theorem dX6_addTrap_46 : decode cX6_addTrap 46 = .ok (.iconst 0, 1) := by decide +kernel
theorem dX6_addTrap_47 : decode cX6_addTrap 47 = .ok (.bipush 50, 2) := by decide +kernel
theorem dX6_addTrap_49 : decode cX6_addTrap 49 = .ok (.invokestatic 48, 3) := by decide +kernel
theorem dX6_addTrap_52 : decode cX6_addTrap 52 = .ok (.ifCond .ne 6, 3) := by decide +kernel
theorem dX6_addTrap_55 : decode cX6_addTrap 55 = .ok (.bipush (-3), 2) := by decide +kernel
theorem dX6_addTrap_57 : decode cX6_addTrap 57 = .ok (.ireturn, 1) := by decide +kernel
theorem dX6_addTrap_58 : decode cX6_addTrap 58 = .ok (.aload_n 0, 1) := by decide +kernel
theorem dX6_addTrap_59 : decode cX6_addTrap 59 = .ok (.getfield 10, 3) := by decide +kernel
theorem dX6_addTrap_62 : decode cX6_addTrap 62 = .ok (.getfield 70, 3) := by decide +kernel
theorem dX6_addTrap_65 : decode cX6_addTrap 65 = .ok (.bipush 16, 2) := by decide +kernel
theorem dX6_addTrap_67 : decode cX6_addTrap 67 = .ok (.if_icmp .lt 6, 3) := by decide +kernel
theorem dX6_addTrap_70 : decode cX6_addTrap 70 = .ok (.bipush (-5), 2) := by decide +kernel
theorem dX6_addTrap_72 : decode cX6_addTrap 72 = .ok (.ireturn, 1) := by decide +kernel
theorem dX6_addTrap_73 : decode cX6_addTrap 73 = .ok (.aload_n 0, 1) := by decide +kernel
theorem dX6_addTrap_74 : decode cX6_addTrap 74 = .ok (.getfield 19, 3) := by decide +kernel
theorem dX6_addTrap_77 : decode cX6_addTrap 77 = .ok (.aload_n 0, 1) := by decide +kernel
theorem dX6_addTrap_78 : decode cX6_addTrap 78 = .ok (.getfield 10, 3) := by decide +kernel
theorem dX6_addTrap_81 : decode cX6_addTrap 81 = .ok (.invokevirtual 52, 3) := by decide +kernel
theorem dX6_addTrap_84 : decode cX6_addTrap 84 = .ok (.aload_n 0, 1) := by decide +kernel
theorem dX6_addTrap_85 : decode cX6_addTrap 85 = .ok (.getfield 10, 3) := by decide +kernel
theorem dX6_addTrap_88 : decode cX6_addTrap 88 = .ok (.getfield 70, 3) := by decide +kernel
theorem dX6_addTrap_91 : decode cX6_addTrap 91 = .ok (.istore 6, 2) := by decide +kernel
theorem dX6_addTrap_93 : decode cX6_addTrap 93 = .ok (.aload_n 0, 1) := by decide +kernel
theorem dX6_addTrap_94 : decode cX6_addTrap 94 = .ok (.getfield 10, 3) := by decide +kernel
theorem dX6_addTrap_97 : decode cX6_addTrap 97 = .ok (.getfield 73, 3) := by decide +kernel
theorem dX6_addTrap_100 : decode cX6_addTrap 100 = .ok (.iload 6, 2) := by decide +kernel
theorem dX6_addTrap_102 : decode cX6_addTrap 102 = .ok (.aaload, 1) := by decide +kernel
theorem dX6_addTrap_103 : decode cX6_addTrap 103 = .ok (.iload_n 1, 1) := by decide +kernel
theorem dX6_addTrap_104 : decode cX6_addTrap 104 = .ok (.iload_n 2, 1) := by decide +kernel
theorem dX6_addTrap_105 : decode cX6_addTrap 105 = .ok (.iload_n 3, 1) := by decide +kernel
theorem dX6_addTrap_106 : decode cX6_addTrap 106 = .ok (.iload 4, 2) := by decide +kernel
theorem dX6_addTrap_108 : decode cX6_addTrap 108 = .ok (.iload 5, 2) := by decide +kernel
theorem dX6_addTrap_110 : decode cX6_addTrap 110 = .ok (.invokevirtual 77, 3) := by decide +kernel
theorem dX6_addTrap_113 : decode cX6_addTrap 113 = .ok (.aload_n 0, 1) := by decide +kernel
theorem dX6_addTrap_114 : decode cX6_addTrap 114 = .ok (.getfield 10, 3) := by decide +kernel
theorem dX6_addTrap_117 : decode cX6_addTrap 117 = .ok (.dup, 1) := by decide +kernel
theorem dX6_addTrap_118 : decode cX6_addTrap 118 = .ok (.getfield 70, 3) := by decide +kernel
theorem dX6_addTrap_121 : decode cX6_addTrap 121 = .ok (.iconst 1, 1) := by decide +kernel
theorem dX6_addTrap_122 : decode cX6_addTrap 122 = .ok (.iadd, 1) := by decide +kernel
theorem dX6_addTrap_123 : decode cX6_addTrap 123 = .ok (.putfield 70, 3) := by decide +kernel
theorem dX6_addTrap_126 : decode cX6_addTrap 126 = .ok (.iload 6, 2) := by decide +kernel
theorem dX6_addTrap_128 : decode cX6_addTrap 128 = .ok (.ireturn, 1) := by decide +kernel
theorem dX6_moveLine_0 : decode cX6_moveLine 0 = .ok (.aload_n 0, 1) := by decide +kernel
theorem dX6_moveLine_1 : decode cX6_moveLine 1 = .ok (.getfield 10, 3) := by decide +kernel
theorem dX6_moveLine_4 : decode cX6_moveLine 4 = .ok (.iload_n 1, 1) := by decide +kernel
theorem dX6_moveLine_5 : decode cX6_moveLine 5 = .ok (.invokevirtual 67, 3) := by decide +kernel
theorem dX6_moveLine_8 : decode cX6_moveLine 8 = .ok (.ifCond .eq 14, 3) := by decide +kernel
theorem dX6_moveLine_11 : decode cX6_moveLine 11 = .ok (.aload_n 0, 1) := by decide +kernel
theorem dX6_moveLine_12 : decode cX6_moveLine 12 = .ok (.getfield 10, 3) := by decide +kernel
theorem dX6_moveLine_15 : decode cX6_moveLine 15 = .ok (.iload_n 2, 1) := by decide +kernel
theorem dX6_moveLine_16 : decode cX6_moveLine 16 = .ok (.invokevirtual 44, 3) := by decide +kernel
theorem dX6_moveLine_19 : decode cX6_moveLine 19 = .ok (.ifCond .ne 6, 3) := by decide +kernel
theorem dX6_moveLine_22 : decode cX6_moveLine 22 = .ok (.bipush (-2), 2) := by decide +kernel
theorem dX6_moveLine_24 : decode cX6_moveLine 24 = .ok (.ireturn, 1) := by decide +kernel
theorem dX6_moveLine_25 : decode cX6_moveLine 25 = .ok (.aload_n 0, 1) := by decide +kernel
theorem dX6_moveLine_26 : decode cX6_moveLine 26 = .ok (.getfield 19, 3) := by decide +kernel
theorem dX6_moveLine_29 : decode cX6_moveLine 29 = .ok (.aload_n 0, 1) := by decide +kernel
theorem dX6_moveLine_30 : decode cX6_moveLine 30 = .ok (.getfield 10, 3) := by decide +kernel
theorem dX6_moveLine_33 : decode cX6_moveLine 33 = .ok (.invokevirtual 52, 3) := by decide +kernel
theorem dX6_moveLine_36 : decode cX6_moveLine 36 = .ok (.aload_n 0, 1) := by decide +kernel
theorem dX6_moveLine_37 : decode cX6_moveLine 37 = .ok (.getfield 10, 3) := by decide +kernel
theorem dX6_moveLine_40 : decode cX6_moveLine 40 = .ok (.getfield 64, 3) := by decide +kernel
theorem dX6_moveLine_43 : decode cX6_moveLine 43 = .ok (.iload_n 1, 1) := by decide +kernel
theorem dX6_moveLine_44 : decode cX6_moveLine 44 = .ok (.iaload, 1) := by decide +kernel
theorem dX6_moveLine_45 : decode cX6_moveLine 45 = .ok (.istore_n 3, 1) := by decide +kernel
theorem dX6_moveLine_46 : decode cX6_moveLine 46 = .ok (.aload_n 0, 1) := by decide +kernel
theorem dX6_moveLine_47 : decode cX6_moveLine 47 = .ok (.getfield 10, 3) := by decide +kernel
theorem dX6_moveLine_50 : decode cX6_moveLine 50 = .ok (.getfield 64, 3) := by decide +kernel
theorem dX6_moveLine_53 : decode cX6_moveLine 53 = .ok (.iload_n 1, 1) := by decide +kernel
theorem dX6_moveLine_54 : decode cX6_moveLine 54 = .ok (.iload_n 2, 1) := by decide +kernel
theorem dX6_moveLine_55 : decode cX6_moveLine 55 = .ok (.iastore, 1) := by decide +kernel
theorem dX6_moveLine_56 : decode cX6_moveLine 56 = .ok (.iload_n 3, 1) := by decide +kernel
theorem dX6_moveLine_57 : decode cX6_moveLine 57 = .ok (.ireturn, 1) := by decide +kernel
theorem dX6_setWork_0 : decode cX6_setWork 0 = .ok (.iload_n 1, 1) := by decide +kernel
theorem dX6_setWork_1 : decode cX6_setWork 1 = .ok (.iconst 1, 1) := by decide +kernel
theorem dX6_setWork_2 : decode cX6_setWork 2 = .ok (.bipush 24, 2) := by decide +kernel
theorem dX6_setWork_4 : decode cX6_setWork 4 = .ok (.invokestatic 48, 3) := by decide +kernel
theorem dX6_setWork_7 : decode cX6_setWork 7 = .ok (.ifCond .eq 25, 3) := by decide +kernel
theorem dX6_setWork_10 : decode cX6_setWork 10 = .ok (.iload_n 2, 1) := by decide +kernel
theorem dX6_setWork_11 : decode cX6_setWork 11 = .ok (.iconst 1, 1) := by decide +kernel
theorem dX6_setWork_12 : decode cX6_setWork 12 = .ok (.sipush 1000, 3) := by decide +kernel
theorem dX6_setWork_15 : decode cX6_setWork 15 = .ok (.invokestatic 48, 3) := by decide +kernel
theorem dX6_setWork_18 : decode cX6_setWork 18 = .ok (.ifCond .eq 14, 3) := by decide +kernel
theorem dX6_setWork_21 : decode cX6_setWork 21 = .ok (.iload_n 3, 1) := by decide +kernel
theorem dX6_setWork_22 : decode cX6_setWork 22 = .ok (.iconst 1, 1) := by decide +kernel
theorem dX6_setWork_23 : decode cX6_setWork 23 = .ok (.sipush 400, 3) := by decide +kernel
theorem dX6_setWork_26 : decode cX6_setWork 26 = .ok (.invokestatic 48, 3) := by decide +kernel
theorem dX6_setWork_29 : decode cX6_setWork 29 = .ok (.ifCond .ne 6, 3) := by decide +kernel
theorem dX6_setWork_32 : decode cX6_setWork 32 = .ok (.bipush (-3), 2) := by decide +kernel
theorem dX6_setWork_34 : decode cX6_setWork 34 = .ok (.ireturn, 1) := by decide +kernel
theorem dX6_setWork_35 : decode cX6_setWork 35 = .ok (.aload_n 0, 1) := by decide +kernel
theorem dX6_setWork_36 : decode cX6_setWork 36 = .ok (.getfield 19, 3) := by decide +kernel
theorem dX6_setWork_39 : decode cX6_setWork 39 = .ok (.aload_n 0, 1) := by decide +kernel
theorem dX6_setWork_40 : decode cX6_setWork 40 = .ok (.getfield 10, 3) := by decide +kernel
theorem dX6_setWork_43 : decode cX6_setWork 43 = .ok (.invokevirtual 52, 3) := by decide +kernel
theorem dX6_setWork_46 : decode cX6_setWork 46 = .ok (.aload_n 0, 1) := by decide +kernel
theorem dX6_setWork_47 : decode cX6_setWork 47 = .ok (.getfield 10, 3) := by decide +kernel
theorem dX6_setWork_50 : decode cX6_setWork 50 = .ok (.getfield 83, 3) := by decide +kernel
theorem dX6_setWork_53 : decode cX6_setWork 53 = .ok (.istore 4, 2) := by decide +kernel
theorem dX6_setWork_55 : decode cX6_setWork 55 = .ok (.aload_n 0, 1) := by decide +kernel
theorem dX6_setWork_56 : decode cX6_setWork 56 = .ok (.getfield 10, 3) := by decide +kernel
theorem dX6_setWork_59 : decode cX6_setWork 59 = .ok (.iload_n 1, 1) := by decide +kernel
theorem dX6_setWork_60 : decode cX6_setWork 60 = .ok (.putfield 83, 3) := by decide +kernel
theorem dX6_setWork_63 : decode cX6_setWork 63 = .ok (.aload_n 0, 1) := by decide +kernel
theorem dX6_setWork_64 : decode cX6_setWork 64 = .ok (.getfield 10, 3) := by decide +kernel
theorem dX6_setWork_67 : decode cX6_setWork 67 = .ok (.iload_n 2, 1) := by decide +kernel
theorem dX6_setWork_68 : decode cX6_setWork 68 = .ok (.putfield 86, 3) := by decide +kernel
theorem dX6_setWork_71 : decode cX6_setWork 71 = .ok (.aload_n 0, 1) := by decide +kernel
theorem dX6_setWork_72 : decode cX6_setWork 72 = .ok (.getfield 10, 3) := by decide +kernel
theorem dX6_setWork_75 : decode cX6_setWork 75 = .ok (.iload_n 3, 1) := by decide +kernel
theorem dX6_setWork_76 : decode cX6_setWork 76 = .ok (.putfield 89, 3) := by decide +kernel
theorem dX6_setWork_79 : decode cX6_setWork 79 = .ok (.iload 4, 2) := by decide +kernel
theorem dX6_setWork_81 : decode cX6_setWork 81 = .ok (.ireturn, 1) := by decide +kernel
theorem dX6_count_0 : decode cX6_count 0 = .ok (.iload_n 1, 1) := by decide +kernel
theorem dX6_count_1 : decode cX6_count 1 = .ok (.tableswitch 111 0 7 #[47, 55, 63, 71, 79, 87, 95, 103], 47) := by decide +kernel
theorem dX6_count_48 : decode cX6_count 48 = .ok (.aload_n 0, 1) := by decide +kernel
theorem dX6_count_49 : decode cX6_count 49 = .ok (.getfield 10, 3) := by decide +kernel
theorem dX6_count_52 : decode cX6_count 52 = .ok (.getfield 60, 3) := by decide +kernel
theorem dX6_count_55 : decode cX6_count 55 = .ok (.ireturn, 1) := by decide +kernel
theorem dX6_count_56 : decode cX6_count 56 = .ok (.aload_n 0, 1) := by decide +kernel
theorem dX6_count_57 : decode cX6_count 57 = .ok (.getfield 10, 3) := by decide +kernel
theorem dX6_count_60 : decode cX6_count 60 = .ok (.getfield 70, 3) := by decide +kernel
theorem dX6_count_63 : decode cX6_count 63 = .ok (.ireturn, 1) := by decide +kernel
theorem dX6_count_64 : decode cX6_count 64 = .ok (.aload_n 0, 1) := by decide +kernel
theorem dX6_count_65 : decode cX6_count 65 = .ok (.getfield 10, 3) := by decide +kernel
theorem dX6_count_68 : decode cX6_count 68 = .ok (.getfield 83, 3) := by decide +kernel
theorem dX6_count_71 : decode cX6_count 71 = .ok (.ireturn, 1) := by decide +kernel
theorem dX6_count_72 : decode cX6_count 72 = .ok (.aload_n 0, 1) := by decide +kernel
theorem dX6_count_73 : decode cX6_count 73 = .ok (.getfield 10, 3) := by decide +kernel
theorem dX6_count_76 : decode cX6_count 76 = .ok (.getfield 86, 3) := by decide +kernel
theorem dX6_count_79 : decode cX6_count 79 = .ok (.ireturn, 1) := by decide +kernel
theorem dX6_count_80 : decode cX6_count 80 = .ok (.aload_n 0, 1) := by decide +kernel
theorem dX6_count_81 : decode cX6_count 81 = .ok (.getfield 10, 3) := by decide +kernel
theorem dX6_count_84 : decode cX6_count 84 = .ok (.getfield 89, 3) := by decide +kernel
theorem dX6_count_87 : decode cX6_count 87 = .ok (.ireturn, 1) := by decide +kernel
theorem dX6_count_88 : decode cX6_count 88 = .ok (.aload_n 0, 1) := by decide +kernel
theorem dX6_count_89 : decode cX6_count 89 = .ok (.getfield 10, 3) := by decide +kernel
theorem dX6_count_92 : decode cX6_count 92 = .ok (.getfield 92, 3) := by decide +kernel
theorem dX6_count_95 : decode cX6_count 95 = .ok (.ireturn, 1) := by decide +kernel
theorem dX6_count_96 : decode cX6_count 96 = .ok (.aload_n 0, 1) := by decide +kernel
theorem dX6_count_97 : decode cX6_count 97 = .ok (.getfield 10, 3) := by decide +kernel
theorem dX6_count_100 : decode cX6_count 100 = .ok (.getfield 95, 3) := by decide +kernel
theorem dX6_count_103 : decode cX6_count 103 = .ok (.ireturn, 1) := by decide +kernel
theorem dX6_count_104 : decode cX6_count 104 = .ok (.aload_n 0, 1) := by decide +kernel
theorem dX6_count_105 : decode cX6_count 105 = .ok (.getfield 10, 3) := by decide +kernel
theorem dX6_count_108 : decode cX6_count 108 = .ok (.getfield 98, 3) := by decide +kernel
theorem dX6_count_111 : decode cX6_count 111 = .ok (.ireturn, 1) := by decide +kernel
theorem dX6_count_112 : decode cX6_count 112 = .ok (.bipush (-3), 2) := by decide +kernel
theorem dX6_count_114 : decode cX6_count 114 = .ok (.ireturn, 1) := by decide +kernel
theorem dX6_trap_0 : decode cX6_trap 0 = .ok (.aload_n 0, 1) := by decide +kernel
theorem dX6_trap_1 : decode cX6_trap 1 = .ok (.getfield 10, 3) := by decide +kernel
theorem dX6_trap_4 : decode cX6_trap 4 = .ok (.iload_n 1, 1) := by decide +kernel
theorem dX6_trap_5 : decode cX6_trap 5 = .ok (.invokevirtual 101, 3) := by decide +kernel
theorem dX6_trap_8 : decode cX6_trap 8 = .ok (.astore_n 3, 1) := by decide +kernel
theorem dX6_trap_9 : decode cX6_trap 9 = .ok (.aload_n 3, 1) := by decide +kernel
theorem dX6_trap_10 : decode cX6_trap 10 = .ok (.ifnonnull 6, 3) := by decide +kernel
theorem dX6_trap_13 : decode cX6_trap 13 = .ok (.bipush (-2), 2) := by decide +kernel
theorem dX6_trap_15 : decode cX6_trap 15 = .ok (.ireturn, 1) := by decide +kernel
theorem dX6_trap_16 : decode cX6_trap 16 = .ok (.iload_n 2, 1) := by decide +kernel
theorem dX6_trap_17 : decode cX6_trap 17 = .ok (.tableswitch 94 0 7 #[47, 52, 57, 62, 67, 72, 77, 82], 47) := by decide +kernel
theorem dX6_trap_64 : decode cX6_trap 64 = .ok (.aload_n 3, 1) := by decide +kernel
theorem dX6_trap_65 : decode cX6_trap 65 = .ok (.getfield 105, 3) := by decide +kernel
theorem dX6_trap_68 : decode cX6_trap 68 = .ok (.ireturn, 1) := by decide +kernel
theorem dX6_trap_69 : decode cX6_trap 69 = .ok (.aload_n 3, 1) := by decide +kernel
theorem dX6_trap_70 : decode cX6_trap 70 = .ok (.getfield 108, 3) := by decide +kernel
theorem dX6_trap_73 : decode cX6_trap 73 = .ok (.ireturn, 1) := by decide +kernel
theorem dX6_trap_74 : decode cX6_trap 74 = .ok (.aload_n 3, 1) := by decide +kernel
theorem dX6_trap_75 : decode cX6_trap 75 = .ok (.getfield 111, 3) := by decide +kernel
theorem dX6_trap_78 : decode cX6_trap 78 = .ok (.ireturn, 1) := by decide +kernel
theorem dX6_trap_79 : decode cX6_trap 79 = .ok (.aload_n 3, 1) := by decide +kernel
theorem dX6_trap_80 : decode cX6_trap 80 = .ok (.getfield 114, 3) := by decide +kernel
theorem dX6_trap_83 : decode cX6_trap 83 = .ok (.ireturn, 1) := by decide +kernel
theorem dX6_trap_84 : decode cX6_trap 84 = .ok (.aload_n 3, 1) := by decide +kernel
theorem dX6_trap_85 : decode cX6_trap 85 = .ok (.getfield 117, 3) := by decide +kernel
theorem dX6_trap_88 : decode cX6_trap 88 = .ok (.ireturn, 1) := by decide +kernel
theorem dX6_trap_89 : decode cX6_trap 89 = .ok (.aload_n 3, 1) := by decide +kernel
theorem dX6_trap_90 : decode cX6_trap 90 = .ok (.getfield 120, 3) := by decide +kernel
theorem dX6_trap_93 : decode cX6_trap 93 = .ok (.ireturn, 1) := by decide +kernel
theorem dX6_trap_94 : decode cX6_trap 94 = .ok (.aload_n 3, 1) := by decide +kernel
theorem dX6_trap_95 : decode cX6_trap 95 = .ok (.getfield 123, 3) := by decide +kernel
theorem dX6_trap_98 : decode cX6_trap 98 = .ok (.ireturn, 1) := by decide +kernel
theorem dX6_trap_99 : decode cX6_trap 99 = .ok (.aload_n 0, 1) := by decide +kernel
theorem dX6_trap_100 : decode cX6_trap 100 = .ok (.getfield 10, 3) := by decide +kernel
theorem dX6_trap_103 : decode cX6_trap 103 = .ok (.aload_n 3, 1) := by decide +kernel
theorem dX6_trap_104 : decode cX6_trap 104 = .ok (.getfield 105, 3) := by decide +kernel
theorem dX6_trap_107 : decode cX6_trap 107 = .ok (.invokevirtual 126, 3) := by decide +kernel
theorem dX6_trap_110 : decode cX6_trap 110 = .ok (.ireturn, 1) := by decide +kernel
theorem dX6_trap_111 : decode cX6_trap 111 = .ok (.bipush (-3), 2) := by decide +kernel
theorem dX6_trap_113 : decode cX6_trap 113 = .ok (.ireturn, 1) := by decide +kernel
theorem dX6_headerOf_0 : decode cX6_headerOf 0 = .ok (.aload_n 0, 1) := by decide +kernel
theorem dX6_headerOf_1 : decode cX6_headerOf 1 = .ok (.getfield 10, 3) := by decide +kernel
theorem dX6_headerOf_4 : decode cX6_headerOf 4 = .ok (.iload_n 1, 1) := by decide +kernel
theorem dX6_headerOf_5 : decode cX6_headerOf 5 = .ok (.invokevirtual 126, 3) := by decide +kernel
theorem dX6_headerOf_8 : decode cX6_headerOf 8 = .ok (.ireturn, 1) := by decide +kernel
theorem dX6_pressure_0 : decode cX6_pressure 0 = .ok (.aload_n 0, 1) := by decide +kernel
theorem dX6_pressure_1 : decode cX6_pressure 1 = .ok (.getfield 10, 3) := by decide +kernel
theorem dX6_pressure_4 : decode cX6_pressure 4 = .ok (.iload_n 1, 1) := by decide +kernel
theorem dX6_pressure_5 : decode cX6_pressure 5 = .ok (.invokevirtual 130, 3) := by decide +kernel
theorem dX6_pressure_8 : decode cX6_pressure 8 = .ok (.ireturn, 1) := by decide +kernel
theorem dX6_read_0 : decode cX6_read 0 = .ok (.aload_n 0, 1) := by decide +kernel
theorem dX6_read_1 : decode cX6_read 1 = .ok (.iload_n 1, 1) := by decide +kernel
theorem dX6_read_2 : decode cX6_read 2 = .ok (.iload_n 2, 1) := by decide +kernel
theorem dX6_read_3 : decode cX6_read 3 = .ok (.iload_n 3, 1) := by decide +kernel
theorem dX6_read_4 : decode cX6_read 4 = .ok (.iload 4, 2) := by decide +kernel
theorem dX6_read_6 : decode cX6_read 6 = .ok (.invokevirtual 133, 3) := by decide +kernel
theorem dX6_read_9 : decode cX6_read 9 = .ok (.istore 5, 2) := by decide +kernel
theorem dX6_read_11 : decode cX6_read 11 = .ok (.iload 5, 2) := by decide +kernel
theorem dX6_read_13 : decode cX6_read 13 = .ok (.ifCond .ge 6, 3) := by decide +kernel
theorem dX6_read_16 : decode cX6_read 16 = .ok (.iload 5, 2) := by decide +kernel
theorem dX6_read_18 : decode cX6_read 18 = .ok (.ireturn, 1) := by decide +kernel
theorem dX6_read_19 : decode cX6_read 19 = .ok (.aload_n 0, 1) := by decide +kernel
theorem dX6_read_20 : decode cX6_read 20 = .ok (.getfield 19, 3) := by decide +kernel
theorem dX6_read_23 : decode cX6_read 23 = .ok (.aload_n 0, 1) := by decide +kernel
theorem dX6_read_24 : decode cX6_read 24 = .ok (.getfield 10, 3) := by decide +kernel
theorem dX6_read_27 : decode cX6_read 27 = .ok (.invokevirtual 52, 3) := by decide +kernel
theorem dX6_read_30 : decode cX6_read 30 = .ok (.aload_n 0, 1) := by decide +kernel
theorem dX6_read_31 : decode cX6_read 31 = .ok (.getfield 10, 3) := by decide +kernel
theorem dX6_read_34 : decode cX6_read 34 = .ok (.iload_n 1, 1) := by decide +kernel
theorem dX6_read_35 : decode cX6_read 35 = .ok (.iload_n 2, 1) := by decide +kernel
theorem dX6_read_36 : decode cX6_read 36 = .ok (.iload_n 3, 1) := by decide +kernel
theorem dX6_read_37 : decode cX6_read 37 = .ok (.iload 4, 2) := by decide +kernel
theorem dX6_read_39 : decode cX6_read 39 = .ok (.invokevirtual 137, 3) := by decide +kernel
theorem dX6_read_42 : decode cX6_read 42 = .ok (.iload 5, 2) := by decide +kernel
theorem dX6_read_44 : decode cX6_read 44 = .ok (.ireturn, 1) := by decide +kernel
theorem dX6_judge_0 : decode cX6_judge 0 = .ok (.aload_n 0, 1) := by decide +kernel
theorem dX6_judge_1 : decode cX6_judge 1 = .ok (.getfield 10, 3) := by decide +kernel
theorem dX6_judge_4 : decode cX6_judge 4 = .ok (.iload_n 1, 1) := by decide +kernel
theorem dX6_judge_5 : decode cX6_judge 5 = .ok (.invokevirtual 101, 3) := by decide +kernel
theorem dX6_judge_8 : decode cX6_judge 8 = .ok (.astore 5, 2) := by decide +kernel
theorem dX6_judge_10 : decode cX6_judge 10 = .ok (.aload 5, 2) := by decide +kernel
theorem dX6_judge_12 : decode cX6_judge 12 = .ok (.ifnonnull 6, 3) := by decide +kernel
theorem dX6_judge_15 : decode cX6_judge 15 = .ok (.bipush (-2), 2) := by decide +kernel
theorem dX6_judge_17 : decode cX6_judge 17 = .ok (.ireturn, 1) := by decide +kernel
theorem dX6_judge_18 : decode cX6_judge 18 = .ok (.iload_n 2, 1) := by decide +kernel
theorem dX6_judge_19 : decode cX6_judge 19 = .ok (.iconst 0, 1) := by decide +kernel
theorem dX6_judge_20 : decode cX6_judge 20 = .ok (.sipush 300, 3) := by decide +kernel
theorem dX6_judge_23 : decode cX6_judge 23 = .ok (.invokestatic 48, 3) := by decide +kernel
theorem dX6_judge_26 : decode cX6_judge 26 = .ok (.ifCond .eq 25, 3) := by decide +kernel
theorem dX6_judge_29 : decode cX6_judge 29 = .ok (.iload_n 3, 1) := by decide +kernel
theorem dX6_judge_30 : decode cX6_judge 30 = .ok (.iconst 0, 1) := by decide +kernel
theorem dX6_judge_31 : decode cX6_judge 31 = .ok (.sipush 300, 3) := by decide +kernel
theorem dX6_judge_34 : decode cX6_judge 34 = .ok (.invokestatic 48, 3) := by decide +kernel
theorem dX6_judge_37 : decode cX6_judge 37 = .ok (.ifCond .eq 14, 3) := by decide +kernel
theorem dX6_judge_40 : decode cX6_judge 40 = .ok (.iload 4, 2) := by decide +kernel
theorem dX6_judge_42 : decode cX6_judge 42 = .ok (.iconst 0, 1) := by decide +kernel
theorem dX6_judge_43 : decode cX6_judge 43 = .ok (.bipush 60, 2) := by decide +kernel
theorem dX6_judge_45 : decode cX6_judge 45 = .ok (.invokestatic 48, 3) := by decide +kernel
theorem dX6_judge_48 : decode cX6_judge 48 = .ok (.ifCond .ne 6, 3) := by decide +kernel
theorem dX6_judge_51 : decode cX6_judge 51 = .ok (.bipush (-3), 2) := by decide +kernel
theorem dX6_judge_53 : decode cX6_judge 53 = .ok (.ireturn, 1) := by decide +kernel
theorem dX6_judge_54 : decode cX6_judge 54 = .ok (.aload 5, 2) := by decide +kernel
theorem dX6_judge_56 : decode cX6_judge 56 = .ok (.iload_n 2, 1) := by decide +kernel
theorem dX6_judge_57 : decode cX6_judge 57 = .ok (.iload_n 3, 1) := by decide +kernel
theorem dX6_judge_58 : decode cX6_judge 58 = .ok (.iload 4, 2) := by decide +kernel
theorem dX6_judge_60 : decode cX6_judge 60 = .ok (.aload_n 0, 1) := by decide +kernel
theorem dX6_judge_61 : decode cX6_judge 61 = .ok (.getfield 10, 3) := by decide +kernel
theorem dX6_judge_64 : decode cX6_judge 64 = .ok (.aload 5, 2) := by decide +kernel
theorem dX6_judge_66 : decode cX6_judge 66 = .ok (.invokevirtual 141, 3) := by decide +kernel
theorem dX6_judge_69 : decode cX6_judge 69 = .ok (.invokevirtual 145, 3) := by decide +kernel
theorem dX6_judge_72 : decode cX6_judge 72 = .ok (.ireturn, 1) := by decide +kernel
theorem dX6_pass_0 : decode cX6_pass 0 = .ok (.iload_n 1, 1) := by decide +kernel
theorem dX6_pass_1 : decode cX6_pass 1 = .ok (.iconst 1, 1) := by decide +kernel
theorem dX6_pass_2 : decode cX6_pass 2 = .ok (.bipush 100, 2) := by decide +kernel
theorem dX6_pass_4 : decode cX6_pass 4 = .ok (.invokestatic 48, 3) := by decide +kernel
theorem dX6_pass_7 : decode cX6_pass 7 = .ok (.ifCond .ne 6, 3) := by decide +kernel
theorem dX6_pass_10 : decode cX6_pass 10 = .ok (.bipush (-3), 2) := by decide +kernel
theorem dX6_pass_12 : decode cX6_pass 12 = .ok (.ireturn, 1) := by decide +kernel
theorem dX6_pass_13 : decode cX6_pass 13 = .ok (.aload_n 0, 1) := by decide +kernel
theorem dX6_pass_14 : decode cX6_pass 14 = .ok (.getfield 10, 3) := by decide +kernel
theorem dX6_pass_17 : decode cX6_pass 17 = .ok (.getfield 92, 3) := by decide +kernel
theorem dX6_pass_20 : decode cX6_pass 20 = .ok (.iload_n 1, 1) := by decide +kernel
theorem dX6_pass_21 : decode cX6_pass 21 = .ok (.iadd, 1) := by decide +kernel
theorem dX6_pass_22 : decode cX6_pass 22 = .ok (.sipush 10000, 3) := by decide +kernel
theorem dX6_pass_25 : decode cX6_pass 25 = .ok (.if_icmp .le 6, 3) := by decide +kernel
theorem dX6_pass_28 : decode cX6_pass 28 = .ok (.bipush (-5), 2) := by decide +kernel
theorem dX6_pass_30 : decode cX6_pass 30 = .ok (.ireturn, 1) := by decide +kernel
theorem dX6_pass_31 : decode cX6_pass 31 = .ok (.aload_n 0, 1) := by decide +kernel
theorem dX6_pass_32 : decode cX6_pass 32 = .ok (.getfield 19, 3) := by decide +kernel
theorem dX6_pass_35 : decode cX6_pass 35 = .ok (.aload_n 0, 1) := by decide +kernel
theorem dX6_pass_36 : decode cX6_pass 36 = .ok (.getfield 10, 3) := by decide +kernel
theorem dX6_pass_39 : decode cX6_pass 39 = .ok (.invokevirtual 52, 3) := by decide +kernel
theorem dX6_pass_42 : decode cX6_pass 42 = .ok (.aload_n 0, 1) := by decide +kernel
theorem dX6_pass_43 : decode cX6_pass 43 = .ok (.getfield 10, 3) := by decide +kernel
theorem dX6_pass_46 : decode cX6_pass 46 = .ok (.iload_n 1, 1) := by decide +kernel
theorem dX6_pass_47 : decode cX6_pass 47 = .ok (.invokevirtual 148, 3) := by decide +kernel
theorem dX6_pass_50 : decode cX6_pass 50 = .ok (.aload_n 0, 1) := by decide +kernel
theorem dX6_pass_51 : decode cX6_pass 51 = .ok (.getfield 10, 3) := by decide +kernel
theorem dX6_pass_54 : decode cX6_pass 54 = .ok (.getfield 92, 3) := by decide +kernel
theorem dX6_pass_57 : decode cX6_pass 57 = .ok (.ireturn, 1) := by decide +kernel
theorem dX6_inState_0 : decode cX6_inState 0 = .ok (.iload_n 1, 1) := by decide +kernel
theorem dX6_inState_1 : decode cX6_inState 1 = .ok (.iconst 0, 1) := by decide +kernel
theorem dX6_inState_2 : decode cX6_inState 2 = .ok (.iconst 5, 1) := by decide +kernel
theorem dX6_inState_3 : decode cX6_inState 3 = .ok (.invokestatic 48, 3) := by decide +kernel
theorem dX6_inState_6 : decode cX6_inState 6 = .ok (.ifCond .ne 6, 3) := by decide +kernel
theorem dX6_inState_9 : decode cX6_inState 9 = .ok (.bipush (-3), 2) := by decide +kernel
theorem dX6_inState_11 : decode cX6_inState 11 = .ok (.ireturn, 1) := by decide +kernel
theorem dX6_inState_12 : decode cX6_inState 12 = .ok (.aload_n 0, 1) := by decide +kernel
theorem dX6_inState_13 : decode cX6_inState 13 = .ok (.getfield 10, 3) := by decide +kernel
theorem dX6_inState_16 : decode cX6_inState 16 = .ok (.iload_n 1, 1) := by decide +kernel
theorem dX6_inState_17 : decode cX6_inState 17 = .ok (.invokevirtual 152, 3) := by decide +kernel
theorem dX6_inState_20 : decode cX6_inState 20 = .ok (.ireturn, 1) := by decide +kernel
theorem dX6_loss_0 : decode cX6_loss 0 = .ok (.aload_n 0, 1) := by decide +kernel
theorem dX6_loss_1 : decode cX6_loss 1 = .ok (.getfield 10, 3) := by decide +kernel
theorem dX6_loss_4 : decode cX6_loss 4 = .ok (.iload_n 1, 1) := by decide +kernel
theorem dX6_loss_5 : decode cX6_loss 5 = .ok (.invokevirtual 101, 3) := by decide +kernel
theorem dX6_loss_8 : decode cX6_loss 8 = .ok (.astore_n 2, 1) := by decide +kernel
theorem dX6_loss_9 : decode cX6_loss 9 = .ok (.aload_n 2, 1) := by decide +kernel
theorem dX6_loss_10 : decode cX6_loss 10 = .ok (.ifnonnull 8, 3) := by decide +kernel
theorem dX6_loss_13 : decode cX6_loss 13 = .ok (.bipush (-2), 2) := by decide +kernel
theorem dX6_loss_15 : decode cX6_loss 15 = .ok (.goto 11, 3) := by decide +kernel
theorem dX6_loss_18 : decode cX6_loss 18 = .ok (.aload_n 0, 1) := by decide +kernel
theorem dX6_loss_19 : decode cX6_loss 19 = .ok (.getfield 10, 3) := by decide +kernel
theorem dX6_loss_22 : decode cX6_loss 22 = .ok (.aload_n 2, 1) := by decide +kernel
theorem dX6_loss_23 : decode cX6_loss 23 = .ok (.invokevirtual 155, 3) := by decide +kernel
theorem dX6_loss_26 : decode cX6_loss 26 = .ok (.ireturn, 1) := by decide +kernel
theorem dX6_lineLoss_0 : decode cX6_lineLoss 0 = .ok (.aload_n 0, 1) := by decide +kernel
theorem dX6_lineLoss_1 : decode cX6_lineLoss 1 = .ok (.getfield 10, 3) := by decide +kernel
theorem dX6_lineLoss_4 : decode cX6_lineLoss 4 = .ok (.iload_n 1, 1) := by decide +kernel
theorem dX6_lineLoss_5 : decode cX6_lineLoss 5 = .ok (.invokevirtual 67, 3) := by decide +kernel
theorem dX6_lineLoss_8 : decode cX6_lineLoss 8 = .ok (.ifCond .eq 14, 3) := by decide +kernel
theorem dX6_lineLoss_11 : decode cX6_lineLoss 11 = .ok (.aload_n 0, 1) := by decide +kernel
theorem dX6_lineLoss_12 : decode cX6_lineLoss 12 = .ok (.getfield 10, 3) := by decide +kernel
theorem dX6_lineLoss_15 : decode cX6_lineLoss 15 = .ok (.iload_n 1, 1) := by decide +kernel
theorem dX6_lineLoss_16 : decode cX6_lineLoss 16 = .ok (.invokevirtual 158, 3) := by decide +kernel
theorem dX6_lineLoss_19 : decode cX6_lineLoss 19 = .ok (.goto 5, 3) := by decide +kernel
theorem dX6_lineLoss_22 : decode cX6_lineLoss 22 = .ok (.bipush (-2), 2) := by decide +kernel
theorem dX6_lineLoss_24 : decode cX6_lineLoss 24 = .ok (.ireturn, 1) := by decide +kernel
theorem dX6_headerLoss_0 : decode cX6_headerLoss 0 = .ok (.aload_n 0, 1) := by decide +kernel
theorem dX6_headerLoss_1 : decode cX6_headerLoss 1 = .ok (.getfield 10, 3) := by decide +kernel
theorem dX6_headerLoss_4 : decode cX6_headerLoss 4 = .ok (.iload_n 1, 1) := by decide +kernel
theorem dX6_headerLoss_5 : decode cX6_headerLoss 5 = .ok (.invokevirtual 44, 3) := by decide +kernel
theorem dX6_headerLoss_8 : decode cX6_headerLoss 8 = .ok (.ifCond .eq 14, 3) := by decide +kernel
theorem dX6_headerLoss_11 : decode cX6_headerLoss 11 = .ok (.aload_n 0, 1) := by decide +kernel
theorem dX6_headerLoss_12 : decode cX6_headerLoss 12 = .ok (.getfield 10, 3) := by decide +kernel
theorem dX6_headerLoss_15 : decode cX6_headerLoss 15 = .ok (.iload_n 1, 1) := by decide +kernel
theorem dX6_headerLoss_16 : decode cX6_headerLoss 16 = .ok (.invokevirtual 161, 3) := by decide +kernel
theorem dX6_headerLoss_19 : decode cX6_headerLoss 19 = .ok (.goto 5, 3) := by decide +kernel
theorem dX6_headerLoss_22 : decode cX6_headerLoss 22 = .ok (.bipush (-2), 2) := by decide +kernel
theorem dX6_headerLoss_24 : decode cX6_headerLoss 24 = .ok (.ireturn, 1) := by decide +kernel
theorem dX6_lost_0 : decode cX6_lost 0 = .ok (.iload_n 1, 1) := by decide +kernel
theorem dX6_lost_1 : decode cX6_lost 1 = .ok (.iconst (-1), 1) := by decide +kernel
theorem dX6_lost_2 : decode cX6_lost 2 = .ok (.if_icmp .ne 11, 3) := by decide +kernel
theorem dX6_lost_5 : decode cX6_lost 5 = .ok (.aload_n 0, 1) := by decide +kernel
theorem dX6_lost_6 : decode cX6_lost 6 = .ok (.getfield 10, 3) := by decide +kernel
theorem dX6_lost_9 : decode cX6_lost 9 = .ok (.invokevirtual 164, 3) := by decide +kernel
theorem dX6_lost_12 : decode cX6_lost 12 = .ok (.lreturn, 1) := by decide +kernel
theorem dX6_lost_13 : decode cX6_lost 13 = .ok (.aload_n 0, 1) := by decide +kernel
theorem dX6_lost_14 : decode cX6_lost 14 = .ok (.getfield 10, 3) := by decide +kernel
theorem dX6_lost_17 : decode cX6_lost 17 = .ok (.iload_n 1, 1) := by decide +kernel
theorem dX6_lost_18 : decode cX6_lost 18 = .ok (.invokevirtual 101, 3) := by decide +kernel
theorem dX6_lost_21 : decode cX6_lost 21 = .ok (.astore_n 2, 1) := by decide +kernel
theorem dX6_lost_22 : decode cX6_lost 22 = .ok (.aload_n 2, 1) := by decide +kernel
theorem dX6_lost_23 : decode cX6_lost 23 = .ok (.ifnonnull 9, 3) := by decide +kernel
theorem dX6_lost_26 : decode cX6_lost 26 = .ok (.ldc2_w 168, 3) := by decide +kernel
theorem dX6_lost_29 : decode cX6_lost 29 = .ok (.goto 7, 3) := by decide +kernel
theorem dX6_lost_32 : decode cX6_lost 32 = .ok (.aload_n 2, 1) := by decide +kernel
theorem dX6_lost_33 : decode cX6_lost 33 = .ok (.getfield 170, 3) := by decide +kernel
theorem dX6_lost_36 : decode cX6_lost 36 = .ok (.lreturn, 1) := by decide +kernel
theorem dX6_saves_0 : decode cX6_saves 0 = .ok (.aload_n 0, 1) := by decide +kernel
theorem dX6_saves_1 : decode cX6_saves 1 = .ok (.getfield 10, 3) := by decide +kernel
theorem dX6_saves_4 : decode cX6_saves 4 = .ok (.iload_n 1, 1) := by decide +kernel
theorem dX6_saves_5 : decode cX6_saves 5 = .ok (.invokevirtual 101, 3) := by decide +kernel
theorem dX6_saves_8 : decode cX6_saves 8 = .ok (.astore_n 2, 1) := by decide +kernel
theorem dX6_saves_9 : decode cX6_saves 9 = .ok (.aload_n 2, 1) := by decide +kernel
theorem dX6_saves_10 : decode cX6_saves 10 = .ok (.ifnonnull 9, 3) := by decide +kernel
theorem dX6_saves_13 : decode cX6_saves 13 = .ok (.ldc2_w 168, 3) := by decide +kernel
theorem dX6_saves_16 : decode cX6_saves 16 = .ok (.goto 22, 3) := by decide +kernel
theorem dX6_saves_19 : decode cX6_saves 19 = .ok (.aload_n 0, 1) := by decide +kernel
theorem dX6_saves_20 : decode cX6_saves 20 = .ok (.getfield 10, 3) := by decide +kernel
theorem dX6_saves_23 : decode cX6_saves 23 = .ok (.aload_n 0, 1) := by decide +kernel
theorem dX6_saves_24 : decode cX6_saves 24 = .ok (.getfield 10, 3) := by decide +kernel
theorem dX6_saves_27 : decode cX6_saves 27 = .ok (.aload_n 2, 1) := by decide +kernel
theorem dX6_saves_28 : decode cX6_saves 28 = .ok (.invokevirtual 155, 3) := by decide +kernel
theorem dX6_saves_31 : decode cX6_saves 31 = .ok (.invokevirtual 174, 3) := by decide +kernel
theorem dX6_saves_34 : decode cX6_saves 34 = .ok (.ldc2_w 178, 3) := by decide +kernel
theorem dX6_saves_37 : decode cX6_saves 37 = .ok (.ldiv, 1) := by decide +kernel
theorem dX6_saves_38 : decode cX6_saves 38 = .ok (.lreturn, 1) := by decide +kernel
theorem dX6_repairCost_0 : decode cX6_repairCost 0 = .ok (.aload_n 0, 1) := by decide +kernel
theorem dX6_repairCost_1 : decode cX6_repairCost 1 = .ok (.getfield 10, 3) := by decide +kernel
theorem dX6_repairCost_4 : decode cX6_repairCost 4 = .ok (.iload_n 1, 1) := by decide +kernel
theorem dX6_repairCost_5 : decode cX6_repairCost 5 = .ok (.invokevirtual 101, 3) := by decide +kernel
theorem dX6_repairCost_8 : decode cX6_repairCost 8 = .ok (.astore_n 2, 1) := by decide +kernel
theorem dX6_repairCost_9 : decode cX6_repairCost 9 = .ok (.aload_n 2, 1) := by decide +kernel
theorem dX6_repairCost_10 : decode cX6_repairCost 10 = .ok (.ifnonnull 8, 3) := by decide +kernel
theorem dX6_repairCost_13 : decode cX6_repairCost 13 = .ok (.bipush (-2), 2) := by decide +kernel
theorem dX6_repairCost_15 : decode cX6_repairCost 15 = .ok (.goto 7, 3) := by decide +kernel
theorem dX6_repairCost_18 : decode cX6_repairCost 18 = .ok (.aload_n 2, 1) := by decide +kernel
theorem dX6_repairCost_19 : decode cX6_repairCost 19 = .ok (.invokevirtual 180, 3) := by decide +kernel
theorem dX6_repairCost_22 : decode cX6_repairCost 22 = .ok (.ireturn, 1) := by decide +kernel
theorem dX6_payback_0 : decode cX6_payback 0 = .ok (.aload_n 0, 1) := by decide +kernel
theorem dX6_payback_1 : decode cX6_payback 1 = .ok (.getfield 10, 3) := by decide +kernel
theorem dX6_payback_4 : decode cX6_payback 4 = .ok (.iload_n 1, 1) := by decide +kernel
theorem dX6_payback_5 : decode cX6_payback 5 = .ok (.invokevirtual 101, 3) := by decide +kernel
theorem dX6_payback_8 : decode cX6_payback 8 = .ok (.astore_n 2, 1) := by decide +kernel
theorem dX6_payback_9 : decode cX6_payback 9 = .ok (.aload_n 2, 1) := by decide +kernel
theorem dX6_payback_10 : decode cX6_payback 10 = .ok (.ifnonnull 9, 3) := by decide +kernel
theorem dX6_payback_13 : decode cX6_payback 13 = .ok (.ldc2_w 168, 3) := by decide +kernel
theorem dX6_payback_16 : decode cX6_payback 16 = .ok (.goto 11, 3) := by decide +kernel
theorem dX6_payback_19 : decode cX6_payback 19 = .ok (.aload_n 0, 1) := by decide +kernel
theorem dX6_payback_20 : decode cX6_payback 20 = .ok (.getfield 10, 3) := by decide +kernel
theorem dX6_payback_23 : decode cX6_payback 23 = .ok (.aload_n 2, 1) := by decide +kernel
theorem dX6_payback_24 : decode cX6_payback 24 = .ok (.invokevirtual 184, 3) := by decide +kernel
theorem dX6_payback_27 : decode cX6_payback 27 = .ok (.lreturn, 1) := by decide +kernel
theorem dX6_order_0 : decode cX6_order 0 = .ok (.iload_n 1, 1) := by decide +kernel
theorem dX6_order_1 : decode cX6_order 1 = .ok (.ifCond .ge 6, 3) := by decide +kernel
theorem dX6_order_4 : decode cX6_order 4 = .ok (.bipush (-3), 2) := by decide +kernel
theorem dX6_order_6 : decode cX6_order 6 = .ok (.ireturn, 1) := by decide +kernel
theorem dX6_order_7 : decode cX6_order 7 = .ok (.aload_n 0, 1) := by decide +kernel
theorem dX6_order_8 : decode cX6_order 8 = .ok (.getfield 26, 3) := by decide +kernel
theorem dX6_order_11 : decode cX6_order 11 = .ok (.aload_n 0, 1) := by decide +kernel
theorem dX6_order_12 : decode cX6_order 12 = .ok (.getfield 10, 3) := by decide +kernel
theorem dX6_order_15 : decode cX6_order 15 = .ok (.invokevirtual 188, 3) := by decide +kernel
theorem dX6_order_18 : decode cX6_order 18 = .ok (.aload_n 0, 1) := by decide +kernel
theorem dX6_order_19 : decode cX6_order 19 = .ok (.getfield 26, 3) := by decide +kernel
theorem dX6_order_22 : decode cX6_order 22 = .ok (.iload_n 1, 1) := by decide +kernel
theorem dX6_order_23 : decode cX6_order 23 = .ok (.invokevirtual 191, 3) := by decide +kernel
theorem dX6_order_26 : decode cX6_order 26 = .ok (.ireturn, 1) := by decide +kernel
theorem dX6_repair_0 : decode cX6_repair 0 = .ok (.aload_n 0, 1) := by decide +kernel
theorem dX6_repair_1 : decode cX6_repair 1 = .ok (.getfield 10, 3) := by decide +kernel
theorem dX6_repair_4 : decode cX6_repair 4 = .ok (.iload_n 1, 1) := by decide +kernel
theorem dX6_repair_5 : decode cX6_repair 5 = .ok (.invokevirtual 101, 3) := by decide +kernel
theorem dX6_repair_8 : decode cX6_repair 8 = .ok (.astore_n 2, 1) := by decide +kernel
theorem dX6_repair_9 : decode cX6_repair 9 = .ok (.aload_n 2, 1) := by decide +kernel
theorem dX6_repair_10 : decode cX6_repair 10 = .ok (.ifnonnull 6, 3) := by decide +kernel
theorem dX6_repair_13 : decode cX6_repair 13 = .ok (.bipush (-2), 2) := by decide +kernel
theorem dX6_repair_15 : decode cX6_repair 15 = .ok (.ireturn, 1) := by decide +kernel
theorem dX6_repair_16 : decode cX6_repair 16 = .ok (.aload_n 2, 1) := by decide +kernel
theorem dX6_repair_17 : decode cX6_repair 17 = .ok (.getfield 120, 3) := by decide +kernel
theorem dX6_repair_20 : decode cX6_repair 20 = .ok (.ifCond .eq 11, 3) := by decide +kernel
theorem dX6_repair_23 : decode cX6_repair 23 = .ok (.aload_n 2, 1) := by decide +kernel
theorem dX6_repair_24 : decode cX6_repair 24 = .ok (.getfield 120, 3) := by decide +kernel
theorem dX6_repair_27 : decode cX6_repair 27 = .ok (.iconst 1, 1) := by decide +kernel
theorem dX6_repair_28 : decode cX6_repair 28 = .ok (.if_icmp .ne 6, 3) := by decide +kernel
theorem dX6_repair_31 : decode cX6_repair 31 = .ok (.bipush (-4), 2) := by decide +kernel
theorem dX6_repair_33 : decode cX6_repair 33 = .ok (.ireturn, 1) := by decide +kernel
theorem dX6_repair_34 : decode cX6_repair 34 = .ok (.aload_n 0, 1) := by decide +kernel
theorem dX6_repair_35 : decode cX6_repair 35 = .ok (.getfield 19, 3) := by decide +kernel
theorem dX6_repair_38 : decode cX6_repair 38 = .ok (.aload_n 0, 1) := by decide +kernel
theorem dX6_repair_39 : decode cX6_repair 39 = .ok (.getfield 10, 3) := by decide +kernel
theorem dX6_repair_42 : decode cX6_repair 42 = .ok (.invokevirtual 52, 3) := by decide +kernel
theorem dX6_repair_45 : decode cX6_repair 45 = .ok (.aload_n 0, 1) := by decide +kernel
theorem dX6_repair_46 : decode cX6_repair 46 = .ok (.getfield 10, 3) := by decide +kernel
theorem dX6_repair_49 : decode cX6_repair 49 = .ok (.aload_n 2, 1) := by decide +kernel
theorem dX6_repair_50 : decode cX6_repair 50 = .ok (.invokevirtual 194, 3) := by decide +kernel
theorem dX6_repair_53 : decode cX6_repair 53 = .ok (.aload_n 2, 1) := by decide +kernel
theorem dX6_repair_54 : decode cX6_repair 54 = .ok (.invokevirtual 180, 3) := by decide +kernel
theorem dX6_repair_57 : decode cX6_repair 57 = .ok (.ireturn, 1) := by decide +kernel
theorem dX6_repairAll_0 : decode cX6_repairAll 0 = .ok (.iload_n 1, 1) := by decide +kernel
theorem dX6_repairAll_1 : decode cX6_repairAll 1 = .ok (.iconst 0, 1) := by decide +kernel
theorem dX6_repairAll_2 : decode cX6_repairAll 2 = .ok (.sipush 10000, 3) := by decide +kernel
theorem dX6_repairAll_5 : decode cX6_repairAll 5 = .ok (.invokestatic 48, 3) := by decide +kernel
theorem dX6_repairAll_8 : decode cX6_repairAll 8 = .ok (.ifCond .ne 6, 3) := by decide +kernel
theorem dX6_repairAll_11 : decode cX6_repairAll 11 = .ok (.bipush (-3), 2) := by decide +kernel
theorem dX6_repairAll_13 : decode cX6_repairAll 13 = .ok (.ireturn, 1) := by decide +kernel
theorem dX6_repairAll_14 : decode cX6_repairAll 14 = .ok (.aload_n 0, 1) := by decide +kernel
theorem dX6_repairAll_15 : decode cX6_repairAll 15 = .ok (.getfield 19, 3) := by decide +kernel
theorem dX6_repairAll_18 : decode cX6_repairAll 18 = .ok (.aload_n 0, 1) := by decide +kernel
theorem dX6_repairAll_19 : decode cX6_repairAll 19 = .ok (.getfield 10, 3) := by decide +kernel
theorem dX6_repairAll_22 : decode cX6_repairAll 22 = .ok (.invokevirtual 52, 3) := by decide +kernel
theorem dX6_repairAll_25 : decode cX6_repairAll 25 = .ok (.aload_n 0, 1) := by decide +kernel
theorem dX6_repairAll_26 : decode cX6_repairAll 26 = .ok (.getfield 26, 3) := by decide +kernel
theorem dX6_repairAll_29 : decode cX6_repairAll 29 = .ok (.aload_n 0, 1) := by decide +kernel
theorem dX6_repairAll_30 : decode cX6_repairAll 30 = .ok (.getfield 10, 3) := by decide +kernel
theorem dX6_repairAll_33 : decode cX6_repairAll 33 = .ok (.invokevirtual 188, 3) := by decide +kernel
theorem dX6_repairAll_36 : decode cX6_repairAll 36 = .ok (.iload_n 1, 1) := by decide +kernel
theorem dX6_repairAll_37 : decode cX6_repairAll 37 = .ok (.istore_n 2, 1) := by decide +kernel
theorem dX6_repairAll_38 : decode cX6_repairAll 38 = .ok (.iconst 0, 1) := by decide +kernel
theorem dX6_repairAll_39 : decode cX6_repairAll 39 = .ok (.istore_n 3, 1) := by decide +kernel
theorem dX6_repairAll_40 : decode cX6_repairAll 40 = .ok (.iconst 0, 1) := by decide +kernel
theorem dX6_repairAll_41 : decode cX6_repairAll 41 = .ok (.istore 4, 2) := by decide +kernel
theorem dX6_repairAll_43 : decode cX6_repairAll 43 = .ok (.iload 4, 2) := by decide +kernel
theorem dX6_repairAll_45 : decode cX6_repairAll 45 = .ok (.bipush 16, 2) := by decide +kernel
theorem dX6_repairAll_47 : decode cX6_repairAll 47 = .ok (.if_icmp .ge 64, 3) := by decide +kernel
theorem dX6_repairAll_50 : decode cX6_repairAll 50 = .ok (.aload_n 0, 1) := by decide +kernel
theorem dX6_repairAll_51 : decode cX6_repairAll 51 = .ok (.getfield 10, 3) := by decide +kernel
theorem dX6_repairAll_54 : decode cX6_repairAll 54 = .ok (.aload_n 0, 1) := by decide +kernel
theorem dX6_repairAll_55 : decode cX6_repairAll 55 = .ok (.getfield 26, 3) := by decide +kernel
theorem dX6_repairAll_58 : decode cX6_repairAll 58 = .ok (.iload 4, 2) := by decide +kernel
theorem dX6_repairAll_60 : decode cX6_repairAll 60 = .ok (.invokevirtual 191, 3) := by decide +kernel
theorem dX6_repairAll_63 : decode cX6_repairAll 63 = .ok (.invokevirtual 101, 3) := by decide +kernel
theorem dX6_repairAll_66 : decode cX6_repairAll 66 = .ok (.astore 5, 2) := by decide +kernel
theorem dX6_repairAll_68 : decode cX6_repairAll 68 = .ok (.aload 5, 2) := by decide +kernel
theorem dX6_repairAll_70 : decode cX6_repairAll 70 = .ok (.ifnull 41, 3) := by decide +kernel
theorem dX6_repairAll_73 : decode cX6_repairAll 73 = .ok (.aload 5, 2) := by decide +kernel
theorem dX6_repairAll_75 : decode cX6_repairAll 75 = .ok (.invokevirtual 180, 3) := by decide +kernel
theorem dX6_repairAll_78 : decode cX6_repairAll 78 = .ok (.iload_n 2, 1) := by decide +kernel
theorem dX6_repairAll_79 : decode cX6_repairAll 79 = .ok (.if_icmp .le 6, 3) := by decide +kernel
theorem dX6_repairAll_82 : decode cX6_repairAll 82 = .ok (.goto 29, 3) := by decide +kernel
theorem dX6_repairAll_85 : decode cX6_repairAll 85 = .ok (.iload_n 2, 1) := by decide +kernel
theorem dX6_repairAll_86 : decode cX6_repairAll 86 = .ok (.aload 5, 2) := by decide +kernel
theorem dX6_repairAll_88 : decode cX6_repairAll 88 = .ok (.invokevirtual 180, 3) := by decide +kernel
theorem dX6_repairAll_91 : decode cX6_repairAll 91 = .ok (.isub, 1) := by decide +kernel
theorem dX6_repairAll_92 : decode cX6_repairAll 92 = .ok (.istore_n 2, 1) := by decide +kernel
theorem dX6_repairAll_93 : decode cX6_repairAll 93 = .ok (.aload_n 0, 1) := by decide +kernel
theorem dX6_repairAll_94 : decode cX6_repairAll 94 = .ok (.getfield 10, 3) := by decide +kernel
theorem dX6_repairAll_97 : decode cX6_repairAll 97 = .ok (.aload 5, 2) := by decide +kernel
theorem dX6_repairAll_99 : decode cX6_repairAll 99 = .ok (.invokevirtual 194, 3) := by decide +kernel
theorem dX6_repairAll_102 : decode cX6_repairAll 102 = .ok (.iinc 3 1, 3) := by decide +kernel
theorem dX6_repairAll_105 : decode cX6_repairAll 105 = .ok (.iinc 4 1, 3) := by decide +kernel
theorem dX6_repairAll_108 : decode cX6_repairAll 108 = .ok (.goto (-65), 3) := by decide +kernel
theorem dX6_repairAll_111 : decode cX6_repairAll 111 = .ok (.iload_n 3, 1) := by decide +kernel
theorem dX6_repairAll_112 : decode cX6_repairAll 112 = .ok (.ireturn, 1) := by decide +kernel
theorem dX6_isDue_0 : decode cX6_isDue 0 = .ok (.aload_n 0, 1) := by decide +kernel
theorem dX6_isDue_1 : decode cX6_isDue 1 = .ok (.getfield 10, 3) := by decide +kernel
theorem dX6_isDue_4 : decode cX6_isDue 4 = .ok (.iload_n 1, 1) := by decide +kernel
theorem dX6_isDue_5 : decode cX6_isDue 5 = .ok (.invokevirtual 101, 3) := by decide +kernel
theorem dX6_isDue_8 : decode cX6_isDue 8 = .ok (.astore_n 2, 1) := by decide +kernel
theorem dX6_isDue_9 : decode cX6_isDue 9 = .ok (.aload_n 2, 1) := by decide +kernel
theorem dX6_isDue_10 : decode cX6_isDue 10 = .ok (.ifnonnull 6, 3) := by decide +kernel
theorem dX6_isDue_13 : decode cX6_isDue 13 = .ok (.bipush (-2), 2) := by decide +kernel
theorem dX6_isDue_15 : decode cX6_isDue 15 = .ok (.ireturn, 1) := by decide +kernel
theorem dX6_isDue_16 : decode cX6_isDue 16 = .ok (.aload_n 0, 1) := by decide +kernel
theorem dX6_isDue_17 : decode cX6_isDue 17 = .ok (.getfield 10, 3) := by decide +kernel
theorem dX6_isDue_20 : decode cX6_isDue 20 = .ok (.aload_n 2, 1) := by decide +kernel
theorem dX6_isDue_21 : decode cX6_isDue 21 = .ok (.invokevirtual 198, 3) := by decide +kernel
theorem dX6_isDue_24 : decode cX6_isDue 24 = .ok (.ifCond .eq 7, 3) := by decide +kernel
theorem dX6_isDue_27 : decode cX6_isDue 27 = .ok (.iconst 1, 1) := by decide +kernel
theorem dX6_isDue_28 : decode cX6_isDue 28 = .ok (.goto 4, 3) := by decide +kernel
theorem dX6_isDue_31 : decode cX6_isDue 31 = .ok (.iconst 0, 1) := by decide +kernel
theorem dX6_isDue_32 : decode cX6_isDue 32 = .ok (.ireturn, 1) := by decide +kernel
theorem dX6_round_0 : decode cX6_round 0 = .ok (.iload_n 1, 1) := by decide +kernel
theorem dX6_round_1 : decode cX6_round 1 = .ok (.ifCond .ge 6, 3) := by decide +kernel
theorem dX6_round_4 : decode cX6_round 4 = .ok (.bipush (-3), 2) := by decide +kernel
theorem dX6_round_6 : decode cX6_round 6 = .ok (.ireturn, 1) := by decide +kernel
theorem dX6_round_7 : decode cX6_round 7 = .ok (.aload_n 0, 1) := by decide +kernel
theorem dX6_round_8 : decode cX6_round 8 = .ok (.getfield 33, 3) := by decide +kernel
theorem dX6_round_11 : decode cX6_round 11 = .ok (.aload_n 0, 1) := by decide +kernel
theorem dX6_round_12 : decode cX6_round 12 = .ok (.getfield 10, 3) := by decide +kernel
theorem dX6_round_15 : decode cX6_round 15 = .ok (.invokevirtual 202, 3) := by decide +kernel
theorem dX6_round_18 : decode cX6_round 18 = .ok (.aload_n 0, 1) := by decide +kernel
theorem dX6_round_19 : decode cX6_round 19 = .ok (.getfield 33, 3) := by decide +kernel
theorem dX6_round_22 : decode cX6_round 22 = .ok (.iload_n 1, 1) := by decide +kernel
theorem dX6_round_23 : decode cX6_round 23 = .ok (.invokevirtual 205, 3) := by decide +kernel
theorem dX6_round_26 : decode cX6_round 26 = .ok (.ireturn, 1) := by decide +kernel
theorem dX6_roundLength_0 : decode cX6_roundLength 0 = .ok (.aload_n 0, 1) := by decide +kernel
theorem dX6_roundLength_1 : decode cX6_roundLength 1 = .ok (.getfield 33, 3) := by decide +kernel
theorem dX6_roundLength_4 : decode cX6_roundLength 4 = .ok (.aload_n 0, 1) := by decide +kernel
theorem dX6_roundLength_5 : decode cX6_roundLength 5 = .ok (.getfield 10, 3) := by decide +kernel
theorem dX6_roundLength_8 : decode cX6_roundLength 8 = .ok (.invokevirtual 202, 3) := by decide +kernel
theorem dX6_roundLength_11 : decode cX6_roundLength 11 = .ok (.aload_n 0, 1) := by decide +kernel
theorem dX6_roundLength_12 : decode cX6_roundLength 12 = .ok (.getfield 33, 3) := by decide +kernel
theorem dX6_roundLength_15 : decode cX6_roundLength 15 = .ok (.getfield 208, 3) := by decide +kernel
theorem dX6_roundLength_18 : decode cX6_roundLength 18 = .ok (.ireturn, 1) := by decide +kernel
theorem dX6_dueOn_0 : decode cX6_dueOn 0 = .ok (.aload_n 0, 1) := by decide +kernel
theorem dX6_dueOn_1 : decode cX6_dueOn 1 = .ok (.getfield 10, 3) := by decide +kernel
theorem dX6_dueOn_4 : decode cX6_dueOn 4 = .ok (.iload_n 1, 1) := by decide +kernel
theorem dX6_dueOn_5 : decode cX6_dueOn 5 = .ok (.invokevirtual 101, 3) := by decide +kernel
theorem dX6_dueOn_8 : decode cX6_dueOn 8 = .ok (.astore_n 2, 1) := by decide +kernel
theorem dX6_dueOn_9 : decode cX6_dueOn 9 = .ok (.aload_n 2, 1) := by decide +kernel
theorem dX6_dueOn_10 : decode cX6_dueOn 10 = .ok (.ifnonnull 6, 3) := by decide +kernel
theorem dX6_dueOn_13 : decode cX6_dueOn 13 = .ok (.bipush (-2), 2) := by decide +kernel
theorem dX6_dueOn_15 : decode cX6_dueOn 15 = .ok (.ireturn, 1) := by decide +kernel
theorem dX6_dueOn_16 : decode cX6_dueOn 16 = .ok (.aload_n 0, 1) := by decide +kernel
theorem dX6_dueOn_17 : decode cX6_dueOn 17 = .ok (.getfield 10, 3) := by decide +kernel
theorem dX6_dueOn_20 : decode cX6_dueOn 20 = .ok (.aload_n 2, 1) := by decide +kernel
theorem dX6_dueOn_21 : decode cX6_dueOn 21 = .ok (.invokevirtual 198, 3) := by decide +kernel
theorem dX6_dueOn_24 : decode cX6_dueOn 24 = .ok (.ifCond .eq 13, 3) := by decide +kernel
theorem dX6_dueOn_27 : decode cX6_dueOn 27 = .ok (.aload_n 0, 1) := by decide +kernel
theorem dX6_dueOn_28 : decode cX6_dueOn 28 = .ok (.getfield 10, 3) := by decide +kernel
theorem dX6_dueOn_31 : decode cX6_dueOn 31 = .ok (.getfield 92, 3) := by decide +kernel
theorem dX6_dueOn_34 : decode cX6_dueOn 34 = .ok (.goto 15, 3) := by decide +kernel
theorem dX6_dueOn_37 : decode cX6_dueOn 37 = .ok (.aload_n 2, 1) := by decide +kernel
theorem dX6_dueOn_38 : decode cX6_dueOn 38 = .ok (.getfield 123, 3) := by decide +kernel
theorem dX6_dueOn_41 : decode cX6_dueOn 41 = .ok (.aload_n 0, 1) := by decide +kernel
theorem dX6_dueOn_42 : decode cX6_dueOn 42 = .ok (.getfield 10, 3) := by decide +kernel
theorem dX6_dueOn_45 : decode cX6_dueOn 45 = .ok (.getfield 89, 3) := by decide +kernel
theorem dX6_dueOn_48 : decode cX6_dueOn 48 = .ok (.iadd, 1) := by decide +kernel
theorem dX6_dueOn_49 : decode cX6_dueOn 49 = .ok (.ireturn, 1) := by decide +kernel
theorem dX6_undo_0 : decode cX6_undo 0 = .ok (.aload_n 0, 1) := by decide +kernel
theorem dX6_undo_1 : decode cX6_undo 1 = .ok (.getfield 19, 3) := by decide +kernel
theorem dX6_undo_4 : decode cX6_undo 4 = .ok (.aload_n 0, 1) := by decide +kernel
theorem dX6_undo_5 : decode cX6_undo 5 = .ok (.getfield 10, 3) := by decide +kernel
theorem dX6_undo_8 : decode cX6_undo 8 = .ok (.invokevirtual 211, 3) := by decide +kernel
theorem dX6_undo_11 : decode cX6_undo 11 = .ok (.ifCond .eq 13, 3) := by decide +kernel
theorem dX6_undo_14 : decode cX6_undo 14 = .ok (.aload_n 0, 1) := by decide +kernel
theorem dX6_undo_15 : decode cX6_undo 15 = .ok (.getfield 19, 3) := by decide +kernel
theorem dX6_undo_18 : decode cX6_undo 18 = .ok (.getfield 215, 3) := by decide +kernel
theorem dX6_undo_21 : decode cX6_undo 21 = .ok (.goto 5, 3) := by decide +kernel
theorem dX6_undo_24 : decode cX6_undo 24 = .ok (.bipush (-4), 2) := by decide +kernel
theorem dX6_undo_26 : decode cX6_undo 26 = .ok (.ireturn, 1) := by decide +kernel
theorem dX6_type_0 : decode cX6_type 0 = .ok (.iload_n 1, 1) := by decide +kernel
theorem dX6_type_1 : decode cX6_type 1 = .ok (.iconst 0, 1) := by decide +kernel
theorem dX6_type_2 : decode cX6_type 2 = .ok (.sipush 255, 3) := by decide +kernel
theorem dX6_type_5 : decode cX6_type 5 = .ok (.invokestatic 48, 3) := by decide +kernel
theorem dX6_type_8 : decode cX6_type 8 = .ok (.ifCond .ne 6, 3) := by decide +kernel
theorem dX6_type_11 : decode cX6_type 11 = .ok (.bipush (-3), 2) := by decide +kernel
theorem dX6_type_13 : decode cX6_type 13 = .ok (.ireturn, 1) := by decide +kernel
theorem dX6_type_14 : decode cX6_type 14 = .ok (.aload_n 0, 1) := by decide +kernel
theorem dX6_type_15 : decode cX6_type 15 = .ok (.getfield 40, 3) := by decide +kernel
theorem dX6_type_18 : decode cX6_type 18 = .ok (.iload_n 1, 1) := by decide +kernel
theorem dX6_type_19 : decode cX6_type 19 = .ok (.invokevirtual 216, 3) := by decide +kernel
theorem dX6_type_22 : decode cX6_type 22 = .ok (.ifCond .eq 13, 3) := by decide +kernel
theorem dX6_type_25 : decode cX6_type 25 = .ok (.aload_n 0, 1) := by decide +kernel
theorem dX6_type_26 : decode cX6_type 26 = .ok (.getfield 40, 3) := by decide +kernel
theorem dX6_type_29 : decode cX6_type 29 = .ok (.getfield 219, 3) := by decide +kernel
theorem dX6_type_32 : decode cX6_type 32 = .ok (.goto 5, 3) := by decide +kernel
theorem dX6_type_35 : decode cX6_type 35 = .ok (.bipush (-5), 2) := by decide +kernel
theorem dX6_type_37 : decode cX6_type 37 = .ok (.ireturn, 1) := by decide +kernel
theorem dX6_clearText_0 : decode cX6_clearText 0 = .ok (.aload_n 0, 1) := by decide +kernel
theorem dX6_clearText_1 : decode cX6_clearText 1 = .ok (.getfield 40, 3) := by decide +kernel
theorem dX6_clearText_4 : decode cX6_clearText 4 = .ok (.getfield 219, 3) := by decide +kernel
theorem dX6_clearText_7 : decode cX6_clearText 7 = .ok (.istore_n 1, 1) := by decide +kernel
theorem dX6_clearText_8 : decode cX6_clearText 8 = .ok (.aload_n 0, 1) := by decide +kernel
theorem dX6_clearText_9 : decode cX6_clearText 9 = .ok (.getfield 40, 3) := by decide +kernel
theorem dX6_clearText_12 : decode cX6_clearText 12 = .ok (.iconst 0, 1) := by decide +kernel
theorem dX6_clearText_13 : decode cX6_clearText 13 = .ok (.putfield 219, 3) := by decide +kernel
theorem dX6_clearText_16 : decode cX6_clearText 16 = .ok (.iload_n 1, 1) := by decide +kernel
theorem dX6_clearText_17 : decode cX6_clearText 17 = .ok (.ireturn, 1) := by decide +kernel
theorem dX6_textFault_0 : decode cX6_textFault 0 = .ok (.aload_n 0, 1) := by decide +kernel
theorem dX6_textFault_1 : decode cX6_textFault 1 = .ok (.getfield 40, 3) := by decide +kernel
theorem dX6_textFault_4 : decode cX6_textFault 4 = .ok (.aload_n 0, 1) := by decide +kernel
theorem dX6_textFault_5 : decode cX6_textFault 5 = .ok (.getfield 10, 3) := by decide +kernel
theorem dX6_textFault_8 : decode cX6_textFault 8 = .ok (.getfield 70, 3) := by decide +kernel
theorem dX6_textFault_11 : decode cX6_textFault 11 = .ok (.invokevirtual 220, 3) := by decide +kernel
theorem dX6_textFault_14 : decode cX6_textFault 14 = .ok (.ireturn, 1) := by decide +kernel
theorem dX6_readAll_0 : decode cX6_readAll 0 = .ok (.aload_n 0, 1) := by decide +kernel
theorem dX6_readAll_1 : decode cX6_readAll 1 = .ok (.getfield 40, 3) := by decide +kernel
theorem dX6_readAll_4 : decode cX6_readAll 4 = .ok (.aload_n 0, 1) := by decide +kernel
theorem dX6_readAll_5 : decode cX6_readAll 5 = .ok (.getfield 10, 3) := by decide +kernel
theorem dX6_readAll_8 : decode cX6_readAll 8 = .ok (.getfield 70, 3) := by decide +kernel
theorem dX6_readAll_11 : decode cX6_readAll 11 = .ok (.invokevirtual 220, 3) := by decide +kernel
theorem dX6_readAll_14 : decode cX6_readAll 14 = .ok (.iconst (-1), 1) := by decide +kernel
theorem dX6_readAll_15 : decode cX6_readAll 15 = .ok (.if_icmp .eq 6, 3) := by decide +kernel
theorem dX6_readAll_18 : decode cX6_readAll 18 = .ok (.bipush (-4), 2) := by decide +kernel
theorem dX6_readAll_20 : decode cX6_readAll 20 = .ok (.ireturn, 1) := by decide +kernel
theorem dX6_readAll_21 : decode cX6_readAll 21 = .ok (.aload_n 0, 1) := by decide +kernel
theorem dX6_readAll_22 : decode cX6_readAll 22 = .ok (.getfield 19, 3) := by decide +kernel
theorem dX6_readAll_25 : decode cX6_readAll 25 = .ok (.aload_n 0, 1) := by decide +kernel
theorem dX6_readAll_26 : decode cX6_readAll 26 = .ok (.getfield 10, 3) := by decide +kernel
theorem dX6_readAll_29 : decode cX6_readAll 29 = .ok (.invokevirtual 52, 3) := by decide +kernel
theorem dX6_readAll_32 : decode cX6_readAll 32 = .ok (.iconst 0, 1) := by decide +kernel
theorem dX6_readAll_33 : decode cX6_readAll 33 = .ok (.istore_n 1, 1) := by decide +kernel
theorem dX6_readAll_34 : decode cX6_readAll 34 = .ok (.iload_n 1, 1) := by decide +kernel
theorem dX6_readAll_35 : decode cX6_readAll 35 = .ok (.aload_n 0, 1) := by decide +kernel
theorem dX6_readAll_36 : decode cX6_readAll 36 = .ok (.getfield 40, 3) := by decide +kernel
theorem dX6_readAll_39 : decode cX6_readAll 39 = .ok (.getfield 223, 3) := by decide +kernel
theorem dX6_readAll_42 : decode cX6_readAll 42 = .ok (.if_icmp .ge 38, 3) := by decide +kernel
theorem dX6_readAll_45 : decode cX6_readAll 45 = .ok (.aload_n 0, 1) := by decide +kernel
theorem dX6_readAll_46 : decode cX6_readAll 46 = .ok (.getfield 40, 3) := by decide +kernel
theorem dX6_readAll_49 : decode cX6_readAll 49 = .ok (.getfield 226, 3) := by decide +kernel
theorem dX6_readAll_52 : decode cX6_readAll 52 = .ok (.iload_n 1, 1) := by decide +kernel
theorem dX6_readAll_53 : decode cX6_readAll 53 = .ok (.aaload, 1) := by decide +kernel
theorem dX6_readAll_54 : decode cX6_readAll 54 = .ok (.astore_n 2, 1) := by decide +kernel
theorem dX6_readAll_55 : decode cX6_readAll 55 = .ok (.aload_n 0, 1) := by decide +kernel
theorem dX6_readAll_56 : decode cX6_readAll 56 = .ok (.getfield 10, 3) := by decide +kernel
theorem dX6_readAll_59 : decode cX6_readAll 59 = .ok (.aload_n 2, 1) := by decide +kernel
theorem dX6_readAll_60 : decode cX6_readAll 60 = .ok (.iconst 0, 1) := by decide +kernel
theorem dX6_readAll_61 : decode cX6_readAll 61 = .ok (.iaload, 1) := by decide +kernel
theorem dX6_readAll_62 : decode cX6_readAll 62 = .ok (.aload_n 2, 1) := by decide +kernel
theorem dX6_readAll_63 : decode cX6_readAll 63 = .ok (.iconst 1, 1) := by decide +kernel
theorem dX6_readAll_64 : decode cX6_readAll 64 = .ok (.iaload, 1) := by decide +kernel
theorem dX6_readAll_65 : decode cX6_readAll 65 = .ok (.aload_n 2, 1) := by decide +kernel
theorem dX6_readAll_66 : decode cX6_readAll 66 = .ok (.iconst 2, 1) := by decide +kernel
theorem dX6_readAll_67 : decode cX6_readAll 67 = .ok (.iaload, 1) := by decide +kernel
theorem dX6_readAll_68 : decode cX6_readAll 68 = .ok (.aload_n 2, 1) := by decide +kernel
theorem dX6_readAll_69 : decode cX6_readAll 69 = .ok (.iconst 3, 1) := by decide +kernel
theorem dX6_readAll_70 : decode cX6_readAll 70 = .ok (.iaload, 1) := by decide +kernel
theorem dX6_readAll_71 : decode cX6_readAll 71 = .ok (.invokevirtual 137, 3) := by decide +kernel
theorem dX6_readAll_74 : decode cX6_readAll 74 = .ok (.iinc 1 1, 3) := by decide +kernel
theorem dX6_readAll_77 : decode cX6_readAll 77 = .ok (.goto (-43), 3) := by decide +kernel
theorem dX6_readAll_80 : decode cX6_readAll 80 = .ok (.aload_n 0, 1) := by decide +kernel
theorem dX6_readAll_81 : decode cX6_readAll 81 = .ok (.getfield 40, 3) := by decide +kernel
theorem dX6_readAll_84 : decode cX6_readAll 84 = .ok (.getfield 223, 3) := by decide +kernel
theorem dX6_readAll_87 : decode cX6_readAll 87 = .ok (.ireturn, 1) := by decide +kernel
theorem dX6_digest_0 : decode cX6_digest 0 = .ok (.ldc2_w 230, 3) := by decide +kernel
theorem dX6_digest_3 : decode cX6_digest 3 = .ok (.lstore_n 1, 1) := by decide +kernel
theorem dX6_digest_4 : decode cX6_digest 4 = .ok (.iconst 0, 1) := by decide +kernel
theorem dX6_digest_5 : decode cX6_digest 5 = .ok (.istore_n 3, 1) := by decide +kernel
theorem dX6_digest_6 : decode cX6_digest 6 = .ok (.iload_n 3, 1) := by decide +kernel
theorem dX6_digest_7 : decode cX6_digest 7 = .ok (.bipush 7, 2) := by decide +kernel
theorem dX6_digest_9 : decode cX6_digest 9 = .ok (.if_icmp .gt 22, 3) := by decide +kernel
theorem dX6_digest_12 : decode cX6_digest 12 = .ok (.ldc2_w 232, 3) := by decide +kernel
theorem dX6_digest_15 : decode cX6_digest 15 = .ok (.lload_n 1, 1) := by decide +kernel
theorem dX6_digest_16 : decode cX6_digest 16 = .ok (.lmul, 1) := by decide +kernel
theorem dX6_digest_17 : decode cX6_digest 17 = .ok (.aload_n 0, 1) := by decide +kernel
theorem dX6_digest_18 : decode cX6_digest 18 = .ok (.iload_n 3, 1) := by decide +kernel
theorem dX6_digest_19 : decode cX6_digest 19 = .ok (.invokevirtual 234, 3) := by decide +kernel
theorem dX6_digest_22 : decode cX6_digest 22 = .ok (.i2l, 1) := by decide +kernel
theorem dX6_digest_23 : decode cX6_digest 23 = .ok (.ladd, 1) := by decide +kernel
theorem dX6_digest_24 : decode cX6_digest 24 = .ok (.lstore_n 1, 1) := by decide +kernel
theorem dX6_digest_25 : decode cX6_digest 25 = .ok (.iinc 3 1, 3) := by decide +kernel
theorem dX6_digest_28 : decode cX6_digest 28 = .ok (.goto (-22), 3) := by decide +kernel
theorem dX6_digest_31 : decode cX6_digest 31 = .ok (.iconst 0, 1) := by decide +kernel
theorem dX6_digest_32 : decode cX6_digest 32 = .ok (.istore_n 3, 1) := by decide +kernel
theorem dX6_digest_33 : decode cX6_digest 33 = .ok (.iload_n 3, 1) := by decide +kernel
theorem dX6_digest_34 : decode cX6_digest 34 = .ok (.iconst 3, 1) := by decide +kernel
theorem dX6_digest_35 : decode cX6_digest 35 = .ok (.if_icmp .ge 22, 3) := by decide +kernel
theorem dX6_digest_38 : decode cX6_digest 38 = .ok (.ldc2_w 232, 3) := by decide +kernel
theorem dX6_digest_41 : decode cX6_digest 41 = .ok (.lload_n 1, 1) := by decide +kernel
theorem dX6_digest_42 : decode cX6_digest 42 = .ok (.lmul, 1) := by decide +kernel
theorem dX6_digest_43 : decode cX6_digest 43 = .ok (.aload_n 0, 1) := by decide +kernel
theorem dX6_digest_44 : decode cX6_digest 44 = .ok (.iload_n 3, 1) := by decide +kernel
theorem dX6_digest_45 : decode cX6_digest 45 = .ok (.invokevirtual 237, 3) := by decide +kernel
theorem dX6_digest_48 : decode cX6_digest 48 = .ok (.i2l, 1) := by decide +kernel
theorem dX6_digest_49 : decode cX6_digest 49 = .ok (.ladd, 1) := by decide +kernel
theorem dX6_digest_50 : decode cX6_digest 50 = .ok (.lstore_n 1, 1) := by decide +kernel
theorem dX6_digest_51 : decode cX6_digest 51 = .ok (.iinc 3 1, 3) := by decide +kernel
theorem dX6_digest_54 : decode cX6_digest 54 = .ok (.goto (-21), 3) := by decide +kernel
theorem dX6_digest_57 : decode cX6_digest 57 = .ok (.iconst 0, 1) := by decide +kernel
theorem dX6_digest_58 : decode cX6_digest 58 = .ok (.istore_n 3, 1) := by decide +kernel
theorem dX6_digest_59 : decode cX6_digest 59 = .ok (.iload_n 3, 1) := by decide +kernel
theorem dX6_digest_60 : decode cX6_digest 60 = .ok (.aload_n 0, 1) := by decide +kernel
theorem dX6_digest_61 : decode cX6_digest 61 = .ok (.getfield 10, 3) := by decide +kernel
theorem dX6_digest_64 : decode cX6_digest 64 = .ok (.getfield 60, 3) := by decide +kernel
theorem dX6_digest_67 : decode cX6_digest 67 = .ok (.if_icmp .ge 22, 3) := by decide +kernel
theorem dX6_digest_70 : decode cX6_digest 70 = .ok (.ldc2_w 232, 3) := by decide +kernel
theorem dX6_digest_73 : decode cX6_digest 73 = .ok (.lload_n 1, 1) := by decide +kernel
theorem dX6_digest_74 : decode cX6_digest 74 = .ok (.lmul, 1) := by decide +kernel
theorem dX6_digest_75 : decode cX6_digest 75 = .ok (.aload_n 0, 1) := by decide +kernel
theorem dX6_digest_76 : decode cX6_digest 76 = .ok (.iload_n 3, 1) := by decide +kernel
theorem dX6_digest_77 : decode cX6_digest 77 = .ok (.invokevirtual 240, 3) := by decide +kernel
theorem dX6_digest_80 : decode cX6_digest 80 = .ok (.i2l, 1) := by decide +kernel
theorem dX6_digest_81 : decode cX6_digest 81 = .ok (.ladd, 1) := by decide +kernel
theorem dX6_digest_82 : decode cX6_digest 82 = .ok (.lstore_n 1, 1) := by decide +kernel
theorem dX6_digest_83 : decode cX6_digest 83 = .ok (.iinc 3 1, 3) := by decide +kernel
theorem dX6_digest_86 : decode cX6_digest 86 = .ok (.goto (-27), 3) := by decide +kernel
theorem dX6_digest_89 : decode cX6_digest 89 = .ok (.iconst 0, 1) := by decide +kernel
theorem dX6_digest_90 : decode cX6_digest 90 = .ok (.istore_n 3, 1) := by decide +kernel
theorem dX6_digest_91 : decode cX6_digest 91 = .ok (.iload_n 3, 1) := by decide +kernel
theorem dX6_digest_92 : decode cX6_digest 92 = .ok (.aload_n 0, 1) := by decide +kernel
theorem dX6_digest_93 : decode cX6_digest 93 = .ok (.getfield 10, 3) := by decide +kernel
theorem dX6_digest_96 : decode cX6_digest 96 = .ok (.getfield 70, 3) := by decide +kernel
theorem dX6_digest_99 : decode cX6_digest 99 = .ok (.if_icmp .ge 52, 3) := by decide +kernel
theorem dX6_digest_102 : decode cX6_digest 102 = .ok (.iconst 0, 1) := by decide +kernel
theorem dX6_digest_103 : decode cX6_digest 103 = .ok (.istore 4, 2) := by decide +kernel
theorem dX6_digest_105 : decode cX6_digest 105 = .ok (.iload 4, 2) := by decide +kernel
theorem dX6_digest_107 : decode cX6_digest 107 = .ok (.bipush 6, 2) := by decide +kernel
theorem dX6_digest_109 : decode cX6_digest 109 = .ok (.if_icmp .gt 24, 3) := by decide +kernel
theorem dX6_digest_112 : decode cX6_digest 112 = .ok (.ldc2_w 232, 3) := by decide +kernel
theorem dX6_digest_115 : decode cX6_digest 115 = .ok (.lload_n 1, 1) := by decide +kernel
theorem dX6_digest_116 : decode cX6_digest 116 = .ok (.lmul, 1) := by decide +kernel
theorem dX6_digest_117 : decode cX6_digest 117 = .ok (.aload_n 0, 1) := by decide +kernel
theorem dX6_digest_118 : decode cX6_digest 118 = .ok (.iload_n 3, 1) := by decide +kernel
theorem dX6_digest_119 : decode cX6_digest 119 = .ok (.iload 4, 2) := by decide +kernel
theorem dX6_digest_121 : decode cX6_digest 121 = .ok (.invokevirtual 243, 3) := by decide +kernel
theorem dX6_digest_124 : decode cX6_digest 124 = .ok (.i2l, 1) := by decide +kernel
theorem dX6_digest_125 : decode cX6_digest 125 = .ok (.ladd, 1) := by decide +kernel
theorem dX6_digest_126 : decode cX6_digest 126 = .ok (.lstore_n 1, 1) := by decide +kernel
theorem dX6_digest_127 : decode cX6_digest 127 = .ok (.iinc 4 1, 3) := by decide +kernel
theorem dX6_digest_130 : decode cX6_digest 130 = .ok (.goto (-25), 3) := by decide +kernel
theorem dX6_digest_133 : decode cX6_digest 133 = .ok (.ldc2_w 232, 3) := by decide +kernel
theorem dX6_digest_136 : decode cX6_digest 136 = .ok (.lload_n 1, 1) := by decide +kernel
theorem dX6_digest_137 : decode cX6_digest 137 = .ok (.lmul, 1) := by decide +kernel
theorem dX6_digest_138 : decode cX6_digest 138 = .ok (.aload_n 0, 1) := by decide +kernel
theorem dX6_digest_139 : decode cX6_digest 139 = .ok (.iload_n 3, 1) := by decide +kernel
theorem dX6_digest_140 : decode cX6_digest 140 = .ok (.invokevirtual 247, 3) := by decide +kernel
theorem dX6_digest_143 : decode cX6_digest 143 = .ok (.ladd, 1) := by decide +kernel
theorem dX6_digest_144 : decode cX6_digest 144 = .ok (.lstore_n 1, 1) := by decide +kernel
theorem dX6_digest_145 : decode cX6_digest 145 = .ok (.iinc 3 1, 3) := by decide +kernel
theorem dX6_digest_148 : decode cX6_digest 148 = .ok (.goto (-57), 3) := by decide +kernel
theorem dX6_digest_151 : decode cX6_digest 151 = .ok (.lload_n 1, 1) := by decide +kernel
theorem dX6_digest_152 : decode cX6_digest 152 = .ok (.lreturn, 1) := by decide +kernel
theorem dX6_isWithin_0 : decode cX6_isWithin 0 = .ok (.iload_n 0, 1) := by decide +kernel
theorem dX6_isWithin_1 : decode cX6_isWithin 1 = .ok (.iload_n 1, 1) := by decide +kernel
theorem dX6_isWithin_2 : decode cX6_isWithin 2 = .ok (.if_icmp .lt 12, 3) := by decide +kernel
theorem dX6_isWithin_5 : decode cX6_isWithin 5 = .ok (.iload_n 0, 1) := by decide +kernel
theorem dX6_isWithin_6 : decode cX6_isWithin 6 = .ok (.iload_n 2, 1) := by decide +kernel
theorem dX6_isWithin_7 : decode cX6_isWithin 7 = .ok (.if_icmp .gt 7, 3) := by decide +kernel
theorem dX6_isWithin_10 : decode cX6_isWithin 10 = .ok (.iconst 1, 1) := by decide +kernel
theorem dX6_isWithin_11 : decode cX6_isWithin 11 = .ok (.goto 4, 3) := by decide +kernel
theorem dX6_isWithin_14 : decode cX6_isWithin 14 = .ok (.iconst 0, 1) := by decide +kernel
theorem dX6_isWithin_15 : decode cX6_isWithin 15 = .ok (.ireturn, 1) := by decide +kernel
end
section
/-! ===== the words that hold everywhere ===== -/
def isNest : Cond → Bool
  | .fieldLinkNest .. => true
  | .methodLinkNest .. => true
  | _ => false
def InT (w : Cond) : Prop := w ∈ lw_tbl ∧ (goodWord w || isNest w) = true
def TB : List Cond := lw_tbl.filter goodWord
def NwT (w : Cond) : Prop := w ∈ lw_tbl ∧ isNest w = true
theorem inT_of (i : Nat) {w : Cond} (h : lw_tbl[i]? = some w) (hg : (goodWord w || isNest w) = true) : InT w := ⟨List.mem_of_getElem? h, hg⟩
theorem inTB_of (i : Nat) {w : Cond} (h : lw_tbl[i]? = some w) (hg : goodWord w = true) : w ∈ TB := List.mem_filter.mpr ⟨List.mem_of_getElem? h, hg⟩
theorem inT_TB {w : Cond} (h : w ∈ TB) : InT w := ⟨(List.mem_filter.mp h).1, by rw [(List.mem_filter.mp h).2]; rfl⟩
theorem good_TB {w : Cond} (h : w ∈ TB) : w ∈ TB ∧ ((w.onTables && w.keeps) = true ∨ ∃ ty, w = .arrayClass ty) := ⟨h, good_of_word (List.mem_filter.mp h).2⟩
theorem goodIn_TB {ws : List Cond} (h : ∀ w ∈ ws, w ∈ TB) : GoodIn TB ws := fun w hw => good_TB (h w hw)
theorem nest_tab {w : Cond} (h : isNest w = true) : w.onTables = true := by
  cases w <;> first | rfl | (simp [isNest] at h)
theorem nest_warm {w : Cond} (h : isNest w = true) {s U : State} (hW : s.WarmedH U.vm) (hZ : va_Nw w s) : va_Nw w U := by
  cases w <;> first | (simp [isNest] at h; done) | exact va_Nw.warmF hW hZ | exact va_Nw.warmM hW hZ
theorem idx_alike {u U : Vm} (h : u.Alike U) {q : Class → Bool} (hq : ∀ x y : Class, x.kind = y.kind → q x = q y) : U.classes.findIdx? q = u.classes.findIdx? q := by
  have hf : ∀ v : Vm, v.classes.findIdx? q = v.bare.classes.findIdx? q := by
    intro v
    show _ = (v.classes.map Class.bare).findIdx? q
    rw [Array.findIdx?_map]
    congr 1
    funext x
    exact hq _ _ rfl
  rw [hf U, hf u, h.bare_eq]
def aoA (t : FieldType) (U : State) : Prop := (Cond.arrayOver (.array t)).before #[] U = true
theorem aoA.moved {t : FieldType} {u U : State} (hvm : u.vm.Alike U.vm) (h : aoA t u) : aoA t U := by
  unfold aoA Cond.before Cond.holds at h ⊢
  simp only [Cond.value, beq_iff_eq] at h ⊢
  rw [hvm.findClass]
  cases hc : u.vm.findClass (FieldType.array t).toString with
  | none => rw [hc] at h; simp at h
  | some comp =>
    rw [hc] at h
    simp only [Option.bind_some, Option.bind_eq_some_iff, Option.map_eq_some_iff] at h ⊢
    obtain ⟨c, hi, k, hk, hb⟩ := h
    obtain ⟨k', hk', he⟩ := hvm.2.2 _ _ hk
    refine ⟨c, (idx_alike hvm (fun x y hxy => by simp only [hxy])).trans hi, k', hk', ?_⟩
    have hkind : k'.kind = k.kind := by rw [he]
    rw [hkind, hvm.findClass]
    exact hb
def kAO (U : State) : Prop := va_AO RX5 U ∧ va_AO RX1 U ∧ aoA .int U
theorem kAO.moved {u U : State} (hvm : u.vm.Alike U.vm) (h : kAO u) : kAO U := ⟨h.1.moved hvm, h.2.1.moved hvm, h.2.2.moved hvm⟩
/-! ===== the geometry: roles ===== -/
abbrev kG : Type := va_G × Nat × (Nat → ClassId)
abbrev kI : Type := Nat → Nat → Int32
abbrev kL : Type := Nat → Nat → Int64
abbrev kX : Type := Nat → Nat → Option Nat
abbrev kV : Type := List (Option Value)
def ad (G : kG) (r : Nat) : Nat := G.2.1 + r
def rfv (G : kG) (o : Option Nat) : Value := va_rf (o.map (ad G))
def kdP (j : Nat) : Nat := if j = 0 then 1 else if j < 3 then 8 else if j = 3 then 12 else 5
def klP (j : Nat) : Nat := if j = 1 then 3 else if j = 2 then 8 else 16
def kd (r : Nat) : Nat :=
  if r = 0 then 6 else if r < 21 then kdP (r - 1) else if r = 21 then 0 else if r = 22 then 13 else if r < 123 then kdP ((r - 23) % 20)
  else if r = 123 then 3 else if r < 126 then 8 else if r = 126 then 9 else if r = 127 then 4 else if r = 128 then 8 else if r = 129 then 10
  else if r = 130 then 2 else if r = 131 then 8 else if r = 132 then 11 else if r < 153 then 8 else if r = 153 then 7 else if r = 154 then 8
  else if r = 155 then 9 else if r = 156 then 10 else 8
def kl (r : Nat) : Nat :=
  if r < 21 then klP (r - 1) else if r = 22 then 5 else if r < 123 then klP ((r - 23) % 20) else if r < 131 then 16 else if r = 131 then 100
  else if r = 132 then 20 else if r < 153 then 4 else if r = 154 then 786 else if r = 155 then 96 else if r < 158 then 16 else 100
/-- number of fields of a class -/
def nf (c : Nat) : Nat := match c with | 0 => 2 | 1 => 11 | 2 => 5 | 3 => 4 | 4 => 4 | 5 => 8 | 6 => 5 | _ => 13
/-- kind of a field: 0 int, 1 long, 2 reference -/
def fk (c j : Nat) : Nat := match c with
  | 0 => if j = 0 then 2 else 0
  | 1 => if j < 3 then 2 else 0
  | 2 => if j < 2 then 2 else 0
  | 3 => if j < 3 then 2 else 0
  | 4 => if j < 2 then 2 else 0
  | 5 => if j = 7 then 1 else 0
  | 6 => 2
  | _ => if j < 2 then 2 else if j = 2 then 0 else if j < 5 then 2 else if j < 7 then 0 else if j = 7 then 2 else if j < 12 then 0 else 1
def fv (G : kG) (I : kI) (L : kL) (X : kX) (c r j : Nat) : Value := match fk c j with | 0 => .int (I r j) | 1 => .long (L r j) | _ => rfv G (X r j)
def flds (G : kG) (I : kI) (L : kL) (X : kX) (c r : Nat) : List Value := (List.range (nf c)).map (fv G I L X c r)
def ce (G : kG) (I : kI) (L : kL) (X : kX) (r : Nat) : va_E :=
  if kd r < 8 then .inr (kd r, flds G I L X (kd r) r)
  else if kd r = 8 then .inl (G.2.2 0, kl r, .inl (I r))
  else if kd r = 9 then .inl (G.2.2 1, kl r, .inr (.inl (L r)))
  else if kd r = 10 then .inl (G.2.2 2, kl r, .inl (I r))
  else .inl (G.2.2 (kd r - 8), kl r, .inr (.inr (.inr (.inr (fun j => (X r j).map (ad G))))))
def wl (G : kG) (n : Nat) (I : kI) (L : kL) (X : kX) : va_W := (List.range n).map (fun r => (ad G r, ce G I L X r))
def tys (G : kG) : List (ClassId × FieldType) := [(G.2.2 0, .int), (G.2.2 1, .long), (G.2.2 2, .boolean), (G.2.2 3, .array .int), (G.2.2 4, .object RX5), (G.2.2 5, .object RX1)]
theorem wl_get {G : kG} {n : Nat} {I : kI} {L : kL} {X : kX} {r : Nat} (h : r < n) : (wl G n I L X)[r]? = some (ad G r, ce G I L X r) := by
  simp [wl, h]
theorem wl_some {G : kG} {n : Nat} {I : kI} {L : kL} {X : kX} {r : Nat} {q : Nat × va_E} (h : (wl G n I L X)[r]? = some q) : r < n ∧ q = (ad G r, ce G I L X r) := by
  have hl : r < n := by
    have := (List.getElem?_eq_some_iff.mp h).1
    simpa [wl] using this
  rw [wl_get hl] at h
  exact ⟨hl, (Option.some.inj h).symm⟩
theorem wl_D (G : kG) (n : Nat) (I : kI) (L : kL) (X : kX) : va_D (fun q => G.2.1 ≤ q) (wl G n I L X) := by
  refine ⟨fun i j p q hi hj h => ?_, fun k q hk => ?_⟩
  · obtain ⟨-, rfl⟩ := wl_some hi
    obtain ⟨-, rfl⟩ := wl_some hj
    have h' : ad G i = ad G j := h
    unfold ad at h'
    omega
  · obtain ⟨-, rfl⟩ := wl_some hk
    exact Nat.le_add_right _ _
theorem wl_set {G : kG} {n : Nat} {I I' : kI} {L L' : kL} {X X' : kX} {r : Nat} {e : va_E} (he : ce G I' L' X' r = e) (ho : ∀ q, q ≠ r → ce G I' L' X' q = ce G I L X q) :
    (wl G n I L X).set r (ad G r, e) = wl G n I' L' X' := by
  apply List.ext_getElem?
  intro k
  by_cases hk : k = r
  · subst hk
    by_cases hn : k < n
    · rw [List.getElem?_set_self (by simpa [wl] using hn), wl_get hn, he]
    · rw [List.getElem?_eq_none (by simpa [wl] using hn), List.getElem?_eq_none (by simpa [wl] using hn)]
  · rw [List.getElem?_set_ne (Ne.symm hk)]
    by_cases hn : k < n
    · rw [wl_get hn, wl_get hn, ho k hk]
    · rw [List.getElem?_eq_none (by simpa [wl] using hn), List.getElem?_eq_none (by simpa [wl] using hn)]
/-! updates -/
def up2 {α : Type} (f : Nat → Nat → α) (r j : Nat) (v : α) : Nat → Nat → α := fun a b => if a = r ∧ b = j then v else f a b
theorem up2_self {α : Type} (f : Nat → Nat → α) (r j : Nat) (v : α) : up2 f r j v r j = v := by simp [up2]
theorem up2_ne {α : Type} {f : Nat → Nat → α} {r j a b : Nat} {v : α} (h : a ≠ r ∨ b ≠ j) : up2 f r j v a b = f a b := by
  unfold up2
  rw [if_neg]
  omega
theorem up2_row {α : Type} {f : Nat → Nat → α} {r j a : Nat} {v : α} (h : a ≠ r) : up2 f r j v a = f a := by
  funext b
  exact up2_ne (Or.inl h)
theorem up2_same {α : Type} (f : Nat → Nat → α) (r j : Nat) (v : α) : up2 f r j v r = va_up (f r) j v := by
  funext b
  simp [up2, va_up]
theorem ce_row {G : kG} {I I' : kI} {L L' : kL} {X X' : kX} {q : Nat} (h1 : I' q = I q) (h2 : L' q = L q) (h3 : X' q = X q) : ce G I' L' X' q = ce G I L X q := by
  unfold ce flds fv
  rw [h1, h2, h3]
theorem ce_obj {G : kG} {I : kI} {L : kL} {X : kX} {r c : Nat} (h : kd r = c) (hc : c < 8) : ce G I L X r = .inr (c, flds G I L X c r) := by
  unfold ce
  rw [if_pos (by omega), h]
theorem ce_int {G : kG} {I : kI} {L : kL} {X : kX} {r : Nat} (h : kd r = 8) : ce G I L X r = .inl (G.2.2 0, kl r, .inl (I r)) := by simp [ce, h]
theorem ce_long {G : kG} {I : kI} {L : kL} {X : kX} {r : Nat} (h : kd r = 9) : ce G I L X r = .inl (G.2.2 1, kl r, .inr (.inl (L r))) := by simp [ce, h]
theorem ce_bool {G : kG} {I : kI} {L : kL} {X : kX} {r : Nat} (h : kd r = 10) : ce G I L X r = .inl (G.2.2 2, kl r, .inl (I r)) := by simp [ce, h]
theorem ce_ref {G : kG} {I : kI} {L : kL} {X : kX} {r : Nat} (h : 11 ≤ kd r) : ce G I L X r = .inl (G.2.2 (kd r - 8), kl r, .inr (.inr (.inr (.inr (fun j => (X r j).map (ad G)))))) := by
  unfold ce
  rw [if_neg (by omega), if_neg (by omega), if_neg (by omega), if_neg (by omega)]
theorem flds_get {G : kG} {I : kI} {L : kL} {X : kX} {c r j : Nat} (h : j < nf c) : (flds G I L X c r)[j]? = some (fv G I L X c r j) := by simp [flds, h]
theorem flds_len (G : kG) (I : kI) (L : kL) (X : kX) (c r : Nat) : (flds G I L X c r).length = nf c := by simp [flds]
theorem flds_set {G : kG} {I I' : kI} {L L' : kL} {X X' : kX} {c r j : Nat} {v : Value} (hv : fv G I' L' X' c r j = v) (ho : ∀ k, k ≠ j → fv G I' L' X' c r k = fv G I L X c r k) : (flds G I L X c r).set j v = flds G I' L' X' c r := by
  apply List.ext_getElem?
  intro k
  by_cases hk : k = j
  · subst hk
    by_cases hn : k < nf c
    · rw [List.getElem?_set_self (by rw [flds_len]; exact hn), flds_get hn, hv]
    · rw [List.getElem?_eq_none (by rw [List.length_set, flds_len]; omega), List.getElem?_eq_none (by rw [flds_len]; omega)]
  · rw [List.getElem?_set_ne (Ne.symm hk)]
    by_cases hn : k < nf c
    · rw [flds_get hn, flds_get hn, ho k hk]
    · rw [List.getElem?_eq_none (by rw [flds_len]; omega), List.getElem?_eq_none (by rw [flds_len]; omega)]
/-! ===== locals ===== -/
def lvO (ls : Array Slot) (nL : Nat) (lv : kV) : Prop := ls.size = nL ∧ lv_wf ls ∧ ∀ (i : Nat) (v : Value), lv[i]? = some (some v) → ls[i]? = some (.val v)
def lvL (lv : kV) : List (Nat × Value) := (List.range lv.length).filterMap (fun i => (lv.getD i none).map (fun v => (i, v)))
theorem lvL_mem {lv : kV} {i : Nat} {v : Value} : (i, v) ∈ lvL lv ↔ lv[i]? = some (some v) := by
  unfold lvL
  rw [List.mem_filterMap]
  constructor
  · rintro ⟨a, ha, h⟩
    rw [Option.map_eq_some_iff] at h
    obtain ⟨w, hw, he⟩ := h
    cases he
    rw [List.mem_range] at ha
    rw [List.getD_eq_getElem?_getD, List.getElem?_eq_getElem ha, Option.getD_some] at hw
    rw [List.getElem?_eq_getElem ha, hw]
  · intro h
    have hl := (List.getElem?_eq_some_iff.mp h).1
    refine ⟨i, List.mem_range.mpr hl, ?_⟩
    rw [List.getD_eq_getElem?_getD, h]
    rfl
theorem lvO.has {ls : Array Slot} {nL : Nat} {lv : kV} (h : lvO ls nL lv) : lv_has ls nL (lvL lv) := ⟨h.1, h.2.1, fun q hq => h.2.2 q.1 q.2 (lvL_mem.mp hq)⟩
def oc1 : Option Value → Bool
  | none => true
  | some v => v.category == 1
/-- one slot: what is held behind a store of a value of one slot at i -/
theorem lvO.of1 {ls' : Array Slot} {nL i : Nat} {lv : kV} {v : Value} (h : lv_has ls' nL ((i, v) :: (lvL lv).filter (fun q => !(q.1 == i) && !(q.1 + 1 == i && q.2.category == 2)))) (hp : i ≠ 0 → oc1 (lv.getD (i - 1) none) = true) : lvO ls' nL (lv.set i (some v)) := by
  refine ⟨h.1, h.2.1, fun j w hj => ?_⟩
  by_cases hji : j = i
  · subst hji
    have hl : j < lv.length := by have := (List.getElem?_eq_some_iff.mp hj).1; simpa using this
    rw [List.getElem?_set_self hl] at hj
    cases hj
    exact h.2.2 (j, v) List.mem_cons_self
  · rw [List.getElem?_set_ne (Ne.symm hji)] at hj
    refine h.2.2 (j, w) (List.mem_cons_of_mem _ (List.mem_filter.mpr ⟨lvL_mem.mpr hj, ?_⟩))
    by_cases hj1 : j + 1 = i
    · have h2 := hp (by omega)
      rw [show i - 1 = j by omega, List.getD_eq_getElem?_getD, hj] at h2
      have h3 : w.category = 1 := by simpa [oc1] using h2
      simp [hji, h3]
    · simp [hji, hj1]
theorem lvO.sub {ls : Array Slot} {nL : Nat} {lv lv' : kV} (h : lvO ls nL lv) (hs : ∀ (i : Nat) (v : Value), lv'[i]? = some (some v) → lv[i]? = some (some v)) : lvO ls nL lv' := ⟨h.1, h.2.1, fun i v hv => h.2.2 i v (hs i v hv)⟩
/-- the locals at entry -/
def lvI : List Value → kV
  | [] => []
  | v :: vs => if v.category = 2 then some v :: none :: lvI vs else some v :: lvI vs
theorem lvI_args : ∀ (vs : List Value) (k i : Nat) (v : Value), (lvI vs)[i]? = some (some v) → (k + i, v) ∈ lv_args k vs
  | [], k, i, v, h => by simp [lvI] at h
  | a :: vs, k, i, v, h => by
    unfold lvI at h
    unfold lv_args
    by_cases hc : a.category = 2
    · rw [if_pos hc] at h
      rw [if_pos hc]
      match i, h with
      | 0, h => cases h; exact List.mem_cons_self
      | 1, h => cases h
      | i + 2, h =>
        rw [List.getElem?_cons_succ, List.getElem?_cons_succ] at h
        have := lvI_args vs (k + 2) i v h
        rw [show k + 2 + i = k + (i + 2) by omega] at this
        exact List.mem_cons_of_mem _ this
    · rw [if_neg hc] at h
      rw [if_neg hc]
      match i, h with
      | 0, h => cases h; exact List.mem_cons_self
      | i + 1, h =>
        rw [List.getElem?_cons_succ] at h
        have := lvI_args vs (k + 1) i v h
        rw [show k + 1 + i = k + (i + 1) by omega] at this
        exact List.mem_cons_of_mem _ this
theorem lvO_entry (vs : List Value) {nL m : Nat} (h : (lg_sl vs).length ≤ nL) : lvO ((lg_sl vs ++ List.replicate (nL - (lg_sl vs).length) Slot.unset).toArray) nL (lvI vs ++ List.replicate m none) := by
  have h0 := lv_entry vs h
  refine ⟨h0.1, h0.2.1, fun i v hv => ?_⟩
  by_cases hl : i < (lvI vs).length
  · rw [List.getElem?_append_left hl] at hv
    have := lvI_args vs 0 i v hv
    rw [Nat.zero_add] at this
    exact h0.2.2 (i, v) this
  · rw [List.getElem?_append_right (by omega)] at hv
    have := List.mem_of_getElem? hv
    rw [List.mem_replicate] at this
    cases this.2
/-! ===== the judgement ===== -/
def kVd (p : Program) (l : Launch) (e : Env) (Rm : Room) (s : State) (m : MethodId) (args : Array Value) (below : List Frame) (meth : Method) (c : Code) (nL : Nat) (G : kG) (H0 : Heap) (Q : State → Prop) (n0 : Nat) :
    Nat → kI → kL → kX → Nat → kV → List Value → Prop := fun n I L X pc lv st => n0 ≤ n → ∀ (H : Heap) (locs : List Loc) (ls : Array Slot), H.size = G.2.1 + n → va_P G.1 vwCl (wl G n I L X) H → va_S (fun q => G.2.1 ≤ q) H0 H locs → lvO ls nL lv →
      W p l e Rm s m args below meth c H locs (n - n0) (800 * (n - n0)) Q (F0 m pc ls st)
abbrev kJ : Type := Nat → kI → kL → kX → Nat → kV → List Value → Prop
def Mach (l : Launch) (cc : ByteArray) (own : String) (nL D K : Nat) (G : kG) (n0 : Nat) (J : kJ) : Prop :=
  ∃ (p : Program) (e : Env) (Rm : Room) (s : State) (m : MethodId) (args : Array Value) (below : List Frame) (meth : Method) (c : Code) (H0 : Heap) (Q : State → Prop),
    J = kVd p l e Rm s m args below meth c nL G H0 Q n0 ∧ p.tables.exec = Jvm.exec ∧ c.code = cc ∧ c.maxLocals = nL ∧ s.vm.findClass own = some m.cls ∧ (∀ w, InT w → w.before args s = true) ∧ va_K G.1 vwCl (tys G) s ∧ (G.2.1 ≤ H0.size ∧ kAO s) ∧
    (D ≤ Rm.frames ∧ 36 * D ≤ Rm.locals ∧ K ≤ Rm.cells ∧ 800 * K ≤ Rm.slots)
def rmd (D k : Nat) : Room := { frames := D, cells := k, slots := 800 * k, locals := 36 * D }
def kW (G : kG) (n : Nat) (I : kI) (L : kL) (X : kX) (U : State) : Prop := U.heap.size = G.2.1 + n ∧ va_P G.1 vwCl (wl G n I L X) U.heap ∧ va_K G.1 vwCl (tys G) U ∧ (∀ w, NwT w → va_Nw w U) ∧ kAO U
abbrev kS : Type := kI × kL × kX
abbrev kF (G : kG) : Nat → Prop := fun q => G.2.1 ≤ q
/-- contracts: int, boolean, long, nothing, reference -/
def Ki (l : Launch) (y : MethodName) (b : ByteArray) (nL D : Nat) (G : kG) (av : List Value) (n n1 : Nat) (I : kI) (L : kL) (X : kX) (post : Int32 → kI → kL → kX → Prop) : Prop :=
  Met l y (.code y b nL (some .int) :: TB) (rmd D (n1 - n)) (va_Pc av (kW G n I L X)) (va_Qi (fun r (u : kS) => post r u.1 u.2.1 u.2.2) (fun u t => kW G n1 u.1 u.2.1 u.2.2 t) (kF G)) (n1 - n) (800 * (n1 - n)) (kF G)
def bI (b : Bool) : Int32 := if b then 1 else 0
def Kz (l : Launch) (y : MethodName) (b : ByteArray) (nL D : Nat) (G : kG) (av : List Value) (n n1 : Nat) (I : kI) (L : kL) (X : kX) (post : Bool → kI → kL → kX → Prop) : Prop :=
  Met l y (.code y b nL (some .boolean) :: TB) (rmd D (n1 - n)) (va_Pc av (kW G n I L X)) (va_Qi (fun r (u : kS) => ∃ z : Bool, r = bI z ∧ post z u.1 u.2.1 u.2.2) (fun u t => kW G n1 u.1 u.2.1 u.2.2 t) (kF G)) (n1 - n) (800 * (n1 - n)) (kF G)
def Kl (l : Launch) (y : MethodName) (b : ByteArray) (nL D : Nat) (G : kG) (av : List Value) (n n1 : Nat) (I : kI) (L : kL) (X : kX) (post : Int64 → kI → kL → kX → Prop) : Prop :=
  Met l y (.code y b nL (some .long) :: TB) (rmd D (n1 - n)) (va_Pc av (kW G n I L X)) (va_Ql (fun r (u : kS) => post r u.1 u.2.1 u.2.2) (fun u t => kW G n1 u.1 u.2.1 u.2.2 t) (kF G)) (n1 - n) (800 * (n1 - n)) (kF G)
def Kv (l : Launch) (y : MethodName) (b : ByteArray) (nL D : Nat) (G : kG) (av : List Value) (n n1 : Nat) (I : kI) (L : kL) (X : kX) (post : kI → kL → kX → Prop) : Prop :=
  Met l y (.code y b nL none :: TB) (rmd D (n1 - n)) (va_Pc av (kW G n I L X)) (va_Qv (fun (u : kS) => post u.1 u.2.1 u.2.2) (fun u t => kW G n1 u.1 u.2.1 u.2.2 t) (kF G)) (n1 - n) (800 * (n1 - n)) (kF G)
def Kq (l : Launch) (y : MethodName) (b : ByteArray) (nL : Nat) (C : String) (D : Nat) (G : kG) (av : List Value) (n n1 : Nat) (I : kI) (L : kL) (X : kX) (post : Option Nat → kI → kL → kX → Prop) : Prop :=
  Met l y (.code y b nL (some (.object C)) :: TB) (rmd D (n1 - n)) (va_Pc av (kW G n I L X)) (va_Qq (fun r (u : kS) => ∃ q : Option Nat, r = q.map (ad G) ∧ post q u.1 u.2.1 u.2.2) (fun u t => kW G n1 u.1 u.2.1 u.2.2 t) (kF G)) (n1 - n) (800 * (n1 - n)) (kF G)
theorem kW_blind {av : List Value} {G : kG} {n : Nat} {I : kI} {L : kL} {X : kX} : FrameBlind (va_Pc av (kW G n I L X)) := by
  intro a U g mk h
  obtain ⟨h1, h2, h3, h4, h5, h6⟩ := h
  exact ⟨h1, h2, h3, va_K.moved (u := U) (U := U.calling g mk a) (Vm.Alike.refl U.vm) h4, fun w hw => va_Nw.same (u := U) (U := U.calling g mk a) (nest_tab hw.2) rfl (h5 w hw), kAO.moved (u := U) (U := U.calling g mk a) (Vm.Alike.refl U.vm) h6⟩
end
section
/-! ===== rules of the judgement: an instruction each ===== -/
section QR
variable {l : Launch} {cc : ByteArray} {own : String} {nL D K : Nat} {G : kG} {n0 : Nat} {J : kJ} {n : Nat} {I : kI} {L : kL} {X : kX} {pc : Nat} {lv : kV} {rest : List Value}
theorem q_iconst (hM : Mach l cc own nL D K G n0 J) {k : Int} {v : Int32} (hd : decode cc pc = .ok (.iconst k, 1)) (hv : Int32.ofInt k = v) (kk : J n I L X (pc + 1) lv (.int v :: rest)) : J n I L X pc lv rest := by
  obtain ⟨p, e, Rm, s, m, args, below, meth, c, H0, Q, rfl, hx, hb, hml, hown, hT, hK, hbs, hR⟩ := hM
  exact fun hn H locs ls hz hP hS hl => lv_iconst hx hb hd hv (kk hn H locs ls hz hP hS hl)
theorem q_bipush (hM : Mach l cc own nL D K G n0 J) {k : Int} {v : Int32} (hd : decode cc pc = .ok (.bipush k, 2)) (hv : (Int8.ofInt k).toInt32 = v) (kk : J n I L X (pc + 2) lv (.int v :: rest)) : J n I L X pc lv rest := by
  obtain ⟨p, e, Rm, s, m, args, below, meth, c, H0, Q, rfl, hx, hb, hml, hown, hT, hK, hbs, hR⟩ := hM
  exact fun hn H locs ls hz hP hS hl => lv_bipush hx hb hd hv (kk hn H locs ls hz hP hS hl)
theorem q_sipush (hM : Mach l cc own nL D K G n0 J) {k : Int} {v : Int32} (hd : decode cc pc = .ok (.sipush k, 3)) (hv : (Int16.ofInt k).toInt32 = v) (kk : J n I L X (pc + 3) lv (.int v :: rest)) : J n I L X pc lv rest := by
  obtain ⟨p, e, Rm, s, m, args, below, meth, c, H0, Q, rfl, hx, hb, hml, hown, hT, hK, hbs, hR⟩ := hM
  exact fun hn H locs ls hz hP hS hl => lv_sipush hx hb hd hv (kk hn H locs ls hz hP hS hl)
theorem q_lconst (hM : Mach l cc own nL D K G n0 J) {k : Fin 2} {v : Int64} (hd : decode cc pc = .ok (.lconst k, 1)) (hv : Int64.ofNat (k : Nat) = v) (kk : J n I L X (pc + 1) lv (.long v :: rest)) : J n I L X pc lv rest := by
  obtain ⟨p, e, Rm, s, m, args, below, meth, c, H0, Q, rfl, hx, hb, hml, hown, hT, hK, hbs, hR⟩ := hM
  exact fun hn H locs ls hz hP hS hl => lv_lconst hx hb hd hv (kk hn H locs ls hz hP hS hl)
theorem q_ldc (hM : Mach l cc own nL D K G n0 J) {i : Nat} {v : Int32} (hw : InT (.constant own i v)) (hd : decode cc pc = .ok (.ldc i, 2)) (kk : J n I L X (pc + 2) lv (.int v :: rest)) : J n I L X pc lv rest := by
  obtain ⟨p, e, Rm, s, m, args, below, meth, c, H0, Q, rfl, hx, hb, hml, hown, hT, hK, hbs, hR⟩ := hM
  exact fun hn H locs ls hz hP hS hl => lv_ldc hx hb hown (hT _ hw) hd (kk hn H locs ls hz hP hS hl)
theorem q_ldc2 (hM : Mach l cc own nL D K G n0 J) {i : Nat} {v : Int64} (hw : InT (.constantLong own i v)) (hd : decode cc pc = .ok (.ldc2_w i, 3)) (kk : J n I L X (pc + 3) lv (.long v :: rest)) : J n I L X pc lv rest := by
  obtain ⟨p, e, Rm, s, m, args, below, meth, c, H0, Q, rfl, hx, hb, hml, hown, hT, hK, hbs, hR⟩ := hM
  exact fun hn H locs ls hz hP hS hl => lv_ldc2 hx hb hown (hT _ hw) hd (kk hn H locs ls hz hP hS hl)
theorem q_null (hM : Mach l cc own nL D K G n0 J) (hd : decode cc pc = .ok (.aconst_null, 1)) (kk : J n I L X (pc + 1) lv (.null :: rest)) : J n I L X pc lv rest := by
  obtain ⟨p, e, Rm, s, m, args, below, meth, c, H0, Q, rfl, hx, hb, hml, hown, hT, hK, hbs, hR⟩ := hM
  exact fun hn H locs ls hz hP hS hl => lv_null hx hb hd (kk hn H locs ls hz hP hS hl)
theorem q_iload_n (hM : Mach l cc own nL D K G n0 J) {k : Fin 4} {x : Int32} (hd : decode cc pc = .ok (.iload_n k, 1)) (hv : lv[(k : Nat)]? = some (some (.int x))) (kk : J n I L X (pc + 1) lv (.int x :: rest)) : J n I L X pc lv rest := by
  obtain ⟨p, e, Rm, s, m, args, below, meth, c, H0, Q, rfl, hx, hb, hml, hown, hT, hK, hbs, hR⟩ := hM
  exact fun hn H locs ls hz hP hS hl => lv_iload_n hx hb hd rfl (hl.2.2 _ _ hv) (kk hn H locs ls hz hP hS hl)
theorem q_iload (hM : Mach l cc own nL D K G n0 J) {i : Nat} {x : Int32} (hd : decode cc pc = .ok (.iload i, 2)) (hv : lv[i]? = some (some (.int x))) (kk : J n I L X (pc + 2) lv (.int x :: rest)) : J n I L X pc lv rest := by
  obtain ⟨p, e, Rm, s, m, args, below, meth, c, H0, Q, rfl, hx, hb, hml, hown, hT, hK, hbs, hR⟩ := hM
  exact fun hn H locs ls hz hP hS hl => lv_iload hx hb hd (hl.2.2 _ _ hv) (kk hn H locs ls hz hP hS hl)
theorem q_lload_n (hM : Mach l cc own nL D K G n0 J) {k : Fin 4} {x : Int64} (hd : decode cc pc = .ok (.lload_n k, 1)) (hv : lv[(k : Nat)]? = some (some (.long x))) (kk : J n I L X (pc + 1) lv (.long x :: rest)) : J n I L X pc lv rest := by
  obtain ⟨p, e, Rm, s, m, args, below, meth, c, H0, Q, rfl, hx, hb, hml, hown, hT, hK, hbs, hR⟩ := hM
  exact fun hn H locs ls hz hP hS hl => lv_lload_n hx hb hd rfl (hl.2.2 _ _ hv) (kk hn H locs ls hz hP hS hl)
theorem q_lload (hM : Mach l cc own nL D K G n0 J) {i : Nat} {x : Int64} (hd : decode cc pc = .ok (.lload i, 2)) (hv : lv[i]? = some (some (.long x))) (kk : J n I L X (pc + 2) lv (.long x :: rest)) : J n I L X pc lv rest := by
  obtain ⟨p, e, Rm, s, m, args, below, meth, c, H0, Q, rfl, hx, hb, hml, hown, hT, hK, hbs, hR⟩ := hM
  exact fun hn H locs ls hz hP hS hl => lv_lload hx hb hd (hl.2.2 _ _ hv) (kk hn H locs ls hz hP hS hl)
theorem q_aload_n (hM : Mach l cc own nL D K G n0 J) {k : Fin 4} {x : Nat} (hd : decode cc pc = .ok (.aload_n k, 1)) (hv : lv[(k : Nat)]? = some (some (.ref x))) (kk : J n I L X (pc + 1) lv (.ref x :: rest)) : J n I L X pc lv rest := by
  obtain ⟨p, e, Rm, s, m, args, below, meth, c, H0, Q, rfl, hx, hb, hml, hown, hT, hK, hbs, hR⟩ := hM
  exact fun hn H locs ls hz hP hS hl => lv_aload_n hx hb hd rfl (hl.2.2 _ _ hv) (kk hn H locs ls hz hP hS hl)
theorem q_aload (hM : Mach l cc own nL D K G n0 J) {i : Nat} {x : Nat} (hd : decode cc pc = .ok (.aload i, 2)) (hv : lv[i]? = some (some (.ref x))) (kk : J n I L X (pc + 2) lv (.ref x :: rest)) : J n I L X pc lv rest := by
  obtain ⟨p, e, Rm, s, m, args, below, meth, c, H0, Q, rfl, hx, hb, hml, hown, hT, hK, hbs, hR⟩ := hM
  exact fun hn H locs ls hz hP hS hl => lv_aload hx hb hd (hl.2.2 _ _ hv) (kk hn H locs ls hz hP hS hl)
theorem q_aload_nN (hM : Mach l cc own nL D K G n0 J) {k : Fin 4} (hd : decode cc pc = .ok (.aload_n k, 1)) (hv : lv[(k : Nat)]? = some (some .null)) (kk : J n I L X (pc + 1) lv (.null :: rest)) : J n I L X pc lv rest := by
  obtain ⟨p, e, Rm, s, m, args, below, meth, c, H0, Q, rfl, hx, hb, hml, hown, hT, hK, hbs, hR⟩ := hM
  exact fun hn H locs ls hz hP hS hl => lv_aload_nN hx hb hd rfl (hl.2.2 _ _ hv) (kk hn H locs ls hz hP hS hl)
theorem q_aloadN (hM : Mach l cc own nL D K G n0 J) {i : Nat} (hd : decode cc pc = .ok (.aload i, 2)) (hv : lv[i]? = some (some .null)) (kk : J n I L X (pc + 2) lv (.null :: rest)) : J n I L X pc lv rest := by
  obtain ⟨p, e, Rm, s, m, args, below, meth, c, H0, Q, rfl, hx, hb, hml, hown, hT, hK, hbs, hR⟩ := hM
  exact fun hn H locs ls hz hP hS hl => lv_aloadN hx hb hd (hl.2.2 _ _ hv) (kk hn H locs ls hz hP hS hl)
theorem q_iadd (hM : Mach l cc own nL D K G n0 J) {x y : Int32} (hd : decode cc pc = .ok (.iadd, 1)) (kk : J n I L X (pc + 1) lv (.int (x + y) :: rest)) : J n I L X pc lv (.int y :: .int x :: rest) := by
  obtain ⟨p, e, Rm, s, m, args, below, meth, c, H0, Q, rfl, hx, hb, hml, hown, hT, hK, hbs, hR⟩ := hM
  exact fun hn H locs ls hz hP hS hl => lv_iadd hx hb hd (kk hn H locs ls hz hP hS hl)
theorem q_isub (hM : Mach l cc own nL D K G n0 J) {x y : Int32} (hd : decode cc pc = .ok (.isub, 1)) (kk : J n I L X (pc + 1) lv (.int (x - y) :: rest)) : J n I L X pc lv (.int y :: .int x :: rest) := by
  obtain ⟨p, e, Rm, s, m, args, below, meth, c, H0, Q, rfl, hx, hb, hml, hown, hT, hK, hbs, hR⟩ := hM
  exact fun hn H locs ls hz hP hS hl => lv_isub hx hb hd (kk hn H locs ls hz hP hS hl)
theorem q_imul (hM : Mach l cc own nL D K G n0 J) {x y : Int32} (hd : decode cc pc = .ok (.imul, 1)) (kk : J n I L X (pc + 1) lv (.int (x * y) :: rest)) : J n I L X pc lv (.int y :: .int x :: rest) := by
  obtain ⟨p, e, Rm, s, m, args, below, meth, c, H0, Q, rfl, hx, hb, hml, hown, hT, hK, hbs, hR⟩ := hM
  exact fun hn H locs ls hz hP hS hl => lv_imul hx hb hd (kk hn H locs ls hz hP hS hl)
theorem q_iand (hM : Mach l cc own nL D K G n0 J) {x y : Int32} (hd : decode cc pc = .ok (.iand, 1)) (kk : J n I L X (pc + 1) lv (.int (x &&& y) :: rest)) : J n I L X pc lv (.int y :: .int x :: rest) := by
  obtain ⟨p, e, Rm, s, m, args, below, meth, c, H0, Q, rfl, hx, hb, hml, hown, hT, hK, hbs, hR⟩ := hM
  exact fun hn H locs ls hz hP hS hl => lv_iand hx hb hd (kk hn H locs ls hz hP hS hl)
theorem q_ladd (hM : Mach l cc own nL D K G n0 J) {x y : Int64} (hd : decode cc pc = .ok (.ladd, 1)) (kk : J n I L X (pc + 1) lv (.long (x + y) :: rest)) : J n I L X pc lv (.long y :: .long x :: rest) := by
  obtain ⟨p, e, Rm, s, m, args, below, meth, c, H0, Q, rfl, hx, hb, hml, hown, hT, hK, hbs, hR⟩ := hM
  exact fun hn H locs ls hz hP hS hl => lv_ladd hx hb hd (kk hn H locs ls hz hP hS hl)
theorem q_lsub (hM : Mach l cc own nL D K G n0 J) {x y : Int64} (hd : decode cc pc = .ok (.lsub, 1)) (kk : J n I L X (pc + 1) lv (.long (x - y) :: rest)) : J n I L X pc lv (.long y :: .long x :: rest) := by
  obtain ⟨p, e, Rm, s, m, args, below, meth, c, H0, Q, rfl, hx, hb, hml, hown, hT, hK, hbs, hR⟩ := hM
  exact fun hn H locs ls hz hP hS hl => lv_lsub hx hb hd (kk hn H locs ls hz hP hS hl)
theorem q_lmul (hM : Mach l cc own nL D K G n0 J) {x y : Int64} (hd : decode cc pc = .ok (.lmul, 1)) (kk : J n I L X (pc + 1) lv (.long (x * y) :: rest)) : J n I L X pc lv (.long y :: .long x :: rest) := by
  obtain ⟨p, e, Rm, s, m, args, below, meth, c, H0, Q, rfl, hx, hb, hml, hown, hT, hK, hbs, hR⟩ := hM
  exact fun hn H locs ls hz hP hS hl => lv_lmul hx hb hd (kk hn H locs ls hz hP hS hl)
theorem q_idiv (hM : Mach l cc own nL D K G n0 J) {x y : Int32} (hd : decode cc pc = .ok (.idiv, 1)) (hne : ¬ y = 0) (kk : J n I L X (pc + 1) lv (.int (x / y) :: rest)) : J n I L X pc lv (.int y :: .int x :: rest) := by
  obtain ⟨p, e, Rm, s, m, args, below, meth, c, H0, Q, rfl, hx, hb, hml, hown, hT, hK, hbs, hR⟩ := hM
  exact fun hn H locs ls hz hP hS hl => lv_idiv hx hb hd hne (kk hn H locs ls hz hP hS hl)
theorem q_ldiv (hM : Mach l cc own nL D K G n0 J) {x y : Int64} (hd : decode cc pc = .ok (.ldiv, 1)) (hne : ¬ y = 0) (kk : J n I L X (pc + 1) lv (.long (x / y) :: rest)) : J n I L X pc lv (.long y :: .long x :: rest) := by
  obtain ⟨p, e, Rm, s, m, args, below, meth, c, H0, Q, rfl, hx, hb, hml, hown, hT, hK, hbs, hR⟩ := hM
  exact fun hn H locs ls hz hP hS hl => lv_ldiv hx hb hd hne (kk hn H locs ls hz hP hS hl)
theorem q_ineg (hM : Mach l cc own nL D K G n0 J) {x : Int32} (hd : decode cc pc = .ok (.ineg, 1)) (kk : J n I L X (pc + 1) lv (.int (-x) :: rest)) : J n I L X pc lv (.int x :: rest) := by
  obtain ⟨p, e, Rm, s, m, args, below, meth, c, H0, Q, rfl, hx, hb, hml, hown, hT, hK, hbs, hR⟩ := hM
  exact fun hn H locs ls hz hP hS hl => lv_ineg hx hb hd (kk hn H locs ls hz hP hS hl)
theorem q_i2l (hM : Mach l cc own nL D K G n0 J) {x : Int32} (hd : decode cc pc = .ok (.i2l, 1)) (kk : J n I L X (pc + 1) lv (.long x.toInt64 :: rest)) : J n I L X pc lv (.int x :: rest) := by
  obtain ⟨p, e, Rm, s, m, args, below, meth, c, H0, Q, rfl, hx, hb, hml, hown, hT, hK, hbs, hR⟩ := hM
  exact fun hn H locs ls hz hP hS hl => lv_i2l hx hb hd rfl (kk hn H locs ls hz hP hS hl)
theorem q_lcmp (hM : Mach l cc own nL D K G n0 J) {x y : Int64} (hd : decode cc pc = .ok (.lcmp, 1)) (kk : J n I L X (pc + 1) lv (.int (lg_cmp x y) :: rest)) : J n I L X pc lv (.long y :: .long x :: rest) := by
  obtain ⟨p, e, Rm, s, m, args, below, meth, c, H0, Q, rfl, hx, hb, hml, hown, hT, hK, hbs, hR⟩ := hM
  exact fun hn H locs ls hz hP hS hl => W.lcmp hx hb hd (kk hn H locs ls hz hP hS hl)
theorem q_dup (hM : Mach l cc own nL D K G n0 J) {v : Value} (hd : decode cc pc = .ok (.dup, 1)) (hc : v.category = 1) (kk : J n I L X (pc + 1) lv (v :: v :: rest)) : J n I L X pc lv (v :: rest) := by
  obtain ⟨p, e, Rm, s, m, args, below, meth, c, H0, Q, rfl, hx, hb, hml, hown, hT, hK, hbs, hR⟩ := hM
  exact fun hn H locs ls hz hP hS hl => lv_dup hx hb hd hc (kk hn H locs ls hz hP hS hl)
theorem q_dup2 (hM : Mach l cc own nL D K G n0 J) {v w : Value} (hd : decode cc pc = .ok (.dup2, 1)) (hc : v.category = 1) (hc2 : w.category = 1) (kk : J n I L X (pc + 1) lv (v :: w :: v :: w :: rest)) : J n I L X pc lv (v :: w :: rest) := by
  obtain ⟨p, e, Rm, s, m, args, below, meth, c, H0, Q, rfl, hx, hb, hml, hown, hT, hK, hbs, hR⟩ := hM
  exact fun hn H locs ls hz hP hS hl => lv_dup2_11 hx hb hd hc hc2 (kk hn H locs ls hz hP hS hl)
theorem q_goto (hM : Mach l cc own nL D K G n0 J) {off : Int} {tgt : Nat} (hd : decode cc pc = .ok (.goto off, 3)) (ht : (pc : Int) + off = (tgt : Int)) (kk : J n I L X tgt lv rest) : J n I L X pc lv rest := by
  obtain ⟨p, e, Rm, s, m, args, below, meth, c, H0, Q, rfl, hx, hb, hml, hown, hT, hK, hbs, hR⟩ := hM
  exact fun hn H locs ls hz hP hS hl => lv_goto hx hb hd ht (kk hn H locs ls hz hP hS hl)
theorem q_ifnonnull (hM : Mach l cc own nL D K G n0 J) {x : Nat} {off : Int} {tgt : Nat} (hd : decode cc pc = .ok (.ifnonnull off, 3)) (ht : (pc : Int) + off = (tgt : Int)) (kk : J n I L X tgt lv rest) : J n I L X pc lv (.ref x :: rest) := by
  obtain ⟨p, e, Rm, s, m, args, below, meth, c, H0, Q, rfl, hx, hb, hml, hown, hT, hK, hbs, hR⟩ := hM
  exact fun hn H locs ls hz hP hS hl => lv_ifnonnull hx hb hd ht (kk hn H locs ls hz hP hS hl)
theorem q_ifnonnullN (hM : Mach l cc own nL D K G n0 J) {off : Int} (hd : decode cc pc = .ok (.ifnonnull off, 3)) (kk : J n I L X (pc + 3) lv rest) : J n I L X pc lv (.null :: rest) := by
  obtain ⟨p, e, Rm, s, m, args, below, meth, c, H0, Q, rfl, hx, hb, hml, hown, hT, hK, hbs, hR⟩ := hM
  exact fun hn H locs ls hz hP hS hl => lv_ifnonnullN hx hb hd (kk hn H locs ls hz hP hS hl)
theorem q_ifnull (hM : Mach l cc own nL D K G n0 J) {x : Nat} {off : Int} (hd : decode cc pc = .ok (.ifnull off, 3)) (kk : J n I L X (pc + 3) lv rest) : J n I L X pc lv (.ref x :: rest) := by
  obtain ⟨p, e, Rm, s, m, args, below, meth, c, H0, Q, rfl, hx, hb, hml, hown, hT, hK, hbs, hR⟩ := hM
  exact fun hn H locs ls hz hP hS hl => lv_ifnull hx hb hd (kk hn H locs ls hz hP hS hl)
theorem q_ifnullN (hM : Mach l cc own nL D K G n0 J) {off : Int} {tgt : Nat} (hd : decode cc pc = .ok (.ifnull off, 3)) (ht : (pc : Int) + off = (tgt : Int)) (kk : J n I L X tgt lv rest) : J n I L X pc lv (.null :: rest) := by
  obtain ⟨p, e, Rm, s, m, args, below, meth, c, H0, Q, rfl, hx, hb, hml, hown, hT, hK, hbs, hR⟩ := hM
  exact fun hn H locs ls hz hP hS hl => lv_ifnullN hx hb hd ht (kk hn H locs ls hz hP hS hl)
theorem q_if_lt (hM : Mach l cc own nL D K G n0 J) {x : Int32} {off : Int} {tgt : Nat} (hd : decode cc pc = .ok (.ifCond .lt off, 3)) (ht : (pc : Int) + off = (tgt : Int)) (kt : x < 0 → J n I L X tgt lv rest) (kf : ¬ x < 0 → J n I L X (pc + 3) lv rest) : J n I L X pc lv (.int x :: rest) := by
  obtain ⟨p, e, Rm, s, m, args, below, meth, c, H0, Q, rfl, hx, hb, hml, hown, hT, hK, hbs, hR⟩ := hM
  exact fun hn H locs ls hz hP hS hl => lv_if_lt hx hb hd ht (fun c => kt c hn H locs ls hz hP hS hl) (fun c => kf c hn H locs ls hz hP hS hl)
theorem q_if_lt_t (hM : Mach l cc own nL D K G n0 J) {x : Int32} {off : Int} {tgt : Nat} (hd : decode cc pc = .ok (.ifCond .lt off, 3)) (h : x < 0) (ht : (pc : Int) + off = (tgt : Int)) (kt : J n I L X tgt lv rest) : J n I L X pc lv (.int x :: rest) := q_if_lt hM hd ht (fun _ => kt) (fun q => absurd h q)
theorem q_if_lt_f (hM : Mach l cc own nL D K G n0 J) {x : Int32} {off : Int} {tgt : Nat} (hd : decode cc pc = .ok (.ifCond .lt off, 3)) (h : ¬ x < 0) (ht : (pc : Int) + off = (tgt : Int)) (kf : J n I L X (pc + 3) lv rest) : J n I L X pc lv (.int x :: rest) := q_if_lt hM hd ht (fun q => absurd q h) (fun _ => kf)
theorem q_icmp_lt (hM : Mach l cc own nL D K G n0 J) {x y : Int32} {off : Int} {tgt : Nat} (hd : decode cc pc = .ok (.if_icmp .lt off, 3)) (ht : (pc : Int) + off = (tgt : Int)) (kt : x < y → J n I L X tgt lv rest) (kf : ¬ x < y → J n I L X (pc + 3) lv rest) : J n I L X pc lv (.int y :: .int x :: rest) := by
  obtain ⟨p, e, Rm, s, m, args, below, meth, c, H0, Q, rfl, hx, hb, hml, hown, hT, hK, hbs, hR⟩ := hM
  exact fun hn H locs ls hz hP hS hl => lv_icmp_lt hx hb hd ht (fun c => kt c hn H locs ls hz hP hS hl) (fun c => kf c hn H locs ls hz hP hS hl)
theorem q_icmp_lt_t (hM : Mach l cc own nL D K G n0 J) {x y : Int32} {off : Int} {tgt : Nat} (hd : decode cc pc = .ok (.if_icmp .lt off, 3)) (h : x < y) (ht : (pc : Int) + off = (tgt : Int)) (kt : J n I L X tgt lv rest) : J n I L X pc lv (.int y :: .int x :: rest) := q_icmp_lt hM hd ht (fun _ => kt) (fun q => absurd h q)
theorem q_icmp_lt_f (hM : Mach l cc own nL D K G n0 J) {x y : Int32} {off : Int} {tgt : Nat} (hd : decode cc pc = .ok (.if_icmp .lt off, 3)) (h : ¬ x < y) (ht : (pc : Int) + off = (tgt : Int)) (kf : J n I L X (pc + 3) lv rest) : J n I L X pc lv (.int y :: .int x :: rest) := q_icmp_lt hM hd ht (fun q => absurd q h) (fun _ => kf)
theorem q_if_ge (hM : Mach l cc own nL D K G n0 J) {x : Int32} {off : Int} {tgt : Nat} (hd : decode cc pc = .ok (.ifCond .ge off, 3)) (ht : (pc : Int) + off = (tgt : Int)) (kt : 0 ≤ x → J n I L X tgt lv rest) (kf : ¬ 0 ≤ x → J n I L X (pc + 3) lv rest) : J n I L X pc lv (.int x :: rest) := by
  obtain ⟨p, e, Rm, s, m, args, below, meth, c, H0, Q, rfl, hx, hb, hml, hown, hT, hK, hbs, hR⟩ := hM
  exact fun hn H locs ls hz hP hS hl => lv_if_ge hx hb hd ht (fun c => kt c hn H locs ls hz hP hS hl) (fun c => kf c hn H locs ls hz hP hS hl)
theorem q_if_ge_t (hM : Mach l cc own nL D K G n0 J) {x : Int32} {off : Int} {tgt : Nat} (hd : decode cc pc = .ok (.ifCond .ge off, 3)) (h : 0 ≤ x) (ht : (pc : Int) + off = (tgt : Int)) (kt : J n I L X tgt lv rest) : J n I L X pc lv (.int x :: rest) := q_if_ge hM hd ht (fun _ => kt) (fun q => absurd h q)
theorem q_if_ge_f (hM : Mach l cc own nL D K G n0 J) {x : Int32} {off : Int} {tgt : Nat} (hd : decode cc pc = .ok (.ifCond .ge off, 3)) (h : ¬ 0 ≤ x) (ht : (pc : Int) + off = (tgt : Int)) (kf : J n I L X (pc + 3) lv rest) : J n I L X pc lv (.int x :: rest) := q_if_ge hM hd ht (fun q => absurd q h) (fun _ => kf)
theorem q_icmp_ge (hM : Mach l cc own nL D K G n0 J) {x y : Int32} {off : Int} {tgt : Nat} (hd : decode cc pc = .ok (.if_icmp .ge off, 3)) (ht : (pc : Int) + off = (tgt : Int)) (kt : y ≤ x → J n I L X tgt lv rest) (kf : ¬ y ≤ x → J n I L X (pc + 3) lv rest) : J n I L X pc lv (.int y :: .int x :: rest) := by
  obtain ⟨p, e, Rm, s, m, args, below, meth, c, H0, Q, rfl, hx, hb, hml, hown, hT, hK, hbs, hR⟩ := hM
  exact fun hn H locs ls hz hP hS hl => lv_icmp_ge hx hb hd ht (fun c => kt c hn H locs ls hz hP hS hl) (fun c => kf c hn H locs ls hz hP hS hl)
theorem q_icmp_ge_t (hM : Mach l cc own nL D K G n0 J) {x y : Int32} {off : Int} {tgt : Nat} (hd : decode cc pc = .ok (.if_icmp .ge off, 3)) (h : y ≤ x) (ht : (pc : Int) + off = (tgt : Int)) (kt : J n I L X tgt lv rest) : J n I L X pc lv (.int y :: .int x :: rest) := q_icmp_ge hM hd ht (fun _ => kt) (fun q => absurd h q)
theorem q_icmp_ge_f (hM : Mach l cc own nL D K G n0 J) {x y : Int32} {off : Int} {tgt : Nat} (hd : decode cc pc = .ok (.if_icmp .ge off, 3)) (h : ¬ y ≤ x) (ht : (pc : Int) + off = (tgt : Int)) (kf : J n I L X (pc + 3) lv rest) : J n I L X pc lv (.int y :: .int x :: rest) := q_icmp_ge hM hd ht (fun q => absurd q h) (fun _ => kf)
theorem q_if_gt (hM : Mach l cc own nL D K G n0 J) {x : Int32} {off : Int} {tgt : Nat} (hd : decode cc pc = .ok (.ifCond .gt off, 3)) (ht : (pc : Int) + off = (tgt : Int)) (kt : 0 < x → J n I L X tgt lv rest) (kf : ¬ 0 < x → J n I L X (pc + 3) lv rest) : J n I L X pc lv (.int x :: rest) := by
  obtain ⟨p, e, Rm, s, m, args, below, meth, c, H0, Q, rfl, hx, hb, hml, hown, hT, hK, hbs, hR⟩ := hM
  exact fun hn H locs ls hz hP hS hl => lv_if_gt hx hb hd ht (fun c => kt c hn H locs ls hz hP hS hl) (fun c => kf c hn H locs ls hz hP hS hl)
theorem q_if_gt_t (hM : Mach l cc own nL D K G n0 J) {x : Int32} {off : Int} {tgt : Nat} (hd : decode cc pc = .ok (.ifCond .gt off, 3)) (h : 0 < x) (ht : (pc : Int) + off = (tgt : Int)) (kt : J n I L X tgt lv rest) : J n I L X pc lv (.int x :: rest) := q_if_gt hM hd ht (fun _ => kt) (fun q => absurd h q)
theorem q_if_gt_f (hM : Mach l cc own nL D K G n0 J) {x : Int32} {off : Int} {tgt : Nat} (hd : decode cc pc = .ok (.ifCond .gt off, 3)) (h : ¬ 0 < x) (ht : (pc : Int) + off = (tgt : Int)) (kf : J n I L X (pc + 3) lv rest) : J n I L X pc lv (.int x :: rest) := q_if_gt hM hd ht (fun q => absurd q h) (fun _ => kf)
theorem q_icmp_gt (hM : Mach l cc own nL D K G n0 J) {x y : Int32} {off : Int} {tgt : Nat} (hd : decode cc pc = .ok (.if_icmp .gt off, 3)) (ht : (pc : Int) + off = (tgt : Int)) (kt : y < x → J n I L X tgt lv rest) (kf : ¬ y < x → J n I L X (pc + 3) lv rest) : J n I L X pc lv (.int y :: .int x :: rest) := by
  obtain ⟨p, e, Rm, s, m, args, below, meth, c, H0, Q, rfl, hx, hb, hml, hown, hT, hK, hbs, hR⟩ := hM
  exact fun hn H locs ls hz hP hS hl => lv_icmp_gt hx hb hd ht (fun c => kt c hn H locs ls hz hP hS hl) (fun c => kf c hn H locs ls hz hP hS hl)
theorem q_icmp_gt_t (hM : Mach l cc own nL D K G n0 J) {x y : Int32} {off : Int} {tgt : Nat} (hd : decode cc pc = .ok (.if_icmp .gt off, 3)) (h : y < x) (ht : (pc : Int) + off = (tgt : Int)) (kt : J n I L X tgt lv rest) : J n I L X pc lv (.int y :: .int x :: rest) := q_icmp_gt hM hd ht (fun _ => kt) (fun q => absurd h q)
theorem q_icmp_gt_f (hM : Mach l cc own nL D K G n0 J) {x y : Int32} {off : Int} {tgt : Nat} (hd : decode cc pc = .ok (.if_icmp .gt off, 3)) (h : ¬ y < x) (ht : (pc : Int) + off = (tgt : Int)) (kf : J n I L X (pc + 3) lv rest) : J n I L X pc lv (.int y :: .int x :: rest) := q_icmp_gt hM hd ht (fun q => absurd q h) (fun _ => kf)
theorem q_if_le (hM : Mach l cc own nL D K G n0 J) {x : Int32} {off : Int} {tgt : Nat} (hd : decode cc pc = .ok (.ifCond .le off, 3)) (ht : (pc : Int) + off = (tgt : Int)) (kt : x ≤ 0 → J n I L X tgt lv rest) (kf : ¬ x ≤ 0 → J n I L X (pc + 3) lv rest) : J n I L X pc lv (.int x :: rest) := by
  obtain ⟨p, e, Rm, s, m, args, below, meth, c, H0, Q, rfl, hx, hb, hml, hown, hT, hK, hbs, hR⟩ := hM
  exact fun hn H locs ls hz hP hS hl => lv_if_le hx hb hd ht (fun c => kt c hn H locs ls hz hP hS hl) (fun c => kf c hn H locs ls hz hP hS hl)
theorem q_if_le_t (hM : Mach l cc own nL D K G n0 J) {x : Int32} {off : Int} {tgt : Nat} (hd : decode cc pc = .ok (.ifCond .le off, 3)) (h : x ≤ 0) (ht : (pc : Int) + off = (tgt : Int)) (kt : J n I L X tgt lv rest) : J n I L X pc lv (.int x :: rest) := q_if_le hM hd ht (fun _ => kt) (fun q => absurd h q)
theorem q_if_le_f (hM : Mach l cc own nL D K G n0 J) {x : Int32} {off : Int} {tgt : Nat} (hd : decode cc pc = .ok (.ifCond .le off, 3)) (h : ¬ x ≤ 0) (ht : (pc : Int) + off = (tgt : Int)) (kf : J n I L X (pc + 3) lv rest) : J n I L X pc lv (.int x :: rest) := q_if_le hM hd ht (fun q => absurd q h) (fun _ => kf)
theorem q_icmp_le (hM : Mach l cc own nL D K G n0 J) {x y : Int32} {off : Int} {tgt : Nat} (hd : decode cc pc = .ok (.if_icmp .le off, 3)) (ht : (pc : Int) + off = (tgt : Int)) (kt : x ≤ y → J n I L X tgt lv rest) (kf : ¬ x ≤ y → J n I L X (pc + 3) lv rest) : J n I L X pc lv (.int y :: .int x :: rest) := by
  obtain ⟨p, e, Rm, s, m, args, below, meth, c, H0, Q, rfl, hx, hb, hml, hown, hT, hK, hbs, hR⟩ := hM
  exact fun hn H locs ls hz hP hS hl => lv_icmp_le hx hb hd ht (fun c => kt c hn H locs ls hz hP hS hl) (fun c => kf c hn H locs ls hz hP hS hl)
theorem q_icmp_le_t (hM : Mach l cc own nL D K G n0 J) {x y : Int32} {off : Int} {tgt : Nat} (hd : decode cc pc = .ok (.if_icmp .le off, 3)) (h : x ≤ y) (ht : (pc : Int) + off = (tgt : Int)) (kt : J n I L X tgt lv rest) : J n I L X pc lv (.int y :: .int x :: rest) := q_icmp_le hM hd ht (fun _ => kt) (fun q => absurd h q)
theorem q_icmp_le_f (hM : Mach l cc own nL D K G n0 J) {x y : Int32} {off : Int} {tgt : Nat} (hd : decode cc pc = .ok (.if_icmp .le off, 3)) (h : ¬ x ≤ y) (ht : (pc : Int) + off = (tgt : Int)) (kf : J n I L X (pc + 3) lv rest) : J n I L X pc lv (.int y :: .int x :: rest) := q_icmp_le hM hd ht (fun q => absurd q h) (fun _ => kf)
theorem q_if_eq (hM : Mach l cc own nL D K G n0 J) {x : Int32} {off : Int} {tgt : Nat} (hd : decode cc pc = .ok (.ifCond .eq off, 3)) (ht : (pc : Int) + off = (tgt : Int)) (kt : x = 0 → J n I L X tgt lv rest) (kf : ¬ x = 0 → J n I L X (pc + 3) lv rest) : J n I L X pc lv (.int x :: rest) := by
  obtain ⟨p, e, Rm, s, m, args, below, meth, c, H0, Q, rfl, hx, hb, hml, hown, hT, hK, hbs, hR⟩ := hM
  exact fun hn H locs ls hz hP hS hl => lv_if_eq hx hb hd ht (fun c => kt c hn H locs ls hz hP hS hl) (fun c => kf c hn H locs ls hz hP hS hl)
theorem q_if_eq_t (hM : Mach l cc own nL D K G n0 J) {x : Int32} {off : Int} {tgt : Nat} (hd : decode cc pc = .ok (.ifCond .eq off, 3)) (h : x = 0) (ht : (pc : Int) + off = (tgt : Int)) (kt : J n I L X tgt lv rest) : J n I L X pc lv (.int x :: rest) := q_if_eq hM hd ht (fun _ => kt) (fun q => absurd h q)
theorem q_if_eq_f (hM : Mach l cc own nL D K G n0 J) {x : Int32} {off : Int} {tgt : Nat} (hd : decode cc pc = .ok (.ifCond .eq off, 3)) (h : ¬ x = 0) (ht : (pc : Int) + off = (tgt : Int)) (kf : J n I L X (pc + 3) lv rest) : J n I L X pc lv (.int x :: rest) := q_if_eq hM hd ht (fun q => absurd q h) (fun _ => kf)
theorem q_icmp_eq (hM : Mach l cc own nL D K G n0 J) {x y : Int32} {off : Int} {tgt : Nat} (hd : decode cc pc = .ok (.if_icmp .eq off, 3)) (ht : (pc : Int) + off = (tgt : Int)) (kt : x = y → J n I L X tgt lv rest) (kf : ¬ x = y → J n I L X (pc + 3) lv rest) : J n I L X pc lv (.int y :: .int x :: rest) := by
  obtain ⟨p, e, Rm, s, m, args, below, meth, c, H0, Q, rfl, hx, hb, hml, hown, hT, hK, hbs, hR⟩ := hM
  exact fun hn H locs ls hz hP hS hl => lv_icmp_eq hx hb hd ht (fun c => kt c hn H locs ls hz hP hS hl) (fun c => kf c hn H locs ls hz hP hS hl)
theorem q_icmp_eq_t (hM : Mach l cc own nL D K G n0 J) {x y : Int32} {off : Int} {tgt : Nat} (hd : decode cc pc = .ok (.if_icmp .eq off, 3)) (h : x = y) (ht : (pc : Int) + off = (tgt : Int)) (kt : J n I L X tgt lv rest) : J n I L X pc lv (.int y :: .int x :: rest) := q_icmp_eq hM hd ht (fun _ => kt) (fun q => absurd h q)
theorem q_icmp_eq_f (hM : Mach l cc own nL D K G n0 J) {x y : Int32} {off : Int} {tgt : Nat} (hd : decode cc pc = .ok (.if_icmp .eq off, 3)) (h : ¬ x = y) (ht : (pc : Int) + off = (tgt : Int)) (kf : J n I L X (pc + 3) lv rest) : J n I L X pc lv (.int y :: .int x :: rest) := q_icmp_eq hM hd ht (fun q => absurd q h) (fun _ => kf)
theorem q_if_ne (hM : Mach l cc own nL D K G n0 J) {x : Int32} {off : Int} {tgt : Nat} (hd : decode cc pc = .ok (.ifCond .ne off, 3)) (ht : (pc : Int) + off = (tgt : Int)) (kt : ¬ x = 0 → J n I L X tgt lv rest) (kf : x = 0 → J n I L X (pc + 3) lv rest) : J n I L X pc lv (.int x :: rest) := by
  obtain ⟨p, e, Rm, s, m, args, below, meth, c, H0, Q, rfl, hx, hb, hml, hown, hT, hK, hbs, hR⟩ := hM
  exact fun hn H locs ls hz hP hS hl => lv_if_ne hx hb hd ht (fun c => kt c hn H locs ls hz hP hS hl) (fun c => kf c hn H locs ls hz hP hS hl)
theorem q_if_ne_t (hM : Mach l cc own nL D K G n0 J) {x : Int32} {off : Int} {tgt : Nat} (hd : decode cc pc = .ok (.ifCond .ne off, 3)) (h : ¬ x = 0) (ht : (pc : Int) + off = (tgt : Int)) (kt : J n I L X tgt lv rest) : J n I L X pc lv (.int x :: rest) := q_if_ne hM hd ht (fun _ => kt) (fun q => absurd h (fun z => z q))
theorem q_if_ne_f (hM : Mach l cc own nL D K G n0 J) {x : Int32} {off : Int} {tgt : Nat} (hd : decode cc pc = .ok (.ifCond .ne off, 3)) (h : x = 0) (ht : (pc : Int) + off = (tgt : Int)) (kf : J n I L X (pc + 3) lv rest) : J n I L X pc lv (.int x :: rest) := q_if_ne hM hd ht (fun q => absurd h q) (fun _ => kf)
theorem q_icmp_ne (hM : Mach l cc own nL D K G n0 J) {x y : Int32} {off : Int} {tgt : Nat} (hd : decode cc pc = .ok (.if_icmp .ne off, 3)) (ht : (pc : Int) + off = (tgt : Int)) (kt : ¬ x = y → J n I L X tgt lv rest) (kf : x = y → J n I L X (pc + 3) lv rest) : J n I L X pc lv (.int y :: .int x :: rest) := by
  obtain ⟨p, e, Rm, s, m, args, below, meth, c, H0, Q, rfl, hx, hb, hml, hown, hT, hK, hbs, hR⟩ := hM
  exact fun hn H locs ls hz hP hS hl => lv_icmp_ne hx hb hd ht (fun c => kt c hn H locs ls hz hP hS hl) (fun c => kf c hn H locs ls hz hP hS hl)
theorem q_icmp_ne_t (hM : Mach l cc own nL D K G n0 J) {x y : Int32} {off : Int} {tgt : Nat} (hd : decode cc pc = .ok (.if_icmp .ne off, 3)) (h : ¬ x = y) (ht : (pc : Int) + off = (tgt : Int)) (kt : J n I L X tgt lv rest) : J n I L X pc lv (.int y :: .int x :: rest) := q_icmp_ne hM hd ht (fun _ => kt) (fun q => absurd h (fun z => z q))
theorem q_icmp_ne_f (hM : Mach l cc own nL D K G n0 J) {x y : Int32} {off : Int} {tgt : Nat} (hd : decode cc pc = .ok (.if_icmp .ne off, 3)) (h : x = y) (ht : (pc : Int) + off = (tgt : Int)) (kf : J n I L X (pc + 3) lv rest) : J n I L X pc lv (.int y :: .int x :: rest) := q_icmp_ne hM hd ht (fun q => absurd h q) (fun _ => kf)
theorem q_lookup (hM : Mach l cc own nL D K G n0 J) {dflt : Int} {ps : Array (Int × Int)} {len : Nat} {x : Int32} {off : Int} {tgt : Nat} (hd : decode cc pc = .ok (.lookupswitch dflt ps, len)) (hp : (ps.toList.zip (ps.toList.drop 1)).all (fun (a, next) => a.1 < next.1) = true) (ho : Op.lookupswitch.offset ps.toList dflt x.toInt = off) (ht : (pc : Int) + off = (tgt : Int)) (kk : J n I L X tgt lv rest) : J n I L X pc lv (.int x :: rest) := by
  obtain ⟨p, e, Rm, s, m, args, below, meth, c, H0, Q, rfl, hx, hb, hml, hown, hT, hK, hbs, hR⟩ := hM
  exact fun hn H locs ls hz hP hS hl => lv_lookup hx hb hd hp ho ht (kk hn H locs ls hz hP hS hl)
theorem q_tableOut (hM : Mach l cc own nL D K G n0 J) {dflt lo hi : Int} {offs : Array Int} {len : Nat} {x : Int32} {tgt : Nat} (hd : decode cc pc = .ok (.tableswitch dflt lo hi offs, len)) (h : x.toInt < lo ∨ hi < x.toInt) (ht : (pc : Int) + dflt = (tgt : Int)) (kk : J n I L X tgt lv rest) : J n I L X pc lv (.int x :: rest) := by
  obtain ⟨p, e, Rm, s, m, args, below, meth, c, H0, Q, rfl, hx, hb, hml, hown, hT, hK, hbs, hR⟩ := hM
  exact fun hn H locs ls hz hP hS hl => lv_tableOut hx hb hd h ht (kk hn H locs ls hz hP hS hl)
theorem q_tableIn (hM : Mach l cc own nL D K G n0 J) {dflt lo hi : Int} {offs : Array Int} {len : Nat} {x : Int32} {off : Int} {tgt : Nat} (hd : decode cc pc = .ok (.tableswitch dflt lo hi offs, len)) (h1 : ¬ x.toInt < lo) (h2 : ¬ hi < x.toInt) (ho : offs[(x.toInt - lo).toNat]? = some off) (ht : (pc : Int) + off = (tgt : Int)) (kk : J n I L X tgt lv rest) : J n I L X pc lv (.int x :: rest) := by
  obtain ⟨p, e, Rm, s, m, args, below, meth, c, H0, Q, rfl, hx, hb, hml, hown, hT, hK, hbs, hR⟩ := hM
  exact fun hn H locs ls hz hP hS hl => lv_tableIn hx hb hd h1 h2 ho ht (kk hn H locs ls hz hP hS hl)
theorem q_istore_n (hM : Mach l cc own nL D K G n0 J) {k : Fin 4} {i : Nat} {x : Int32} (hd : decode cc pc = .ok (.istore_n k, 1)) (hi : (k : Nat) = i) (hn : i < nL) (hp : i ≠ 0 → oc1 (lv.getD (i - 1) none) = true) (kk : J n I L X (pc + 1) (lv.set i (some (.int x))) rest) : J n I L X pc lv (.int x :: rest) := by
  obtain ⟨p, e, Rm, s, m, args, below, meth, c, H0, Q, rfl, hx, hb, hml, hown, hT, hK, hbs, hR⟩ := hM
  exact fun hn0 H locs ls hz hP hS hl => lv_istore_n hx hb hd hi hl.has hn rfl (fun ls' h' => kk hn0 H locs ls' hz hP hS (lvO.of1 h' hp))
theorem q_istore (hM : Mach l cc own nL D K G n0 J) {i : Nat} {x : Int32} (hd : decode cc pc = .ok (.istore i, 2)) (hn : i < nL) (hp : i ≠ 0 → oc1 (lv.getD (i - 1) none) = true) (kk : J n I L X (pc + 2) (lv.set i (some (.int x))) rest) : J n I L X pc lv (.int x :: rest) := by
  obtain ⟨p, e, Rm, s, m, args, below, meth, c, H0, Q, rfl, hx, hb, hml, hown, hT, hK, hbs, hR⟩ := hM
  exact fun hn0 H locs ls hz hP hS hl => lv_istore hx hb hd hl.has hn rfl (fun ls' h' => kk hn0 H locs ls' hz hP hS (lvO.of1 h' hp))
theorem q_astore_n (hM : Mach l cc own nL D K G n0 J) {k : Fin 4} {i : Nat} {x : Nat} (hd : decode cc pc = .ok (.astore_n k, 1)) (hi : (k : Nat) = i) (hn : i < nL) (hp : i ≠ 0 → oc1 (lv.getD (i - 1) none) = true) (kk : J n I L X (pc + 1) (lv.set i (some (.ref x))) rest) : J n I L X pc lv (.ref x :: rest) := by
  obtain ⟨p, e, Rm, s, m, args, below, meth, c, H0, Q, rfl, hx, hb, hml, hown, hT, hK, hbs, hR⟩ := hM
  exact fun hn0 H locs ls hz hP hS hl => lv_astore_n hx hb hd hi hl.has hn rfl (fun ls' h' => kk hn0 H locs ls' hz hP hS (lvO.of1 h' hp))
theorem q_astore (hM : Mach l cc own nL D K G n0 J) {i : Nat} {x : Nat} (hd : decode cc pc = .ok (.astore i, 2)) (hn : i < nL) (hp : i ≠ 0 → oc1 (lv.getD (i - 1) none) = true) (kk : J n I L X (pc + 2) (lv.set i (some (.ref x))) rest) : J n I L X pc lv (.ref x :: rest) := by
  obtain ⟨p, e, Rm, s, m, args, below, meth, c, H0, Q, rfl, hx, hb, hml, hown, hT, hK, hbs, hR⟩ := hM
  exact fun hn0 H locs ls hz hP hS hl => lv_astore hx hb hd hl.has hn rfl (fun ls' h' => kk hn0 H locs ls' hz hP hS (lvO.of1 h' hp))
theorem q_astore_nN (hM : Mach l cc own nL D K G n0 J) {k : Fin 4} {i : Nat} (hd : decode cc pc = .ok (.astore_n k, 1)) (hi : (k : Nat) = i) (hn : i < nL) (hp : i ≠ 0 → oc1 (lv.getD (i - 1) none) = true) (kk : J n I L X (pc + 1) (lv.set i (some .null)) rest) : J n I L X pc lv (.null :: rest) := by
  obtain ⟨p, e, Rm, s, m, args, below, meth, c, H0, Q, rfl, hx, hb, hml, hown, hT, hK, hbs, hR⟩ := hM
  exact fun hn0 H locs ls hz hP hS hl => lv_astore_nN hx hb hd hi hl.has hn rfl (fun ls' h' => kk hn0 H locs ls' hz hP hS (lvO.of1 h' hp))
theorem q_astoreN (hM : Mach l cc own nL D K G n0 J) {i : Nat} (hd : decode cc pc = .ok (.astore i, 2)) (hn : i < nL) (hp : i ≠ 0 → oc1 (lv.getD (i - 1) none) = true) (kk : J n I L X (pc + 2) (lv.set i (some .null)) rest) : J n I L X pc lv (.null :: rest) := by
  obtain ⟨p, e, Rm, s, m, args, below, meth, c, H0, Q, rfl, hx, hb, hml, hown, hT, hK, hbs, hR⟩ := hM
  exact fun hn0 H locs ls hz hP hS hl => lv_astoreN hx hb hd hl.has hn rfl (fun ls' h' => kk hn0 H locs ls' hz hP hS (lvO.of1 h' hp))
theorem q_iinc (hM : Mach l cc own nL D K G n0 J) {i : Nat} {z : Int} {x v : Int32} (hd : decode cc pc = .ok (.iinc i z, 3)) (hn : i < nL) (hp : i ≠ 0 → oc1 (lv.getD (i - 1) none) = true) (hx0 : lv[i]? = some (some (.int x))) (hv : x + Int32.ofInt z = v) (kk : J n I L X (pc + 3) (lv.set i (some (.int v))) rest) : J n I L X pc lv rest := by
  obtain ⟨p, e, Rm, s, m, args, below, meth, c, H0, Q, rfl, hx, hb, hml, hown, hT, hK, hbs, hR⟩ := hM
  intro hn0 H locs ls hz hP hS hl
  obtain ⟨k, hk⟩ := List.getElem?_of_mem (lvL_mem.mpr hx0)
  exact lv_iinc hx hb hd hl.has hk hv hn rfl (fun ls' h' => kk hn0 H locs ls' hz hP hS (lvO.of1 h' hp))
/-- a long -/
theorem lvO.of2 {ls' : Array Slot} {nL i : Nat} {lv : kV} {v : Value} (h : lv_has ls' nL ((i, v) :: (lvL lv).filter (fun q => !(q.1 == i) && (!(q.1 == i + 1) && !(q.1 + 1 == i && q.2.category == 2))))) (hp : i ≠ 0 → oc1 (lv.getD (i - 1) none) = true) : lvO ls' nL ((lv.set i (some v)).set (i + 1) none) := by
  refine ⟨h.1, h.2.1, fun j w hj => ?_⟩
  by_cases hj2 : j = i + 1
  · subst hj2
    by_cases hl : i + 1 < lv.length
    · rw [List.getElem?_set_self (by rw [List.length_set]; exact hl)] at hj
      cases hj
    · rw [List.getElem?_eq_none (by rw [List.length_set, List.length_set]; omega)] at hj
      cases hj
  rw [List.getElem?_set_ne (Ne.symm hj2)] at hj
  by_cases hji : j = i
  · subst hji
    have hl : j < lv.length := by have := (List.getElem?_eq_some_iff.mp hj).1; simpa using this
    rw [List.getElem?_set_self hl] at hj
    cases hj
    exact h.2.2 (j, v) List.mem_cons_self
  · rw [List.getElem?_set_ne (Ne.symm hji)] at hj
    refine h.2.2 (j, w) (List.mem_cons_of_mem _ (List.mem_filter.mpr ⟨lvL_mem.mpr hj, ?_⟩))
    by_cases hj1 : j + 1 = i
    · have h2 := hp (by omega)
      rw [show i - 1 = j by omega, List.getD_eq_getElem?_getD, hj] at h2
      have h3 : w.category = 1 := by simpa [oc1] using h2
      simp [hji, hj2, h3]
    · simp [hji, hj1, hj2]
theorem q_lstore_n (hM : Mach l cc own nL D K G n0 J) {k : Fin 4} {i : Nat} {x : Int64} (hd : decode cc pc = .ok (.lstore_n k, 1)) (hi : (k : Nat) = i) (hn : i + 1 < nL) (hp : i ≠ 0 → oc1 (lv.getD (i - 1) none) = true) (kk : J n I L X (pc + 1) ((lv.set i (some (.long x))).set (i + 1) none) rest) : J n I L X pc lv (.long x :: rest) := by
  obtain ⟨p, e, Rm, s, m, args, below, meth, c, H0, Q, rfl, hx, hb, hml, hown, hT, hK, hbs, hR⟩ := hM
  exact fun hn0 H locs ls hz hP hS hl => lv_lstore_n hx hb hd hi hl.has hn rfl (fun ls' h' => kk hn0 H locs ls' hz hP hS (lvO.of2 h' hp))
theorem q_lstore (hM : Mach l cc own nL D K G n0 J) {i : Nat} {x : Int64} (hd : decode cc pc = .ok (.lstore i, 2)) (hn : i + 1 < nL) (hp : i ≠ 0 → oc1 (lv.getD (i - 1) none) = true) (kk : J n I L X (pc + 2) ((lv.set i (some (.long x))).set (i + 1) none) rest) : J n I L X pc lv (.long x :: rest) := by
  obtain ⟨p, e, Rm, s, m, args, below, meth, c, H0, Q, rfl, hx, hb, hml, hown, hT, hK, hbs, hR⟩ := hM
  exact fun hn0 H locs ls hz hP hS hl => lv_lstore hx hb hd hl.has hn rfl (fun ls' h' => kk hn0 H locs ls' hz hP hS (lvO.of2 h' hp))
theorem q_locals (hM : Mach l cc own nL D K G n0 J) {lv' : kV} {st : List Value} (hs : ∀ (i : Nat) (v : Value), lv'[i]? = some (some v) → lv[i]? = some (some v)) (kk : J n I L X pc lv' st) : J n I L X pc lv st := by
  obtain ⟨p, e, Rm, s, m, args, below, meth, c, H0, Q, rfl, hx, hb, hml, hown, hT, hK, hbs, hR⟩ := hM
  exact fun hn0 H locs ls hz hP hS hl => kk hn0 H locs ls hz hP hS (hl.sub hs)
end QR
section QV
variable {l : Launch} {cc : ByteArray} {own : String} {D K : Nat} {G : kG} {n0 : Nat} {J : kJ} {n : Nat} {I : kI} {L : kL} {X : kX} {pc : Nat} {rest : List Value}
theorem si_1_0 (hM : Mach l cc own 1 D K G n0 J) {a0 : Option Value} {x : Int32} (hd : decode cc pc = .ok (.istore_n 0, 1)) (kk : J n I L X (pc + 1) [some (.int x)] rest) : J n I L X pc [a0] (.int x :: rest) := q_istore_n hM hd rfl (by decide) (fun h => absurd rfl h) kk
theorem sa_1_0 (hM : Mach l cc own 1 D K G n0 J) {a0 : Option Value} {x : Nat} (hd : decode cc pc = .ok (.astore_n 0, 1)) (kk : J n I L X (pc + 1) [some (.ref x)] rest) : J n I L X pc [a0] (.ref x :: rest) := q_astore_n hM hd rfl (by decide) (fun h => absurd rfl h) kk
theorem saN_1_0 (hM : Mach l cc own 1 D K G n0 J) {a0 : Option Value} (hd : decode cc pc = .ok (.astore_n 0, 1)) (kk : J n I L X (pc + 1) [some .null] rest) : J n I L X pc [a0] (.null :: rest) := q_astore_nN hM hd rfl (by decide) (fun h => absurd rfl h) kk
theorem sinc_1_0 (hM : Mach l cc own 1 D K G n0 J)  {x v : Int32} {z : Int} (hd : decode cc pc = .ok (.iinc 0 z, 3)) (hv : x + Int32.ofInt z = v) (kk : J n I L X (pc + 3) [some (.int v)] rest) : J n I L X pc [some (.int x)] rest := q_iinc hM hd (by decide) (fun h => absurd rfl h) rfl hv kk
theorem si_2_0 (hM : Mach l cc own 2 D K G n0 J) {a0 a1 : Option Value} {x : Int32} (hd : decode cc pc = .ok (.istore_n 0, 1)) (kk : J n I L X (pc + 1) [some (.int x), a1] rest) : J n I L X pc [a0, a1] (.int x :: rest) := q_istore_n hM hd rfl (by decide) (fun h => absurd rfl h) kk
theorem sa_2_0 (hM : Mach l cc own 2 D K G n0 J) {a0 a1 : Option Value} {x : Nat} (hd : decode cc pc = .ok (.astore_n 0, 1)) (kk : J n I L X (pc + 1) [some (.ref x), a1] rest) : J n I L X pc [a0, a1] (.ref x :: rest) := q_astore_n hM hd rfl (by decide) (fun h => absurd rfl h) kk
theorem saN_2_0 (hM : Mach l cc own 2 D K G n0 J) {a0 a1 : Option Value} (hd : decode cc pc = .ok (.astore_n 0, 1)) (kk : J n I L X (pc + 1) [some .null, a1] rest) : J n I L X pc [a0, a1] (.null :: rest) := q_astore_nN hM hd rfl (by decide) (fun h => absurd rfl h) kk
theorem sinc_2_0 (hM : Mach l cc own 2 D K G n0 J) {a1 : Option Value} {x v : Int32} {z : Int} (hd : decode cc pc = .ok (.iinc 0 z, 3)) (hv : x + Int32.ofInt z = v) (kk : J n I L X (pc + 3) [some (.int v), a1] rest) : J n I L X pc [some (.int x), a1] rest := q_iinc hM hd (by decide) (fun h => absurd rfl h) rfl hv kk
theorem sl_2_0 (hM : Mach l cc own 2 D K G n0 J) {a0 a1 : Option Value} {x : Int64} (hd : decode cc pc = .ok (.lstore_n 0, 1)) (kk : J n I L X (pc + 1) [some (.long x), none] rest) : J n I L X pc [a0, a1] (.long x :: rest) := q_lstore_n hM hd rfl (by decide) (fun h => absurd rfl h) kk
theorem si_2_1 (hM : Mach l cc own 2 D K G n0 J) {a0 a1 : Option Value} {x : Int32} (hd : decode cc pc = .ok (.istore_n 1, 1)) (kk : J n I L X (pc + 1) [a0, some (.int x)] rest) (hp : oc1 a0 = true := by rfl) : J n I L X pc [a0, a1] (.int x :: rest) := q_istore_n hM hd rfl (by decide) (fun _ => hp) kk
theorem sa_2_1 (hM : Mach l cc own 2 D K G n0 J) {a0 a1 : Option Value} {x : Nat} (hd : decode cc pc = .ok (.astore_n 1, 1)) (kk : J n I L X (pc + 1) [a0, some (.ref x)] rest) (hp : oc1 a0 = true := by rfl) : J n I L X pc [a0, a1] (.ref x :: rest) := q_astore_n hM hd rfl (by decide) (fun _ => hp) kk
theorem saN_2_1 (hM : Mach l cc own 2 D K G n0 J) {a0 a1 : Option Value} (hd : decode cc pc = .ok (.astore_n 1, 1)) (kk : J n I L X (pc + 1) [a0, some .null] rest) (hp : oc1 a0 = true := by rfl) : J n I L X pc [a0, a1] (.null :: rest) := q_astore_nN hM hd rfl (by decide) (fun _ => hp) kk
theorem sinc_2_1 (hM : Mach l cc own 2 D K G n0 J) {a0 : Option Value} {x v : Int32} {z : Int} (hd : decode cc pc = .ok (.iinc 1 z, 3)) (hv : x + Int32.ofInt z = v) (kk : J n I L X (pc + 3) [a0, some (.int v)] rest) (hp : oc1 a0 = true := by rfl) : J n I L X pc [a0, some (.int x)] rest := q_iinc hM hd (by decide) (fun _ => hp) rfl hv kk
theorem si_3_0 (hM : Mach l cc own 3 D K G n0 J) {a0 a1 a2 : Option Value} {x : Int32} (hd : decode cc pc = .ok (.istore_n 0, 1)) (kk : J n I L X (pc + 1) [some (.int x), a1, a2] rest) : J n I L X pc [a0, a1, a2] (.int x :: rest) := q_istore_n hM hd rfl (by decide) (fun h => absurd rfl h) kk
theorem sa_3_0 (hM : Mach l cc own 3 D K G n0 J) {a0 a1 a2 : Option Value} {x : Nat} (hd : decode cc pc = .ok (.astore_n 0, 1)) (kk : J n I L X (pc + 1) [some (.ref x), a1, a2] rest) : J n I L X pc [a0, a1, a2] (.ref x :: rest) := q_astore_n hM hd rfl (by decide) (fun h => absurd rfl h) kk
theorem saN_3_0 (hM : Mach l cc own 3 D K G n0 J) {a0 a1 a2 : Option Value} (hd : decode cc pc = .ok (.astore_n 0, 1)) (kk : J n I L X (pc + 1) [some .null, a1, a2] rest) : J n I L X pc [a0, a1, a2] (.null :: rest) := q_astore_nN hM hd rfl (by decide) (fun h => absurd rfl h) kk
theorem sinc_3_0 (hM : Mach l cc own 3 D K G n0 J) {a1 a2 : Option Value} {x v : Int32} {z : Int} (hd : decode cc pc = .ok (.iinc 0 z, 3)) (hv : x + Int32.ofInt z = v) (kk : J n I L X (pc + 3) [some (.int v), a1, a2] rest) : J n I L X pc [some (.int x), a1, a2] rest := q_iinc hM hd (by decide) (fun h => absurd rfl h) rfl hv kk
theorem sl_3_0 (hM : Mach l cc own 3 D K G n0 J) {a0 a1 a2 : Option Value} {x : Int64} (hd : decode cc pc = .ok (.lstore_n 0, 1)) (kk : J n I L X (pc + 1) [some (.long x), none, a2] rest) : J n I L X pc [a0, a1, a2] (.long x :: rest) := q_lstore_n hM hd rfl (by decide) (fun h => absurd rfl h) kk
theorem si_3_1 (hM : Mach l cc own 3 D K G n0 J) {a0 a1 a2 : Option Value} {x : Int32} (hd : decode cc pc = .ok (.istore_n 1, 1)) (kk : J n I L X (pc + 1) [a0, some (.int x), a2] rest) (hp : oc1 a0 = true := by rfl) : J n I L X pc [a0, a1, a2] (.int x :: rest) := q_istore_n hM hd rfl (by decide) (fun _ => hp) kk
theorem sa_3_1 (hM : Mach l cc own 3 D K G n0 J) {a0 a1 a2 : Option Value} {x : Nat} (hd : decode cc pc = .ok (.astore_n 1, 1)) (kk : J n I L X (pc + 1) [a0, some (.ref x), a2] rest) (hp : oc1 a0 = true := by rfl) : J n I L X pc [a0, a1, a2] (.ref x :: rest) := q_astore_n hM hd rfl (by decide) (fun _ => hp) kk
theorem saN_3_1 (hM : Mach l cc own 3 D K G n0 J) {a0 a1 a2 : Option Value} (hd : decode cc pc = .ok (.astore_n 1, 1)) (kk : J n I L X (pc + 1) [a0, some .null, a2] rest) (hp : oc1 a0 = true := by rfl) : J n I L X pc [a0, a1, a2] (.null :: rest) := q_astore_nN hM hd rfl (by decide) (fun _ => hp) kk
theorem sinc_3_1 (hM : Mach l cc own 3 D K G n0 J) {a0 a2 : Option Value} {x v : Int32} {z : Int} (hd : decode cc pc = .ok (.iinc 1 z, 3)) (hv : x + Int32.ofInt z = v) (kk : J n I L X (pc + 3) [a0, some (.int v), a2] rest) (hp : oc1 a0 = true := by rfl) : J n I L X pc [a0, some (.int x), a2] rest := q_iinc hM hd (by decide) (fun _ => hp) rfl hv kk
theorem sl_3_1 (hM : Mach l cc own 3 D K G n0 J) {a0 a1 a2 : Option Value} {x : Int64} (hd : decode cc pc = .ok (.lstore_n 1, 1)) (kk : J n I L X (pc + 1) [a0, some (.long x), none] rest) (hp : oc1 a0 = true := by rfl) : J n I L X pc [a0, a1, a2] (.long x :: rest) := q_lstore_n hM hd rfl (by decide) (fun _ => hp) kk
theorem si_3_2 (hM : Mach l cc own 3 D K G n0 J) {a0 a1 a2 : Option Value} {x : Int32} (hd : decode cc pc = .ok (.istore_n 2, 1)) (kk : J n I L X (pc + 1) [a0, a1, some (.int x)] rest) (hp : oc1 a1 = true := by rfl) : J n I L X pc [a0, a1, a2] (.int x :: rest) := q_istore_n hM hd rfl (by decide) (fun _ => hp) kk
theorem sa_3_2 (hM : Mach l cc own 3 D K G n0 J) {a0 a1 a2 : Option Value} {x : Nat} (hd : decode cc pc = .ok (.astore_n 2, 1)) (kk : J n I L X (pc + 1) [a0, a1, some (.ref x)] rest) (hp : oc1 a1 = true := by rfl) : J n I L X pc [a0, a1, a2] (.ref x :: rest) := q_astore_n hM hd rfl (by decide) (fun _ => hp) kk
theorem saN_3_2 (hM : Mach l cc own 3 D K G n0 J) {a0 a1 a2 : Option Value} (hd : decode cc pc = .ok (.astore_n 2, 1)) (kk : J n I L X (pc + 1) [a0, a1, some .null] rest) (hp : oc1 a1 = true := by rfl) : J n I L X pc [a0, a1, a2] (.null :: rest) := q_astore_nN hM hd rfl (by decide) (fun _ => hp) kk
theorem sinc_3_2 (hM : Mach l cc own 3 D K G n0 J) {a0 a1 : Option Value} {x v : Int32} {z : Int} (hd : decode cc pc = .ok (.iinc 2 z, 3)) (hv : x + Int32.ofInt z = v) (kk : J n I L X (pc + 3) [a0, a1, some (.int v)] rest) (hp : oc1 a1 = true := by rfl) : J n I L X pc [a0, a1, some (.int x)] rest := q_iinc hM hd (by decide) (fun _ => hp) rfl hv kk
theorem si_4_0 (hM : Mach l cc own 4 D K G n0 J) {a0 a1 a2 a3 : Option Value} {x : Int32} (hd : decode cc pc = .ok (.istore_n 0, 1)) (kk : J n I L X (pc + 1) [some (.int x), a1, a2, a3] rest) : J n I L X pc [a0, a1, a2, a3] (.int x :: rest) := q_istore_n hM hd rfl (by decide) (fun h => absurd rfl h) kk
theorem sa_4_0 (hM : Mach l cc own 4 D K G n0 J) {a0 a1 a2 a3 : Option Value} {x : Nat} (hd : decode cc pc = .ok (.astore_n 0, 1)) (kk : J n I L X (pc + 1) [some (.ref x), a1, a2, a3] rest) : J n I L X pc [a0, a1, a2, a3] (.ref x :: rest) := q_astore_n hM hd rfl (by decide) (fun h => absurd rfl h) kk
theorem saN_4_0 (hM : Mach l cc own 4 D K G n0 J) {a0 a1 a2 a3 : Option Value} (hd : decode cc pc = .ok (.astore_n 0, 1)) (kk : J n I L X (pc + 1) [some .null, a1, a2, a3] rest) : J n I L X pc [a0, a1, a2, a3] (.null :: rest) := q_astore_nN hM hd rfl (by decide) (fun h => absurd rfl h) kk
theorem sinc_4_0 (hM : Mach l cc own 4 D K G n0 J) {a1 a2 a3 : Option Value} {x v : Int32} {z : Int} (hd : decode cc pc = .ok (.iinc 0 z, 3)) (hv : x + Int32.ofInt z = v) (kk : J n I L X (pc + 3) [some (.int v), a1, a2, a3] rest) : J n I L X pc [some (.int x), a1, a2, a3] rest := q_iinc hM hd (by decide) (fun h => absurd rfl h) rfl hv kk
theorem sl_4_0 (hM : Mach l cc own 4 D K G n0 J) {a0 a1 a2 a3 : Option Value} {x : Int64} (hd : decode cc pc = .ok (.lstore_n 0, 1)) (kk : J n I L X (pc + 1) [some (.long x), none, a2, a3] rest) : J n I L X pc [a0, a1, a2, a3] (.long x :: rest) := q_lstore_n hM hd rfl (by decide) (fun h => absurd rfl h) kk
theorem si_4_1 (hM : Mach l cc own 4 D K G n0 J) {a0 a1 a2 a3 : Option Value} {x : Int32} (hd : decode cc pc = .ok (.istore_n 1, 1)) (kk : J n I L X (pc + 1) [a0, some (.int x), a2, a3] rest) (hp : oc1 a0 = true := by rfl) : J n I L X pc [a0, a1, a2, a3] (.int x :: rest) := q_istore_n hM hd rfl (by decide) (fun _ => hp) kk
theorem sa_4_1 (hM : Mach l cc own 4 D K G n0 J) {a0 a1 a2 a3 : Option Value} {x : Nat} (hd : decode cc pc = .ok (.astore_n 1, 1)) (kk : J n I L X (pc + 1) [a0, some (.ref x), a2, a3] rest) (hp : oc1 a0 = true := by rfl) : J n I L X pc [a0, a1, a2, a3] (.ref x :: rest) := q_astore_n hM hd rfl (by decide) (fun _ => hp) kk
theorem saN_4_1 (hM : Mach l cc own 4 D K G n0 J) {a0 a1 a2 a3 : Option Value} (hd : decode cc pc = .ok (.astore_n 1, 1)) (kk : J n I L X (pc + 1) [a0, some .null, a2, a3] rest) (hp : oc1 a0 = true := by rfl) : J n I L X pc [a0, a1, a2, a3] (.null :: rest) := q_astore_nN hM hd rfl (by decide) (fun _ => hp) kk
theorem sinc_4_1 (hM : Mach l cc own 4 D K G n0 J) {a0 a2 a3 : Option Value} {x v : Int32} {z : Int} (hd : decode cc pc = .ok (.iinc 1 z, 3)) (hv : x + Int32.ofInt z = v) (kk : J n I L X (pc + 3) [a0, some (.int v), a2, a3] rest) (hp : oc1 a0 = true := by rfl) : J n I L X pc [a0, some (.int x), a2, a3] rest := q_iinc hM hd (by decide) (fun _ => hp) rfl hv kk
theorem sl_4_1 (hM : Mach l cc own 4 D K G n0 J) {a0 a1 a2 a3 : Option Value} {x : Int64} (hd : decode cc pc = .ok (.lstore_n 1, 1)) (kk : J n I L X (pc + 1) [a0, some (.long x), none, a3] rest) (hp : oc1 a0 = true := by rfl) : J n I L X pc [a0, a1, a2, a3] (.long x :: rest) := q_lstore_n hM hd rfl (by decide) (fun _ => hp) kk
theorem si_4_2 (hM : Mach l cc own 4 D K G n0 J) {a0 a1 a2 a3 : Option Value} {x : Int32} (hd : decode cc pc = .ok (.istore_n 2, 1)) (kk : J n I L X (pc + 1) [a0, a1, some (.int x), a3] rest) (hp : oc1 a1 = true := by rfl) : J n I L X pc [a0, a1, a2, a3] (.int x :: rest) := q_istore_n hM hd rfl (by decide) (fun _ => hp) kk
theorem sa_4_2 (hM : Mach l cc own 4 D K G n0 J) {a0 a1 a2 a3 : Option Value} {x : Nat} (hd : decode cc pc = .ok (.astore_n 2, 1)) (kk : J n I L X (pc + 1) [a0, a1, some (.ref x), a3] rest) (hp : oc1 a1 = true := by rfl) : J n I L X pc [a0, a1, a2, a3] (.ref x :: rest) := q_astore_n hM hd rfl (by decide) (fun _ => hp) kk
theorem saN_4_2 (hM : Mach l cc own 4 D K G n0 J) {a0 a1 a2 a3 : Option Value} (hd : decode cc pc = .ok (.astore_n 2, 1)) (kk : J n I L X (pc + 1) [a0, a1, some .null, a3] rest) (hp : oc1 a1 = true := by rfl) : J n I L X pc [a0, a1, a2, a3] (.null :: rest) := q_astore_nN hM hd rfl (by decide) (fun _ => hp) kk
theorem sinc_4_2 (hM : Mach l cc own 4 D K G n0 J) {a0 a1 a3 : Option Value} {x v : Int32} {z : Int} (hd : decode cc pc = .ok (.iinc 2 z, 3)) (hv : x + Int32.ofInt z = v) (kk : J n I L X (pc + 3) [a0, a1, some (.int v), a3] rest) (hp : oc1 a1 = true := by rfl) : J n I L X pc [a0, a1, some (.int x), a3] rest := q_iinc hM hd (by decide) (fun _ => hp) rfl hv kk
theorem sl_4_2 (hM : Mach l cc own 4 D K G n0 J) {a0 a1 a2 a3 : Option Value} {x : Int64} (hd : decode cc pc = .ok (.lstore_n 2, 1)) (kk : J n I L X (pc + 1) [a0, a1, some (.long x), none] rest) (hp : oc1 a1 = true := by rfl) : J n I L X pc [a0, a1, a2, a3] (.long x :: rest) := q_lstore_n hM hd rfl (by decide) (fun _ => hp) kk
theorem si_4_3 (hM : Mach l cc own 4 D K G n0 J) {a0 a1 a2 a3 : Option Value} {x : Int32} (hd : decode cc pc = .ok (.istore_n 3, 1)) (kk : J n I L X (pc + 1) [a0, a1, a2, some (.int x)] rest) (hp : oc1 a2 = true := by rfl) : J n I L X pc [a0, a1, a2, a3] (.int x :: rest) := q_istore_n hM hd rfl (by decide) (fun _ => hp) kk
theorem sa_4_3 (hM : Mach l cc own 4 D K G n0 J) {a0 a1 a2 a3 : Option Value} {x : Nat} (hd : decode cc pc = .ok (.astore_n 3, 1)) (kk : J n I L X (pc + 1) [a0, a1, a2, some (.ref x)] rest) (hp : oc1 a2 = true := by rfl) : J n I L X pc [a0, a1, a2, a3] (.ref x :: rest) := q_astore_n hM hd rfl (by decide) (fun _ => hp) kk
theorem saN_4_3 (hM : Mach l cc own 4 D K G n0 J) {a0 a1 a2 a3 : Option Value} (hd : decode cc pc = .ok (.astore_n 3, 1)) (kk : J n I L X (pc + 1) [a0, a1, a2, some .null] rest) (hp : oc1 a2 = true := by rfl) : J n I L X pc [a0, a1, a2, a3] (.null :: rest) := q_astore_nN hM hd rfl (by decide) (fun _ => hp) kk
theorem sinc_4_3 (hM : Mach l cc own 4 D K G n0 J) {a0 a1 a2 : Option Value} {x v : Int32} {z : Int} (hd : decode cc pc = .ok (.iinc 3 z, 3)) (hv : x + Int32.ofInt z = v) (kk : J n I L X (pc + 3) [a0, a1, a2, some (.int v)] rest) (hp : oc1 a2 = true := by rfl) : J n I L X pc [a0, a1, a2, some (.int x)] rest := q_iinc hM hd (by decide) (fun _ => hp) rfl hv kk
theorem si_5_0 (hM : Mach l cc own 5 D K G n0 J) {a0 a1 a2 a3 a4 : Option Value} {x : Int32} (hd : decode cc pc = .ok (.istore_n 0, 1)) (kk : J n I L X (pc + 1) [some (.int x), a1, a2, a3, a4] rest) : J n I L X pc [a0, a1, a2, a3, a4] (.int x :: rest) := q_istore_n hM hd rfl (by decide) (fun h => absurd rfl h) kk
theorem sa_5_0 (hM : Mach l cc own 5 D K G n0 J) {a0 a1 a2 a3 a4 : Option Value} {x : Nat} (hd : decode cc pc = .ok (.astore_n 0, 1)) (kk : J n I L X (pc + 1) [some (.ref x), a1, a2, a3, a4] rest) : J n I L X pc [a0, a1, a2, a3, a4] (.ref x :: rest) := q_astore_n hM hd rfl (by decide) (fun h => absurd rfl h) kk
theorem saN_5_0 (hM : Mach l cc own 5 D K G n0 J) {a0 a1 a2 a3 a4 : Option Value} (hd : decode cc pc = .ok (.astore_n 0, 1)) (kk : J n I L X (pc + 1) [some .null, a1, a2, a3, a4] rest) : J n I L X pc [a0, a1, a2, a3, a4] (.null :: rest) := q_astore_nN hM hd rfl (by decide) (fun h => absurd rfl h) kk
theorem sinc_5_0 (hM : Mach l cc own 5 D K G n0 J) {a1 a2 a3 a4 : Option Value} {x v : Int32} {z : Int} (hd : decode cc pc = .ok (.iinc 0 z, 3)) (hv : x + Int32.ofInt z = v) (kk : J n I L X (pc + 3) [some (.int v), a1, a2, a3, a4] rest) : J n I L X pc [some (.int x), a1, a2, a3, a4] rest := q_iinc hM hd (by decide) (fun h => absurd rfl h) rfl hv kk
theorem sl_5_0 (hM : Mach l cc own 5 D K G n0 J) {a0 a1 a2 a3 a4 : Option Value} {x : Int64} (hd : decode cc pc = .ok (.lstore_n 0, 1)) (kk : J n I L X (pc + 1) [some (.long x), none, a2, a3, a4] rest) : J n I L X pc [a0, a1, a2, a3, a4] (.long x :: rest) := q_lstore_n hM hd rfl (by decide) (fun h => absurd rfl h) kk
theorem si_5_1 (hM : Mach l cc own 5 D K G n0 J) {a0 a1 a2 a3 a4 : Option Value} {x : Int32} (hd : decode cc pc = .ok (.istore_n 1, 1)) (kk : J n I L X (pc + 1) [a0, some (.int x), a2, a3, a4] rest) (hp : oc1 a0 = true := by rfl) : J n I L X pc [a0, a1, a2, a3, a4] (.int x :: rest) := q_istore_n hM hd rfl (by decide) (fun _ => hp) kk
theorem sa_5_1 (hM : Mach l cc own 5 D K G n0 J) {a0 a1 a2 a3 a4 : Option Value} {x : Nat} (hd : decode cc pc = .ok (.astore_n 1, 1)) (kk : J n I L X (pc + 1) [a0, some (.ref x), a2, a3, a4] rest) (hp : oc1 a0 = true := by rfl) : J n I L X pc [a0, a1, a2, a3, a4] (.ref x :: rest) := q_astore_n hM hd rfl (by decide) (fun _ => hp) kk
theorem saN_5_1 (hM : Mach l cc own 5 D K G n0 J) {a0 a1 a2 a3 a4 : Option Value} (hd : decode cc pc = .ok (.astore_n 1, 1)) (kk : J n I L X (pc + 1) [a0, some .null, a2, a3, a4] rest) (hp : oc1 a0 = true := by rfl) : J n I L X pc [a0, a1, a2, a3, a4] (.null :: rest) := q_astore_nN hM hd rfl (by decide) (fun _ => hp) kk
theorem sinc_5_1 (hM : Mach l cc own 5 D K G n0 J) {a0 a2 a3 a4 : Option Value} {x v : Int32} {z : Int} (hd : decode cc pc = .ok (.iinc 1 z, 3)) (hv : x + Int32.ofInt z = v) (kk : J n I L X (pc + 3) [a0, some (.int v), a2, a3, a4] rest) (hp : oc1 a0 = true := by rfl) : J n I L X pc [a0, some (.int x), a2, a3, a4] rest := q_iinc hM hd (by decide) (fun _ => hp) rfl hv kk
theorem sl_5_1 (hM : Mach l cc own 5 D K G n0 J) {a0 a1 a2 a3 a4 : Option Value} {x : Int64} (hd : decode cc pc = .ok (.lstore_n 1, 1)) (kk : J n I L X (pc + 1) [a0, some (.long x), none, a3, a4] rest) (hp : oc1 a0 = true := by rfl) : J n I L X pc [a0, a1, a2, a3, a4] (.long x :: rest) := q_lstore_n hM hd rfl (by decide) (fun _ => hp) kk
theorem si_5_2 (hM : Mach l cc own 5 D K G n0 J) {a0 a1 a2 a3 a4 : Option Value} {x : Int32} (hd : decode cc pc = .ok (.istore_n 2, 1)) (kk : J n I L X (pc + 1) [a0, a1, some (.int x), a3, a4] rest) (hp : oc1 a1 = true := by rfl) : J n I L X pc [a0, a1, a2, a3, a4] (.int x :: rest) := q_istore_n hM hd rfl (by decide) (fun _ => hp) kk
theorem sa_5_2 (hM : Mach l cc own 5 D K G n0 J) {a0 a1 a2 a3 a4 : Option Value} {x : Nat} (hd : decode cc pc = .ok (.astore_n 2, 1)) (kk : J n I L X (pc + 1) [a0, a1, some (.ref x), a3, a4] rest) (hp : oc1 a1 = true := by rfl) : J n I L X pc [a0, a1, a2, a3, a4] (.ref x :: rest) := q_astore_n hM hd rfl (by decide) (fun _ => hp) kk
theorem saN_5_2 (hM : Mach l cc own 5 D K G n0 J) {a0 a1 a2 a3 a4 : Option Value} (hd : decode cc pc = .ok (.astore_n 2, 1)) (kk : J n I L X (pc + 1) [a0, a1, some .null, a3, a4] rest) (hp : oc1 a1 = true := by rfl) : J n I L X pc [a0, a1, a2, a3, a4] (.null :: rest) := q_astore_nN hM hd rfl (by decide) (fun _ => hp) kk
theorem sinc_5_2 (hM : Mach l cc own 5 D K G n0 J) {a0 a1 a3 a4 : Option Value} {x v : Int32} {z : Int} (hd : decode cc pc = .ok (.iinc 2 z, 3)) (hv : x + Int32.ofInt z = v) (kk : J n I L X (pc + 3) [a0, a1, some (.int v), a3, a4] rest) (hp : oc1 a1 = true := by rfl) : J n I L X pc [a0, a1, some (.int x), a3, a4] rest := q_iinc hM hd (by decide) (fun _ => hp) rfl hv kk
theorem sl_5_2 (hM : Mach l cc own 5 D K G n0 J) {a0 a1 a2 a3 a4 : Option Value} {x : Int64} (hd : decode cc pc = .ok (.lstore_n 2, 1)) (kk : J n I L X (pc + 1) [a0, a1, some (.long x), none, a4] rest) (hp : oc1 a1 = true := by rfl) : J n I L X pc [a0, a1, a2, a3, a4] (.long x :: rest) := q_lstore_n hM hd rfl (by decide) (fun _ => hp) kk
theorem si_5_3 (hM : Mach l cc own 5 D K G n0 J) {a0 a1 a2 a3 a4 : Option Value} {x : Int32} (hd : decode cc pc = .ok (.istore_n 3, 1)) (kk : J n I L X (pc + 1) [a0, a1, a2, some (.int x), a4] rest) (hp : oc1 a2 = true := by rfl) : J n I L X pc [a0, a1, a2, a3, a4] (.int x :: rest) := q_istore_n hM hd rfl (by decide) (fun _ => hp) kk
theorem sa_5_3 (hM : Mach l cc own 5 D K G n0 J) {a0 a1 a2 a3 a4 : Option Value} {x : Nat} (hd : decode cc pc = .ok (.astore_n 3, 1)) (kk : J n I L X (pc + 1) [a0, a1, a2, some (.ref x), a4] rest) (hp : oc1 a2 = true := by rfl) : J n I L X pc [a0, a1, a2, a3, a4] (.ref x :: rest) := q_astore_n hM hd rfl (by decide) (fun _ => hp) kk
theorem saN_5_3 (hM : Mach l cc own 5 D K G n0 J) {a0 a1 a2 a3 a4 : Option Value} (hd : decode cc pc = .ok (.astore_n 3, 1)) (kk : J n I L X (pc + 1) [a0, a1, a2, some .null, a4] rest) (hp : oc1 a2 = true := by rfl) : J n I L X pc [a0, a1, a2, a3, a4] (.null :: rest) := q_astore_nN hM hd rfl (by decide) (fun _ => hp) kk
theorem sinc_5_3 (hM : Mach l cc own 5 D K G n0 J) {a0 a1 a2 a4 : Option Value} {x v : Int32} {z : Int} (hd : decode cc pc = .ok (.iinc 3 z, 3)) (hv : x + Int32.ofInt z = v) (kk : J n I L X (pc + 3) [a0, a1, a2, some (.int v), a4] rest) (hp : oc1 a2 = true := by rfl) : J n I L X pc [a0, a1, a2, some (.int x), a4] rest := q_iinc hM hd (by decide) (fun _ => hp) rfl hv kk
theorem sl_5_3 (hM : Mach l cc own 5 D K G n0 J) {a0 a1 a2 a3 a4 : Option Value} {x : Int64} (hd : decode cc pc = .ok (.lstore_n 3, 1)) (kk : J n I L X (pc + 1) [a0, a1, a2, some (.long x), none] rest) (hp : oc1 a2 = true := by rfl) : J n I L X pc [a0, a1, a2, a3, a4] (.long x :: rest) := q_lstore_n hM hd rfl (by decide) (fun _ => hp) kk
theorem si_5_4 (hM : Mach l cc own 5 D K G n0 J) {a0 a1 a2 a3 a4 : Option Value} {x : Int32} (hd : decode cc pc = .ok (.istore 4, 2)) (kk : J n I L X (pc + 2) [a0, a1, a2, a3, some (.int x)] rest) (hp : oc1 a3 = true := by rfl) : J n I L X pc [a0, a1, a2, a3, a4] (.int x :: rest) := q_istore hM hd (by decide) (fun _ => hp) kk
theorem sa_5_4 (hM : Mach l cc own 5 D K G n0 J) {a0 a1 a2 a3 a4 : Option Value} {x : Nat} (hd : decode cc pc = .ok (.astore 4, 2)) (kk : J n I L X (pc + 2) [a0, a1, a2, a3, some (.ref x)] rest) (hp : oc1 a3 = true := by rfl) : J n I L X pc [a0, a1, a2, a3, a4] (.ref x :: rest) := q_astore hM hd (by decide) (fun _ => hp) kk
theorem saN_5_4 (hM : Mach l cc own 5 D K G n0 J) {a0 a1 a2 a3 a4 : Option Value} (hd : decode cc pc = .ok (.astore 4, 2)) (kk : J n I L X (pc + 2) [a0, a1, a2, a3, some .null] rest) (hp : oc1 a3 = true := by rfl) : J n I L X pc [a0, a1, a2, a3, a4] (.null :: rest) := q_astoreN hM hd (by decide) (fun _ => hp) kk
theorem sinc_5_4 (hM : Mach l cc own 5 D K G n0 J) {a0 a1 a2 a3 : Option Value} {x v : Int32} {z : Int} (hd : decode cc pc = .ok (.iinc 4 z, 3)) (hv : x + Int32.ofInt z = v) (kk : J n I L X (pc + 3) [a0, a1, a2, a3, some (.int v)] rest) (hp : oc1 a3 = true := by rfl) : J n I L X pc [a0, a1, a2, a3, some (.int x)] rest := q_iinc hM hd (by decide) (fun _ => hp) rfl hv kk
theorem si_6_0 (hM : Mach l cc own 6 D K G n0 J) {a0 a1 a2 a3 a4 a5 : Option Value} {x : Int32} (hd : decode cc pc = .ok (.istore_n 0, 1)) (kk : J n I L X (pc + 1) [some (.int x), a1, a2, a3, a4, a5] rest) : J n I L X pc [a0, a1, a2, a3, a4, a5] (.int x :: rest) := q_istore_n hM hd rfl (by decide) (fun h => absurd rfl h) kk
theorem sa_6_0 (hM : Mach l cc own 6 D K G n0 J) {a0 a1 a2 a3 a4 a5 : Option Value} {x : Nat} (hd : decode cc pc = .ok (.astore_n 0, 1)) (kk : J n I L X (pc + 1) [some (.ref x), a1, a2, a3, a4, a5] rest) : J n I L X pc [a0, a1, a2, a3, a4, a5] (.ref x :: rest) := q_astore_n hM hd rfl (by decide) (fun h => absurd rfl h) kk
theorem saN_6_0 (hM : Mach l cc own 6 D K G n0 J) {a0 a1 a2 a3 a4 a5 : Option Value} (hd : decode cc pc = .ok (.astore_n 0, 1)) (kk : J n I L X (pc + 1) [some .null, a1, a2, a3, a4, a5] rest) : J n I L X pc [a0, a1, a2, a3, a4, a5] (.null :: rest) := q_astore_nN hM hd rfl (by decide) (fun h => absurd rfl h) kk
theorem sinc_6_0 (hM : Mach l cc own 6 D K G n0 J) {a1 a2 a3 a4 a5 : Option Value} {x v : Int32} {z : Int} (hd : decode cc pc = .ok (.iinc 0 z, 3)) (hv : x + Int32.ofInt z = v) (kk : J n I L X (pc + 3) [some (.int v), a1, a2, a3, a4, a5] rest) : J n I L X pc [some (.int x), a1, a2, a3, a4, a5] rest := q_iinc hM hd (by decide) (fun h => absurd rfl h) rfl hv kk
theorem sl_6_0 (hM : Mach l cc own 6 D K G n0 J) {a0 a1 a2 a3 a4 a5 : Option Value} {x : Int64} (hd : decode cc pc = .ok (.lstore_n 0, 1)) (kk : J n I L X (pc + 1) [some (.long x), none, a2, a3, a4, a5] rest) : J n I L X pc [a0, a1, a2, a3, a4, a5] (.long x :: rest) := q_lstore_n hM hd rfl (by decide) (fun h => absurd rfl h) kk
theorem si_6_1 (hM : Mach l cc own 6 D K G n0 J) {a0 a1 a2 a3 a4 a5 : Option Value} {x : Int32} (hd : decode cc pc = .ok (.istore_n 1, 1)) (kk : J n I L X (pc + 1) [a0, some (.int x), a2, a3, a4, a5] rest) (hp : oc1 a0 = true := by rfl) : J n I L X pc [a0, a1, a2, a3, a4, a5] (.int x :: rest) := q_istore_n hM hd rfl (by decide) (fun _ => hp) kk
theorem sa_6_1 (hM : Mach l cc own 6 D K G n0 J) {a0 a1 a2 a3 a4 a5 : Option Value} {x : Nat} (hd : decode cc pc = .ok (.astore_n 1, 1)) (kk : J n I L X (pc + 1) [a0, some (.ref x), a2, a3, a4, a5] rest) (hp : oc1 a0 = true := by rfl) : J n I L X pc [a0, a1, a2, a3, a4, a5] (.ref x :: rest) := q_astore_n hM hd rfl (by decide) (fun _ => hp) kk
theorem saN_6_1 (hM : Mach l cc own 6 D K G n0 J) {a0 a1 a2 a3 a4 a5 : Option Value} (hd : decode cc pc = .ok (.astore_n 1, 1)) (kk : J n I L X (pc + 1) [a0, some .null, a2, a3, a4, a5] rest) (hp : oc1 a0 = true := by rfl) : J n I L X pc [a0, a1, a2, a3, a4, a5] (.null :: rest) := q_astore_nN hM hd rfl (by decide) (fun _ => hp) kk
theorem sinc_6_1 (hM : Mach l cc own 6 D K G n0 J) {a0 a2 a3 a4 a5 : Option Value} {x v : Int32} {z : Int} (hd : decode cc pc = .ok (.iinc 1 z, 3)) (hv : x + Int32.ofInt z = v) (kk : J n I L X (pc + 3) [a0, some (.int v), a2, a3, a4, a5] rest) (hp : oc1 a0 = true := by rfl) : J n I L X pc [a0, some (.int x), a2, a3, a4, a5] rest := q_iinc hM hd (by decide) (fun _ => hp) rfl hv kk
theorem sl_6_1 (hM : Mach l cc own 6 D K G n0 J) {a0 a1 a2 a3 a4 a5 : Option Value} {x : Int64} (hd : decode cc pc = .ok (.lstore_n 1, 1)) (kk : J n I L X (pc + 1) [a0, some (.long x), none, a3, a4, a5] rest) (hp : oc1 a0 = true := by rfl) : J n I L X pc [a0, a1, a2, a3, a4, a5] (.long x :: rest) := q_lstore_n hM hd rfl (by decide) (fun _ => hp) kk
theorem si_6_2 (hM : Mach l cc own 6 D K G n0 J) {a0 a1 a2 a3 a4 a5 : Option Value} {x : Int32} (hd : decode cc pc = .ok (.istore_n 2, 1)) (kk : J n I L X (pc + 1) [a0, a1, some (.int x), a3, a4, a5] rest) (hp : oc1 a1 = true := by rfl) : J n I L X pc [a0, a1, a2, a3, a4, a5] (.int x :: rest) := q_istore_n hM hd rfl (by decide) (fun _ => hp) kk
theorem sa_6_2 (hM : Mach l cc own 6 D K G n0 J) {a0 a1 a2 a3 a4 a5 : Option Value} {x : Nat} (hd : decode cc pc = .ok (.astore_n 2, 1)) (kk : J n I L X (pc + 1) [a0, a1, some (.ref x), a3, a4, a5] rest) (hp : oc1 a1 = true := by rfl) : J n I L X pc [a0, a1, a2, a3, a4, a5] (.ref x :: rest) := q_astore_n hM hd rfl (by decide) (fun _ => hp) kk
theorem saN_6_2 (hM : Mach l cc own 6 D K G n0 J) {a0 a1 a2 a3 a4 a5 : Option Value} (hd : decode cc pc = .ok (.astore_n 2, 1)) (kk : J n I L X (pc + 1) [a0, a1, some .null, a3, a4, a5] rest) (hp : oc1 a1 = true := by rfl) : J n I L X pc [a0, a1, a2, a3, a4, a5] (.null :: rest) := q_astore_nN hM hd rfl (by decide) (fun _ => hp) kk
theorem sinc_6_2 (hM : Mach l cc own 6 D K G n0 J) {a0 a1 a3 a4 a5 : Option Value} {x v : Int32} {z : Int} (hd : decode cc pc = .ok (.iinc 2 z, 3)) (hv : x + Int32.ofInt z = v) (kk : J n I L X (pc + 3) [a0, a1, some (.int v), a3, a4, a5] rest) (hp : oc1 a1 = true := by rfl) : J n I L X pc [a0, a1, some (.int x), a3, a4, a5] rest := q_iinc hM hd (by decide) (fun _ => hp) rfl hv kk
theorem sl_6_2 (hM : Mach l cc own 6 D K G n0 J) {a0 a1 a2 a3 a4 a5 : Option Value} {x : Int64} (hd : decode cc pc = .ok (.lstore_n 2, 1)) (kk : J n I L X (pc + 1) [a0, a1, some (.long x), none, a4, a5] rest) (hp : oc1 a1 = true := by rfl) : J n I L X pc [a0, a1, a2, a3, a4, a5] (.long x :: rest) := q_lstore_n hM hd rfl (by decide) (fun _ => hp) kk
theorem si_6_3 (hM : Mach l cc own 6 D K G n0 J) {a0 a1 a2 a3 a4 a5 : Option Value} {x : Int32} (hd : decode cc pc = .ok (.istore_n 3, 1)) (kk : J n I L X (pc + 1) [a0, a1, a2, some (.int x), a4, a5] rest) (hp : oc1 a2 = true := by rfl) : J n I L X pc [a0, a1, a2, a3, a4, a5] (.int x :: rest) := q_istore_n hM hd rfl (by decide) (fun _ => hp) kk
theorem sa_6_3 (hM : Mach l cc own 6 D K G n0 J) {a0 a1 a2 a3 a4 a5 : Option Value} {x : Nat} (hd : decode cc pc = .ok (.astore_n 3, 1)) (kk : J n I L X (pc + 1) [a0, a1, a2, some (.ref x), a4, a5] rest) (hp : oc1 a2 = true := by rfl) : J n I L X pc [a0, a1, a2, a3, a4, a5] (.ref x :: rest) := q_astore_n hM hd rfl (by decide) (fun _ => hp) kk
theorem saN_6_3 (hM : Mach l cc own 6 D K G n0 J) {a0 a1 a2 a3 a4 a5 : Option Value} (hd : decode cc pc = .ok (.astore_n 3, 1)) (kk : J n I L X (pc + 1) [a0, a1, a2, some .null, a4, a5] rest) (hp : oc1 a2 = true := by rfl) : J n I L X pc [a0, a1, a2, a3, a4, a5] (.null :: rest) := q_astore_nN hM hd rfl (by decide) (fun _ => hp) kk
theorem sinc_6_3 (hM : Mach l cc own 6 D K G n0 J) {a0 a1 a2 a4 a5 : Option Value} {x v : Int32} {z : Int} (hd : decode cc pc = .ok (.iinc 3 z, 3)) (hv : x + Int32.ofInt z = v) (kk : J n I L X (pc + 3) [a0, a1, a2, some (.int v), a4, a5] rest) (hp : oc1 a2 = true := by rfl) : J n I L X pc [a0, a1, a2, some (.int x), a4, a5] rest := q_iinc hM hd (by decide) (fun _ => hp) rfl hv kk
theorem sl_6_3 (hM : Mach l cc own 6 D K G n0 J) {a0 a1 a2 a3 a4 a5 : Option Value} {x : Int64} (hd : decode cc pc = .ok (.lstore_n 3, 1)) (kk : J n I L X (pc + 1) [a0, a1, a2, some (.long x), none, a5] rest) (hp : oc1 a2 = true := by rfl) : J n I L X pc [a0, a1, a2, a3, a4, a5] (.long x :: rest) := q_lstore_n hM hd rfl (by decide) (fun _ => hp) kk
theorem si_6_4 (hM : Mach l cc own 6 D K G n0 J) {a0 a1 a2 a3 a4 a5 : Option Value} {x : Int32} (hd : decode cc pc = .ok (.istore 4, 2)) (kk : J n I L X (pc + 2) [a0, a1, a2, a3, some (.int x), a5] rest) (hp : oc1 a3 = true := by rfl) : J n I L X pc [a0, a1, a2, a3, a4, a5] (.int x :: rest) := q_istore hM hd (by decide) (fun _ => hp) kk
theorem sa_6_4 (hM : Mach l cc own 6 D K G n0 J) {a0 a1 a2 a3 a4 a5 : Option Value} {x : Nat} (hd : decode cc pc = .ok (.astore 4, 2)) (kk : J n I L X (pc + 2) [a0, a1, a2, a3, some (.ref x), a5] rest) (hp : oc1 a3 = true := by rfl) : J n I L X pc [a0, a1, a2, a3, a4, a5] (.ref x :: rest) := q_astore hM hd (by decide) (fun _ => hp) kk
theorem saN_6_4 (hM : Mach l cc own 6 D K G n0 J) {a0 a1 a2 a3 a4 a5 : Option Value} (hd : decode cc pc = .ok (.astore 4, 2)) (kk : J n I L X (pc + 2) [a0, a1, a2, a3, some .null, a5] rest) (hp : oc1 a3 = true := by rfl) : J n I L X pc [a0, a1, a2, a3, a4, a5] (.null :: rest) := q_astoreN hM hd (by decide) (fun _ => hp) kk
theorem sinc_6_4 (hM : Mach l cc own 6 D K G n0 J) {a0 a1 a2 a3 a5 : Option Value} {x v : Int32} {z : Int} (hd : decode cc pc = .ok (.iinc 4 z, 3)) (hv : x + Int32.ofInt z = v) (kk : J n I L X (pc + 3) [a0, a1, a2, a3, some (.int v), a5] rest) (hp : oc1 a3 = true := by rfl) : J n I L X pc [a0, a1, a2, a3, some (.int x), a5] rest := q_iinc hM hd (by decide) (fun _ => hp) rfl hv kk
theorem sl_6_4 (hM : Mach l cc own 6 D K G n0 J) {a0 a1 a2 a3 a4 a5 : Option Value} {x : Int64} (hd : decode cc pc = .ok (.lstore 4, 2)) (kk : J n I L X (pc + 2) [a0, a1, a2, a3, some (.long x), none] rest) (hp : oc1 a3 = true := by rfl) : J n I L X pc [a0, a1, a2, a3, a4, a5] (.long x :: rest) := q_lstore hM hd (by decide) (fun _ => hp) kk
theorem si_6_5 (hM : Mach l cc own 6 D K G n0 J) {a0 a1 a2 a3 a4 a5 : Option Value} {x : Int32} (hd : decode cc pc = .ok (.istore 5, 2)) (kk : J n I L X (pc + 2) [a0, a1, a2, a3, a4, some (.int x)] rest) (hp : oc1 a4 = true := by rfl) : J n I L X pc [a0, a1, a2, a3, a4, a5] (.int x :: rest) := q_istore hM hd (by decide) (fun _ => hp) kk
theorem sa_6_5 (hM : Mach l cc own 6 D K G n0 J) {a0 a1 a2 a3 a4 a5 : Option Value} {x : Nat} (hd : decode cc pc = .ok (.astore 5, 2)) (kk : J n I L X (pc + 2) [a0, a1, a2, a3, a4, some (.ref x)] rest) (hp : oc1 a4 = true := by rfl) : J n I L X pc [a0, a1, a2, a3, a4, a5] (.ref x :: rest) := q_astore hM hd (by decide) (fun _ => hp) kk
theorem saN_6_5 (hM : Mach l cc own 6 D K G n0 J) {a0 a1 a2 a3 a4 a5 : Option Value} (hd : decode cc pc = .ok (.astore 5, 2)) (kk : J n I L X (pc + 2) [a0, a1, a2, a3, a4, some .null] rest) (hp : oc1 a4 = true := by rfl) : J n I L X pc [a0, a1, a2, a3, a4, a5] (.null :: rest) := q_astoreN hM hd (by decide) (fun _ => hp) kk
theorem sinc_6_5 (hM : Mach l cc own 6 D K G n0 J) {a0 a1 a2 a3 a4 : Option Value} {x v : Int32} {z : Int} (hd : decode cc pc = .ok (.iinc 5 z, 3)) (hv : x + Int32.ofInt z = v) (kk : J n I L X (pc + 3) [a0, a1, a2, a3, a4, some (.int v)] rest) (hp : oc1 a4 = true := by rfl) : J n I L X pc [a0, a1, a2, a3, a4, some (.int x)] rest := q_iinc hM hd (by decide) (fun _ => hp) rfl hv kk
theorem si_7_0 (hM : Mach l cc own 7 D K G n0 J) {a0 a1 a2 a3 a4 a5 a6 : Option Value} {x : Int32} (hd : decode cc pc = .ok (.istore_n 0, 1)) (kk : J n I L X (pc + 1) [some (.int x), a1, a2, a3, a4, a5, a6] rest) : J n I L X pc [a0, a1, a2, a3, a4, a5, a6] (.int x :: rest) := q_istore_n hM hd rfl (by decide) (fun h => absurd rfl h) kk
theorem sa_7_0 (hM : Mach l cc own 7 D K G n0 J) {a0 a1 a2 a3 a4 a5 a6 : Option Value} {x : Nat} (hd : decode cc pc = .ok (.astore_n 0, 1)) (kk : J n I L X (pc + 1) [some (.ref x), a1, a2, a3, a4, a5, a6] rest) : J n I L X pc [a0, a1, a2, a3, a4, a5, a6] (.ref x :: rest) := q_astore_n hM hd rfl (by decide) (fun h => absurd rfl h) kk
theorem saN_7_0 (hM : Mach l cc own 7 D K G n0 J) {a0 a1 a2 a3 a4 a5 a6 : Option Value} (hd : decode cc pc = .ok (.astore_n 0, 1)) (kk : J n I L X (pc + 1) [some .null, a1, a2, a3, a4, a5, a6] rest) : J n I L X pc [a0, a1, a2, a3, a4, a5, a6] (.null :: rest) := q_astore_nN hM hd rfl (by decide) (fun h => absurd rfl h) kk
theorem sinc_7_0 (hM : Mach l cc own 7 D K G n0 J) {a1 a2 a3 a4 a5 a6 : Option Value} {x v : Int32} {z : Int} (hd : decode cc pc = .ok (.iinc 0 z, 3)) (hv : x + Int32.ofInt z = v) (kk : J n I L X (pc + 3) [some (.int v), a1, a2, a3, a4, a5, a6] rest) : J n I L X pc [some (.int x), a1, a2, a3, a4, a5, a6] rest := q_iinc hM hd (by decide) (fun h => absurd rfl h) rfl hv kk
theorem sl_7_0 (hM : Mach l cc own 7 D K G n0 J) {a0 a1 a2 a3 a4 a5 a6 : Option Value} {x : Int64} (hd : decode cc pc = .ok (.lstore_n 0, 1)) (kk : J n I L X (pc + 1) [some (.long x), none, a2, a3, a4, a5, a6] rest) : J n I L X pc [a0, a1, a2, a3, a4, a5, a6] (.long x :: rest) := q_lstore_n hM hd rfl (by decide) (fun h => absurd rfl h) kk
theorem si_7_1 (hM : Mach l cc own 7 D K G n0 J) {a0 a1 a2 a3 a4 a5 a6 : Option Value} {x : Int32} (hd : decode cc pc = .ok (.istore_n 1, 1)) (kk : J n I L X (pc + 1) [a0, some (.int x), a2, a3, a4, a5, a6] rest) (hp : oc1 a0 = true := by rfl) : J n I L X pc [a0, a1, a2, a3, a4, a5, a6] (.int x :: rest) := q_istore_n hM hd rfl (by decide) (fun _ => hp) kk
theorem sa_7_1 (hM : Mach l cc own 7 D K G n0 J) {a0 a1 a2 a3 a4 a5 a6 : Option Value} {x : Nat} (hd : decode cc pc = .ok (.astore_n 1, 1)) (kk : J n I L X (pc + 1) [a0, some (.ref x), a2, a3, a4, a5, a6] rest) (hp : oc1 a0 = true := by rfl) : J n I L X pc [a0, a1, a2, a3, a4, a5, a6] (.ref x :: rest) := q_astore_n hM hd rfl (by decide) (fun _ => hp) kk
theorem saN_7_1 (hM : Mach l cc own 7 D K G n0 J) {a0 a1 a2 a3 a4 a5 a6 : Option Value} (hd : decode cc pc = .ok (.astore_n 1, 1)) (kk : J n I L X (pc + 1) [a0, some .null, a2, a3, a4, a5, a6] rest) (hp : oc1 a0 = true := by rfl) : J n I L X pc [a0, a1, a2, a3, a4, a5, a6] (.null :: rest) := q_astore_nN hM hd rfl (by decide) (fun _ => hp) kk
theorem sinc_7_1 (hM : Mach l cc own 7 D K G n0 J) {a0 a2 a3 a4 a5 a6 : Option Value} {x v : Int32} {z : Int} (hd : decode cc pc = .ok (.iinc 1 z, 3)) (hv : x + Int32.ofInt z = v) (kk : J n I L X (pc + 3) [a0, some (.int v), a2, a3, a4, a5, a6] rest) (hp : oc1 a0 = true := by rfl) : J n I L X pc [a0, some (.int x), a2, a3, a4, a5, a6] rest := q_iinc hM hd (by decide) (fun _ => hp) rfl hv kk
theorem sl_7_1 (hM : Mach l cc own 7 D K G n0 J) {a0 a1 a2 a3 a4 a5 a6 : Option Value} {x : Int64} (hd : decode cc pc = .ok (.lstore_n 1, 1)) (kk : J n I L X (pc + 1) [a0, some (.long x), none, a3, a4, a5, a6] rest) (hp : oc1 a0 = true := by rfl) : J n I L X pc [a0, a1, a2, a3, a4, a5, a6] (.long x :: rest) := q_lstore_n hM hd rfl (by decide) (fun _ => hp) kk
theorem si_7_2 (hM : Mach l cc own 7 D K G n0 J) {a0 a1 a2 a3 a4 a5 a6 : Option Value} {x : Int32} (hd : decode cc pc = .ok (.istore_n 2, 1)) (kk : J n I L X (pc + 1) [a0, a1, some (.int x), a3, a4, a5, a6] rest) (hp : oc1 a1 = true := by rfl) : J n I L X pc [a0, a1, a2, a3, a4, a5, a6] (.int x :: rest) := q_istore_n hM hd rfl (by decide) (fun _ => hp) kk
theorem sa_7_2 (hM : Mach l cc own 7 D K G n0 J) {a0 a1 a2 a3 a4 a5 a6 : Option Value} {x : Nat} (hd : decode cc pc = .ok (.astore_n 2, 1)) (kk : J n I L X (pc + 1) [a0, a1, some (.ref x), a3, a4, a5, a6] rest) (hp : oc1 a1 = true := by rfl) : J n I L X pc [a0, a1, a2, a3, a4, a5, a6] (.ref x :: rest) := q_astore_n hM hd rfl (by decide) (fun _ => hp) kk
theorem saN_7_2 (hM : Mach l cc own 7 D K G n0 J) {a0 a1 a2 a3 a4 a5 a6 : Option Value} (hd : decode cc pc = .ok (.astore_n 2, 1)) (kk : J n I L X (pc + 1) [a0, a1, some .null, a3, a4, a5, a6] rest) (hp : oc1 a1 = true := by rfl) : J n I L X pc [a0, a1, a2, a3, a4, a5, a6] (.null :: rest) := q_astore_nN hM hd rfl (by decide) (fun _ => hp) kk
theorem sinc_7_2 (hM : Mach l cc own 7 D K G n0 J) {a0 a1 a3 a4 a5 a6 : Option Value} {x v : Int32} {z : Int} (hd : decode cc pc = .ok (.iinc 2 z, 3)) (hv : x + Int32.ofInt z = v) (kk : J n I L X (pc + 3) [a0, a1, some (.int v), a3, a4, a5, a6] rest) (hp : oc1 a1 = true := by rfl) : J n I L X pc [a0, a1, some (.int x), a3, a4, a5, a6] rest := q_iinc hM hd (by decide) (fun _ => hp) rfl hv kk
theorem sl_7_2 (hM : Mach l cc own 7 D K G n0 J) {a0 a1 a2 a3 a4 a5 a6 : Option Value} {x : Int64} (hd : decode cc pc = .ok (.lstore_n 2, 1)) (kk : J n I L X (pc + 1) [a0, a1, some (.long x), none, a4, a5, a6] rest) (hp : oc1 a1 = true := by rfl) : J n I L X pc [a0, a1, a2, a3, a4, a5, a6] (.long x :: rest) := q_lstore_n hM hd rfl (by decide) (fun _ => hp) kk
theorem si_7_3 (hM : Mach l cc own 7 D K G n0 J) {a0 a1 a2 a3 a4 a5 a6 : Option Value} {x : Int32} (hd : decode cc pc = .ok (.istore_n 3, 1)) (kk : J n I L X (pc + 1) [a0, a1, a2, some (.int x), a4, a5, a6] rest) (hp : oc1 a2 = true := by rfl) : J n I L X pc [a0, a1, a2, a3, a4, a5, a6] (.int x :: rest) := q_istore_n hM hd rfl (by decide) (fun _ => hp) kk
theorem sa_7_3 (hM : Mach l cc own 7 D K G n0 J) {a0 a1 a2 a3 a4 a5 a6 : Option Value} {x : Nat} (hd : decode cc pc = .ok (.astore_n 3, 1)) (kk : J n I L X (pc + 1) [a0, a1, a2, some (.ref x), a4, a5, a6] rest) (hp : oc1 a2 = true := by rfl) : J n I L X pc [a0, a1, a2, a3, a4, a5, a6] (.ref x :: rest) := q_astore_n hM hd rfl (by decide) (fun _ => hp) kk
theorem saN_7_3 (hM : Mach l cc own 7 D K G n0 J) {a0 a1 a2 a3 a4 a5 a6 : Option Value} (hd : decode cc pc = .ok (.astore_n 3, 1)) (kk : J n I L X (pc + 1) [a0, a1, a2, some .null, a4, a5, a6] rest) (hp : oc1 a2 = true := by rfl) : J n I L X pc [a0, a1, a2, a3, a4, a5, a6] (.null :: rest) := q_astore_nN hM hd rfl (by decide) (fun _ => hp) kk
theorem sinc_7_3 (hM : Mach l cc own 7 D K G n0 J) {a0 a1 a2 a4 a5 a6 : Option Value} {x v : Int32} {z : Int} (hd : decode cc pc = .ok (.iinc 3 z, 3)) (hv : x + Int32.ofInt z = v) (kk : J n I L X (pc + 3) [a0, a1, a2, some (.int v), a4, a5, a6] rest) (hp : oc1 a2 = true := by rfl) : J n I L X pc [a0, a1, a2, some (.int x), a4, a5, a6] rest := q_iinc hM hd (by decide) (fun _ => hp) rfl hv kk
theorem sl_7_3 (hM : Mach l cc own 7 D K G n0 J) {a0 a1 a2 a3 a4 a5 a6 : Option Value} {x : Int64} (hd : decode cc pc = .ok (.lstore_n 3, 1)) (kk : J n I L X (pc + 1) [a0, a1, a2, some (.long x), none, a5, a6] rest) (hp : oc1 a2 = true := by rfl) : J n I L X pc [a0, a1, a2, a3, a4, a5, a6] (.long x :: rest) := q_lstore_n hM hd rfl (by decide) (fun _ => hp) kk
theorem si_7_4 (hM : Mach l cc own 7 D K G n0 J) {a0 a1 a2 a3 a4 a5 a6 : Option Value} {x : Int32} (hd : decode cc pc = .ok (.istore 4, 2)) (kk : J n I L X (pc + 2) [a0, a1, a2, a3, some (.int x), a5, a6] rest) (hp : oc1 a3 = true := by rfl) : J n I L X pc [a0, a1, a2, a3, a4, a5, a6] (.int x :: rest) := q_istore hM hd (by decide) (fun _ => hp) kk
theorem sa_7_4 (hM : Mach l cc own 7 D K G n0 J) {a0 a1 a2 a3 a4 a5 a6 : Option Value} {x : Nat} (hd : decode cc pc = .ok (.astore 4, 2)) (kk : J n I L X (pc + 2) [a0, a1, a2, a3, some (.ref x), a5, a6] rest) (hp : oc1 a3 = true := by rfl) : J n I L X pc [a0, a1, a2, a3, a4, a5, a6] (.ref x :: rest) := q_astore hM hd (by decide) (fun _ => hp) kk
theorem saN_7_4 (hM : Mach l cc own 7 D K G n0 J) {a0 a1 a2 a3 a4 a5 a6 : Option Value} (hd : decode cc pc = .ok (.astore 4, 2)) (kk : J n I L X (pc + 2) [a0, a1, a2, a3, some .null, a5, a6] rest) (hp : oc1 a3 = true := by rfl) : J n I L X pc [a0, a1, a2, a3, a4, a5, a6] (.null :: rest) := q_astoreN hM hd (by decide) (fun _ => hp) kk
theorem sinc_7_4 (hM : Mach l cc own 7 D K G n0 J) {a0 a1 a2 a3 a5 a6 : Option Value} {x v : Int32} {z : Int} (hd : decode cc pc = .ok (.iinc 4 z, 3)) (hv : x + Int32.ofInt z = v) (kk : J n I L X (pc + 3) [a0, a1, a2, a3, some (.int v), a5, a6] rest) (hp : oc1 a3 = true := by rfl) : J n I L X pc [a0, a1, a2, a3, some (.int x), a5, a6] rest := q_iinc hM hd (by decide) (fun _ => hp) rfl hv kk
theorem sl_7_4 (hM : Mach l cc own 7 D K G n0 J) {a0 a1 a2 a3 a4 a5 a6 : Option Value} {x : Int64} (hd : decode cc pc = .ok (.lstore 4, 2)) (kk : J n I L X (pc + 2) [a0, a1, a2, a3, some (.long x), none, a6] rest) (hp : oc1 a3 = true := by rfl) : J n I L X pc [a0, a1, a2, a3, a4, a5, a6] (.long x :: rest) := q_lstore hM hd (by decide) (fun _ => hp) kk
theorem si_7_5 (hM : Mach l cc own 7 D K G n0 J) {a0 a1 a2 a3 a4 a5 a6 : Option Value} {x : Int32} (hd : decode cc pc = .ok (.istore 5, 2)) (kk : J n I L X (pc + 2) [a0, a1, a2, a3, a4, some (.int x), a6] rest) (hp : oc1 a4 = true := by rfl) : J n I L X pc [a0, a1, a2, a3, a4, a5, a6] (.int x :: rest) := q_istore hM hd (by decide) (fun _ => hp) kk
theorem sa_7_5 (hM : Mach l cc own 7 D K G n0 J) {a0 a1 a2 a3 a4 a5 a6 : Option Value} {x : Nat} (hd : decode cc pc = .ok (.astore 5, 2)) (kk : J n I L X (pc + 2) [a0, a1, a2, a3, a4, some (.ref x), a6] rest) (hp : oc1 a4 = true := by rfl) : J n I L X pc [a0, a1, a2, a3, a4, a5, a6] (.ref x :: rest) := q_astore hM hd (by decide) (fun _ => hp) kk
theorem saN_7_5 (hM : Mach l cc own 7 D K G n0 J) {a0 a1 a2 a3 a4 a5 a6 : Option Value} (hd : decode cc pc = .ok (.astore 5, 2)) (kk : J n I L X (pc + 2) [a0, a1, a2, a3, a4, some .null, a6] rest) (hp : oc1 a4 = true := by rfl) : J n I L X pc [a0, a1, a2, a3, a4, a5, a6] (.null :: rest) := q_astoreN hM hd (by decide) (fun _ => hp) kk
theorem sinc_7_5 (hM : Mach l cc own 7 D K G n0 J) {a0 a1 a2 a3 a4 a6 : Option Value} {x v : Int32} {z : Int} (hd : decode cc pc = .ok (.iinc 5 z, 3)) (hv : x + Int32.ofInt z = v) (kk : J n I L X (pc + 3) [a0, a1, a2, a3, a4, some (.int v), a6] rest) (hp : oc1 a4 = true := by rfl) : J n I L X pc [a0, a1, a2, a3, a4, some (.int x), a6] rest := q_iinc hM hd (by decide) (fun _ => hp) rfl hv kk
theorem sl_7_5 (hM : Mach l cc own 7 D K G n0 J) {a0 a1 a2 a3 a4 a5 a6 : Option Value} {x : Int64} (hd : decode cc pc = .ok (.lstore 5, 2)) (kk : J n I L X (pc + 2) [a0, a1, a2, a3, a4, some (.long x), none] rest) (hp : oc1 a4 = true := by rfl) : J n I L X pc [a0, a1, a2, a3, a4, a5, a6] (.long x :: rest) := q_lstore hM hd (by decide) (fun _ => hp) kk
theorem si_7_6 (hM : Mach l cc own 7 D K G n0 J) {a0 a1 a2 a3 a4 a5 a6 : Option Value} {x : Int32} (hd : decode cc pc = .ok (.istore 6, 2)) (kk : J n I L X (pc + 2) [a0, a1, a2, a3, a4, a5, some (.int x)] rest) (hp : oc1 a5 = true := by rfl) : J n I L X pc [a0, a1, a2, a3, a4, a5, a6] (.int x :: rest) := q_istore hM hd (by decide) (fun _ => hp) kk
theorem sa_7_6 (hM : Mach l cc own 7 D K G n0 J) {a0 a1 a2 a3 a4 a5 a6 : Option Value} {x : Nat} (hd : decode cc pc = .ok (.astore 6, 2)) (kk : J n I L X (pc + 2) [a0, a1, a2, a3, a4, a5, some (.ref x)] rest) (hp : oc1 a5 = true := by rfl) : J n I L X pc [a0, a1, a2, a3, a4, a5, a6] (.ref x :: rest) := q_astore hM hd (by decide) (fun _ => hp) kk
theorem saN_7_6 (hM : Mach l cc own 7 D K G n0 J) {a0 a1 a2 a3 a4 a5 a6 : Option Value} (hd : decode cc pc = .ok (.astore 6, 2)) (kk : J n I L X (pc + 2) [a0, a1, a2, a3, a4, a5, some .null] rest) (hp : oc1 a5 = true := by rfl) : J n I L X pc [a0, a1, a2, a3, a4, a5, a6] (.null :: rest) := q_astoreN hM hd (by decide) (fun _ => hp) kk
theorem sinc_7_6 (hM : Mach l cc own 7 D K G n0 J) {a0 a1 a2 a3 a4 a5 : Option Value} {x v : Int32} {z : Int} (hd : decode cc pc = .ok (.iinc 6 z, 3)) (hv : x + Int32.ofInt z = v) (kk : J n I L X (pc + 3) [a0, a1, a2, a3, a4, a5, some (.int v)] rest) (hp : oc1 a5 = true := by rfl) : J n I L X pc [a0, a1, a2, a3, a4, a5, some (.int x)] rest := q_iinc hM hd (by decide) (fun _ => hp) rfl hv kk
theorem si_8_0 (hM : Mach l cc own 8 D K G n0 J) {a0 a1 a2 a3 a4 a5 a6 a7 : Option Value} {x : Int32} (hd : decode cc pc = .ok (.istore_n 0, 1)) (kk : J n I L X (pc + 1) [some (.int x), a1, a2, a3, a4, a5, a6, a7] rest) : J n I L X pc [a0, a1, a2, a3, a4, a5, a6, a7] (.int x :: rest) := q_istore_n hM hd rfl (by decide) (fun h => absurd rfl h) kk
theorem sa_8_0 (hM : Mach l cc own 8 D K G n0 J) {a0 a1 a2 a3 a4 a5 a6 a7 : Option Value} {x : Nat} (hd : decode cc pc = .ok (.astore_n 0, 1)) (kk : J n I L X (pc + 1) [some (.ref x), a1, a2, a3, a4, a5, a6, a7] rest) : J n I L X pc [a0, a1, a2, a3, a4, a5, a6, a7] (.ref x :: rest) := q_astore_n hM hd rfl (by decide) (fun h => absurd rfl h) kk
theorem saN_8_0 (hM : Mach l cc own 8 D K G n0 J) {a0 a1 a2 a3 a4 a5 a6 a7 : Option Value} (hd : decode cc pc = .ok (.astore_n 0, 1)) (kk : J n I L X (pc + 1) [some .null, a1, a2, a3, a4, a5, a6, a7] rest) : J n I L X pc [a0, a1, a2, a3, a4, a5, a6, a7] (.null :: rest) := q_astore_nN hM hd rfl (by decide) (fun h => absurd rfl h) kk
theorem sinc_8_0 (hM : Mach l cc own 8 D K G n0 J) {a1 a2 a3 a4 a5 a6 a7 : Option Value} {x v : Int32} {z : Int} (hd : decode cc pc = .ok (.iinc 0 z, 3)) (hv : x + Int32.ofInt z = v) (kk : J n I L X (pc + 3) [some (.int v), a1, a2, a3, a4, a5, a6, a7] rest) : J n I L X pc [some (.int x), a1, a2, a3, a4, a5, a6, a7] rest := q_iinc hM hd (by decide) (fun h => absurd rfl h) rfl hv kk
theorem sl_8_0 (hM : Mach l cc own 8 D K G n0 J) {a0 a1 a2 a3 a4 a5 a6 a7 : Option Value} {x : Int64} (hd : decode cc pc = .ok (.lstore_n 0, 1)) (kk : J n I L X (pc + 1) [some (.long x), none, a2, a3, a4, a5, a6, a7] rest) : J n I L X pc [a0, a1, a2, a3, a4, a5, a6, a7] (.long x :: rest) := q_lstore_n hM hd rfl (by decide) (fun h => absurd rfl h) kk
theorem si_8_1 (hM : Mach l cc own 8 D K G n0 J) {a0 a1 a2 a3 a4 a5 a6 a7 : Option Value} {x : Int32} (hd : decode cc pc = .ok (.istore_n 1, 1)) (kk : J n I L X (pc + 1) [a0, some (.int x), a2, a3, a4, a5, a6, a7] rest) (hp : oc1 a0 = true := by rfl) : J n I L X pc [a0, a1, a2, a3, a4, a5, a6, a7] (.int x :: rest) := q_istore_n hM hd rfl (by decide) (fun _ => hp) kk
theorem sa_8_1 (hM : Mach l cc own 8 D K G n0 J) {a0 a1 a2 a3 a4 a5 a6 a7 : Option Value} {x : Nat} (hd : decode cc pc = .ok (.astore_n 1, 1)) (kk : J n I L X (pc + 1) [a0, some (.ref x), a2, a3, a4, a5, a6, a7] rest) (hp : oc1 a0 = true := by rfl) : J n I L X pc [a0, a1, a2, a3, a4, a5, a6, a7] (.ref x :: rest) := q_astore_n hM hd rfl (by decide) (fun _ => hp) kk
theorem saN_8_1 (hM : Mach l cc own 8 D K G n0 J) {a0 a1 a2 a3 a4 a5 a6 a7 : Option Value} (hd : decode cc pc = .ok (.astore_n 1, 1)) (kk : J n I L X (pc + 1) [a0, some .null, a2, a3, a4, a5, a6, a7] rest) (hp : oc1 a0 = true := by rfl) : J n I L X pc [a0, a1, a2, a3, a4, a5, a6, a7] (.null :: rest) := q_astore_nN hM hd rfl (by decide) (fun _ => hp) kk
theorem sinc_8_1 (hM : Mach l cc own 8 D K G n0 J) {a0 a2 a3 a4 a5 a6 a7 : Option Value} {x v : Int32} {z : Int} (hd : decode cc pc = .ok (.iinc 1 z, 3)) (hv : x + Int32.ofInt z = v) (kk : J n I L X (pc + 3) [a0, some (.int v), a2, a3, a4, a5, a6, a7] rest) (hp : oc1 a0 = true := by rfl) : J n I L X pc [a0, some (.int x), a2, a3, a4, a5, a6, a7] rest := q_iinc hM hd (by decide) (fun _ => hp) rfl hv kk
theorem sl_8_1 (hM : Mach l cc own 8 D K G n0 J) {a0 a1 a2 a3 a4 a5 a6 a7 : Option Value} {x : Int64} (hd : decode cc pc = .ok (.lstore_n 1, 1)) (kk : J n I L X (pc + 1) [a0, some (.long x), none, a3, a4, a5, a6, a7] rest) (hp : oc1 a0 = true := by rfl) : J n I L X pc [a0, a1, a2, a3, a4, a5, a6, a7] (.long x :: rest) := q_lstore_n hM hd rfl (by decide) (fun _ => hp) kk
theorem si_8_2 (hM : Mach l cc own 8 D K G n0 J) {a0 a1 a2 a3 a4 a5 a6 a7 : Option Value} {x : Int32} (hd : decode cc pc = .ok (.istore_n 2, 1)) (kk : J n I L X (pc + 1) [a0, a1, some (.int x), a3, a4, a5, a6, a7] rest) (hp : oc1 a1 = true := by rfl) : J n I L X pc [a0, a1, a2, a3, a4, a5, a6, a7] (.int x :: rest) := q_istore_n hM hd rfl (by decide) (fun _ => hp) kk
theorem sa_8_2 (hM : Mach l cc own 8 D K G n0 J) {a0 a1 a2 a3 a4 a5 a6 a7 : Option Value} {x : Nat} (hd : decode cc pc = .ok (.astore_n 2, 1)) (kk : J n I L X (pc + 1) [a0, a1, some (.ref x), a3, a4, a5, a6, a7] rest) (hp : oc1 a1 = true := by rfl) : J n I L X pc [a0, a1, a2, a3, a4, a5, a6, a7] (.ref x :: rest) := q_astore_n hM hd rfl (by decide) (fun _ => hp) kk
theorem saN_8_2 (hM : Mach l cc own 8 D K G n0 J) {a0 a1 a2 a3 a4 a5 a6 a7 : Option Value} (hd : decode cc pc = .ok (.astore_n 2, 1)) (kk : J n I L X (pc + 1) [a0, a1, some .null, a3, a4, a5, a6, a7] rest) (hp : oc1 a1 = true := by rfl) : J n I L X pc [a0, a1, a2, a3, a4, a5, a6, a7] (.null :: rest) := q_astore_nN hM hd rfl (by decide) (fun _ => hp) kk
theorem sinc_8_2 (hM : Mach l cc own 8 D K G n0 J) {a0 a1 a3 a4 a5 a6 a7 : Option Value} {x v : Int32} {z : Int} (hd : decode cc pc = .ok (.iinc 2 z, 3)) (hv : x + Int32.ofInt z = v) (kk : J n I L X (pc + 3) [a0, a1, some (.int v), a3, a4, a5, a6, a7] rest) (hp : oc1 a1 = true := by rfl) : J n I L X pc [a0, a1, some (.int x), a3, a4, a5, a6, a7] rest := q_iinc hM hd (by decide) (fun _ => hp) rfl hv kk
theorem sl_8_2 (hM : Mach l cc own 8 D K G n0 J) {a0 a1 a2 a3 a4 a5 a6 a7 : Option Value} {x : Int64} (hd : decode cc pc = .ok (.lstore_n 2, 1)) (kk : J n I L X (pc + 1) [a0, a1, some (.long x), none, a4, a5, a6, a7] rest) (hp : oc1 a1 = true := by rfl) : J n I L X pc [a0, a1, a2, a3, a4, a5, a6, a7] (.long x :: rest) := q_lstore_n hM hd rfl (by decide) (fun _ => hp) kk
theorem si_8_3 (hM : Mach l cc own 8 D K G n0 J) {a0 a1 a2 a3 a4 a5 a6 a7 : Option Value} {x : Int32} (hd : decode cc pc = .ok (.istore_n 3, 1)) (kk : J n I L X (pc + 1) [a0, a1, a2, some (.int x), a4, a5, a6, a7] rest) (hp : oc1 a2 = true := by rfl) : J n I L X pc [a0, a1, a2, a3, a4, a5, a6, a7] (.int x :: rest) := q_istore_n hM hd rfl (by decide) (fun _ => hp) kk
theorem sa_8_3 (hM : Mach l cc own 8 D K G n0 J) {a0 a1 a2 a3 a4 a5 a6 a7 : Option Value} {x : Nat} (hd : decode cc pc = .ok (.astore_n 3, 1)) (kk : J n I L X (pc + 1) [a0, a1, a2, some (.ref x), a4, a5, a6, a7] rest) (hp : oc1 a2 = true := by rfl) : J n I L X pc [a0, a1, a2, a3, a4, a5, a6, a7] (.ref x :: rest) := q_astore_n hM hd rfl (by decide) (fun _ => hp) kk
theorem saN_8_3 (hM : Mach l cc own 8 D K G n0 J) {a0 a1 a2 a3 a4 a5 a6 a7 : Option Value} (hd : decode cc pc = .ok (.astore_n 3, 1)) (kk : J n I L X (pc + 1) [a0, a1, a2, some .null, a4, a5, a6, a7] rest) (hp : oc1 a2 = true := by rfl) : J n I L X pc [a0, a1, a2, a3, a4, a5, a6, a7] (.null :: rest) := q_astore_nN hM hd rfl (by decide) (fun _ => hp) kk
theorem sinc_8_3 (hM : Mach l cc own 8 D K G n0 J) {a0 a1 a2 a4 a5 a6 a7 : Option Value} {x v : Int32} {z : Int} (hd : decode cc pc = .ok (.iinc 3 z, 3)) (hv : x + Int32.ofInt z = v) (kk : J n I L X (pc + 3) [a0, a1, a2, some (.int v), a4, a5, a6, a7] rest) (hp : oc1 a2 = true := by rfl) : J n I L X pc [a0, a1, a2, some (.int x), a4, a5, a6, a7] rest := q_iinc hM hd (by decide) (fun _ => hp) rfl hv kk
theorem sl_8_3 (hM : Mach l cc own 8 D K G n0 J) {a0 a1 a2 a3 a4 a5 a6 a7 : Option Value} {x : Int64} (hd : decode cc pc = .ok (.lstore_n 3, 1)) (kk : J n I L X (pc + 1) [a0, a1, a2, some (.long x), none, a5, a6, a7] rest) (hp : oc1 a2 = true := by rfl) : J n I L X pc [a0, a1, a2, a3, a4, a5, a6, a7] (.long x :: rest) := q_lstore_n hM hd rfl (by decide) (fun _ => hp) kk
theorem si_8_4 (hM : Mach l cc own 8 D K G n0 J) {a0 a1 a2 a3 a4 a5 a6 a7 : Option Value} {x : Int32} (hd : decode cc pc = .ok (.istore 4, 2)) (kk : J n I L X (pc + 2) [a0, a1, a2, a3, some (.int x), a5, a6, a7] rest) (hp : oc1 a3 = true := by rfl) : J n I L X pc [a0, a1, a2, a3, a4, a5, a6, a7] (.int x :: rest) := q_istore hM hd (by decide) (fun _ => hp) kk
theorem sa_8_4 (hM : Mach l cc own 8 D K G n0 J) {a0 a1 a2 a3 a4 a5 a6 a7 : Option Value} {x : Nat} (hd : decode cc pc = .ok (.astore 4, 2)) (kk : J n I L X (pc + 2) [a0, a1, a2, a3, some (.ref x), a5, a6, a7] rest) (hp : oc1 a3 = true := by rfl) : J n I L X pc [a0, a1, a2, a3, a4, a5, a6, a7] (.ref x :: rest) := q_astore hM hd (by decide) (fun _ => hp) kk
theorem saN_8_4 (hM : Mach l cc own 8 D K G n0 J) {a0 a1 a2 a3 a4 a5 a6 a7 : Option Value} (hd : decode cc pc = .ok (.astore 4, 2)) (kk : J n I L X (pc + 2) [a0, a1, a2, a3, some .null, a5, a6, a7] rest) (hp : oc1 a3 = true := by rfl) : J n I L X pc [a0, a1, a2, a3, a4, a5, a6, a7] (.null :: rest) := q_astoreN hM hd (by decide) (fun _ => hp) kk
theorem sinc_8_4 (hM : Mach l cc own 8 D K G n0 J) {a0 a1 a2 a3 a5 a6 a7 : Option Value} {x v : Int32} {z : Int} (hd : decode cc pc = .ok (.iinc 4 z, 3)) (hv : x + Int32.ofInt z = v) (kk : J n I L X (pc + 3) [a0, a1, a2, a3, some (.int v), a5, a6, a7] rest) (hp : oc1 a3 = true := by rfl) : J n I L X pc [a0, a1, a2, a3, some (.int x), a5, a6, a7] rest := q_iinc hM hd (by decide) (fun _ => hp) rfl hv kk
theorem sl_8_4 (hM : Mach l cc own 8 D K G n0 J) {a0 a1 a2 a3 a4 a5 a6 a7 : Option Value} {x : Int64} (hd : decode cc pc = .ok (.lstore 4, 2)) (kk : J n I L X (pc + 2) [a0, a1, a2, a3, some (.long x), none, a6, a7] rest) (hp : oc1 a3 = true := by rfl) : J n I L X pc [a0, a1, a2, a3, a4, a5, a6, a7] (.long x :: rest) := q_lstore hM hd (by decide) (fun _ => hp) kk
theorem si_8_5 (hM : Mach l cc own 8 D K G n0 J) {a0 a1 a2 a3 a4 a5 a6 a7 : Option Value} {x : Int32} (hd : decode cc pc = .ok (.istore 5, 2)) (kk : J n I L X (pc + 2) [a0, a1, a2, a3, a4, some (.int x), a6, a7] rest) (hp : oc1 a4 = true := by rfl) : J n I L X pc [a0, a1, a2, a3, a4, a5, a6, a7] (.int x :: rest) := q_istore hM hd (by decide) (fun _ => hp) kk
theorem sa_8_5 (hM : Mach l cc own 8 D K G n0 J) {a0 a1 a2 a3 a4 a5 a6 a7 : Option Value} {x : Nat} (hd : decode cc pc = .ok (.astore 5, 2)) (kk : J n I L X (pc + 2) [a0, a1, a2, a3, a4, some (.ref x), a6, a7] rest) (hp : oc1 a4 = true := by rfl) : J n I L X pc [a0, a1, a2, a3, a4, a5, a6, a7] (.ref x :: rest) := q_astore hM hd (by decide) (fun _ => hp) kk
theorem saN_8_5 (hM : Mach l cc own 8 D K G n0 J) {a0 a1 a2 a3 a4 a5 a6 a7 : Option Value} (hd : decode cc pc = .ok (.astore 5, 2)) (kk : J n I L X (pc + 2) [a0, a1, a2, a3, a4, some .null, a6, a7] rest) (hp : oc1 a4 = true := by rfl) : J n I L X pc [a0, a1, a2, a3, a4, a5, a6, a7] (.null :: rest) := q_astoreN hM hd (by decide) (fun _ => hp) kk
theorem sinc_8_5 (hM : Mach l cc own 8 D K G n0 J) {a0 a1 a2 a3 a4 a6 a7 : Option Value} {x v : Int32} {z : Int} (hd : decode cc pc = .ok (.iinc 5 z, 3)) (hv : x + Int32.ofInt z = v) (kk : J n I L X (pc + 3) [a0, a1, a2, a3, a4, some (.int v), a6, a7] rest) (hp : oc1 a4 = true := by rfl) : J n I L X pc [a0, a1, a2, a3, a4, some (.int x), a6, a7] rest := q_iinc hM hd (by decide) (fun _ => hp) rfl hv kk
theorem sl_8_5 (hM : Mach l cc own 8 D K G n0 J) {a0 a1 a2 a3 a4 a5 a6 a7 : Option Value} {x : Int64} (hd : decode cc pc = .ok (.lstore 5, 2)) (kk : J n I L X (pc + 2) [a0, a1, a2, a3, a4, some (.long x), none, a7] rest) (hp : oc1 a4 = true := by rfl) : J n I L X pc [a0, a1, a2, a3, a4, a5, a6, a7] (.long x :: rest) := q_lstore hM hd (by decide) (fun _ => hp) kk
theorem si_8_6 (hM : Mach l cc own 8 D K G n0 J) {a0 a1 a2 a3 a4 a5 a6 a7 : Option Value} {x : Int32} (hd : decode cc pc = .ok (.istore 6, 2)) (kk : J n I L X (pc + 2) [a0, a1, a2, a3, a4, a5, some (.int x), a7] rest) (hp : oc1 a5 = true := by rfl) : J n I L X pc [a0, a1, a2, a3, a4, a5, a6, a7] (.int x :: rest) := q_istore hM hd (by decide) (fun _ => hp) kk
theorem sa_8_6 (hM : Mach l cc own 8 D K G n0 J) {a0 a1 a2 a3 a4 a5 a6 a7 : Option Value} {x : Nat} (hd : decode cc pc = .ok (.astore 6, 2)) (kk : J n I L X (pc + 2) [a0, a1, a2, a3, a4, a5, some (.ref x), a7] rest) (hp : oc1 a5 = true := by rfl) : J n I L X pc [a0, a1, a2, a3, a4, a5, a6, a7] (.ref x :: rest) := q_astore hM hd (by decide) (fun _ => hp) kk
theorem saN_8_6 (hM : Mach l cc own 8 D K G n0 J) {a0 a1 a2 a3 a4 a5 a6 a7 : Option Value} (hd : decode cc pc = .ok (.astore 6, 2)) (kk : J n I L X (pc + 2) [a0, a1, a2, a3, a4, a5, some .null, a7] rest) (hp : oc1 a5 = true := by rfl) : J n I L X pc [a0, a1, a2, a3, a4, a5, a6, a7] (.null :: rest) := q_astoreN hM hd (by decide) (fun _ => hp) kk
theorem sinc_8_6 (hM : Mach l cc own 8 D K G n0 J) {a0 a1 a2 a3 a4 a5 a7 : Option Value} {x v : Int32} {z : Int} (hd : decode cc pc = .ok (.iinc 6 z, 3)) (hv : x + Int32.ofInt z = v) (kk : J n I L X (pc + 3) [a0, a1, a2, a3, a4, a5, some (.int v), a7] rest) (hp : oc1 a5 = true := by rfl) : J n I L X pc [a0, a1, a2, a3, a4, a5, some (.int x), a7] rest := q_iinc hM hd (by decide) (fun _ => hp) rfl hv kk
theorem sl_8_6 (hM : Mach l cc own 8 D K G n0 J) {a0 a1 a2 a3 a4 a5 a6 a7 : Option Value} {x : Int64} (hd : decode cc pc = .ok (.lstore 6, 2)) (kk : J n I L X (pc + 2) [a0, a1, a2, a3, a4, a5, some (.long x), none] rest) (hp : oc1 a5 = true := by rfl) : J n I L X pc [a0, a1, a2, a3, a4, a5, a6, a7] (.long x :: rest) := q_lstore hM hd (by decide) (fun _ => hp) kk
theorem si_8_7 (hM : Mach l cc own 8 D K G n0 J) {a0 a1 a2 a3 a4 a5 a6 a7 : Option Value} {x : Int32} (hd : decode cc pc = .ok (.istore 7, 2)) (kk : J n I L X (pc + 2) [a0, a1, a2, a3, a4, a5, a6, some (.int x)] rest) (hp : oc1 a6 = true := by rfl) : J n I L X pc [a0, a1, a2, a3, a4, a5, a6, a7] (.int x :: rest) := q_istore hM hd (by decide) (fun _ => hp) kk
theorem sa_8_7 (hM : Mach l cc own 8 D K G n0 J) {a0 a1 a2 a3 a4 a5 a6 a7 : Option Value} {x : Nat} (hd : decode cc pc = .ok (.astore 7, 2)) (kk : J n I L X (pc + 2) [a0, a1, a2, a3, a4, a5, a6, some (.ref x)] rest) (hp : oc1 a6 = true := by rfl) : J n I L X pc [a0, a1, a2, a3, a4, a5, a6, a7] (.ref x :: rest) := q_astore hM hd (by decide) (fun _ => hp) kk
theorem saN_8_7 (hM : Mach l cc own 8 D K G n0 J) {a0 a1 a2 a3 a4 a5 a6 a7 : Option Value} (hd : decode cc pc = .ok (.astore 7, 2)) (kk : J n I L X (pc + 2) [a0, a1, a2, a3, a4, a5, a6, some .null] rest) (hp : oc1 a6 = true := by rfl) : J n I L X pc [a0, a1, a2, a3, a4, a5, a6, a7] (.null :: rest) := q_astoreN hM hd (by decide) (fun _ => hp) kk
theorem sinc_8_7 (hM : Mach l cc own 8 D K G n0 J) {a0 a1 a2 a3 a4 a5 a6 : Option Value} {x v : Int32} {z : Int} (hd : decode cc pc = .ok (.iinc 7 z, 3)) (hv : x + Int32.ofInt z = v) (kk : J n I L X (pc + 3) [a0, a1, a2, a3, a4, a5, a6, some (.int v)] rest) (hp : oc1 a6 = true := by rfl) : J n I L X pc [a0, a1, a2, a3, a4, a5, a6, some (.int x)] rest := q_iinc hM hd (by decide) (fun _ => hp) rfl hv kk
theorem si_9_0 (hM : Mach l cc own 9 D K G n0 J) {a0 a1 a2 a3 a4 a5 a6 a7 a8 : Option Value} {x : Int32} (hd : decode cc pc = .ok (.istore_n 0, 1)) (kk : J n I L X (pc + 1) [some (.int x), a1, a2, a3, a4, a5, a6, a7, a8] rest) : J n I L X pc [a0, a1, a2, a3, a4, a5, a6, a7, a8] (.int x :: rest) := q_istore_n hM hd rfl (by decide) (fun h => absurd rfl h) kk
theorem sa_9_0 (hM : Mach l cc own 9 D K G n0 J) {a0 a1 a2 a3 a4 a5 a6 a7 a8 : Option Value} {x : Nat} (hd : decode cc pc = .ok (.astore_n 0, 1)) (kk : J n I L X (pc + 1) [some (.ref x), a1, a2, a3, a4, a5, a6, a7, a8] rest) : J n I L X pc [a0, a1, a2, a3, a4, a5, a6, a7, a8] (.ref x :: rest) := q_astore_n hM hd rfl (by decide) (fun h => absurd rfl h) kk
theorem saN_9_0 (hM : Mach l cc own 9 D K G n0 J) {a0 a1 a2 a3 a4 a5 a6 a7 a8 : Option Value} (hd : decode cc pc = .ok (.astore_n 0, 1)) (kk : J n I L X (pc + 1) [some .null, a1, a2, a3, a4, a5, a6, a7, a8] rest) : J n I L X pc [a0, a1, a2, a3, a4, a5, a6, a7, a8] (.null :: rest) := q_astore_nN hM hd rfl (by decide) (fun h => absurd rfl h) kk
theorem sinc_9_0 (hM : Mach l cc own 9 D K G n0 J) {a1 a2 a3 a4 a5 a6 a7 a8 : Option Value} {x v : Int32} {z : Int} (hd : decode cc pc = .ok (.iinc 0 z, 3)) (hv : x + Int32.ofInt z = v) (kk : J n I L X (pc + 3) [some (.int v), a1, a2, a3, a4, a5, a6, a7, a8] rest) : J n I L X pc [some (.int x), a1, a2, a3, a4, a5, a6, a7, a8] rest := q_iinc hM hd (by decide) (fun h => absurd rfl h) rfl hv kk
theorem sl_9_0 (hM : Mach l cc own 9 D K G n0 J) {a0 a1 a2 a3 a4 a5 a6 a7 a8 : Option Value} {x : Int64} (hd : decode cc pc = .ok (.lstore_n 0, 1)) (kk : J n I L X (pc + 1) [some (.long x), none, a2, a3, a4, a5, a6, a7, a8] rest) : J n I L X pc [a0, a1, a2, a3, a4, a5, a6, a7, a8] (.long x :: rest) := q_lstore_n hM hd rfl (by decide) (fun h => absurd rfl h) kk
theorem si_9_1 (hM : Mach l cc own 9 D K G n0 J) {a0 a1 a2 a3 a4 a5 a6 a7 a8 : Option Value} {x : Int32} (hd : decode cc pc = .ok (.istore_n 1, 1)) (kk : J n I L X (pc + 1) [a0, some (.int x), a2, a3, a4, a5, a6, a7, a8] rest) (hp : oc1 a0 = true := by rfl) : J n I L X pc [a0, a1, a2, a3, a4, a5, a6, a7, a8] (.int x :: rest) := q_istore_n hM hd rfl (by decide) (fun _ => hp) kk
theorem sa_9_1 (hM : Mach l cc own 9 D K G n0 J) {a0 a1 a2 a3 a4 a5 a6 a7 a8 : Option Value} {x : Nat} (hd : decode cc pc = .ok (.astore_n 1, 1)) (kk : J n I L X (pc + 1) [a0, some (.ref x), a2, a3, a4, a5, a6, a7, a8] rest) (hp : oc1 a0 = true := by rfl) : J n I L X pc [a0, a1, a2, a3, a4, a5, a6, a7, a8] (.ref x :: rest) := q_astore_n hM hd rfl (by decide) (fun _ => hp) kk
theorem saN_9_1 (hM : Mach l cc own 9 D K G n0 J) {a0 a1 a2 a3 a4 a5 a6 a7 a8 : Option Value} (hd : decode cc pc = .ok (.astore_n 1, 1)) (kk : J n I L X (pc + 1) [a0, some .null, a2, a3, a4, a5, a6, a7, a8] rest) (hp : oc1 a0 = true := by rfl) : J n I L X pc [a0, a1, a2, a3, a4, a5, a6, a7, a8] (.null :: rest) := q_astore_nN hM hd rfl (by decide) (fun _ => hp) kk
theorem sinc_9_1 (hM : Mach l cc own 9 D K G n0 J) {a0 a2 a3 a4 a5 a6 a7 a8 : Option Value} {x v : Int32} {z : Int} (hd : decode cc pc = .ok (.iinc 1 z, 3)) (hv : x + Int32.ofInt z = v) (kk : J n I L X (pc + 3) [a0, some (.int v), a2, a3, a4, a5, a6, a7, a8] rest) (hp : oc1 a0 = true := by rfl) : J n I L X pc [a0, some (.int x), a2, a3, a4, a5, a6, a7, a8] rest := q_iinc hM hd (by decide) (fun _ => hp) rfl hv kk
theorem sl_9_1 (hM : Mach l cc own 9 D K G n0 J) {a0 a1 a2 a3 a4 a5 a6 a7 a8 : Option Value} {x : Int64} (hd : decode cc pc = .ok (.lstore_n 1, 1)) (kk : J n I L X (pc + 1) [a0, some (.long x), none, a3, a4, a5, a6, a7, a8] rest) (hp : oc1 a0 = true := by rfl) : J n I L X pc [a0, a1, a2, a3, a4, a5, a6, a7, a8] (.long x :: rest) := q_lstore_n hM hd rfl (by decide) (fun _ => hp) kk
theorem si_9_2 (hM : Mach l cc own 9 D K G n0 J) {a0 a1 a2 a3 a4 a5 a6 a7 a8 : Option Value} {x : Int32} (hd : decode cc pc = .ok (.istore_n 2, 1)) (kk : J n I L X (pc + 1) [a0, a1, some (.int x), a3, a4, a5, a6, a7, a8] rest) (hp : oc1 a1 = true := by rfl) : J n I L X pc [a0, a1, a2, a3, a4, a5, a6, a7, a8] (.int x :: rest) := q_istore_n hM hd rfl (by decide) (fun _ => hp) kk
theorem sa_9_2 (hM : Mach l cc own 9 D K G n0 J) {a0 a1 a2 a3 a4 a5 a6 a7 a8 : Option Value} {x : Nat} (hd : decode cc pc = .ok (.astore_n 2, 1)) (kk : J n I L X (pc + 1) [a0, a1, some (.ref x), a3, a4, a5, a6, a7, a8] rest) (hp : oc1 a1 = true := by rfl) : J n I L X pc [a0, a1, a2, a3, a4, a5, a6, a7, a8] (.ref x :: rest) := q_astore_n hM hd rfl (by decide) (fun _ => hp) kk
theorem saN_9_2 (hM : Mach l cc own 9 D K G n0 J) {a0 a1 a2 a3 a4 a5 a6 a7 a8 : Option Value} (hd : decode cc pc = .ok (.astore_n 2, 1)) (kk : J n I L X (pc + 1) [a0, a1, some .null, a3, a4, a5, a6, a7, a8] rest) (hp : oc1 a1 = true := by rfl) : J n I L X pc [a0, a1, a2, a3, a4, a5, a6, a7, a8] (.null :: rest) := q_astore_nN hM hd rfl (by decide) (fun _ => hp) kk
theorem sinc_9_2 (hM : Mach l cc own 9 D K G n0 J) {a0 a1 a3 a4 a5 a6 a7 a8 : Option Value} {x v : Int32} {z : Int} (hd : decode cc pc = .ok (.iinc 2 z, 3)) (hv : x + Int32.ofInt z = v) (kk : J n I L X (pc + 3) [a0, a1, some (.int v), a3, a4, a5, a6, a7, a8] rest) (hp : oc1 a1 = true := by rfl) : J n I L X pc [a0, a1, some (.int x), a3, a4, a5, a6, a7, a8] rest := q_iinc hM hd (by decide) (fun _ => hp) rfl hv kk
theorem sl_9_2 (hM : Mach l cc own 9 D K G n0 J) {a0 a1 a2 a3 a4 a5 a6 a7 a8 : Option Value} {x : Int64} (hd : decode cc pc = .ok (.lstore_n 2, 1)) (kk : J n I L X (pc + 1) [a0, a1, some (.long x), none, a4, a5, a6, a7, a8] rest) (hp : oc1 a1 = true := by rfl) : J n I L X pc [a0, a1, a2, a3, a4, a5, a6, a7, a8] (.long x :: rest) := q_lstore_n hM hd rfl (by decide) (fun _ => hp) kk
theorem si_9_3 (hM : Mach l cc own 9 D K G n0 J) {a0 a1 a2 a3 a4 a5 a6 a7 a8 : Option Value} {x : Int32} (hd : decode cc pc = .ok (.istore_n 3, 1)) (kk : J n I L X (pc + 1) [a0, a1, a2, some (.int x), a4, a5, a6, a7, a8] rest) (hp : oc1 a2 = true := by rfl) : J n I L X pc [a0, a1, a2, a3, a4, a5, a6, a7, a8] (.int x :: rest) := q_istore_n hM hd rfl (by decide) (fun _ => hp) kk
theorem sa_9_3 (hM : Mach l cc own 9 D K G n0 J) {a0 a1 a2 a3 a4 a5 a6 a7 a8 : Option Value} {x : Nat} (hd : decode cc pc = .ok (.astore_n 3, 1)) (kk : J n I L X (pc + 1) [a0, a1, a2, some (.ref x), a4, a5, a6, a7, a8] rest) (hp : oc1 a2 = true := by rfl) : J n I L X pc [a0, a1, a2, a3, a4, a5, a6, a7, a8] (.ref x :: rest) := q_astore_n hM hd rfl (by decide) (fun _ => hp) kk
theorem saN_9_3 (hM : Mach l cc own 9 D K G n0 J) {a0 a1 a2 a3 a4 a5 a6 a7 a8 : Option Value} (hd : decode cc pc = .ok (.astore_n 3, 1)) (kk : J n I L X (pc + 1) [a0, a1, a2, some .null, a4, a5, a6, a7, a8] rest) (hp : oc1 a2 = true := by rfl) : J n I L X pc [a0, a1, a2, a3, a4, a5, a6, a7, a8] (.null :: rest) := q_astore_nN hM hd rfl (by decide) (fun _ => hp) kk
theorem sinc_9_3 (hM : Mach l cc own 9 D K G n0 J) {a0 a1 a2 a4 a5 a6 a7 a8 : Option Value} {x v : Int32} {z : Int} (hd : decode cc pc = .ok (.iinc 3 z, 3)) (hv : x + Int32.ofInt z = v) (kk : J n I L X (pc + 3) [a0, a1, a2, some (.int v), a4, a5, a6, a7, a8] rest) (hp : oc1 a2 = true := by rfl) : J n I L X pc [a0, a1, a2, some (.int x), a4, a5, a6, a7, a8] rest := q_iinc hM hd (by decide) (fun _ => hp) rfl hv kk
theorem sl_9_3 (hM : Mach l cc own 9 D K G n0 J) {a0 a1 a2 a3 a4 a5 a6 a7 a8 : Option Value} {x : Int64} (hd : decode cc pc = .ok (.lstore_n 3, 1)) (kk : J n I L X (pc + 1) [a0, a1, a2, some (.long x), none, a5, a6, a7, a8] rest) (hp : oc1 a2 = true := by rfl) : J n I L X pc [a0, a1, a2, a3, a4, a5, a6, a7, a8] (.long x :: rest) := q_lstore_n hM hd rfl (by decide) (fun _ => hp) kk
theorem si_9_4 (hM : Mach l cc own 9 D K G n0 J) {a0 a1 a2 a3 a4 a5 a6 a7 a8 : Option Value} {x : Int32} (hd : decode cc pc = .ok (.istore 4, 2)) (kk : J n I L X (pc + 2) [a0, a1, a2, a3, some (.int x), a5, a6, a7, a8] rest) (hp : oc1 a3 = true := by rfl) : J n I L X pc [a0, a1, a2, a3, a4, a5, a6, a7, a8] (.int x :: rest) := q_istore hM hd (by decide) (fun _ => hp) kk
theorem sa_9_4 (hM : Mach l cc own 9 D K G n0 J) {a0 a1 a2 a3 a4 a5 a6 a7 a8 : Option Value} {x : Nat} (hd : decode cc pc = .ok (.astore 4, 2)) (kk : J n I L X (pc + 2) [a0, a1, a2, a3, some (.ref x), a5, a6, a7, a8] rest) (hp : oc1 a3 = true := by rfl) : J n I L X pc [a0, a1, a2, a3, a4, a5, a6, a7, a8] (.ref x :: rest) := q_astore hM hd (by decide) (fun _ => hp) kk
theorem saN_9_4 (hM : Mach l cc own 9 D K G n0 J) {a0 a1 a2 a3 a4 a5 a6 a7 a8 : Option Value} (hd : decode cc pc = .ok (.astore 4, 2)) (kk : J n I L X (pc + 2) [a0, a1, a2, a3, some .null, a5, a6, a7, a8] rest) (hp : oc1 a3 = true := by rfl) : J n I L X pc [a0, a1, a2, a3, a4, a5, a6, a7, a8] (.null :: rest) := q_astoreN hM hd (by decide) (fun _ => hp) kk
theorem sinc_9_4 (hM : Mach l cc own 9 D K G n0 J) {a0 a1 a2 a3 a5 a6 a7 a8 : Option Value} {x v : Int32} {z : Int} (hd : decode cc pc = .ok (.iinc 4 z, 3)) (hv : x + Int32.ofInt z = v) (kk : J n I L X (pc + 3) [a0, a1, a2, a3, some (.int v), a5, a6, a7, a8] rest) (hp : oc1 a3 = true := by rfl) : J n I L X pc [a0, a1, a2, a3, some (.int x), a5, a6, a7, a8] rest := q_iinc hM hd (by decide) (fun _ => hp) rfl hv kk
theorem sl_9_4 (hM : Mach l cc own 9 D K G n0 J) {a0 a1 a2 a3 a4 a5 a6 a7 a8 : Option Value} {x : Int64} (hd : decode cc pc = .ok (.lstore 4, 2)) (kk : J n I L X (pc + 2) [a0, a1, a2, a3, some (.long x), none, a6, a7, a8] rest) (hp : oc1 a3 = true := by rfl) : J n I L X pc [a0, a1, a2, a3, a4, a5, a6, a7, a8] (.long x :: rest) := q_lstore hM hd (by decide) (fun _ => hp) kk
theorem si_9_5 (hM : Mach l cc own 9 D K G n0 J) {a0 a1 a2 a3 a4 a5 a6 a7 a8 : Option Value} {x : Int32} (hd : decode cc pc = .ok (.istore 5, 2)) (kk : J n I L X (pc + 2) [a0, a1, a2, a3, a4, some (.int x), a6, a7, a8] rest) (hp : oc1 a4 = true := by rfl) : J n I L X pc [a0, a1, a2, a3, a4, a5, a6, a7, a8] (.int x :: rest) := q_istore hM hd (by decide) (fun _ => hp) kk
theorem sa_9_5 (hM : Mach l cc own 9 D K G n0 J) {a0 a1 a2 a3 a4 a5 a6 a7 a8 : Option Value} {x : Nat} (hd : decode cc pc = .ok (.astore 5, 2)) (kk : J n I L X (pc + 2) [a0, a1, a2, a3, a4, some (.ref x), a6, a7, a8] rest) (hp : oc1 a4 = true := by rfl) : J n I L X pc [a0, a1, a2, a3, a4, a5, a6, a7, a8] (.ref x :: rest) := q_astore hM hd (by decide) (fun _ => hp) kk
theorem saN_9_5 (hM : Mach l cc own 9 D K G n0 J) {a0 a1 a2 a3 a4 a5 a6 a7 a8 : Option Value} (hd : decode cc pc = .ok (.astore 5, 2)) (kk : J n I L X (pc + 2) [a0, a1, a2, a3, a4, some .null, a6, a7, a8] rest) (hp : oc1 a4 = true := by rfl) : J n I L X pc [a0, a1, a2, a3, a4, a5, a6, a7, a8] (.null :: rest) := q_astoreN hM hd (by decide) (fun _ => hp) kk
theorem sinc_9_5 (hM : Mach l cc own 9 D K G n0 J) {a0 a1 a2 a3 a4 a6 a7 a8 : Option Value} {x v : Int32} {z : Int} (hd : decode cc pc = .ok (.iinc 5 z, 3)) (hv : x + Int32.ofInt z = v) (kk : J n I L X (pc + 3) [a0, a1, a2, a3, a4, some (.int v), a6, a7, a8] rest) (hp : oc1 a4 = true := by rfl) : J n I L X pc [a0, a1, a2, a3, a4, some (.int x), a6, a7, a8] rest := q_iinc hM hd (by decide) (fun _ => hp) rfl hv kk
theorem sl_9_5 (hM : Mach l cc own 9 D K G n0 J) {a0 a1 a2 a3 a4 a5 a6 a7 a8 : Option Value} {x : Int64} (hd : decode cc pc = .ok (.lstore 5, 2)) (kk : J n I L X (pc + 2) [a0, a1, a2, a3, a4, some (.long x), none, a7, a8] rest) (hp : oc1 a4 = true := by rfl) : J n I L X pc [a0, a1, a2, a3, a4, a5, a6, a7, a8] (.long x :: rest) := q_lstore hM hd (by decide) (fun _ => hp) kk
theorem si_9_6 (hM : Mach l cc own 9 D K G n0 J) {a0 a1 a2 a3 a4 a5 a6 a7 a8 : Option Value} {x : Int32} (hd : decode cc pc = .ok (.istore 6, 2)) (kk : J n I L X (pc + 2) [a0, a1, a2, a3, a4, a5, some (.int x), a7, a8] rest) (hp : oc1 a5 = true := by rfl) : J n I L X pc [a0, a1, a2, a3, a4, a5, a6, a7, a8] (.int x :: rest) := q_istore hM hd (by decide) (fun _ => hp) kk
theorem sa_9_6 (hM : Mach l cc own 9 D K G n0 J) {a0 a1 a2 a3 a4 a5 a6 a7 a8 : Option Value} {x : Nat} (hd : decode cc pc = .ok (.astore 6, 2)) (kk : J n I L X (pc + 2) [a0, a1, a2, a3, a4, a5, some (.ref x), a7, a8] rest) (hp : oc1 a5 = true := by rfl) : J n I L X pc [a0, a1, a2, a3, a4, a5, a6, a7, a8] (.ref x :: rest) := q_astore hM hd (by decide) (fun _ => hp) kk
theorem saN_9_6 (hM : Mach l cc own 9 D K G n0 J) {a0 a1 a2 a3 a4 a5 a6 a7 a8 : Option Value} (hd : decode cc pc = .ok (.astore 6, 2)) (kk : J n I L X (pc + 2) [a0, a1, a2, a3, a4, a5, some .null, a7, a8] rest) (hp : oc1 a5 = true := by rfl) : J n I L X pc [a0, a1, a2, a3, a4, a5, a6, a7, a8] (.null :: rest) := q_astoreN hM hd (by decide) (fun _ => hp) kk
theorem sinc_9_6 (hM : Mach l cc own 9 D K G n0 J) {a0 a1 a2 a3 a4 a5 a7 a8 : Option Value} {x v : Int32} {z : Int} (hd : decode cc pc = .ok (.iinc 6 z, 3)) (hv : x + Int32.ofInt z = v) (kk : J n I L X (pc + 3) [a0, a1, a2, a3, a4, a5, some (.int v), a7, a8] rest) (hp : oc1 a5 = true := by rfl) : J n I L X pc [a0, a1, a2, a3, a4, a5, some (.int x), a7, a8] rest := q_iinc hM hd (by decide) (fun _ => hp) rfl hv kk
theorem sl_9_6 (hM : Mach l cc own 9 D K G n0 J) {a0 a1 a2 a3 a4 a5 a6 a7 a8 : Option Value} {x : Int64} (hd : decode cc pc = .ok (.lstore 6, 2)) (kk : J n I L X (pc + 2) [a0, a1, a2, a3, a4, a5, some (.long x), none, a8] rest) (hp : oc1 a5 = true := by rfl) : J n I L X pc [a0, a1, a2, a3, a4, a5, a6, a7, a8] (.long x :: rest) := q_lstore hM hd (by decide) (fun _ => hp) kk
theorem si_9_7 (hM : Mach l cc own 9 D K G n0 J) {a0 a1 a2 a3 a4 a5 a6 a7 a8 : Option Value} {x : Int32} (hd : decode cc pc = .ok (.istore 7, 2)) (kk : J n I L X (pc + 2) [a0, a1, a2, a3, a4, a5, a6, some (.int x), a8] rest) (hp : oc1 a6 = true := by rfl) : J n I L X pc [a0, a1, a2, a3, a4, a5, a6, a7, a8] (.int x :: rest) := q_istore hM hd (by decide) (fun _ => hp) kk
theorem sa_9_7 (hM : Mach l cc own 9 D K G n0 J) {a0 a1 a2 a3 a4 a5 a6 a7 a8 : Option Value} {x : Nat} (hd : decode cc pc = .ok (.astore 7, 2)) (kk : J n I L X (pc + 2) [a0, a1, a2, a3, a4, a5, a6, some (.ref x), a8] rest) (hp : oc1 a6 = true := by rfl) : J n I L X pc [a0, a1, a2, a3, a4, a5, a6, a7, a8] (.ref x :: rest) := q_astore hM hd (by decide) (fun _ => hp) kk
theorem saN_9_7 (hM : Mach l cc own 9 D K G n0 J) {a0 a1 a2 a3 a4 a5 a6 a7 a8 : Option Value} (hd : decode cc pc = .ok (.astore 7, 2)) (kk : J n I L X (pc + 2) [a0, a1, a2, a3, a4, a5, a6, some .null, a8] rest) (hp : oc1 a6 = true := by rfl) : J n I L X pc [a0, a1, a2, a3, a4, a5, a6, a7, a8] (.null :: rest) := q_astoreN hM hd (by decide) (fun _ => hp) kk
theorem sinc_9_7 (hM : Mach l cc own 9 D K G n0 J) {a0 a1 a2 a3 a4 a5 a6 a8 : Option Value} {x v : Int32} {z : Int} (hd : decode cc pc = .ok (.iinc 7 z, 3)) (hv : x + Int32.ofInt z = v) (kk : J n I L X (pc + 3) [a0, a1, a2, a3, a4, a5, a6, some (.int v), a8] rest) (hp : oc1 a6 = true := by rfl) : J n I L X pc [a0, a1, a2, a3, a4, a5, a6, some (.int x), a8] rest := q_iinc hM hd (by decide) (fun _ => hp) rfl hv kk
theorem sl_9_7 (hM : Mach l cc own 9 D K G n0 J) {a0 a1 a2 a3 a4 a5 a6 a7 a8 : Option Value} {x : Int64} (hd : decode cc pc = .ok (.lstore 7, 2)) (kk : J n I L X (pc + 2) [a0, a1, a2, a3, a4, a5, a6, some (.long x), none] rest) (hp : oc1 a6 = true := by rfl) : J n I L X pc [a0, a1, a2, a3, a4, a5, a6, a7, a8] (.long x :: rest) := q_lstore hM hd (by decide) (fun _ => hp) kk
theorem si_9_8 (hM : Mach l cc own 9 D K G n0 J) {a0 a1 a2 a3 a4 a5 a6 a7 a8 : Option Value} {x : Int32} (hd : decode cc pc = .ok (.istore 8, 2)) (kk : J n I L X (pc + 2) [a0, a1, a2, a3, a4, a5, a6, a7, some (.int x)] rest) (hp : oc1 a7 = true := by rfl) : J n I L X pc [a0, a1, a2, a3, a4, a5, a6, a7, a8] (.int x :: rest) := q_istore hM hd (by decide) (fun _ => hp) kk
theorem sa_9_8 (hM : Mach l cc own 9 D K G n0 J) {a0 a1 a2 a3 a4 a5 a6 a7 a8 : Option Value} {x : Nat} (hd : decode cc pc = .ok (.astore 8, 2)) (kk : J n I L X (pc + 2) [a0, a1, a2, a3, a4, a5, a6, a7, some (.ref x)] rest) (hp : oc1 a7 = true := by rfl) : J n I L X pc [a0, a1, a2, a3, a4, a5, a6, a7, a8] (.ref x :: rest) := q_astore hM hd (by decide) (fun _ => hp) kk
theorem saN_9_8 (hM : Mach l cc own 9 D K G n0 J) {a0 a1 a2 a3 a4 a5 a6 a7 a8 : Option Value} (hd : decode cc pc = .ok (.astore 8, 2)) (kk : J n I L X (pc + 2) [a0, a1, a2, a3, a4, a5, a6, a7, some .null] rest) (hp : oc1 a7 = true := by rfl) : J n I L X pc [a0, a1, a2, a3, a4, a5, a6, a7, a8] (.null :: rest) := q_astoreN hM hd (by decide) (fun _ => hp) kk
theorem sinc_9_8 (hM : Mach l cc own 9 D K G n0 J) {a0 a1 a2 a3 a4 a5 a6 a7 : Option Value} {x v : Int32} {z : Int} (hd : decode cc pc = .ok (.iinc 8 z, 3)) (hv : x + Int32.ofInt z = v) (kk : J n I L X (pc + 3) [a0, a1, a2, a3, a4, a5, a6, a7, some (.int v)] rest) (hp : oc1 a7 = true := by rfl) : J n I L X pc [a0, a1, a2, a3, a4, a5, a6, a7, some (.int x)] rest := q_iinc hM hd (by decide) (fun _ => hp) rfl hv kk
theorem si_10_0 (hM : Mach l cc own 10 D K G n0 J) {a0 a1 a2 a3 a4 a5 a6 a7 a8 a9 : Option Value} {x : Int32} (hd : decode cc pc = .ok (.istore_n 0, 1)) (kk : J n I L X (pc + 1) [some (.int x), a1, a2, a3, a4, a5, a6, a7, a8, a9] rest) : J n I L X pc [a0, a1, a2, a3, a4, a5, a6, a7, a8, a9] (.int x :: rest) := q_istore_n hM hd rfl (by decide) (fun h => absurd rfl h) kk
theorem sa_10_0 (hM : Mach l cc own 10 D K G n0 J) {a0 a1 a2 a3 a4 a5 a6 a7 a8 a9 : Option Value} {x : Nat} (hd : decode cc pc = .ok (.astore_n 0, 1)) (kk : J n I L X (pc + 1) [some (.ref x), a1, a2, a3, a4, a5, a6, a7, a8, a9] rest) : J n I L X pc [a0, a1, a2, a3, a4, a5, a6, a7, a8, a9] (.ref x :: rest) := q_astore_n hM hd rfl (by decide) (fun h => absurd rfl h) kk
theorem saN_10_0 (hM : Mach l cc own 10 D K G n0 J) {a0 a1 a2 a3 a4 a5 a6 a7 a8 a9 : Option Value} (hd : decode cc pc = .ok (.astore_n 0, 1)) (kk : J n I L X (pc + 1) [some .null, a1, a2, a3, a4, a5, a6, a7, a8, a9] rest) : J n I L X pc [a0, a1, a2, a3, a4, a5, a6, a7, a8, a9] (.null :: rest) := q_astore_nN hM hd rfl (by decide) (fun h => absurd rfl h) kk
theorem sinc_10_0 (hM : Mach l cc own 10 D K G n0 J) {a1 a2 a3 a4 a5 a6 a7 a8 a9 : Option Value} {x v : Int32} {z : Int} (hd : decode cc pc = .ok (.iinc 0 z, 3)) (hv : x + Int32.ofInt z = v) (kk : J n I L X (pc + 3) [some (.int v), a1, a2, a3, a4, a5, a6, a7, a8, a9] rest) : J n I L X pc [some (.int x), a1, a2, a3, a4, a5, a6, a7, a8, a9] rest := q_iinc hM hd (by decide) (fun h => absurd rfl h) rfl hv kk
theorem sl_10_0 (hM : Mach l cc own 10 D K G n0 J) {a0 a1 a2 a3 a4 a5 a6 a7 a8 a9 : Option Value} {x : Int64} (hd : decode cc pc = .ok (.lstore_n 0, 1)) (kk : J n I L X (pc + 1) [some (.long x), none, a2, a3, a4, a5, a6, a7, a8, a9] rest) : J n I L X pc [a0, a1, a2, a3, a4, a5, a6, a7, a8, a9] (.long x :: rest) := q_lstore_n hM hd rfl (by decide) (fun h => absurd rfl h) kk
theorem si_10_1 (hM : Mach l cc own 10 D K G n0 J) {a0 a1 a2 a3 a4 a5 a6 a7 a8 a9 : Option Value} {x : Int32} (hd : decode cc pc = .ok (.istore_n 1, 1)) (kk : J n I L X (pc + 1) [a0, some (.int x), a2, a3, a4, a5, a6, a7, a8, a9] rest) (hp : oc1 a0 = true := by rfl) : J n I L X pc [a0, a1, a2, a3, a4, a5, a6, a7, a8, a9] (.int x :: rest) := q_istore_n hM hd rfl (by decide) (fun _ => hp) kk
theorem sa_10_1 (hM : Mach l cc own 10 D K G n0 J) {a0 a1 a2 a3 a4 a5 a6 a7 a8 a9 : Option Value} {x : Nat} (hd : decode cc pc = .ok (.astore_n 1, 1)) (kk : J n I L X (pc + 1) [a0, some (.ref x), a2, a3, a4, a5, a6, a7, a8, a9] rest) (hp : oc1 a0 = true := by rfl) : J n I L X pc [a0, a1, a2, a3, a4, a5, a6, a7, a8, a9] (.ref x :: rest) := q_astore_n hM hd rfl (by decide) (fun _ => hp) kk
theorem saN_10_1 (hM : Mach l cc own 10 D K G n0 J) {a0 a1 a2 a3 a4 a5 a6 a7 a8 a9 : Option Value} (hd : decode cc pc = .ok (.astore_n 1, 1)) (kk : J n I L X (pc + 1) [a0, some .null, a2, a3, a4, a5, a6, a7, a8, a9] rest) (hp : oc1 a0 = true := by rfl) : J n I L X pc [a0, a1, a2, a3, a4, a5, a6, a7, a8, a9] (.null :: rest) := q_astore_nN hM hd rfl (by decide) (fun _ => hp) kk
theorem sinc_10_1 (hM : Mach l cc own 10 D K G n0 J) {a0 a2 a3 a4 a5 a6 a7 a8 a9 : Option Value} {x v : Int32} {z : Int} (hd : decode cc pc = .ok (.iinc 1 z, 3)) (hv : x + Int32.ofInt z = v) (kk : J n I L X (pc + 3) [a0, some (.int v), a2, a3, a4, a5, a6, a7, a8, a9] rest) (hp : oc1 a0 = true := by rfl) : J n I L X pc [a0, some (.int x), a2, a3, a4, a5, a6, a7, a8, a9] rest := q_iinc hM hd (by decide) (fun _ => hp) rfl hv kk
theorem sl_10_1 (hM : Mach l cc own 10 D K G n0 J) {a0 a1 a2 a3 a4 a5 a6 a7 a8 a9 : Option Value} {x : Int64} (hd : decode cc pc = .ok (.lstore_n 1, 1)) (kk : J n I L X (pc + 1) [a0, some (.long x), none, a3, a4, a5, a6, a7, a8, a9] rest) (hp : oc1 a0 = true := by rfl) : J n I L X pc [a0, a1, a2, a3, a4, a5, a6, a7, a8, a9] (.long x :: rest) := q_lstore_n hM hd rfl (by decide) (fun _ => hp) kk
theorem si_10_2 (hM : Mach l cc own 10 D K G n0 J) {a0 a1 a2 a3 a4 a5 a6 a7 a8 a9 : Option Value} {x : Int32} (hd : decode cc pc = .ok (.istore_n 2, 1)) (kk : J n I L X (pc + 1) [a0, a1, some (.int x), a3, a4, a5, a6, a7, a8, a9] rest) (hp : oc1 a1 = true := by rfl) : J n I L X pc [a0, a1, a2, a3, a4, a5, a6, a7, a8, a9] (.int x :: rest) := q_istore_n hM hd rfl (by decide) (fun _ => hp) kk
theorem sa_10_2 (hM : Mach l cc own 10 D K G n0 J) {a0 a1 a2 a3 a4 a5 a6 a7 a8 a9 : Option Value} {x : Nat} (hd : decode cc pc = .ok (.astore_n 2, 1)) (kk : J n I L X (pc + 1) [a0, a1, some (.ref x), a3, a4, a5, a6, a7, a8, a9] rest) (hp : oc1 a1 = true := by rfl) : J n I L X pc [a0, a1, a2, a3, a4, a5, a6, a7, a8, a9] (.ref x :: rest) := q_astore_n hM hd rfl (by decide) (fun _ => hp) kk
theorem saN_10_2 (hM : Mach l cc own 10 D K G n0 J) {a0 a1 a2 a3 a4 a5 a6 a7 a8 a9 : Option Value} (hd : decode cc pc = .ok (.astore_n 2, 1)) (kk : J n I L X (pc + 1) [a0, a1, some .null, a3, a4, a5, a6, a7, a8, a9] rest) (hp : oc1 a1 = true := by rfl) : J n I L X pc [a0, a1, a2, a3, a4, a5, a6, a7, a8, a9] (.null :: rest) := q_astore_nN hM hd rfl (by decide) (fun _ => hp) kk
theorem sinc_10_2 (hM : Mach l cc own 10 D K G n0 J) {a0 a1 a3 a4 a5 a6 a7 a8 a9 : Option Value} {x v : Int32} {z : Int} (hd : decode cc pc = .ok (.iinc 2 z, 3)) (hv : x + Int32.ofInt z = v) (kk : J n I L X (pc + 3) [a0, a1, some (.int v), a3, a4, a5, a6, a7, a8, a9] rest) (hp : oc1 a1 = true := by rfl) : J n I L X pc [a0, a1, some (.int x), a3, a4, a5, a6, a7, a8, a9] rest := q_iinc hM hd (by decide) (fun _ => hp) rfl hv kk
theorem sl_10_2 (hM : Mach l cc own 10 D K G n0 J) {a0 a1 a2 a3 a4 a5 a6 a7 a8 a9 : Option Value} {x : Int64} (hd : decode cc pc = .ok (.lstore_n 2, 1)) (kk : J n I L X (pc + 1) [a0, a1, some (.long x), none, a4, a5, a6, a7, a8, a9] rest) (hp : oc1 a1 = true := by rfl) : J n I L X pc [a0, a1, a2, a3, a4, a5, a6, a7, a8, a9] (.long x :: rest) := q_lstore_n hM hd rfl (by decide) (fun _ => hp) kk
theorem si_10_3 (hM : Mach l cc own 10 D K G n0 J) {a0 a1 a2 a3 a4 a5 a6 a7 a8 a9 : Option Value} {x : Int32} (hd : decode cc pc = .ok (.istore_n 3, 1)) (kk : J n I L X (pc + 1) [a0, a1, a2, some (.int x), a4, a5, a6, a7, a8, a9] rest) (hp : oc1 a2 = true := by rfl) : J n I L X pc [a0, a1, a2, a3, a4, a5, a6, a7, a8, a9] (.int x :: rest) := q_istore_n hM hd rfl (by decide) (fun _ => hp) kk
theorem sa_10_3 (hM : Mach l cc own 10 D K G n0 J) {a0 a1 a2 a3 a4 a5 a6 a7 a8 a9 : Option Value} {x : Nat} (hd : decode cc pc = .ok (.astore_n 3, 1)) (kk : J n I L X (pc + 1) [a0, a1, a2, some (.ref x), a4, a5, a6, a7, a8, a9] rest) (hp : oc1 a2 = true := by rfl) : J n I L X pc [a0, a1, a2, a3, a4, a5, a6, a7, a8, a9] (.ref x :: rest) := q_astore_n hM hd rfl (by decide) (fun _ => hp) kk
theorem saN_10_3 (hM : Mach l cc own 10 D K G n0 J) {a0 a1 a2 a3 a4 a5 a6 a7 a8 a9 : Option Value} (hd : decode cc pc = .ok (.astore_n 3, 1)) (kk : J n I L X (pc + 1) [a0, a1, a2, some .null, a4, a5, a6, a7, a8, a9] rest) (hp : oc1 a2 = true := by rfl) : J n I L X pc [a0, a1, a2, a3, a4, a5, a6, a7, a8, a9] (.null :: rest) := q_astore_nN hM hd rfl (by decide) (fun _ => hp) kk
theorem sinc_10_3 (hM : Mach l cc own 10 D K G n0 J) {a0 a1 a2 a4 a5 a6 a7 a8 a9 : Option Value} {x v : Int32} {z : Int} (hd : decode cc pc = .ok (.iinc 3 z, 3)) (hv : x + Int32.ofInt z = v) (kk : J n I L X (pc + 3) [a0, a1, a2, some (.int v), a4, a5, a6, a7, a8, a9] rest) (hp : oc1 a2 = true := by rfl) : J n I L X pc [a0, a1, a2, some (.int x), a4, a5, a6, a7, a8, a9] rest := q_iinc hM hd (by decide) (fun _ => hp) rfl hv kk
theorem sl_10_3 (hM : Mach l cc own 10 D K G n0 J) {a0 a1 a2 a3 a4 a5 a6 a7 a8 a9 : Option Value} {x : Int64} (hd : decode cc pc = .ok (.lstore_n 3, 1)) (kk : J n I L X (pc + 1) [a0, a1, a2, some (.long x), none, a5, a6, a7, a8, a9] rest) (hp : oc1 a2 = true := by rfl) : J n I L X pc [a0, a1, a2, a3, a4, a5, a6, a7, a8, a9] (.long x :: rest) := q_lstore_n hM hd rfl (by decide) (fun _ => hp) kk
theorem si_10_4 (hM : Mach l cc own 10 D K G n0 J) {a0 a1 a2 a3 a4 a5 a6 a7 a8 a9 : Option Value} {x : Int32} (hd : decode cc pc = .ok (.istore 4, 2)) (kk : J n I L X (pc + 2) [a0, a1, a2, a3, some (.int x), a5, a6, a7, a8, a9] rest) (hp : oc1 a3 = true := by rfl) : J n I L X pc [a0, a1, a2, a3, a4, a5, a6, a7, a8, a9] (.int x :: rest) := q_istore hM hd (by decide) (fun _ => hp) kk
theorem sa_10_4 (hM : Mach l cc own 10 D K G n0 J) {a0 a1 a2 a3 a4 a5 a6 a7 a8 a9 : Option Value} {x : Nat} (hd : decode cc pc = .ok (.astore 4, 2)) (kk : J n I L X (pc + 2) [a0, a1, a2, a3, some (.ref x), a5, a6, a7, a8, a9] rest) (hp : oc1 a3 = true := by rfl) : J n I L X pc [a0, a1, a2, a3, a4, a5, a6, a7, a8, a9] (.ref x :: rest) := q_astore hM hd (by decide) (fun _ => hp) kk
theorem saN_10_4 (hM : Mach l cc own 10 D K G n0 J) {a0 a1 a2 a3 a4 a5 a6 a7 a8 a9 : Option Value} (hd : decode cc pc = .ok (.astore 4, 2)) (kk : J n I L X (pc + 2) [a0, a1, a2, a3, some .null, a5, a6, a7, a8, a9] rest) (hp : oc1 a3 = true := by rfl) : J n I L X pc [a0, a1, a2, a3, a4, a5, a6, a7, a8, a9] (.null :: rest) := q_astoreN hM hd (by decide) (fun _ => hp) kk
theorem sinc_10_4 (hM : Mach l cc own 10 D K G n0 J) {a0 a1 a2 a3 a5 a6 a7 a8 a9 : Option Value} {x v : Int32} {z : Int} (hd : decode cc pc = .ok (.iinc 4 z, 3)) (hv : x + Int32.ofInt z = v) (kk : J n I L X (pc + 3) [a0, a1, a2, a3, some (.int v), a5, a6, a7, a8, a9] rest) (hp : oc1 a3 = true := by rfl) : J n I L X pc [a0, a1, a2, a3, some (.int x), a5, a6, a7, a8, a9] rest := q_iinc hM hd (by decide) (fun _ => hp) rfl hv kk
theorem sl_10_4 (hM : Mach l cc own 10 D K G n0 J) {a0 a1 a2 a3 a4 a5 a6 a7 a8 a9 : Option Value} {x : Int64} (hd : decode cc pc = .ok (.lstore 4, 2)) (kk : J n I L X (pc + 2) [a0, a1, a2, a3, some (.long x), none, a6, a7, a8, a9] rest) (hp : oc1 a3 = true := by rfl) : J n I L X pc [a0, a1, a2, a3, a4, a5, a6, a7, a8, a9] (.long x :: rest) := q_lstore hM hd (by decide) (fun _ => hp) kk
theorem si_10_5 (hM : Mach l cc own 10 D K G n0 J) {a0 a1 a2 a3 a4 a5 a6 a7 a8 a9 : Option Value} {x : Int32} (hd : decode cc pc = .ok (.istore 5, 2)) (kk : J n I L X (pc + 2) [a0, a1, a2, a3, a4, some (.int x), a6, a7, a8, a9] rest) (hp : oc1 a4 = true := by rfl) : J n I L X pc [a0, a1, a2, a3, a4, a5, a6, a7, a8, a9] (.int x :: rest) := q_istore hM hd (by decide) (fun _ => hp) kk
theorem sa_10_5 (hM : Mach l cc own 10 D K G n0 J) {a0 a1 a2 a3 a4 a5 a6 a7 a8 a9 : Option Value} {x : Nat} (hd : decode cc pc = .ok (.astore 5, 2)) (kk : J n I L X (pc + 2) [a0, a1, a2, a3, a4, some (.ref x), a6, a7, a8, a9] rest) (hp : oc1 a4 = true := by rfl) : J n I L X pc [a0, a1, a2, a3, a4, a5, a6, a7, a8, a9] (.ref x :: rest) := q_astore hM hd (by decide) (fun _ => hp) kk
theorem saN_10_5 (hM : Mach l cc own 10 D K G n0 J) {a0 a1 a2 a3 a4 a5 a6 a7 a8 a9 : Option Value} (hd : decode cc pc = .ok (.astore 5, 2)) (kk : J n I L X (pc + 2) [a0, a1, a2, a3, a4, some .null, a6, a7, a8, a9] rest) (hp : oc1 a4 = true := by rfl) : J n I L X pc [a0, a1, a2, a3, a4, a5, a6, a7, a8, a9] (.null :: rest) := q_astoreN hM hd (by decide) (fun _ => hp) kk
theorem sinc_10_5 (hM : Mach l cc own 10 D K G n0 J) {a0 a1 a2 a3 a4 a6 a7 a8 a9 : Option Value} {x v : Int32} {z : Int} (hd : decode cc pc = .ok (.iinc 5 z, 3)) (hv : x + Int32.ofInt z = v) (kk : J n I L X (pc + 3) [a0, a1, a2, a3, a4, some (.int v), a6, a7, a8, a9] rest) (hp : oc1 a4 = true := by rfl) : J n I L X pc [a0, a1, a2, a3, a4, some (.int x), a6, a7, a8, a9] rest := q_iinc hM hd (by decide) (fun _ => hp) rfl hv kk
theorem sl_10_5 (hM : Mach l cc own 10 D K G n0 J) {a0 a1 a2 a3 a4 a5 a6 a7 a8 a9 : Option Value} {x : Int64} (hd : decode cc pc = .ok (.lstore 5, 2)) (kk : J n I L X (pc + 2) [a0, a1, a2, a3, a4, some (.long x), none, a7, a8, a9] rest) (hp : oc1 a4 = true := by rfl) : J n I L X pc [a0, a1, a2, a3, a4, a5, a6, a7, a8, a9] (.long x :: rest) := q_lstore hM hd (by decide) (fun _ => hp) kk
theorem si_10_6 (hM : Mach l cc own 10 D K G n0 J) {a0 a1 a2 a3 a4 a5 a6 a7 a8 a9 : Option Value} {x : Int32} (hd : decode cc pc = .ok (.istore 6, 2)) (kk : J n I L X (pc + 2) [a0, a1, a2, a3, a4, a5, some (.int x), a7, a8, a9] rest) (hp : oc1 a5 = true := by rfl) : J n I L X pc [a0, a1, a2, a3, a4, a5, a6, a7, a8, a9] (.int x :: rest) := q_istore hM hd (by decide) (fun _ => hp) kk
theorem sa_10_6 (hM : Mach l cc own 10 D K G n0 J) {a0 a1 a2 a3 a4 a5 a6 a7 a8 a9 : Option Value} {x : Nat} (hd : decode cc pc = .ok (.astore 6, 2)) (kk : J n I L X (pc + 2) [a0, a1, a2, a3, a4, a5, some (.ref x), a7, a8, a9] rest) (hp : oc1 a5 = true := by rfl) : J n I L X pc [a0, a1, a2, a3, a4, a5, a6, a7, a8, a9] (.ref x :: rest) := q_astore hM hd (by decide) (fun _ => hp) kk
theorem saN_10_6 (hM : Mach l cc own 10 D K G n0 J) {a0 a1 a2 a3 a4 a5 a6 a7 a8 a9 : Option Value} (hd : decode cc pc = .ok (.astore 6, 2)) (kk : J n I L X (pc + 2) [a0, a1, a2, a3, a4, a5, some .null, a7, a8, a9] rest) (hp : oc1 a5 = true := by rfl) : J n I L X pc [a0, a1, a2, a3, a4, a5, a6, a7, a8, a9] (.null :: rest) := q_astoreN hM hd (by decide) (fun _ => hp) kk
theorem sinc_10_6 (hM : Mach l cc own 10 D K G n0 J) {a0 a1 a2 a3 a4 a5 a7 a8 a9 : Option Value} {x v : Int32} {z : Int} (hd : decode cc pc = .ok (.iinc 6 z, 3)) (hv : x + Int32.ofInt z = v) (kk : J n I L X (pc + 3) [a0, a1, a2, a3, a4, a5, some (.int v), a7, a8, a9] rest) (hp : oc1 a5 = true := by rfl) : J n I L X pc [a0, a1, a2, a3, a4, a5, some (.int x), a7, a8, a9] rest := q_iinc hM hd (by decide) (fun _ => hp) rfl hv kk
theorem sl_10_6 (hM : Mach l cc own 10 D K G n0 J) {a0 a1 a2 a3 a4 a5 a6 a7 a8 a9 : Option Value} {x : Int64} (hd : decode cc pc = .ok (.lstore 6, 2)) (kk : J n I L X (pc + 2) [a0, a1, a2, a3, a4, a5, some (.long x), none, a8, a9] rest) (hp : oc1 a5 = true := by rfl) : J n I L X pc [a0, a1, a2, a3, a4, a5, a6, a7, a8, a9] (.long x :: rest) := q_lstore hM hd (by decide) (fun _ => hp) kk
theorem si_10_7 (hM : Mach l cc own 10 D K G n0 J) {a0 a1 a2 a3 a4 a5 a6 a7 a8 a9 : Option Value} {x : Int32} (hd : decode cc pc = .ok (.istore 7, 2)) (kk : J n I L X (pc + 2) [a0, a1, a2, a3, a4, a5, a6, some (.int x), a8, a9] rest) (hp : oc1 a6 = true := by rfl) : J n I L X pc [a0, a1, a2, a3, a4, a5, a6, a7, a8, a9] (.int x :: rest) := q_istore hM hd (by decide) (fun _ => hp) kk
theorem sa_10_7 (hM : Mach l cc own 10 D K G n0 J) {a0 a1 a2 a3 a4 a5 a6 a7 a8 a9 : Option Value} {x : Nat} (hd : decode cc pc = .ok (.astore 7, 2)) (kk : J n I L X (pc + 2) [a0, a1, a2, a3, a4, a5, a6, some (.ref x), a8, a9] rest) (hp : oc1 a6 = true := by rfl) : J n I L X pc [a0, a1, a2, a3, a4, a5, a6, a7, a8, a9] (.ref x :: rest) := q_astore hM hd (by decide) (fun _ => hp) kk
theorem saN_10_7 (hM : Mach l cc own 10 D K G n0 J) {a0 a1 a2 a3 a4 a5 a6 a7 a8 a9 : Option Value} (hd : decode cc pc = .ok (.astore 7, 2)) (kk : J n I L X (pc + 2) [a0, a1, a2, a3, a4, a5, a6, some .null, a8, a9] rest) (hp : oc1 a6 = true := by rfl) : J n I L X pc [a0, a1, a2, a3, a4, a5, a6, a7, a8, a9] (.null :: rest) := q_astoreN hM hd (by decide) (fun _ => hp) kk
theorem sinc_10_7 (hM : Mach l cc own 10 D K G n0 J) {a0 a1 a2 a3 a4 a5 a6 a8 a9 : Option Value} {x v : Int32} {z : Int} (hd : decode cc pc = .ok (.iinc 7 z, 3)) (hv : x + Int32.ofInt z = v) (kk : J n I L X (pc + 3) [a0, a1, a2, a3, a4, a5, a6, some (.int v), a8, a9] rest) (hp : oc1 a6 = true := by rfl) : J n I L X pc [a0, a1, a2, a3, a4, a5, a6, some (.int x), a8, a9] rest := q_iinc hM hd (by decide) (fun _ => hp) rfl hv kk
theorem sl_10_7 (hM : Mach l cc own 10 D K G n0 J) {a0 a1 a2 a3 a4 a5 a6 a7 a8 a9 : Option Value} {x : Int64} (hd : decode cc pc = .ok (.lstore 7, 2)) (kk : J n I L X (pc + 2) [a0, a1, a2, a3, a4, a5, a6, some (.long x), none, a9] rest) (hp : oc1 a6 = true := by rfl) : J n I L X pc [a0, a1, a2, a3, a4, a5, a6, a7, a8, a9] (.long x :: rest) := q_lstore hM hd (by decide) (fun _ => hp) kk
theorem si_10_8 (hM : Mach l cc own 10 D K G n0 J) {a0 a1 a2 a3 a4 a5 a6 a7 a8 a9 : Option Value} {x : Int32} (hd : decode cc pc = .ok (.istore 8, 2)) (kk : J n I L X (pc + 2) [a0, a1, a2, a3, a4, a5, a6, a7, some (.int x), a9] rest) (hp : oc1 a7 = true := by rfl) : J n I L X pc [a0, a1, a2, a3, a4, a5, a6, a7, a8, a9] (.int x :: rest) := q_istore hM hd (by decide) (fun _ => hp) kk
theorem sa_10_8 (hM : Mach l cc own 10 D K G n0 J) {a0 a1 a2 a3 a4 a5 a6 a7 a8 a9 : Option Value} {x : Nat} (hd : decode cc pc = .ok (.astore 8, 2)) (kk : J n I L X (pc + 2) [a0, a1, a2, a3, a4, a5, a6, a7, some (.ref x), a9] rest) (hp : oc1 a7 = true := by rfl) : J n I L X pc [a0, a1, a2, a3, a4, a5, a6, a7, a8, a9] (.ref x :: rest) := q_astore hM hd (by decide) (fun _ => hp) kk
theorem saN_10_8 (hM : Mach l cc own 10 D K G n0 J) {a0 a1 a2 a3 a4 a5 a6 a7 a8 a9 : Option Value} (hd : decode cc pc = .ok (.astore 8, 2)) (kk : J n I L X (pc + 2) [a0, a1, a2, a3, a4, a5, a6, a7, some .null, a9] rest) (hp : oc1 a7 = true := by rfl) : J n I L X pc [a0, a1, a2, a3, a4, a5, a6, a7, a8, a9] (.null :: rest) := q_astoreN hM hd (by decide) (fun _ => hp) kk
theorem sinc_10_8 (hM : Mach l cc own 10 D K G n0 J) {a0 a1 a2 a3 a4 a5 a6 a7 a9 : Option Value} {x v : Int32} {z : Int} (hd : decode cc pc = .ok (.iinc 8 z, 3)) (hv : x + Int32.ofInt z = v) (kk : J n I L X (pc + 3) [a0, a1, a2, a3, a4, a5, a6, a7, some (.int v), a9] rest) (hp : oc1 a7 = true := by rfl) : J n I L X pc [a0, a1, a2, a3, a4, a5, a6, a7, some (.int x), a9] rest := q_iinc hM hd (by decide) (fun _ => hp) rfl hv kk
theorem sl_10_8 (hM : Mach l cc own 10 D K G n0 J) {a0 a1 a2 a3 a4 a5 a6 a7 a8 a9 : Option Value} {x : Int64} (hd : decode cc pc = .ok (.lstore 8, 2)) (kk : J n I L X (pc + 2) [a0, a1, a2, a3, a4, a5, a6, a7, some (.long x), none] rest) (hp : oc1 a7 = true := by rfl) : J n I L X pc [a0, a1, a2, a3, a4, a5, a6, a7, a8, a9] (.long x :: rest) := q_lstore hM hd (by decide) (fun _ => hp) kk
theorem si_10_9 (hM : Mach l cc own 10 D K G n0 J) {a0 a1 a2 a3 a4 a5 a6 a7 a8 a9 : Option Value} {x : Int32} (hd : decode cc pc = .ok (.istore 9, 2)) (kk : J n I L X (pc + 2) [a0, a1, a2, a3, a4, a5, a6, a7, a8, some (.int x)] rest) (hp : oc1 a8 = true := by rfl) : J n I L X pc [a0, a1, a2, a3, a4, a5, a6, a7, a8, a9] (.int x :: rest) := q_istore hM hd (by decide) (fun _ => hp) kk
theorem sa_10_9 (hM : Mach l cc own 10 D K G n0 J) {a0 a1 a2 a3 a4 a5 a6 a7 a8 a9 : Option Value} {x : Nat} (hd : decode cc pc = .ok (.astore 9, 2)) (kk : J n I L X (pc + 2) [a0, a1, a2, a3, a4, a5, a6, a7, a8, some (.ref x)] rest) (hp : oc1 a8 = true := by rfl) : J n I L X pc [a0, a1, a2, a3, a4, a5, a6, a7, a8, a9] (.ref x :: rest) := q_astore hM hd (by decide) (fun _ => hp) kk
theorem saN_10_9 (hM : Mach l cc own 10 D K G n0 J) {a0 a1 a2 a3 a4 a5 a6 a7 a8 a9 : Option Value} (hd : decode cc pc = .ok (.astore 9, 2)) (kk : J n I L X (pc + 2) [a0, a1, a2, a3, a4, a5, a6, a7, a8, some .null] rest) (hp : oc1 a8 = true := by rfl) : J n I L X pc [a0, a1, a2, a3, a4, a5, a6, a7, a8, a9] (.null :: rest) := q_astoreN hM hd (by decide) (fun _ => hp) kk
theorem sinc_10_9 (hM : Mach l cc own 10 D K G n0 J) {a0 a1 a2 a3 a4 a5 a6 a7 a8 : Option Value} {x v : Int32} {z : Int} (hd : decode cc pc = .ok (.iinc 9 z, 3)) (hv : x + Int32.ofInt z = v) (kk : J n I L X (pc + 3) [a0, a1, a2, a3, a4, a5, a6, a7, a8, some (.int v)] rest) (hp : oc1 a8 = true := by rfl) : J n I L X pc [a0, a1, a2, a3, a4, a5, a6, a7, a8, some (.int x)] rest := q_iinc hM hd (by decide) (fun _ => hp) rfl hv kk
end QV
end
section
/-! ===== fields and arrays ===== -/
def CF (ci : Nat) (C : String) (T : u_T) (N : Nat) (ty : Nat → FieldType) : Prop :=
  vwCl[ci]? = some (C, T, N) ∧ ci < 8 ∧ nf ci = N ∧ (∀ w ∈ u_ws C T N, InT w) ∧ (∀ k, k < N → parseFieldDescriptor (T k).2.2.1 = some (ty k)) ∧ (∀ a, a < N → ∀ b, b < N → a ≠ b → (T a).2.1 ≠ (T b).2.1)
def FL (own : String) (idx : Nat) (ref name desc : String) : Prop := InT (.fieldLink own idx ref name desc) ∨ ∃ host : String, InT (.fieldLinkNest own idx ref name desc host)
def Zr (f : kI) (g : kL) (h : kX) (r : Nat) : Prop := ∀ j, f r j = 0 ∧ g r j = 0 ∧ h r j = none
section QF
variable {l : Launch} {cc : ByteArray} {own : String} {nL D K : Nat} {G : kG} {n0 : Nat} {J : kJ} {n : Nat} {I : kI} {L : kL} {X : kX} {pc : Nat} {lv : kV} {rest : List Value} {ci : Nat} {C : String} {T : u_T} {N : Nat} {ty : Nat → FieldType}
theorem q_get (hM : Mach l cc own nL D K G n0 J) (cf : CF ci C T N ty) {r j idx : Nat} (hj : j < N) (fl : FL own idx (T j).1 (T j).2.1 (T j).2.2.1) (hr : r < n) (hk : kd r = ci) {v : Value} (hv : fv G I L X ci r j = v) (hd : decode cc pc = .ok (.getfield idx, 3)) (kk : J n I L X (pc + 3) lv (v :: rest)) : J n I L X pc lv (.ref (ad G r) :: rest) := by
  obtain ⟨c1, c2, c3, c4, c5, c6⟩ := cf
  obtain ⟨p, e, Rm, s, m, args, below, meth, c, H0, Q, rfl, hx, hb, hml, hown, hT, hK, hbs, hR⟩ := hM
  intro hn H locs ls hz hP hS hl
  have he : (wl G n I L X)[r]? = some (ad G r, .inr (ci, flds G I L X ci r)) := by rw [wl_get hr, ce_obj hk c2]
  have hv' : (flds G I L X ci r)[j]? = some v := by rw [flds_get (by omega), hv]
  rcases fl with fl | ⟨host, fl⟩
  · exact va_get (Ts := u_ws C T N) hx hb (fun w hw => hT w (c4 w hw)) (fun _ h => h) hown hK hP r he c1 j hj (hT _ fl) (fun _ h => h) hv' hd (kk hn H locs ls hz hP hS hl)
  · exact va_getN (Ts := u_ws C T N) hx hb (fun w hw => hT w (c4 w hw)) (fun _ h => h) hown hK hP r he c1 j hj (hT _ fl) (fun _ h => h) hv' hd (kk hn H locs ls hz hP hS hl)
theorem wl_store {H H1 : Heap} {r : Nat} {e : va_E} {I' : kI} {L' : kL} {X' : kX} (hP : va_P G.1 vwCl (wl G n I L X) H) (hr : r < n) (he : va_at G.1 vwCl (ad G r, e) H1) (heq : ce G I' L' X' r = e) (ho : ∀ q, q ≠ r → ce G I' L' X' q = ce G I L X q) (oq : ∀ q, q ≠ ad G r → H1[q]? = H[q]?) : va_P G.1 vwCl (wl G n I' L' X') H1 := by
  rw [← wl_set heq ho]
  exact hP.set (wl_D G n I L X) (wl_get hr) he oq
theorem q_put0 (hM : Mach l cc own nL D K G n0 J) (cf : CF ci C T N ty) {r j idx : Nat} (hj : j < N) (fl : FL own idx (T j).1 (T j).2.1 (T j).2.2.1) (hr : r < n) (hk : kd r = ci) {v : Value} {I' : kI} {L' : kL} {X' : kX} (hv : fv G I' L' X' ci r j = v) (ho : ∀ k, k ≠ j → fv G I' L' X' ci r k = fv G I L X ci r k) (hq : ∀ q, q ≠ r → ce G I' L' X' q = ce G I L X q) (hfin : (T j).2.2.2 = false) (hn0 : narrow (ty j) v = v) (hfit : fits (ty j) v = true) (hd : decode cc pc = .ok (.putfield idx, 3)) (kk : J n I' L' X' (pc + 3) lv rest) : J n I L X pc lv (v :: .ref (ad G r) :: rest) := by
  obtain ⟨c1, c2, c3, c4, c5, c6⟩ := cf
  obtain ⟨p, e, Rm, s, m, args, below, meth, c, H0, Q, rfl, hx, hb, hml, hown, hT, hK, hbs, hR⟩ := hM
  intro hn H locs ls hz hP hS hl
  have he : (wl G n I L X)[r]? = some (ad G r, .inr (ci, flds G I L X ci r)) := by rw [wl_get hr, ce_obj hk c2]
  have hlen : j < (flds G I L X ci r).length := by rw [flds_len]; omega
  have hts : ∀ w ∈ u_ws C T N, w.before args s = true := fun w hw => hT w (c4 w hw)
  have hap := va_apart (own := own) hts (fun _ h => h) ty c5 c6 hK c1
  obtain ⟨r', h1, cell, q1, q2, q3, q4⟩ := hP r _ he
  have hr' : r' = (C, T, N) := Option.some.inj (h1.symm.trans c1)
  subst hr'
  obtain ⟨hS0, hfc, kC, hkC, hkind⟩ := hK.1 ci _ c1
  obtain ⟨cf, kf, fi, f, hi, hsl⟩ := hS0 j hj
  have hlay := hts _ (u_in_lay hj)
  unfold u_lay at hlay
  rw [if_neg (by rw [hfin]; decide)] at hlay
  have hst := (u_facts hfc hkC (u_lays hts (fun _ h => h) hj) hi).1
  have h6 := u_store hfc hkC hkind hlay hi (c5 j hj) hn0 hfit
  have fin : ∀ H' : Heap, H'[ad G r]? = some (cell.setSlot f.slot v) → H'.size = H.size → (∀ q, q ≠ ad G r → H'[q]? = H[q]?) → W p l e Rm s m args below meth c H' (locs ++ [⟨ad G r, f.slot⟩]) (n - n0) (800 * (n - n0)) Q (F0 m (pc + 3) ls rest) := by
    intro H' e1 e2 e3
    refine kk hn H' _ ls (e2.trans hz) (wl_store hP hr (e := .inr (ci, (flds G I L X ci r).set j v)) ?_ (by rw [ce_obj hk c2, flds_set hv ho]) hq e3) (hS.put e2 e3 (Nat.le_add_right _ _)) hl
    rw [hsl] at e1
    exact ⟨_, c1, t_OB.to (V := updV (vp_V (flds G I L X ci r)) j v) ⟨_, e1, q2, q3, t_set q4 hap hj v⟩ (fun k _ => vp_updV_set hlen v k)⟩
  rcases fl with fl | ⟨host, fl⟩
  · exact W.putK hx hb (f := f) ⟨hown, hT _ fl, ⟨_, _, _, hi⟩, hst⟩ (by rw [q2]; exact h6) q1 q3 (by rw [hsl]; exact k2_hasslot (q4 j hj)) rfl rfl hd fin
  · exact va_WputK hx hb (f := f) hown (hT _ fl) hi hst (by rw [q2]; exact h6) q1 q3 (by rw [hsl]; exact k2_hasslot (q4 j hj)) rfl rfl hd fin
theorem q_puti (hM : Mach l cc own nL D K G n0 J) (cf : CF ci C T N ty) {r j idx : Nat} (hj : j < N) (fl : FL own idx (T j).1 (T j).2.1 (T j).2.2.1) (hr : r < n) (hk : kd r = ci) {v : Int32} (hf : fk ci j = 0) (hfin : (T j).2.2.2 = false) (ht : ty j = .int) (hd : decode cc pc = .ok (.putfield idx, 3)) (kk : J n (up2 I r j v) L X (pc + 3) lv rest) : J n I L X pc lv (.int v :: .ref (ad G r) :: rest) := by
  refine q_put0 hM cf hj fl hr hk (by simp [fv, hf, up2]) (fun k hkj => ?_) (fun q hq => ce_row (up2_row hq) rfl rfl) hfin (by rw [ht]; rfl) (by rw [ht]; rfl) hd kk
  simp [fv, up2, hkj]
theorem q_putl (hM : Mach l cc own nL D K G n0 J) (cf : CF ci C T N ty) {r j idx : Nat} (hj : j < N) (fl : FL own idx (T j).1 (T j).2.1 (T j).2.2.1) (hr : r < n) (hk : kd r = ci) {v : Int64} (hf : fk ci j = 1) (hfin : (T j).2.2.2 = false) (ht : ty j = .long) (hd : decode cc pc = .ok (.putfield idx, 3)) (kk : J n I (up2 L r j v) X (pc + 3) lv rest) : J n I L X pc lv (.long v :: .ref (ad G r) :: rest) := by
  refine q_put0 hM cf hj fl hr hk (by simp [fv, hf, up2]) (fun k hkj => ?_) (fun q hq => ce_row rfl (up2_row hq) rfl) hfin (by rw [ht]; rfl) (by rw [ht]; rfl) hd kk
  simp [fv, up2, hkj]
/-! arrays -/
theorem kl_le (r : Nat) : kl r ≤ 786 := by
  unfold kl klP
  (repeat' split) <;> omega
theorem q_iald (hM : Mach l cc own nL D K G n0 J) {r : Nat} (hr : r < n) (hk : kd r = 8) {i : Int32} (j : Nat) (hi : i = nI j) (hj : j < kl r) (hd : decode cc pc = .ok (.iaload, 1)) (kk : J n I L X (pc + 1) lv (.int (I r j) :: rest)) : J n I L X pc lv (.int i :: .ref (ad G r) :: rest) := by
  obtain ⟨p, e, Rm, s, m, args, below, meth, c, H0, Q, rfl, hx, hb, hml, hown, hT, hK, hbs, hR⟩ := hM
  intro hn H locs ls hz hP hS hl
  have hb31 : j < 2 ^ 31 := by have := kl_le r; omega
  subst hi
  refine va_iald hx hb hK hP r 0 (by rw [wl_get hr, ce_int hk]) rfl (vp_in_nI hj (by have := kl_le r; omega)) hd ?_
  rw [nI_clamp hb31]
  exact kk hn H locs ls hz hP hS hl
theorem q_lald (hM : Mach l cc own nL D K G n0 J) {r : Nat} (hr : r < n) (hk : kd r = 9) {i : Int32} (j : Nat) (hi : i = nI j) (hj : j < kl r) (hd : decode cc pc = .ok (.laload, 1)) (kk : J n I L X (pc + 1) lv (.long (L r j) :: rest)) : J n I L X pc lv (.int i :: .ref (ad G r) :: rest) := by
  obtain ⟨p, e, Rm, s, m, args, below, meth, c, H0, Q, rfl, hx, hb, hml, hown, hT, hK, hbs, hR⟩ := hM
  intro hn H locs ls hz hP hS hl
  have hb31 : j < 2 ^ 31 := by have := kl_le r; omega
  subst hi
  refine va_lald hx hb hK hP r 1 (by rw [wl_get hr, ce_long hk]) rfl (vp_in_nI hj (by have := kl_le r; omega)) hd ?_
  rw [nI_clamp hb31]
  exact kk hn H locs ls hz hP hS hl
theorem q_zald (hM : Mach l cc own nL D K G n0 J) {r : Nat} (hr : r < n) (hk : kd r = 10) {i : Int32} (j : Nat) (hi : i = nI j) (hj : j < kl r) (hd : decode cc pc = .ok (.baload, 1)) (kk : J n I L X (pc + 1) lv (.int (I r j) :: rest)) : J n I L X pc lv (.int i :: .ref (ad G r) :: rest) := by
  obtain ⟨p, e, Rm, s, m, args, below, meth, c, H0, Q, rfl, hx, hb, hml, hown, hT, hK, hbs, hR⟩ := hM
  intro hn H locs ls hz hP hS hl
  have hb31 : j < 2 ^ 31 := by have := kl_le r; omega
  subst hi
  refine va_zald hx hb hK hP r 2 (by rw [wl_get hr, ce_bool hk]) rfl (vp_in_nI hj (by have := kl_le r; omega)) hd ?_
  rw [nI_clamp hb31]
  exact kk hn H locs ls hz hP hS hl
theorem q_aald (hM : Mach l cc own nL D K G n0 J) {r : Nat} (hr : r < n) (k : Nat) (hk : kd r = k) (hkk : k = 11 ∨ k = 12 ∨ k = 13) {i : Int32} (j : Nat) (hi : i = nI j) (hj : j < kl r) {q : Nat} (hX : X r j = some q) (hd : decode cc pc = .ok (.aaload, 1)) (kk : J n I L X (pc + 1) lv (.ref (ad G q) :: rest)) : J n I L X pc lv (.int i :: .ref (ad G r) :: rest) := by
  obtain ⟨p, e, Rm, s, m, args, below, meth, c, H0, Q, rfl, hx, hb, hml, hown, hT, hK, hbs, hR⟩ := hM
  intro hn H locs ls hz hP hS hl
  have hb31 : j < 2 ^ 31 := by have := kl_le r; omega
  subst hi
  have he : (wl G n I L X)[r]? = some (ad G r, .inl (G.2.2 (k - 8), kl r, .inr (.inr (.inr (.inr (fun j => (X r j).map (ad G))))))) := by rw [wl_get hr, ce_ref (by omega), hk]
  have hc := hP r _ he
  have fin : W p l e Rm s m args below meth c H locs (n - n0) (800 * (n - n0)) Q (F0 m (pc + 1) ls (va_rf ((X r j).map (ad G)) :: rest)) := by
    rw [hX]
    exact kk hn H locs ls hz hP hS hl
  have hin : vp_in (nI j) (kl r) := vp_in_nI hj (by have := kl_le r; omega)
  have key : ∀ (t0 : Nat) (ty : FieldType), (tys G)[t0]? = some (G.2.2 (k - 8), ty) → ty.isReference = true → W p l e Rm s m args below meth c H locs (n - n0) (800 * (n - n0)) Q (F0 m pc ls (.int (nI j) :: .ref (ad G r) :: rest)) := by
    intro t0 ty ht hty
    refine W.aald (v := va_rf ((X r j).map (ad G))) (ty := ty) hx hb hc ((hK.2 t0 _ ht).1 (kl r) (fun j => va_rf ((X r j).map (ad G)))) hty (fun q => by cases q) (by show ¬ (_ < 0 ∨ (arrV _ _ _).slots.size ≤ _); rw [arrV_size]; exact hin) ?_ rfl rfl hd fin
    show (arrV _ _ _).slots[_]? = _
    rw [nI_clamp hb31, arrV_read _ _ hj]
  rcases hkk with rfl | rfl | rfl
  · exact key 3 _ rfl rfl
  · exact key 4 _ rfl rfl
  · exact key 5 _ rfl rfl
theorem q_iast (hM : Mach l cc own nL D K G n0 J) {r : Nat} (hr : r < n) (hk : kd r = 8) {i v : Int32} (j : Nat) (hi : i = nI j) (hj : j < kl r) (hd : decode cc pc = .ok (.iastore, 1)) (kk : J n (up2 I r j v) L X (pc + 1) lv rest) : J n I L X pc lv (.int v :: .int i :: .ref (ad G r) :: rest) := by
  obtain ⟨p, e, Rm, s, m, args, below, meth, c, H0, Q, rfl, hx, hb, hml, hown, hT, hK, hbs, hR⟩ := hM
  intro hn H locs ls hz hP hS hl
  have hb31 : j < 2 ^ 31 := by have := kl_le r; omega
  subst hi
  have he : (wl G n I L X)[r]? = some (ad G r, .inl (G.2.2 0, kl r, .inl (I r))) := by rw [wl_get hr, ce_int hk]
  have hin : vp_in (nI j) (kl r) := vp_in_nI hj (by have := kl_le r; omega)
  refine W.iast hx hb (hP r _ he) ((hK.2 0 _ rfl).1 (kl r) (fun j => .int (I r j))) (fun q => by cases q) (by show ¬ (_ < 0 ∨ (arrV _ _ _).slots.size ≤ _); rw [arrV_size]; exact hin) rfl rfl hd fun H1 e z oq => ?_
  refine kk hn H1 _ ls (z.trans hz) (wl_store hP hr (e := .inl (G.2.2 0, kl r, .inl (va_up (I r) j v))) ?_ (by rw [ce_int hk, up2_same]) (fun q hq => ce_row (up2_row hq) rfl rfl) oq) (hS.put z oq (Nat.le_add_right _ _)) hl
  show H1[ad G r]? = some (vp_cell _ _)
  rw [e, nI_clamp hb31, vp_cell_i, vp_cell_i, arrV_store]
  congr 2
  funext q
  by_cases hq : q = j
  · simp [updV, va_up, hq]
  · simp [updV, va_up, hq]
theorem q_last (hM : Mach l cc own nL D K G n0 J) {r : Nat} (hr : r < n) (hk : kd r = 9) {i : Int32} {v : Int64} (j : Nat) (hi : i = nI j) (hj : j < kl r) (hd : decode cc pc = .ok (.lastore, 1)) (kk : J n I (up2 L r j v) X (pc + 1) lv rest) : J n I L X pc lv (.long v :: .int i :: .ref (ad G r) :: rest) := by
  obtain ⟨p, e, Rm, s, m, args, below, meth, c, H0, Q, rfl, hx, hb, hml, hown, hT, hK, hbs, hR⟩ := hM
  intro hn H locs ls hz hP hS hl
  have hb31 : j < 2 ^ 31 := by have := kl_le r; omega
  subst hi
  have he : (wl G n I L X)[r]? = some (ad G r, .inl (G.2.2 1, kl r, .inr (.inl (L r)))) := by rw [wl_get hr, ce_long hk]
  have hin : vp_in (nI j) (kl r) := vp_in_nI hj (by have := kl_le r; omega)
  refine W.last hx hb (hP r _ he) ((hK.2 1 _ rfl).1 (kl r) (fun j => .long (L r j))) (fun q => by cases q) (by show ¬ (_ < 0 ∨ (arrV _ _ _).slots.size ≤ _); rw [arrV_size]; exact hin) rfl rfl hd fun H1 e z oq => ?_
  refine kk hn H1 _ ls (z.trans hz) (wl_store hP hr (e := .inl (G.2.2 1, kl r, .inr (.inl (va_up (L r) j v)))) ?_ (by rw [ce_long hk, up2_same]) (fun q hq => ce_row rfl (up2_row hq) rfl) oq) (hS.put z oq (Nat.le_add_right _ _)) hl
  show H1[ad G r]? = some (vp_cell _ _)
  rw [e, nI_clamp hb31, vp_cell_l, vp_cell_l, arrV_store]
  congr 2
  funext q
  by_cases hq : q = j
  · simp [updV, va_up, hq]
  · simp [updV, va_up, hq]
theorem q_zast (hM : Mach l cc own nL D K G n0 J) {r : Nat} (hr : r < n) (hk : kd r = 10) {i v : Int32} (hv : narrow .boolean (.int v) = .int v) (j : Nat) (hi : i = nI j) (hj : j < kl r) (hd : decode cc pc = .ok (.bastore, 1)) (kk : J n (up2 I r j v) L X (pc + 1) lv rest) : J n I L X pc lv (.int v :: .int i :: .ref (ad G r) :: rest) := by
  obtain ⟨p, e, Rm, s, m, args, below, meth, c, H0, Q, rfl, hx, hb, hml, hown, hT, hK, hbs, hR⟩ := hM
  intro hn H locs ls hz hP hS hl
  have hb31 : j < 2 ^ 31 := by have := kl_le r; omega
  subst hi
  have he : (wl G n I L X)[r]? = some (ad G r, .inl (G.2.2 2, kl r, .inl (I r))) := by rw [wl_get hr, ce_bool hk]
  have hin : vp_in (nI j) (kl r) := vp_in_nI hj (by have := kl_le r; omega)
  refine W.zast hx hb (hP r _ he) ((hK.2 2 _ rfl).1 (kl r) (fun j => .int (I r j))) (fun q => by cases q) (by show ¬ (_ < 0 ∨ (arrV _ _ _).slots.size ≤ _); rw [arrV_size]; exact hin) rfl rfl hd fun H1 e z oq => ?_
  refine kk hn H1 _ ls (z.trans hz) (wl_store hP hr (e := .inl (G.2.2 2, kl r, .inl (va_up (I r) j v))) ?_ (by rw [ce_bool hk, up2_same]) (fun q hq => ce_row (up2_row hq) rfl rfl) oq) (hS.put z oq (Nat.le_add_right _ _)) hl
  show H1[ad G r]? = some (vp_cell _ _)
  rw [e, nI_clamp hb31, hv, vp_cell_i, vp_cell_i, arrV_store]
  congr 2
  funext q
  by_cases hq : q = j
  · simp [updV, va_up, hq]
  · simp [updV, va_up, hq]
theorem q_aast (hM : Mach l cc own nL D K G n0 J) {r : Nat} (hr : r < n) {q : Nat} (hq : q < n) (hk : kd r = 12 ∧ kd q = 5 ∨ kd r = 13 ∧ kd q = 1) {i : Int32} (j : Nat) (hi : i = nI j) (hj : j < kl r) (hd : decode cc pc = .ok (.aastore, 1)) (kk : J n I L (up2 X r j (some q)) (pc + 1) lv rest) : J n I L X pc lv (.ref (ad G q) :: .int i :: .ref (ad G r) :: rest) := by
  obtain ⟨p, e, Rm, s, m, args, below, meth, c, H0, Q, rfl, hx, hb, hml, hown, hT, hK, hbs, hR⟩ := hM
  intro hn H locs ls hz hP hS hl
  have hb31 : j < 2 ^ 31 := by have := kl_le r; omega
  subst hi
  have he : (wl G n I L X)[r]? = some (ad G r, .inl (G.2.2 (kd r - 8), kl r, .inr (.inr (.inr (.inr (fun j => (X r j).map (ad G))))))) := by rw [wl_get hr, ce_ref (by omega)]
  have hev : (wl G n I L X)[q]? = some (ad G q, .inr (kd q, flds G I L X (kd q) q)) := by rw [wl_get hq, ce_obj rfl (by omega)]
  obtain ⟨r', hr', cellV, g1, g2, g3, -⟩ := hP q _ hev
  have key : ∀ (t0 ci : Nat) (rc : vw_C), (tys G)[t0]? = some (G.2.2 (kd r - 8), .object rc.1) → kd q = ci → vwCl[ci]? = some rc → W p l e Rm s m args below meth c H locs (n - n0) (800 * (n - n0)) Q (F0 m pc ls (.ref (ad G q) :: .int (nI j) :: .ref (ad G r) :: rest)) := by
    intro t0 ci rc ht hci hc
    rw [hci] at g2
    have hcls := (hK.1 ci rc hc).2
    obtain ⟨kA, comp, k1, k2, k3, -⟩ := (hK.2 t0 _ ht).2
    have hcomp : comp = G.1.1 ci := Option.some.inj (k3.symm.trans hcls.1)
    subst hcomp
    obtain ⟨kC, hkC, -⟩ := hcls.2
    refine W.aast hx hb (hP r _ he) (fun q h => by cases h) (fun h => by cases h) k1 k2 rfl hkC ⟨nI_pos hb31, by show _ < (arrV _ _ _).slots.size; rw [arrV_size, nI_clamp hb31]; exact hj⟩ g1 (fun q h => by rw [g3] at h; cases h) (by rw [g2]; exact hkC) (by rw [g2]; exact va_assign hcls) rfl rfl hd fun H1 e z oq => ?_
    refine kk hn H1 _ ls (z.trans hz) (wl_store hP hr (e := .inl (G.2.2 (kd r - 8), kl r, .inr (.inr (.inr (.inr (va_up (fun j => (X r j).map (ad G)) j (some (ad G q)))))))) ?_ ?_ (fun q hq => ce_row rfl rfl (up2_row hq)) oq) (hS.put z oq (Nat.le_add_right _ _)) hl
    · show H1[ad G r]? = some (vp_cell _ _)
      rw [e, nI_clamp hb31, vp_cell_q, vp_cell_q, arrV_store]
      congr 2
      funext x
      by_cases hxj : x = j
      · simp [updV, va_up, hxj, va_rf]
      · simp [updV, va_up, hxj]
    · have hfun : (fun a => (up2 X r j (some q) r a).map (ad G)) = va_up (fun a => (X r a).map (ad G)) j (some (ad G q)) := by
        funext x
        by_cases hxj : x = j
        · simp [up2, va_up, hxj]
        · simp [up2, va_up, hxj]
      rw [ce_ref (by omega), hfun]
  rcases hk with ⟨h1, h2⟩ | ⟨h1, h2⟩
  · exact key 4 5 (RX5, TX5, 8) (by rw [h1]; rfl) h2 rfl
  · exact key 5 1 (RX1, TX1, 11) (by rw [h1]; rfl) h2 rfl
end QF
set_option maxRecDepth 20000 in
theorem cl_X0 : ∀ w ∈ u_ws RX0 TX0 2, InT w := by
  intro w hw
  obtain ⟨k, hk, rfl⟩ := List.mem_map.mp hw
  rw [List.mem_range] at hk
  match k, hk with
  | 0, _ => exact inT_of 169 (by decide +kernel) (by decide +kernel)
  | 1, _ => exact inT_of 171 (by decide +kernel) (by decide +kernel)
  | k + 2, hk => exact absurd hk (by omega)
theorem cf_X0 : CF 0 RX0 TX0 2 tyX0 := ⟨rfl, by decide, rfl, cl_X0, tyX0_ok, nmX0⟩
set_option maxRecDepth 20000 in
theorem cl_X1 : ∀ w ∈ u_ws RX1 TX1 11, InT w := by
  intro w hw
  obtain ⟨k, hk, rfl⟩ := List.mem_map.mp hw
  rw [List.mem_range] at hk
  match k, hk with
  | 0, _ => exact inT_of 134 (by decide +kernel) (by decide +kernel)
  | 1, _ => exact inT_of 136 (by decide +kernel) (by decide +kernel)
  | 2, _ => exact inT_of 138 (by decide +kernel) (by decide +kernel)
  | 3, _ => exact inT_of 140 (by decide +kernel) (by decide +kernel)
  | 4, _ => exact inT_of 142 (by decide +kernel) (by decide +kernel)
  | 5, _ => exact inT_of 144 (by decide +kernel) (by decide +kernel)
  | 6, _ => exact inT_of 146 (by decide +kernel) (by decide +kernel)
  | 7, _ => exact inT_of 148 (by decide +kernel) (by decide +kernel)
  | 8, _ => exact inT_of 150 (by decide +kernel) (by decide +kernel)
  | 9, _ => exact inT_of 152 (by decide +kernel) (by decide +kernel)
  | 10, _ => exact inT_of 154 (by decide +kernel) (by decide +kernel)
  | k + 11, hk => exact absurd hk (by omega)
theorem cf_X1 : CF 1 RX1 TX1 11 tyX1 := ⟨rfl, by decide, rfl, cl_X1, tyX1_ok, nmX1⟩
set_option maxRecDepth 20000 in
theorem cl_X2 : ∀ w ∈ u_ws RX2 TX2 5, InT w := by
  intro w hw
  obtain ⟨k, hk, rfl⟩ := List.mem_map.mp hw
  rw [List.mem_range] at hk
  match k, hk with
  | 0, _ => exact inT_of 231 (by decide +kernel) (by decide +kernel)
  | 1, _ => exact inT_of 233 (by decide +kernel) (by decide +kernel)
  | 2, _ => exact inT_of 235 (by decide +kernel) (by decide +kernel)
  | 3, _ => exact inT_of 237 (by decide +kernel) (by decide +kernel)
  | 4, _ => exact inT_of 239 (by decide +kernel) (by decide +kernel)
  | k + 5, hk => exact absurd hk (by omega)
theorem cf_X2 : CF 2 RX2 TX2 5 tyX2 := ⟨rfl, by decide, rfl, cl_X2, tyX2_ok, nmX2⟩
set_option maxRecDepth 20000 in
theorem cl_X3 : ∀ w ∈ u_ws RX3 TX3 4, InT w := by
  intro w hw
  obtain ⟨k, hk, rfl⟩ := List.mem_map.mp hw
  rw [List.mem_range] at hk
  match k, hk with
  | 0, _ => exact inT_of 184 (by decide +kernel) (by decide +kernel)
  | 1, _ => exact inT_of 186 (by decide +kernel) (by decide +kernel)
  | 2, _ => exact inT_of 188 (by decide +kernel) (by decide +kernel)
  | 3, _ => exact inT_of 190 (by decide +kernel) (by decide +kernel)
  | k + 4, hk => exact absurd hk (by omega)
theorem cf_X3 : CF 3 RX3 TX3 4 tyX3 := ⟨rfl, by decide, rfl, cl_X3, tyX3_ok, nmX3⟩
set_option maxRecDepth 20000 in
theorem cl_X4 : ∀ w ∈ u_ws RX4 TX4 4, InT w := by
  intro w hw
  obtain ⟨k, hk, rfl⟩ := List.mem_map.mp hw
  rw [List.mem_range] at hk
  match k, hk with
  | 0, _ => exact inT_of 205 (by decide +kernel) (by decide +kernel)
  | 1, _ => exact inT_of 207 (by decide +kernel) (by decide +kernel)
  | 2, _ => exact inT_of 209 (by decide +kernel) (by decide +kernel)
  | 3, _ => exact inT_of 211 (by decide +kernel) (by decide +kernel)
  | k + 4, hk => exact absurd hk (by omega)
theorem cf_X4 : CF 4 RX4 TX4 4 tyX4 := ⟨rfl, by decide, rfl, cl_X4, tyX4_ok, nmX4⟩
set_option maxRecDepth 20000 in
theorem cl_X5 : ∀ w ∈ u_ws RX5 TX5 8, InT w := by
  intro w hw
  obtain ⟨k, hk, rfl⟩ := List.mem_map.mp hw
  rw [List.mem_range] at hk
  match k, hk with
  | 0, _ => exact inT_of 90 (by decide +kernel) (by decide +kernel)
  | 1, _ => exact inT_of 92 (by decide +kernel) (by decide +kernel)
  | 2, _ => exact inT_of 94 (by decide +kernel) (by decide +kernel)
  | 3, _ => exact inT_of 96 (by decide +kernel) (by decide +kernel)
  | 4, _ => exact inT_of 98 (by decide +kernel) (by decide +kernel)
  | 5, _ => exact inT_of 100 (by decide +kernel) (by decide +kernel)
  | 6, _ => exact inT_of 102 (by decide +kernel) (by decide +kernel)
  | 7, _ => exact inT_of 104 (by decide +kernel) (by decide +kernel)
  | k + 8, hk => exact absurd hk (by omega)
theorem cf_X5 : CF 5 RX5 TX5 8 tyX5 := ⟨rfl, by decide, rfl, cl_X5, tyX5_ok, nmX5⟩
set_option maxRecDepth 20000 in
theorem cl_X6 : ∀ w ∈ u_ws RX6 TX6 5, InT w := by
  intro w hw
  obtain ⟨k, hk, rfl⟩ := List.mem_map.mp hw
  rw [List.mem_range] at hk
  match k, hk with
  | 0, _ => exact inT_of 247 (by decide +kernel) (by decide +kernel)
  | 1, _ => exact inT_of 249 (by decide +kernel) (by decide +kernel)
  | 2, _ => exact inT_of 251 (by decide +kernel) (by decide +kernel)
  | 3, _ => exact inT_of 253 (by decide +kernel) (by decide +kernel)
  | 4, _ => exact inT_of 255 (by decide +kernel) (by decide +kernel)
  | k + 5, hk => exact absurd hk (by omega)
theorem cf_X6 : CF 6 RX6 TX6 5 tyX6 := ⟨rfl, by decide, rfl, cl_X6, tyX6_ok, nmX6⟩
set_option maxRecDepth 20000 in
theorem cl_X7 : ∀ w ∈ u_ws RX7 TX7 13, InT w := by
  intro w hw
  obtain ⟨k, hk, rfl⟩ := List.mem_map.mp hw
  rw [List.mem_range] at hk
  match k, hk with
  | 0, _ => exact inT_of 622 (by decide +kernel) (by decide +kernel)
  | 1, _ => exact inT_of 624 (by decide +kernel) (by decide +kernel)
  | 2, _ => exact inT_of 626 (by decide +kernel) (by decide +kernel)
  | 3, _ => exact inT_of 628 (by decide +kernel) (by decide +kernel)
  | 4, _ => exact inT_of 630 (by decide +kernel) (by decide +kernel)
  | 5, _ => exact inT_of 632 (by decide +kernel) (by decide +kernel)
  | 6, _ => exact inT_of 634 (by decide +kernel) (by decide +kernel)
  | 7, _ => exact inT_of 636 (by decide +kernel) (by decide +kernel)
  | 8, _ => exact inT_of 638 (by decide +kernel) (by decide +kernel)
  | 9, _ => exact inT_of 640 (by decide +kernel) (by decide +kernel)
  | 10, _ => exact inT_of 642 (by decide +kernel) (by decide +kernel)
  | 11, _ => exact inT_of 644 (by decide +kernel) (by decide +kernel)
  | 12, _ => exact inT_of 646 (by decide +kernel) (by decide +kernel)
  | k + 13, hk => exact absurd hk (by omega)
theorem cf_X7 : CF 7 RX7 TX7 13 tyX7 := ⟨rfl, by decide, rfl, cl_X7, tyX7_ok, nmX7⟩
set_option maxRecDepth 20000 in
theorem fl_X5_22 : FL RX5 22 RX5 "line" "I" := Or.inl (inT_of 68 (by decide +kernel) (by decide +kernel))
set_option maxRecDepth 20000 in
theorem fl_X1_73 : FL RX1 73 RX5 "line" "I" := Or.inr ⟨"TrapSurvey", inT_of 69 (by decide +kernel) (by decide +kernel)⟩
set_option maxRecDepth 20000 in
theorem fl_X6_105 : FL RX6 105 RX5 "line" "I" := Or.inr ⟨"TrapSurvey", inT_of 70 (by decide +kernel) (by decide +kernel)⟩
set_option maxRecDepth 20000 in
theorem fl_X5_25 : FL RX5 25 RX5 "kind" "I" := Or.inl (inT_of 71 (by decide +kernel) (by decide +kernel))
set_option maxRecDepth 20000 in
theorem fl_X6_108 : FL RX6 108 RX5 "kind" "I" := Or.inr ⟨"TrapSurvey", inT_of 72 (by decide +kernel) (by decide +kernel)⟩
set_option maxRecDepth 20000 in
theorem fl_X5_28 : FL RX5 28 RX5 "size" "I" := Or.inl (inT_of 73 (by decide +kernel) (by decide +kernel))
set_option maxRecDepth 20000 in
theorem fl_X6_111 : FL RX6 111 RX5 "size" "I" := Or.inr ⟨"TrapSurvey", inT_of 74 (by decide +kernel) (by decide +kernel)⟩
set_option maxRecDepth 20000 in
theorem fl_X5_31 : FL RX5 31 RX5 "x" "I" := Or.inl (inT_of 75 (by decide +kernel) (by decide +kernel))
set_option maxRecDepth 20000 in
theorem fl_X4_49 : FL RX4 49 RX5 "x" "I" := Or.inr ⟨"TrapSurvey", inT_of 76 (by decide +kernel) (by decide +kernel)⟩
set_option maxRecDepth 20000 in
theorem fl_X6_114 : FL RX6 114 RX5 "x" "I" := Or.inr ⟨"TrapSurvey", inT_of 77 (by decide +kernel) (by decide +kernel)⟩
set_option maxRecDepth 20000 in
theorem fl_X5_34 : FL RX5 34 RX5 "y" "I" := Or.inl (inT_of 78 (by decide +kernel) (by decide +kernel))
set_option maxRecDepth 20000 in
theorem fl_X4_52 : FL RX4 52 RX5 "y" "I" := Or.inr ⟨"TrapSurvey", inT_of 79 (by decide +kernel) (by decide +kernel)⟩
set_option maxRecDepth 20000 in
theorem fl_X6_117 : FL RX6 117 RX5 "y" "I" := Or.inr ⟨"TrapSurvey", inT_of 80 (by decide +kernel) (by decide +kernel)⟩
set_option maxRecDepth 20000 in
theorem fl_X5_9 : FL RX5 9 RX5 "state" "I" := Or.inl (inT_of 81 (by decide +kernel) (by decide +kernel))
set_option maxRecDepth 20000 in
theorem fl_X6_120 : FL RX6 120 RX5 "state" "I" := Or.inr ⟨"TrapSurvey", inT_of 82 (by decide +kernel) (by decide +kernel)⟩
set_option maxRecDepth 20000 in
theorem fl_X1_95 : FL RX1 95 RX5 "state" "I" := Or.inr ⟨"TrapSurvey", inT_of 83 (by decide +kernel) (by decide +kernel)⟩
set_option maxRecDepth 20000 in
theorem fl_X5_15 : FL RX5 15 RX5 "readDay" "I" := Or.inl (inT_of 84 (by decide +kernel) (by decide +kernel))
set_option maxRecDepth 20000 in
theorem fl_X6_123 : FL RX6 123 RX5 "readDay" "I" := Or.inr ⟨"TrapSurvey", inT_of 85 (by decide +kernel) (by decide +kernel)⟩
set_option maxRecDepth 20000 in
theorem fl_X1_98 : FL RX1 98 RX5 "readDay" "I" := Or.inr ⟨"TrapSurvey", inT_of 86 (by decide +kernel) (by decide +kernel)⟩
set_option maxRecDepth 20000 in
theorem fl_X5_18 : FL RX5 18 RX5 "lostSteam" "J" := Or.inl (inT_of 87 (by decide +kernel) (by decide +kernel))
set_option maxRecDepth 20000 in
theorem fl_X1_101 : FL RX1 101 RX5 "lostSteam" "J" := Or.inr ⟨"TrapSurvey", inT_of 88 (by decide +kernel) (by decide +kernel)⟩
set_option maxRecDepth 20000 in
theorem fl_X6_170 : FL RX6 170 RX5 "lostSteam" "J" := Or.inr ⟨"TrapSurvey", inT_of 89 (by decide +kernel) (by decide +kernel)⟩
set_option maxRecDepth 20000 in
theorem fl_X1_9 : FL RX1 9 RX1 "pressures" "[I" := Or.inl (inT_of 108 (by decide +kernel) (by decide +kernel))
set_option maxRecDepth 20000 in
theorem fl_X6_56 : FL RX6 56 RX1 "pressures" "[I" := Or.inr ⟨"TrapSurvey", inT_of 109 (by decide +kernel) (by decide +kernel)⟩
set_option maxRecDepth 20000 in
theorem fl_X1_15 : FL RX1 15 RX1 "lineHeaders" "[I" := Or.inl (inT_of 110 (by decide +kernel) (by decide +kernel))
set_option maxRecDepth 20000 in
theorem fl_X6_64 : FL RX6 64 RX1 "lineHeaders" "[I" := Or.inr ⟨"TrapSurvey", inT_of 111 (by decide +kernel) (by decide +kernel)⟩
set_option maxRecDepth 20000 in
theorem fl_X1_20 : FL RX1 20 RX1 "traps" "[LTrapSurvey$Trap;" := Or.inl (inT_of 112 (by decide +kernel) (by decide +kernel))
set_option maxRecDepth 20000 in
theorem fl_X3_31 : FL RX3 31 RX1 "traps" "[LTrapSurvey$Trap;" := Or.inr ⟨"TrapSurvey", inT_of 113 (by decide +kernel) (by decide +kernel)⟩
set_option maxRecDepth 20000 in
theorem fl_X4_31 : FL RX4 31 RX1 "traps" "[LTrapSurvey$Trap;" := Or.inr ⟨"TrapSurvey", inT_of 114 (by decide +kernel) (by decide +kernel)⟩
set_option maxRecDepth 20000 in
theorem fl_X6_73 : FL RX6 73 RX1 "traps" "[LTrapSurvey$Trap;" := Or.inr ⟨"TrapSurvey", inT_of 115 (by decide +kernel) (by decide +kernel)⟩
set_option maxRecDepth 20000 in
theorem fl_X1_24 : FL RX1 24 RX1 "lineCount" "I" := Or.inl (inT_of 116 (by decide +kernel) (by decide +kernel))
set_option maxRecDepth 20000 in
theorem fl_X6_60 : FL RX6 60 RX1 "lineCount" "I" := Or.inr ⟨"TrapSurvey", inT_of 117 (by decide +kernel) (by decide +kernel)⟩
set_option maxRecDepth 20000 in
theorem fl_X1_28 : FL RX1 28 RX1 "trapCount" "I" := Or.inl (inT_of 118 (by decide +kernel) (by decide +kernel))
set_option maxRecDepth 20000 in
theorem fl_X3_26 : FL RX3 26 RX1 "trapCount" "I" := Or.inr ⟨"TrapSurvey", inT_of 119 (by decide +kernel) (by decide +kernel)⟩
set_option maxRecDepth 20000 in
theorem fl_X4_26 : FL RX4 26 RX1 "trapCount" "I" := Or.inr ⟨"TrapSurvey", inT_of 120 (by decide +kernel) (by decide +kernel)⟩
set_option maxRecDepth 20000 in
theorem fl_X6_70 : FL RX6 70 RX1 "trapCount" "I" := Or.inr ⟨"TrapSurvey", inT_of 121 (by decide +kernel) (by decide +kernel)⟩
set_option maxRecDepth 20000 in
theorem fl_X1_31 : FL RX1 31 RX1 "hours" "I" := Or.inl (inT_of 122 (by decide +kernel) (by decide +kernel))
set_option maxRecDepth 20000 in
theorem fl_X6_83 : FL RX6 83 RX1 "hours" "I" := Or.inr ⟨"TrapSurvey", inT_of 123 (by decide +kernel) (by decide +kernel)⟩
set_option maxRecDepth 20000 in
theorem fl_X1_34 : FL RX1 34 RX1 "price" "I" := Or.inl (inT_of 124 (by decide +kernel) (by decide +kernel))
set_option maxRecDepth 20000 in
theorem fl_X6_86 : FL RX6 86 RX1 "price" "I" := Or.inr ⟨"TrapSurvey", inT_of 125 (by decide +kernel) (by decide +kernel)⟩
set_option maxRecDepth 20000 in
theorem fl_X1_37 : FL RX1 37 RX1 "interval" "I" := Or.inl (inT_of 126 (by decide +kernel) (by decide +kernel))
set_option maxRecDepth 20000 in
theorem fl_X6_89 : FL RX6 89 RX1 "interval" "I" := Or.inr ⟨"TrapSurvey", inT_of 127 (by decide +kernel) (by decide +kernel)⟩
set_option maxRecDepth 20000 in
theorem fl_X1_40 : FL RX1 40 RX1 "day" "I" := Or.inl (inT_of 128 (by decide +kernel) (by decide +kernel))
set_option maxRecDepth 20000 in
theorem fl_X6_92 : FL RX6 92 RX1 "day" "I" := Or.inr ⟨"TrapSurvey", inT_of 129 (by decide +kernel) (by decide +kernel)⟩
set_option maxRecDepth 20000 in
theorem fl_X1_43 : FL RX1 43 RX1 "spent" "I" := Or.inl (inT_of 130 (by decide +kernel) (by decide +kernel))
set_option maxRecDepth 20000 in
theorem fl_X6_95 : FL RX6 95 RX1 "spent" "I" := Or.inr ⟨"TrapSurvey", inT_of 131 (by decide +kernel) (by decide +kernel)⟩
set_option maxRecDepth 20000 in
theorem fl_X1_46 : FL RX1 46 RX1 "repairs" "I" := Or.inl (inT_of 132 (by decide +kernel) (by decide +kernel))
set_option maxRecDepth 20000 in
theorem fl_X6_98 : FL RX6 98 RX1 "repairs" "I" := Or.inr ⟨"TrapSurvey", inT_of 133 (by decide +kernel) (by decide +kernel)⟩
set_option maxRecDepth 20000 in
theorem fl_X0_11 : FL RX0 11 RX0 "states" "[LTrapSurvey$Plant;" := Or.inl (inT_of 166 (by decide +kernel) (by decide +kernel))
set_option maxRecDepth 20000 in
theorem fl_X0_17 : FL RX0 17 RX0 "size" "I" := Or.inl (inT_of 167 (by decide +kernel) (by decide +kernel))
set_option maxRecDepth 20000 in
theorem fl_X6_215 : FL RX6 215 RX0 "size" "I" := Or.inr ⟨"TrapSurvey", inT_of 168 (by decide +kernel) (by decide +kernel)⟩
set_option maxRecDepth 20000 in
theorem fl_X3_9 : FL RX3 9 RX3 "ranked" "[I" := Or.inl (inT_of 180 (by decide +kernel) (by decide +kernel))
set_option maxRecDepth 20000 in
theorem fl_X3_15 : FL RX3 15 RX3 "losses" "[I" := Or.inl (inT_of 181 (by decide +kernel) (by decide +kernel))
set_option maxRecDepth 20000 in
theorem fl_X3_18 : FL RX3 18 RX3 "paybacks" "[J" := Or.inl (inT_of 182 (by decide +kernel) (by decide +kernel))
set_option maxRecDepth 20000 in
theorem fl_X3_22 : FL RX3 22 RX3 "size" "I" := Or.inl (inT_of 183 (by decide +kernel) (by decide +kernel))
set_option maxRecDepth 20000 in
theorem fl_X4_9 : FL RX4 9 RX4 "stops" "[I" := Or.inl (inT_of 200 (by decide +kernel) (by decide +kernel))
set_option maxRecDepth 20000 in
theorem fl_X4_15 : FL RX4 15 RX4 "waits" "[Z" := Or.inl (inT_of 201 (by decide +kernel) (by decide +kernel))
set_option maxRecDepth 20000 in
theorem fl_X4_19 : FL RX4 19 RX4 "size" "I" := Or.inl (inT_of 202 (by decide +kernel) (by decide +kernel))
set_option maxRecDepth 20000 in
theorem fl_X4_23 : FL RX4 23 RX4 "length" "I" := Or.inl (inT_of 203 (by decide +kernel) (by decide +kernel))
set_option maxRecDepth 20000 in
theorem fl_X6_208 : FL RX6 208 RX4 "length" "I" := Or.inr ⟨"TrapSurvey", inT_of 204 (by decide +kernel) (by decide +kernel)⟩
set_option maxRecDepth 20000 in
theorem fl_X2_9 : FL RX2 9 RX2 "codes" "[I" := Or.inl (inT_of 223 (by decide +kernel) (by decide +kernel))
set_option maxRecDepth 20000 in
theorem fl_X2_17 : FL RX2 17 RX2 "readings" "[[I" := Or.inl (inT_of 224 (by decide +kernel) (by decide +kernel))
set_option maxRecDepth 20000 in
theorem fl_X6_226 : FL RX6 226 RX2 "readings" "[[I" := Or.inr ⟨"TrapSurvey", inT_of 225 (by decide +kernel) (by decide +kernel)⟩
set_option maxRecDepth 20000 in
theorem fl_X2_20 : FL RX2 20 RX2 "length" "I" := Or.inl (inT_of 226 (by decide +kernel) (by decide +kernel))
set_option maxRecDepth 20000 in
theorem fl_X6_219 : FL RX6 219 RX2 "length" "I" := Or.inr ⟨"TrapSurvey", inT_of 227 (by decide +kernel) (by decide +kernel)⟩
set_option maxRecDepth 20000 in
theorem fl_X2_24 : FL RX2 24 RX2 "readingCount" "I" := Or.inl (inT_of 228 (by decide +kernel) (by decide +kernel))
set_option maxRecDepth 20000 in
theorem fl_X6_223 : FL RX6 223 RX2 "readingCount" "I" := Or.inr ⟨"TrapSurvey", inT_of 229 (by decide +kernel) (by decide +kernel)⟩
set_option maxRecDepth 20000 in
theorem fl_X2_27 : FL RX2 27 RX2 "position" "I" := Or.inl (inT_of 230 (by decide +kernel) (by decide +kernel))
set_option maxRecDepth 20000 in
theorem fl_X6_10 : FL RX6 10 RX6 "plant" "LTrapSurvey$Plant;" := Or.inl (inT_of 242 (by decide +kernel) (by decide +kernel))
set_option maxRecDepth 20000 in
theorem fl_X6_19 : FL RX6 19 RX6 "history" "LTrapSurvey$History;" := Or.inl (inT_of 243 (by decide +kernel) (by decide +kernel))
set_option maxRecDepth 20000 in
theorem fl_X6_26 : FL RX6 26 RX6 "repairOrder" "LTrapSurvey$RepairOrder;" := Or.inl (inT_of 244 (by decide +kernel) (by decide +kernel))
set_option maxRecDepth 20000 in
theorem fl_X6_33 : FL RX6 33 RX6 "surveyRound" "LTrapSurvey$SurveyRound;" := Or.inl (inT_of 245 (by decide +kernel) (by decide +kernel))
set_option maxRecDepth 20000 in
theorem fl_X6_40 : FL RX6 40 RX6 "text" "LTrapSurvey$ReadingText;" := Or.inl (inT_of 246 (by decide +kernel) (by decide +kernel))
set_option maxRecDepth 20000 in
theorem fl_X7_7 : FL RX7 7 RX7 "row" "[I" := Or.inl (inT_of 609 (by decide +kernel) (by decide +kernel))
set_option maxRecDepth 20000 in
theorem fl_X7_13 : FL RX7 13 RX7 "lost" "[J" := Or.inl (inT_of 610 (by decide +kernel) (by decide +kernel))
set_option maxRecDepth 20000 in
theorem fl_X7_27 : FL RX7 27 RX7 "saved" "I" := Or.inl (inT_of 611 (by decide +kernel) (by decide +kernel))
set_option maxRecDepth 20000 in
theorem fl_X7_17 : FL RX7 17 RX7 "visited" "[Z" := Or.inl (inT_of 612 (by decide +kernel) (by decide +kernel))
set_option maxRecDepth 20000 in
theorem fl_X7_21 : FL RX7 21 RX7 "path" "[I" := Or.inl (inT_of 613 (by decide +kernel) (by decide +kernel))
set_option maxRecDepth 20000 in
theorem fl_X7_107 : FL RX7 107 RX7 "visits" "I" := Or.inl (inT_of 614 (by decide +kernel) (by decide +kernel))
set_option maxRecDepth 20000 in
theorem fl_X7_104 : FL RX7 104 RX7 "wayLength" "I" := Or.inl (inT_of 615 (by decide +kernel) (by decide +kernel))
set_option maxRecDepth 20000 in
theorem fl_X7_24 : FL RX7 24 RX7 "text" "[I" := Or.inl (inT_of 616 (by decide +kernel) (by decide +kernel))
set_option maxRecDepth 20000 in
theorem fl_X7_116 : FL RX7 116 RX7 "length" "I" := Or.inl (inT_of 617 (by decide +kernel) (by decide +kernel))
set_option maxRecDepth 20000 in
theorem fl_X7_119 : FL RX7 119 RX7 "at" "I" := Or.inl (inT_of 618 (by decide +kernel) (by decide +kernel))
set_option maxRecDepth 20000 in
theorem fl_X7_126 : FL RX7 126 RX7 "number" "I" := Or.inl (inT_of 619 (by decide +kernel) (by decide +kernel))
set_option maxRecDepth 20000 in
theorem fl_X7_135 : FL RX7 135 RX7 "readings" "I" := Or.inl (inT_of 620 (by decide +kernel) (by decide +kernel))
set_option maxRecDepth 20000 in
theorem fl_X7_147 : FL RX7 147 RX7 "h" "J" := Or.inl (inT_of 621 (by decide +kernel) (by decide +kernel))
section QG
variable {l : Launch} {cc : ByteArray} {nL D K : Nat} {G : kG} {n0 : Nat} {J : kJ} {n : Nat} {I : kI} {L : kL} {X : kX} {pc : Nat} {lv : kV} {rest : List Value}
theorem g_X5_22 (hM : Mach l cc RX5 nL D K G n0 J) {r : Nat} (hr : r < n) (hk : kd r = 5) (hd : decode cc pc = .ok (.getfield 22, 3)) (kk : J n I L X (pc + 3) lv (.int (I r 0) :: rest)) : J n I L X pc lv (.ref (ad G r) :: rest) := q_get hM cf_X5 (j := 0) (by decide) fl_X5_22 hr hk rfl hd kk
theorem p_X5_22 (hM : Mach l cc RX5 nL D K G n0 J) {r : Nat} (hr : r < n) (hk : kd r = 5) {v : Int32} (hd : decode cc pc = .ok (.putfield 22, 3)) (kk : J n (up2 I r 0 v) L X (pc + 3) lv rest) : J n I L X pc lv (.int v :: .ref (ad G r) :: rest) := q_puti hM cf_X5 (j := 0) (by decide) fl_X5_22 hr hk rfl rfl rfl hd kk
theorem g_X1_73 (hM : Mach l cc RX1 nL D K G n0 J) {r : Nat} (hr : r < n) (hk : kd r = 5) (hd : decode cc pc = .ok (.getfield 73, 3)) (kk : J n I L X (pc + 3) lv (.int (I r 0) :: rest)) : J n I L X pc lv (.ref (ad G r) :: rest) := q_get hM cf_X5 (j := 0) (by decide) fl_X1_73 hr hk rfl hd kk
theorem p_X1_73 (hM : Mach l cc RX1 nL D K G n0 J) {r : Nat} (hr : r < n) (hk : kd r = 5) {v : Int32} (hd : decode cc pc = .ok (.putfield 73, 3)) (kk : J n (up2 I r 0 v) L X (pc + 3) lv rest) : J n I L X pc lv (.int v :: .ref (ad G r) :: rest) := q_puti hM cf_X5 (j := 0) (by decide) fl_X1_73 hr hk rfl rfl rfl hd kk
theorem g_X6_105 (hM : Mach l cc RX6 nL D K G n0 J) {r : Nat} (hr : r < n) (hk : kd r = 5) (hd : decode cc pc = .ok (.getfield 105, 3)) (kk : J n I L X (pc + 3) lv (.int (I r 0) :: rest)) : J n I L X pc lv (.ref (ad G r) :: rest) := q_get hM cf_X5 (j := 0) (by decide) fl_X6_105 hr hk rfl hd kk
theorem p_X6_105 (hM : Mach l cc RX6 nL D K G n0 J) {r : Nat} (hr : r < n) (hk : kd r = 5) {v : Int32} (hd : decode cc pc = .ok (.putfield 105, 3)) (kk : J n (up2 I r 0 v) L X (pc + 3) lv rest) : J n I L X pc lv (.int v :: .ref (ad G r) :: rest) := q_puti hM cf_X5 (j := 0) (by decide) fl_X6_105 hr hk rfl rfl rfl hd kk
theorem g_X5_25 (hM : Mach l cc RX5 nL D K G n0 J) {r : Nat} (hr : r < n) (hk : kd r = 5) (hd : decode cc pc = .ok (.getfield 25, 3)) (kk : J n I L X (pc + 3) lv (.int (I r 1) :: rest)) : J n I L X pc lv (.ref (ad G r) :: rest) := q_get hM cf_X5 (j := 1) (by decide) fl_X5_25 hr hk rfl hd kk
theorem p_X5_25 (hM : Mach l cc RX5 nL D K G n0 J) {r : Nat} (hr : r < n) (hk : kd r = 5) {v : Int32} (hd : decode cc pc = .ok (.putfield 25, 3)) (kk : J n (up2 I r 1 v) L X (pc + 3) lv rest) : J n I L X pc lv (.int v :: .ref (ad G r) :: rest) := q_puti hM cf_X5 (j := 1) (by decide) fl_X5_25 hr hk rfl rfl rfl hd kk
theorem g_X6_108 (hM : Mach l cc RX6 nL D K G n0 J) {r : Nat} (hr : r < n) (hk : kd r = 5) (hd : decode cc pc = .ok (.getfield 108, 3)) (kk : J n I L X (pc + 3) lv (.int (I r 1) :: rest)) : J n I L X pc lv (.ref (ad G r) :: rest) := q_get hM cf_X5 (j := 1) (by decide) fl_X6_108 hr hk rfl hd kk
theorem p_X6_108 (hM : Mach l cc RX6 nL D K G n0 J) {r : Nat} (hr : r < n) (hk : kd r = 5) {v : Int32} (hd : decode cc pc = .ok (.putfield 108, 3)) (kk : J n (up2 I r 1 v) L X (pc + 3) lv rest) : J n I L X pc lv (.int v :: .ref (ad G r) :: rest) := q_puti hM cf_X5 (j := 1) (by decide) fl_X6_108 hr hk rfl rfl rfl hd kk
theorem g_X5_28 (hM : Mach l cc RX5 nL D K G n0 J) {r : Nat} (hr : r < n) (hk : kd r = 5) (hd : decode cc pc = .ok (.getfield 28, 3)) (kk : J n I L X (pc + 3) lv (.int (I r 2) :: rest)) : J n I L X pc lv (.ref (ad G r) :: rest) := q_get hM cf_X5 (j := 2) (by decide) fl_X5_28 hr hk rfl hd kk
theorem p_X5_28 (hM : Mach l cc RX5 nL D K G n0 J) {r : Nat} (hr : r < n) (hk : kd r = 5) {v : Int32} (hd : decode cc pc = .ok (.putfield 28, 3)) (kk : J n (up2 I r 2 v) L X (pc + 3) lv rest) : J n I L X pc lv (.int v :: .ref (ad G r) :: rest) := q_puti hM cf_X5 (j := 2) (by decide) fl_X5_28 hr hk rfl rfl rfl hd kk
theorem g_X6_111 (hM : Mach l cc RX6 nL D K G n0 J) {r : Nat} (hr : r < n) (hk : kd r = 5) (hd : decode cc pc = .ok (.getfield 111, 3)) (kk : J n I L X (pc + 3) lv (.int (I r 2) :: rest)) : J n I L X pc lv (.ref (ad G r) :: rest) := q_get hM cf_X5 (j := 2) (by decide) fl_X6_111 hr hk rfl hd kk
theorem p_X6_111 (hM : Mach l cc RX6 nL D K G n0 J) {r : Nat} (hr : r < n) (hk : kd r = 5) {v : Int32} (hd : decode cc pc = .ok (.putfield 111, 3)) (kk : J n (up2 I r 2 v) L X (pc + 3) lv rest) : J n I L X pc lv (.int v :: .ref (ad G r) :: rest) := q_puti hM cf_X5 (j := 2) (by decide) fl_X6_111 hr hk rfl rfl rfl hd kk
theorem g_X5_31 (hM : Mach l cc RX5 nL D K G n0 J) {r : Nat} (hr : r < n) (hk : kd r = 5) (hd : decode cc pc = .ok (.getfield 31, 3)) (kk : J n I L X (pc + 3) lv (.int (I r 3) :: rest)) : J n I L X pc lv (.ref (ad G r) :: rest) := q_get hM cf_X5 (j := 3) (by decide) fl_X5_31 hr hk rfl hd kk
theorem p_X5_31 (hM : Mach l cc RX5 nL D K G n0 J) {r : Nat} (hr : r < n) (hk : kd r = 5) {v : Int32} (hd : decode cc pc = .ok (.putfield 31, 3)) (kk : J n (up2 I r 3 v) L X (pc + 3) lv rest) : J n I L X pc lv (.int v :: .ref (ad G r) :: rest) := q_puti hM cf_X5 (j := 3) (by decide) fl_X5_31 hr hk rfl rfl rfl hd kk
theorem g_X4_49 (hM : Mach l cc RX4 nL D K G n0 J) {r : Nat} (hr : r < n) (hk : kd r = 5) (hd : decode cc pc = .ok (.getfield 49, 3)) (kk : J n I L X (pc + 3) lv (.int (I r 3) :: rest)) : J n I L X pc lv (.ref (ad G r) :: rest) := q_get hM cf_X5 (j := 3) (by decide) fl_X4_49 hr hk rfl hd kk
theorem p_X4_49 (hM : Mach l cc RX4 nL D K G n0 J) {r : Nat} (hr : r < n) (hk : kd r = 5) {v : Int32} (hd : decode cc pc = .ok (.putfield 49, 3)) (kk : J n (up2 I r 3 v) L X (pc + 3) lv rest) : J n I L X pc lv (.int v :: .ref (ad G r) :: rest) := q_puti hM cf_X5 (j := 3) (by decide) fl_X4_49 hr hk rfl rfl rfl hd kk
theorem g_X6_114 (hM : Mach l cc RX6 nL D K G n0 J) {r : Nat} (hr : r < n) (hk : kd r = 5) (hd : decode cc pc = .ok (.getfield 114, 3)) (kk : J n I L X (pc + 3) lv (.int (I r 3) :: rest)) : J n I L X pc lv (.ref (ad G r) :: rest) := q_get hM cf_X5 (j := 3) (by decide) fl_X6_114 hr hk rfl hd kk
theorem p_X6_114 (hM : Mach l cc RX6 nL D K G n0 J) {r : Nat} (hr : r < n) (hk : kd r = 5) {v : Int32} (hd : decode cc pc = .ok (.putfield 114, 3)) (kk : J n (up2 I r 3 v) L X (pc + 3) lv rest) : J n I L X pc lv (.int v :: .ref (ad G r) :: rest) := q_puti hM cf_X5 (j := 3) (by decide) fl_X6_114 hr hk rfl rfl rfl hd kk
theorem g_X5_34 (hM : Mach l cc RX5 nL D K G n0 J) {r : Nat} (hr : r < n) (hk : kd r = 5) (hd : decode cc pc = .ok (.getfield 34, 3)) (kk : J n I L X (pc + 3) lv (.int (I r 4) :: rest)) : J n I L X pc lv (.ref (ad G r) :: rest) := q_get hM cf_X5 (j := 4) (by decide) fl_X5_34 hr hk rfl hd kk
theorem p_X5_34 (hM : Mach l cc RX5 nL D K G n0 J) {r : Nat} (hr : r < n) (hk : kd r = 5) {v : Int32} (hd : decode cc pc = .ok (.putfield 34, 3)) (kk : J n (up2 I r 4 v) L X (pc + 3) lv rest) : J n I L X pc lv (.int v :: .ref (ad G r) :: rest) := q_puti hM cf_X5 (j := 4) (by decide) fl_X5_34 hr hk rfl rfl rfl hd kk
theorem g_X4_52 (hM : Mach l cc RX4 nL D K G n0 J) {r : Nat} (hr : r < n) (hk : kd r = 5) (hd : decode cc pc = .ok (.getfield 52, 3)) (kk : J n I L X (pc + 3) lv (.int (I r 4) :: rest)) : J n I L X pc lv (.ref (ad G r) :: rest) := q_get hM cf_X5 (j := 4) (by decide) fl_X4_52 hr hk rfl hd kk
theorem p_X4_52 (hM : Mach l cc RX4 nL D K G n0 J) {r : Nat} (hr : r < n) (hk : kd r = 5) {v : Int32} (hd : decode cc pc = .ok (.putfield 52, 3)) (kk : J n (up2 I r 4 v) L X (pc + 3) lv rest) : J n I L X pc lv (.int v :: .ref (ad G r) :: rest) := q_puti hM cf_X5 (j := 4) (by decide) fl_X4_52 hr hk rfl rfl rfl hd kk
theorem g_X6_117 (hM : Mach l cc RX6 nL D K G n0 J) {r : Nat} (hr : r < n) (hk : kd r = 5) (hd : decode cc pc = .ok (.getfield 117, 3)) (kk : J n I L X (pc + 3) lv (.int (I r 4) :: rest)) : J n I L X pc lv (.ref (ad G r) :: rest) := q_get hM cf_X5 (j := 4) (by decide) fl_X6_117 hr hk rfl hd kk
theorem p_X6_117 (hM : Mach l cc RX6 nL D K G n0 J) {r : Nat} (hr : r < n) (hk : kd r = 5) {v : Int32} (hd : decode cc pc = .ok (.putfield 117, 3)) (kk : J n (up2 I r 4 v) L X (pc + 3) lv rest) : J n I L X pc lv (.int v :: .ref (ad G r) :: rest) := q_puti hM cf_X5 (j := 4) (by decide) fl_X6_117 hr hk rfl rfl rfl hd kk
theorem g_X5_9 (hM : Mach l cc RX5 nL D K G n0 J) {r : Nat} (hr : r < n) (hk : kd r = 5) (hd : decode cc pc = .ok (.getfield 9, 3)) (kk : J n I L X (pc + 3) lv (.int (I r 5) :: rest)) : J n I L X pc lv (.ref (ad G r) :: rest) := q_get hM cf_X5 (j := 5) (by decide) fl_X5_9 hr hk rfl hd kk
theorem p_X5_9 (hM : Mach l cc RX5 nL D K G n0 J) {r : Nat} (hr : r < n) (hk : kd r = 5) {v : Int32} (hd : decode cc pc = .ok (.putfield 9, 3)) (kk : J n (up2 I r 5 v) L X (pc + 3) lv rest) : J n I L X pc lv (.int v :: .ref (ad G r) :: rest) := q_puti hM cf_X5 (j := 5) (by decide) fl_X5_9 hr hk rfl rfl rfl hd kk
theorem g_X6_120 (hM : Mach l cc RX6 nL D K G n0 J) {r : Nat} (hr : r < n) (hk : kd r = 5) (hd : decode cc pc = .ok (.getfield 120, 3)) (kk : J n I L X (pc + 3) lv (.int (I r 5) :: rest)) : J n I L X pc lv (.ref (ad G r) :: rest) := q_get hM cf_X5 (j := 5) (by decide) fl_X6_120 hr hk rfl hd kk
theorem p_X6_120 (hM : Mach l cc RX6 nL D K G n0 J) {r : Nat} (hr : r < n) (hk : kd r = 5) {v : Int32} (hd : decode cc pc = .ok (.putfield 120, 3)) (kk : J n (up2 I r 5 v) L X (pc + 3) lv rest) : J n I L X pc lv (.int v :: .ref (ad G r) :: rest) := q_puti hM cf_X5 (j := 5) (by decide) fl_X6_120 hr hk rfl rfl rfl hd kk
theorem g_X1_95 (hM : Mach l cc RX1 nL D K G n0 J) {r : Nat} (hr : r < n) (hk : kd r = 5) (hd : decode cc pc = .ok (.getfield 95, 3)) (kk : J n I L X (pc + 3) lv (.int (I r 5) :: rest)) : J n I L X pc lv (.ref (ad G r) :: rest) := q_get hM cf_X5 (j := 5) (by decide) fl_X1_95 hr hk rfl hd kk
theorem p_X1_95 (hM : Mach l cc RX1 nL D K G n0 J) {r : Nat} (hr : r < n) (hk : kd r = 5) {v : Int32} (hd : decode cc pc = .ok (.putfield 95, 3)) (kk : J n (up2 I r 5 v) L X (pc + 3) lv rest) : J n I L X pc lv (.int v :: .ref (ad G r) :: rest) := q_puti hM cf_X5 (j := 5) (by decide) fl_X1_95 hr hk rfl rfl rfl hd kk
theorem g_X5_15 (hM : Mach l cc RX5 nL D K G n0 J) {r : Nat} (hr : r < n) (hk : kd r = 5) (hd : decode cc pc = .ok (.getfield 15, 3)) (kk : J n I L X (pc + 3) lv (.int (I r 6) :: rest)) : J n I L X pc lv (.ref (ad G r) :: rest) := q_get hM cf_X5 (j := 6) (by decide) fl_X5_15 hr hk rfl hd kk
theorem p_X5_15 (hM : Mach l cc RX5 nL D K G n0 J) {r : Nat} (hr : r < n) (hk : kd r = 5) {v : Int32} (hd : decode cc pc = .ok (.putfield 15, 3)) (kk : J n (up2 I r 6 v) L X (pc + 3) lv rest) : J n I L X pc lv (.int v :: .ref (ad G r) :: rest) := q_puti hM cf_X5 (j := 6) (by decide) fl_X5_15 hr hk rfl rfl rfl hd kk
theorem g_X6_123 (hM : Mach l cc RX6 nL D K G n0 J) {r : Nat} (hr : r < n) (hk : kd r = 5) (hd : decode cc pc = .ok (.getfield 123, 3)) (kk : J n I L X (pc + 3) lv (.int (I r 6) :: rest)) : J n I L X pc lv (.ref (ad G r) :: rest) := q_get hM cf_X5 (j := 6) (by decide) fl_X6_123 hr hk rfl hd kk
theorem p_X6_123 (hM : Mach l cc RX6 nL D K G n0 J) {r : Nat} (hr : r < n) (hk : kd r = 5) {v : Int32} (hd : decode cc pc = .ok (.putfield 123, 3)) (kk : J n (up2 I r 6 v) L X (pc + 3) lv rest) : J n I L X pc lv (.int v :: .ref (ad G r) :: rest) := q_puti hM cf_X5 (j := 6) (by decide) fl_X6_123 hr hk rfl rfl rfl hd kk
theorem g_X1_98 (hM : Mach l cc RX1 nL D K G n0 J) {r : Nat} (hr : r < n) (hk : kd r = 5) (hd : decode cc pc = .ok (.getfield 98, 3)) (kk : J n I L X (pc + 3) lv (.int (I r 6) :: rest)) : J n I L X pc lv (.ref (ad G r) :: rest) := q_get hM cf_X5 (j := 6) (by decide) fl_X1_98 hr hk rfl hd kk
theorem p_X1_98 (hM : Mach l cc RX1 nL D K G n0 J) {r : Nat} (hr : r < n) (hk : kd r = 5) {v : Int32} (hd : decode cc pc = .ok (.putfield 98, 3)) (kk : J n (up2 I r 6 v) L X (pc + 3) lv rest) : J n I L X pc lv (.int v :: .ref (ad G r) :: rest) := q_puti hM cf_X5 (j := 6) (by decide) fl_X1_98 hr hk rfl rfl rfl hd kk
theorem g_X5_18 (hM : Mach l cc RX5 nL D K G n0 J) {r : Nat} (hr : r < n) (hk : kd r = 5) (hd : decode cc pc = .ok (.getfield 18, 3)) (kk : J n I L X (pc + 3) lv (.long (L r 7) :: rest)) : J n I L X pc lv (.ref (ad G r) :: rest) := q_get hM cf_X5 (j := 7) (by decide) fl_X5_18 hr hk rfl hd kk
theorem p_X5_18 (hM : Mach l cc RX5 nL D K G n0 J) {r : Nat} (hr : r < n) (hk : kd r = 5) {v : Int64} (hd : decode cc pc = .ok (.putfield 18, 3)) (kk : J n I (up2 L r 7 v) X (pc + 3) lv rest) : J n I L X pc lv (.long v :: .ref (ad G r) :: rest) := q_putl hM cf_X5 (j := 7) (by decide) fl_X5_18 hr hk rfl rfl rfl hd kk
theorem g_X1_101 (hM : Mach l cc RX1 nL D K G n0 J) {r : Nat} (hr : r < n) (hk : kd r = 5) (hd : decode cc pc = .ok (.getfield 101, 3)) (kk : J n I L X (pc + 3) lv (.long (L r 7) :: rest)) : J n I L X pc lv (.ref (ad G r) :: rest) := q_get hM cf_X5 (j := 7) (by decide) fl_X1_101 hr hk rfl hd kk
theorem p_X1_101 (hM : Mach l cc RX1 nL D K G n0 J) {r : Nat} (hr : r < n) (hk : kd r = 5) {v : Int64} (hd : decode cc pc = .ok (.putfield 101, 3)) (kk : J n I (up2 L r 7 v) X (pc + 3) lv rest) : J n I L X pc lv (.long v :: .ref (ad G r) :: rest) := q_putl hM cf_X5 (j := 7) (by decide) fl_X1_101 hr hk rfl rfl rfl hd kk
theorem g_X6_170 (hM : Mach l cc RX6 nL D K G n0 J) {r : Nat} (hr : r < n) (hk : kd r = 5) (hd : decode cc pc = .ok (.getfield 170, 3)) (kk : J n I L X (pc + 3) lv (.long (L r 7) :: rest)) : J n I L X pc lv (.ref (ad G r) :: rest) := q_get hM cf_X5 (j := 7) (by decide) fl_X6_170 hr hk rfl hd kk
theorem p_X6_170 (hM : Mach l cc RX6 nL D K G n0 J) {r : Nat} (hr : r < n) (hk : kd r = 5) {v : Int64} (hd : decode cc pc = .ok (.putfield 170, 3)) (kk : J n I (up2 L r 7 v) X (pc + 3) lv rest) : J n I L X pc lv (.long v :: .ref (ad G r) :: rest) := q_putl hM cf_X5 (j := 7) (by decide) fl_X6_170 hr hk rfl rfl rfl hd kk
theorem g_X1_9 (hM : Mach l cc RX1 nL D K G n0 J) {r q : Nat} (hr : r < n) (hk : kd r = 1) (hX : X r 0 = some q) (hd : decode cc pc = .ok (.getfield 9, 3)) (kk : J n I L X (pc + 3) lv (.ref (ad G q) :: rest)) : J n I L X pc lv (.ref (ad G r) :: rest) := q_get hM cf_X1 (j := 0) (by decide) fl_X1_9 hr hk (by show rfv G (X r 0) = _; rw [hX]; rfl) hd kk
theorem g_X6_56 (hM : Mach l cc RX6 nL D K G n0 J) {r q : Nat} (hr : r < n) (hk : kd r = 1) (hX : X r 0 = some q) (hd : decode cc pc = .ok (.getfield 56, 3)) (kk : J n I L X (pc + 3) lv (.ref (ad G q) :: rest)) : J n I L X pc lv (.ref (ad G r) :: rest) := q_get hM cf_X1 (j := 0) (by decide) fl_X6_56 hr hk (by show rfv G (X r 0) = _; rw [hX]; rfl) hd kk
theorem g_X1_15 (hM : Mach l cc RX1 nL D K G n0 J) {r q : Nat} (hr : r < n) (hk : kd r = 1) (hX : X r 1 = some q) (hd : decode cc pc = .ok (.getfield 15, 3)) (kk : J n I L X (pc + 3) lv (.ref (ad G q) :: rest)) : J n I L X pc lv (.ref (ad G r) :: rest) := q_get hM cf_X1 (j := 1) (by decide) fl_X1_15 hr hk (by show rfv G (X r 1) = _; rw [hX]; rfl) hd kk
theorem g_X6_64 (hM : Mach l cc RX6 nL D K G n0 J) {r q : Nat} (hr : r < n) (hk : kd r = 1) (hX : X r 1 = some q) (hd : decode cc pc = .ok (.getfield 64, 3)) (kk : J n I L X (pc + 3) lv (.ref (ad G q) :: rest)) : J n I L X pc lv (.ref (ad G r) :: rest) := q_get hM cf_X1 (j := 1) (by decide) fl_X6_64 hr hk (by show rfv G (X r 1) = _; rw [hX]; rfl) hd kk
theorem g_X1_20 (hM : Mach l cc RX1 nL D K G n0 J) {r q : Nat} (hr : r < n) (hk : kd r = 1) (hX : X r 2 = some q) (hd : decode cc pc = .ok (.getfield 20, 3)) (kk : J n I L X (pc + 3) lv (.ref (ad G q) :: rest)) : J n I L X pc lv (.ref (ad G r) :: rest) := q_get hM cf_X1 (j := 2) (by decide) fl_X1_20 hr hk (by show rfv G (X r 2) = _; rw [hX]; rfl) hd kk
theorem g_X3_31 (hM : Mach l cc RX3 nL D K G n0 J) {r q : Nat} (hr : r < n) (hk : kd r = 1) (hX : X r 2 = some q) (hd : decode cc pc = .ok (.getfield 31, 3)) (kk : J n I L X (pc + 3) lv (.ref (ad G q) :: rest)) : J n I L X pc lv (.ref (ad G r) :: rest) := q_get hM cf_X1 (j := 2) (by decide) fl_X3_31 hr hk (by show rfv G (X r 2) = _; rw [hX]; rfl) hd kk
theorem g_X4_31 (hM : Mach l cc RX4 nL D K G n0 J) {r q : Nat} (hr : r < n) (hk : kd r = 1) (hX : X r 2 = some q) (hd : decode cc pc = .ok (.getfield 31, 3)) (kk : J n I L X (pc + 3) lv (.ref (ad G q) :: rest)) : J n I L X pc lv (.ref (ad G r) :: rest) := q_get hM cf_X1 (j := 2) (by decide) fl_X4_31 hr hk (by show rfv G (X r 2) = _; rw [hX]; rfl) hd kk
theorem g_X6_73 (hM : Mach l cc RX6 nL D K G n0 J) {r q : Nat} (hr : r < n) (hk : kd r = 1) (hX : X r 2 = some q) (hd : decode cc pc = .ok (.getfield 73, 3)) (kk : J n I L X (pc + 3) lv (.ref (ad G q) :: rest)) : J n I L X pc lv (.ref (ad G r) :: rest) := q_get hM cf_X1 (j := 2) (by decide) fl_X6_73 hr hk (by show rfv G (X r 2) = _; rw [hX]; rfl) hd kk
theorem g_X1_24 (hM : Mach l cc RX1 nL D K G n0 J) {r : Nat} (hr : r < n) (hk : kd r = 1) (hd : decode cc pc = .ok (.getfield 24, 3)) (kk : J n I L X (pc + 3) lv (.int (I r 3) :: rest)) : J n I L X pc lv (.ref (ad G r) :: rest) := q_get hM cf_X1 (j := 3) (by decide) fl_X1_24 hr hk rfl hd kk
theorem p_X1_24 (hM : Mach l cc RX1 nL D K G n0 J) {r : Nat} (hr : r < n) (hk : kd r = 1) {v : Int32} (hd : decode cc pc = .ok (.putfield 24, 3)) (kk : J n (up2 I r 3 v) L X (pc + 3) lv rest) : J n I L X pc lv (.int v :: .ref (ad G r) :: rest) := q_puti hM cf_X1 (j := 3) (by decide) fl_X1_24 hr hk rfl rfl rfl hd kk
theorem g_X6_60 (hM : Mach l cc RX6 nL D K G n0 J) {r : Nat} (hr : r < n) (hk : kd r = 1) (hd : decode cc pc = .ok (.getfield 60, 3)) (kk : J n I L X (pc + 3) lv (.int (I r 3) :: rest)) : J n I L X pc lv (.ref (ad G r) :: rest) := q_get hM cf_X1 (j := 3) (by decide) fl_X6_60 hr hk rfl hd kk
theorem p_X6_60 (hM : Mach l cc RX6 nL D K G n0 J) {r : Nat} (hr : r < n) (hk : kd r = 1) {v : Int32} (hd : decode cc pc = .ok (.putfield 60, 3)) (kk : J n (up2 I r 3 v) L X (pc + 3) lv rest) : J n I L X pc lv (.int v :: .ref (ad G r) :: rest) := q_puti hM cf_X1 (j := 3) (by decide) fl_X6_60 hr hk rfl rfl rfl hd kk
theorem g_X1_28 (hM : Mach l cc RX1 nL D K G n0 J) {r : Nat} (hr : r < n) (hk : kd r = 1) (hd : decode cc pc = .ok (.getfield 28, 3)) (kk : J n I L X (pc + 3) lv (.int (I r 4) :: rest)) : J n I L X pc lv (.ref (ad G r) :: rest) := q_get hM cf_X1 (j := 4) (by decide) fl_X1_28 hr hk rfl hd kk
theorem p_X1_28 (hM : Mach l cc RX1 nL D K G n0 J) {r : Nat} (hr : r < n) (hk : kd r = 1) {v : Int32} (hd : decode cc pc = .ok (.putfield 28, 3)) (kk : J n (up2 I r 4 v) L X (pc + 3) lv rest) : J n I L X pc lv (.int v :: .ref (ad G r) :: rest) := q_puti hM cf_X1 (j := 4) (by decide) fl_X1_28 hr hk rfl rfl rfl hd kk
theorem g_X3_26 (hM : Mach l cc RX3 nL D K G n0 J) {r : Nat} (hr : r < n) (hk : kd r = 1) (hd : decode cc pc = .ok (.getfield 26, 3)) (kk : J n I L X (pc + 3) lv (.int (I r 4) :: rest)) : J n I L X pc lv (.ref (ad G r) :: rest) := q_get hM cf_X1 (j := 4) (by decide) fl_X3_26 hr hk rfl hd kk
theorem p_X3_26 (hM : Mach l cc RX3 nL D K G n0 J) {r : Nat} (hr : r < n) (hk : kd r = 1) {v : Int32} (hd : decode cc pc = .ok (.putfield 26, 3)) (kk : J n (up2 I r 4 v) L X (pc + 3) lv rest) : J n I L X pc lv (.int v :: .ref (ad G r) :: rest) := q_puti hM cf_X1 (j := 4) (by decide) fl_X3_26 hr hk rfl rfl rfl hd kk
theorem g_X4_26 (hM : Mach l cc RX4 nL D K G n0 J) {r : Nat} (hr : r < n) (hk : kd r = 1) (hd : decode cc pc = .ok (.getfield 26, 3)) (kk : J n I L X (pc + 3) lv (.int (I r 4) :: rest)) : J n I L X pc lv (.ref (ad G r) :: rest) := q_get hM cf_X1 (j := 4) (by decide) fl_X4_26 hr hk rfl hd kk
theorem p_X4_26 (hM : Mach l cc RX4 nL D K G n0 J) {r : Nat} (hr : r < n) (hk : kd r = 1) {v : Int32} (hd : decode cc pc = .ok (.putfield 26, 3)) (kk : J n (up2 I r 4 v) L X (pc + 3) lv rest) : J n I L X pc lv (.int v :: .ref (ad G r) :: rest) := q_puti hM cf_X1 (j := 4) (by decide) fl_X4_26 hr hk rfl rfl rfl hd kk
theorem g_X6_70 (hM : Mach l cc RX6 nL D K G n0 J) {r : Nat} (hr : r < n) (hk : kd r = 1) (hd : decode cc pc = .ok (.getfield 70, 3)) (kk : J n I L X (pc + 3) lv (.int (I r 4) :: rest)) : J n I L X pc lv (.ref (ad G r) :: rest) := q_get hM cf_X1 (j := 4) (by decide) fl_X6_70 hr hk rfl hd kk
theorem p_X6_70 (hM : Mach l cc RX6 nL D K G n0 J) {r : Nat} (hr : r < n) (hk : kd r = 1) {v : Int32} (hd : decode cc pc = .ok (.putfield 70, 3)) (kk : J n (up2 I r 4 v) L X (pc + 3) lv rest) : J n I L X pc lv (.int v :: .ref (ad G r) :: rest) := q_puti hM cf_X1 (j := 4) (by decide) fl_X6_70 hr hk rfl rfl rfl hd kk
theorem g_X1_31 (hM : Mach l cc RX1 nL D K G n0 J) {r : Nat} (hr : r < n) (hk : kd r = 1) (hd : decode cc pc = .ok (.getfield 31, 3)) (kk : J n I L X (pc + 3) lv (.int (I r 5) :: rest)) : J n I L X pc lv (.ref (ad G r) :: rest) := q_get hM cf_X1 (j := 5) (by decide) fl_X1_31 hr hk rfl hd kk
theorem p_X1_31 (hM : Mach l cc RX1 nL D K G n0 J) {r : Nat} (hr : r < n) (hk : kd r = 1) {v : Int32} (hd : decode cc pc = .ok (.putfield 31, 3)) (kk : J n (up2 I r 5 v) L X (pc + 3) lv rest) : J n I L X pc lv (.int v :: .ref (ad G r) :: rest) := q_puti hM cf_X1 (j := 5) (by decide) fl_X1_31 hr hk rfl rfl rfl hd kk
theorem g_X6_83 (hM : Mach l cc RX6 nL D K G n0 J) {r : Nat} (hr : r < n) (hk : kd r = 1) (hd : decode cc pc = .ok (.getfield 83, 3)) (kk : J n I L X (pc + 3) lv (.int (I r 5) :: rest)) : J n I L X pc lv (.ref (ad G r) :: rest) := q_get hM cf_X1 (j := 5) (by decide) fl_X6_83 hr hk rfl hd kk
theorem p_X6_83 (hM : Mach l cc RX6 nL D K G n0 J) {r : Nat} (hr : r < n) (hk : kd r = 1) {v : Int32} (hd : decode cc pc = .ok (.putfield 83, 3)) (kk : J n (up2 I r 5 v) L X (pc + 3) lv rest) : J n I L X pc lv (.int v :: .ref (ad G r) :: rest) := q_puti hM cf_X1 (j := 5) (by decide) fl_X6_83 hr hk rfl rfl rfl hd kk
theorem g_X1_34 (hM : Mach l cc RX1 nL D K G n0 J) {r : Nat} (hr : r < n) (hk : kd r = 1) (hd : decode cc pc = .ok (.getfield 34, 3)) (kk : J n I L X (pc + 3) lv (.int (I r 6) :: rest)) : J n I L X pc lv (.ref (ad G r) :: rest) := q_get hM cf_X1 (j := 6) (by decide) fl_X1_34 hr hk rfl hd kk
theorem p_X1_34 (hM : Mach l cc RX1 nL D K G n0 J) {r : Nat} (hr : r < n) (hk : kd r = 1) {v : Int32} (hd : decode cc pc = .ok (.putfield 34, 3)) (kk : J n (up2 I r 6 v) L X (pc + 3) lv rest) : J n I L X pc lv (.int v :: .ref (ad G r) :: rest) := q_puti hM cf_X1 (j := 6) (by decide) fl_X1_34 hr hk rfl rfl rfl hd kk
theorem g_X6_86 (hM : Mach l cc RX6 nL D K G n0 J) {r : Nat} (hr : r < n) (hk : kd r = 1) (hd : decode cc pc = .ok (.getfield 86, 3)) (kk : J n I L X (pc + 3) lv (.int (I r 6) :: rest)) : J n I L X pc lv (.ref (ad G r) :: rest) := q_get hM cf_X1 (j := 6) (by decide) fl_X6_86 hr hk rfl hd kk
theorem p_X6_86 (hM : Mach l cc RX6 nL D K G n0 J) {r : Nat} (hr : r < n) (hk : kd r = 1) {v : Int32} (hd : decode cc pc = .ok (.putfield 86, 3)) (kk : J n (up2 I r 6 v) L X (pc + 3) lv rest) : J n I L X pc lv (.int v :: .ref (ad G r) :: rest) := q_puti hM cf_X1 (j := 6) (by decide) fl_X6_86 hr hk rfl rfl rfl hd kk
theorem g_X1_37 (hM : Mach l cc RX1 nL D K G n0 J) {r : Nat} (hr : r < n) (hk : kd r = 1) (hd : decode cc pc = .ok (.getfield 37, 3)) (kk : J n I L X (pc + 3) lv (.int (I r 7) :: rest)) : J n I L X pc lv (.ref (ad G r) :: rest) := q_get hM cf_X1 (j := 7) (by decide) fl_X1_37 hr hk rfl hd kk
theorem p_X1_37 (hM : Mach l cc RX1 nL D K G n0 J) {r : Nat} (hr : r < n) (hk : kd r = 1) {v : Int32} (hd : decode cc pc = .ok (.putfield 37, 3)) (kk : J n (up2 I r 7 v) L X (pc + 3) lv rest) : J n I L X pc lv (.int v :: .ref (ad G r) :: rest) := q_puti hM cf_X1 (j := 7) (by decide) fl_X1_37 hr hk rfl rfl rfl hd kk
theorem g_X6_89 (hM : Mach l cc RX6 nL D K G n0 J) {r : Nat} (hr : r < n) (hk : kd r = 1) (hd : decode cc pc = .ok (.getfield 89, 3)) (kk : J n I L X (pc + 3) lv (.int (I r 7) :: rest)) : J n I L X pc lv (.ref (ad G r) :: rest) := q_get hM cf_X1 (j := 7) (by decide) fl_X6_89 hr hk rfl hd kk
theorem p_X6_89 (hM : Mach l cc RX6 nL D K G n0 J) {r : Nat} (hr : r < n) (hk : kd r = 1) {v : Int32} (hd : decode cc pc = .ok (.putfield 89, 3)) (kk : J n (up2 I r 7 v) L X (pc + 3) lv rest) : J n I L X pc lv (.int v :: .ref (ad G r) :: rest) := q_puti hM cf_X1 (j := 7) (by decide) fl_X6_89 hr hk rfl rfl rfl hd kk
theorem g_X1_40 (hM : Mach l cc RX1 nL D K G n0 J) {r : Nat} (hr : r < n) (hk : kd r = 1) (hd : decode cc pc = .ok (.getfield 40, 3)) (kk : J n I L X (pc + 3) lv (.int (I r 8) :: rest)) : J n I L X pc lv (.ref (ad G r) :: rest) := q_get hM cf_X1 (j := 8) (by decide) fl_X1_40 hr hk rfl hd kk
theorem p_X1_40 (hM : Mach l cc RX1 nL D K G n0 J) {r : Nat} (hr : r < n) (hk : kd r = 1) {v : Int32} (hd : decode cc pc = .ok (.putfield 40, 3)) (kk : J n (up2 I r 8 v) L X (pc + 3) lv rest) : J n I L X pc lv (.int v :: .ref (ad G r) :: rest) := q_puti hM cf_X1 (j := 8) (by decide) fl_X1_40 hr hk rfl rfl rfl hd kk
theorem g_X6_92 (hM : Mach l cc RX6 nL D K G n0 J) {r : Nat} (hr : r < n) (hk : kd r = 1) (hd : decode cc pc = .ok (.getfield 92, 3)) (kk : J n I L X (pc + 3) lv (.int (I r 8) :: rest)) : J n I L X pc lv (.ref (ad G r) :: rest) := q_get hM cf_X1 (j := 8) (by decide) fl_X6_92 hr hk rfl hd kk
theorem p_X6_92 (hM : Mach l cc RX6 nL D K G n0 J) {r : Nat} (hr : r < n) (hk : kd r = 1) {v : Int32} (hd : decode cc pc = .ok (.putfield 92, 3)) (kk : J n (up2 I r 8 v) L X (pc + 3) lv rest) : J n I L X pc lv (.int v :: .ref (ad G r) :: rest) := q_puti hM cf_X1 (j := 8) (by decide) fl_X6_92 hr hk rfl rfl rfl hd kk
theorem g_X1_43 (hM : Mach l cc RX1 nL D K G n0 J) {r : Nat} (hr : r < n) (hk : kd r = 1) (hd : decode cc pc = .ok (.getfield 43, 3)) (kk : J n I L X (pc + 3) lv (.int (I r 9) :: rest)) : J n I L X pc lv (.ref (ad G r) :: rest) := q_get hM cf_X1 (j := 9) (by decide) fl_X1_43 hr hk rfl hd kk
theorem p_X1_43 (hM : Mach l cc RX1 nL D K G n0 J) {r : Nat} (hr : r < n) (hk : kd r = 1) {v : Int32} (hd : decode cc pc = .ok (.putfield 43, 3)) (kk : J n (up2 I r 9 v) L X (pc + 3) lv rest) : J n I L X pc lv (.int v :: .ref (ad G r) :: rest) := q_puti hM cf_X1 (j := 9) (by decide) fl_X1_43 hr hk rfl rfl rfl hd kk
theorem g_X6_95 (hM : Mach l cc RX6 nL D K G n0 J) {r : Nat} (hr : r < n) (hk : kd r = 1) (hd : decode cc pc = .ok (.getfield 95, 3)) (kk : J n I L X (pc + 3) lv (.int (I r 9) :: rest)) : J n I L X pc lv (.ref (ad G r) :: rest) := q_get hM cf_X1 (j := 9) (by decide) fl_X6_95 hr hk rfl hd kk
theorem p_X6_95 (hM : Mach l cc RX6 nL D K G n0 J) {r : Nat} (hr : r < n) (hk : kd r = 1) {v : Int32} (hd : decode cc pc = .ok (.putfield 95, 3)) (kk : J n (up2 I r 9 v) L X (pc + 3) lv rest) : J n I L X pc lv (.int v :: .ref (ad G r) :: rest) := q_puti hM cf_X1 (j := 9) (by decide) fl_X6_95 hr hk rfl rfl rfl hd kk
theorem g_X1_46 (hM : Mach l cc RX1 nL D K G n0 J) {r : Nat} (hr : r < n) (hk : kd r = 1) (hd : decode cc pc = .ok (.getfield 46, 3)) (kk : J n I L X (pc + 3) lv (.int (I r 10) :: rest)) : J n I L X pc lv (.ref (ad G r) :: rest) := q_get hM cf_X1 (j := 10) (by decide) fl_X1_46 hr hk rfl hd kk
theorem p_X1_46 (hM : Mach l cc RX1 nL D K G n0 J) {r : Nat} (hr : r < n) (hk : kd r = 1) {v : Int32} (hd : decode cc pc = .ok (.putfield 46, 3)) (kk : J n (up2 I r 10 v) L X (pc + 3) lv rest) : J n I L X pc lv (.int v :: .ref (ad G r) :: rest) := q_puti hM cf_X1 (j := 10) (by decide) fl_X1_46 hr hk rfl rfl rfl hd kk
theorem g_X6_98 (hM : Mach l cc RX6 nL D K G n0 J) {r : Nat} (hr : r < n) (hk : kd r = 1) (hd : decode cc pc = .ok (.getfield 98, 3)) (kk : J n I L X (pc + 3) lv (.int (I r 10) :: rest)) : J n I L X pc lv (.ref (ad G r) :: rest) := q_get hM cf_X1 (j := 10) (by decide) fl_X6_98 hr hk rfl hd kk
theorem p_X6_98 (hM : Mach l cc RX6 nL D K G n0 J) {r : Nat} (hr : r < n) (hk : kd r = 1) {v : Int32} (hd : decode cc pc = .ok (.putfield 98, 3)) (kk : J n (up2 I r 10 v) L X (pc + 3) lv rest) : J n I L X pc lv (.int v :: .ref (ad G r) :: rest) := q_puti hM cf_X1 (j := 10) (by decide) fl_X6_98 hr hk rfl rfl rfl hd kk
theorem g_X0_11 (hM : Mach l cc RX0 nL D K G n0 J) {r q : Nat} (hr : r < n) (hk : kd r = 0) (hX : X r 0 = some q) (hd : decode cc pc = .ok (.getfield 11, 3)) (kk : J n I L X (pc + 3) lv (.ref (ad G q) :: rest)) : J n I L X pc lv (.ref (ad G r) :: rest) := q_get hM cf_X0 (j := 0) (by decide) fl_X0_11 hr hk (by show rfv G (X r 0) = _; rw [hX]; rfl) hd kk
theorem g_X0_17 (hM : Mach l cc RX0 nL D K G n0 J) {r : Nat} (hr : r < n) (hk : kd r = 0) (hd : decode cc pc = .ok (.getfield 17, 3)) (kk : J n I L X (pc + 3) lv (.int (I r 1) :: rest)) : J n I L X pc lv (.ref (ad G r) :: rest) := q_get hM cf_X0 (j := 1) (by decide) fl_X0_17 hr hk rfl hd kk
theorem p_X0_17 (hM : Mach l cc RX0 nL D K G n0 J) {r : Nat} (hr : r < n) (hk : kd r = 0) {v : Int32} (hd : decode cc pc = .ok (.putfield 17, 3)) (kk : J n (up2 I r 1 v) L X (pc + 3) lv rest) : J n I L X pc lv (.int v :: .ref (ad G r) :: rest) := q_puti hM cf_X0 (j := 1) (by decide) fl_X0_17 hr hk rfl rfl rfl hd kk
theorem g_X6_215 (hM : Mach l cc RX6 nL D K G n0 J) {r : Nat} (hr : r < n) (hk : kd r = 0) (hd : decode cc pc = .ok (.getfield 215, 3)) (kk : J n I L X (pc + 3) lv (.int (I r 1) :: rest)) : J n I L X pc lv (.ref (ad G r) :: rest) := q_get hM cf_X0 (j := 1) (by decide) fl_X6_215 hr hk rfl hd kk
theorem p_X6_215 (hM : Mach l cc RX6 nL D K G n0 J) {r : Nat} (hr : r < n) (hk : kd r = 0) {v : Int32} (hd : decode cc pc = .ok (.putfield 215, 3)) (kk : J n (up2 I r 1 v) L X (pc + 3) lv rest) : J n I L X pc lv (.int v :: .ref (ad G r) :: rest) := q_puti hM cf_X0 (j := 1) (by decide) fl_X6_215 hr hk rfl rfl rfl hd kk
theorem g_X3_9 (hM : Mach l cc RX3 nL D K G n0 J) {r q : Nat} (hr : r < n) (hk : kd r = 3) (hX : X r 0 = some q) (hd : decode cc pc = .ok (.getfield 9, 3)) (kk : J n I L X (pc + 3) lv (.ref (ad G q) :: rest)) : J n I L X pc lv (.ref (ad G r) :: rest) := q_get hM cf_X3 (j := 0) (by decide) fl_X3_9 hr hk (by show rfv G (X r 0) = _; rw [hX]; rfl) hd kk
theorem g_X3_15 (hM : Mach l cc RX3 nL D K G n0 J) {r q : Nat} (hr : r < n) (hk : kd r = 3) (hX : X r 1 = some q) (hd : decode cc pc = .ok (.getfield 15, 3)) (kk : J n I L X (pc + 3) lv (.ref (ad G q) :: rest)) : J n I L X pc lv (.ref (ad G r) :: rest) := q_get hM cf_X3 (j := 1) (by decide) fl_X3_15 hr hk (by show rfv G (X r 1) = _; rw [hX]; rfl) hd kk
theorem g_X3_18 (hM : Mach l cc RX3 nL D K G n0 J) {r q : Nat} (hr : r < n) (hk : kd r = 3) (hX : X r 2 = some q) (hd : decode cc pc = .ok (.getfield 18, 3)) (kk : J n I L X (pc + 3) lv (.ref (ad G q) :: rest)) : J n I L X pc lv (.ref (ad G r) :: rest) := q_get hM cf_X3 (j := 2) (by decide) fl_X3_18 hr hk (by show rfv G (X r 2) = _; rw [hX]; rfl) hd kk
theorem g_X3_22 (hM : Mach l cc RX3 nL D K G n0 J) {r : Nat} (hr : r < n) (hk : kd r = 3) (hd : decode cc pc = .ok (.getfield 22, 3)) (kk : J n I L X (pc + 3) lv (.int (I r 3) :: rest)) : J n I L X pc lv (.ref (ad G r) :: rest) := q_get hM cf_X3 (j := 3) (by decide) fl_X3_22 hr hk rfl hd kk
theorem p_X3_22 (hM : Mach l cc RX3 nL D K G n0 J) {r : Nat} (hr : r < n) (hk : kd r = 3) {v : Int32} (hd : decode cc pc = .ok (.putfield 22, 3)) (kk : J n (up2 I r 3 v) L X (pc + 3) lv rest) : J n I L X pc lv (.int v :: .ref (ad G r) :: rest) := q_puti hM cf_X3 (j := 3) (by decide) fl_X3_22 hr hk rfl rfl rfl hd kk
theorem g_X4_9 (hM : Mach l cc RX4 nL D K G n0 J) {r q : Nat} (hr : r < n) (hk : kd r = 4) (hX : X r 0 = some q) (hd : decode cc pc = .ok (.getfield 9, 3)) (kk : J n I L X (pc + 3) lv (.ref (ad G q) :: rest)) : J n I L X pc lv (.ref (ad G r) :: rest) := q_get hM cf_X4 (j := 0) (by decide) fl_X4_9 hr hk (by show rfv G (X r 0) = _; rw [hX]; rfl) hd kk
theorem g_X4_15 (hM : Mach l cc RX4 nL D K G n0 J) {r q : Nat} (hr : r < n) (hk : kd r = 4) (hX : X r 1 = some q) (hd : decode cc pc = .ok (.getfield 15, 3)) (kk : J n I L X (pc + 3) lv (.ref (ad G q) :: rest)) : J n I L X pc lv (.ref (ad G r) :: rest) := q_get hM cf_X4 (j := 1) (by decide) fl_X4_15 hr hk (by show rfv G (X r 1) = _; rw [hX]; rfl) hd kk
theorem g_X4_19 (hM : Mach l cc RX4 nL D K G n0 J) {r : Nat} (hr : r < n) (hk : kd r = 4) (hd : decode cc pc = .ok (.getfield 19, 3)) (kk : J n I L X (pc + 3) lv (.int (I r 2) :: rest)) : J n I L X pc lv (.ref (ad G r) :: rest) := q_get hM cf_X4 (j := 2) (by decide) fl_X4_19 hr hk rfl hd kk
theorem p_X4_19 (hM : Mach l cc RX4 nL D K G n0 J) {r : Nat} (hr : r < n) (hk : kd r = 4) {v : Int32} (hd : decode cc pc = .ok (.putfield 19, 3)) (kk : J n (up2 I r 2 v) L X (pc + 3) lv rest) : J n I L X pc lv (.int v :: .ref (ad G r) :: rest) := q_puti hM cf_X4 (j := 2) (by decide) fl_X4_19 hr hk rfl rfl rfl hd kk
theorem g_X4_23 (hM : Mach l cc RX4 nL D K G n0 J) {r : Nat} (hr : r < n) (hk : kd r = 4) (hd : decode cc pc = .ok (.getfield 23, 3)) (kk : J n I L X (pc + 3) lv (.int (I r 3) :: rest)) : J n I L X pc lv (.ref (ad G r) :: rest) := q_get hM cf_X4 (j := 3) (by decide) fl_X4_23 hr hk rfl hd kk
theorem p_X4_23 (hM : Mach l cc RX4 nL D K G n0 J) {r : Nat} (hr : r < n) (hk : kd r = 4) {v : Int32} (hd : decode cc pc = .ok (.putfield 23, 3)) (kk : J n (up2 I r 3 v) L X (pc + 3) lv rest) : J n I L X pc lv (.int v :: .ref (ad G r) :: rest) := q_puti hM cf_X4 (j := 3) (by decide) fl_X4_23 hr hk rfl rfl rfl hd kk
theorem g_X6_208 (hM : Mach l cc RX6 nL D K G n0 J) {r : Nat} (hr : r < n) (hk : kd r = 4) (hd : decode cc pc = .ok (.getfield 208, 3)) (kk : J n I L X (pc + 3) lv (.int (I r 3) :: rest)) : J n I L X pc lv (.ref (ad G r) :: rest) := q_get hM cf_X4 (j := 3) (by decide) fl_X6_208 hr hk rfl hd kk
theorem p_X6_208 (hM : Mach l cc RX6 nL D K G n0 J) {r : Nat} (hr : r < n) (hk : kd r = 4) {v : Int32} (hd : decode cc pc = .ok (.putfield 208, 3)) (kk : J n (up2 I r 3 v) L X (pc + 3) lv rest) : J n I L X pc lv (.int v :: .ref (ad G r) :: rest) := q_puti hM cf_X4 (j := 3) (by decide) fl_X6_208 hr hk rfl rfl rfl hd kk
theorem g_X2_9 (hM : Mach l cc RX2 nL D K G n0 J) {r q : Nat} (hr : r < n) (hk : kd r = 2) (hX : X r 0 = some q) (hd : decode cc pc = .ok (.getfield 9, 3)) (kk : J n I L X (pc + 3) lv (.ref (ad G q) :: rest)) : J n I L X pc lv (.ref (ad G r) :: rest) := q_get hM cf_X2 (j := 0) (by decide) fl_X2_9 hr hk (by show rfv G (X r 0) = _; rw [hX]; rfl) hd kk
theorem g_X2_17 (hM : Mach l cc RX2 nL D K G n0 J) {r q : Nat} (hr : r < n) (hk : kd r = 2) (hX : X r 1 = some q) (hd : decode cc pc = .ok (.getfield 17, 3)) (kk : J n I L X (pc + 3) lv (.ref (ad G q) :: rest)) : J n I L X pc lv (.ref (ad G r) :: rest) := q_get hM cf_X2 (j := 1) (by decide) fl_X2_17 hr hk (by show rfv G (X r 1) = _; rw [hX]; rfl) hd kk
theorem g_X6_226 (hM : Mach l cc RX6 nL D K G n0 J) {r q : Nat} (hr : r < n) (hk : kd r = 2) (hX : X r 1 = some q) (hd : decode cc pc = .ok (.getfield 226, 3)) (kk : J n I L X (pc + 3) lv (.ref (ad G q) :: rest)) : J n I L X pc lv (.ref (ad G r) :: rest) := q_get hM cf_X2 (j := 1) (by decide) fl_X6_226 hr hk (by show rfv G (X r 1) = _; rw [hX]; rfl) hd kk
theorem g_X2_20 (hM : Mach l cc RX2 nL D K G n0 J) {r : Nat} (hr : r < n) (hk : kd r = 2) (hd : decode cc pc = .ok (.getfield 20, 3)) (kk : J n I L X (pc + 3) lv (.int (I r 2) :: rest)) : J n I L X pc lv (.ref (ad G r) :: rest) := q_get hM cf_X2 (j := 2) (by decide) fl_X2_20 hr hk rfl hd kk
theorem p_X2_20 (hM : Mach l cc RX2 nL D K G n0 J) {r : Nat} (hr : r < n) (hk : kd r = 2) {v : Int32} (hd : decode cc pc = .ok (.putfield 20, 3)) (kk : J n (up2 I r 2 v) L X (pc + 3) lv rest) : J n I L X pc lv (.int v :: .ref (ad G r) :: rest) := q_puti hM cf_X2 (j := 2) (by decide) fl_X2_20 hr hk rfl rfl rfl hd kk
theorem g_X6_219 (hM : Mach l cc RX6 nL D K G n0 J) {r : Nat} (hr : r < n) (hk : kd r = 2) (hd : decode cc pc = .ok (.getfield 219, 3)) (kk : J n I L X (pc + 3) lv (.int (I r 2) :: rest)) : J n I L X pc lv (.ref (ad G r) :: rest) := q_get hM cf_X2 (j := 2) (by decide) fl_X6_219 hr hk rfl hd kk
theorem p_X6_219 (hM : Mach l cc RX6 nL D K G n0 J) {r : Nat} (hr : r < n) (hk : kd r = 2) {v : Int32} (hd : decode cc pc = .ok (.putfield 219, 3)) (kk : J n (up2 I r 2 v) L X (pc + 3) lv rest) : J n I L X pc lv (.int v :: .ref (ad G r) :: rest) := q_puti hM cf_X2 (j := 2) (by decide) fl_X6_219 hr hk rfl rfl rfl hd kk
theorem g_X2_24 (hM : Mach l cc RX2 nL D K G n0 J) {r : Nat} (hr : r < n) (hk : kd r = 2) (hd : decode cc pc = .ok (.getfield 24, 3)) (kk : J n I L X (pc + 3) lv (.int (I r 3) :: rest)) : J n I L X pc lv (.ref (ad G r) :: rest) := q_get hM cf_X2 (j := 3) (by decide) fl_X2_24 hr hk rfl hd kk
theorem p_X2_24 (hM : Mach l cc RX2 nL D K G n0 J) {r : Nat} (hr : r < n) (hk : kd r = 2) {v : Int32} (hd : decode cc pc = .ok (.putfield 24, 3)) (kk : J n (up2 I r 3 v) L X (pc + 3) lv rest) : J n I L X pc lv (.int v :: .ref (ad G r) :: rest) := q_puti hM cf_X2 (j := 3) (by decide) fl_X2_24 hr hk rfl rfl rfl hd kk
theorem g_X6_223 (hM : Mach l cc RX6 nL D K G n0 J) {r : Nat} (hr : r < n) (hk : kd r = 2) (hd : decode cc pc = .ok (.getfield 223, 3)) (kk : J n I L X (pc + 3) lv (.int (I r 3) :: rest)) : J n I L X pc lv (.ref (ad G r) :: rest) := q_get hM cf_X2 (j := 3) (by decide) fl_X6_223 hr hk rfl hd kk
theorem p_X6_223 (hM : Mach l cc RX6 nL D K G n0 J) {r : Nat} (hr : r < n) (hk : kd r = 2) {v : Int32} (hd : decode cc pc = .ok (.putfield 223, 3)) (kk : J n (up2 I r 3 v) L X (pc + 3) lv rest) : J n I L X pc lv (.int v :: .ref (ad G r) :: rest) := q_puti hM cf_X2 (j := 3) (by decide) fl_X6_223 hr hk rfl rfl rfl hd kk
theorem g_X2_27 (hM : Mach l cc RX2 nL D K G n0 J) {r : Nat} (hr : r < n) (hk : kd r = 2) (hd : decode cc pc = .ok (.getfield 27, 3)) (kk : J n I L X (pc + 3) lv (.int (I r 4) :: rest)) : J n I L X pc lv (.ref (ad G r) :: rest) := q_get hM cf_X2 (j := 4) (by decide) fl_X2_27 hr hk rfl hd kk
theorem p_X2_27 (hM : Mach l cc RX2 nL D K G n0 J) {r : Nat} (hr : r < n) (hk : kd r = 2) {v : Int32} (hd : decode cc pc = .ok (.putfield 27, 3)) (kk : J n (up2 I r 4 v) L X (pc + 3) lv rest) : J n I L X pc lv (.int v :: .ref (ad G r) :: rest) := q_puti hM cf_X2 (j := 4) (by decide) fl_X2_27 hr hk rfl rfl rfl hd kk
theorem g_X6_10 (hM : Mach l cc RX6 nL D K G n0 J) {r q : Nat} (hr : r < n) (hk : kd r = 6) (hX : X r 0 = some q) (hd : decode cc pc = .ok (.getfield 10, 3)) (kk : J n I L X (pc + 3) lv (.ref (ad G q) :: rest)) : J n I L X pc lv (.ref (ad G r) :: rest) := q_get hM cf_X6 (j := 0) (by decide) fl_X6_10 hr hk (by show rfv G (X r 0) = _; rw [hX]; rfl) hd kk
theorem g_X6_19 (hM : Mach l cc RX6 nL D K G n0 J) {r q : Nat} (hr : r < n) (hk : kd r = 6) (hX : X r 1 = some q) (hd : decode cc pc = .ok (.getfield 19, 3)) (kk : J n I L X (pc + 3) lv (.ref (ad G q) :: rest)) : J n I L X pc lv (.ref (ad G r) :: rest) := q_get hM cf_X6 (j := 1) (by decide) fl_X6_19 hr hk (by show rfv G (X r 1) = _; rw [hX]; rfl) hd kk
theorem g_X6_26 (hM : Mach l cc RX6 nL D K G n0 J) {r q : Nat} (hr : r < n) (hk : kd r = 6) (hX : X r 2 = some q) (hd : decode cc pc = .ok (.getfield 26, 3)) (kk : J n I L X (pc + 3) lv (.ref (ad G q) :: rest)) : J n I L X pc lv (.ref (ad G r) :: rest) := q_get hM cf_X6 (j := 2) (by decide) fl_X6_26 hr hk (by show rfv G (X r 2) = _; rw [hX]; rfl) hd kk
theorem g_X6_33 (hM : Mach l cc RX6 nL D K G n0 J) {r q : Nat} (hr : r < n) (hk : kd r = 6) (hX : X r 3 = some q) (hd : decode cc pc = .ok (.getfield 33, 3)) (kk : J n I L X (pc + 3) lv (.ref (ad G q) :: rest)) : J n I L X pc lv (.ref (ad G r) :: rest) := q_get hM cf_X6 (j := 3) (by decide) fl_X6_33 hr hk (by show rfv G (X r 3) = _; rw [hX]; rfl) hd kk
theorem g_X6_40 (hM : Mach l cc RX6 nL D K G n0 J) {r q : Nat} (hr : r < n) (hk : kd r = 6) (hX : X r 4 = some q) (hd : decode cc pc = .ok (.getfield 40, 3)) (kk : J n I L X (pc + 3) lv (.ref (ad G q) :: rest)) : J n I L X pc lv (.ref (ad G r) :: rest) := q_get hM cf_X6 (j := 4) (by decide) fl_X6_40 hr hk (by show rfv G (X r 4) = _; rw [hX]; rfl) hd kk
theorem g_X7_7 (hM : Mach l cc RX7 nL D K G n0 J) {r q : Nat} (hr : r < n) (hk : kd r = 7) (hX : X r 0 = some q) (hd : decode cc pc = .ok (.getfield 7, 3)) (kk : J n I L X (pc + 3) lv (.ref (ad G q) :: rest)) : J n I L X pc lv (.ref (ad G r) :: rest) := q_get hM cf_X7 (j := 0) (by decide) fl_X7_7 hr hk (by show rfv G (X r 0) = _; rw [hX]; rfl) hd kk
theorem g_X7_13 (hM : Mach l cc RX7 nL D K G n0 J) {r q : Nat} (hr : r < n) (hk : kd r = 7) (hX : X r 1 = some q) (hd : decode cc pc = .ok (.getfield 13, 3)) (kk : J n I L X (pc + 3) lv (.ref (ad G q) :: rest)) : J n I L X pc lv (.ref (ad G r) :: rest) := q_get hM cf_X7 (j := 1) (by decide) fl_X7_13 hr hk (by show rfv G (X r 1) = _; rw [hX]; rfl) hd kk
theorem g_X7_27 (hM : Mach l cc RX7 nL D K G n0 J) {r : Nat} (hr : r < n) (hk : kd r = 7) (hd : decode cc pc = .ok (.getfield 27, 3)) (kk : J n I L X (pc + 3) lv (.int (I r 2) :: rest)) : J n I L X pc lv (.ref (ad G r) :: rest) := q_get hM cf_X7 (j := 2) (by decide) fl_X7_27 hr hk rfl hd kk
theorem p_X7_27 (hM : Mach l cc RX7 nL D K G n0 J) {r : Nat} (hr : r < n) (hk : kd r = 7) {v : Int32} (hd : decode cc pc = .ok (.putfield 27, 3)) (kk : J n (up2 I r 2 v) L X (pc + 3) lv rest) : J n I L X pc lv (.int v :: .ref (ad G r) :: rest) := q_puti hM cf_X7 (j := 2) (by decide) fl_X7_27 hr hk rfl rfl rfl hd kk
theorem g_X7_17 (hM : Mach l cc RX7 nL D K G n0 J) {r q : Nat} (hr : r < n) (hk : kd r = 7) (hX : X r 3 = some q) (hd : decode cc pc = .ok (.getfield 17, 3)) (kk : J n I L X (pc + 3) lv (.ref (ad G q) :: rest)) : J n I L X pc lv (.ref (ad G r) :: rest) := q_get hM cf_X7 (j := 3) (by decide) fl_X7_17 hr hk (by show rfv G (X r 3) = _; rw [hX]; rfl) hd kk
theorem g_X7_21 (hM : Mach l cc RX7 nL D K G n0 J) {r q : Nat} (hr : r < n) (hk : kd r = 7) (hX : X r 4 = some q) (hd : decode cc pc = .ok (.getfield 21, 3)) (kk : J n I L X (pc + 3) lv (.ref (ad G q) :: rest)) : J n I L X pc lv (.ref (ad G r) :: rest) := q_get hM cf_X7 (j := 4) (by decide) fl_X7_21 hr hk (by show rfv G (X r 4) = _; rw [hX]; rfl) hd kk
theorem g_X7_107 (hM : Mach l cc RX7 nL D K G n0 J) {r : Nat} (hr : r < n) (hk : kd r = 7) (hd : decode cc pc = .ok (.getfield 107, 3)) (kk : J n I L X (pc + 3) lv (.int (I r 5) :: rest)) : J n I L X pc lv (.ref (ad G r) :: rest) := q_get hM cf_X7 (j := 5) (by decide) fl_X7_107 hr hk rfl hd kk
theorem p_X7_107 (hM : Mach l cc RX7 nL D K G n0 J) {r : Nat} (hr : r < n) (hk : kd r = 7) {v : Int32} (hd : decode cc pc = .ok (.putfield 107, 3)) (kk : J n (up2 I r 5 v) L X (pc + 3) lv rest) : J n I L X pc lv (.int v :: .ref (ad G r) :: rest) := q_puti hM cf_X7 (j := 5) (by decide) fl_X7_107 hr hk rfl rfl rfl hd kk
theorem g_X7_104 (hM : Mach l cc RX7 nL D K G n0 J) {r : Nat} (hr : r < n) (hk : kd r = 7) (hd : decode cc pc = .ok (.getfield 104, 3)) (kk : J n I L X (pc + 3) lv (.int (I r 6) :: rest)) : J n I L X pc lv (.ref (ad G r) :: rest) := q_get hM cf_X7 (j := 6) (by decide) fl_X7_104 hr hk rfl hd kk
theorem p_X7_104 (hM : Mach l cc RX7 nL D K G n0 J) {r : Nat} (hr : r < n) (hk : kd r = 7) {v : Int32} (hd : decode cc pc = .ok (.putfield 104, 3)) (kk : J n (up2 I r 6 v) L X (pc + 3) lv rest) : J n I L X pc lv (.int v :: .ref (ad G r) :: rest) := q_puti hM cf_X7 (j := 6) (by decide) fl_X7_104 hr hk rfl rfl rfl hd kk
theorem g_X7_24 (hM : Mach l cc RX7 nL D K G n0 J) {r q : Nat} (hr : r < n) (hk : kd r = 7) (hX : X r 7 = some q) (hd : decode cc pc = .ok (.getfield 24, 3)) (kk : J n I L X (pc + 3) lv (.ref (ad G q) :: rest)) : J n I L X pc lv (.ref (ad G r) :: rest) := q_get hM cf_X7 (j := 7) (by decide) fl_X7_24 hr hk (by show rfv G (X r 7) = _; rw [hX]; rfl) hd kk
theorem g_X7_116 (hM : Mach l cc RX7 nL D K G n0 J) {r : Nat} (hr : r < n) (hk : kd r = 7) (hd : decode cc pc = .ok (.getfield 116, 3)) (kk : J n I L X (pc + 3) lv (.int (I r 8) :: rest)) : J n I L X pc lv (.ref (ad G r) :: rest) := q_get hM cf_X7 (j := 8) (by decide) fl_X7_116 hr hk rfl hd kk
theorem p_X7_116 (hM : Mach l cc RX7 nL D K G n0 J) {r : Nat} (hr : r < n) (hk : kd r = 7) {v : Int32} (hd : decode cc pc = .ok (.putfield 116, 3)) (kk : J n (up2 I r 8 v) L X (pc + 3) lv rest) : J n I L X pc lv (.int v :: .ref (ad G r) :: rest) := q_puti hM cf_X7 (j := 8) (by decide) fl_X7_116 hr hk rfl rfl rfl hd kk
theorem g_X7_119 (hM : Mach l cc RX7 nL D K G n0 J) {r : Nat} (hr : r < n) (hk : kd r = 7) (hd : decode cc pc = .ok (.getfield 119, 3)) (kk : J n I L X (pc + 3) lv (.int (I r 9) :: rest)) : J n I L X pc lv (.ref (ad G r) :: rest) := q_get hM cf_X7 (j := 9) (by decide) fl_X7_119 hr hk rfl hd kk
theorem p_X7_119 (hM : Mach l cc RX7 nL D K G n0 J) {r : Nat} (hr : r < n) (hk : kd r = 7) {v : Int32} (hd : decode cc pc = .ok (.putfield 119, 3)) (kk : J n (up2 I r 9 v) L X (pc + 3) lv rest) : J n I L X pc lv (.int v :: .ref (ad G r) :: rest) := q_puti hM cf_X7 (j := 9) (by decide) fl_X7_119 hr hk rfl rfl rfl hd kk
theorem g_X7_126 (hM : Mach l cc RX7 nL D K G n0 J) {r : Nat} (hr : r < n) (hk : kd r = 7) (hd : decode cc pc = .ok (.getfield 126, 3)) (kk : J n I L X (pc + 3) lv (.int (I r 10) :: rest)) : J n I L X pc lv (.ref (ad G r) :: rest) := q_get hM cf_X7 (j := 10) (by decide) fl_X7_126 hr hk rfl hd kk
theorem p_X7_126 (hM : Mach l cc RX7 nL D K G n0 J) {r : Nat} (hr : r < n) (hk : kd r = 7) {v : Int32} (hd : decode cc pc = .ok (.putfield 126, 3)) (kk : J n (up2 I r 10 v) L X (pc + 3) lv rest) : J n I L X pc lv (.int v :: .ref (ad G r) :: rest) := q_puti hM cf_X7 (j := 10) (by decide) fl_X7_126 hr hk rfl rfl rfl hd kk
theorem g_X7_135 (hM : Mach l cc RX7 nL D K G n0 J) {r : Nat} (hr : r < n) (hk : kd r = 7) (hd : decode cc pc = .ok (.getfield 135, 3)) (kk : J n I L X (pc + 3) lv (.int (I r 11) :: rest)) : J n I L X pc lv (.ref (ad G r) :: rest) := q_get hM cf_X7 (j := 11) (by decide) fl_X7_135 hr hk rfl hd kk
theorem p_X7_135 (hM : Mach l cc RX7 nL D K G n0 J) {r : Nat} (hr : r < n) (hk : kd r = 7) {v : Int32} (hd : decode cc pc = .ok (.putfield 135, 3)) (kk : J n (up2 I r 11 v) L X (pc + 3) lv rest) : J n I L X pc lv (.int v :: .ref (ad G r) :: rest) := q_puti hM cf_X7 (j := 11) (by decide) fl_X7_135 hr hk rfl rfl rfl hd kk
theorem g_X7_147 (hM : Mach l cc RX7 nL D K G n0 J) {r : Nat} (hr : r < n) (hk : kd r = 7) (hd : decode cc pc = .ok (.getfield 147, 3)) (kk : J n I L X (pc + 3) lv (.long (L r 12) :: rest)) : J n I L X pc lv (.ref (ad G r) :: rest) := q_get hM cf_X7 (j := 12) (by decide) fl_X7_147 hr hk rfl hd kk
theorem p_X7_147 (hM : Mach l cc RX7 nL D K G n0 J) {r : Nat} (hr : r < n) (hk : kd r = 7) {v : Int64} (hd : decode cc pc = .ok (.putfield 147, 3)) (kk : J n I (up2 L r 12 v) X (pc + 3) lv rest) : J n I L X pc lv (.long v :: .ref (ad G r) :: rest) := q_putl hM cf_X7 (j := 12) (by decide) fl_X7_147 hr hk rfl rfl rfl hd kk
end QG
end
section
/-! ===== methods and calls ===== -/
def MIv (y : MethodName) (C : String) (b : ByteArray) (nL : Nat) (rt : Option FieldType) (cnt : Nat) : Prop :=
  Cond.instanceMethod y ∈ TB ∧ Cond.selects C y y ∈ TB ∧ Cond.initialized C ∈ TB ∧ Cond.code y b nL rt ∈ TB ∧ (y.cls = C ∧ y.cls ≠ "java/lang/invoke/MethodHandle" ∧ y.cls ≠ "java/lang/invoke/VarHandle" ∧ (parseMethodDescriptor y.desc).map (fun d => d.parameters.length) = some cnt) ∧ nL ≤ 17
def MIs (y : MethodName) (b : ByteArray) (nL : Nat) (rt : Option FieldType) (cnt : Nat) : Prop :=
  Cond.static y ∈ TB ∧ Cond.initialized y.cls ∈ TB ∧ Cond.code y b nL rt ∈ TB ∧ (y.cls ≠ "java/lang/invoke/MethodHandle" ∧ y.cls ≠ "java/lang/invoke/VarHandle" ∧ (parseMethodDescriptor y.desc).map (fun d => d.parameters.length) = some cnt) ∧ nL ≤ 17
def MIi (y : MethodName) (b : ByteArray) (nL : Nat) (cnt : Nat) : Prop :=
  Cond.instanceMethod y ∈ TB ∧ Cond.initialized y.cls ∈ TB ∧ Cond.code y b nL none ∈ TB ∧ (y.cls ≠ "java/lang/invoke/MethodHandle" ∧ y.cls ≠ "java/lang/invoke/VarHandle" ∧ (parseMethodDescriptor y.desc).map (fun d => d.parameters.length) = some cnt) ∧ nL ≤ 17 ∧ y.name = "<init>"
theorem code_TB {y : MethodName} {b : ByteArray} {nL : Nat} {rt : Option FieldType} (h : Cond.code y b nL rt ∈ TB) : ∀ w ∈ Cond.code y b nL rt :: TB, w ∈ TB := fun w hw => (List.mem_cons.mp hw).elim (fun e => e ▸ h) id
theorem goodV {own : String} {idx : Nat} {y : MethodName} {C : String} {b : ByteArray} {nL : Nat} {rt : Option FieldType} {cnt : Nat} (mi : MIv y C b nL rt cnt) (lk : Cond.methodLink own idx y ∈ TB) : GoodIn TB (wsV own idx C y (Cond.code y b nL rt :: TB)) := by
  obtain ⟨i1, i2, i3, i4, -⟩ := mi
  refine goodIn_TB (fun w hw => ?_)
  rcases List.mem_append.mp hw with h | h
  · simp only [List.mem_cons, List.not_mem_nil, or_false] at h
    rcases h with rfl | rfl | rfl | rfl
    · exact lk
    · exact i1
    · exact i2
    · exact i3
  · exact code_TB i4 w h
section QC
variable {l : Launch} {cc : ByteArray} {own : String} {nL D K : Nat} {G : kG} {n0 : Nat} {J : kJ} {n : Nat} {I : kI} {L : kL} {X : kX} {pc : Nat} {lv : kV} {rest : List Value}
theorem callV_i (hM : Mach l cc own nL D K G n0 J) {y : MethodName} {b' : ByteArray} {nL' D' cnt idx : Nat} {C : String} {T : u_T} {N : Nat} {tyf : Nat → FieldType} {ci : Nat} (mi : MIv y C b' nL' (some .int) cnt) (lk : Cond.methodLink own idx y ∈ TB) (cf : CF ci C T N tyf) {r : Nat} (hr : r < n) (hk : kd r = ci) {As : List Value} {n1 : Nat} {post : Int32 → kI → kL → kX → Prop} (hC : Ki l y b' nL' D' G (.ref (ad G r) :: As) n n1 I L X post) (hcnt : As.length = cnt) {st : List Value} (hst : st = As.reverse ++ .ref (ad G r) :: rest) (hD : D' + 1 ≤ D) (hn1 : n ≤ n1) (hKc : n1 ≤ n0 + K) (hW : (rest.map fun v => v.category).sum ≤ 8) (hd : decode cc pc = .ok (.invokevirtual idx, 3)) (kk : ∀ (v : Int32) (I' : kI) (L' : kL) (X' : kX), post v I' L' X' → J n1 I' L' X' (pc + 3) lv (.int v :: rest)) : J n I L X pc lv st := by
  subst hst
  obtain ⟨p, e, Rm, s, m, args, below, meth, c, H0, Q, rfl, hx, hb, hml, hown, hT, hK, hbs, hR⟩ := hM
  intro hn H locs ls hz hP hS hl
  have hTB : ∀ w ∈ TB, w.before args s = true := fun w hw => hT w (inT_TB hw)
  have hUU : ∀ U : State, U.heap = H → s.WarmedH U.vm → kW G n I L X U := fun U hU hW => ⟨by rw [hU]; exact hz, by rw [hU]; exact hP, va_K.moved hW.alike hK, fun w hw => nest_warm hw.2 hW (va_Nw.of (nest_tab hw.2) (hT w ⟨hw.1, by rw [hw.2]; exact Bool.or_true _⟩)), hbs.2.moved hW.alike⟩
  obtain ⟨r1, r2, r3, r4⟩ := hR
  have i5 := mi.2.2.2.2.1
  have i6 := mi.2.2.2.2.2
  have he : (wl G n I L X)[r]? = some (ad G r, .inr (ci, flds G I L X ci r)) := by rw [wl_get hr, ce_obj hk cf.2.1]
  have hpre : PreV s H C (ad G r) (va_Pc (.ref (ad G r) :: As) (kW G n I L X)) As := ⟨kW_blind, va_recv hK hP cf.1 he, fun U hU hW => ⟨rfl, hUU U hU hW⟩⟩
  refine va_calli (va_runV (Ts := TB) (rest := rest) ⟨hx, hb, hml, hown, hTB⟩ hC (cwV cnt hTB (goodV mi lk) rfl rfl rfl i5 ⟨by show D' + 1 ≤ _; omega, by show 8 + (nL' + 11) + 36 * D' ≤ _; omega⟩) hpre rfl hcnt hl.1 rfl (lv_room hW) hd ⟨by omega, by omega⟩) hS (fun q _ h => ?_) (fun q h => h) (fun v u t H1 locs1 ht hvm hp hB hz1 hk1 hS1 => by
    obtain ⟨b1, b2, -⟩ := hB
    have K9 := kk v u.1 u.2.1 u.2.2 hp (by omega) H1 locs1 ls (by rw [← ht]; exact b1) (by rw [← ht]; exact b2) hS1 hl
    rw [show n - n0 + (n1 - n) = n1 - n0 by omega, show 800 * (n - n0) + 800 * (n1 - n) = 800 * (n1 - n0) by omega]
    exact K9)
  exact h
theorem callV_z (hM : Mach l cc own nL D K G n0 J) {y : MethodName} {b' : ByteArray} {nL' D' cnt idx : Nat} {C : String} {T : u_T} {N : Nat} {tyf : Nat → FieldType} {ci : Nat} (mi : MIv y C b' nL' (some .boolean) cnt) (lk : Cond.methodLink own idx y ∈ TB) (cf : CF ci C T N tyf) {r : Nat} (hr : r < n) (hk : kd r = ci) {As : List Value} {n1 : Nat} {post : Bool → kI → kL → kX → Prop} (hC : Kz l y b' nL' D' G (.ref (ad G r) :: As) n n1 I L X post) (hcnt : As.length = cnt) {st : List Value} (hst : st = As.reverse ++ .ref (ad G r) :: rest) (hD : D' + 1 ≤ D) (hn1 : n ≤ n1) (hKc : n1 ≤ n0 + K) (hW : (rest.map fun v => v.category).sum ≤ 8) (hd : decode cc pc = .ok (.invokevirtual idx, 3)) (kk : ∀ (z : Bool) (I' : kI) (L' : kL) (X' : kX), post z I' L' X' → J n1 I' L' X' (pc + 3) lv (.int (bI z) :: rest)) : J n I L X pc lv st := by
  subst hst
  obtain ⟨p, e, Rm, s, m, args, below, meth, c, H0, Q, rfl, hx, hb, hml, hown, hT, hK, hbs, hR⟩ := hM
  intro hn H locs ls hz hP hS hl
  have hTB : ∀ w ∈ TB, w.before args s = true := fun w hw => hT w (inT_TB hw)
  have hUU : ∀ U : State, U.heap = H → s.WarmedH U.vm → kW G n I L X U := fun U hU hW => ⟨by rw [hU]; exact hz, by rw [hU]; exact hP, va_K.moved hW.alike hK, fun w hw => nest_warm hw.2 hW (va_Nw.of (nest_tab hw.2) (hT w ⟨hw.1, by rw [hw.2]; exact Bool.or_true _⟩)), hbs.2.moved hW.alike⟩
  obtain ⟨r1, r2, r3, r4⟩ := hR
  have i5 := mi.2.2.2.2.1
  have i6 := mi.2.2.2.2.2
  have he : (wl G n I L X)[r]? = some (ad G r, .inr (ci, flds G I L X ci r)) := by rw [wl_get hr, ce_obj hk cf.2.1]
  have hpre : PreV s H C (ad G r) (va_Pc (.ref (ad G r) :: As) (kW G n I L X)) As := ⟨kW_blind, va_recv hK hP cf.1 he, fun U hU hW => ⟨rfl, hUU U hU hW⟩⟩
  refine va_calli (va_runV (Ts := TB) (rest := rest) ⟨hx, hb, hml, hown, hTB⟩ hC (cwV cnt hTB (goodV mi lk) rfl rfl rfl i5 ⟨by show D' + 1 ≤ _; omega, by show 8 + (nL' + 11) + 36 * D' ≤ _; omega⟩) hpre rfl hcnt hl.1 rfl (lv_room hW) hd ⟨by omega, by omega⟩) hS (fun q _ h => ?_) (fun q h => h) (fun v u t H1 locs1 ht hvm hp hB hz1 hk1 hS1 => by
    obtain ⟨z, rfl, hp⟩ := hp
    obtain ⟨b1, b2, -⟩ := hB
    have K9 := kk z u.1 u.2.1 u.2.2 hp (by omega) H1 locs1 ls (by rw [← ht]; exact b1) (by rw [← ht]; exact b2) hS1 hl
    rw [show n - n0 + (n1 - n) = n1 - n0 by omega, show 800 * (n - n0) + 800 * (n1 - n) = 800 * (n1 - n0) by omega]
    exact K9)
  exact h
theorem callV_l (hM : Mach l cc own nL D K G n0 J) {y : MethodName} {b' : ByteArray} {nL' D' cnt idx : Nat} {C : String} {T : u_T} {N : Nat} {tyf : Nat → FieldType} {ci : Nat} (mi : MIv y C b' nL' (some .long) cnt) (lk : Cond.methodLink own idx y ∈ TB) (cf : CF ci C T N tyf) {r : Nat} (hr : r < n) (hk : kd r = ci) {As : List Value} {n1 : Nat} {post : Int64 → kI → kL → kX → Prop} (hC : Kl l y b' nL' D' G (.ref (ad G r) :: As) n n1 I L X post) (hcnt : As.length = cnt) {st : List Value} (hst : st = As.reverse ++ .ref (ad G r) :: rest) (hD : D' + 1 ≤ D) (hn1 : n ≤ n1) (hKc : n1 ≤ n0 + K) (hW : (rest.map fun v => v.category).sum ≤ 8) (hd : decode cc pc = .ok (.invokevirtual idx, 3)) (kk : ∀ (v : Int64) (I' : kI) (L' : kL) (X' : kX), post v I' L' X' → J n1 I' L' X' (pc + 3) lv (.long v :: rest)) : J n I L X pc lv st := by
  subst hst
  obtain ⟨p, e, Rm, s, m, args, below, meth, c, H0, Q, rfl, hx, hb, hml, hown, hT, hK, hbs, hR⟩ := hM
  intro hn H locs ls hz hP hS hl
  have hTB : ∀ w ∈ TB, w.before args s = true := fun w hw => hT w (inT_TB hw)
  have hUU : ∀ U : State, U.heap = H → s.WarmedH U.vm → kW G n I L X U := fun U hU hW => ⟨by rw [hU]; exact hz, by rw [hU]; exact hP, va_K.moved hW.alike hK, fun w hw => nest_warm hw.2 hW (va_Nw.of (nest_tab hw.2) (hT w ⟨hw.1, by rw [hw.2]; exact Bool.or_true _⟩)), hbs.2.moved hW.alike⟩
  obtain ⟨r1, r2, r3, r4⟩ := hR
  have i5 := mi.2.2.2.2.1
  have i6 := mi.2.2.2.2.2
  have he : (wl G n I L X)[r]? = some (ad G r, .inr (ci, flds G I L X ci r)) := by rw [wl_get hr, ce_obj hk cf.2.1]
  have hpre : PreV s H C (ad G r) (va_Pc (.ref (ad G r) :: As) (kW G n I L X)) As := ⟨kW_blind, va_recv hK hP cf.1 he, fun U hU hW => ⟨rfl, hUU U hU hW⟩⟩
  refine va_calll (va_runV (Ts := TB) (rest := rest) ⟨hx, hb, hml, hown, hTB⟩ hC (cwV cnt hTB (goodV mi lk) rfl rfl rfl i5 ⟨by show D' + 1 ≤ _; omega, by show 8 + (nL' + 11) + 36 * D' ≤ _; omega⟩) hpre rfl hcnt hl.1 rfl (lv_room hW) hd ⟨by omega, by omega⟩) hS (fun q _ h => ?_) (fun q h => h) (fun v u t H1 locs1 ht hvm hp hB hz1 hk1 hS1 => by
    obtain ⟨b1, b2, -⟩ := hB
    have K9 := kk v u.1 u.2.1 u.2.2 hp (by omega) H1 locs1 ls (by rw [← ht]; exact b1) (by rw [← ht]; exact b2) hS1 hl
    rw [show n - n0 + (n1 - n) = n1 - n0 by omega, show 800 * (n - n0) + 800 * (n1 - n) = 800 * (n1 - n0) by omega]
    exact K9)
  exact h
theorem callV_v (hM : Mach l cc own nL D K G n0 J) {y : MethodName} {b' : ByteArray} {nL' D' cnt idx : Nat} {C : String} {T : u_T} {N : Nat} {tyf : Nat → FieldType} {ci : Nat} (mi : MIv y C b' nL' none cnt) (lk : Cond.methodLink own idx y ∈ TB) (cf : CF ci C T N tyf) {r : Nat} (hr : r < n) (hk : kd r = ci) {As : List Value} {n1 : Nat} {post : kI → kL → kX → Prop} (hC : Kv l y b' nL' D' G (.ref (ad G r) :: As) n n1 I L X post) (hcnt : As.length = cnt) {st : List Value} (hst : st = As.reverse ++ .ref (ad G r) :: rest) (hD : D' + 1 ≤ D) (hn1 : n ≤ n1) (hKc : n1 ≤ n0 + K) (hW : (rest.map fun v => v.category).sum ≤ 8) (hd : decode cc pc = .ok (.invokevirtual idx, 3)) (kk : ∀ (I' : kI) (L' : kL) (X' : kX), post I' L' X' → J n1 I' L' X' (pc + 3) lv rest) : J n I L X pc lv st := by
  subst hst
  obtain ⟨p, e, Rm, s, m, args, below, meth, c, H0, Q, rfl, hx, hb, hml, hown, hT, hK, hbs, hR⟩ := hM
  intro hn H locs ls hz hP hS hl
  have hTB : ∀ w ∈ TB, w.before args s = true := fun w hw => hT w (inT_TB hw)
  have hUU : ∀ U : State, U.heap = H → s.WarmedH U.vm → kW G n I L X U := fun U hU hW => ⟨by rw [hU]; exact hz, by rw [hU]; exact hP, va_K.moved hW.alike hK, fun w hw => nest_warm hw.2 hW (va_Nw.of (nest_tab hw.2) (hT w ⟨hw.1, by rw [hw.2]; exact Bool.or_true _⟩)), hbs.2.moved hW.alike⟩
  obtain ⟨r1, r2, r3, r4⟩ := hR
  have i5 := mi.2.2.2.2.1
  have i6 := mi.2.2.2.2.2
  have he : (wl G n I L X)[r]? = some (ad G r, .inr (ci, flds G I L X ci r)) := by rw [wl_get hr, ce_obj hk cf.2.1]
  have hpre : PreV s H C (ad G r) (va_Pc (.ref (ad G r) :: As) (kW G n I L X)) As := ⟨kW_blind, va_recv hK hP cf.1 he, fun U hU hW => ⟨rfl, hUU U hU hW⟩⟩
  refine va_callv (va_runV (Ts := TB) (rest := rest) ⟨hx, hb, hml, hown, hTB⟩ hC (cwV cnt hTB (goodV mi lk) rfl rfl rfl i5 ⟨by show D' + 1 ≤ _; omega, by show 8 + (nL' + 11) + 36 * D' ≤ _; omega⟩) hpre rfl hcnt hl.1 rfl (lv_room hW) hd ⟨by omega, by omega⟩) hS (fun q _ h => ?_) (fun q h => h) (fun u t H1 locs1 ht hvm hp hB hz1 hk1 hS1 => by
    obtain ⟨b1, b2, -⟩ := hB
    have K9 := kk u.1 u.2.1 u.2.2 hp (by omega) H1 locs1 ls (by rw [← ht]; exact b1) (by rw [← ht]; exact b2) hS1 hl
    rw [show n - n0 + (n1 - n) = n1 - n0 by omega, show 800 * (n - n0) + 800 * (n1 - n) = 800 * (n1 - n0) by omega]
    exact K9)
  exact h
theorem callV_q (hM : Mach l cc own nL D K G n0 J) {y : MethodName} {b' : ByteArray} {nL' D' cnt idx : Nat} {Cr : String} {C : String} {T : u_T} {N : Nat} {tyf : Nat → FieldType} {ci : Nat} (mi : MIv y C b' nL' (some (.object Cr)) cnt) (lk : Cond.methodLink own idx y ∈ TB) (cf : CF ci C T N tyf) {r : Nat} (hr : r < n) (hk : kd r = ci) {As : List Value} {n1 : Nat} {post : Option Nat → kI → kL → kX → Prop} (hC : Kq l y b' nL' Cr D' G (.ref (ad G r) :: As) n n1 I L X post) (hcnt : As.length = cnt) {st : List Value} (hst : st = As.reverse ++ .ref (ad G r) :: rest) (hD : D' + 1 ≤ D) (hn1 : n ≤ n1) (hKc : n1 ≤ n0 + K) (hW : (rest.map fun v => v.category).sum ≤ 8) (hd : decode cc pc = .ok (.invokevirtual idx, 3)) (kk : ∀ (q : Option Nat) (I' : kI) (L' : kL) (X' : kX), post q I' L' X' → J n1 I' L' X' (pc + 3) lv (rfv G q :: rest)) : J n I L X pc lv st := by
  subst hst
  obtain ⟨p, e, Rm, s, m, args, below, meth, c, H0, Q, rfl, hx, hb, hml, hown, hT, hK, hbs, hR⟩ := hM
  intro hn H locs ls hz hP hS hl
  have hTB : ∀ w ∈ TB, w.before args s = true := fun w hw => hT w (inT_TB hw)
  have hUU : ∀ U : State, U.heap = H → s.WarmedH U.vm → kW G n I L X U := fun U hU hW => ⟨by rw [hU]; exact hz, by rw [hU]; exact hP, va_K.moved hW.alike hK, fun w hw => nest_warm hw.2 hW (va_Nw.of (nest_tab hw.2) (hT w ⟨hw.1, by rw [hw.2]; exact Bool.or_true _⟩)), hbs.2.moved hW.alike⟩
  obtain ⟨r1, r2, r3, r4⟩ := hR
  have i5 := mi.2.2.2.2.1
  have i6 := mi.2.2.2.2.2
  have he : (wl G n I L X)[r]? = some (ad G r, .inr (ci, flds G I L X ci r)) := by rw [wl_get hr, ce_obj hk cf.2.1]
  have hpre : PreV s H C (ad G r) (va_Pc (.ref (ad G r) :: As) (kW G n I L X)) As := ⟨kW_blind, va_recv hK hP cf.1 he, fun U hU hW => ⟨rfl, hUU U hU hW⟩⟩
  refine va_callq (va_runV (Ts := TB) (rest := rest) ⟨hx, hb, hml, hown, hTB⟩ hC (cwV cnt hTB (goodV mi lk) rfl rfl rfl i5 ⟨by show D' + 1 ≤ _; omega, by show 8 + (nL' + 11) + 36 * D' ≤ _; omega⟩) hpre rfl hcnt hl.1 rfl (lv_room hW) hd ⟨by omega, by omega⟩) hS (fun q _ h => ?_) (fun q h => h) (fun v u t H1 locs1 ht hvm hp hB hz1 hk1 hS1 => by
    obtain ⟨q, rfl, hp⟩ := hp
    obtain ⟨b1, b2, -⟩ := hB
    have K9 := kk q u.1 u.2.1 u.2.2 hp (by omega) H1 locs1 ls (by rw [← ht]; exact b1) (by rw [← ht]; exact b2) hS1 hl
    rw [show n - n0 + (n1 - n) = n1 - n0 by omega, show 800 * (n - n0) + 800 * (n1 - n) = 800 * (n1 - n0) by omega]
    exact K9)
  exact h
theorem callS_i (hM : Mach l cc own nL D K G n0 J) {y : MethodName} {b' : ByteArray} {nL' D' cnt idx : Nat} (mi : MIs y b' nL' (some .int) cnt) (lk : Cond.methodLink own idx y ∈ TB) {As : List Value} {n1 : Nat} {post : Int32 → kI → kL → kX → Prop} (hC : Ki l y b' nL' D' G As n n1 I L X post) (hcnt : As.length = cnt) {st : List Value} (hst : st = As.reverse ++ rest) (hD : D' + 1 ≤ D) (hn1 : n ≤ n1) (hKc : n1 ≤ n0 + K) (hW : (rest.map fun v => v.category).sum ≤ 8) (hd : decode cc pc = .ok (.invokestatic idx, 3)) (kk : ∀ (v : Int32) (I' : kI) (L' : kL) (X' : kX), post v I' L' X' → J n1 I' L' X' (pc + 3) lv (.int v :: rest)) : J n I L X pc lv st := by
  subst hst
  obtain ⟨p, e, Rm, s, m, args, below, meth, c, H0, Q, rfl, hx, hb, hml, hown, hT, hK, hbs, hR⟩ := hM
  intro hn H locs ls hz hP hS hl
  have hTB : ∀ w ∈ TB, w.before args s = true := fun w hw => hT w (inT_TB hw)
  have hUU : ∀ U : State, U.heap = H → s.WarmedH U.vm → kW G n I L X U := fun U hU hW => ⟨by rw [hU]; exact hz, by rw [hU]; exact hP, va_K.moved hW.alike hK, fun w hw => nest_warm hw.2 hW (va_Nw.of (nest_tab hw.2) (hT w ⟨hw.1, by rw [hw.2]; exact Bool.or_true _⟩)), hbs.2.moved hW.alike⟩
  obtain ⟨r1, r2, r3, r4⟩ := hR
  obtain ⟨i1, i2, i3, i5, i6⟩ := mi
  have hpre : PreS s H (va_Pc As (kW G n I L X)) As := ⟨kW_blind, fun U hU hW => ⟨rfl, hUU U hU hW⟩⟩
  refine va_calli (va_runS (Ts := TB) (rest := rest) ⟨hx, hb, hml, hown, hTB⟩ hC ⟨callB_of cnt hTB (goodIn_TB (code_TB i3)) rfl rfl rfl (hTB _ i2) (hTB _ lk) i5 ⟨by show D' + 1 ≤ _; omega, by show 8 + (nL' + 11) + 36 * D' ≤ _; omega⟩, hTB _ i1⟩ hpre rfl hcnt hl.1 rfl (lv_room hW) hd ⟨by omega, by omega⟩) hS (fun q _ h => ?_) (fun q h => h) (fun v u t H1 locs1 ht hvm hp hB hz1 hk1 hS1 => by
    obtain ⟨b1, b2, -⟩ := hB
    have K9 := kk v u.1 u.2.1 u.2.2 hp (by omega) H1 locs1 ls (by rw [← ht]; exact b1) (by rw [← ht]; exact b2) hS1 hl
    rw [show n - n0 + (n1 - n) = n1 - n0 by omega, show 800 * (n - n0) + 800 * (n1 - n) = 800 * (n1 - n0) by omega]
    exact K9)
  exact h
theorem callS_z (hM : Mach l cc own nL D K G n0 J) {y : MethodName} {b' : ByteArray} {nL' D' cnt idx : Nat} (mi : MIs y b' nL' (some .boolean) cnt) (lk : Cond.methodLink own idx y ∈ TB) {As : List Value} {n1 : Nat} {post : Bool → kI → kL → kX → Prop} (hC : Kz l y b' nL' D' G As n n1 I L X post) (hcnt : As.length = cnt) {st : List Value} (hst : st = As.reverse ++ rest) (hD : D' + 1 ≤ D) (hn1 : n ≤ n1) (hKc : n1 ≤ n0 + K) (hW : (rest.map fun v => v.category).sum ≤ 8) (hd : decode cc pc = .ok (.invokestatic idx, 3)) (kk : ∀ (z : Bool) (I' : kI) (L' : kL) (X' : kX), post z I' L' X' → J n1 I' L' X' (pc + 3) lv (.int (bI z) :: rest)) : J n I L X pc lv st := by
  subst hst
  obtain ⟨p, e, Rm, s, m, args, below, meth, c, H0, Q, rfl, hx, hb, hml, hown, hT, hK, hbs, hR⟩ := hM
  intro hn H locs ls hz hP hS hl
  have hTB : ∀ w ∈ TB, w.before args s = true := fun w hw => hT w (inT_TB hw)
  have hUU : ∀ U : State, U.heap = H → s.WarmedH U.vm → kW G n I L X U := fun U hU hW => ⟨by rw [hU]; exact hz, by rw [hU]; exact hP, va_K.moved hW.alike hK, fun w hw => nest_warm hw.2 hW (va_Nw.of (nest_tab hw.2) (hT w ⟨hw.1, by rw [hw.2]; exact Bool.or_true _⟩)), hbs.2.moved hW.alike⟩
  obtain ⟨r1, r2, r3, r4⟩ := hR
  obtain ⟨i1, i2, i3, i5, i6⟩ := mi
  have hpre : PreS s H (va_Pc As (kW G n I L X)) As := ⟨kW_blind, fun U hU hW => ⟨rfl, hUU U hU hW⟩⟩
  refine va_calli (va_runS (Ts := TB) (rest := rest) ⟨hx, hb, hml, hown, hTB⟩ hC ⟨callB_of cnt hTB (goodIn_TB (code_TB i3)) rfl rfl rfl (hTB _ i2) (hTB _ lk) i5 ⟨by show D' + 1 ≤ _; omega, by show 8 + (nL' + 11) + 36 * D' ≤ _; omega⟩, hTB _ i1⟩ hpre rfl hcnt hl.1 rfl (lv_room hW) hd ⟨by omega, by omega⟩) hS (fun q _ h => ?_) (fun q h => h) (fun v u t H1 locs1 ht hvm hp hB hz1 hk1 hS1 => by
    obtain ⟨z, rfl, hp⟩ := hp
    obtain ⟨b1, b2, -⟩ := hB
    have K9 := kk z u.1 u.2.1 u.2.2 hp (by omega) H1 locs1 ls (by rw [← ht]; exact b1) (by rw [← ht]; exact b2) hS1 hl
    rw [show n - n0 + (n1 - n) = n1 - n0 by omega, show 800 * (n - n0) + 800 * (n1 - n) = 800 * (n1 - n0) by omega]
    exact K9)
  exact h
theorem callS_l (hM : Mach l cc own nL D K G n0 J) {y : MethodName} {b' : ByteArray} {nL' D' cnt idx : Nat} (mi : MIs y b' nL' (some .long) cnt) (lk : Cond.methodLink own idx y ∈ TB) {As : List Value} {n1 : Nat} {post : Int64 → kI → kL → kX → Prop} (hC : Kl l y b' nL' D' G As n n1 I L X post) (hcnt : As.length = cnt) {st : List Value} (hst : st = As.reverse ++ rest) (hD : D' + 1 ≤ D) (hn1 : n ≤ n1) (hKc : n1 ≤ n0 + K) (hW : (rest.map fun v => v.category).sum ≤ 8) (hd : decode cc pc = .ok (.invokestatic idx, 3)) (kk : ∀ (v : Int64) (I' : kI) (L' : kL) (X' : kX), post v I' L' X' → J n1 I' L' X' (pc + 3) lv (.long v :: rest)) : J n I L X pc lv st := by
  subst hst
  obtain ⟨p, e, Rm, s, m, args, below, meth, c, H0, Q, rfl, hx, hb, hml, hown, hT, hK, hbs, hR⟩ := hM
  intro hn H locs ls hz hP hS hl
  have hTB : ∀ w ∈ TB, w.before args s = true := fun w hw => hT w (inT_TB hw)
  have hUU : ∀ U : State, U.heap = H → s.WarmedH U.vm → kW G n I L X U := fun U hU hW => ⟨by rw [hU]; exact hz, by rw [hU]; exact hP, va_K.moved hW.alike hK, fun w hw => nest_warm hw.2 hW (va_Nw.of (nest_tab hw.2) (hT w ⟨hw.1, by rw [hw.2]; exact Bool.or_true _⟩)), hbs.2.moved hW.alike⟩
  obtain ⟨r1, r2, r3, r4⟩ := hR
  obtain ⟨i1, i2, i3, i5, i6⟩ := mi
  have hpre : PreS s H (va_Pc As (kW G n I L X)) As := ⟨kW_blind, fun U hU hW => ⟨rfl, hUU U hU hW⟩⟩
  refine va_calll (va_runS (Ts := TB) (rest := rest) ⟨hx, hb, hml, hown, hTB⟩ hC ⟨callB_of cnt hTB (goodIn_TB (code_TB i3)) rfl rfl rfl (hTB _ i2) (hTB _ lk) i5 ⟨by show D' + 1 ≤ _; omega, by show 8 + (nL' + 11) + 36 * D' ≤ _; omega⟩, hTB _ i1⟩ hpre rfl hcnt hl.1 rfl (lv_room hW) hd ⟨by omega, by omega⟩) hS (fun q _ h => ?_) (fun q h => h) (fun v u t H1 locs1 ht hvm hp hB hz1 hk1 hS1 => by
    obtain ⟨b1, b2, -⟩ := hB
    have K9 := kk v u.1 u.2.1 u.2.2 hp (by omega) H1 locs1 ls (by rw [← ht]; exact b1) (by rw [← ht]; exact b2) hS1 hl
    rw [show n - n0 + (n1 - n) = n1 - n0 by omega, show 800 * (n - n0) + 800 * (n1 - n) = 800 * (n1 - n0) by omega]
    exact K9)
  exact h
theorem callS_v (hM : Mach l cc own nL D K G n0 J) {y : MethodName} {b' : ByteArray} {nL' D' cnt idx : Nat} (mi : MIs y b' nL' none cnt) (lk : Cond.methodLink own idx y ∈ TB) {As : List Value} {n1 : Nat} {post : kI → kL → kX → Prop} (hC : Kv l y b' nL' D' G As n n1 I L X post) (hcnt : As.length = cnt) {st : List Value} (hst : st = As.reverse ++ rest) (hD : D' + 1 ≤ D) (hn1 : n ≤ n1) (hKc : n1 ≤ n0 + K) (hW : (rest.map fun v => v.category).sum ≤ 8) (hd : decode cc pc = .ok (.invokestatic idx, 3)) (kk : ∀ (I' : kI) (L' : kL) (X' : kX), post I' L' X' → J n1 I' L' X' (pc + 3) lv rest) : J n I L X pc lv st := by
  subst hst
  obtain ⟨p, e, Rm, s, m, args, below, meth, c, H0, Q, rfl, hx, hb, hml, hown, hT, hK, hbs, hR⟩ := hM
  intro hn H locs ls hz hP hS hl
  have hTB : ∀ w ∈ TB, w.before args s = true := fun w hw => hT w (inT_TB hw)
  have hUU : ∀ U : State, U.heap = H → s.WarmedH U.vm → kW G n I L X U := fun U hU hW => ⟨by rw [hU]; exact hz, by rw [hU]; exact hP, va_K.moved hW.alike hK, fun w hw => nest_warm hw.2 hW (va_Nw.of (nest_tab hw.2) (hT w ⟨hw.1, by rw [hw.2]; exact Bool.or_true _⟩)), hbs.2.moved hW.alike⟩
  obtain ⟨r1, r2, r3, r4⟩ := hR
  obtain ⟨i1, i2, i3, i5, i6⟩ := mi
  have hpre : PreS s H (va_Pc As (kW G n I L X)) As := ⟨kW_blind, fun U hU hW => ⟨rfl, hUU U hU hW⟩⟩
  refine va_callv (va_runS (Ts := TB) (rest := rest) ⟨hx, hb, hml, hown, hTB⟩ hC ⟨callB_of cnt hTB (goodIn_TB (code_TB i3)) rfl rfl rfl (hTB _ i2) (hTB _ lk) i5 ⟨by show D' + 1 ≤ _; omega, by show 8 + (nL' + 11) + 36 * D' ≤ _; omega⟩, hTB _ i1⟩ hpre rfl hcnt hl.1 rfl (lv_room hW) hd ⟨by omega, by omega⟩) hS (fun q _ h => ?_) (fun q h => h) (fun u t H1 locs1 ht hvm hp hB hz1 hk1 hS1 => by
    obtain ⟨b1, b2, -⟩ := hB
    have K9 := kk u.1 u.2.1 u.2.2 hp (by omega) H1 locs1 ls (by rw [← ht]; exact b1) (by rw [← ht]; exact b2) hS1 hl
    rw [show n - n0 + (n1 - n) = n1 - n0 by omega, show 800 * (n - n0) + 800 * (n1 - n) = 800 * (n1 - n0) by omega]
    exact K9)
  exact h
theorem callSN_z (hM : Mach l cc own nL D K G n0 J) {y : MethodName} {b' : ByteArray} {nL' D' cnt idx : Nat} {host : String} (mi : MIs y b' nL' (some .boolean) cnt) (lk : InT (Cond.methodLinkNest own idx y host)) {As : List Value} {n1 : Nat} {post : Bool → kI → kL → kX → Prop} (hC : Kz l y b' nL' D' G As n n1 I L X post) (hcnt : As.length = cnt) {st : List Value} (hst : st = As.reverse ++ rest) (hD : D' + 1 ≤ D) (hn1 : n ≤ n1) (hKc : n1 ≤ n0 + K) (hW : (rest.map fun v => v.category).sum ≤ 8) (hd : decode cc pc = .ok (.invokestatic idx, 3)) (kk : ∀ (z : Bool) (I' : kI) (L' : kL) (X' : kX), post z I' L' X' → J n1 I' L' X' (pc + 3) lv (.int (bI z) :: rest)) : J n I L X pc lv st := by
  subst hst
  obtain ⟨p, e, Rm, s, m, args, below, meth, c, H0, Q, rfl, hx, hb, hml, hown, hT, hK, hbs, hR⟩ := hM
  intro hn H locs ls hz hP hS hl
  have hTB : ∀ w ∈ TB, w.before args s = true := fun w hw => hT w (inT_TB hw)
  have hUU : ∀ U : State, U.heap = H → s.WarmedH U.vm → kW G n I L X U := fun U hU hW => ⟨by rw [hU]; exact hz, by rw [hU]; exact hP, va_K.moved hW.alike hK, fun w hw => nest_warm hw.2 hW (va_Nw.of (nest_tab hw.2) (hT w ⟨hw.1, by rw [hw.2]; exact Bool.or_true _⟩)), hbs.2.moved hW.alike⟩
  obtain ⟨r1, r2, r3, r4⟩ := hR
  obtain ⟨i1, i2, i3, i5, i6⟩ := mi
  have hpre : PreS s H (va_Pc As (kW G n I L X)) As := ⟨kW_blind, fun U hU hW => ⟨rfl, hUU U hU hW⟩⟩
  refine va_calli (va_runSN (Ts := TB) (rest := rest) ⟨hx, hb, hml, hown, hTB⟩ hC ⟨va_cnB cnt hTB (goodIn_TB (code_TB i3)) rfl rfl rfl (va_Nw.of rfl (hT _ lk)) (hTB _ i2) i5 ⟨by show D' + 1 ≤ _; omega, by show 8 + (nL' + 11) + 36 * D' ≤ _; omega⟩, hTB _ i1, trivial⟩ hpre rfl hcnt hl.1 rfl (lv_room hW) hd ⟨by omega, by omega⟩) hS (fun q _ h => ?_) (fun q h => h) (fun v u t H1 locs1 ht hvm hp hB hz1 hk1 hS1 => by
    obtain ⟨z, rfl, hp⟩ := hp
    obtain ⟨b1, b2, -⟩ := hB
    have K9 := kk z u.1 u.2.1 u.2.2 hp (by omega) H1 locs1 ls (by rw [← ht]; exact b1) (by rw [← ht]; exact b2) hS1 hl
    rw [show n - n0 + (n1 - n) = n1 - n0 by omega, show 800 * (n - n0) + 800 * (n1 - n) = 800 * (n1 - n0) by omega]
    exact K9)
  exact h
theorem callI_v (hM : Mach l cc own nL D K G n0 J) {y : MethodName} {b' : ByteArray} {nL' D' cnt idx : Nat} (mi : MIi y b' nL' cnt) (lk : Cond.methodLink own idx y ∈ TB) {r : Nat} {As : List Value} {n1 : Nat} {post : kI → kL → kX → Prop} (hC : Kv l y b' nL' D' G (.ref (ad G r) :: As) n n1 I L X post) (hcnt : As.length = cnt) {st : List Value} (hst : st = As.reverse ++ .ref (ad G r) :: rest) (hD : D' + 1 ≤ D) (hn1 : n ≤ n1) (hKc : n1 ≤ n0 + K) (hW : (rest.map fun v => v.category).sum ≤ 8) (hd : decode cc pc = .ok (.invokespecial idx, 3)) (kk : ∀ (I' : kI) (L' : kL) (X' : kX), post I' L' X' → J n1 I' L' X' (pc + 3) lv rest) : J n I L X pc lv st := by
  subst hst
  obtain ⟨p, e, Rm, s, m, args, below, meth, c, H0, Q, rfl, hx, hb, hml, hown, hT, hK, hbs, hR⟩ := hM
  intro hn H locs ls hz hP hS hl
  have hTB : ∀ w ∈ TB, w.before args s = true := fun w hw => hT w (inT_TB hw)
  have hUU : ∀ U : State, U.heap = H → s.WarmedH U.vm → kW G n I L X U := fun U hU hW => ⟨by rw [hU]; exact hz, by rw [hU]; exact hP, va_K.moved hW.alike hK, fun w hw => nest_warm hw.2 hW (va_Nw.of (nest_tab hw.2) (hT w ⟨hw.1, by rw [hw.2]; exact Bool.or_true _⟩)), hbs.2.moved hW.alike⟩
  obtain ⟨r1, r2, r3, r4⟩ := hR
  obtain ⟨i1, i2, i3, i5, i6, i7⟩ := mi
  have hpre : PreS s H (va_Pc (.ref (ad G r) :: As) (kW G n I L X)) (.ref (ad G r) :: As) := ⟨kW_blind, fun U hU hW => ⟨rfl, hUU U hU hW⟩⟩
  refine va_callv (va_runI (Ts := TB) (rest := rest) ⟨hx, hb, hml, hown, hTB⟩ hC ⟨callB_of cnt hTB (goodIn_TB (code_TB i3)) rfl rfl rfl (hTB _ i2) (hTB _ lk) i5 ⟨by show D' + 1 ≤ _; omega, by show 8 + (nL' + 11) + 36 * D' ≤ _; omega⟩, i7, hTB _ i1⟩ hpre rfl hcnt hl.1 rfl (lv_room hW) hd ⟨by omega, by omega⟩) hS (fun q _ h => ?_) (fun q h => h) (fun u t H1 locs1 ht hvm hp hB hz1 hk1 hS1 => by
    obtain ⟨b1, b2, -⟩ := hB
    have K9 := kk u.1 u.2.1 u.2.2 hp (by omega) H1 locs1 ls (by rw [← ht]; exact b1) (by rw [← ht]; exact b2) hS1 hl
    rw [show n - n0 + (n1 - n) = n1 - n0 by omega, show 800 * (n - n0) + 800 * (n1 - n) = 800 * (n1 - n0) by omega]
    exact K9)
  exact h
theorem callIN_v (hM : Mach l cc own nL D K G n0 J) {y : MethodName} {b' : ByteArray} {nL' D' cnt idx : Nat} (mi : MIi y b' nL' cnt) {host : String} (lk : InT (Cond.methodLinkNest own idx y host)) {r : Nat} {As : List Value} {n1 : Nat} {post : kI → kL → kX → Prop} (hC : Kv l y b' nL' D' G (.ref (ad G r) :: As) n n1 I L X post) (hcnt : As.length = cnt) {st : List Value} (hst : st = As.reverse ++ .ref (ad G r) :: rest) (hD : D' + 1 ≤ D) (hn1 : n ≤ n1) (hKc : n1 ≤ n0 + K) (hW : (rest.map fun v => v.category).sum ≤ 8) (hd : decode cc pc = .ok (.invokespecial idx, 3)) (kk : ∀ (I' : kI) (L' : kL) (X' : kX), post I' L' X' → J n1 I' L' X' (pc + 3) lv rest) : J n I L X pc lv st := by
  subst hst
  obtain ⟨p, e, Rm, s, m, args, below, meth, c, H0, Q, rfl, hx, hb, hml, hown, hT, hK, hbs, hR⟩ := hM
  intro hn H locs ls hz hP hS hl
  have hTB : ∀ w ∈ TB, w.before args s = true := fun w hw => hT w (inT_TB hw)
  have hUU : ∀ U : State, U.heap = H → s.WarmedH U.vm → kW G n I L X U := fun U hU hW => ⟨by rw [hU]; exact hz, by rw [hU]; exact hP, va_K.moved hW.alike hK, fun w hw => nest_warm hw.2 hW (va_Nw.of (nest_tab hw.2) (hT w ⟨hw.1, by rw [hw.2]; exact Bool.or_true _⟩)), hbs.2.moved hW.alike⟩
  obtain ⟨r1, r2, r3, r4⟩ := hR
  obtain ⟨i1, i2, i3, i5, i6, i7⟩ := mi
  have hpre : PreS s H (va_Pc (.ref (ad G r) :: As) (kW G n I L X)) (.ref (ad G r) :: As) := ⟨kW_blind, fun U hU hW => ⟨rfl, hUU U hU hW⟩⟩
  refine va_callv (va_runIN (Ts := TB) (rest := rest) ⟨hx, hb, hml, hown, hTB⟩ hC ⟨va_cnB cnt hTB (goodIn_TB (code_TB i3)) rfl rfl rfl (va_Nw.of rfl (hT _ lk)) (hTB _ i2) i5 ⟨by show D' + 1 ≤ _; omega, by show 8 + (nL' + 11) + 36 * D' ≤ _; omega⟩, i7, hTB _ i1⟩ hpre rfl hcnt hl.1 rfl (lv_room hW) hd ⟨by omega, by omega⟩) hS (fun q _ h => ?_) (fun q h => h) (fun u t H1 locs1 ht hvm hp hB hz1 hk1 hS1 => by
    obtain ⟨b1, b2, -⟩ := hB
    have K9 := kk u.1 u.2.1 u.2.2 hp (by omega) H1 locs1 ls (by rw [← ht]; exact b1) (by rw [← ht]; exact b2) hS1 hl
    rw [show n - n0 + (n1 - n) = n1 - n0 by omega, show 800 * (n - n0) + 800 * (n1 - n) = 800 * (n1 - n0) by omega]
    exact K9)
  exact h
theorem q_abs (hM : Mach l cc own nL D K G n0 J) {idx : Nat} {x : Int32} (lk : Cond.methodLink own idx Lib.Math.abs.name ∈ TB) (h2 : Cond.static Lib.Math.abs.name ∈ TB) (h3 : Cond.initialized "java/lang/Math" ∈ TB) (h4 : Cond.code Lib.Math.abs.name Lib.Math.abs.code 1 (some .int) ∈ TB) (hD : 1 ≤ D) (hKc : n ≤ n0 + K) (hW : (rest.map fun v => v.category).sum ≤ 8) (hd : decode cc pc = .ok (.invokestatic idx, 3)) (kk : J n I L X (pc + 3) lv (.int (if 0 ≤ x then x else 0 - x) :: rest)) : J n I L X pc lv (.int x :: rest) := by
  obtain ⟨p, e, Rm, s, m, args, below, meth, c, H0, Q, rfl, hx, hb, hml, hown, hT, hK, hbs, hR⟩ := hM
  intro hn H locs ls hz hP hS hl
  have hTB : ∀ w ∈ TB, w.before args s = true := fun w hw => hT w (inT_TB hw)
  have hUU : ∀ U : State, U.heap = H → s.WarmedH U.vm → kW G n I L X U := fun U hU hW => ⟨by rw [hU]; exact hz, by rw [hU]; exact hP, va_K.moved hW.alike hK, fun w hw => nest_warm hw.2 hW (va_Nw.of (nest_tab hw.2) (hT w ⟨hw.1, by rw [hw.2]; exact Bool.or_true _⟩)), hbs.2.moved hW.alike⟩
  obtain ⟨r1, r2, r3, r4⟩ := hR
  exact va_mabs hx hb (hml.trans hl.1.symm) hown (hTB _ lk) (hTB _ h2) (hTB _ h3) (hTB _ h4) (by omega) (by omega) (by omega) (by omega) hd (kk hn H locs ls hz hP hS hl)
theorem q_objInit (hM : Mach l cc own nL D K G n0 J) {idx r : Nat} (lk : Cond.methodLink own idx objectInit ∈ TB) (h2 : Cond.instanceMethod objectInit ∈ TB) (h3 : Cond.code objectInit ⟨#[0xb1]⟩ 1 none ∈ TB) (hD : 1 ≤ D) (hd : decode cc pc = .ok (.invokespecial idx, 3)) (hW : (rest.map fun v => v.category).sum ≤ 8) (kk : J n I L X (pc + 3) lv rest) : J n I L X pc lv (.ref (ad G r) :: rest) := by
  obtain ⟨p, e, Rm, s, m, args, below, meth, c, H0, Q, rfl, hx, hb, hml, hown, hT, hK, hbs, hR⟩ := hM
  intro hn H locs ls hz hP hS hl
  have hTB : ∀ w ∈ TB, w.before args s = true := fun w hw => hT w (inT_TB hw)
  have hUU : ∀ U : State, U.heap = H → s.WarmedH U.vm → kW G n I L X U := fun U hU hW => ⟨by rw [hU]; exact hz, by rw [hU]; exact hP, va_K.moved hW.alike hK, fun w hw => nest_warm hw.2 hW (va_Nw.of (nest_tab hw.2) (hT w ⟨hw.1, by rw [hw.2]; exact Bool.or_true _⟩)), hbs.2.moved hW.alike⟩
  obtain ⟨r1, r2, r3, r4⟩ := hR
  exact W.objInit hx hb hown (hTB _ lk) (hTB _ h2) (hTB _ h3) rfl (by rw [hml]; exact hl.1) rfl hd (by omega) (by show 2 * 0 + _ + 12 ≤ _; omega) (kk hn H locs ls hz hP hS hl)
end QC
theorem Ki_intro {l : Launch} {y : MethodName} {b : ByteArray} {nL D : Nat} {G : kG} {av : List Value} {n n1 : Nat} {I : kI} {L : kL} {X : kX} {post : Int32 → kI → kL → kX → Prop} {own : String} {lv0 : kV} (mm : Nat) (hy : plainName y.cls = true) (hown : y.cls = own) (hlv : lvI av ++ List.replicate mm none = lv0) (hlen : (lg_sl av).length ≤ nL) (hn1 : n ≤ n1)
    (body : ∀ J : kJ, Mach l b own nL D (n1 - n) G n J → (∀ (v : Int32) (I' : kI) (L' : kL) (X' : kX) (pc : Nat) (lv : kV), post v I' L' X' → decode b pc = .ok (.ireturn, 1) → J n1 I' L' X' pc lv [.int v]) → J n I L X 0 lv0 []) : Ki l y b nL D G av n n1 I L X post := by
  refine Met.ofW (cc := b) (maxL := nL) (ret := (some .int)) hy rfl ?_
  intro p e s m args below meth c s₁ B hml hv
  obtain ⟨rfl, hsz, hP, hK, hNw, hAO⟩ := hv
  have hx := B.exec
  have hb := B.bytes
  have hr := B.returns
  have hts := atoms_spec (ws := .code y b nL (some .int) :: TB) B.pre
  have hown' : s.vm.findClass own = some m.cls := by rw [← hown]; exact findClass_of_methodNamed B.named
  have hlocks := B.notSynchronized
  have hT : ∀ w, InT w → w.before av.toArray s = true := by
    intro w hw
    by_cases hg : goodWord w = true
    · exact hts w (List.mem_cons_of_mem _ (List.mem_filter.mpr ⟨hw.1, hg⟩))
    · have h1 := hw.2
      rw [Bool.eq_false_iff.mpr hg, Bool.false_or] at h1
      exact va_Nw.use (nest_tab h1) (hNw w ⟨hw.1, h1⟩)
  rw [lg_entry_eq]
  have hl := lvO_entry (m := mm) av hlen
  rw [hlv] at hl
  generalize (lg_sl av ++ List.replicate (nL - (lg_sl av).length) Slot.unset).toArray = ls at hl ⊢
  have K := body (kVd p l e (rmd D (n1 - n)) s m av.toArray below meth c nL G s.heap (MQ below (va_Qi (fun r (u : kS) => post r u.1 u.2.1 u.2.2) (fun (u : kS) t => kW G n1 u.1 u.2.1 u.2.2 t) (kF G)) av.toArray s (n1 - n) (800 * (n1 - n)) (kF G)) n) ⟨p, e, _, s, m, _, below, meth, c, s.heap, _, rfl, hx, hb, hml, hown', hT, hK, ⟨by omega, hAO⟩, ⟨Nat.le_refl _, Nat.le_refl _, Nat.le_refl _, Nat.le_refl _⟩⟩ ?_ (Nat.le_refl n) s.heap [] ls hsz hP va_S.rf hl
  · rw [Nat.sub_self] at K
    exact K
  · intro v I' L' X' pc lv hp hd hn' H locs ls' hz hP' hS hl'
    have fin : ∀ t : State, t.heap = H → s.WarmedH t.vm → kW G n1 I' L' X' t := fun t ht hW => ⟨by rw [ht]; exact hz, by rw [ht]; exact hP', va_K.moved hW.alike hK, fun w hw => nest_warm hw.2 hW (hNw w hw), hAO.moved hW.alike⟩
    exact W.iret hx hb hr (fun t ht hW => ⟨⟨v, (I', L', X'), rfl, hp, fin t ht hW⟩, hS.F ht⟩) hS.2.2 hd
theorem Kl_intro {l : Launch} {y : MethodName} {b : ByteArray} {nL D : Nat} {G : kG} {av : List Value} {n n1 : Nat} {I : kI} {L : kL} {X : kX} {post : Int64 → kI → kL → kX → Prop} {own : String} {lv0 : kV} (mm : Nat) (hy : plainName y.cls = true) (hown : y.cls = own) (hlv : lvI av ++ List.replicate mm none = lv0) (hlen : (lg_sl av).length ≤ nL) (hn1 : n ≤ n1)
    (body : ∀ J : kJ, Mach l b own nL D (n1 - n) G n J → (∀ (v : Int64) (I' : kI) (L' : kL) (X' : kX) (pc : Nat) (lv : kV), post v I' L' X' → decode b pc = .ok (.lreturn, 1) → J n1 I' L' X' pc lv [.long v]) → J n I L X 0 lv0 []) : Kl l y b nL D G av n n1 I L X post := by
  refine Met.ofW (cc := b) (maxL := nL) (ret := (some .long)) hy rfl ?_
  intro p e s m args below meth c s₁ B hml hv
  obtain ⟨rfl, hsz, hP, hK, hNw, hAO⟩ := hv
  have hx := B.exec
  have hb := B.bytes
  have hr := B.returns
  have hts := atoms_spec (ws := .code y b nL (some .long) :: TB) B.pre
  have hown' : s.vm.findClass own = some m.cls := by rw [← hown]; exact findClass_of_methodNamed B.named
  have hlocks := B.notSynchronized
  have hT : ∀ w, InT w → w.before av.toArray s = true := by
    intro w hw
    by_cases hg : goodWord w = true
    · exact hts w (List.mem_cons_of_mem _ (List.mem_filter.mpr ⟨hw.1, hg⟩))
    · have h1 := hw.2
      rw [Bool.eq_false_iff.mpr hg, Bool.false_or] at h1
      exact va_Nw.use (nest_tab h1) (hNw w ⟨hw.1, h1⟩)
  rw [lg_entry_eq]
  have hl := lvO_entry (m := mm) av hlen
  rw [hlv] at hl
  generalize (lg_sl av ++ List.replicate (nL - (lg_sl av).length) Slot.unset).toArray = ls at hl ⊢
  have K := body (kVd p l e (rmd D (n1 - n)) s m av.toArray below meth c nL G s.heap (MQ below (va_Ql (fun r (u : kS) => post r u.1 u.2.1 u.2.2) (fun (u : kS) t => kW G n1 u.1 u.2.1 u.2.2 t) (kF G)) av.toArray s (n1 - n) (800 * (n1 - n)) (kF G)) n) ⟨p, e, _, s, m, _, below, meth, c, s.heap, _, rfl, hx, hb, hml, hown', hT, hK, ⟨by omega, hAO⟩, ⟨Nat.le_refl _, Nat.le_refl _, Nat.le_refl _, Nat.le_refl _⟩⟩ ?_ (Nat.le_refl n) s.heap [] ls hsz hP va_S.rf hl
  · rw [Nat.sub_self] at K
    exact K
  · intro v I' L' X' pc lv hp hd hn' H locs ls' hz hP' hS hl'
    have fin : ∀ t : State, t.heap = H → s.WarmedH t.vm → kW G n1 I' L' X' t := fun t ht hW => ⟨by rw [ht]; exact hz, by rw [ht]; exact hP', va_K.moved hW.alike hK, fun w hw => nest_warm hw.2 hW (hNw w hw), hAO.moved hW.alike⟩
    exact W.lret hx hb hr (fun t ht hW => ⟨⟨v, (I', L', X'), rfl, hp, fin t ht hW⟩, hS.F ht⟩) hS.2.2 hd
theorem Kv_intro {l : Launch} {y : MethodName} {b : ByteArray} {nL D : Nat} {G : kG} {av : List Value} {n n1 : Nat} {I : kI} {L : kL} {X : kX} {post : kI → kL → kX → Prop} {own : String} {lv0 : kV} (mm : Nat) (hy : plainName y.cls = true) (hown : y.cls = own) (hlv : lvI av ++ List.replicate mm none = lv0) (hlen : (lg_sl av).length ≤ nL) (hn1 : n ≤ n1)
    (body : ∀ J : kJ, Mach l b own nL D (n1 - n) G n J → (∀ (I' : kI) (L' : kL) (X' : kX) (pc : Nat) (lv : kV), post I' L' X' → decode b pc = .ok (.return_, 1) → J n1 I' L' X' pc lv []) → J n I L X 0 lv0 []) : Kv l y b nL D G av n n1 I L X post := by
  refine Met.ofW (cc := b) (maxL := nL) (ret := none) hy rfl ?_
  intro p e s m args below meth c s₁ B hml hv
  obtain ⟨rfl, hsz, hP, hK, hNw, hAO⟩ := hv
  have hx := B.exec
  have hb := B.bytes
  have hr := B.returns
  have hts := atoms_spec (ws := .code y b nL none :: TB) B.pre
  have hown' : s.vm.findClass own = some m.cls := by rw [← hown]; exact findClass_of_methodNamed B.named
  have hlocks := B.notSynchronized
  have hT : ∀ w, InT w → w.before av.toArray s = true := by
    intro w hw
    by_cases hg : goodWord w = true
    · exact hts w (List.mem_cons_of_mem _ (List.mem_filter.mpr ⟨hw.1, hg⟩))
    · have h1 := hw.2
      rw [Bool.eq_false_iff.mpr hg, Bool.false_or] at h1
      exact va_Nw.use (nest_tab h1) (hNw w ⟨hw.1, h1⟩)
  rw [lg_entry_eq]
  have hl := lvO_entry (m := mm) av hlen
  rw [hlv] at hl
  generalize (lg_sl av ++ List.replicate (nL - (lg_sl av).length) Slot.unset).toArray = ls at hl ⊢
  have K := body (kVd p l e (rmd D (n1 - n)) s m av.toArray below meth c nL G s.heap (MQ below (va_Qv (fun (u : kS) => post u.1 u.2.1 u.2.2) (fun (u : kS) t => kW G n1 u.1 u.2.1 u.2.2 t) (kF G)) av.toArray s (n1 - n) (800 * (n1 - n)) (kF G)) n) ⟨p, e, _, s, m, _, below, meth, c, s.heap, _, rfl, hx, hb, hml, hown', hT, hK, ⟨by omega, hAO⟩, ⟨Nat.le_refl _, Nat.le_refl _, Nat.le_refl _, Nat.le_refl _⟩⟩ ?_ (Nat.le_refl n) s.heap [] ls hsz hP va_S.rf hl
  · rw [Nat.sub_self] at K
    exact K
  · intro I' L' X' pc lv hp hd hn' H locs ls' hz hP' hS hl'
    have fin : ∀ t : State, t.heap = H → s.WarmedH t.vm → kW G n1 I' L' X' t := fun t ht hW => ⟨by rw [ht]; exact hz, by rw [ht]; exact hP', va_K.moved hW.alike hK, fun w hw => nest_warm hw.2 hW (hNw w hw), hAO.moved hW.alike⟩
    exact W.vret hx hb hr (fun t ht hW => ⟨⟨(I', L', X'), rfl, hp, fin t ht hW⟩, hS.F ht⟩) hS.2.2 hd
theorem Kz_intro {l : Launch} {y : MethodName} {b : ByteArray} {nL D : Nat} {G : kG} {av : List Value} {n n1 : Nat} {I : kI} {L : kL} {X : kX} {post : Bool → kI → kL → kX → Prop} {own : String} {lv0 : kV} (mm : Nat) (hy : plainName y.cls = true) (hown : y.cls = own) (hlv : lvI av ++ List.replicate mm none = lv0) (hlen : (lg_sl av).length ≤ nL) (hn1 : n ≤ n1)
    (body : ∀ J : kJ, Mach l b own nL D (n1 - n) G n J → (∀ (z : Bool) (v : Int32) (I' : kI) (L' : kL) (X' : kX) (pc : Nat) (lv : kV), v = bI z → post z I' L' X' → decode b pc = .ok (.ireturn, 1) → J n1 I' L' X' pc lv [.int v]) → J n I L X 0 lv0 []) : Kz l y b nL D G av n n1 I L X post := by
  refine Met.ofW (cc := b) (maxL := nL) (ret := (some .boolean)) hy rfl ?_
  intro p e s m args below meth c s₁ B hml hv
  obtain ⟨rfl, hsz, hP, hK, hNw, hAO⟩ := hv
  have hx := B.exec
  have hb := B.bytes
  have hr := B.returns
  have hts := atoms_spec (ws := .code y b nL (some .boolean) :: TB) B.pre
  have hown' : s.vm.findClass own = some m.cls := by rw [← hown]; exact findClass_of_methodNamed B.named
  have hlocks := B.notSynchronized
  have hT : ∀ w, InT w → w.before av.toArray s = true := by
    intro w hw
    by_cases hg : goodWord w = true
    · exact hts w (List.mem_cons_of_mem _ (List.mem_filter.mpr ⟨hw.1, hg⟩))
    · have h1 := hw.2
      rw [Bool.eq_false_iff.mpr hg, Bool.false_or] at h1
      exact va_Nw.use (nest_tab h1) (hNw w ⟨hw.1, h1⟩)
  rw [lg_entry_eq]
  have hl := lvO_entry (m := mm) av hlen
  rw [hlv] at hl
  generalize (lg_sl av ++ List.replicate (nL - (lg_sl av).length) Slot.unset).toArray = ls at hl ⊢
  have K := body (kVd p l e (rmd D (n1 - n)) s m av.toArray below meth c nL G s.heap (MQ below (va_Qi (fun r (u : kS) => ∃ z : Bool, r = bI z ∧ post z u.1 u.2.1 u.2.2) (fun (u : kS) t => kW G n1 u.1 u.2.1 u.2.2 t) (kF G)) av.toArray s (n1 - n) (800 * (n1 - n)) (kF G)) n) ⟨p, e, _, s, m, _, below, meth, c, s.heap, _, rfl, hx, hb, hml, hown', hT, hK, ⟨by omega, hAO⟩, ⟨Nat.le_refl _, Nat.le_refl _, Nat.le_refl _, Nat.le_refl _⟩⟩ ?_ (Nat.le_refl n) s.heap [] ls hsz hP va_S.rf hl
  · rw [Nat.sub_self] at K
    exact K
  · intro z v I' L' X' pc lv hv hp hd hn' H locs ls' hz hP' hS hl'
    have fin : ∀ t : State, t.heap = H → s.WarmedH t.vm → kW G n1 I' L' X' t := fun t ht hW => ⟨by rw [ht]; exact hz, by rw [ht]; exact hP', va_K.moved hW.alike hK, fun w hw => nest_warm hw.2 hW (hNw w hw), hAO.moved hW.alike⟩
    exact W.zret hx hb hr (by subst hv; cases z <;> rfl) (fun t ht hW => ⟨⟨v, (I', L', X'), rfl, ⟨z, hv, hp⟩, fin t ht hW⟩, hS.F ht⟩) hS.2.2 hd
theorem Kq_intro {l : Launch} {y : MethodName} {b : ByteArray} {nL D : Nat} {Cr : String} {G : kG} {av : List Value} {n n1 : Nat} {I : kI} {L : kL} {X : kX} {post : Option Nat → kI → kL → kX → Prop} {own : String} {lv0 : kV} (mm : Nat) (hy : plainName y.cls = true) (hown : y.cls = own) (hlv : lvI av ++ List.replicate mm none = lv0) (hlen : (lg_sl av).length ≤ nL) (hn1 : n ≤ n1)
    (body : ∀ J : kJ, Mach l b own nL D (n1 - n) G n J → (∀ (q : Option Nat) (I' : kI) (L' : kL) (X' : kX) (pc : Nat) (lv : kV), post q I' L' X' → decode b pc = .ok (.areturn, 1) → J n1 I' L' X' pc lv [rfv G q]) → J n I L X 0 lv0 []) : Kq l y b nL Cr D G av n n1 I L X post := by
  refine Met.ofW (cc := b) (maxL := nL) (ret := (some (.object Cr))) hy rfl ?_
  intro p e s m args below meth c s₁ B hml hv
  obtain ⟨rfl, hsz, hP, hK, hNw, hAO⟩ := hv
  have hx := B.exec
  have hb := B.bytes
  have hr := B.returns
  have hts := atoms_spec (ws := .code y b nL (some (.object Cr)) :: TB) B.pre
  have hown' : s.vm.findClass own = some m.cls := by rw [← hown]; exact findClass_of_methodNamed B.named
  have hlocks := B.notSynchronized
  have hT : ∀ w, InT w → w.before av.toArray s = true := by
    intro w hw
    by_cases hg : goodWord w = true
    · exact hts w (List.mem_cons_of_mem _ (List.mem_filter.mpr ⟨hw.1, hg⟩))
    · have h1 := hw.2
      rw [Bool.eq_false_iff.mpr hg, Bool.false_or] at h1
      exact va_Nw.use (nest_tab h1) (hNw w ⟨hw.1, h1⟩)
  rw [lg_entry_eq]
  have hl := lvO_entry (m := mm) av hlen
  rw [hlv] at hl
  generalize (lg_sl av ++ List.replicate (nL - (lg_sl av).length) Slot.unset).toArray = ls at hl ⊢
  have K := body (kVd p l e (rmd D (n1 - n)) s m av.toArray below meth c nL G s.heap (MQ below (va_Qq (fun r (u : kS) => ∃ q : Option Nat, r = q.map (ad G) ∧ post q u.1 u.2.1 u.2.2) (fun (u : kS) t => kW G n1 u.1 u.2.1 u.2.2 t) (kF G)) av.toArray s (n1 - n) (800 * (n1 - n)) (kF G)) n) ⟨p, e, _, s, m, _, below, meth, c, s.heap, _, rfl, hx, hb, hml, hown', hT, hK, ⟨by omega, hAO⟩, ⟨Nat.le_refl _, Nat.le_refl _, Nat.le_refl _, Nat.le_refl _⟩⟩ ?_ (Nat.le_refl n) s.heap [] ls hsz hP va_S.rf hl
  · rw [Nat.sub_self] at K
    exact K
  · intro q I' L' X' pc lv hp hd hn' H locs ls' hz hP' hS hl'
    have fin : ∀ t : State, t.heap = H → s.WarmedH t.vm → kW G n1 I' L' X' t := fun t ht hW => ⟨by rw [ht]; exact hz, by rw [ht]; exact hP', va_K.moved hW.alike hK, fun w hw => nest_warm hw.2 hW (hNw w hw), hAO.moved hW.alike⟩
    exact W.aret hx hb hr (Or.inl ⟨_, rfl⟩) (va_rf_or _) (fun t ht hW => ⟨⟨q.map (ad G), (I', L', X'), rfl, ⟨q, rfl, hp⟩, fin t ht hW⟩, hS.F ht⟩) hS.2.2 hd
end
section
/-! ===== what the tables say of each method ===== -/
set_option maxRecDepth 20000 in
theorem mi_X6_init : MIi yX6_init cX6_init 1 0 := ⟨inTB_of 47 (by decide +kernel) (by decide +kernel), inTB_of 33 (by decide +kernel) (by decide +kernel), inTB_of 48 (by decide +kernel) (by decide +kernel), (by decide +kernel), (by decide +kernel), rfl⟩
set_option maxRecDepth 20000 in
theorem mi_X1_init : MIi yX1_init cX1_init 2 0 := ⟨inTB_of 55 (by decide +kernel) (by decide +kernel), inTB_of 34 (by decide +kernel) (by decide +kernel), inTB_of 56 (by decide +kernel) (by decide +kernel), (by decide +kernel), (by decide +kernel), rfl⟩
set_option maxRecDepth 20000 in
theorem mi_J7_fill_53178 : MIs yJ7_fill_53178 cJ7_fill_53178 4 none 2 := ⟨inTB_of 61 (by decide +kernel) (by decide +kernel), inTB_of 35 (by decide +kernel) (by decide +kernel), inTB_of 62 (by decide +kernel) (by decide +kernel), (by decide +kernel), (by decide +kernel)⟩
set_option maxRecDepth 20000 in
theorem mi_X5_init : MIi yX5_init cX5_init 1 0 := ⟨inTB_of 65 (by decide +kernel) (by decide +kernel), inTB_of 36 (by decide +kernel) (by decide +kernel), inTB_of 66 (by decide +kernel) (by decide +kernel), (by decide +kernel), (by decide +kernel), rfl⟩
set_option maxRecDepth 20000 in
theorem mi_X0_init : MIi yX0_init cX0_init 2 0 := ⟨inTB_of 160 (by decide +kernel) (by decide +kernel), inTB_of 37 (by decide +kernel) (by decide +kernel), inTB_of 161 (by decide +kernel) (by decide +kernel), (by decide +kernel), (by decide +kernel), rfl⟩
set_option maxRecDepth 20000 in
theorem mi_X3_init : MIi yX3_init cX3_init 1 0 := ⟨inTB_of 177 (by decide +kernel) (by decide +kernel), inTB_of 38 (by decide +kernel) (by decide +kernel), inTB_of 178 (by decide +kernel) (by decide +kernel), (by decide +kernel), (by decide +kernel), rfl⟩
set_option maxRecDepth 20000 in
theorem mi_X4_init : MIi yX4_init cX4_init 1 0 := ⟨inTB_of 197 (by decide +kernel) (by decide +kernel), inTB_of 39 (by decide +kernel) (by decide +kernel), inTB_of 198 (by decide +kernel) (by decide +kernel), (by decide +kernel), (by decide +kernel), rfl⟩
set_option maxRecDepth 20000 in
theorem mi_X2_init : MIi yX2_init cX2_init 1 0 := ⟨inTB_of 218 (by decide +kernel) (by decide +kernel), inTB_of 40 (by decide +kernel) (by decide +kernel), inTB_of 219 (by decide +kernel) (by decide +kernel), (by decide +kernel), (by decide +kernel), rfl⟩
set_option maxRecDepth 20000 in
theorem mi_X6_setPressure : MIv yX6_setPressure RX6 cX6_setPressure 4 (some .int) 2 := ⟨inTB_of 259 (by decide +kernel) (by decide +kernel), inTB_of 260 (by decide +kernel) (by decide +kernel), inTB_of 33 (by decide +kernel) (by decide +kernel), inTB_of 261 (by decide +kernel) (by decide +kernel), (by decide +kernel), (by decide +kernel)⟩
set_option maxRecDepth 20000 in
theorem mi_X1_hasHeader : MIv yX1_hasHeader RX1 cX1_hasHeader 2 (some .boolean) 1 := ⟨inTB_of 263 (by decide +kernel) (by decide +kernel), inTB_of 264 (by decide +kernel) (by decide +kernel), inTB_of 34 (by decide +kernel) (by decide +kernel), inTB_of 265 (by decide +kernel) (by decide +kernel), (by decide +kernel), (by decide +kernel)⟩
set_option maxRecDepth 20000 in
theorem mi_X6_isWithin : MIs yX6_isWithin cX6_isWithin 3 (some .boolean) 3 := ⟨inTB_of 267 (by decide +kernel) (by decide +kernel), inTB_of 33 (by decide +kernel) (by decide +kernel), inTB_of 268 (by decide +kernel) (by decide +kernel), (by decide +kernel), (by decide +kernel)⟩
set_option maxRecDepth 20000 in
theorem mi_X0_keep : MIv yX0_keep RX0 cX0_keep 2 none 1 := ⟨inTB_of 270 (by decide +kernel) (by decide +kernel), inTB_of 271 (by decide +kernel) (by decide +kernel), inTB_of 37 (by decide +kernel) (by decide +kernel), inTB_of 272 (by decide +kernel) (by decide +kernel), (by decide +kernel), (by decide +kernel)⟩
set_option maxRecDepth 20000 in
theorem mi_X0_dropOldest : MIv yX0_dropOldest RX0 cX0_dropOldest 3 none 0 := ⟨inTB_of 275 (by decide +kernel) (by decide +kernel), inTB_of 0 (by decide +kernel) (by decide +kernel), inTB_of 37 (by decide +kernel) (by decide +kernel), inTB_of 276 (by decide +kernel) (by decide +kernel), (by decide +kernel), (by decide +kernel)⟩
set_option maxRecDepth 20000 in
theorem mi_X1_copyFrom : MIv yX1_copyFrom RX1 cX1_copyFrom 3 none 1 := ⟨inTB_of 278 (by decide +kernel) (by decide +kernel), inTB_of 279 (by decide +kernel) (by decide +kernel), inTB_of 34 (by decide +kernel) (by decide +kernel), inTB_of 280 (by decide +kernel) (by decide +kernel), (by decide +kernel), (by decide +kernel)⟩
set_option maxRecDepth 20000 in
theorem mi_X5_copyFrom : MIv yX5_copyFrom RX5 cX5_copyFrom 2 none 1 := ⟨inTB_of 285 (by decide +kernel) (by decide +kernel), inTB_of 286 (by decide +kernel) (by decide +kernel), inTB_of 36 (by decide +kernel) (by decide +kernel), inTB_of 287 (by decide +kernel) (by decide +kernel), (by decide +kernel), (by decide +kernel)⟩
set_option maxRecDepth 20000 in
theorem mi_X6_addLine : MIv yX6_addLine RX6 cX6_addLine 3 (some .int) 1 := ⟨inTB_of 289 (by decide +kernel) (by decide +kernel), inTB_of 290 (by decide +kernel) (by decide +kernel), inTB_of 33 (by decide +kernel) (by decide +kernel), inTB_of 291 (by decide +kernel) (by decide +kernel), (by decide +kernel), (by decide +kernel)⟩
set_option maxRecDepth 20000 in
theorem mi_X6_addTrap : MIv yX6_addTrap RX6 cX6_addTrap 7 (some .int) 5 := ⟨inTB_of 293 (by decide +kernel) (by decide +kernel), inTB_of 294 (by decide +kernel) (by decide +kernel), inTB_of 33 (by decide +kernel) (by decide +kernel), inTB_of 295 (by decide +kernel) (by decide +kernel), (by decide +kernel), (by decide +kernel)⟩
set_option maxRecDepth 20000 in
theorem mi_X1_hasLine : MIv yX1_hasLine RX1 cX1_hasLine 2 (some .boolean) 1 := ⟨inTB_of 297 (by decide +kernel) (by decide +kernel), inTB_of 298 (by decide +kernel) (by decide +kernel), inTB_of 34 (by decide +kernel) (by decide +kernel), inTB_of 299 (by decide +kernel) (by decide +kernel), (by decide +kernel), (by decide +kernel)⟩
set_option maxRecDepth 20000 in
theorem mi_X5_install : MIv yX5_install RX5 cX5_install 6 none 5 := ⟨inTB_of 301 (by decide +kernel) (by decide +kernel), inTB_of 302 (by decide +kernel) (by decide +kernel), inTB_of 36 (by decide +kernel) (by decide +kernel), inTB_of 303 (by decide +kernel) (by decide +kernel), (by decide +kernel), (by decide +kernel)⟩
set_option maxRecDepth 20000 in
theorem mi_X6_moveLine : MIv yX6_moveLine RX6 cX6_moveLine 4 (some .int) 2 := ⟨inTB_of 305 (by decide +kernel) (by decide +kernel), inTB_of 306 (by decide +kernel) (by decide +kernel), inTB_of 33 (by decide +kernel) (by decide +kernel), inTB_of 307 (by decide +kernel) (by decide +kernel), (by decide +kernel), (by decide +kernel)⟩
set_option maxRecDepth 20000 in
theorem mi_X6_setWork : MIv yX6_setWork RX6 cX6_setWork 5 (some .int) 3 := ⟨inTB_of 309 (by decide +kernel) (by decide +kernel), inTB_of 310 (by decide +kernel) (by decide +kernel), inTB_of 33 (by decide +kernel) (by decide +kernel), inTB_of 311 (by decide +kernel) (by decide +kernel), (by decide +kernel), (by decide +kernel)⟩
set_option maxRecDepth 20000 in
theorem mi_X6_count : MIv yX6_count RX6 cX6_count 2 (some .int) 1 := ⟨inTB_of 313 (by decide +kernel) (by decide +kernel), inTB_of 314 (by decide +kernel) (by decide +kernel), inTB_of 33 (by decide +kernel) (by decide +kernel), inTB_of 315 (by decide +kernel) (by decide +kernel), (by decide +kernel), (by decide +kernel)⟩
set_option maxRecDepth 20000 in
theorem mi_X6_trap : MIv yX6_trap RX6 cX6_trap 4 (some .int) 2 := ⟨inTB_of 317 (by decide +kernel) (by decide +kernel), inTB_of 318 (by decide +kernel) (by decide +kernel), inTB_of 33 (by decide +kernel) (by decide +kernel), inTB_of 319 (by decide +kernel) (by decide +kernel), (by decide +kernel), (by decide +kernel)⟩
set_option maxRecDepth 20000 in
theorem mi_X1_trapAt : MIv yX1_trapAt RX1 cX1_trapAt 2 (some (.object "TrapSurvey$Trap")) 1 := ⟨inTB_of 321 (by decide +kernel) (by decide +kernel), inTB_of 322 (by decide +kernel) (by decide +kernel), inTB_of 34 (by decide +kernel) (by decide +kernel), inTB_of 323 (by decide +kernel) (by decide +kernel), (by decide +kernel), (by decide +kernel)⟩
set_option maxRecDepth 20000 in
theorem mi_X1_headerOfLine : MIv yX1_headerOfLine RX1 cX1_headerOfLine 2 (some .int) 1 := ⟨inTB_of 325 (by decide +kernel) (by decide +kernel), inTB_of 326 (by decide +kernel) (by decide +kernel), inTB_of 34 (by decide +kernel) (by decide +kernel), inTB_of 327 (by decide +kernel) (by decide +kernel), (by decide +kernel), (by decide +kernel)⟩
set_option maxRecDepth 20000 in
theorem mi_X6_headerOf : MIv yX6_headerOf RX6 cX6_headerOf 2 (some .int) 1 := ⟨inTB_of 330 (by decide +kernel) (by decide +kernel), inTB_of 331 (by decide +kernel) (by decide +kernel), inTB_of 33 (by decide +kernel) (by decide +kernel), inTB_of 332 (by decide +kernel) (by decide +kernel), (by decide +kernel), (by decide +kernel)⟩
set_option maxRecDepth 20000 in
theorem mi_X6_pressure : MIv yX6_pressure RX6 cX6_pressure 2 (some .int) 1 := ⟨inTB_of 334 (by decide +kernel) (by decide +kernel), inTB_of 335 (by decide +kernel) (by decide +kernel), inTB_of 33 (by decide +kernel) (by decide +kernel), inTB_of 336 (by decide +kernel) (by decide +kernel), (by decide +kernel), (by decide +kernel)⟩
set_option maxRecDepth 20000 in
theorem mi_X1_pressureOfHeader : MIv yX1_pressureOfHeader RX1 cX1_pressureOfHeader 2 (some .int) 1 := ⟨inTB_of 338 (by decide +kernel) (by decide +kernel), inTB_of 339 (by decide +kernel) (by decide +kernel), inTB_of 34 (by decide +kernel) (by decide +kernel), inTB_of 340 (by decide +kernel) (by decide +kernel), (by decide +kernel), (by decide +kernel)⟩
set_option maxRecDepth 20000 in
theorem mi_X6_read : MIv yX6_read RX6 cX6_read 6 (some .int) 4 := ⟨inTB_of 343 (by decide +kernel) (by decide +kernel), inTB_of 344 (by decide +kernel) (by decide +kernel), inTB_of 33 (by decide +kernel) (by decide +kernel), inTB_of 345 (by decide +kernel) (by decide +kernel), (by decide +kernel), (by decide +kernel)⟩
set_option maxRecDepth 20000 in
theorem mi_X6_judge : MIv yX6_judge RX6 cX6_judge 6 (some .int) 4 := ⟨inTB_of 347 (by decide +kernel) (by decide +kernel), inTB_of 348 (by decide +kernel) (by decide +kernel), inTB_of 33 (by decide +kernel) (by decide +kernel), inTB_of 349 (by decide +kernel) (by decide +kernel), (by decide +kernel), (by decide +kernel)⟩
set_option maxRecDepth 20000 in
theorem mi_X1_pressureAt : MIv yX1_pressureAt RX1 cX1_pressureAt 2 (some .int) 1 := ⟨inTB_of 351 (by decide +kernel) (by decide +kernel), inTB_of 352 (by decide +kernel) (by decide +kernel), inTB_of 34 (by decide +kernel) (by decide +kernel), inTB_of 353 (by decide +kernel) (by decide +kernel), (by decide +kernel), (by decide +kernel)⟩
set_option maxRecDepth 20000 in
theorem mi_X5_judged : MIv yX5_judged RX5 cX5_judged 6 (some .int) 4 := ⟨inTB_of 357 (by decide +kernel) (by decide +kernel), inTB_of 358 (by decide +kernel) (by decide +kernel), inTB_of 36 (by decide +kernel) (by decide +kernel), inTB_of 359 (by decide +kernel) (by decide +kernel), (by decide +kernel), (by decide +kernel)⟩
set_option maxRecDepth 20000 in
theorem mi_X5_judgedAsBucket : MIs yX5_judgedAsBucket cX5_judgedAsBucket 1 (some .int) 1 := ⟨inTB_of 361 (by decide +kernel) (by decide +kernel), inTB_of 36 (by decide +kernel) (by decide +kernel), inTB_of 362 (by decide +kernel) (by decide +kernel), (by decide +kernel), (by decide +kernel)⟩
set_option maxRecDepth 20000 in
theorem mi_X5_judgedAsThermostatic : MIs yX5_judgedAsThermostatic cX5_judgedAsThermostatic 2 (some .int) 2 := ⟨inTB_of 364 (by decide +kernel) (by decide +kernel), inTB_of 36 (by decide +kernel) (by decide +kernel), inTB_of 365 (by decide +kernel) (by decide +kernel), (by decide +kernel), (by decide +kernel)⟩
set_option maxRecDepth 20000 in
theorem mi_X5_judgedAsDisc : MIs yX5_judgedAsDisc cX5_judgedAsDisc 3 (some .int) 3 := ⟨inTB_of 367 (by decide +kernel) (by decide +kernel), inTB_of 36 (by decide +kernel) (by decide +kernel), inTB_of 368 (by decide +kernel) (by decide +kernel), (by decide +kernel), (by decide +kernel)⟩
set_option maxRecDepth 20000 in
theorem mi_X1_takeReading : MIv yX1_takeReading RX1 cX1_takeReading 6 none 4 := ⟨inTB_of 370 (by decide +kernel) (by decide +kernel), inTB_of 371 (by decide +kernel) (by decide +kernel), inTB_of 34 (by decide +kernel) (by decide +kernel), inTB_of 372 (by decide +kernel) (by decide +kernel), (by decide +kernel), (by decide +kernel)⟩
set_option maxRecDepth 20000 in
theorem mi_X6_pass : MIv yX6_pass RX6 cX6_pass 2 (some .int) 1 := ⟨inTB_of 378 (by decide +kernel) (by decide +kernel), inTB_of 379 (by decide +kernel) (by decide +kernel), inTB_of 33 (by decide +kernel) (by decide +kernel), inTB_of 380 (by decide +kernel) (by decide +kernel), (by decide +kernel), (by decide +kernel)⟩
set_option maxRecDepth 20000 in
theorem mi_X1_letPass : MIv yX1_letPass RX1 cX1_letPass 3 none 1 := ⟨inTB_of 382 (by decide +kernel) (by decide +kernel), inTB_of 383 (by decide +kernel) (by decide +kernel), inTB_of 34 (by decide +kernel) (by decide +kernel), inTB_of 384 (by decide +kernel) (by decide +kernel), (by decide +kernel), (by decide +kernel)⟩
set_option maxRecDepth 20000 in
theorem mi_X1_lossOf : MIv yX1_lossOf RX1 cX1_lossOf 2 (some .int) 1 := ⟨inTB_of 386 (by decide +kernel) (by decide +kernel), inTB_of 387 (by decide +kernel) (by decide +kernel), inTB_of 34 (by decide +kernel) (by decide +kernel), inTB_of 388 (by decide +kernel) (by decide +kernel), (by decide +kernel), (by decide +kernel)⟩
set_option maxRecDepth 20000 in
theorem mi_X5_lossUnder : MIv yX5_lossUnder RX5 cX5_lossUnder 3 (some .int) 1 := ⟨inTB_of 390 (by decide +kernel) (by decide +kernel), inTB_of 391 (by decide +kernel) (by decide +kernel), inTB_of 36 (by decide +kernel) (by decide +kernel), inTB_of 392 (by decide +kernel) (by decide +kernel), (by decide +kernel), (by decide +kernel)⟩
set_option maxRecDepth 20000 in
theorem mi_X6_inState : MIv yX6_inState RX6 cX6_inState 2 (some .int) 1 := ⟨inTB_of 394 (by decide +kernel) (by decide +kernel), inTB_of 395 (by decide +kernel) (by decide +kernel), inTB_of 33 (by decide +kernel) (by decide +kernel), inTB_of 396 (by decide +kernel) (by decide +kernel), (by decide +kernel), (by decide +kernel)⟩
set_option maxRecDepth 20000 in
theorem mi_X1_trapsInState : MIv yX1_trapsInState RX1 cX1_trapsInState 4 (some .int) 1 := ⟨inTB_of 398 (by decide +kernel) (by decide +kernel), inTB_of 399 (by decide +kernel) (by decide +kernel), inTB_of 34 (by decide +kernel) (by decide +kernel), inTB_of 400 (by decide +kernel) (by decide +kernel), (by decide +kernel), (by decide +kernel)⟩
set_option maxRecDepth 20000 in
theorem mi_X6_loss : MIv yX6_loss RX6 cX6_loss 3 (some .int) 1 := ⟨inTB_of 402 (by decide +kernel) (by decide +kernel), inTB_of 403 (by decide +kernel) (by decide +kernel), inTB_of 33 (by decide +kernel) (by decide +kernel), inTB_of 404 (by decide +kernel) (by decide +kernel), (by decide +kernel), (by decide +kernel)⟩
set_option maxRecDepth 20000 in
theorem mi_X6_lineLoss : MIv yX6_lineLoss RX6 cX6_lineLoss 2 (some .int) 1 := ⟨inTB_of 407 (by decide +kernel) (by decide +kernel), inTB_of 408 (by decide +kernel) (by decide +kernel), inTB_of 33 (by decide +kernel) (by decide +kernel), inTB_of 409 (by decide +kernel) (by decide +kernel), (by decide +kernel), (by decide +kernel)⟩
set_option maxRecDepth 20000 in
theorem mi_X1_lossOfLine : MIv yX1_lossOfLine RX1 cX1_lossOfLine 4 (some .int) 1 := ⟨inTB_of 411 (by decide +kernel) (by decide +kernel), inTB_of 412 (by decide +kernel) (by decide +kernel), inTB_of 34 (by decide +kernel) (by decide +kernel), inTB_of 413 (by decide +kernel) (by decide +kernel), (by decide +kernel), (by decide +kernel)⟩
set_option maxRecDepth 20000 in
theorem mi_X6_headerLoss : MIv yX6_headerLoss RX6 cX6_headerLoss 2 (some .int) 1 := ⟨inTB_of 415 (by decide +kernel) (by decide +kernel), inTB_of 416 (by decide +kernel) (by decide +kernel), inTB_of 33 (by decide +kernel) (by decide +kernel), inTB_of 417 (by decide +kernel) (by decide +kernel), (by decide +kernel), (by decide +kernel)⟩
set_option maxRecDepth 20000 in
theorem mi_X1_lossOfHeader : MIv yX1_lossOfHeader RX1 cX1_lossOfHeader 4 (some .int) 1 := ⟨inTB_of 419 (by decide +kernel) (by decide +kernel), inTB_of 420 (by decide +kernel) (by decide +kernel), inTB_of 34 (by decide +kernel) (by decide +kernel), inTB_of 421 (by decide +kernel) (by decide +kernel), (by decide +kernel), (by decide +kernel)⟩
set_option maxRecDepth 20000 in
theorem mi_X6_lost : MIv yX6_lost RX6 cX6_lost 3 (some .long) 1 := ⟨inTB_of 423 (by decide +kernel) (by decide +kernel), inTB_of 424 (by decide +kernel) (by decide +kernel), inTB_of 33 (by decide +kernel) (by decide +kernel), inTB_of 425 (by decide +kernel) (by decide +kernel), (by decide +kernel), (by decide +kernel)⟩
set_option maxRecDepth 20000 in
theorem mi_X1_lostByAll : MIv yX1_lostByAll RX1 cX1_lostByAll 4 (some .long) 0 := ⟨inTB_of 427 (by decide +kernel) (by decide +kernel), inTB_of 428 (by decide +kernel) (by decide +kernel), inTB_of 34 (by decide +kernel) (by decide +kernel), inTB_of 429 (by decide +kernel) (by decide +kernel), (by decide +kernel), (by decide +kernel)⟩
set_option maxRecDepth 20000 in
theorem mi_X6_saves : MIv yX6_saves RX6 cX6_saves 3 (some .long) 1 := ⟨inTB_of 432 (by decide +kernel) (by decide +kernel), inTB_of 433 (by decide +kernel) (by decide +kernel), inTB_of 33 (by decide +kernel) (by decide +kernel), inTB_of 434 (by decide +kernel) (by decide +kernel), (by decide +kernel), (by decide +kernel)⟩
set_option maxRecDepth 20000 in
theorem mi_X1_priceADay : MIv yX1_priceADay RX1 cX1_priceADay 2 (some .long) 1 := ⟨inTB_of 436 (by decide +kernel) (by decide +kernel), inTB_of 437 (by decide +kernel) (by decide +kernel), inTB_of 34 (by decide +kernel) (by decide +kernel), inTB_of 438 (by decide +kernel) (by decide +kernel), (by decide +kernel), (by decide +kernel)⟩
set_option maxRecDepth 20000 in
theorem mi_X6_repairCost : MIv yX6_repairCost RX6 cX6_repairCost 3 (some .int) 1 := ⟨inTB_of 441 (by decide +kernel) (by decide +kernel), inTB_of 442 (by decide +kernel) (by decide +kernel), inTB_of 33 (by decide +kernel) (by decide +kernel), inTB_of 443 (by decide +kernel) (by decide +kernel), (by decide +kernel), (by decide +kernel)⟩
set_option maxRecDepth 20000 in
theorem mi_X5_costOfRepair : MIv yX5_costOfRepair RX5 cX5_costOfRepair 1 (some .int) 0 := ⟨inTB_of 445 (by decide +kernel) (by decide +kernel), inTB_of 446 (by decide +kernel) (by decide +kernel), inTB_of 36 (by decide +kernel) (by decide +kernel), inTB_of 447 (by decide +kernel) (by decide +kernel), (by decide +kernel), (by decide +kernel)⟩
set_option maxRecDepth 20000 in
theorem mi_X6_payback : MIv yX6_payback RX6 cX6_payback 3 (some .long) 1 := ⟨inTB_of 449 (by decide +kernel) (by decide +kernel), inTB_of 450 (by decide +kernel) (by decide +kernel), inTB_of 33 (by decide +kernel) (by decide +kernel), inTB_of 451 (by decide +kernel) (by decide +kernel), (by decide +kernel), (by decide +kernel)⟩
set_option maxRecDepth 20000 in
theorem mi_X1_paybackOf : MIv yX1_paybackOf RX1 cX1_paybackOf 4 (some .long) 1 := ⟨inTB_of 453 (by decide +kernel) (by decide +kernel), inTB_of 454 (by decide +kernel) (by decide +kernel), inTB_of 34 (by decide +kernel) (by decide +kernel), inTB_of 455 (by decide +kernel) (by decide +kernel), (by decide +kernel), (by decide +kernel)⟩
set_option maxRecDepth 20000 in
theorem mi_X6_order : MIv yX6_order RX6 cX6_order 2 (some .int) 1 := ⟨inTB_of 461 (by decide +kernel) (by decide +kernel), inTB_of 462 (by decide +kernel) (by decide +kernel), inTB_of 33 (by decide +kernel) (by decide +kernel), inTB_of 463 (by decide +kernel) (by decide +kernel), (by decide +kernel), (by decide +kernel)⟩
set_option maxRecDepth 20000 in
theorem mi_X3_rankTraps : MIv yX3_rankTraps RX3 cX3_rankTraps 3 none 1 := ⟨inTB_of 465 (by decide +kernel) (by decide +kernel), inTB_of 466 (by decide +kernel) (by decide +kernel), inTB_of 38 (by decide +kernel) (by decide +kernel), inTB_of 467 (by decide +kernel) (by decide +kernel), (by decide +kernel), (by decide +kernel)⟩
set_option maxRecDepth 20000 in
theorem mi_X3_insert : MIv yX3_insert RX3 cX3_insert 3 none 1 := ⟨inTB_of 472 (by decide +kernel) (by decide +kernel), inTB_of 1 (by decide +kernel) (by decide +kernel), inTB_of 38 (by decide +kernel) (by decide +kernel), inTB_of 473 (by decide +kernel) (by decide +kernel), (by decide +kernel), (by decide +kernel)⟩
set_option maxRecDepth 20000 in
theorem mi_X3_isBetter : MIv yX3_isBetter RX3 cX3_isBetter 3 (some .boolean) 2 := ⟨inTB_of 476 (by decide +kernel) (by decide +kernel), inTB_of 2 (by decide +kernel) (by decide +kernel), inTB_of 38 (by decide +kernel) (by decide +kernel), inTB_of 477 (by decide +kernel) (by decide +kernel), (by decide +kernel), (by decide +kernel)⟩
set_option maxRecDepth 20000 in
theorem mi_X3_trapAtRank : MIv yX3_trapAtRank RX3 cX3_trapAtRank 2 (some .int) 1 := ⟨inTB_of 479 (by decide +kernel) (by decide +kernel), inTB_of 480 (by decide +kernel) (by decide +kernel), inTB_of 38 (by decide +kernel) (by decide +kernel), inTB_of 481 (by decide +kernel) (by decide +kernel), (by decide +kernel), (by decide +kernel)⟩
set_option maxRecDepth 20000 in
theorem mi_X6_repair : MIv yX6_repair RX6 cX6_repair 3 (some .int) 1 := ⟨inTB_of 483 (by decide +kernel) (by decide +kernel), inTB_of 484 (by decide +kernel) (by decide +kernel), inTB_of 33 (by decide +kernel) (by decide +kernel), inTB_of 485 (by decide +kernel) (by decide +kernel), (by decide +kernel), (by decide +kernel)⟩
set_option maxRecDepth 20000 in
theorem mi_X1_mend : MIv yX1_mend RX1 cX1_mend 2 none 1 := ⟨inTB_of 487 (by decide +kernel) (by decide +kernel), inTB_of 488 (by decide +kernel) (by decide +kernel), inTB_of 34 (by decide +kernel) (by decide +kernel), inTB_of 489 (by decide +kernel) (by decide +kernel), (by decide +kernel), (by decide +kernel)⟩
set_option maxRecDepth 20000 in
theorem mi_X6_repairAll : MIv yX6_repairAll RX6 cX6_repairAll 6 (some .int) 1 := ⟨inTB_of 491 (by decide +kernel) (by decide +kernel), inTB_of 492 (by decide +kernel) (by decide +kernel), inTB_of 33 (by decide +kernel) (by decide +kernel), inTB_of 493 (by decide +kernel) (by decide +kernel), (by decide +kernel), (by decide +kernel)⟩
set_option maxRecDepth 20000 in
theorem mi_X6_isDue : MIv yX6_isDue RX6 cX6_isDue 3 (some .int) 1 := ⟨inTB_of 495 (by decide +kernel) (by decide +kernel), inTB_of 496 (by decide +kernel) (by decide +kernel), inTB_of 33 (by decide +kernel) (by decide +kernel), inTB_of 497 (by decide +kernel) (by decide +kernel), (by decide +kernel), (by decide +kernel)⟩
set_option maxRecDepth 20000 in
theorem mi_X1_needsVisit : MIv yX1_needsVisit RX1 cX1_needsVisit 2 (some .boolean) 1 := ⟨inTB_of 499 (by decide +kernel) (by decide +kernel), inTB_of 500 (by decide +kernel) (by decide +kernel), inTB_of 34 (by decide +kernel) (by decide +kernel), inTB_of 501 (by decide +kernel) (by decide +kernel), (by decide +kernel), (by decide +kernel)⟩
set_option maxRecDepth 20000 in
theorem mi_X6_round : MIv yX6_round RX6 cX6_round 2 (some .int) 1 := ⟨inTB_of 503 (by decide +kernel) (by decide +kernel), inTB_of 504 (by decide +kernel) (by decide +kernel), inTB_of 33 (by decide +kernel) (by decide +kernel), inTB_of 505 (by decide +kernel) (by decide +kernel), (by decide +kernel), (by decide +kernel)⟩
set_option maxRecDepth 20000 in
theorem mi_X4_plan : MIv yX4_plan RX4 cX4_plan 7 none 1 := ⟨inTB_of 507 (by decide +kernel) (by decide +kernel), inTB_of 508 (by decide +kernel) (by decide +kernel), inTB_of 39 (by decide +kernel) (by decide +kernel), inTB_of 509 (by decide +kernel) (by decide +kernel), (by decide +kernel), (by decide +kernel)⟩
set_option maxRecDepth 20000 in
theorem mi_X4_nearestWaiting : MIv yX4_nearestWaiting RX4 cX4_nearestWaiting 7 (some .int) 3 := ⟨inTB_of 513 (by decide +kernel) (by decide +kernel), inTB_of 3 (by decide +kernel) (by decide +kernel), inTB_of 39 (by decide +kernel) (by decide +kernel), inTB_of 514 (by decide +kernel) (by decide +kernel), (by decide +kernel), (by decide +kernel)⟩
set_option maxRecDepth 20000 in
theorem mi_X5_wayFrom : MIv yX5_wayFrom RX5 cX5_wayFrom 3 (some .int) 2 := ⟨inTB_of 517 (by decide +kernel) (by decide +kernel), inTB_of 518 (by decide +kernel) (by decide +kernel), inTB_of 36 (by decide +kernel) (by decide +kernel), inTB_of 519 (by decide +kernel) (by decide +kernel), (by decide +kernel), (by decide +kernel)⟩
set_option maxRecDepth 20000 in
theorem mi_J9_abs_0f7a4 : MIs yJ9_abs_0f7a4 cJ9_abs_0f7a4 1 (some .int) 1 := ⟨inTB_of 521 (by decide +kernel) (by decide +kernel), inTB_of 43 (by decide +kernel) (by decide +kernel), inTB_of 522 (by decide +kernel) (by decide +kernel), (by decide +kernel), (by decide +kernel)⟩
set_option maxRecDepth 20000 in
theorem mi_X4_stopAt : MIv yX4_stopAt RX4 cX4_stopAt 2 (some .int) 1 := ⟨inTB_of 525 (by decide +kernel) (by decide +kernel), inTB_of 526 (by decide +kernel) (by decide +kernel), inTB_of 39 (by decide +kernel) (by decide +kernel), inTB_of 527 (by decide +kernel) (by decide +kernel), (by decide +kernel), (by decide +kernel)⟩
set_option maxRecDepth 20000 in
theorem mi_X6_roundLength : MIv yX6_roundLength RX6 cX6_roundLength 1 (some .int) 0 := ⟨inTB_of 529 (by decide +kernel) (by decide +kernel), inTB_of 530 (by decide +kernel) (by decide +kernel), inTB_of 33 (by decide +kernel) (by decide +kernel), inTB_of 531 (by decide +kernel) (by decide +kernel), (by decide +kernel), (by decide +kernel)⟩
set_option maxRecDepth 20000 in
theorem mi_X6_dueOn : MIv yX6_dueOn RX6 cX6_dueOn 3 (some .int) 1 := ⟨inTB_of 533 (by decide +kernel) (by decide +kernel), inTB_of 534 (by decide +kernel) (by decide +kernel), inTB_of 33 (by decide +kernel) (by decide +kernel), inTB_of 535 (by decide +kernel) (by decide +kernel), (by decide +kernel), (by decide +kernel)⟩
set_option maxRecDepth 20000 in
theorem mi_X6_undo : MIv yX6_undo RX6 cX6_undo 1 (some .int) 0 := ⟨inTB_of 537 (by decide +kernel) (by decide +kernel), inTB_of 538 (by decide +kernel) (by decide +kernel), inTB_of 33 (by decide +kernel) (by decide +kernel), inTB_of 539 (by decide +kernel) (by decide +kernel), (by decide +kernel), (by decide +kernel)⟩
set_option maxRecDepth 20000 in
theorem mi_X0_takeBack : MIv yX0_takeBack RX0 cX0_takeBack 2 (some .boolean) 1 := ⟨inTB_of 541 (by decide +kernel) (by decide +kernel), inTB_of 542 (by decide +kernel) (by decide +kernel), inTB_of 37 (by decide +kernel) (by decide +kernel), inTB_of 543 (by decide +kernel) (by decide +kernel), (by decide +kernel), (by decide +kernel)⟩
set_option maxRecDepth 20000 in
theorem mi_X6_type : MIv yX6_type RX6 cX6_type 2 (some .int) 1 := ⟨inTB_of 545 (by decide +kernel) (by decide +kernel), inTB_of 546 (by decide +kernel) (by decide +kernel), inTB_of 33 (by decide +kernel) (by decide +kernel), inTB_of 547 (by decide +kernel) (by decide +kernel), (by decide +kernel), (by decide +kernel)⟩
set_option maxRecDepth 20000 in
theorem mi_X2_append : MIv yX2_append RX2 cX2_append 2 (some .boolean) 1 := ⟨inTB_of 549 (by decide +kernel) (by decide +kernel), inTB_of 550 (by decide +kernel) (by decide +kernel), inTB_of 40 (by decide +kernel) (by decide +kernel), inTB_of 551 (by decide +kernel) (by decide +kernel), (by decide +kernel), (by decide +kernel)⟩
set_option maxRecDepth 20000 in
theorem mi_X6_clearText : MIv yX6_clearText RX6 cX6_clearText 2 (some .int) 0 := ⟨inTB_of 553 (by decide +kernel) (by decide +kernel), inTB_of 554 (by decide +kernel) (by decide +kernel), inTB_of 33 (by decide +kernel) (by decide +kernel), inTB_of 555 (by decide +kernel) (by decide +kernel), (by decide +kernel), (by decide +kernel)⟩
set_option maxRecDepth 20000 in
theorem mi_X6_textFault : MIv yX6_textFault RX6 cX6_textFault 1 (some .int) 0 := ⟨inTB_of 557 (by decide +kernel) (by decide +kernel), inTB_of 558 (by decide +kernel) (by decide +kernel), inTB_of 33 (by decide +kernel) (by decide +kernel), inTB_of 559 (by decide +kernel) (by decide +kernel), (by decide +kernel), (by decide +kernel)⟩
set_option maxRecDepth 20000 in
theorem mi_X2_faultFor : MIv yX2_faultFor RX2 cX2_faultFor 2 (some .int) 1 := ⟨inTB_of 561 (by decide +kernel) (by decide +kernel), inTB_of 562 (by decide +kernel) (by decide +kernel), inTB_of 40 (by decide +kernel) (by decide +kernel), inTB_of 563 (by decide +kernel) (by decide +kernel), (by decide +kernel), (by decide +kernel)⟩
set_option maxRecDepth 20000 in
theorem mi_X2_scanList : MIv yX2_scanList RX2 cX2_scanList 3 (some .boolean) 1 := ⟨inTB_of 566 (by decide +kernel) (by decide +kernel), inTB_of 4 (by decide +kernel) (by decide +kernel), inTB_of 40 (by decide +kernel) (by decide +kernel), inTB_of 567 (by decide +kernel) (by decide +kernel), (by decide +kernel), (by decide +kernel)⟩
set_option maxRecDepth 20000 in
theorem mi_X2_scanReading : MIv yX2_scanReading RX2 cX2_scanReading 3 (some .boolean) 2 := ⟨inTB_of 570 (by decide +kernel) (by decide +kernel), inTB_of 5 (by decide +kernel) (by decide +kernel), inTB_of 40 (by decide +kernel) (by decide +kernel), inTB_of 571 (by decide +kernel) (by decide +kernel), (by decide +kernel), (by decide +kernel)⟩
set_option maxRecDepth 20000 in
theorem mi_X2_scanNumber : MIv yX2_scanNumber RX2 cX2_scanNumber 7 (some .boolean) 3 := ⟨inTB_of 574 (by decide +kernel) (by decide +kernel), inTB_of 6 (by decide +kernel) (by decide +kernel), inTB_of 40 (by decide +kernel) (by decide +kernel), inTB_of 575 (by decide +kernel) (by decide +kernel), (by decide +kernel), (by decide +kernel)⟩
set_option maxRecDepth 20000 in
theorem mi_X2_skipBlanks : MIv yX2_skipBlanks RX2 cX2_skipBlanks 1 none 0 := ⟨inTB_of 578 (by decide +kernel) (by decide +kernel), inTB_of 7 (by decide +kernel) (by decide +kernel), inTB_of 40 (by decide +kernel) (by decide +kernel), inTB_of 579 (by decide +kernel) (by decide +kernel), (by decide +kernel), (by decide +kernel)⟩
set_option maxRecDepth 20000 in
theorem mi_X2_isDigit : MIs yX2_isDigit cX2_isDigit 1 (some .boolean) 1 := ⟨inTB_of 581 (by decide +kernel) (by decide +kernel), inTB_of 40 (by decide +kernel) (by decide +kernel), inTB_of 582 (by decide +kernel) (by decide +kernel), (by decide +kernel), (by decide +kernel)⟩
set_option maxRecDepth 20000 in
theorem mi_X2_scanSign : MIv yX2_scanSign RX2 cX2_scanSign 2 (some .boolean) 1 := ⟨inTB_of 586 (by decide +kernel) (by decide +kernel), inTB_of 8 (by decide +kernel) (by decide +kernel), inTB_of 40 (by decide +kernel) (by decide +kernel), inTB_of 587 (by decide +kernel) (by decide +kernel), (by decide +kernel), (by decide +kernel)⟩
set_option maxRecDepth 20000 in
theorem mi_X6_readAll : MIv yX6_readAll RX6 cX6_readAll 3 (some .int) 0 := ⟨inTB_of 589 (by decide +kernel) (by decide +kernel), inTB_of 590 (by decide +kernel) (by decide +kernel), inTB_of 33 (by decide +kernel) (by decide +kernel), inTB_of 591 (by decide +kernel) (by decide +kernel), (by decide +kernel), (by decide +kernel)⟩
set_option maxRecDepth 20000 in
theorem mi_X6_digest : MIv yX6_digest RX6 cX6_digest 5 (some .long) 0 := ⟨inTB_of 593 (by decide +kernel) (by decide +kernel), inTB_of 594 (by decide +kernel) (by decide +kernel), inTB_of 33 (by decide +kernel) (by decide +kernel), inTB_of 595 (by decide +kernel) (by decide +kernel), (by decide +kernel), (by decide +kernel)⟩
set_option maxRecDepth 20000 in
theorem mi_X7_init : MIi yX7_init cX7_init 2 0 := ⟨inTB_of 606 (by decide +kernel) (by decide +kernel), inTB_of 41 (by decide +kernel) (by decide +kernel), inTB_of 607 (by decide +kernel) (by decide +kernel), (by decide +kernel), (by decide +kernel), rfl⟩
set_option maxRecDepth 20000 in
theorem mi_X7_setPressure : MIv yX7_setPressure RX7 cX7_setPressure 4 (some .int) 2 := ⟨inTB_of 650 (by decide +kernel) (by decide +kernel), inTB_of 651 (by decide +kernel) (by decide +kernel), inTB_of 41 (by decide +kernel) (by decide +kernel), inTB_of 652 (by decide +kernel) (by decide +kernel), (by decide +kernel), (by decide +kernel)⟩
set_option maxRecDepth 20000 in
theorem mi_X7_isHeader : MIs yX7_isHeader cX7_isHeader 1 (some .boolean) 1 := ⟨inTB_of 654 (by decide +kernel) (by decide +kernel), inTB_of 41 (by decide +kernel) (by decide +kernel), inTB_of 655 (by decide +kernel) (by decide +kernel), (by decide +kernel), (by decide +kernel)⟩
set_option maxRecDepth 20000 in
theorem mi_X7_in : MIs yX7_in cX7_in 3 (some .boolean) 3 := ⟨inTB_of 657 (by decide +kernel) (by decide +kernel), inTB_of 41 (by decide +kernel) (by decide +kernel), inTB_of 658 (by decide +kernel) (by decide +kernel), (by decide +kernel), (by decide +kernel)⟩
set_option maxRecDepth 20000 in
theorem mi_X7_keeps : MIv yX7_keeps RX7 cX7_keeps 2 none 0 := ⟨inTB_of 661 (by decide +kernel) (by decide +kernel), inTB_of 9 (by decide +kernel) (by decide +kernel), inTB_of 41 (by decide +kernel) (by decide +kernel), inTB_of 662 (by decide +kernel) (by decide +kernel), (by decide +kernel), (by decide +kernel)⟩
set_option maxRecDepth 20000 in
theorem mi_X7_copies : MIv yX7_copies RX7 cX7_copies 4 none 2 := ⟨inTB_of 665 (by decide +kernel) (by decide +kernel), inTB_of 10 (by decide +kernel) (by decide +kernel), inTB_of 41 (by decide +kernel) (by decide +kernel), inTB_of 666 (by decide +kernel) (by decide +kernel), (by decide +kernel), (by decide +kernel)⟩
set_option maxRecDepth 20000 in
theorem mi_X7_addLine : MIv yX7_addLine RX7 cX7_addLine 2 (some .int) 1 := ⟨inTB_of 668 (by decide +kernel) (by decide +kernel), inTB_of 669 (by decide +kernel) (by decide +kernel), inTB_of 41 (by decide +kernel) (by decide +kernel), inTB_of 670 (by decide +kernel) (by decide +kernel), (by decide +kernel), (by decide +kernel)⟩
set_option maxRecDepth 20000 in
theorem mi_X7_addTrap : MIv yX7_addTrap RX7 cX7_addTrap 7 (some .int) 5 := ⟨inTB_of 672 (by decide +kernel) (by decide +kernel), inTB_of 673 (by decide +kernel) (by decide +kernel), inTB_of 41 (by decide +kernel) (by decide +kernel), inTB_of 674 (by decide +kernel) (by decide +kernel), (by decide +kernel), (by decide +kernel)⟩
set_option maxRecDepth 20000 in
theorem mi_X7_isLine : MIv yX7_isLine RX7 cX7_isLine 2 (some .boolean) 1 := ⟨inTB_of 677 (by decide +kernel) (by decide +kernel), inTB_of 11 (by decide +kernel) (by decide +kernel), inTB_of 41 (by decide +kernel) (by decide +kernel), inTB_of 678 (by decide +kernel) (by decide +kernel), (by decide +kernel), (by decide +kernel)⟩
set_option maxRecDepth 20000 in
theorem mi_X7_moveLine : MIv yX7_moveLine RX7 cX7_moveLine 4 (some .int) 2 := ⟨inTB_of 680 (by decide +kernel) (by decide +kernel), inTB_of 681 (by decide +kernel) (by decide +kernel), inTB_of 41 (by decide +kernel) (by decide +kernel), inTB_of 682 (by decide +kernel) (by decide +kernel), (by decide +kernel), (by decide +kernel)⟩
set_option maxRecDepth 20000 in
theorem mi_X7_setWork : MIv yX7_setWork RX7 cX7_setWork 5 (some .int) 3 := ⟨inTB_of 684 (by decide +kernel) (by decide +kernel), inTB_of 685 (by decide +kernel) (by decide +kernel), inTB_of 41 (by decide +kernel) (by decide +kernel), inTB_of 686 (by decide +kernel) (by decide +kernel), (by decide +kernel), (by decide +kernel)⟩
set_option maxRecDepth 20000 in
theorem mi_X7_count : MIv yX7_count RX7 cX7_count 2 (some .int) 1 := ⟨inTB_of 688 (by decide +kernel) (by decide +kernel), inTB_of 689 (by decide +kernel) (by decide +kernel), inTB_of 41 (by decide +kernel) (by decide +kernel), inTB_of 690 (by decide +kernel) (by decide +kernel), (by decide +kernel), (by decide +kernel)⟩
set_option maxRecDepth 20000 in
theorem mi_X7_trap : MIv yX7_trap RX7 cX7_trap 3 (some .int) 2 := ⟨inTB_of 692 (by decide +kernel) (by decide +kernel), inTB_of 693 (by decide +kernel) (by decide +kernel), inTB_of 41 (by decide +kernel) (by decide +kernel), inTB_of 694 (by decide +kernel) (by decide +kernel), (by decide +kernel), (by decide +kernel)⟩
set_option maxRecDepth 20000 in
theorem mi_X7_isTrap : MIv yX7_isTrap RX7 cX7_isTrap 2 (some .boolean) 1 := ⟨inTB_of 697 (by decide +kernel) (by decide +kernel), inTB_of 12 (by decide +kernel) (by decide +kernel), inTB_of 41 (by decide +kernel) (by decide +kernel), inTB_of 698 (by decide +kernel) (by decide +kernel), (by decide +kernel), (by decide +kernel)⟩
set_option maxRecDepth 20000 in
theorem mi_X7_header : MIv yX7_header RX7 cX7_header 2 (some .int) 1 := ⟨inTB_of 701 (by decide +kernel) (by decide +kernel), inTB_of 13 (by decide +kernel) (by decide +kernel), inTB_of 41 (by decide +kernel) (by decide +kernel), inTB_of 702 (by decide +kernel) (by decide +kernel), (by decide +kernel), (by decide +kernel)⟩
set_option maxRecDepth 20000 in
theorem mi_X7_of : MIv yX7_of RX7 cX7_of 3 (some .int) 2 := ⟨inTB_of 705 (by decide +kernel) (by decide +kernel), inTB_of 14 (by decide +kernel) (by decide +kernel), inTB_of 41 (by decide +kernel) (by decide +kernel), inTB_of 706 (by decide +kernel) (by decide +kernel), (by decide +kernel), (by decide +kernel)⟩
set_option maxRecDepth 20000 in
theorem mi_X7_headerOf : MIv yX7_headerOf RX7 cX7_headerOf 2 (some .int) 1 := ⟨inTB_of 708 (by decide +kernel) (by decide +kernel), inTB_of 709 (by decide +kernel) (by decide +kernel), inTB_of 41 (by decide +kernel) (by decide +kernel), inTB_of 710 (by decide +kernel) (by decide +kernel), (by decide +kernel), (by decide +kernel)⟩
set_option maxRecDepth 20000 in
theorem mi_X7_pressure : MIv yX7_pressure RX7 cX7_pressure 2 (some .int) 1 := ⟨inTB_of 712 (by decide +kernel) (by decide +kernel), inTB_of 713 (by decide +kernel) (by decide +kernel), inTB_of 41 (by decide +kernel) (by decide +kernel), inTB_of 714 (by decide +kernel) (by decide +kernel), (by decide +kernel), (by decide +kernel)⟩
set_option maxRecDepth 20000 in
theorem mi_X7_read : MIv yX7_read RX7 cX7_read 5 (some .int) 4 := ⟨inTB_of 716 (by decide +kernel) (by decide +kernel), inTB_of 717 (by decide +kernel) (by decide +kernel), inTB_of 41 (by decide +kernel) (by decide +kernel), inTB_of 718 (by decide +kernel) (by decide +kernel), (by decide +kernel), (by decide +kernel)⟩
set_option maxRecDepth 20000 in
theorem mi_X7_isReading : MIs yX7_isReading cX7_isReading 3 (some .boolean) 3 := ⟨inTB_of 720 (by decide +kernel) (by decide +kernel), inTB_of 41 (by decide +kernel) (by decide +kernel), inTB_of 721 (by decide +kernel) (by decide +kernel), (by decide +kernel), (by decide +kernel)⟩
set_option maxRecDepth 20000 in
theorem mi_X7_reads : MIv yX7_reads RX7 cX7_reads 5 none 4 := ⟨inTB_of 724 (by decide +kernel) (by decide +kernel), inTB_of 15 (by decide +kernel) (by decide +kernel), inTB_of 41 (by decide +kernel) (by decide +kernel), inTB_of 725 (by decide +kernel) (by decide +kernel), (by decide +kernel), (by decide +kernel)⟩
set_option maxRecDepth 20000 in
theorem mi_X7_judges : MIv yX7_judges RX7 cX7_judges 10 (some .int) 4 := ⟨inTB_of 728 (by decide +kernel) (by decide +kernel), inTB_of 16 (by decide +kernel) (by decide +kernel), inTB_of 41 (by decide +kernel) (by decide +kernel), inTB_of 729 (by decide +kernel) (by decide +kernel), (by decide +kernel), (by decide +kernel)⟩
set_option maxRecDepth 20000 in
theorem mi_X7_judge : MIv yX7_judge RX7 cX7_judge 5 (some .int) 4 := ⟨inTB_of 731 (by decide +kernel) (by decide +kernel), inTB_of 732 (by decide +kernel) (by decide +kernel), inTB_of 41 (by decide +kernel) (by decide +kernel), inTB_of 733 (by decide +kernel) (by decide +kernel), (by decide +kernel), (by decide +kernel)⟩
set_option maxRecDepth 20000 in
theorem mi_X7_pass : MIv yX7_pass RX7 cX7_pass 3 (some .int) 1 := ⟨inTB_of 735 (by decide +kernel) (by decide +kernel), inTB_of 736 (by decide +kernel) (by decide +kernel), inTB_of 41 (by decide +kernel) (by decide +kernel), inTB_of 737 (by decide +kernel) (by decide +kernel), (by decide +kernel), (by decide +kernel)⟩
set_option maxRecDepth 20000 in
theorem mi_X7_lossOf : MIv yX7_lossOf RX7 cX7_lossOf 3 (some .int) 1 := ⟨inTB_of 740 (by decide +kernel) (by decide +kernel), inTB_of 17 (by decide +kernel) (by decide +kernel), inTB_of 41 (by decide +kernel) (by decide +kernel), inTB_of 741 (by decide +kernel) (by decide +kernel), (by decide +kernel), (by decide +kernel)⟩
set_option maxRecDepth 20000 in
theorem mi_X7_inState : MIv yX7_inState RX7 cX7_inState 4 (some .int) 1 := ⟨inTB_of 743 (by decide +kernel) (by decide +kernel), inTB_of 744 (by decide +kernel) (by decide +kernel), inTB_of 41 (by decide +kernel) (by decide +kernel), inTB_of 745 (by decide +kernel) (by decide +kernel), (by decide +kernel), (by decide +kernel)⟩
set_option maxRecDepth 20000 in
theorem mi_X7_loss : MIv yX7_loss RX7 cX7_loss 2 (some .int) 1 := ⟨inTB_of 747 (by decide +kernel) (by decide +kernel), inTB_of 748 (by decide +kernel) (by decide +kernel), inTB_of 41 (by decide +kernel) (by decide +kernel), inTB_of 749 (by decide +kernel) (by decide +kernel), (by decide +kernel), (by decide +kernel)⟩
set_option maxRecDepth 20000 in
theorem mi_X7_lineLoss : MIv yX7_lineLoss RX7 cX7_lineLoss 4 (some .int) 1 := ⟨inTB_of 751 (by decide +kernel) (by decide +kernel), inTB_of 752 (by decide +kernel) (by decide +kernel), inTB_of 41 (by decide +kernel) (by decide +kernel), inTB_of 753 (by decide +kernel) (by decide +kernel), (by decide +kernel), (by decide +kernel)⟩
set_option maxRecDepth 20000 in
theorem mi_X7_headerLoss : MIv yX7_headerLoss RX7 cX7_headerLoss 4 (some .int) 1 := ⟨inTB_of 755 (by decide +kernel) (by decide +kernel), inTB_of 756 (by decide +kernel) (by decide +kernel), inTB_of 41 (by decide +kernel) (by decide +kernel), inTB_of 757 (by decide +kernel) (by decide +kernel), (by decide +kernel), (by decide +kernel)⟩
set_option maxRecDepth 20000 in
theorem mi_X7_lost : MIv yX7_lost RX7 cX7_lost 5 (some .long) 1 := ⟨inTB_of 759 (by decide +kernel) (by decide +kernel), inTB_of 760 (by decide +kernel) (by decide +kernel), inTB_of 41 (by decide +kernel) (by decide +kernel), inTB_of 761 (by decide +kernel) (by decide +kernel), (by decide +kernel), (by decide +kernel)⟩
set_option maxRecDepth 20000 in
theorem mi_X7_saves : MIv yX7_saves RX7 cX7_saves 2 (some .long) 1 := ⟨inTB_of 764 (by decide +kernel) (by decide +kernel), inTB_of 765 (by decide +kernel) (by decide +kernel), inTB_of 41 (by decide +kernel) (by decide +kernel), inTB_of 766 (by decide +kernel) (by decide +kernel), (by decide +kernel), (by decide +kernel)⟩
set_option maxRecDepth 20000 in
theorem mi_X7_worth : MIv yX7_worth RX7 cX7_worth 2 (some .long) 1 := ⟨inTB_of 769 (by decide +kernel) (by decide +kernel), inTB_of 18 (by decide +kernel) (by decide +kernel), inTB_of 41 (by decide +kernel) (by decide +kernel), inTB_of 770 (by decide +kernel) (by decide +kernel), (by decide +kernel), (by decide +kernel)⟩
set_option maxRecDepth 20000 in
theorem mi_X7_repairCost : MIv yX7_repairCost RX7 cX7_repairCost 2 (some .int) 1 := ⟨inTB_of 773 (by decide +kernel) (by decide +kernel), inTB_of 774 (by decide +kernel) (by decide +kernel), inTB_of 41 (by decide +kernel) (by decide +kernel), inTB_of 775 (by decide +kernel) (by decide +kernel), (by decide +kernel), (by decide +kernel)⟩
set_option maxRecDepth 20000 in
theorem mi_X7_costOf : MIv yX7_costOf RX7 cX7_costOf 2 (some .int) 1 := ⟨inTB_of 778 (by decide +kernel) (by decide +kernel), inTB_of 19 (by decide +kernel) (by decide +kernel), inTB_of 41 (by decide +kernel) (by decide +kernel), inTB_of 779 (by decide +kernel) (by decide +kernel), (by decide +kernel), (by decide +kernel)⟩
set_option maxRecDepth 20000 in
theorem mi_X7_payback : MIv yX7_payback RX7 cX7_payback 2 (some .long) 1 := ⟨inTB_of 781 (by decide +kernel) (by decide +kernel), inTB_of 782 (by decide +kernel) (by decide +kernel), inTB_of 41 (by decide +kernel) (by decide +kernel), inTB_of 783 (by decide +kernel) (by decide +kernel), (by decide +kernel), (by decide +kernel)⟩
set_option maxRecDepth 20000 in
theorem mi_X7_paysBack : MIv yX7_paysBack RX7 cX7_paysBack 4 (some .long) 1 := ⟨inTB_of 786 (by decide +kernel) (by decide +kernel), inTB_of 20 (by decide +kernel) (by decide +kernel), inTB_of 41 (by decide +kernel) (by decide +kernel), inTB_of 787 (by decide +kernel) (by decide +kernel), (by decide +kernel), (by decide +kernel)⟩
set_option maxRecDepth 20000 in
theorem mi_X7_order : MIv yX7_order RX7 cX7_order 2 (some .int) 1 := ⟨inTB_of 790 (by decide +kernel) (by decide +kernel), inTB_of 791 (by decide +kernel) (by decide +kernel), inTB_of 41 (by decide +kernel) (by decide +kernel), inTB_of 792 (by decide +kernel) (by decide +kernel), (by decide +kernel), (by decide +kernel)⟩
set_option maxRecDepth 20000 in
theorem mi_X7_ranked : MIv yX7_ranked RX7 cX7_ranked 5 (some .int) 1 := ⟨inTB_of 795 (by decide +kernel) (by decide +kernel), inTB_of 21 (by decide +kernel) (by decide +kernel), inTB_of 41 (by decide +kernel) (by decide +kernel), inTB_of 796 (by decide +kernel) (by decide +kernel), (by decide +kernel), (by decide +kernel)⟩
set_option maxRecDepth 20000 in
theorem mi_X7_isAhead : MIv yX7_isAhead RX7 cX7_isAhead 3 (some .boolean) 2 := ⟨inTB_of 799 (by decide +kernel) (by decide +kernel), inTB_of 22 (by decide +kernel) (by decide +kernel), inTB_of 41 (by decide +kernel) (by decide +kernel), inTB_of 800 (by decide +kernel) (by decide +kernel), (by decide +kernel), (by decide +kernel)⟩
set_option maxRecDepth 20000 in
theorem mi_X7_repair : MIv yX7_repair RX7 cX7_repair 2 (some .int) 1 := ⟨inTB_of 802 (by decide +kernel) (by decide +kernel), inTB_of 803 (by decide +kernel) (by decide +kernel), inTB_of 41 (by decide +kernel) (by decide +kernel), inTB_of 804 (by decide +kernel) (by decide +kernel), (by decide +kernel), (by decide +kernel)⟩
set_option maxRecDepth 20000 in
theorem mi_X7_repairs : MIv yX7_repairs RX7 cX7_repairs 2 none 1 := ⟨inTB_of 807 (by decide +kernel) (by decide +kernel), inTB_of 23 (by decide +kernel) (by decide +kernel), inTB_of 41 (by decide +kernel) (by decide +kernel), inTB_of 808 (by decide +kernel) (by decide +kernel), (by decide +kernel), (by decide +kernel)⟩
set_option maxRecDepth 20000 in
theorem mi_X7_repairAll : MIv yX7_repairAll RX7 cX7_repairAll 5 (some .int) 1 := ⟨inTB_of 810 (by decide +kernel) (by decide +kernel), inTB_of 811 (by decide +kernel) (by decide +kernel), inTB_of 41 (by decide +kernel) (by decide +kernel), inTB_of 812 (by decide +kernel) (by decide +kernel), (by decide +kernel), (by decide +kernel)⟩
set_option maxRecDepth 20000 in
theorem mi_X7_isDue : MIv yX7_isDue RX7 cX7_isDue 2 (some .int) 1 := ⟨inTB_of 814 (by decide +kernel) (by decide +kernel), inTB_of 815 (by decide +kernel) (by decide +kernel), inTB_of 41 (by decide +kernel) (by decide +kernel), inTB_of 816 (by decide +kernel) (by decide +kernel), (by decide +kernel), (by decide +kernel)⟩
set_option maxRecDepth 20000 in
theorem mi_X7_due : MIv yX7_due RX7 cX7_due 2 (some .boolean) 1 := ⟨inTB_of 819 (by decide +kernel) (by decide +kernel), inTB_of 24 (by decide +kernel) (by decide +kernel), inTB_of 41 (by decide +kernel) (by decide +kernel), inTB_of 820 (by decide +kernel) (by decide +kernel), (by decide +kernel), (by decide +kernel)⟩
set_option maxRecDepth 20000 in
theorem mi_X7_round : MIv yX7_round RX7 cX7_round 2 (some .int) 1 := ⟨inTB_of 822 (by decide +kernel) (by decide +kernel), inTB_of 823 (by decide +kernel) (by decide +kernel), inTB_of 41 (by decide +kernel) (by decide +kernel), inTB_of 824 (by decide +kernel) (by decide +kernel), (by decide +kernel), (by decide +kernel)⟩
set_option maxRecDepth 20000 in
theorem mi_X7_walks : MIv yX7_walks RX7 cX7_walks 7 none 0 := ⟨inTB_of 827 (by decide +kernel) (by decide +kernel), inTB_of 25 (by decide +kernel) (by decide +kernel), inTB_of 41 (by decide +kernel) (by decide +kernel), inTB_of 828 (by decide +kernel) (by decide +kernel), (by decide +kernel), (by decide +kernel)⟩
set_option maxRecDepth 20000 in
theorem mi_X7_size : MIs yX7_size cX7_size 1 (some .int) 1 := ⟨inTB_of 830 (by decide +kernel) (by decide +kernel), inTB_of 41 (by decide +kernel) (by decide +kernel), inTB_of 831 (by decide +kernel) (by decide +kernel), (by decide +kernel), (by decide +kernel)⟩
set_option maxRecDepth 20000 in
theorem mi_X7_roundLength : MIv yX7_roundLength RX7 cX7_roundLength 1 (some .int) 0 := ⟨inTB_of 833 (by decide +kernel) (by decide +kernel), inTB_of 834 (by decide +kernel) (by decide +kernel), inTB_of 41 (by decide +kernel) (by decide +kernel), inTB_of 835 (by decide +kernel) (by decide +kernel), (by decide +kernel), (by decide +kernel)⟩
set_option maxRecDepth 20000 in
theorem mi_X7_dueOn : MIv yX7_dueOn RX7 cX7_dueOn 2 (some .int) 1 := ⟨inTB_of 837 (by decide +kernel) (by decide +kernel), inTB_of 838 (by decide +kernel) (by decide +kernel), inTB_of 41 (by decide +kernel) (by decide +kernel), inTB_of 839 (by decide +kernel) (by decide +kernel), (by decide +kernel), (by decide +kernel)⟩
set_option maxRecDepth 20000 in
theorem mi_X7_undo : MIv yX7_undo RX7 cX7_undo 1 (some .int) 0 := ⟨inTB_of 841 (by decide +kernel) (by decide +kernel), inTB_of 842 (by decide +kernel) (by decide +kernel), inTB_of 41 (by decide +kernel) (by decide +kernel), inTB_of 843 (by decide +kernel) (by decide +kernel), (by decide +kernel), (by decide +kernel)⟩
set_option maxRecDepth 20000 in
theorem mi_X7_type : MIv yX7_type RX7 cX7_type 2 (some .int) 1 := ⟨inTB_of 845 (by decide +kernel) (by decide +kernel), inTB_of 846 (by decide +kernel) (by decide +kernel), inTB_of 41 (by decide +kernel) (by decide +kernel), inTB_of 847 (by decide +kernel) (by decide +kernel), (by decide +kernel), (by decide +kernel)⟩
set_option maxRecDepth 20000 in
theorem mi_X7_clearText : MIv yX7_clearText RX7 cX7_clearText 2 (some .int) 0 := ⟨inTB_of 849 (by decide +kernel) (by decide +kernel), inTB_of 850 (by decide +kernel) (by decide +kernel), inTB_of 41 (by decide +kernel) (by decide +kernel), inTB_of 851 (by decide +kernel) (by decide +kernel), (by decide +kernel), (by decide +kernel)⟩
set_option maxRecDepth 20000 in
theorem mi_X7_textFault : MIv yX7_textFault RX7 cX7_textFault 1 (some .int) 0 := ⟨inTB_of 853 (by decide +kernel) (by decide +kernel), inTB_of 854 (by decide +kernel) (by decide +kernel), inTB_of 41 (by decide +kernel) (by decide +kernel), inTB_of 855 (by decide +kernel) (by decide +kernel), (by decide +kernel), (by decide +kernel)⟩
set_option maxRecDepth 20000 in
theorem mi_X7_readsText : MIv yX7_readsText RX7 cX7_readsText 4 (some .boolean) 1 := ⟨inTB_of 858 (by decide +kernel) (by decide +kernel), inTB_of 26 (by decide +kernel) (by decide +kernel), inTB_of 41 (by decide +kernel) (by decide +kernel), inTB_of 859 (by decide +kernel) (by decide +kernel), (by decide +kernel), (by decide +kernel)⟩
set_option maxRecDepth 20000 in
theorem mi_X7_readsReading : MIv yX7_readsReading RX7 cX7_readsReading 5 (some .boolean) 1 := ⟨inTB_of 862 (by decide +kernel) (by decide +kernel), inTB_of 27 (by decide +kernel) (by decide +kernel), inTB_of 41 (by decide +kernel) (by decide +kernel), inTB_of 863 (by decide +kernel) (by decide +kernel), (by decide +kernel), (by decide +kernel)⟩
set_option maxRecDepth 20000 in
theorem mi_X7_readsNumber : MIv yX7_readsNumber RX7 cX7_readsNumber 5 (some .boolean) 1 := ⟨inTB_of 866 (by decide +kernel) (by decide +kernel), inTB_of 28 (by decide +kernel) (by decide +kernel), inTB_of 41 (by decide +kernel) (by decide +kernel), inTB_of 867 (by decide +kernel) (by decide +kernel), (by decide +kernel), (by decide +kernel)⟩
set_option maxRecDepth 20000 in
theorem mi_X7_here : MIv yX7_here RX7 cX7_here 1 (some .int) 0 := ⟨inTB_of 870 (by decide +kernel) (by decide +kernel), inTB_of 29 (by decide +kernel) (by decide +kernel), inTB_of 41 (by decide +kernel) (by decide +kernel), inTB_of 871 (by decide +kernel) (by decide +kernel), (by decide +kernel), (by decide +kernel)⟩
set_option maxRecDepth 20000 in
theorem mi_X7_sign : MIv yX7_sign RX7 cX7_sign 3 (some .boolean) 1 := ⟨inTB_of 874 (by decide +kernel) (by decide +kernel), inTB_of 30 (by decide +kernel) (by decide +kernel), inTB_of 41 (by decide +kernel) (by decide +kernel), inTB_of 875 (by decide +kernel) (by decide +kernel), (by decide +kernel), (by decide +kernel)⟩
set_option maxRecDepth 20000 in
theorem mi_X7_readAll : MIv yX7_readAll RX7 cX7_readAll 2 (some .int) 0 := ⟨inTB_of 877 (by decide +kernel) (by decide +kernel), inTB_of 878 (by decide +kernel) (by decide +kernel), inTB_of 41 (by decide +kernel) (by decide +kernel), inTB_of 879 (by decide +kernel) (by decide +kernel), (by decide +kernel), (by decide +kernel)⟩
set_option maxRecDepth 20000 in
theorem mi_X7_digest : MIv yX7_digest RX7 cX7_digest 3 (some .long) 0 := ⟨inTB_of 881 (by decide +kernel) (by decide +kernel), inTB_of 882 (by decide +kernel) (by decide +kernel), inTB_of 41 (by decide +kernel) (by decide +kernel), inTB_of 883 (by decide +kernel) (by decide +kernel), (by decide +kernel), (by decide +kernel)⟩
set_option maxRecDepth 20000 in
theorem mi_X7_note : MIv yX7_note RX7 cX7_note 3 none 1 := ⟨inTB_of 887 (by decide +kernel) (by decide +kernel), inTB_of 31 (by decide +kernel) (by decide +kernel), inTB_of 41 (by decide +kernel) (by decide +kernel), inTB_of 888 (by decide +kernel) (by decide +kernel), (by decide +kernel), (by decide +kernel)⟩
set_option maxRecDepth 20000 in
theorem lk_L_9 : Cond.methodLink RL 9 yX6_init ∈ TB := inTB_of 46 (by decide +kernel) (by decide +kernel)
set_option maxRecDepth 20000 in
theorem lk_X6_1 : Cond.methodLink RX6 1 objectInit ∈ TB := inTB_of 49 (by decide +kernel) (by decide +kernel)
set_option maxRecDepth 20000 in
theorem lk_X6_9 : Cond.methodLink RX6 9 yX1_init ∈ TB := inTB_of 54 (by decide +kernel) (by decide +kernel)
set_option maxRecDepth 20000 in
theorem lk_X1_3 : Cond.methodLink RX1 3 objectInit ∈ TB := inTB_of 57 (by decide +kernel) (by decide +kernel)
set_option maxRecDepth 20000 in
theorem lk_X1_49 : Cond.methodLink RX1 49 yJ7_fill_53178 ∈ TB := inTB_of 60 (by decide +kernel) (by decide +kernel)
set_option maxRecDepth 20000 in
theorem lk_X1_55 : InT (Cond.methodLinkNest RX1 55 yX5_init "TrapSurvey") := inT_of 64 (by decide +kernel) (by decide +kernel)
set_option maxRecDepth 20000 in
theorem lk_X5_3 : Cond.methodLink RX5 3 objectInit ∈ TB := inTB_of 67 (by decide +kernel) (by decide +kernel)
set_option maxRecDepth 20000 in
theorem lk_X6_18 : Cond.methodLink RX6 18 yX0_init ∈ TB := inTB_of 159 (by decide +kernel) (by decide +kernel)
set_option maxRecDepth 20000 in
theorem lk_X0_3 : Cond.methodLink RX0 3 objectInit ∈ TB := inTB_of 162 (by decide +kernel) (by decide +kernel)
set_option maxRecDepth 20000 in
theorem lk_X0_21 : Cond.methodLink RX0 21 yX1_init ∈ TB := inTB_of 165 (by decide +kernel) (by decide +kernel)
set_option maxRecDepth 20000 in
theorem lk_X6_25 : InT (Cond.methodLinkNest RX6 25 yX3_init "TrapSurvey") := inT_of 176 (by decide +kernel) (by decide +kernel)
set_option maxRecDepth 20000 in
theorem lk_X3_3 : Cond.methodLink RX3 3 objectInit ∈ TB := inTB_of 179 (by decide +kernel) (by decide +kernel)
set_option maxRecDepth 20000 in
theorem lk_X6_32 : InT (Cond.methodLinkNest RX6 32 yX4_init "TrapSurvey") := inT_of 196 (by decide +kernel) (by decide +kernel)
set_option maxRecDepth 20000 in
theorem lk_X4_3 : Cond.methodLink RX4 3 objectInit ∈ TB := inTB_of 199 (by decide +kernel) (by decide +kernel)
set_option maxRecDepth 20000 in
theorem lk_X6_39 : InT (Cond.methodLinkNest RX6 39 yX2_init "TrapSurvey") := inT_of 217 (by decide +kernel) (by decide +kernel)
set_option maxRecDepth 20000 in
theorem lk_X2_3 : Cond.methodLink RX2 3 objectInit ∈ TB := inTB_of 220 (by decide +kernel) (by decide +kernel)
set_option maxRecDepth 20000 in
theorem lk_L_13 : Cond.methodLink RL 13 yX6_setPressure ∈ TB := inTB_of 258 (by decide +kernel) (by decide +kernel)
set_option maxRecDepth 20000 in
theorem lk_X6_44 : Cond.methodLink RX6 44 yX1_hasHeader ∈ TB := inTB_of 262 (by decide +kernel) (by decide +kernel)
set_option maxRecDepth 20000 in
theorem lk_X6_48 : Cond.methodLink RX6 48 yX6_isWithin ∈ TB := inTB_of 266 (by decide +kernel) (by decide +kernel)
set_option maxRecDepth 20000 in
theorem lk_X6_52 : Cond.methodLink RX6 52 yX0_keep ∈ TB := inTB_of 269 (by decide +kernel) (by decide +kernel)
set_option maxRecDepth 20000 in
theorem lk_X0_22 : Cond.methodLink RX0 22 yX0_dropOldest ∈ TB := inTB_of 273 (by decide +kernel) (by decide +kernel)
set_option maxRecDepth 20000 in
theorem lk_X0_25 : Cond.methodLink RX0 25 yX1_copyFrom ∈ TB := inTB_of 277 (by decide +kernel) (by decide +kernel)
set_option maxRecDepth 20000 in
theorem lk_X1_56 : Cond.methodLink RX1 56 arraycopyName ∈ TB := inTB_of 281 (by decide +kernel) (by decide +kernel)
set_option maxRecDepth 20000 in
theorem lk_X1_62 : Cond.methodLink RX1 62 yX5_copyFrom ∈ TB := inTB_of 284 (by decide +kernel) (by decide +kernel)
set_option maxRecDepth 20000 in
theorem lk_L_18 : Cond.methodLink RL 18 yX6_addLine ∈ TB := inTB_of 288 (by decide +kernel) (by decide +kernel)
set_option maxRecDepth 20000 in
theorem lk_L_23 : Cond.methodLink RL 23 yX6_addTrap ∈ TB := inTB_of 292 (by decide +kernel) (by decide +kernel)
set_option maxRecDepth 20000 in
theorem lk_X6_67 : Cond.methodLink RX6 67 yX1_hasLine ∈ TB := inTB_of 296 (by decide +kernel) (by decide +kernel)
set_option maxRecDepth 20000 in
theorem lk_X6_77 : Cond.methodLink RX6 77 yX5_install ∈ TB := inTB_of 300 (by decide +kernel) (by decide +kernel)
set_option maxRecDepth 20000 in
theorem lk_L_28 : Cond.methodLink RL 28 yX6_moveLine ∈ TB := inTB_of 304 (by decide +kernel) (by decide +kernel)
set_option maxRecDepth 20000 in
theorem lk_L_32 : Cond.methodLink RL 32 yX6_setWork ∈ TB := inTB_of 308 (by decide +kernel) (by decide +kernel)
set_option maxRecDepth 20000 in
theorem lk_L_37 : Cond.methodLink RL 37 yX6_count ∈ TB := inTB_of 312 (by decide +kernel) (by decide +kernel)
set_option maxRecDepth 20000 in
theorem lk_L_41 : Cond.methodLink RL 41 yX6_trap ∈ TB := inTB_of 316 (by decide +kernel) (by decide +kernel)
set_option maxRecDepth 20000 in
theorem lk_X6_101 : Cond.methodLink RX6 101 yX1_trapAt ∈ TB := inTB_of 320 (by decide +kernel) (by decide +kernel)
set_option maxRecDepth 20000 in
theorem lk_X6_126 : Cond.methodLink RX6 126 yX1_headerOfLine ∈ TB := inTB_of 324 (by decide +kernel) (by decide +kernel)
set_option maxRecDepth 20000 in
theorem lk_X1_66 : Cond.methodLink RX1 66 yX1_hasLine ∈ TB := inTB_of 328 (by decide +kernel) (by decide +kernel)
set_option maxRecDepth 20000 in
theorem lk_L_45 : Cond.methodLink RL 45 yX6_headerOf ∈ TB := inTB_of 329 (by decide +kernel) (by decide +kernel)
set_option maxRecDepth 20000 in
theorem lk_L_49 : Cond.methodLink RL 49 yX6_pressure ∈ TB := inTB_of 333 (by decide +kernel) (by decide +kernel)
set_option maxRecDepth 20000 in
theorem lk_X6_130 : Cond.methodLink RX6 130 yX1_pressureOfHeader ∈ TB := inTB_of 337 (by decide +kernel) (by decide +kernel)
set_option maxRecDepth 20000 in
theorem lk_X1_70 : Cond.methodLink RX1 70 yX1_hasHeader ∈ TB := inTB_of 341 (by decide +kernel) (by decide +kernel)
set_option maxRecDepth 20000 in
theorem lk_L_53 : Cond.methodLink RL 53 yX6_read ∈ TB := inTB_of 342 (by decide +kernel) (by decide +kernel)
set_option maxRecDepth 20000 in
theorem lk_X6_133 : Cond.methodLink RX6 133 yX6_judge ∈ TB := inTB_of 346 (by decide +kernel) (by decide +kernel)
set_option maxRecDepth 20000 in
theorem lk_X6_141 : Cond.methodLink RX6 141 yX1_pressureAt ∈ TB := inTB_of 350 (by decide +kernel) (by decide +kernel)
set_option maxRecDepth 20000 in
theorem lk_X1_76 : Cond.methodLink RX1 76 yX1_headerOfLine ∈ TB := inTB_of 354 (by decide +kernel) (by decide +kernel)
set_option maxRecDepth 20000 in
theorem lk_X1_80 : Cond.methodLink RX1 80 yX1_pressureOfHeader ∈ TB := inTB_of 355 (by decide +kernel) (by decide +kernel)
set_option maxRecDepth 20000 in
theorem lk_X6_145 : Cond.methodLink RX6 145 yX5_judged ∈ TB := inTB_of 356 (by decide +kernel) (by decide +kernel)
set_option maxRecDepth 20000 in
theorem lk_X5_37 : Cond.methodLink RX5 37 yX5_judgedAsBucket ∈ TB := inTB_of 360 (by decide +kernel) (by decide +kernel)
set_option maxRecDepth 20000 in
theorem lk_X5_41 : Cond.methodLink RX5 41 yX5_judgedAsThermostatic ∈ TB := inTB_of 363 (by decide +kernel) (by decide +kernel)
set_option maxRecDepth 20000 in
theorem lk_X5_45 : Cond.methodLink RX5 45 yX5_judgedAsDisc ∈ TB := inTB_of 366 (by decide +kernel) (by decide +kernel)
set_option maxRecDepth 20000 in
theorem lk_X6_137 : Cond.methodLink RX6 137 yX1_takeReading ∈ TB := inTB_of 369 (by decide +kernel) (by decide +kernel)
set_option maxRecDepth 20000 in
theorem lk_X1_83 : Cond.methodLink RX1 83 yX1_trapAt ∈ TB := inTB_of 373 (by decide +kernel) (by decide +kernel)
set_option maxRecDepth 20000 in
theorem lk_X1_87 : Cond.methodLink RX1 87 yX1_pressureAt ∈ TB := inTB_of 374 (by decide +kernel) (by decide +kernel)
set_option maxRecDepth 20000 in
theorem lk_X1_91 : Cond.methodLink RX1 91 yX5_judged ∈ TB := inTB_of 375 (by decide +kernel) (by decide +kernel)
set_option maxRecDepth 20000 in
theorem lk_L_58 : Cond.methodLink RL 58 yX6_judge ∈ TB := inTB_of 376 (by decide +kernel) (by decide +kernel)
set_option maxRecDepth 20000 in
theorem lk_L_62 : Cond.methodLink RL 62 yX6_pass ∈ TB := inTB_of 377 (by decide +kernel) (by decide +kernel)
set_option maxRecDepth 20000 in
theorem lk_X6_148 : Cond.methodLink RX6 148 yX1_letPass ∈ TB := inTB_of 381 (by decide +kernel) (by decide +kernel)
set_option maxRecDepth 20000 in
theorem lk_X1_105 : Cond.methodLink RX1 105 yX1_lossOf ∈ TB := inTB_of 385 (by decide +kernel) (by decide +kernel)
set_option maxRecDepth 20000 in
theorem lk_X1_108 : Cond.methodLink RX1 108 yX5_lossUnder ∈ TB := inTB_of 389 (by decide +kernel) (by decide +kernel)
set_option maxRecDepth 20000 in
theorem lk_L_66 : Cond.methodLink RL 66 yX6_inState ∈ TB := inTB_of 393 (by decide +kernel) (by decide +kernel)
set_option maxRecDepth 20000 in
theorem lk_X6_152 : Cond.methodLink RX6 152 yX1_trapsInState ∈ TB := inTB_of 397 (by decide +kernel) (by decide +kernel)
set_option maxRecDepth 20000 in
theorem lk_L_70 : Cond.methodLink RL 70 yX6_loss ∈ TB := inTB_of 401 (by decide +kernel) (by decide +kernel)
set_option maxRecDepth 20000 in
theorem lk_X6_155 : Cond.methodLink RX6 155 yX1_lossOf ∈ TB := inTB_of 405 (by decide +kernel) (by decide +kernel)
set_option maxRecDepth 20000 in
theorem lk_L_74 : Cond.methodLink RL 74 yX6_lineLoss ∈ TB := inTB_of 406 (by decide +kernel) (by decide +kernel)
set_option maxRecDepth 20000 in
theorem lk_X6_158 : Cond.methodLink RX6 158 yX1_lossOfLine ∈ TB := inTB_of 410 (by decide +kernel) (by decide +kernel)
set_option maxRecDepth 20000 in
theorem lk_L_78 : Cond.methodLink RL 78 yX6_headerLoss ∈ TB := inTB_of 414 (by decide +kernel) (by decide +kernel)
set_option maxRecDepth 20000 in
theorem lk_X6_161 : Cond.methodLink RX6 161 yX1_lossOfHeader ∈ TB := inTB_of 418 (by decide +kernel) (by decide +kernel)
set_option maxRecDepth 20000 in
theorem lk_L_82 : Cond.methodLink RL 82 yX6_lost ∈ TB := inTB_of 422 (by decide +kernel) (by decide +kernel)
set_option maxRecDepth 20000 in
theorem lk_X6_164 : Cond.methodLink RX6 164 yX1_lostByAll ∈ TB := inTB_of 426 (by decide +kernel) (by decide +kernel)
set_option maxRecDepth 20000 in
theorem lk_L_87 : Cond.methodLink RL 87 yX6_saves ∈ TB := inTB_of 431 (by decide +kernel) (by decide +kernel)
set_option maxRecDepth 20000 in
theorem lk_X6_174 : Cond.methodLink RX6 174 yX1_priceADay ∈ TB := inTB_of 435 (by decide +kernel) (by decide +kernel)
set_option maxRecDepth 20000 in
theorem lk_L_91 : Cond.methodLink RL 91 yX6_repairCost ∈ TB := inTB_of 440 (by decide +kernel) (by decide +kernel)
set_option maxRecDepth 20000 in
theorem lk_X6_180 : Cond.methodLink RX6 180 yX5_costOfRepair ∈ TB := inTB_of 444 (by decide +kernel) (by decide +kernel)
set_option maxRecDepth 20000 in
theorem lk_L_95 : Cond.methodLink RL 95 yX6_payback ∈ TB := inTB_of 448 (by decide +kernel) (by decide +kernel)
set_option maxRecDepth 20000 in
theorem lk_X6_184 : Cond.methodLink RX6 184 yX1_paybackOf ∈ TB := inTB_of 452 (by decide +kernel) (by decide +kernel)
set_option maxRecDepth 20000 in
theorem lk_X1_111 : Cond.methodLink RX1 111 yX1_priceADay ∈ TB := inTB_of 456 (by decide +kernel) (by decide +kernel)
set_option maxRecDepth 20000 in
theorem lk_X1_119 : Cond.methodLink RX1 119 yX5_costOfRepair ∈ TB := inTB_of 459 (by decide +kernel) (by decide +kernel)
set_option maxRecDepth 20000 in
theorem lk_L_99 : Cond.methodLink RL 99 yX6_order ∈ TB := inTB_of 460 (by decide +kernel) (by decide +kernel)
set_option maxRecDepth 20000 in
theorem lk_X6_188 : Cond.methodLink RX6 188 yX3_rankTraps ∈ TB := inTB_of 464 (by decide +kernel) (by decide +kernel)
set_option maxRecDepth 20000 in
theorem lk_X3_35 : Cond.methodLink RX3 35 yX1_lossOf ∈ TB := inTB_of 468 (by decide +kernel) (by decide +kernel)
set_option maxRecDepth 20000 in
theorem lk_X3_39 : Cond.methodLink RX3 39 yX1_paybackOf ∈ TB := inTB_of 469 (by decide +kernel) (by decide +kernel)
set_option maxRecDepth 20000 in
theorem lk_X3_43 : Cond.methodLink RX3 43 yX3_insert ∈ TB := inTB_of 470 (by decide +kernel) (by decide +kernel)
set_option maxRecDepth 20000 in
theorem lk_X3_47 : Cond.methodLink RX3 47 yX3_isBetter ∈ TB := inTB_of 474 (by decide +kernel) (by decide +kernel)
set_option maxRecDepth 20000 in
theorem lk_X6_191 : Cond.methodLink RX6 191 yX3_trapAtRank ∈ TB := inTB_of 478 (by decide +kernel) (by decide +kernel)
set_option maxRecDepth 20000 in
theorem lk_L_103 : Cond.methodLink RL 103 yX6_repair ∈ TB := inTB_of 482 (by decide +kernel) (by decide +kernel)
set_option maxRecDepth 20000 in
theorem lk_X6_194 : Cond.methodLink RX6 194 yX1_mend ∈ TB := inTB_of 486 (by decide +kernel) (by decide +kernel)
set_option maxRecDepth 20000 in
theorem lk_L_107 : Cond.methodLink RL 107 yX6_repairAll ∈ TB := inTB_of 490 (by decide +kernel) (by decide +kernel)
set_option maxRecDepth 20000 in
theorem lk_L_111 : Cond.methodLink RL 111 yX6_isDue ∈ TB := inTB_of 494 (by decide +kernel) (by decide +kernel)
set_option maxRecDepth 20000 in
theorem lk_X6_198 : Cond.methodLink RX6 198 yX1_needsVisit ∈ TB := inTB_of 498 (by decide +kernel) (by decide +kernel)
set_option maxRecDepth 20000 in
theorem lk_L_115 : Cond.methodLink RL 115 yX6_round ∈ TB := inTB_of 502 (by decide +kernel) (by decide +kernel)
set_option maxRecDepth 20000 in
theorem lk_X6_202 : Cond.methodLink RX6 202 yX4_plan ∈ TB := inTB_of 506 (by decide +kernel) (by decide +kernel)
set_option maxRecDepth 20000 in
theorem lk_X4_35 : Cond.methodLink RX4 35 yX1_needsVisit ∈ TB := inTB_of 510 (by decide +kernel) (by decide +kernel)
set_option maxRecDepth 20000 in
theorem lk_X4_39 : Cond.methodLink RX4 39 yX4_nearestWaiting ∈ TB := inTB_of 511 (by decide +kernel) (by decide +kernel)
set_option maxRecDepth 20000 in
theorem lk_X4_43 : Cond.methodLink RX4 43 yX5_wayFrom ∈ TB := inTB_of 516 (by decide +kernel) (by decide +kernel)
set_option maxRecDepth 20000 in
theorem lk_X5_49 : Cond.methodLink RX5 49 Lib.Math.abs.name ∈ TB := inTB_of 520 (by decide +kernel) (by decide +kernel)
set_option maxRecDepth 20000 in
theorem lk_X4_55 : Cond.methodLink RX4 55 Lib.Math.abs.name ∈ TB := inTB_of 523 (by decide +kernel) (by decide +kernel)
set_option maxRecDepth 20000 in
theorem lk_X6_205 : Cond.methodLink RX6 205 yX4_stopAt ∈ TB := inTB_of 524 (by decide +kernel) (by decide +kernel)
set_option maxRecDepth 20000 in
theorem lk_L_119 : Cond.methodLink RL 119 yX6_roundLength ∈ TB := inTB_of 528 (by decide +kernel) (by decide +kernel)
set_option maxRecDepth 20000 in
theorem lk_L_124 : Cond.methodLink RL 124 yX6_dueOn ∈ TB := inTB_of 532 (by decide +kernel) (by decide +kernel)
set_option maxRecDepth 20000 in
theorem lk_L_128 : Cond.methodLink RL 128 yX6_undo ∈ TB := inTB_of 536 (by decide +kernel) (by decide +kernel)
set_option maxRecDepth 20000 in
theorem lk_X6_211 : Cond.methodLink RX6 211 yX0_takeBack ∈ TB := inTB_of 540 (by decide +kernel) (by decide +kernel)
set_option maxRecDepth 20000 in
theorem lk_L_132 : Cond.methodLink RL 132 yX6_type ∈ TB := inTB_of 544 (by decide +kernel) (by decide +kernel)
set_option maxRecDepth 20000 in
theorem lk_X6_216 : Cond.methodLink RX6 216 yX2_append ∈ TB := inTB_of 548 (by decide +kernel) (by decide +kernel)
set_option maxRecDepth 20000 in
theorem lk_L_136 : Cond.methodLink RL 136 yX6_clearText ∈ TB := inTB_of 552 (by decide +kernel) (by decide +kernel)
set_option maxRecDepth 20000 in
theorem lk_L_140 : Cond.methodLink RL 140 yX6_textFault ∈ TB := inTB_of 556 (by decide +kernel) (by decide +kernel)
set_option maxRecDepth 20000 in
theorem lk_X6_220 : Cond.methodLink RX6 220 yX2_faultFor ∈ TB := inTB_of 560 (by decide +kernel) (by decide +kernel)
set_option maxRecDepth 20000 in
theorem lk_X2_30 : Cond.methodLink RX2 30 yX2_scanList ∈ TB := inTB_of 564 (by decide +kernel) (by decide +kernel)
set_option maxRecDepth 20000 in
theorem lk_X2_34 : Cond.methodLink RX2 34 yX2_scanReading ∈ TB := inTB_of 568 (by decide +kernel) (by decide +kernel)
set_option maxRecDepth 20000 in
theorem lk_X2_42 : Cond.methodLink RX2 42 yX2_scanNumber ∈ TB := inTB_of 572 (by decide +kernel) (by decide +kernel)
set_option maxRecDepth 20000 in
theorem lk_X2_46 : Cond.methodLink RX2 46 yX2_skipBlanks ∈ TB := inTB_of 576 (by decide +kernel) (by decide +kernel)
set_option maxRecDepth 20000 in
theorem lk_X2_49 : Cond.methodLink RX2 49 yX2_isDigit ∈ TB := inTB_of 580 (by decide +kernel) (by decide +kernel)
set_option maxRecDepth 20000 in
theorem lk_X2_52 : InT (Cond.methodLinkNest RX2 52 yX6_isWithin "TrapSurvey") := inT_of 583 (by decide +kernel) (by decide +kernel)
set_option maxRecDepth 20000 in
theorem lk_X2_38 : Cond.methodLink RX2 38 yX2_scanSign ∈ TB := inTB_of 584 (by decide +kernel) (by decide +kernel)
set_option maxRecDepth 20000 in
theorem lk_L_144 : Cond.methodLink RL 144 yX6_readAll ∈ TB := inTB_of 588 (by decide +kernel) (by decide +kernel)
set_option maxRecDepth 20000 in
theorem lk_L_148 : Cond.methodLink RL 148 yX6_digest ∈ TB := inTB_of 592 (by decide +kernel) (by decide +kernel)
set_option maxRecDepth 20000 in
theorem lk_X6_234 : Cond.methodLink RX6 234 yX6_count ∈ TB := inTB_of 598 (by decide +kernel) (by decide +kernel)
set_option maxRecDepth 20000 in
theorem lk_X6_237 : Cond.methodLink RX6 237 yX6_pressure ∈ TB := inTB_of 599 (by decide +kernel) (by decide +kernel)
set_option maxRecDepth 20000 in
theorem lk_X6_240 : Cond.methodLink RX6 240 yX6_headerOf ∈ TB := inTB_of 600 (by decide +kernel) (by decide +kernel)
set_option maxRecDepth 20000 in
theorem lk_X6_243 : Cond.methodLink RX6 243 yX6_trap ∈ TB := inTB_of 601 (by decide +kernel) (by decide +kernel)
set_option maxRecDepth 20000 in
theorem lk_X6_247 : Cond.methodLink RX6 247 yX6_lost ∈ TB := inTB_of 602 (by decide +kernel) (by decide +kernel)
set_option maxRecDepth 20000 in
theorem lk_L_12 : Cond.methodLink RL 12 yX7_init ∈ TB := inTB_of 605 (by decide +kernel) (by decide +kernel)
set_option maxRecDepth 20000 in
theorem lk_X7_1 : Cond.methodLink RX7 1 objectInit ∈ TB := inTB_of 608 (by decide +kernel) (by decide +kernel)
set_option maxRecDepth 20000 in
theorem lk_L_17 : Cond.methodLink RL 17 yX7_setPressure ∈ TB := inTB_of 649 (by decide +kernel) (by decide +kernel)
set_option maxRecDepth 20000 in
theorem lk_X7_43 : Cond.methodLink RX7 43 yX7_isHeader ∈ TB := inTB_of 653 (by decide +kernel) (by decide +kernel)
set_option maxRecDepth 20000 in
theorem lk_X7_35 : Cond.methodLink RX7 35 yX7_in ∈ TB := inTB_of 656 (by decide +kernel) (by decide +kernel)
set_option maxRecDepth 20000 in
theorem lk_X7_47 : Cond.methodLink RX7 47 yX7_keeps ∈ TB := inTB_of 659 (by decide +kernel) (by decide +kernel)
set_option maxRecDepth 20000 in
theorem lk_X7_31 : Cond.methodLink RX7 31 yX7_copies ∈ TB := inTB_of 663 (by decide +kernel) (by decide +kernel)
set_option maxRecDepth 20000 in
theorem lk_L_22 : Cond.methodLink RL 22 yX7_addLine ∈ TB := inTB_of 667 (by decide +kernel) (by decide +kernel)
set_option maxRecDepth 20000 in
theorem lk_L_27 : Cond.methodLink RL 27 yX7_addTrap ∈ TB := inTB_of 671 (by decide +kernel) (by decide +kernel)
set_option maxRecDepth 20000 in
theorem lk_X7_50 : Cond.methodLink RX7 50 yX7_isLine ∈ TB := inTB_of 675 (by decide +kernel) (by decide +kernel)
set_option maxRecDepth 20000 in
theorem lk_L_31 : Cond.methodLink RL 31 yX7_moveLine ∈ TB := inTB_of 679 (by decide +kernel) (by decide +kernel)
set_option maxRecDepth 20000 in
theorem lk_L_36 : Cond.methodLink RL 36 yX7_setWork ∈ TB := inTB_of 683 (by decide +kernel) (by decide +kernel)
set_option maxRecDepth 20000 in
theorem lk_L_40 : Cond.methodLink RL 40 yX7_count ∈ TB := inTB_of 687 (by decide +kernel) (by decide +kernel)
set_option maxRecDepth 20000 in
theorem lk_L_44 : Cond.methodLink RL 44 yX7_trap ∈ TB := inTB_of 691 (by decide +kernel) (by decide +kernel)
set_option maxRecDepth 20000 in
theorem lk_X7_53 : Cond.methodLink RX7 53 yX7_isTrap ∈ TB := inTB_of 695 (by decide +kernel) (by decide +kernel)
set_option maxRecDepth 20000 in
theorem lk_X7_56 : Cond.methodLink RX7 56 yX7_header ∈ TB := inTB_of 699 (by decide +kernel) (by decide +kernel)
set_option maxRecDepth 20000 in
theorem lk_X7_39 : Cond.methodLink RX7 39 yX7_of ∈ TB := inTB_of 703 (by decide +kernel) (by decide +kernel)
set_option maxRecDepth 20000 in
theorem lk_L_48 : Cond.methodLink RL 48 yX7_headerOf ∈ TB := inTB_of 707 (by decide +kernel) (by decide +kernel)
set_option maxRecDepth 20000 in
theorem lk_L_52 : Cond.methodLink RL 52 yX7_pressure ∈ TB := inTB_of 711 (by decide +kernel) (by decide +kernel)
set_option maxRecDepth 20000 in
theorem lk_L_57 : Cond.methodLink RL 57 yX7_read ∈ TB := inTB_of 715 (by decide +kernel) (by decide +kernel)
set_option maxRecDepth 20000 in
theorem lk_X7_64 : Cond.methodLink RX7 64 yX7_isReading ∈ TB := inTB_of 719 (by decide +kernel) (by decide +kernel)
set_option maxRecDepth 20000 in
theorem lk_X7_67 : Cond.methodLink RX7 67 yX7_reads ∈ TB := inTB_of 722 (by decide +kernel) (by decide +kernel)
set_option maxRecDepth 20000 in
theorem lk_X7_60 : Cond.methodLink RX7 60 yX7_judges ∈ TB := inTB_of 726 (by decide +kernel) (by decide +kernel)
set_option maxRecDepth 20000 in
theorem lk_L_61 : Cond.methodLink RL 61 yX7_judge ∈ TB := inTB_of 730 (by decide +kernel) (by decide +kernel)
set_option maxRecDepth 20000 in
theorem lk_L_65 : Cond.methodLink RL 65 yX7_pass ∈ TB := inTB_of 734 (by decide +kernel) (by decide +kernel)
set_option maxRecDepth 20000 in
theorem lk_X7_71 : Cond.methodLink RX7 71 yX7_lossOf ∈ TB := inTB_of 738 (by decide +kernel) (by decide +kernel)
set_option maxRecDepth 20000 in
theorem lk_L_69 : Cond.methodLink RL 69 yX7_inState ∈ TB := inTB_of 742 (by decide +kernel) (by decide +kernel)
set_option maxRecDepth 20000 in
theorem lk_L_73 : Cond.methodLink RL 73 yX7_loss ∈ TB := inTB_of 746 (by decide +kernel) (by decide +kernel)
set_option maxRecDepth 20000 in
theorem lk_L_77 : Cond.methodLink RL 77 yX7_lineLoss ∈ TB := inTB_of 750 (by decide +kernel) (by decide +kernel)
set_option maxRecDepth 20000 in
theorem lk_L_81 : Cond.methodLink RL 81 yX7_headerLoss ∈ TB := inTB_of 754 (by decide +kernel) (by decide +kernel)
set_option maxRecDepth 20000 in
theorem lk_L_86 : Cond.methodLink RL 86 yX7_lost ∈ TB := inTB_of 758 (by decide +kernel) (by decide +kernel)
set_option maxRecDepth 20000 in
theorem lk_L_90 : Cond.methodLink RL 90 yX7_saves ∈ TB := inTB_of 763 (by decide +kernel) (by decide +kernel)
set_option maxRecDepth 20000 in
theorem lk_X7_76 : Cond.methodLink RX7 76 yX7_worth ∈ TB := inTB_of 767 (by decide +kernel) (by decide +kernel)
set_option maxRecDepth 20000 in
theorem lk_L_94 : Cond.methodLink RL 94 yX7_repairCost ∈ TB := inTB_of 772 (by decide +kernel) (by decide +kernel)
set_option maxRecDepth 20000 in
theorem lk_X7_82 : Cond.methodLink RX7 82 yX7_costOf ∈ TB := inTB_of 776 (by decide +kernel) (by decide +kernel)
set_option maxRecDepth 20000 in
theorem lk_L_98 : Cond.methodLink RL 98 yX7_payback ∈ TB := inTB_of 780 (by decide +kernel) (by decide +kernel)
set_option maxRecDepth 20000 in
theorem lk_X7_87 : Cond.methodLink RX7 87 yX7_paysBack ∈ TB := inTB_of 784 (by decide +kernel) (by decide +kernel)
set_option maxRecDepth 20000 in
theorem lk_L_102 : Cond.methodLink RL 102 yX7_order ∈ TB := inTB_of 789 (by decide +kernel) (by decide +kernel)
set_option maxRecDepth 20000 in
theorem lk_X7_94 : Cond.methodLink RX7 94 yX7_ranked ∈ TB := inTB_of 793 (by decide +kernel) (by decide +kernel)
set_option maxRecDepth 20000 in
theorem lk_X7_90 : Cond.methodLink RX7 90 yX7_isAhead ∈ TB := inTB_of 797 (by decide +kernel) (by decide +kernel)
set_option maxRecDepth 20000 in
theorem lk_L_106 : Cond.methodLink RL 106 yX7_repair ∈ TB := inTB_of 801 (by decide +kernel) (by decide +kernel)
set_option maxRecDepth 20000 in
theorem lk_X7_97 : Cond.methodLink RX7 97 yX7_repairs ∈ TB := inTB_of 805 (by decide +kernel) (by decide +kernel)
set_option maxRecDepth 20000 in
theorem lk_L_110 : Cond.methodLink RL 110 yX7_repairAll ∈ TB := inTB_of 809 (by decide +kernel) (by decide +kernel)
set_option maxRecDepth 20000 in
theorem lk_L_114 : Cond.methodLink RL 114 yX7_isDue ∈ TB := inTB_of 813 (by decide +kernel) (by decide +kernel)
set_option maxRecDepth 20000 in
theorem lk_X7_101 : Cond.methodLink RX7 101 yX7_due ∈ TB := inTB_of 817 (by decide +kernel) (by decide +kernel)
set_option maxRecDepth 20000 in
theorem lk_L_118 : Cond.methodLink RL 118 yX7_round ∈ TB := inTB_of 821 (by decide +kernel) (by decide +kernel)
set_option maxRecDepth 20000 in
theorem lk_X7_113 : Cond.methodLink RX7 113 yX7_walks ∈ TB := inTB_of 825 (by decide +kernel) (by decide +kernel)
set_option maxRecDepth 20000 in
theorem lk_X7_110 : Cond.methodLink RX7 110 yX7_size ∈ TB := inTB_of 829 (by decide +kernel) (by decide +kernel)
set_option maxRecDepth 20000 in
theorem lk_L_123 : Cond.methodLink RL 123 yX7_roundLength ∈ TB := inTB_of 832 (by decide +kernel) (by decide +kernel)
set_option maxRecDepth 20000 in
theorem lk_L_127 : Cond.methodLink RL 127 yX7_dueOn ∈ TB := inTB_of 836 (by decide +kernel) (by decide +kernel)
set_option maxRecDepth 20000 in
theorem lk_L_131 : Cond.methodLink RL 131 yX7_undo ∈ TB := inTB_of 840 (by decide +kernel) (by decide +kernel)
set_option maxRecDepth 20000 in
theorem lk_L_135 : Cond.methodLink RL 135 yX7_type ∈ TB := inTB_of 844 (by decide +kernel) (by decide +kernel)
set_option maxRecDepth 20000 in
theorem lk_L_139 : Cond.methodLink RL 139 yX7_clearText ∈ TB := inTB_of 848 (by decide +kernel) (by decide +kernel)
set_option maxRecDepth 20000 in
theorem lk_L_143 : Cond.methodLink RL 143 yX7_textFault ∈ TB := inTB_of 852 (by decide +kernel) (by decide +kernel)
set_option maxRecDepth 20000 in
theorem lk_X7_142 : Cond.methodLink RX7 142 yX7_readsText ∈ TB := inTB_of 856 (by decide +kernel) (by decide +kernel)
set_option maxRecDepth 20000 in
theorem lk_X7_138 : Cond.methodLink RX7 138 yX7_readsReading ∈ TB := inTB_of 860 (by decide +kernel) (by decide +kernel)
set_option maxRecDepth 20000 in
theorem lk_X7_129 : Cond.methodLink RX7 129 yX7_readsNumber ∈ TB := inTB_of 864 (by decide +kernel) (by decide +kernel)
set_option maxRecDepth 20000 in
theorem lk_X7_122 : Cond.methodLink RX7 122 yX7_here ∈ TB := inTB_of 868 (by decide +kernel) (by decide +kernel)
set_option maxRecDepth 20000 in
theorem lk_X7_132 : Cond.methodLink RX7 132 yX7_sign ∈ TB := inTB_of 872 (by decide +kernel) (by decide +kernel)
set_option maxRecDepth 20000 in
theorem lk_L_147 : Cond.methodLink RL 147 yX7_readAll ∈ TB := inTB_of 876 (by decide +kernel) (by decide +kernel)
set_option maxRecDepth 20000 in
theorem lk_L_152 : Cond.methodLink RL 152 yX7_digest ∈ TB := inTB_of 880 (by decide +kernel) (by decide +kernel)
set_option maxRecDepth 20000 in
theorem lk_X7_153 : Cond.methodLink RX7 153 yX7_note ∈ TB := inTB_of 885 (by decide +kernel) (by decide +kernel)
set_option maxRecDepth 20000 in
theorem cw_X6_168 : InT (Cond.constantLong RX6 168 (-2)) := inT_of 430 (by decide +kernel) (by decide +kernel)
set_option maxRecDepth 20000 in
theorem cw_X6_178 : InT (Cond.constantLong RX6 178 (1000000)) := inT_of 439 (by decide +kernel) (by decide +kernel)
set_option maxRecDepth 20000 in
theorem cw_X1_115 : InT (Cond.constantLong RX1 115 (-1)) := inT_of 457 (by decide +kernel) (by decide +kernel)
set_option maxRecDepth 20000 in
theorem cw_X1_117 : InT (Cond.constantLong RX1 117 (1000000)) := inT_of 458 (by decide +kernel) (by decide +kernel)
set_option maxRecDepth 20000 in
theorem cw_X4_63 : InT (Cond.constant RX4 63 (2147483647)) := inT_of 515 (by decide +kernel) (by decide +kernel)
set_option maxRecDepth 20000 in
theorem cw_X6_230 : InT (Cond.constantLong RX6 230 (17)) := inT_of 596 (by decide +kernel) (by decide +kernel)
set_option maxRecDepth 20000 in
theorem cw_X6_232 : InT (Cond.constantLong RX6 232 (31)) := inT_of 597 (by decide +kernel) (by decide +kernel)
set_option maxRecDepth 20000 in
theorem cw_X7_74 : InT (Cond.constantLong RX7 74 (-2)) := inT_of 762 (by decide +kernel) (by decide +kernel)
set_option maxRecDepth 20000 in
theorem cw_X7_80 : InT (Cond.constantLong RX7 80 (1000000)) := inT_of 771 (by decide +kernel) (by decide +kernel)
set_option maxRecDepth 20000 in
theorem cw_X7_85 : InT (Cond.constantLong RX7 85 (-1)) := inT_of 788 (by decide +kernel) (by decide +kernel)
set_option maxRecDepth 20000 in
theorem cw_X7_151 : InT (Cond.constantLong RX7 151 (17)) := inT_of 884 (by decide +kernel) (by decide +kernel)
set_option maxRecDepth 20000 in
theorem cw_X7_145 : InT (Cond.constantLong RX7 145 (31)) := inT_of 889 (by decide +kernel) (by decide +kernel)
set_option maxRecDepth 20000 in
theorem w_abs_s : Cond.static Lib.Math.abs.name ∈ TB := inTB_of 521 (by decide +kernel) (by decide +kernel)
set_option maxRecDepth 20000 in
theorem w_abs_i : Cond.initialized "java/lang/Math" ∈ TB := inTB_of 43 (by decide +kernel) (by decide +kernel)
set_option maxRecDepth 20000 in
theorem w_abs_c : Cond.code Lib.Math.abs.name Lib.Math.abs.code 1 (some .int) ∈ TB := inTB_of 522 (by decide +kernel) (by decide +kernel)
set_option maxRecDepth 20000 in
theorem w_ac_n : Cond.native arraycopyName ∈ TB := inTB_of 283 (by decide +kernel) (by decide +kernel)
set_option maxRecDepth 20000 in
theorem w_ac_s : Cond.static arraycopyName ∈ TB := inTB_of 282 (by decide +kernel) (by decide +kernel)
set_option maxRecDepth 20000 in
theorem w_ac_i : Cond.initialized "java/lang/System" ∈ TB := inTB_of 42 (by decide +kernel) (by decide +kernel)
set_option maxRecDepth 20000 in
theorem w_oi_i : Cond.instanceMethod objectInit ∈ TB := inTB_of 50 (by decide +kernel) (by decide +kernel)
set_option maxRecDepth 20000 in
theorem w_oi_c : Cond.code objectInit ⟨#[0xb1]⟩ 1 none ∈ TB := inTB_of 51 (by decide +kernel) (by decide +kernel)
set_option maxRecDepth 20000 in
theorem kl_L_7 : Cond.classLink RL 7 "TrapSurvey" ∈ TB := inTB_of 44 (by decide +kernel) (by decide +kernel)
set_option maxRecDepth 20000 in
theorem in_X6 : Cond.instantiable RX6 5 ∈ TB ∧ Cond.initialized RX6 ∈ TB := ⟨inTB_of 45 (by decide +kernel) (by decide +kernel), inTB_of 33 (by decide +kernel) (by decide +kernel)⟩
set_option maxRecDepth 20000 in
theorem kl_X6_7 : Cond.classLink RX6 7 "TrapSurvey$Plant" ∈ TB := inTB_of 52 (by decide +kernel) (by decide +kernel)
set_option maxRecDepth 20000 in
theorem in_X1 : Cond.instantiable RX1 11 ∈ TB ∧ Cond.initialized RX1 ∈ TB := ⟨inTB_of 53 (by decide +kernel) (by decide +kernel), inTB_of 34 (by decide +kernel) (by decide +kernel)⟩
set_option maxRecDepth 20000 in
theorem kl_X1_18 : Cond.classLink RX1 18 "TrapSurvey$Trap" ∈ TB := inTB_of 58 (by decide +kernel) (by decide +kernel)
set_option maxRecDepth 20000 in
theorem ao_T : Cond.arrayOver (.object RX5) ∈ lw_tbl := List.mem_of_getElem? (i := 59) (by decide +kernel)
set_option maxRecDepth 20000 in
theorem in_X5 : Cond.instantiable RX5 8 ∈ TB ∧ Cond.initialized RX5 ∈ TB := ⟨inTB_of 63 (by decide +kernel) (by decide +kernel), inTB_of 36 (by decide +kernel) (by decide +kernel)⟩
set_option maxRecDepth 20000 in
theorem ac_int : Cond.arrayClass .int ∈ TB := inTB_of 107 (by decide +kernel) (by decide +kernel)
set_option maxRecDepth 20000 in
theorem kl_X6_16 : Cond.classLink RX6 16 "TrapSurvey$History" ∈ TB := inTB_of 157 (by decide +kernel) (by decide +kernel)
set_option maxRecDepth 20000 in
theorem in_X0 : Cond.instantiable RX0 2 ∈ TB ∧ Cond.initialized RX0 ∈ TB := ⟨inTB_of 158 (by decide +kernel) (by decide +kernel), inTB_of 37 (by decide +kernel) (by decide +kernel)⟩
set_option maxRecDepth 20000 in
theorem kl_X0_9 : Cond.classLink RX0 9 "TrapSurvey$Plant" ∈ TB := inTB_of 163 (by decide +kernel) (by decide +kernel)
set_option maxRecDepth 20000 in
theorem ao_P : Cond.arrayOver (.object RX1) ∈ lw_tbl := List.mem_of_getElem? (i := 164) (by decide +kernel)
set_option maxRecDepth 20000 in
theorem kl_X6_23 : Cond.classLink RX6 23 "TrapSurvey$RepairOrder" ∈ TB := inTB_of 174 (by decide +kernel) (by decide +kernel)
set_option maxRecDepth 20000 in
theorem in_X3 : Cond.instantiable RX3 4 ∈ TB ∧ Cond.initialized RX3 ∈ TB := ⟨inTB_of 175 (by decide +kernel) (by decide +kernel), inTB_of 38 (by decide +kernel) (by decide +kernel)⟩
set_option maxRecDepth 20000 in
theorem ac_long : Cond.arrayClass .long ∈ TB := inTB_of 193 (by decide +kernel) (by decide +kernel)
set_option maxRecDepth 20000 in
theorem kl_X6_30 : Cond.classLink RX6 30 "TrapSurvey$SurveyRound" ∈ TB := inTB_of 194 (by decide +kernel) (by decide +kernel)
set_option maxRecDepth 20000 in
theorem in_X4 : Cond.instantiable RX4 4 ∈ TB ∧ Cond.initialized RX4 ∈ TB := ⟨inTB_of 195 (by decide +kernel) (by decide +kernel), inTB_of 39 (by decide +kernel) (by decide +kernel)⟩
set_option maxRecDepth 20000 in
theorem ac_boolean : Cond.arrayClass .boolean ∈ TB := inTB_of 214 (by decide +kernel) (by decide +kernel)
set_option maxRecDepth 20000 in
theorem kl_X6_37 : Cond.classLink RX6 37 "TrapSurvey$ReadingText" ∈ TB := inTB_of 215 (by decide +kernel) (by decide +kernel)
set_option maxRecDepth 20000 in
theorem in_X2 : Cond.instantiable RX2 5 ∈ TB ∧ Cond.initialized RX2 ∈ TB := ⟨inTB_of 216 (by decide +kernel) (by decide +kernel), inTB_of 40 (by decide +kernel) (by decide +kernel)⟩
set_option maxRecDepth 20000 in
theorem kl_X2_15 : Cond.classLink RX2 15 "[[I" ∈ TB := inTB_of 221 (by decide +kernel) (by decide +kernel)
set_option maxRecDepth 20000 in
theorem ao_I : Cond.arrayOver (.array .int) ∈ lw_tbl := List.mem_of_getElem? (i := 222) (by decide +kernel)
set_option maxRecDepth 20000 in
theorem kl_L_10 : Cond.classLink RL 10 "TrapSurveyModel" ∈ TB := inTB_of 603 (by decide +kernel) (by decide +kernel)
set_option maxRecDepth 20000 in
theorem in_X7 : Cond.instantiable RX7 13 ∈ TB ∧ Cond.initialized RX7 ∈ TB := ⟨inTB_of 604 (by decide +kernel) (by decide +kernel), inTB_of 41 (by decide +kernel) (by decide +kernel)⟩
end
section
/-! ===== calls that leave the world, truth values, roles ===== -/
abbrev pE {α : Type} (e : α) (I : kI) (L : kL) (X : kX) : α → kI → kL → kX → Prop := fun v I' L' X' => v = e ∧ I' = I ∧ L' = L ∧ X' = X
section QE
variable {l : Launch} {cc : ByteArray} {own : String} {nL D K : Nat} {G : kG} {n0 : Nat} {J : kJ} {n : Nat} {I : kI} {L : kL} {X : kX} {pc : Nat} {lv : kV} {rest : List Value}
theorem callVe_i (hM : Mach l cc own nL D K G n0 J) {y : MethodName} {b' : ByteArray} {nL' D' cnt idx : Nat} {C : String} {T : u_T} {N : Nat} {tyf : Nat → FieldType} {ci : Nat} (mi : MIv y C b' nL' (some .int) cnt) (lk : Cond.methodLink own idx y ∈ TB) (cf : CF ci C T N tyf) {r : Nat} (hr : r < n) (hk : kd r = ci) {As : List Value} {e9 : Int32} (hC : Ki l y b' nL' D' G (.ref (ad G r) :: As) n n I L X (pE e9 I L X)) (hcnt : As.length = cnt) {st : List Value} (hst : st = As.reverse ++ .ref (ad G r) :: rest) (hD : D' + 1 ≤ D) (hn1 : n ≤ n) (hKc : n ≤ n0 + K) (hW : (rest.map fun v => v.category).sum ≤ 8) (hd : decode cc pc = .ok (.invokevirtual idx, 3)) (kk : J n I L X (pc + 3) lv (.int e9 :: rest)) : J n I L X pc lv st :=
  callV_i hM mi lk cf hr hk hC hcnt hst hD hn1 hKc hW hd (fun _ _ _ _ h => by obtain ⟨rfl, rfl, rfl, rfl⟩ := h; exact kk)
theorem callSe_i (hM : Mach l cc own nL D K G n0 J) {y : MethodName} {b' : ByteArray} {nL' D' cnt idx : Nat} (mi : MIs y b' nL' (some .int) cnt) (lk : Cond.methodLink own idx y ∈ TB) {As : List Value} {e9 : Int32} (hC : Ki l y b' nL' D' G As n n I L X (pE e9 I L X)) (hcnt : As.length = cnt) {st : List Value} (hst : st = As.reverse ++ rest) (hD : D' + 1 ≤ D) (hn1 : n ≤ n) (hKc : n ≤ n0 + K) (hW : (rest.map fun v => v.category).sum ≤ 8) (hd : decode cc pc = .ok (.invokestatic idx, 3)) (kk : J n I L X (pc + 3) lv (.int e9 :: rest)) : J n I L X pc lv st :=
  callS_i hM mi lk hC hcnt hst hD hn1 hKc hW hd (fun _ _ _ _ h => by obtain ⟨rfl, rfl, rfl, rfl⟩ := h; exact kk)
theorem callVe_z (hM : Mach l cc own nL D K G n0 J) {y : MethodName} {b' : ByteArray} {nL' D' cnt idx : Nat} {C : String} {T : u_T} {N : Nat} {tyf : Nat → FieldType} {ci : Nat} (mi : MIv y C b' nL' (some .boolean) cnt) (lk : Cond.methodLink own idx y ∈ TB) (cf : CF ci C T N tyf) {r : Nat} (hr : r < n) (hk : kd r = ci) {As : List Value} {e9 : Bool} (hC : Kz l y b' nL' D' G (.ref (ad G r) :: As) n n I L X (pE e9 I L X)) (hcnt : As.length = cnt) {st : List Value} (hst : st = As.reverse ++ .ref (ad G r) :: rest) (hD : D' + 1 ≤ D) (hn1 : n ≤ n) (hKc : n ≤ n0 + K) (hW : (rest.map fun v => v.category).sum ≤ 8) (hd : decode cc pc = .ok (.invokevirtual idx, 3)) (kk : J n I L X (pc + 3) lv (.int (bI e9) :: rest)) : J n I L X pc lv st :=
  callV_z hM mi lk cf hr hk hC hcnt hst hD hn1 hKc hW hd (fun _ _ _ _ h => by obtain ⟨rfl, rfl, rfl, rfl⟩ := h; exact kk)
theorem callSe_z (hM : Mach l cc own nL D K G n0 J) {y : MethodName} {b' : ByteArray} {nL' D' cnt idx : Nat} (mi : MIs y b' nL' (some .boolean) cnt) (lk : Cond.methodLink own idx y ∈ TB) {As : List Value} {e9 : Bool} (hC : Kz l y b' nL' D' G As n n I L X (pE e9 I L X)) (hcnt : As.length = cnt) {st : List Value} (hst : st = As.reverse ++ rest) (hD : D' + 1 ≤ D) (hn1 : n ≤ n) (hKc : n ≤ n0 + K) (hW : (rest.map fun v => v.category).sum ≤ 8) (hd : decode cc pc = .ok (.invokestatic idx, 3)) (kk : J n I L X (pc + 3) lv (.int (bI e9) :: rest)) : J n I L X pc lv st :=
  callS_z hM mi lk hC hcnt hst hD hn1 hKc hW hd (fun _ _ _ _ h => by obtain ⟨rfl, rfl, rfl, rfl⟩ := h; exact kk)
theorem callVe_l (hM : Mach l cc own nL D K G n0 J) {y : MethodName} {b' : ByteArray} {nL' D' cnt idx : Nat} {C : String} {T : u_T} {N : Nat} {tyf : Nat → FieldType} {ci : Nat} (mi : MIv y C b' nL' (some .long) cnt) (lk : Cond.methodLink own idx y ∈ TB) (cf : CF ci C T N tyf) {r : Nat} (hr : r < n) (hk : kd r = ci) {As : List Value} {e9 : Int64} (hC : Kl l y b' nL' D' G (.ref (ad G r) :: As) n n I L X (pE e9 I L X)) (hcnt : As.length = cnt) {st : List Value} (hst : st = As.reverse ++ .ref (ad G r) :: rest) (hD : D' + 1 ≤ D) (hn1 : n ≤ n) (hKc : n ≤ n0 + K) (hW : (rest.map fun v => v.category).sum ≤ 8) (hd : decode cc pc = .ok (.invokevirtual idx, 3)) (kk : J n I L X (pc + 3) lv (.long e9 :: rest)) : J n I L X pc lv st :=
  callV_l hM mi lk cf hr hk hC hcnt hst hD hn1 hKc hW hd (fun _ _ _ _ h => by obtain ⟨rfl, rfl, rfl, rfl⟩ := h; exact kk)
theorem callSe_l (hM : Mach l cc own nL D K G n0 J) {y : MethodName} {b' : ByteArray} {nL' D' cnt idx : Nat} (mi : MIs y b' nL' (some .long) cnt) (lk : Cond.methodLink own idx y ∈ TB) {As : List Value} {e9 : Int64} (hC : Kl l y b' nL' D' G As n n I L X (pE e9 I L X)) (hcnt : As.length = cnt) {st : List Value} (hst : st = As.reverse ++ rest) (hD : D' + 1 ≤ D) (hn1 : n ≤ n) (hKc : n ≤ n0 + K) (hW : (rest.map fun v => v.category).sum ≤ 8) (hd : decode cc pc = .ok (.invokestatic idx, 3)) (kk : J n I L X (pc + 3) lv (.long e9 :: rest)) : J n I L X pc lv st :=
  callS_l hM mi lk hC hcnt hst hD hn1 hKc hW hd (fun _ _ _ _ h => by obtain ⟨rfl, rfl, rfl, rfl⟩ := h; exact kk)
theorem callVe_q (hM : Mach l cc own nL D K G n0 J) {y : MethodName} {b' : ByteArray} {nL' D' cnt idx : Nat} {Cr : String} {C : String} {T : u_T} {N : Nat} {tyf : Nat → FieldType} {ci : Nat} (mi : MIv y C b' nL' (some (.object Cr)) cnt) (lk : Cond.methodLink own idx y ∈ TB) (cf : CF ci C T N tyf) {r : Nat} (hr : r < n) (hk : kd r = ci) {As : List Value} {e9 : Option Nat} (hC : Kq l y b' nL' Cr D' G (.ref (ad G r) :: As) n n I L X (pE e9 I L X)) (hcnt : As.length = cnt) {st : List Value} (hst : st = As.reverse ++ .ref (ad G r) :: rest) (hD : D' + 1 ≤ D) (hn1 : n ≤ n) (hKc : n ≤ n0 + K) (hW : (rest.map fun v => v.category).sum ≤ 8) (hd : decode cc pc = .ok (.invokevirtual idx, 3)) (kk : J n I L X (pc + 3) lv (rfv G e9 :: rest)) : J n I L X pc lv st :=
  callV_q hM mi lk cf hr hk hC hcnt hst hD hn1 hKc hW hd (fun _ _ _ _ h => by obtain ⟨rfl, rfl, rfl, rfl⟩ := h; exact kk)
theorem callSNe_z (hM : Mach l cc own nL D K G n0 J) {y : MethodName} {b' : ByteArray} {nL' D' cnt idx : Nat} {host : String} (mi : MIs y b' nL' (some .boolean) cnt) (lk : InT (Cond.methodLinkNest own idx y host)) {As : List Value} {e9 : Bool} (hC : Kz l y b' nL' D' G As n n I L X (pE e9 I L X)) (hcnt : As.length = cnt) {st : List Value} (hst : st = As.reverse ++ rest) (hD : D' + 1 ≤ D) (hn1 : n ≤ n) (hKc : n ≤ n0 + K) (hW : (rest.map fun v => v.category).sum ≤ 8) (hd : decode cc pc = .ok (.invokestatic idx, 3)) (kk : J n I L X (pc + 3) lv (.int (bI e9) :: rest)) : J n I L X pc lv st :=
  callSN_z hM mi lk hC hcnt hst hD hn1 hKc hW hd (fun _ _ _ _ h => by obtain ⟨rfl, rfl, rfl, rfl⟩ := h; exact kk)
theorem bI_0 {b : Bool} : bI b = 0 ↔ b = false := by cases b <;> decide
theorem q_ifd_eq (hM : Mach l cc own nL D K G n0 J) {P : Prop} [Decidable P] {off : Int} {tgt : Nat} (hd : decode cc pc = .ok (.ifCond .eq off, 3)) (ht : (pc : Int) + off = (tgt : Int)) (kt : ¬ P → J n I L X tgt lv rest) (kf : P → J n I L X (pc + 3) lv rest) : J n I L X pc lv (.int (bI (decide P)) :: rest) :=
  q_if_eq hM hd ht (fun h => kt (of_decide_eq_false (bI_0.mp h))) (fun h => kf (Classical.byContradiction fun hp => h (bI_0.mpr (decide_eq_false hp))))
theorem q_ifd_ne (hM : Mach l cc own nL D K G n0 J) {P : Prop} [Decidable P] {off : Int} {tgt : Nat} (hd : decode cc pc = .ok (.ifCond .ne off, 3)) (ht : (pc : Int) + off = (tgt : Int)) (kt : P → J n I L X tgt lv rest) (kf : ¬ P → J n I L X (pc + 3) lv rest) : J n I L X pc lv (.int (bI (decide P)) :: rest) :=
  q_if_ne hM hd ht (fun h => kt (Classical.byContradiction fun hp => h (bI_0.mpr (decide_eq_false hp)))) (fun h => kf (of_decide_eq_false (bI_0.mp h)))
theorem q_copyi (hM : Mach l cc own nL D K G n0 J) {idx : Nat} (lk : Cond.methodLink own idx arraycopyName ∈ TB) {r r' : Nat} (hr : r < n) (hk : kd r = 8) (hr' : r' < n) (hk' : kd r' = 8) {sp dp m9 : Int32} (a b z : Nat) (ha : sp = nI a) (hb9 : dp = nI b) (hz9 : m9 = nI z) (h1 : a + z ≤ kl r) (h2 : b + z ≤ kl r') (hD : 1 ≤ D) (hW : (rest.map fun v => v.category).sum = 0) (hd : decode cc pc = .ok (.invokestatic idx, 3)) (kk : J n (fun x => if x = r' then va_cpy (I r) (I r') a b z else I x) L X (pc + 3) lv rest) : J n I L X pc lv (.int m9 :: .int dp :: .ref (ad G r') :: .int sp :: .ref (ad G r) :: rest) := by
  obtain ⟨p, e, Rm, s, m, args, below, meth, c, H0, Q, rfl, hx, hb, hml, hown, hT, hK, hbs, hR⟩ := hM
  intro hn H locs ls hz hP hS hl
  have hTB : ∀ w ∈ TB, w.before args s = true := fun w hw => hT w (inT_TB hw)
  have k1 := kl_le r
  have k2 := kl_le r'
  subst ha; subst hb9; subst hz9
  obtain ⟨r1, r2, r3, r4⟩ := hR
  have hnf : nativeFrameWords "java/lang/System" "arraycopy" 5 + 11 ≤ 36 := by decide +kernel
  intro T hTH Xs
  have he : (wl G n I L X)[r]? = some (ad G r, .inl (G.2.2 0, kl r, .inl (I r))) := by rw [wl_get hr, ce_int hk]
  have he' : (wl G n I L X)[r']? = some (ad G r', .inl (G.2.2 0, kl r', .inl (I r'))) := by rw [wl_get hr', ce_int hk']
  have hc0 : H[ad G r]? = some (vp_cell (G.2.2 0) (kl r, .inl (I r))) := hP r _ he
  have hc1 : H[ad G r']? = some (vp_cell (G.2.2 0) (kl r', .inl (I r'))) := hP r' _ he'
  obtain ⟨-, k0, hk0, cm0, hkk0⟩ := (hK.2 0 _ rfl).1 (kl r) (fun j => .int (I r j))
  obtain ⟨-, k1', hk1, cm1, hkk1⟩ := (hK.2 0 _ rfl).1 (kl r') (fun j => .int (I r' j))
  obtain ⟨vm', X', step⟩ := Xs.arraycopy hx hown (hTB _ lk) (hTB _ w_ac_n) (hTB _ w_ac_s) (hTB _ w_ac_i) (src := ad G r) (dst := ad G r') (cs := vp_cell (G.2.2 0) (kl r, .inl (I r))) (cd := vp_cell (G.2.2 0) (kl r', .inl (I r'))) (srcPos := nI a) (destPos := nI b) (n := nI z) (by rw [hTH]; exact hc0) (by rw [hTH]; exact hc1)
    (fun _ h => by cases h) (fun _ h => by cases h) (fun h => by cases h) (fun h => by cases h) hk0 hk1 hkk0 hkk1 (by simp [refKind]) (nI_pos (by omega)) (nI_pos (by omega)) (nI_pos (by omega))
    (by rw [nI_toInt (by omega), nI_toInt (by omega)]; show ¬ _ > ((arrV (G.2.2 0) (kl r) (fun j => .int (I r j))).slots.size : Int); rw [arrV_size]; omega)
    (by rw [nI_toInt (by omega), nI_toInt (by omega)]; show ¬ _ > ((arrV (G.2.2 0) (kl r') (fun j => .int (I r' j))).slots.size : Int); rw [arrV_size]; omega)
    (fun vm₁ _ i hi => by
      rw [nI_clamp (by omega)] at hi
      have e : (vp_cell (G.2.2 0) (kl r, .inl (I r))).slots.getD ((nI a).toNatClampNeg + i) .null = .int (I r ((nI a).toNatClampNeg + i)) := by
        show (arrV (G.2.2 0) (kl r) (fun j => .int (I r j))).slots.getD _ _ = _
        rw [nI_clamp (by omega), Array.getD_eq_getD_getElem?, arrV_read _ _ (by omega)]
        rfl
      refine ⟨?_, ?_⟩
      · rw [e]
        rfl
      · rw [e]
        exact trivial)
    (g := F0 m pc ls (.int (nI z) :: .int (nI b) :: .ref (ad G r') :: .int (nI a) :: .ref (ad G r) :: rest)) rfl (by rw [hml]; exact hl.1) (rest := rest) rfl (by rw [hb]; exact hd) (by omega) (by show 2 * 0 + _ + _ ≤ _; rw [hW]; omega)
  have e1 : copied (vp_cell (G.2.2 0) (kl r, .inl (I r))) (vp_cell (G.2.2 0) (kl r', .inl (I r'))) (nI a) (nI b) (nI z) = vp_cell (G.2.2 0) (kl r', .inl (va_cpy (I r) (I r') (nI a).toNatClampNeg (nI b).toNatClampNeg (nI z).toNatClampNeg)) := va_copied (fun z => .int z) (G.2.2 0) (G.2.2 0) (I r) (I r') (by rw [nI_clamp (by omega), nI_clamp (by omega)]; omega)
  rw [e1, nI_clamp (n := a) (by omega), nI_clamp (n := b) (by omega), nI_clamp (n := z) (by omega)] at X' step
  have hlr : ad G r' < H.size := (Array.getElem?_eq_some_iff.mp hc1).1
  have hheap : ((T.setVm vm').setCell (ad G r') (vp_cell (G.2.2 0) (kl r', .inl (va_cpy (I r) (I r') a b z)))).heap = H.setIfInBounds (ad G r') (vp_cell (G.2.2 0) (kl r', .inl (va_cpy (I r) (I r') a b z))) := by rw [← hTH]; rfl
  have oq : ∀ q : Nat, q ≠ ad G r' → (H.setIfInBounds (ad G r') (vp_cell (G.2.2 0) (kl r', .inl (va_cpy (I r) (I r') a b z))))[q]? = H[q]? := fun q hq => by simp [Array.getElem?_setIfInBounds, Ne.symm hq]
  obtain ⟨t, a1, b1⟩ := kk hn (H.setIfInBounds (ad G r') (vp_cell (G.2.2 0) (kl r', .inl (va_cpy (I r) (I r') a b z)))) _ ls (by rw [Array.size_setIfInBounds]; exact hz) (wl_store hP hr' (e := .inl (G.2.2 0, kl r', .inl (va_cpy (I r) (I r') a b z))) (show (H.setIfInBounds (ad G r') _)[ad G r']? = some _ by simp [Array.getElem?_setIfInBounds, hlr]) (by rw [ce_int hk', if_pos rfl]) (fun q hq => ce_row (by rw [if_neg hq]) rfl rfl) oq) ⟨by rw [Array.size_setIfInBounds]; exact hS.1, fun q g1 g2 => by
      rw [oq q (fun e => g2 (by rw [e]; exact Nat.le_add_right _ _))]
      exact hS.2.1 q g1 g2, fun q hq => by
      rcases List.mem_append.mp hq with h | h
      · exact hS.2.2 q h
      · obtain ⟨z, -, hz⟩ := List.mem_map.mp h
        rw [← hz]
        exact Nat.le_add_right _ _⟩ hl _ hheap X'
  exact ⟨t, step t a1, b1⟩
end QE
theorem inc1 (i : Nat) : nI i + Int32.ofInt 1 = nI (i + 1) := nI_1 i
/-! roles -/
def isP (q : Nat) : Prop := q = 1 ∨ ∃ i, i < 5 ∧ q = 23 + 20 * i
theorem isP_1 : isP 1 := Or.inl rfl
theorem isP_h {i : Nat} (h : i < 5) : isP (23 + 20 * i) := Or.inr ⟨i, h, rfl⟩
theorem isP.lt {q : Nat} (h : isP q) : q + 19 < 159 := by
  rcases h with rfl | ⟨i, hi, rfl⟩ <;> omega
theorem kdP_h : ∀ i, i < 5 → ∀ j, j < 20 → kd (23 + 20 * i + j) = kdP j ∧ kl (23 + 20 * i + j) = klP j := by decide +kernel
theorem kdP_1 : ∀ j, j < 20 → kd (1 + j) = kdP j ∧ kl (1 + j) = klP j := by decide +kernel
theorem isP.kj {q : Nat} (h : isP q) {j : Nat} (hj : j < 20) : kd (q + j) = kdP j ∧ kl (q + j) = klP j := by
  rcases h with rfl | ⟨i, hi, rfl⟩
  · exact kdP_1 j hj
  · exact kdP_h i hi j hj

theorem isP.k0 {q : Nat} (h : isP q) : kd q = 1 := (h.kj (j := 0) (by decide)).1
theorem isP.kt {q t : Nat} (h : isP q) (ht : t < 16) : kd (q + 4 + t) = 5 := by
  have := (h.kj (j := 4 + t) (by omega)).1
  rw [show q + 4 + t = q + (4 + t) by omega, this]
  unfold kdP
  rw [if_neg (by omega), if_neg (by omega), if_neg (by omega)]
theorem isP.lt0 {q : Nat} (h : isP q) : q < 159 := by have := h.lt; omega
theorem isP.ltt {q t : Nat} (h : isP q) (ht : t < 16) : q + 4 + t < 159 := by have := h.lt; omega
theorem ltT {t : Nat} (h : t < 16) : 5 + t < 159 := by omega
theorem kdT {t : Nat} (h : t < 16) : kd (5 + t) = 5 := isP_1.kt h
def Refs (X : kX) (pm : Nat → Nat) : Prop :=
  (X 0 0 = some 1 ∧ X 0 1 = some 21 ∧ X 0 2 = some 123 ∧ X 0 3 = some 127 ∧ X 0 4 = some 130) ∧
  (∀ q, isP q → X q 0 = some (q + 1) ∧ X q 1 = some (q + 2) ∧ X q 2 = some (q + 3) ∧ ∀ i, i < 16 → X (q + 3) i = some (q + 4 + i)) ∧
  (X 21 0 = some 22 ∧ ∀ i, i < 5 → X 22 i = some (pm i)) ∧ (X 123 0 = some 124 ∧ X 123 1 = some 125 ∧ X 123 2 = some 126) ∧ (X 127 0 = some 128 ∧ X 127 1 = some 129) ∧
  (X 130 0 = some 131 ∧ X 130 1 = some 132 ∧ ∀ i, i < 20 → X 132 i = some (133 + i))
section RF
variable {X : kX} {pm : Nat → Nat}
theorem Refs.x0 (h : Refs X pm) : X 0 0 = some 1 := h.1.1
theorem Refs.x1 (h : Refs X pm) : X 0 1 = some 21 := h.1.2.1
theorem Refs.x2 (h : Refs X pm) : X 0 2 = some 123 := h.1.2.2.1
theorem Refs.x3 (h : Refs X pm) : X 0 3 = some 127 := h.1.2.2.2.1
theorem Refs.x4 (h : Refs X pm) : X 0 4 = some 130 := h.1.2.2.2.2
theorem Refs.q0 (h : Refs X pm) {q : Nat} (hq : isP q) : X q 0 = some (q + 1) := (h.2.1 q hq).1
theorem Refs.q1 (h : Refs X pm) {q : Nat} (hq : isP q) : X q 1 = some (q + 2) := (h.2.1 q hq).2.1
theorem Refs.q2 (h : Refs X pm) {q : Nat} (hq : isP q) : X q 2 = some (q + 3) := (h.2.1 q hq).2.2.1
theorem Refs.qt (h : Refs X pm) {q : Nat} (hq : isP q) {t : Nat} (ht : t < 16) : X (q + 3) t = some (q + 4 + t) := (h.2.1 q hq).2.2.2 t ht
theorem Refs.p0 (h : Refs X pm) : X 1 0 = some 2 := h.q0 isP_1
theorem Refs.p1 (h : Refs X pm) : X 1 1 = some 3 := h.q1 isP_1
theorem Refs.p2 (h : Refs X pm) : X 1 2 = some 4 := h.q2 isP_1
theorem Refs.pt (h : Refs X pm) {t : Nat} (ht : t < 16) : X 4 t = some (5 + t) := h.qt isP_1 ht
theorem Refs.h0 (h : Refs X pm) : X 21 0 = some 22 := h.2.2.1.1
theorem Refs.hi (h : Refs X pm) {i : Nat} (hi : i < 5) : X 22 i = some (pm i) := h.2.2.1.2 i hi
theorem Refs.o0 (h : Refs X pm) : X 123 0 = some 124 := h.2.2.2.1.1
theorem Refs.o1 (h : Refs X pm) : X 123 1 = some 125 := h.2.2.2.1.2.1
theorem Refs.o2 (h : Refs X pm) : X 123 2 = some 126 := h.2.2.2.1.2.2
theorem Refs.s0 (h : Refs X pm) : X 127 0 = some 128 := h.2.2.2.2.1.1
theorem Refs.s1 (h : Refs X pm) : X 127 1 = some 129 := h.2.2.2.2.1.2
theorem Refs.t0 (h : Refs X pm) : X 130 0 = some 131 := h.2.2.2.2.2.1
theorem Refs.t1 (h : Refs X pm) : X 130 1 = some 132 := h.2.2.2.2.2.2.1
theorem Refs.ti (h : Refs X pm) {i : Nat} (hi : i < 20) : X 132 i = some (133 + i) := h.2.2.2.2.2.2.2 i hi
end RF
def RefM (X : kX) : Prop := X 153 0 = some 154 ∧ X 153 1 = some 155 ∧ X 153 3 = some 156 ∧ X 153 4 = some 157 ∧ X 153 7 = some 158
theorem RefM.m0 {X : kX} (h : RefM X) : X 153 0 = some 154 := h.1
theorem RefM.m1 {X : kX} (h : RefM X) : X 153 1 = some 155 := h.2.1
theorem RefM.m3 {X : kX} (h : RefM X) : X 153 3 = some 156 := h.2.2.1
theorem RefM.m4 {X : kX} (h : RefM X) : X 153 4 = some 157 := h.2.2.2.1
theorem RefM.m7 {X : kX} (h : RefM X) : X 153 7 = some 158 := h.2.2.2.2
end
section
/-! ===== the plant as numbers: what both sides compute ===== -/
abbrev Fr : Type := Nat → Int32
abbrev Gr : Type := Nat → Int64
def cI (x : Int32) : Nat := x.toNatClampNeg
def inR (a : Int) (x : Int32) (b : Int) : Prop := a ≤ x.toInt ∧ x.toInt ≤ b
theorem lt_i (a b : Int32) : a < b ↔ a.toInt < b.toInt := Int32.lt_iff_toInt_lt
theorem le_i (a b : Int32) : a ≤ b ↔ a.toInt ≤ b.toInt := Int32.le_iff_toInt_le
theorem eq_i (a b : Int32) : a = b ↔ a.toInt = b.toInt := Int32.toInt_inj.symm
theorem cI_nI {n : Nat} (h : n < 2 ^ 31) : cI (nI n) = n := nI_clamp h
theorem rng_i (x : Int32) : -2147483648 ≤ x.toInt ∧ x.toInt < 2147483648 := by
  have h1 := Int32.le_toInt x
  have h2 := Int32.toInt_lt x
  omega
theorem nI_cI {x : Int32} (h : 0 ≤ x.toInt) : x = nI (cI x) := by
  have hx := rng_i x
  obtain ⟨j, hj, rfl⟩ := nI_of (x := x) (by rw [lt_i]; simp; exact h)
  rw [cI_nI hj]
theorem cI_int {x : Int32} (h : 0 ≤ x.toInt) : (cI x : Int) = x.toInt := by
  have hx := rng_i x
  obtain ⟨j, hj, rfl⟩ := nI_of (x := x) (by rw [lt_i]; simp; exact h)
  rw [cI_nI hj, nI_toInt hj]
theorem cI_le {x : Int32} {a : Int} {b : Nat} (ha : 0 ≤ a) (h : inR a x b) : cI x ≤ b := by
  have := cI_int (x := x) (by unfold inR at h; omega)
  unfold inR at h
  omega
theorem i0 : (0 : Int32).toInt = 0 := rfl
theorem bmod32 {z : Int} (h1 : -2147483648 ≤ z) (h2 : z < 2147483648) : z.bmod (2 ^ 32) = z := by
  rw [Int.bmod_def]
  omega
theorem add_i {x y : Int32} (h1 : -2147483648 ≤ x.toInt + y.toInt) (h2 : x.toInt + y.toInt < 2147483648) : (x + y).toInt = x.toInt + y.toInt := by rw [Int32.toInt_add, bmod32 h1 h2]
theorem sub_i {x y : Int32} (h1 : -2147483648 ≤ x.toInt - y.toInt) (h2 : x.toInt - y.toInt < 2147483648) : (x - y).toInt = x.toInt - y.toInt := by rw [Int32.toInt_sub, bmod32 h1 h2]
theorem mul_i {x y : Int32} (h1 : -2147483648 ≤ x.toInt * y.toInt) (h2 : x.toInt * y.toInt < 2147483648) : (x * y).toInt = x.toInt * y.toInt := by rw [Int32.toInt_mul, bmod32 h1 h2]
/-- a trap's property, its header, the pressure there -/
def sOf (f : Fr) (t w : Nat) : Int32 := f (19 + 7 * t + w)
def sH (f : Fr) (t : Nat) : Nat := cI (f (11 + cI (sOf f t 0)))
def sP (f : Fr) (t : Nat) : Int32 := f (8 + sH f t)
def lossQ (z st p : Int32) : Int32 := if st = 3 then z * z * (p + 1) * 10 else if st = 2 then z * z * (p + 1) * 10 / 4 else 0
def sLoss (f : Fr) (t : Nat) : Int32 := lossQ (sOf f t 2) (sOf f t 5) (sP f t)
def costQ (k z : Int32) : Int32 := if k = 2 then 30 + 10 * z else 50 + 20 * z
def sCost (f : Fr) (t : Nat) : Int32 := costQ (sOf f t 1) (sOf f t 2)
def worthQ (f : Fr) (x : Int32) : Int64 := x.toInt64 * (f 2).toInt64 * (f 3).toInt64
def sWorth (f : Fr) (t : Nat) : Int64 := worthQ f (sLoss f t)
def sPay (f : Fr) (t : Nat) : Int64 := if sWorth f t = 0 then -1 else (1000000 * (sCost f t).toInt64 + sWorth f t - 1) / sWorth f t
abbrev sDue (f : Fr) (t : Nat) : Prop := sOf f t 6 = -1 ∨ ¬ sOf f t 5 = 1 ∨ f 4 ≤ f 5 - sOf f t 6
def judC (k inlet outlet cycles p : Int32) : Int32 :=
  if inlet < (100 + 6 * p) / 2 then 5 else if cycles = 0 ∧ outlet ≤ inlet - 40 then 4
  else if k = 0 then (if 30 ≤ cycles then 3 else if 15 ≤ cycles then 2 else 1)
  else if k = 1 then (if inlet - 5 ≤ outlet then 3 else if inlet - 15 ≤ outlet then 2 else 1)
  else (if 40 ≤ cycles ∨ inlet - 2 ≤ outlet then 3 else if 20 ≤ cycles then 2 else 1)
def sJud (f : Fr) (t : Nat) (inlet outlet cycles : Int32) : Int32 := judC (sOf f t 1) inlet outlet cycles (sP f t)
def mendF (f : Fr) (t : Nat) : Fr := va_up (va_up (va_up f (19 + 7 * t + 5) 1) 6 (f 6 + sCost f t)) 7 (f 7 + 1)
def readF (f : Fr) (t : Nat) (v : Int32) : Fr := va_up (va_up f (19 + 7 * t + 5) v) (19 + 7 * t + 6) (f 5)
def passG (f : Fr) (g : Gr) (d : Int32) : Gr := fun t => g t + (sLoss f t).toInt64 * (f 2).toInt64 * d.toInt64
/-- sums over the first traps -/
def sSum (h : Nat → Int32) : Nat → Int32
  | 0 => 0
  | n + 1 => sSum h n + h n
def sSumL (h : Nat → Int64) : Nat → Int64
  | 0 => 0
  | n + 1 => sSumL h n + h n
theorem sSum_cong {h h' : Nat → Int32} : ∀ {n : Nat}, (∀ t, t < n → h t = h' t) → sSum h n = sSum h' n
  | 0, _ => rfl
  | n + 1, e => by rw [sSum, sSum, sSum_cong (fun t ht => e t (by omega)), e n (by omega)]
theorem sSumL_cong {h h' : Nat → Int64} : ∀ {n : Nat}, (∀ t, t < n → h t = h' t) → sSumL h n = sSumL h' n
  | 0, _ => rfl
  | n + 1, e => by rw [sSumL, sSumL, sSumL_cong (fun t ht => e t (by omega)), e n (by omega)]
/-- the ranges of a plant -/
def TInv (f : Fr) (t : Nat) : Prop := (0 ≤ (sOf f t 0).toInt ∧ (sOf f t 0).toInt < (f 0).toInt) ∧ inR 0 (sOf f t 1) 2 ∧ inR 1 (sOf f t 2) 9 ∧ inR 0 (sOf f t 3) 50 ∧ inR 0 (sOf f t 4) 50 ∧ inR 0 (sOf f t 5) 5 ∧ inR (-1) (sOf f t 6) 10000
def PInv (f : Fr) : Prop :=
  (inR 0 (f 0) 8 ∧ inR 0 (f 1) 16) ∧ (inR 1 (f 2) 24 ∧ inR 1 (f 3) 1000 ∧ inR 1 (f 4) 400 ∧ inR 0 (f 5) 10000) ∧ (∀ h, h < 3 → inR 1 (f (8 + h)) 20) ∧ (∀ i, i < cI (f 0) → inR 0 (f (11 + i)) 2) ∧ ∀ t, t < cI (f 1) → TInv f t
section PI
variable {f : Fr}
theorem PInv.nL (h : PInv f) : cI (f 0) ≤ 8 := cI_le (Int.le_refl 0) h.1.1
theorem PInv.nT (h : PInv f) : cI (f 1) ≤ 16 := cI_le (Int.le_refl 0) h.1.2
theorem PInv.e0 (h : PInv f) : f 0 = nI (cI (f 0)) := nI_cI h.1.1.1
theorem PInv.e1 (h : PInv f) : f 1 = nI (cI (f 1)) := nI_cI h.1.2.1
theorem PInv.t (h : PInv f) {t : Nat} (ht : t < cI (f 1)) : TInv f t := h.2.2.2.2 t ht
theorem PInv.l (h : PInv f) {i : Nat} (hi : i < cI (f 0)) : inR 0 (f (11 + i)) 2 := h.2.2.2.1 i hi
theorem PInv.p (h : PInv f) {i : Nat} (hi : i < 3) : inR 1 (f (8 + i)) 20 := h.2.2.1 i hi
theorem PInv.ln (h : PInv f) {t : Nat} (ht : t < cI (f 1)) : sOf f t 0 = nI (cI (sOf f t 0)) ∧ cI (sOf f t 0) < cI (f 0) := by
  have h1 := (h.t ht).1
  refine ⟨nI_cI h1.1, ?_⟩
  have h2 := cI_int h1.1
  have h3 := cI_int h.1.1.1
  omega
theorem PInv.hd (h : PInv f) {t : Nat} (ht : t < cI (f 1)) : sH f t < 3 ∧ f (11 + cI (sOf f t 0)) = nI (sH f t) := by
  have h1 := h.l (h.ln ht).2
  exact ⟨Nat.lt_succ_of_le (cI_le (Int.le_refl 0) h1), nI_cI h1.1⟩
end PI
/-- the class's plant at the role q holds the numbers f, g -/
def Sm (I : kI) (L : kL) (q : Nat) (f : Fr) (g : Gr) : Prop :=
  (∀ i, i < 8 → I q (3 + i) = f i) ∧ (∀ h, h < 3 → I (q + 1) h = f (8 + h)) ∧ (∀ i, i < cI (f 0) → I (q + 2) i = f (11 + i)) ∧
  (∀ t, t < cI (f 1) → (∀ w, w < 7 → I (q + 4 + t) w = sOf f t w) ∧ L (q + 4 + t) 7 = g t) ∧
  (∀ t, cI (f 1) ≤ t → t < 16 → I (q + 4 + t) 5 = 0 ∧ I (q + 4 + t) 6 = -1 ∧ L (q + 4 + t) 7 = 0)
section SM
variable {I : kI} {L : kL} {f : Fr} {g : Gr}
theorem Sm.a0 (h : Sm I L 1 f g) : I 1 3 = f 0 := h.1 0 (by decide)
theorem Sm.a1 (h : Sm I L 1 f g) : I 1 4 = f 1 := h.1 1 (by decide)
theorem Sm.a2 (h : Sm I L 1 f g) : I 1 5 = f 2 := h.1 2 (by decide)
theorem Sm.a3 (h : Sm I L 1 f g) : I 1 6 = f 3 := h.1 3 (by decide)
theorem Sm.a4 (h : Sm I L 1 f g) : I 1 7 = f 4 := h.1 4 (by decide)
theorem Sm.a5 (h : Sm I L 1 f g) : I 1 8 = f 5 := h.1 5 (by decide)
theorem Sm.a6 (h : Sm I L 1 f g) : I 1 9 = f 6 := h.1 6 (by decide)
theorem Sm.a7 (h : Sm I L 1 f g) : I 1 10 = f 7 := h.1 7 (by decide)
theorem Sm.pr (h : Sm I L 1 f g) {i : Nat} (hi : i < 3) : I 2 i = f (8 + i) := h.2.1 i hi
theorem Sm.li (h : Sm I L 1 f g) {i : Nat} (hi : i < cI (f 0)) : I 3 i = f (11 + i) := h.2.2.1 i hi
theorem Sm.tr (h : Sm I L 1 f g) {t : Nat} (ht : t < cI (f 1)) {w : Nat} (hw : w < 7) : I (5 + t) w = sOf f t w := (h.2.2.2.1 t ht).1 w hw
theorem Sm.lo (h : Sm I L 1 f g) {t : Nat} (ht : t < cI (f 1)) : L (5 + t) 7 = g t := (h.2.2.2.1 t ht).2
theorem Sm.un (h : Sm I L 1 f g) {t : Nat} (ht : cI (f 1) ≤ t) (h2 : t < 16) : I (5 + t) 5 = 0 ∧ I (5 + t) 6 = -1 ∧ L (5 + t) 7 = 0 := h.2.2.2.2 t ht h2
end SM
/-- losses as natural numbers -/
theorem eq0_of {x : Int64} (h : 0 ≤ x.toInt) (h2 : ¬ 0 < x) : x = 0 := by
  rw [Int64.lt_iff_toInt_lt] at h2
  apply Int64.toInt_inj.mp
  simp at h2 ⊢
  omega
theorem loss_nat {z st p : Int32} (hz : inR 1 z 9) (hp : inR 1 p 20) : ∃ x, x ≤ 17010 ∧ lossQ z st p = nI x := by
  have ha : cI z ≤ 9 := cI_le (by decide) hz
  have hb : cI p ≤ 20 := cI_le (by decide) hp
  have ez : z = nI (cI z) := nI_cI (by have := hz.1; omega)
  have ep : p = nI (cI p) := nI_cI (by have := hp.1; omega)
  have e : z * z * (p + 1) * 10 = nI (cI z * cI z * (cI p + 1) * 10) := by
    rw [ez, ep, pk_mul, nI_1, pk_mul, show (10 : Int32) = nI 10 from rfl, pk_mul, ← ez, ← ep]
  have b1 : cI z * cI z ≤ 9 * 9 := Nat.mul_le_mul ha ha
  have b2 : cI z * cI z * (cI p + 1) ≤ 9 * 9 * 21 := Nat.mul_le_mul b1 (by omega)
  unfold lossQ
  rw [e]
  split
  · exact ⟨_, by omega, rfl⟩
  · split
    · exact ⟨cI z * cI z * (cI p + 1) * 10 / 4, by omega, by rw [show (4 : Int32) = nI 4 from rfl, pk_div (by omega) (by decide) (by decide)]⟩
    · exact ⟨0, by omega, rfl⟩
theorem sLoss_nat {f : Fr} (hP : PInv f) {t : Nat} (ht : t < cI (f 1)) : ∃ x, x ≤ 17010 ∧ sLoss f t = nI x := loss_nat (hP.t ht).2.2.1 (hP.p (hP.hd ht).1)
theorem sWorth_nat {f : Fr} (hP : PInv f) {t : Nat} (ht : t < cI (f 1)) : ∃ x y, x ≤ 17010 ∧ 0 < y ∧ y ≤ 24000 ∧ sLoss f t = nI x ∧ sWorth f t = lN (x * y) := by
  obtain ⟨x, hx, e⟩ := sLoss_nat hP ht
  have h2 := hP.2.1.1
  have h3 := hP.2.1.2.1
  have a2 : cI (f 2) ≤ 24 := cI_le (by decide) h2
  have a3 : cI (f 3) ≤ 1000 := cI_le (by decide) h3
  have b2 := cI_int (x := f 2) (by have := h2.1; omega)
  have b3 := cI_int (x := f 3) (by have := h3.1; omega)
  have e2 : f 2 = nI (cI (f 2)) := nI_cI (by have := h2.1; omega)
  have e3 : f 3 = nI (cI (f 3)) := nI_cI (by have := h3.1; omega)
  refine ⟨x, cI (f 2) * cI (f 3), hx, Nat.mul_pos (by have := h2.1; omega) (by have := h3.1; omega), (Nat.mul_le_mul a2 a3 : _ ≤ 24 * 1000), e, ?_⟩
  unfold sWorth worthQ
  rw [e, e2, e3, nI_l (by omega), nI_l (by omega), nI_l (by omega), lN_mul, lN_mul, ← e2, ← e3, Nat.mul_assoc]
theorem worth_nn {f : Fr} (hP : PInv f) {t : Nat} (ht : t < cI (f 1)) : 0 ≤ (sWorth f t).toInt := by
  obtain ⟨x, y, hx, -, hy, -, e⟩ := sWorth_nat hP ht
  have hb : x * y ≤ 17010 * 24000 := Nat.mul_le_mul hx hy
  rw [e, pk_lT (by omega)]
  omega
end
section
/-! ===== how the picture of a plant moves ===== -/
section QN
variable {l : Launch} {cc : ByteArray} {own : String} {nL D K : Nat} {G : kG} {n0 : Nat} {J : kJ} {n : Nat} {I : kI} {L : kL} {X : kX} {pc : Nat} {lv : kV} {rest : List Value} {x y : Int32} {off : Int} {tgt : Nat}
theorem q_icmp_geN (hM : Mach l cc own nL D K G n0 J) (a b : Nat) (hx : x = nI a) (hy : y = nI b) (ha : a < 2 ^ 31) (hb : b < 2 ^ 31) (hd : decode cc pc = .ok (.if_icmp .ge off, 3)) (ht : (pc : Int) + off = (tgt : Int)) (kt : b ≤ a → J n I L X tgt lv rest) (kf : a < b → J n I L X (pc + 3) lv rest) : J n I L X pc lv (.int y :: .int x :: rest) := by
  subst hx; subst hy
  exact q_icmp_ge hM hd ht (fun h => kt ((nI_leI hb ha).mp h)) (fun h => kf (Nat.not_le.mp fun q => h ((nI_leI hb ha).mpr q)))
theorem q_icmp_ltN (hM : Mach l cc own nL D K G n0 J) (a b : Nat) (hx : x = nI a) (hy : y = nI b) (ha : a < 2 ^ 31) (hb : b < 2 ^ 31) (hd : decode cc pc = .ok (.if_icmp .lt off, 3)) (ht : (pc : Int) + off = (tgt : Int)) (kt : a < b → J n I L X tgt lv rest) (kf : b ≤ a → J n I L X (pc + 3) lv rest) : J n I L X pc lv (.int y :: .int x :: rest) := by
  subst hx; subst hy
  exact q_icmp_lt hM hd ht (fun h => kt ((nI_ltI ha hb).mp h)) (fun h => kf (Nat.not_lt.mp fun q => h ((nI_ltI ha hb).mpr q)))
theorem q_icmp_gtN (hM : Mach l cc own nL D K G n0 J) (a b : Nat) (hx : x = nI a) (hy : y = nI b) (ha : a < 2 ^ 31) (hb : b < 2 ^ 31) (hd : decode cc pc = .ok (.if_icmp .gt off, 3)) (ht : (pc : Int) + off = (tgt : Int)) (kt : b < a → J n I L X tgt lv rest) (kf : a ≤ b → J n I L X (pc + 3) lv rest) : J n I L X pc lv (.int y :: .int x :: rest) := by
  subst hx; subst hy
  exact q_icmp_gt hM hd ht (fun h => kt ((nI_ltI hb ha).mp h)) (fun h => kf (Nat.not_lt.mp fun q => h ((nI_ltI hb ha).mpr q)))
theorem q_icmp_eqN (hM : Mach l cc own nL D K G n0 J) (a b : Nat) (hx : x = nI a) (hy : y = nI b) (ha : a < 2 ^ 31) (hb : b < 2 ^ 31) (hd : decode cc pc = .ok (.if_icmp .eq off, 3)) (ht : (pc : Int) + off = (tgt : Int)) (kt : a = b → J n I L X tgt lv rest) (kf : a ≠ b → J n I L X (pc + 3) lv rest) : J n I L X pc lv (.int y :: .int x :: rest) := by
  subst hx; subst hy
  exact q_icmp_eq hM hd ht (fun h => kt ((nI_eq ha hb).mp h)) (fun h => kf (fun q => h ((nI_eq ha hb).mpr q)))
theorem q_icmp_neN (hM : Mach l cc own nL D K G n0 J) (a b : Nat) (hx : x = nI a) (hy : y = nI b) (ha : a < 2 ^ 31) (hb : b < 2 ^ 31) (hd : decode cc pc = .ok (.if_icmp .ne off, 3)) (ht : (pc : Int) + off = (tgt : Int)) (kt : a ≠ b → J n I L X tgt lv rest) (kf : a = b → J n I L X (pc + 3) lv rest) : J n I L X pc lv (.int y :: .int x :: rest) := by
  subst hx; subst hy
  exact q_icmp_ne hM hd ht (fun h => kt (fun q => h ((nI_eq ha hb).mpr q))) (fun h => kf ((nI_eq ha hb).mp h))
theorem q_if_leN (hM : Mach l cc own nL D K G n0 J) (a : Nat) (hx : x = nI a) (ha : a < 2 ^ 31) (hd : decode cc pc = .ok (.ifCond .le off, 3)) (ht : (pc : Int) + off = (tgt : Int)) (kt : a = 0 → J n I L X tgt lv rest) (kf : 0 < a → J n I L X (pc + 3) lv rest) : J n I L X pc lv (.int x :: rest) := by
  subst hx
  exact q_if_le hM hd ht (fun h => kt ((Nat.eq_zero_or_pos a).elim id (fun q => absurd h (nI_nle q ha)))) (fun h => kf ((Nat.eq_zero_or_pos a).elim (fun q => absurd (by rw [q]; decide) h) id))
end QN
section QT
variable {G : kG} {J : kJ} {n : Nat} {I : kI} {L : kL} {X : kX} {pc : Nat} {lv : kV} {rest : List Value}
theorem q_topi {x : Int32} (y : Int32) (h : x = y) (kk : J n I L X pc lv (.int y :: rest)) : J n I L X pc lv (.int x :: rest) := by rw [h]; exact kk
theorem q_topl {x : Int64} (y : Int64) (h : x = y) (kk : J n I L X pc lv (.long y :: rest)) : J n I L X pc lv (.long x :: rest) := by rw [h]; exact kk
theorem q_topb {z : Bool} (P : Prop) [Decidable P] (h : z = decide P) (kk : J n I L X pc lv (.int (bI (decide P)) :: rest)) : J n I L X pc lv (.int (bI z) :: rest) := by rw [h]; exact kk
end QT
theorem lgc_pos {x y : Int64} : 0 < lg_cmp x y ↔ y < x := by
  unfold lg_cmp
  simp only [gt_iff_lt, Int64.lt_iff_toInt_lt, ← Int64.toInt_inj]
  (repeat' split) <;> simp_all
theorem lgc_eq {x y : Int64} : lg_cmp x y = 0 ↔ x = y := by
  unfold lg_cmp
  simp only [gt_iff_lt, Int64.lt_iff_toInt_lt, ← Int64.toInt_inj]
  (repeat' split) <;> simp_all <;> omega
theorem lgc_neg {x y : Int64} : lg_cmp x y < 0 ↔ x < y := by
  unfold lg_cmp
  simp only [gt_iff_lt, Int64.lt_iff_toInt_lt, ← Int64.toInt_inj]
  (repeat' split) <;> simp_all <;> omega
/-- what isn't the present plant stays -/
def Fr1 (I I' : kI) (L L' : kL) : Prop := ∀ r, (r = 0 ∨ 21 ≤ r) → I' r = I r ∧ L' r = L r
theorem Fr1.rf {I : kI} {L : kL} : Fr1 I I L L := fun _ _ => ⟨rfl, rfl⟩
theorem Fr1.put {I I' : kI} {L L' : kL} {r j : Nat} {v : Int32} (h : Fr1 I I' L L') (h1 : 1 ≤ r) (h2 : r < 21) : Fr1 I (up2 I' r j v) L L' := fun x hx => ⟨by rw [up2_row (by omega)]; exact (h x hx).1, (h x hx).2⟩
theorem Fr1.putL {I I' : kI} {L L' : kL} {r j : Nat} {v : Int64} (h : Fr1 I I' L L') (h1 : 1 ≤ r) (h2 : r < 21) : Fr1 I I' L (up2 L' r j v) := fun x hx => ⟨(h x hx).1, by rw [up2_row (by omega)]; exact (h x hx).2⟩
theorem Fr1.trans {I I' I2 : kI} {L L' L2 : kL} (h : Fr1 I I' L L') (h' : Fr1 I' I2 L' L2) : Fr1 I I2 L L2 := fun x hx => ⟨(h' x hx).1.trans (h x hx).1, (h' x hx).2.trans (h x hx).2⟩
section SMU
variable {I I' : kI} {L L' : kL} {q : Nat} {f f' : Fr} {g g' : Gr}
theorem Sm.frame (h : Sm I L q f g) (hN : cI (f 1) ≤ 16) (hs : ∀ r, q ≤ r → r < q + 20 → I' r = I r ∧ L' r = L r) : Sm I' L' q f g := by
  obtain ⟨h1, h2, h3, h4, h5⟩ := h
  refine ⟨fun i hi => ?_, fun i hi => ?_, fun i hi => ?_, fun t ht => ⟨fun w hw => ?_, ?_⟩, fun t ht h16 => ?_⟩
  · rw [(hs q (by omega) (by omega)).1]; exact h1 i hi
  · rw [(hs (q + 1) (by omega) (by omega)).1]; exact h2 i hi
  · rw [(hs (q + 2) (by omega) (by omega)).1]; exact h3 i hi
  · rw [(hs (q + 4 + t) (by omega) (by omega)).1]; exact (h4 t ht).1 w hw
  · rw [(hs (q + 4 + t) (by omega) (by omega)).2]; exact (h4 t ht).2
  · rw [(hs (q + 4 + t) (by omega) (by omega)).1, (hs (q + 4 + t) (by omega) (by omega)).2]; exact h5 t ht h16
theorem Sm.congr (h : Sm I L q f g) (hg : ∀ t, t < cI (f 1) → g t = g' t) : Sm I L q f g' := by
  obtain ⟨h1, h2, h3, h4, h5⟩ := h
  exact ⟨h1, h2, h3, fun t ht => ⟨(h4 t ht).1, (h4 t ht).2.trans (hg t ht)⟩, h5⟩
theorem Sm.setT (h : Sm I L q f g) {t w : Nat} (ht : t < cI (f 1)) (hN : cI (f 1) ≤ 16) (hL : cI (f 0) ≤ 8) (hw : w < 7) (v : Int32) : Sm (up2 I (q + 4 + t) w v) L q (va_up f (19 + 7 * t + w) v) g := by
  have e0 : va_up f (19 + 7 * t + w) v 0 = f 0 := va_up_ne _ _ (by omega)
  have e1 : va_up f (19 + 7 * t + w) v 1 = f 1 := va_up_ne _ _ (by omega)
  obtain ⟨h1, h2, h3, h4, h5⟩ := h
  refine ⟨fun i hi => ?_, fun i hi => ?_, fun i hi => ?_, fun t' ht' => ⟨fun w' hw' => ?_, ?_⟩, fun t' ht' h16 => ?_⟩
  · rw [up2_ne (by omega), va_up_ne _ _ (by omega)]; exact h1 i hi
  · rw [up2_ne (by omega), va_up_ne _ _ (by omega)]; exact h2 i hi
  · rw [e0] at hi
    rw [up2_ne (by omega), va_up_ne _ _ (by omega)]; exact h3 i hi
  · rw [e1] at ht'
    unfold sOf
    by_cases hh : t' = t ∧ w' = w
    · obtain ⟨rfl, rfl⟩ := hh
      rw [up2_self, va_up_self]
    · rw [up2_ne (by omega), va_up_ne _ _ (by omega)]; exact (h4 t' ht').1 w' hw'
  · rw [e1] at ht'
    exact (h4 t' ht').2
  · rw [e1] at ht'
    rw [up2_ne (by omega), up2_ne (by omega)]; exact h5 t' ht' h16
theorem Sm.setG (h : Sm I L q f g) {t : Nat} (ht : t < cI (f 1)) (v : Int64) : Sm I (up2 L (q + 4 + t) 7 v) q f (va_up g t v) := by
  obtain ⟨h1, h2, h3, h4, h5⟩ := h
  refine ⟨h1, h2, h3, fun t' ht' => ⟨(h4 t' ht').1, ?_⟩, fun t' ht' h16 => ⟨(h5 t' ht' h16).1, (h5 t' ht' h16).2.1, ?_⟩⟩
  · by_cases hh : t' = t
    · subst hh
      rw [up2_self, va_up_self]
    · rw [up2_ne (by omega), va_up_ne _ _ hh]; exact (h4 t' ht').2
  · rw [up2_ne (by omega)]; exact (h5 t' ht' h16).2.2
theorem Sm.setS (h : Sm I L q f g) {i : Nat} (hi : i < 8) (h2 : 2 ≤ i) (v : Int32) : Sm (up2 I q (3 + i) v) L q (va_up f i v) g := by
  have e0 : va_up f i v 0 = f 0 := va_up_ne _ _ (by omega)
  have e1 : va_up f i v 1 = f 1 := va_up_ne _ _ (by omega)
  obtain ⟨k1, k2, k3, k4, k5⟩ := h
  refine ⟨fun j hj => ?_, fun j hj => ?_, fun j hj => ?_, fun t ht => ⟨fun w hw => ?_, ?_⟩, fun t ht h16 => ?_⟩
  · by_cases hh : j = i
    · subst hh
      rw [up2_self, va_up_self]
    · rw [up2_ne (by omega), va_up_ne _ _ hh]; exact k1 j hj
  · rw [up2_ne (by omega), va_up_ne _ _ (by omega)]; exact k2 j hj
  · rw [e0] at hj
    rw [up2_ne (by omega), va_up_ne _ _ (by omega)]; exact k3 j hj
  · rw [e1] at ht
    unfold sOf
    rw [up2_ne (by omega), va_up_ne _ _ (by omega)]; exact (k4 t ht).1 w hw
  · rw [e1] at ht
    exact (k4 t ht).2
  · rw [e1] at ht
    rw [up2_ne (by omega), up2_ne (by omega)]; exact k5 t ht h16
theorem Sm.setP (h : Sm I L q f g) {i : Nat} (hi : i < 3) (v : Int32) : Sm (up2 I (q + 1) i v) L q (va_up f (8 + i) v) g := by
  have e0 : va_up f (8 + i) v 0 = f 0 := va_up_ne _ _ (by omega)
  have e1 : va_up f (8 + i) v 1 = f 1 := va_up_ne _ _ (by omega)
  obtain ⟨k1, k2, k3, k4, k5⟩ := h
  refine ⟨fun j hj => ?_, fun j hj => ?_, fun j hj => ?_, fun t ht => ⟨fun w hw => ?_, ?_⟩, fun t ht h16 => ?_⟩
  · rw [up2_ne (by omega), va_up_ne _ _ (by omega)]; exact k1 j hj
  · by_cases hh : j = i
    · subst hh
      rw [up2_self, va_up_self]
    · rw [up2_ne (by omega), va_up_ne _ _ (by omega)]; exact k2 j hj
  · rw [e0] at hj
    rw [up2_ne (by omega), va_up_ne _ _ (by omega)]; exact k3 j hj
  · rw [e1] at ht
    unfold sOf
    rw [up2_ne (by omega), va_up_ne _ _ (by omega)]; exact (k4 t ht).1 w hw
  · rw [e1] at ht
    exact (k4 t ht).2
  · rw [e1] at ht
    rw [up2_ne (by omega), up2_ne (by omega)]; exact k5 t ht h16
theorem Sm.setH (h : Sm I L q f g) {i : Nat} (hi : i < 8) (v : Int32) : Sm (up2 I (q + 2) i v) L q (va_up f (11 + i) v) g := by
  have e0 : va_up f (11 + i) v 0 = f 0 := va_up_ne _ _ (by omega)
  have e1 : va_up f (11 + i) v 1 = f 1 := va_up_ne _ _ (by omega)
  obtain ⟨k1, k2, k3, k4, k5⟩ := h
  refine ⟨fun j hj => ?_, fun j hj => ?_, fun j hj => ?_, fun t ht => ⟨fun w hw => ?_, ?_⟩, fun t ht h16 => ?_⟩
  · rw [up2_ne (by omega), va_up_ne _ _ (by omega)]; exact k1 j hj
  · rw [up2_ne (by omega), va_up_ne _ _ (by omega)]; exact k2 j hj
  · rw [e0] at hj
    by_cases hh : j = i
    · subst hh
      rw [up2_self, va_up_self]
    · rw [up2_ne (by omega), va_up_ne _ _ (by omega)]; exact k3 j hj
  · rw [e1] at ht
    unfold sOf
    rw [up2_ne (by omega), va_up_ne _ _ (by omega)]; exact (k4 t ht).1 w hw
  · rw [e1] at ht
    exact (k4 t ht).2
  · rw [e1] at ht
    rw [up2_ne (by omega), up2_ne (by omega)]; exact k5 t ht h16
end SMU
end
section
/-! ===== the whole state as numbers, and the class's picture of it ===== -/
abbrev kA : Type := (Nat → Fr) × (Nat → Gr) × Nat × (Nat → Int32) × Nat
abbrev aF (A : kA) : Fr := A.1 0
abbrev aG (A : kA) : Gr := A.2.1 0
abbrev aN (A : kA) : Nat := A.2.2.1
abbrev aT (A : kA) : Nat → Int32 := A.2.2.2.1
abbrev aK (A : kA) : Nat := A.2.2.2.2
def kpS {α : Type} (B : Nat → α) (n : Nat) : Nat → α := fun k => if n = 5 then (if k = 5 then B 0 else if k = 0 then B 0 else B (k + 1)) else (if k = n + 1 then B 0 else B k)
def keepA (A : kA) : kA := (kpS A.1 (aN A), kpS A.2.1 (aN A), (if aN A = 5 then 5 else aN A + 1), A.2.2.2)
def setF (A : kA) (f : Fr) (g : Gr) : kA := (va_up A.1 0 f, va_up A.2.1 0 g, A.2.2)
theorem kpS_0 {α : Type} (B : Nat → α) (n : Nat) : kpS B n 0 = B 0 := by
  unfold kpS
  by_cases h : n = 5
  · rw [if_pos h]; simp
  · rw [if_neg h]; simp
def PermOK (pm : Nat → Nat) : Prop := (∀ i, i < 5 → ∃ j, j < 5 ∧ pm i = 23 + 20 * j) ∧ ∀ i j, i < 5 → j < 5 → pm i = pm j → i = j
theorem PermOK.P {pm : Nat → Nat} (h : PermOK pm) {i : Nat} (hi : i < 5) : isP (pm i) := by
  obtain ⟨j, hj, e⟩ := h.1 i hi
  exact Or.inr ⟨j, hj, e⟩
theorem PermOK.rng {pm : Nat → Nat} (h : PermOK pm) {i : Nat} (hi : i < 5) : 23 ≤ pm i ∧ pm i + 20 ≤ 123 := by
  obtain ⟨j, hj, e⟩ := h.1 i hi
  omega
theorem PermOK.apart {pm : Nat → Nat} (h : PermOK pm) {i j : Nat} (hi : i < 5) (hj : j < 5) (hij : i ≠ j) : pm i + 20 ≤ pm j ∨ pm j + 20 ≤ pm i := by
  obtain ⟨a, ha, e⟩ := h.1 i hi
  obtain ⟨b, hb, e'⟩ := h.1 j hj
  have : a ≠ b := fun q => hij (h.2 i j hi hj (by rw [e, e', q]))
  omega
/-- the history holds the states 1 .. n of A -/
def HC (I : kI) (L : kL) (X : kX) (pm : Nat → Nat) (A : kA) : Prop := Refs X pm ∧ PermOK pm ∧ I 21 1 = nI (aN A) ∧ ∀ i, i < aN A → Sm I L (pm i) (A.1 (i + 1)) (A.2.1 (i + 1))
def TC (I : kI) (A : kA) : Prop := I 130 2 = nI (aK A) ∧ ∀ j, j < aK A → I 131 j = aT A j
def AInv (A : kA) : Prop := aN A ≤ 5 ∧ aK A ≤ 100 ∧ ∀ k, k ≤ aN A → PInv (A.1 k)
def RC (I : kI) (L : kL) (X : kX) (A : kA) : Prop := ∃ pm, HC I L X pm A ∧ Sm I L 1 (aF A) (aG A) ∧ TC I A
theorem HC.frame {I I' : kI} {L L' : kL} {X X' : kX} {pm : Nat → Nat} {A : kA} (h : HC I L X pm A) (hA : AInv A) (hs : ∀ r, 21 ≤ r → r < 123 → I' r = I r ∧ L' r = L r) (hX : X' = X) : HC I' L' X' pm A := by
  obtain ⟨h1, h2, h3, h4⟩ := h
  subst hX
  refine ⟨h1, h2, by rw [(hs 21 (by omega) (by omega)).1]; exact h3, fun i hi => (h4 i hi).frame (hA.2.2 _ (by omega)).nT (fun r r1 r2 => ?_)⟩
  have := h2.rng (i := i) (by have := hA.1; omega)
  exact hs r (by omega) (by omega)
theorem HC.setF {I : kI} {L : kL} {X : kX} {pm : Nat → Nat} {A : kA} {f : Fr} {g : Gr} (h : HC I L X pm A) : HC I L X pm (setF A f g) := by
  obtain ⟨h1, h2, h3, h4⟩ := h
  refine ⟨h1, h2, h3, fun i hi => ?_⟩
  show Sm I L (pm i) (va_up A.1 0 f (i + 1)) (va_up A.2.1 0 g (i + 1))
  rw [va_up_ne _ _ (by omega), va_up_ne _ _ (by omega)]
  exact h4 i hi
theorem AInv.f {A : kA} (h : AInv A) : PInv (aF A) := h.2.2 0 (Nat.zero_le _)
theorem AInv.keep {A : kA} (h : AInv A) : AInv (keepA A) := by
  obtain ⟨h1, h2, h3⟩ := h
  refine ⟨?_, h2, fun k hk => ?_⟩
  · show (if aN A = 5 then 5 else aN A + 1) ≤ 5
    split <;> omega
  · show PInv (kpS A.1 (aN A) k)
    have hk' : k ≤ (if aN A = 5 then 5 else aN A + 1) := hk
    unfold kpS
    by_cases h5 : aN A = 5
    · rw [if_pos h5] at hk' ⊢
      (repeat' split)
      · exact h3 0 (by omega)
      · exact h3 0 (by omega)
      · exact h3 _ (by omega)
    · rw [if_neg h5] at hk' ⊢
      (repeat' split)
      · exact h3 0 (by omega)
      · exact h3 _ (by omega)
theorem AInv.set {A : kA} (h : AInv A) {f : Fr} {g : Gr} (hf : PInv f) : AInv (setF A f g) := by
  obtain ⟨h1, h2, h3⟩ := h
  refine ⟨h1, h2, fun k hk => ?_⟩
  show PInv (va_up A.1 0 f k)
  by_cases h0 : k = 0
  · subst h0; rw [va_up_self]; exact hf
  · rw [va_up_ne _ _ h0]; exact h3 k hk
/-- a plant copied -/
def Cp (I : kI) (L : kL) (q q' : Nat) (I' : kI) (L' : kL) : Prop :=
  (∀ i, 3 ≤ i → i < 11 → I' q i = I q' i) ∧ (∀ h, h < 3 → I' (q + 1) h = I (q' + 1) h) ∧ (∀ h, h < 8 → I' (q + 2) h = I (q' + 2) h) ∧
  (∀ t, t < 16 → (∀ w, w < 7 → I' (q + 4 + t) w = I (q' + 4 + t) w) ∧ L' (q + 4 + t) 7 = L (q' + 4 + t) 7)
theorem Sm.copy {I I' : kI} {L L' : kL} {q q' : Nat} {f : Fr} {g : Gr} (h : Sm I L q' f g) (hc : Cp I L q q' I' L') (hN : cI (f 1) ≤ 16) (hL : cI (f 0) ≤ 8) : Sm I' L' q f g := by
  obtain ⟨h1, h2, h3, h4, h5⟩ := h
  obtain ⟨k1, k2, k3, k4⟩ := hc
  refine ⟨fun i hi => (k1 _ (by omega) (by omega)).trans (h1 i hi), fun i hi => (k2 i hi).trans (h2 i hi), fun i hi => (k3 i (by omega)).trans (h3 i hi), fun t ht => ⟨fun w hw => ((k4 t (by omega)).1 w hw).trans ((h4 t ht).1 w hw), ((k4 t (by omega)).2).trans (h4 t ht).2⟩, fun t ht h16 => ⟨((k4 t h16).1 5 (by decide)).trans (h5 t ht h16).1, ((k4 t h16).1 6 (by decide)).trans (h5 t ht h16).2.1, ((k4 t h16).2).trans (h5 t ht h16).2.2⟩⟩
def rotP (pm : Nat → Nat) : Nat → Nat := fun i => if i < 4 then pm (i + 1) else pm 0
theorem PermOK.rot {pm : Nat → Nat} (h : PermOK pm) : PermOK (rotP pm) := by
  refine ⟨fun i hi => ?_, fun i j hi hj e => ?_⟩
  · unfold rotP
    split
    · exact h.1 _ (by omega)
    · exact h.1 _ (by omega)
  · unfold rotP at e
    split at e <;> split at e
    · have := h.2 _ _ (by omega) (by omega) e; omega
    · have := h.2 _ _ (by omega) (by omega) e; omega
    · have := h.2 _ _ (by omega) (by omega) e; omega
    · omega
theorem Refs.perm {X X' : kX} {pm pm' : Nat → Nat} (h : Refs X pm) (h1 : ∀ r, r ≠ 22 → X' r = X r) (h2 : ∀ i, i < 5 → X' 22 i = some (pm' i)) : Refs X' pm' := by
  have hq : ∀ q, isP q → q ≠ 22 ∧ q + 3 ≠ 22 := fun q hq => by rcases hq with rfl | ⟨i, hi, rfl⟩ <;> omega
  unfold Refs at h ⊢
  refine ⟨?_, fun q hP => ?_, ⟨?_, h2⟩, ?_, ?_, ?_⟩
  · rw [h1 0 (by decide)]; exact h.1
  · rw [h1 q (hq q hP).1, h1 (q + 3) (hq q hP).2]; exact h.2.1 q hP
  · rw [h1 21 (by decide)]; exact h.2.2.1.1
  · rw [h1 123 (by decide)]; exact h.2.2.2.1
  · rw [h1 127 (by decide)]; exact h.2.2.2.2.1
  · rw [h1 130 (by decide), h1 132 (by decide)]; exact h.2.2.2.2.2
end
section
/-! ===== the calls, as numbers: answers (r..) and states behind them (s..) ===== -/
def isH (h : Int32) : Prop := 0 ≤ h ∧ h < 3
section OPS
variable (A : kA)
def rSetPressure (h p : Int32) : Int32 := if 0 ≤ h ∧ h < 3 then (if 1 ≤ p ∧ p ≤ 20 then aF A (8 + cI h) else -3) else -2
def sSetPressure (h p : Int32) : kA := if 0 ≤ h ∧ h < 3 then (if 1 ≤ p ∧ p ≤ 20 then setF (keepA A) (va_up (aF A) (8 + cI h) p) (aG A) else A) else A
def rAddLine (h : Int32) : Int32 := if 0 ≤ h ∧ h < 3 then (if aF A 0 = 8 then -5 else aF A 0) else -2
def sAddLine (h : Int32) : kA := if 0 ≤ h ∧ h < 3 then (if aF A 0 = 8 then A else setF (keepA A) (va_up (va_up (aF A) (11 + cI (aF A 0)) h) 0 (aF A 0 + 1)) (aG A)) else A
def trapF (f : Fr) (a k z x y : Int32) : Fr :=
  va_up (va_up (va_up (va_up (va_up (va_up (va_up (va_up f (19 + 7 * cI (f 1)) a) (19 + 7 * cI (f 1) + 1) k) (19 + 7 * cI (f 1) + 2) z) (19 + 7 * cI (f 1) + 3) x) (19 + 7 * cI (f 1) + 4) y) (19 + 7 * cI (f 1) + 5) 0) (19 + 7 * cI (f 1) + 6) (-1)) 1 (f 1 + 1)
def rAddTrap (a k z x y : Int32) : Int32 := if 0 ≤ a ∧ a < aF A 0 then (if 0 ≤ k ∧ k ≤ 2 then (if 1 ≤ z ∧ z ≤ 9 then (if 0 ≤ x ∧ x ≤ 50 then (if 0 ≤ y ∧ y ≤ 50 then (if aF A 1 = 16 then -5 else aF A 1) else -3) else -3) else -3) else -3) else -2
def sAddTrap (a k z x y : Int32) : kA := if 0 ≤ a ∧ a < aF A 0 then (if 0 ≤ k ∧ k ≤ 2 then (if 1 ≤ z ∧ z ≤ 9 then (if 0 ≤ x ∧ x ≤ 50 then (if 0 ≤ y ∧ y ≤ 50 then (if aF A 1 = 16 then A else setF (keepA A) (trapF (aF A) a k z x y) (va_up (aG A) (cI (aF A 1)) 0)) else A) else A) else A) else A) else A
def rMoveLine (i h : Int32) : Int32 := if 0 ≤ i ∧ i < aF A 0 then (if 0 ≤ h ∧ h < 3 then aF A (11 + cI i) else -2) else -2
def sMoveLine (i h : Int32) : kA := if 0 ≤ i ∧ i < aF A 0 then (if 0 ≤ h ∧ h < 3 then setF (keepA A) (va_up (aF A) (11 + cI i) h) (aG A) else A) else A
def rSetWork (a p i : Int32) : Int32 := if 1 ≤ a ∧ a ≤ 24 then (if 1 ≤ p ∧ p ≤ 1000 then (if 1 ≤ i ∧ i ≤ 400 then aF A 2 else -3) else -3) else -3
def sSetWork (a p i : Int32) : kA := if 1 ≤ a ∧ a ≤ 24 then (if 1 ≤ p ∧ p ≤ 1000 then (if 1 ≤ i ∧ i ≤ 400 then setF (keepA A) (va_up (va_up (va_up (aF A) 2 a) 3 p) 4 i) (aG A) else A) else A) else A
def rCount (w : Int32) : Int32 := if 0 ≤ w ∧ w ≤ 7 then aF A (cI w) else -3
def rTrap (t w : Int32) : Int32 := if 0 ≤ t ∧ t < aF A 1 then (if 0 ≤ w ∧ w ≤ 7 then (if w = 7 then aF A (11 + cI (sOf (aF A) (cI t) 0)) else sOf (aF A) (cI t) (cI w)) else -3) else -2
def rHeaderOf (i : Int32) : Int32 := if 0 ≤ i ∧ i < aF A 0 then aF A (11 + cI i) else -2
def rPressure (h : Int32) : Int32 := if 0 ≤ h ∧ h < 3 then aF A (8 + cI h) else -2
def rJudge (t i o c : Int32) : Int32 := if 0 ≤ t ∧ t < aF A 1 then (if 0 ≤ i ∧ i ≤ 300 then (if 0 ≤ o ∧ o ≤ 300 then (if 0 ≤ c ∧ c ≤ 60 then sJud (aF A) (cI t) i o c else -3) else -3) else -3) else -2
def sRead (t i o c : Int32) : kA := if 0 ≤ t ∧ t < aF A 1 then (if 0 ≤ i ∧ i ≤ 300 then (if 0 ≤ o ∧ o ≤ 300 then (if 0 ≤ c ∧ c ≤ 60 then setF (keepA A) (readF (aF A) (cI t) (sJud (aF A) (cI t) i o c)) (aG A) else A) else A) else A) else A
def rPass (d : Int32) : Int32 := if 1 ≤ d ∧ d ≤ 100 then (if 10000 < aF A 5 + d then -5 else aF A 5 + d) else -3
def sPass (d : Int32) : kA := if 1 ≤ d ∧ d ≤ 100 then (if 10000 < aF A 5 + d then A else setF (keepA A) (va_up (aF A) 5 (aF A 5 + d)) (passG (aF A) (aG A) d)) else A
def rInState (s : Int32) : Int32 := if 0 ≤ s ∧ s ≤ 5 then sSum (fun t => if sOf (aF A) t 5 = s then 1 else 0) (cI (aF A 1)) else -3
def rLoss (t : Int32) : Int32 := if 0 ≤ t ∧ t < aF A 1 then sLoss (aF A) (cI t) else -2
def rLineLoss (i : Int32) : Int32 := if 0 ≤ i ∧ i < aF A 0 then sSum (fun t => if sOf (aF A) t 0 = i then sLoss (aF A) t else 0) (cI (aF A 1)) else -2
def rHeaderLoss (h : Int32) : Int32 := if 0 ≤ h ∧ h < 3 then sSum (fun t => if nI (sH (aF A) t) = h then sLoss (aF A) t else 0) (cI (aF A 1)) else -2
def rLost (t : Int32) : Int64 := if t = -1 then sSumL (aG A) (cI (aF A 1)) else (if 0 ≤ t ∧ t < aF A 1 then aG A (cI t) else -2)
def rSaves (t : Int32) : Int64 := if 0 ≤ t ∧ t < aF A 1 then sWorth (aF A) (cI t) / 1000000 else -2
def rRepairCost (t : Int32) : Int32 := if 0 ≤ t ∧ t < aF A 1 then sCost (aF A) (cI t) else -2
def rPayback (t : Int32) : Int64 := if 0 ≤ t ∧ t < aF A 1 then sPay (aF A) (cI t) else -2
def rRepair (t : Int32) : Int32 := if 0 ≤ t ∧ t < aF A 1 then (if sOf (aF A) (cI t) 5 < 2 then -4 else sCost (aF A) (cI t)) else -2
def sRepair (t : Int32) : kA := if 0 ≤ t ∧ t < aF A 1 then (if sOf (aF A) (cI t) 5 < 2 then A else setF (keepA A) (mendF (aF A) (cI t)) (aG A)) else A
def rIsDue (t : Int32) : Int32 := if 0 ≤ t ∧ t < aF A 1 then (if sDue (aF A) (cI t) then 1 else 0) else -2
def rDueOn (t : Int32) : Int32 := if 0 ≤ t ∧ t < aF A 1 then (if sDue (aF A) (cI t) then aF A 5 else sOf (aF A) (cI t) 6 + aF A 4) else -2
def rUndo : Int32 := if aN A = 0 then -4 else nI (aN A - 1)
def sUndo : kA := if aN A = 0 then A else (va_up A.1 0 (A.1 (aN A)), va_up A.2.1 0 (A.2.1 (aN A)), aN A - 1, A.2.2.2)
def rType (c : Int32) : Int32 := if 0 ≤ c ∧ c ≤ 255 then (if aK A = 100 then -5 else nI (aK A + 1)) else -3
def sType (c : Int32) : kA := if 0 ≤ c ∧ c ≤ 255 then (if aK A = 100 then A else (A.1, A.2.1, aN A, va_up (aT A) (aK A) c, aK A + 1)) else A
def rClear : Int32 := nI (aK A)
def sClear : kA := (A.1, A.2.1, aN A, aT A, 0)
end OPS
/-- what isn't the class's stays -/
def FrM (I I' : kI) (L L' : kL) (X X' : kX) : Prop := ∀ r, 153 ≤ r → I' r = I r ∧ L' r = L r ∧ X' r = X r
theorem FrM.rf {I : kI} {L : kL} {X : kX} : FrM I I L L X X := fun _ _ => ⟨rfl, rfl, rfl⟩
theorem FrM.of1 {I I' : kI} {L L' : kL} {X : kX} (h : Fr1 I I' L L') : FrM I I' L L' X X := fun r hr => ⟨(h r (by omega)).1, (h r (by omega)).2, rfl⟩
theorem FrM.trans {I I1 I2 : kI} {L L1 L2 : kL} {X X1 X2 : kX} (h : FrM I I1 L L1 X X1) (h' : FrM I1 I2 L1 L2 X1 X2) : FrM I I2 L L2 X X2 := fun r hr => ⟨(h' r hr).1.trans (h r hr).1, (h' r hr).2.1.trans (h r hr).2.1, (h' r hr).2.2.trans (h r hr).2.2⟩
theorem trapYes {f : Fr} (hP : PInv f) {j : Nat} (hj : j < cI (f 1)) : 0 ≤ nI j ∧ nI j < f 1 := by
  have hn := hP.nT
  refine ⟨?_, ?_⟩
  · rw [le_i, nI_toInt (by omega), i0]; omega
  · rw [hP.e1]; exact nI_lt hj (by omega)
theorem lineYes {f : Fr} (hP : PInv f) {i : Int32} (h : 0 ≤ i ∧ i < f 0) : i = nI (cI i) ∧ cI i < cI (f 0) := by
  obtain ⟨h1, h2⟩ := h
  rw [le_i, i0] at h1
  rw [lt_i] at h2
  have h3 := cI_int h1
  have h4 := cI_int hP.1.1.1
  exact ⟨nI_cI h1, by omega⟩
theorem hdrYes {i : Int32} (h : 0 ≤ i ∧ i < 3) : i = nI (cI i) ∧ cI i < 3 := by
  obtain ⟨h1, h2⟩ := h
  rw [le_i, i0] at h1
  rw [lt_i] at h2
  have h3 := cI_int h1
  have h4 : (3 : Int32).toInt = 3 := rfl
  exact ⟨nI_cI h1, by omega⟩
/-- keep, seen from the calls -/
def KPost (I : kI) (L : kL) (X : kX) (A : kA) (I' : kI) (L' : kL) (X' : kX) : Prop := (∃ pm', HC I' L' X' pm' (keepA A)) ∧ (∀ r, (r < 21 ∨ 123 ≤ r) → I' r = I r ∧ L' r = L r ∧ X' r = X r)
theorem KPost.sm {I I' : kI} {L L' : kL} {X X' : kX} {A : kA} (h : KPost I L X A I' L' X') (hA : AInv A) (hS : Sm I L 1 (aF A) (aG A)) : Sm I' L' 1 (aF A) (aG A) := hS.frame hA.f.nT (fun r r1 r2 => ⟨(h.2 r (by omega)).1, (h.2 r (by omega)).2.1⟩)
/-- the end of a call that keeps the state and changes the plant -/
theorem RC.done {I I1 I2 : kI} {L L1 L2 : kL} {X X1 X2 : kX} {A : kA} {f : Fr} {g : Gr} (hk : KPost I L X A I1 L1 X1) (hA : AInv A) (hT : TC I A) (hS : Sm I2 L2 1 f g) (hF : Fr1 I1 I2 L1 L2) (hX : X1 = X2) : RC I2 L2 X2 (setF (keepA A) f g) ∧ FrM I I2 L L2 X X2 := by
  obtain ⟨⟨pm', hH⟩, hk2⟩ := hk
  subst hX
  refine ⟨⟨pm', (hH.frame hA.keep (fun r r1 r2 => hF r (by omega)) rfl).setF (f := f) (g := g), ?_, ?_⟩, fun r hr => ⟨((hF r (by omega)).1).trans (hk2 r (by omega)).1, ((hF r (by omega)).2).trans (hk2 r (by omega)).2.1, (hk2 r (by omega)).2.2⟩⟩
  · show Sm I2 L2 1 (va_up (keepA A).1 0 f 0) (va_up (keepA A).2.1 0 g 0)
    rw [va_up_self, va_up_self]
    exact hS
  · refine ⟨?_, fun j hj => ?_⟩
    · rw [(hF 130 (by omega)).1, (hk2 130 (by omega)).1]; exact hT.1
    · rw [(hF 131 (by omega)).1, (hk2 131 (by omega)).1]; exact hT.2 j hj
theorem tsw8 {w : Int32} (h : 0 ≤ w ∧ w ≤ 7) : w = 0 ∨ w = 1 ∨ w = 2 ∨ w = 3 ∨ w = 4 ∨ w = 5 ∨ w = 6 ∨ w = 7 := by
  simp only [le_i, eq_i, i0] at h ⊢
  have h1 : (1 : Int32).toInt = 1 := rfl
  have h2 : (2 : Int32).toInt = 2 := rfl
  have h3 : (3 : Int32).toInt = 3 := rfl
  have h4 : (4 : Int32).toInt = 4 := rfl
  have h5 : (5 : Int32).toInt = 5 := rfl
  have h6 : (6 : Int32).toInt = 6 := rfl
  have h7 : (7 : Int32).toInt = 7 := rfl
  omega
theorem tsw8n {w : Int32} (h : ¬ (0 ≤ w ∧ w ≤ 7)) : w.toInt < 0 ∨ 7 < w.toInt := by
  simp only [le_i, i0] at h
  have h7 : (7 : Int32).toInt = 7 := rfl
  omega
theorem judC_pos (k i o c p : Int32) : 0 ≤ judC k i o c p := by
  unfold judC
  (repeat' split) <;> decide
def jAll (A : kA) (t i o c : Int32) : Prop := (0 ≤ t ∧ t < aF A 1) ∧ (0 ≤ i ∧ i ≤ 300) ∧ (0 ≤ o ∧ o ≤ 300) ∧ (0 ≤ c ∧ c ≤ 60)
theorem jud_yes {A : kA} {t i o c : Int32} (h : jAll A t i o c) : rJudge A t i o c = sJud (aF A) (cI t) i o c ∧ sRead A t i o c = setF (keepA A) (readF (aF A) (cI t) (sJud (aF A) (cI t) i o c)) (aG A) := by
  unfold rJudge sRead
  rw [if_pos h.1, if_pos h.2.1, if_pos h.2.2.1, if_pos h.2.2.2, if_pos h.1, if_pos h.2.1, if_pos h.2.2.1, if_pos h.2.2.2]
  exact ⟨rfl, rfl⟩
theorem jud_no {A : kA} {t i o c : Int32} (h : ¬ jAll A t i o c) : ¬ 0 ≤ rJudge A t i o c ∧ sRead A t i o c = A := by
  unfold rJudge sRead
  by_cases h1 : 0 ≤ t ∧ t < aF A 1
  · rw [if_pos h1, if_pos h1]
    by_cases h2 : 0 ≤ i ∧ i ≤ 300
    · rw [if_pos h2, if_pos h2]
      by_cases h3 : 0 ≤ o ∧ o ≤ 300
      · rw [if_pos h3, if_pos h3]
        by_cases h4 : 0 ≤ c ∧ c ≤ 60
        · exact absurd ⟨h1, h2, h3, h4⟩ h
        · rw [if_neg h4, if_neg h4]; exact ⟨by decide, rfl⟩
      · rw [if_neg h3, if_neg h3]; exact ⟨by decide, rfl⟩
    · rw [if_neg h2, if_neg h2]; exact ⟨by decide, rfl⟩
  · rw [if_neg h1, if_neg h1]; exact ⟨by decide, rfl⟩
end
section
/-! ===== a line, a trap more ===== -/
theorem trapIx {f : Fr} (hP : PInv f) {i : Int32} (h : 0 ≤ i ∧ i < f 1) : i = nI (cI i) ∧ cI i < cI (f 1) := by
  obtain ⟨h1, h2⟩ := h
  rw [le_i, i0] at h1
  rw [lt_i] at h2
  have h3 := cI_int h1
  have h4 := cI_int hP.1.2.1
  exact ⟨nI_cI h1, by omega⟩
theorem Sm.addL {I : kI} {L : kL} {f : Fr} {g : Gr} (h : Sm I L 1 f g) (hP : PInv f) (hlt : cI (f 0) < 8) (v : Int32) : Sm (up2 (up2 I 3 (cI (f 0)) v) 1 3 (f 0 + 1)) L 1 (va_up (va_up f (11 + cI (f 0)) v) 0 (f 0 + 1)) g := by
  have e0 : cI (f 0 + 1) = cI (f 0) + 1 := by
    have := hP.e0
    rw [this, nI_1, cI_nI (by omega), ← this]
  have e1 : va_up (va_up f (11 + cI (f 0)) v) 0 (f 0 + 1) 1 = f 1 := by rw [va_up_ne _ _ (by decide), va_up_ne _ _ (by omega)]
  obtain ⟨h1, h2, h3, h4, h5⟩ := h
  refine ⟨fun i hi => ?_, fun i hi => ?_, fun i hi => ?_, fun t ht => ⟨fun w hw => ?_, ?_⟩, fun t ht h16 => ?_⟩
  · by_cases hi0 : i = 0
    · subst hi0
      rw [va_up_self]; exact up2_self _ _ _ _
    · rw [up2_ne (by omega), up2_ne (by omega), va_up_ne _ _ hi0, va_up_ne _ _ (by omega)]; exact h1 i hi
  · rw [up2_ne (by omega), up2_ne (by omega), va_up_ne _ _ (by omega), va_up_ne _ _ (by omega)]; exact h2 i hi
  · rw [va_up_self, e0] at hi
    rw [up2_ne (by omega), va_up_ne _ _ (by omega)]
    by_cases hin : i = cI (f 0)
    · subst hin
      rw [va_up_self]; exact up2_self _ _ _ _
    · rw [up2_ne (by omega), va_up_ne _ _ (by omega)]; exact h3 i (by omega)
  · rw [e1] at ht
    unfold sOf
    rw [up2_ne (by omega), up2_ne (by omega), va_up_ne _ _ (by omega), va_up_ne _ _ (by omega)]; exact (h4 t ht).1 w hw
  · rw [e1] at ht
    exact (h4 t ht).2
  · rw [e1] at ht
    rw [up2_ne (by omega), up2_ne (by omega), up2_ne (by omega), up2_ne (by omega)]; exact h5 t ht h16
theorem trapF_lo {f : Fr} {a k z x y : Int32} {i : Nat} (hi : i < 19 + 7 * cI (f 1)) (h1 : i ≠ 1) : trapF f a k z x y i = f i := by
  unfold trapF
  rw [va_up_ne _ _ h1, va_up_ne _ _ (by omega), va_up_ne _ _ (by omega), va_up_ne _ _ (by omega), va_up_ne _ _ (by omega), va_up_ne _ _ (by omega), va_up_ne _ _ (by omega), va_up_ne _ _ (by omega)]
theorem trapF_1 {f : Fr} {a k z x y : Int32} : trapF f a k z x y 1 = f 1 + 1 := va_up_self _ _ _
theorem trapF_new {f : Fr} {a k z x y : Int32} : sOf (trapF f a k z x y) (cI (f 1)) 0 = a ∧ sOf (trapF f a k z x y) (cI (f 1)) 1 = k ∧ sOf (trapF f a k z x y) (cI (f 1)) 2 = z ∧ sOf (trapF f a k z x y) (cI (f 1)) 3 = x ∧ sOf (trapF f a k z x y) (cI (f 1)) 4 = y ∧ sOf (trapF f a k z x y) (cI (f 1)) 5 = 0 ∧ sOf (trapF f a k z x y) (cI (f 1)) 6 = -1 := by
  have h1 : ∀ w, 19 + 7 * cI (f 1) + w ≠ 1 := fun w => by omega
  unfold sOf trapF
  refine ⟨?_, ?_, ?_, ?_, ?_, ?_, ?_⟩ <;> rw [va_up_ne _ _ (h1 _)] <;> simp [va_up]
theorem Sm.addT {I : kI} {L : kL} {f : Fr} {g : Gr} (h : Sm I L 1 f g) (hP : PInv f) (hlt : cI (f 1) < 16) (a k z x y : Int32) : Sm (up2 (up2 (up2 (up2 (up2 (up2 I (5 + cI (f 1)) 0 a) (5 + cI (f 1)) 1 k) (5 + cI (f 1)) 2 z) (5 + cI (f 1)) 3 x) (5 + cI (f 1)) 4 y) 1 4 (f 1 + 1)) L 1 (trapF f a k z x y) (va_up g (cI (f 1)) 0) := by
  have hL := hP.nL
  have e1 : cI (f 1 + 1) = cI (f 1) + 1 := by
    have := hP.e1
    rw [this, nI_1, cI_nI (by omega), ← this]
  have e0 : trapF f a k z x y 0 = f 0 := trapF_lo (by omega) (by decide)
  have far : ∀ (r j : Nat), r ≠ 5 + cI (f 1) → (r ≠ 1 ∨ j ≠ 4) → up2 (up2 (up2 (up2 (up2 (up2 I (5 + cI (f 1)) 0 a) (5 + cI (f 1)) 1 k) (5 + cI (f 1)) 2 z) (5 + cI (f 1)) 3 x) (5 + cI (f 1)) 4 y) 1 4 (f 1 + 1) r j = I r j := fun r j hr hj => by
    rw [up2_ne hj]
    simp only [up2_row hr]
  obtain ⟨h1, h2, h3, h4, h5⟩ := h
  have nw := trapF_new (f := f) (a := a) (k := k) (z := z) (x := x) (y := y)
  have u5 := h5 (cI (f 1)) (Nat.le_refl _) hlt
  rw [show 1 + 4 + cI (f 1) = 5 + cI (f 1) by omega] at u5
  refine ⟨fun i hi => ?_, fun i hi => ?_, fun i hi => ?_, fun t ht => ?_, fun t ht h16 => ?_⟩
  · by_cases hi1 : i = 1
    · subst hi1
      rw [trapF_1]; exact up2_self _ _ _ _
    · rw [far _ _ (by omega) (by omega), trapF_lo (by omega) hi1]; exact h1 i hi
  · rw [far _ _ (by omega) (by omega), trapF_lo (by omega) (by omega)]; exact h2 i hi
  · rw [e0] at hi
    rw [far _ _ (by omega) (by omega), trapF_lo (by omega) (by omega)]; exact h3 i hi
  · rw [trapF_1, e1] at ht
    by_cases htn : t = cI (f 1)
    · subst htn
      rw [show 1 + 4 + cI (f 1) = 5 + cI (f 1) by omega, va_up_self]
      refine ⟨fun w hw => ?_, u5.2.2⟩
      rcases (show w = 0 ∨ w = 1 ∨ w = 2 ∨ w = 3 ∨ w = 4 ∨ w = 5 ∨ w = 6 by omega) with rfl | rfl | rfl | rfl | rfl | rfl | rfl
      · rw [nw.1, up2_ne (by omega)]; simp [up2]
      · rw [nw.2.1, up2_ne (by omega)]; simp [up2]
      · rw [nw.2.2.1, up2_ne (by omega)]; simp [up2]
      · rw [nw.2.2.2.1, up2_ne (by omega)]; simp [up2]
      · rw [nw.2.2.2.2.1, up2_ne (by omega)]; simp [up2]
      · rw [nw.2.2.2.2.2.1, up2_ne (by omega)]; simp [up2]; exact u5.1
      · rw [nw.2.2.2.2.2.2, up2_ne (by omega)]; simp [up2]; exact u5.2.1
    · rw [va_up_ne _ _ htn]
      refine ⟨fun w hw => ?_, (h4 t (by omega)).2⟩
      rw [far _ _ (by omega) (by omega)]
      unfold sOf
      rw [trapF_lo (by omega) (by omega)]
      exact (h4 t (by omega)).1 w hw
  · rw [trapF_1, e1] at ht
    rw [far _ _ (by omega) (by omega), far _ _ (by omega) (by omega)]
    exact h5 t (by omega) h16
end
section
/-! ===== the reference's picture of the state ===== -/
def RB (I : kI) (L : kL) (B : Nat → Fr) (C : Nat → Gr) : Prop := (∀ k, k < 6 → ∀ i, i < 131 → I 154 (131 * k + i) = B k i) ∧ ∀ k, k < 6 → ∀ t, t < 16 → L 155 (16 * k + t) = C k t
def RM (I : kI) (L : kL) (X : kX) (A : kA) : Prop := RefM X ∧ RB I L A.1 A.2.1 ∧ I 153 2 = nI (aN A) ∧ I 153 8 = nI (aK A) ∧ ∀ j, j < aK A → I 158 j = aT A j
/-- the present block -/
def Mm (I : kI) (L : kL) (f : Fr) (g : Gr) : Prop := (∀ i, i < 131 → I 154 i = f i) ∧ ∀ t, t < 16 → L 155 t = g t
theorem RM.m {I : kI} {L : kL} {X : kX} {A : kA} (h : RM I L X A) : Mm I L (aF A) (aG A) := ⟨fun i hi => by have := h.2.1.1 0 (by decide) i hi; rwa [Nat.mul_zero, Nat.zero_add] at this, fun t ht => by have := h.2.1.2 0 (by decide) t ht; rwa [Nat.mul_zero, Nat.zero_add] at this⟩
theorem RB.congr {I : kI} {L : kL} {B B' : Nat → Fr} {C C' : Nat → Gr} (h : RB I L B C) (h1 : ∀ k, k < 6 → B k = B' k) (h2 : ∀ k, k < 6 → C k = C' k) : RB I L B' C' := ⟨fun k hk i hi => by rw [← h1 k hk]; exact h.1 k hk i hi, fun k hk t ht => by rw [← h2 k hk]; exact h.2 k hk t ht⟩
theorem RM.start {I : kI} {L : kL} {X : kX} {A : kA} (h : RM I L X A) : RM I L X (setF A (aF A) (aG A)) := by
  obtain ⟨h1, h2, h3⟩ := h
  refine ⟨h1, h2.congr (fun k _ => ?_) (fun k _ => ?_), h3⟩
  · show A.1 k = va_up A.1 0 (A.1 0) k
    by_cases hk : k = 0
    · subst hk; rw [va_up_self]
    · rw [va_up_ne _ _ hk]
  · show A.2.1 k = va_up A.2.1 0 (A.2.1 0) k
    by_cases hk : k = 0
    · subst hk; rw [va_up_self]
    · rw [va_up_ne _ _ hk]
theorem RM.mf {I : kI} {L : kL} {X : kX} {A : kA} {f : Fr} {g : Gr} (h : RM I L X (setF A f g)) : Mm I L f g := by
  have := h.m
  unfold aF aG setF at this
  simp only [va_up_self] at this
  exact this
theorem RM.setI {I : kI} {L : kL} {X : kX} {A : kA} {f : Fr} {g : Gr} (h : RM I L X (setF A f g)) {i : Nat} (hi : i < 131) (v : Int32) : RM (up2 I 154 i v) L X (setF A (va_up f i v) g) := by
  obtain ⟨h1, ⟨h2, h3⟩, h4, h5, h6⟩ := h
  refine ⟨h1, ⟨fun k hk j hj => ?_, h3⟩, ?_, ?_, fun j hj => ?_⟩
  · have h7 := h2 k hk j hj
    show up2 I 154 i v 154 (131 * k + j) = va_up A.1 0 (va_up f i v) k j
    have h8 : I 154 (131 * k + j) = va_up A.1 0 f k j := h7
    by_cases hk0 : k = 0
    · subst hk0
      rw [va_up_self] at h8 ⊢
      rw [Nat.mul_zero, Nat.zero_add] at h8 ⊢
      by_cases hji : j = i
      · subst hji; rw [up2_self, va_up_self]
      · rw [up2_ne (by omega), va_up_ne _ _ hji]; exact h8
    · rw [va_up_ne _ _ hk0] at h8 ⊢
      rw [up2_ne (by omega)]; exact h8
  · rw [up2_ne (by omega)]; exact h4
  · rw [up2_ne (by omega)]; exact h5
  · rw [up2_ne (by omega)]; exact h6 j hj
theorem RM.setL {I : kI} {L : kL} {X : kX} {A : kA} {f : Fr} {g : Gr} (h : RM I L X (setF A f g)) {t : Nat} (ht : t < 16) (v : Int64) : RM I (up2 L 155 t v) X (setF A f (va_up g t v)) := by
  obtain ⟨h1, ⟨h2, h3⟩, h4⟩ := h
  refine ⟨h1, ⟨h2, fun k hk j hj => ?_⟩, h4⟩
  have h8 : L 155 (16 * k + j) = va_up A.2.1 0 g k j := h3 k hk j hj
  show up2 L 155 t v 155 (16 * k + j) = va_up A.2.1 0 (va_up g t v) k j
  by_cases hk0 : k = 0
  · subst hk0
    rw [va_up_self] at h8 ⊢
    rw [Nat.mul_zero, Nat.zero_add] at h8 ⊢
    by_cases hji : j = t
    · subst hji; rw [up2_self, va_up_self]
    · rw [up2_ne (by omega), va_up_ne _ _ hji]; exact h8
  · rw [va_up_ne _ _ hk0] at h8 ⊢
    rw [up2_ne (by omega)]; exact h8
theorem RM.gcong {I : kI} {L : kL} {X : kX} {A : kA} {f : Fr} {g g' : Gr} (h : RM I L X (setF A f g)) (hg : ∀ t, t < 16 → g t = g' t) : RM I L X (setF A f g') := by
  obtain ⟨h1, ⟨h2, h3⟩, h4⟩ := h
  refine ⟨h1, ⟨h2, fun k hk j hj => ?_⟩, h4⟩
  have h8 : L 155 (16 * k + j) = va_up A.2.1 0 g k j := h3 k hk j hj
  show L 155 (16 * k + j) = va_up A.2.1 0 g' k j
  by_cases hk0 : k = 0
  · subst hk0
    rw [va_up_self] at h8 ⊢
    rw [h8, hg j hj]
  · rw [va_up_ne _ _ hk0] at h8 ⊢
    exact h8
/-- what isn't the reference's stays -/
def FrC (I I' : kI) (L L' : kL) (X X' : kX) : Prop := ∀ r, r < 153 → I' r = I r ∧ L' r = L r ∧ X' r = X r
theorem FrC.rf {I : kI} {L : kL} {X : kX} : FrC I I L L X X := fun _ _ => ⟨rfl, rfl, rfl⟩
theorem FrC.put {I I' : kI} {L L' : kL} {X X' : kX} {r j : Nat} {v : Int32} (h : FrC I I' L L' X X') (hr : 153 ≤ r) : FrC I (up2 I' r j v) L L' X X' := fun x hx => ⟨by rw [up2_row (by omega)]; exact (h x hx).1, (h x hx).2⟩
theorem FrC.putL {I I' : kI} {L L' : kL} {X X' : kX} {r j : Nat} {v : Int64} (h : FrC I I' L L' X X') (hr : 153 ≤ r) : FrC I I' L (up2 L' r j v) X X' := fun x hx => ⟨(h x hx).1, by rw [up2_row (by omega)]; exact (h x hx).2.1, (h x hx).2.2⟩
theorem FrC.trans {I I1 I2 : kI} {L L1 L2 : kL} {X X1 X2 : kX} (h : FrC I I1 L L1 X X1) (h' : FrC I1 I2 L1 L2 X1 X2) : FrC I I2 L L2 X X2 := fun r hr => ⟨(h' r hr).1.trans (h r hr).1, (h' r hr).2.1.trans (h r hr).2.1, (h' r hr).2.2.trans (h r hr).2.2⟩
theorem trapEx {f : Fr} (hP : PInv f) {i : Int32} (h : 0 ≤ i ∧ i < f 1) : ∃ j, j < cI (f 1) ∧ i = nI j := ⟨_, (trapIx hP h).2, (trapIx hP h).1⟩
theorem lineEx {f : Fr} (hP : PInv f) {i : Int32} (h : 0 ≤ i ∧ i < f 0) : ∃ j, j < cI (f 0) ∧ i = nI j := ⟨_, (lineYes hP h).2, (lineYes hP h).1⟩
theorem hdrEx {i : Int32} (h : 0 ≤ i ∧ i < 3) : ∃ j, j < 3 ∧ i = nI j := ⟨_, (hdrYes h).2, (hdrYes h).1⟩
theorem ix7 (t w : Nat) : 19 + 7 * nI t + nI w = nI (19 + 7 * t + w) := by rw [show (19 : Int32) = nI 19 from rfl, show (7 : Int32) = nI 7 from rfl, pk_mul, nI_add, nI_add]
theorem in_last {i m : Int32} (hm : inR 0 m 16) : (0 ≤ i ∧ i ≤ m - 1) ↔ (0 ≤ i ∧ i < m) := by
  obtain ⟨h1, h2⟩ := hm
  have k1 : (1 : Int32).toInt = 1 := rfl
  have e : (m - 1).toInt = m.toInt - 1 := by rw [sub_i (by omega) (by omega)]; omega
  simp only [le_i, lt_i, e]
  omega
theorem in_two {i : Int32} : (0 ≤ i ∧ i ≤ 2) ↔ (0 ≤ i ∧ i < 3) := by
  have k2 : (2 : Int32).toInt = 2 := rfl
  have k3 : (3 : Int32).toInt = 3 := rfl
  simp only [le_i, lt_i]
  omega
section QMM
variable {l : Launch} {cc : ByteArray} {own : String} {nL D K : Nat} {G : kG} {n0 : Nat} {J : kJ} {n : Nat} {I : kI} {L : kL} {X : kX} {pc : Nat} {lv : kV} {rest : List Value} {f : Fr} {g : Gr}
theorem q_row (hM : Mach l cc own nL D K G n0 J) (hm : Mm I L f g) {x : Int32} (i : Nat) (hx : x = nI i) (hi : i < 131) (hn : 154 < n) (hd : decode cc pc = .ok (.iaload, 1)) (kk : J n I L X (pc + 1) lv (.int (f i) :: rest)) : J n I L X pc lv (.int x :: .ref (ad G 154) :: rest) :=
  q_iald hM hn (by decide) i hx (show i < 786 by omega) hd (by rw [hm.1 i hi]; exact kk)
theorem q_rowst (hM : Mach l cc own nL D K G n0 J) {x v : Int32} (i : Nat) (hx : x = nI i) (hi : i < 131) (hn : 154 < n) (hd : decode cc pc = .ok (.iastore, 1)) (kk : J n (up2 I 154 i v) L X (pc + 1) lv rest) : J n I L X pc lv (.int v :: .int x :: .ref (ad G 154) :: rest) :=
  q_iast hM hn (by decide) i hx (show i < 786 by omega) hd kk
theorem q_lo (hM : Mach l cc own nL D K G n0 J) (hm : Mm I L f g) {x : Int32} (i : Nat) (hx : x = nI i) (hi : i < 16) (hn : 155 < n) (hd : decode cc pc = .ok (.laload, 1)) (kk : J n I L X (pc + 1) lv (.long (g i) :: rest)) : J n I L X pc lv (.int x :: .ref (ad G 155) :: rest) :=
  q_lald hM hn (by decide) i hx (show i < 96 by omega) hd (by rw [hm.2 i hi]; exact kk)
theorem q_lost (hM : Mach l cc own nL D K G n0 J) {x : Int32} {v : Int64} (i : Nat) (hx : x = nI i) (hi : i < 16) (hn : 155 < n) (hd : decode cc pc = .ok (.lastore, 1)) (kk : J n I (up2 L 155 i v) X (pc + 1) lv rest) : J n I L X pc lv (.long v :: .int x :: .ref (ad G 155) :: rest) :=
  q_last hM hn (by decide) i hx (show i < 96 by omega) hd kk
end QMM
/-- a block copied, its first places -/
def cp131 (F : Nat → Nat → Int32) (a b k : Nat) : Nat → Nat → Int32 := fun r j => if r = 154 ∧ 131 * b ≤ j ∧ j < 131 * b + k then F 154 (131 * a + (j - 131 * b)) else F r j
theorem cp131_0 (F : Nat → Nat → Int32) (a b : Nat) : cp131 F a b 0 = F := by
  funext r j
  unfold cp131
  rw [if_neg (by omega)]
theorem cp131_s (F : Nat → Nat → Int32) (a b k : Nat) : up2 (cp131 F a b k) 154 (131 * b + k) (F 154 (131 * a + k)) = cp131 F a b (k + 1) := by
  funext r j
  by_cases h : r = 154 ∧ j = 131 * b + k
  · obtain ⟨rfl, rfl⟩ := h
    rw [up2_self]
    unfold cp131
    rw [if_pos (by omega), show 131 * b + k - 131 * b = k by omega]
  · rw [up2_ne (by omega)]
    unfold cp131
    by_cases h2 : r = 154 ∧ 131 * b ≤ j ∧ j < 131 * b + k
    · rw [if_pos h2, if_pos (by omega)]
    · rw [if_neg h2, if_neg (by omega)]
theorem cp131_r (F : Nat → Nat → Int32) {a b k : Nat} (h : a ≠ b) (hk : k < 131) : cp131 F a b k 154 (131 * a + k) = F 154 (131 * a + k) := by
  unfold cp131
  rw [if_neg (by omega)]
def cp16 (F : Nat → Nat → Int64) (a b k : Nat) : Nat → Nat → Int64 := fun r j => if r = 155 ∧ 16 * b ≤ j ∧ j < 16 * b + k then F 155 (16 * a + (j - 16 * b)) else F r j
theorem cp16_0 (F : Nat → Nat → Int64) (a b : Nat) : cp16 F a b 0 = F := by
  funext r j
  unfold cp16
  rw [if_neg (by omega)]
theorem cp16_s (F : Nat → Nat → Int64) (a b k : Nat) : up2 (cp16 F a b k) 155 (16 * b + k) (F 155 (16 * a + k)) = cp16 F a b (k + 1) := by
  funext r j
  by_cases h : r = 155 ∧ j = 16 * b + k
  · obtain ⟨rfl, rfl⟩ := h
    rw [up2_self]
    unfold cp16
    rw [if_pos (by omega), show 16 * b + k - 16 * b = k by omega]
  · rw [up2_ne (by omega)]
    unfold cp16
    by_cases h2 : r = 155 ∧ 16 * b ≤ j ∧ j < 16 * b + k
    · rw [if_pos h2, if_pos (by omega)]
    · rw [if_neg h2, if_neg (by omega)]
theorem cp16_r (F : Nat → Nat → Int64) {a b k : Nat} (h : a ≠ b) (hk : k < 16) : cp16 F a b k 155 (16 * a + k) = F 155 (16 * a + k) := by
  unfold cp16
  rw [if_neg (by omega)]
theorem RB.copy {I : kI} {L : kL} {B : Nat → Fr} {C : Nat → Gr} (h : RB I L B C) {a b : Nat} (ha : a < 6) (hab : a ≠ b) : RB (cp131 I a b 131) (cp16 L a b 16) (va_up B b (B a)) (va_up C b (C a)) := by
  refine ⟨fun k hk i hi => ?_, fun k hk t ht => ?_⟩
  · unfold cp131
    by_cases hkb : k = b
    · subst hkb
      rw [if_pos (by omega), va_up_self, show 131 * k + i - 131 * k = i by omega]
      exact h.1 a ha i hi
    · rw [if_neg (by omega), va_up_ne _ _ hkb]
      exact h.1 k hk i hi
  · unfold cp16
    by_cases hkb : k = b
    · subst hkb
      rw [if_pos (by omega), va_up_self, show 16 * k + t - 16 * k = t by omega]
      exact h.2 a ha t ht
    · rw [if_neg (by omega), va_up_ne _ _ hkb]
      exact h.2 k hk t ht
end
section
/-! ===== the ranges hold behind every call ===== -/
theorem PInv.upS {f : Fr} (hP : PInv f) {i : Nat} {v : Int32} (h2 : 2 ≤ i) (h8 : i < 8) (hv : (i = 2 → inR 1 v 24) ∧ (i = 3 → inR 1 v 1000) ∧ (i = 4 → inR 1 v 400) ∧ (i = 5 → inR 0 v 10000)) : PInv (va_up f i v) := by
  have hn := hP.nT
  have hn8 := hP.nL
  have ne : ∀ j, j ≠ i → va_up f i v j = f j := fun j hj => va_up_ne _ _ hj
  obtain ⟨⟨k1, k2⟩, ⟨k3, k4, k5, k6⟩, k7, k8, k9⟩ := hP
  refine ⟨⟨by rw [ne 0 (by omega)]; exact k1, by rw [ne 1 (by omega)]; exact k2⟩, ⟨?_, ?_, ?_, ?_⟩, fun h hh => by rw [ne _ (by omega)]; exact k7 h hh, fun j hj => ?_, fun t ht => ?_⟩
  · by_cases e : i = 2
    · subst e; rw [va_up_self]; exact hv.1 rfl
    · rw [ne 2 (by omega)]; exact k3
  · by_cases e : i = 3
    · subst e; rw [va_up_self]; exact hv.2.1 rfl
    · rw [ne 3 (by omega)]; exact k4
  · by_cases e : i = 4
    · subst e; rw [va_up_self]; exact hv.2.2.1 rfl
    · rw [ne 4 (by omega)]; exact k5
  · by_cases e : i = 5
    · subst e; rw [va_up_self]; exact hv.2.2.2 rfl
    · rw [ne 5 (by omega)]; exact k6
  · rw [ne 0 (by omega)] at hj
    rw [ne _ (by omega)]; exact k8 j hj
  · rw [ne 1 (by omega)] at ht
    have h10 := k9 t ht
    unfold TInv sOf at h10 ⊢
    rw [ne 0 (by omega), ne (19 + 7 * t + 0) (by omega), ne (19 + 7 * t + 1) (by omega), ne (19 + 7 * t + 2) (by omega), ne (19 + 7 * t + 3) (by omega), ne (19 + 7 * t + 4) (by omega), ne (19 + 7 * t + 5) (by omega), ne (19 + 7 * t + 6) (by omega)]
    exact h10
theorem PInv.upP {f : Fr} (hP : PInv f) {i : Nat} {v : Int32} (hi : i < 3) (hv : inR 1 v 20) : PInv (va_up f (8 + i) v) := by
  have hn := hP.nT
  have hn8 := hP.nL
  have ne : ∀ j, j ≠ 8 + i → va_up f (8 + i) v j = f j := fun j hj => va_up_ne _ _ hj
  obtain ⟨⟨k1, k2⟩, ⟨k3, k4, k5, k6⟩, k7, k8, k9⟩ := hP
  refine ⟨⟨by rw [ne 0 (by omega)]; exact k1, by rw [ne 1 (by omega)]; exact k2⟩, ⟨by rw [ne 2 (by omega)]; exact k3, by rw [ne 3 (by omega)]; exact k4, by rw [ne 4 (by omega)]; exact k5, by rw [ne 5 (by omega)]; exact k6⟩, fun h hh => ?_, fun j hj => ?_, fun t ht => ?_⟩
  · by_cases e : h = i
    · subst e; rw [va_up_self]; exact hv
    · rw [ne _ (by omega)]; exact k7 h hh
  · rw [ne 0 (by omega)] at hj
    rw [ne _ (by omega)]; exact k8 j hj
  · rw [ne 1 (by omega)] at ht
    have h10 := k9 t ht
    unfold TInv sOf at h10 ⊢
    rw [ne 0 (by omega), ne (19 + 7 * t + 0) (by omega), ne (19 + 7 * t + 1) (by omega), ne (19 + 7 * t + 2) (by omega), ne (19 + 7 * t + 3) (by omega), ne (19 + 7 * t + 4) (by omega), ne (19 + 7 * t + 5) (by omega), ne (19 + 7 * t + 6) (by omega)]
    exact h10
theorem PInv.upH {f : Fr} (hP : PInv f) {i : Nat} {v : Int32} (hi : i < 8) (hv : inR 0 v 2) : PInv (va_up f (11 + i) v) := by
  have hn := hP.nT
  have hn8 := hP.nL
  have ne : ∀ j, j ≠ 11 + i → va_up f (11 + i) v j = f j := fun j hj => va_up_ne _ _ hj
  obtain ⟨⟨k1, k2⟩, ⟨k3, k4, k5, k6⟩, k7, k8, k9⟩ := hP
  refine ⟨⟨by rw [ne 0 (by omega)]; exact k1, by rw [ne 1 (by omega)]; exact k2⟩, ⟨by rw [ne 2 (by omega)]; exact k3, by rw [ne 3 (by omega)]; exact k4, by rw [ne 4 (by omega)]; exact k5, by rw [ne 5 (by omega)]; exact k6⟩, fun h hh => by rw [ne _ (by omega)]; exact k7 h hh, fun j hj => ?_, fun t ht => ?_⟩
  · rw [ne 0 (by omega)] at hj
    by_cases e : j = i
    · subst e; rw [va_up_self]; exact hv
    · rw [ne _ (by omega)]; exact k8 j hj
  · rw [ne 1 (by omega)] at ht
    have h10 := k9 t ht
    unfold TInv sOf at h10 ⊢
    rw [ne 0 (by omega), ne (19 + 7 * t + 0) (by omega), ne (19 + 7 * t + 1) (by omega), ne (19 + 7 * t + 2) (by omega), ne (19 + 7 * t + 3) (by omega), ne (19 + 7 * t + 4) (by omega), ne (19 + 7 * t + 5) (by omega), ne (19 + 7 * t + 6) (by omega)]
    exact h10
theorem PInv.addL {f : Fr} (hP : PInv f) {v : Int32} (hv : inR 0 v 2) (hlt : cI (f 0) < 8) : PInv (va_up (va_up f (11 + cI (f 0)) v) 0 (f 0 + 1)) := by
  have hn := hP.nT
  have e0 : cI (f 0 + 1) = cI (f 0) + 1 := by
    have := hP.e0
    rw [this, nI_1, cI_nI (by omega), ← this]
  have hi := cI_int hP.1.1.1
  have ei : (f 0 + 1).toInt = (f 0).toInt + 1 := by rw [add_i (by have : (1 : Int32).toInt = 1 := rfl; omega) (by have : (1 : Int32).toInt = 1 := rfl; omega)]; rfl
  have ne : ∀ j, j ≠ 0 → j ≠ 11 + cI (f 0) → va_up (va_up f (11 + cI (f 0)) v) 0 (f 0 + 1) j = f j := fun j h1 h2 => by rw [va_up_ne _ _ h1, va_up_ne _ _ h2]
  obtain ⟨⟨k1, k2⟩, ⟨k3, k4, k5, k6⟩, k7, k8, k9⟩ := hP
  unfold inR at k1
  refine ⟨⟨by rw [va_up_self]; unfold inR; omega, by rw [ne 1 (by omega) (by omega)]; exact k2⟩, ⟨by rw [ne 2 (by omega) (by omega)]; exact k3, by rw [ne 3 (by omega) (by omega)]; exact k4, by rw [ne 4 (by omega) (by omega)]; exact k5, by rw [ne 5 (by omega) (by omega)]; exact k6⟩, fun h hh => by rw [ne _ (by omega) (by omega)]; exact k7 h hh, fun j hj => ?_, fun t ht => ?_⟩
  · rw [va_up_self, e0] at hj
    by_cases e : j = cI (f 0)
    · subst e; rw [va_up_ne _ _ (by omega), va_up_self]; exact hv
    · rw [ne _ (by omega) (by omega)]; exact k8 j (by omega)
  · rw [ne 1 (by omega) (by omega)] at ht
    have h10 := k9 t ht
    unfold TInv sOf at h10 ⊢
    rw [va_up_self, ne (19 + 7 * t + 0) (by omega) (by omega), ne (19 + 7 * t + 1) (by omega) (by omega), ne (19 + 7 * t + 2) (by omega) (by omega), ne (19 + 7 * t + 3) (by omega) (by omega), ne (19 + 7 * t + 4) (by omega) (by omega), ne (19 + 7 * t + 5) (by omega) (by omega), ne (19 + 7 * t + 6) (by omega) (by omega)]
    exact ⟨by have := h10.1; omega, h10.2⟩
theorem PInv.addT {f : Fr} (hP : PInv f) {a k z x y : Int32} (hlt : cI (f 1) < 16) (ha : 0 ≤ a.toInt ∧ a.toInt < (f 0).toInt) (hk : inR 0 k 2) (hz : inR 1 z 9) (hx : inR 0 x 50) (hy : inR 0 y 50) : PInv (trapF f a k z x y) := by
  have hn8 := hP.nL
  have e1 : cI (f 1 + 1) = cI (f 1) + 1 := by
    have := hP.e1
    rw [this, nI_1, cI_nI (by omega), ← this]
  have hi := cI_int hP.1.2.1
  have ei : (f 1 + 1).toInt = (f 1).toInt + 1 := by have hr := hP.1.2; unfold inR at hr; rw [add_i (by have : (1 : Int32).toInt = 1 := rfl; omega) (by have : (1 : Int32).toInt = 1 := rfl; omega)]; rfl
  have ne : ∀ j, j ≠ 1 → j < 19 + 7 * cI (f 1) → trapF f a k z x y j = f j := fun j h1 h2 => trapF_lo h2 h1
  have nw := trapF_new (f := f) (a := a) (k := k) (z := z) (x := x) (y := y)
  obtain ⟨⟨k1, k2⟩, ⟨k3, k4, k5, k6⟩, k7, k8, k9⟩ := hP
  unfold inR at k2
  refine ⟨⟨by rw [ne 0 (by omega) (by omega)]; exact k1, by rw [trapF_1]; unfold inR; omega⟩, ⟨by rw [ne 2 (by omega) (by omega)]; exact k3, by rw [ne 3 (by omega) (by omega)]; exact k4, by rw [ne 4 (by omega) (by omega)]; exact k5, by rw [ne 5 (by omega) (by omega)]; exact k6⟩, fun h hh => by rw [ne _ (by omega) (by omega)]; exact k7 h hh, fun j hj => ?_, fun t ht => ?_⟩
  · rw [ne 0 (by omega) (by omega)] at hj
    rw [ne _ (by omega) (by omega)]; exact k8 j hj
  · rw [trapF_1, e1] at ht
    by_cases e : t = cI (f 1)
    · subst e
      unfold TInv
      rw [nw.1, nw.2.1, nw.2.2.1, nw.2.2.2.1, nw.2.2.2.2.1, nw.2.2.2.2.2.1, nw.2.2.2.2.2.2, ne 0 (by omega) (by omega)]
      exact ⟨ha, hk, hz, hx, hy, ⟨by decide, by decide⟩, ⟨by decide, by decide⟩⟩
    · have h10 := k9 t (by omega)
      unfold TInv sOf at h10 ⊢
      rw [ne 0 (by omega) (by omega), ne (19 + 7 * t + 0) (by omega) (by omega), ne (19 + 7 * t + 1) (by omega) (by omega), ne (19 + 7 * t + 2) (by omega) (by omega), ne (19 + 7 * t + 3) (by omega) (by omega), ne (19 + 7 * t + 4) (by omega) (by omega), ne (19 + 7 * t + 5) (by omega) (by omega), ne (19 + 7 * t + 6) (by omega) (by omega)]
      exact h10
theorem PInv.upT {f : Fr} (hP : PInv f) {t w : Nat} {v : Int32} (ht : t < cI (f 1)) (hw : w = 5 ∧ inR 0 v 5 ∨ w = 6 ∧ inR (-1) v 10000) : PInv (va_up f (19 + 7 * t + w) v) := by
  have hn := hP.nT
  have hn8 := hP.nL
  have lo : ∀ i, i < 19 → va_up f (19 + 7 * t + w) v i = f i := fun i hi => va_up_ne _ _ (by omega)
  obtain ⟨⟨h1, h2⟩, ⟨h3, h4, h5, h6⟩, h7, h8, h9⟩ := hP
  refine ⟨⟨by rw [lo 0 (by decide)]; exact h1, by rw [lo 1 (by decide)]; exact h2⟩, ⟨by rw [lo 2 (by decide)]; exact h3, by rw [lo 3 (by decide)]; exact h4, by rw [lo 4 (by decide)]; exact h5, by rw [lo 5 (by decide)]; exact h6⟩, fun h hh => by rw [lo _ (by omega)]; exact h7 h hh, fun i hi => ?_, fun t' ht' => ?_⟩
  · rw [lo 0 (by decide)] at hi
    rw [lo _ (by omega)]; exact h8 i hi
  · rw [lo 1 (by decide)] at ht'
    have h10 := h9 t' ht'
    unfold TInv sOf at h10 ⊢
    rw [lo 0 (by decide)]
    have keep : ∀ w', w' < 7 → (t' ≠ t ∨ w' ≠ w) → va_up f (19 + 7 * t + w) v (19 + 7 * t' + w') = f (19 + 7 * t' + w') := fun w' hw' hne => va_up_ne _ _ (by omega)
    by_cases htt : t' = t
    · subst htt
      rcases hw with ⟨rfl, hv⟩ | ⟨rfl, hv⟩
      · rw [keep 0 (by decide) (by omega), keep 1 (by decide) (by omega), keep 2 (by decide) (by omega), keep 3 (by decide) (by omega), keep 4 (by decide) (by omega), va_up_self, keep 6 (by decide) (by omega)]
        exact ⟨h10.1, h10.2.1, h10.2.2.1, h10.2.2.2.1, h10.2.2.2.2.1, hv, h10.2.2.2.2.2.2⟩
      · rw [keep 0 (by decide) (by omega), keep 1 (by decide) (by omega), keep 2 (by decide) (by omega), keep 3 (by decide) (by omega), keep 4 (by decide) (by omega), keep 5 (by decide) (by omega), va_up_self]
        exact ⟨h10.1, h10.2.1, h10.2.2.1, h10.2.2.2.1, h10.2.2.2.2.1, h10.2.2.2.2.2.1, hv⟩
    · rw [keep 0 (by decide) (by omega), keep 1 (by decide) (by omega), keep 2 (by decide) (by omega), keep 3 (by decide) (by omega), keep 4 (by decide) (by omega), keep 5 (by decide) (by omega), keep 6 (by decide) (by omega)]
      exact h10
theorem PInv.st1 {f : Fr} (hP : PInv f) {t : Nat} (ht : t < cI (f 1)) : PInv (va_up f (19 + 7 * t + 5) 1) := hP.upT ht (Or.inl ⟨rfl, ⟨by decide, by decide⟩⟩)
theorem PInv.mend {f : Fr} (hP : PInv f) {t : Nat} (ht : t < cI (f 1)) : PInv (mendF f t) := by
  unfold mendF
  exact ((hP.st1 ht).upS (i := 6) (by decide) (by decide) ⟨by omega, by omega, by omega, by omega⟩).upS (i := 7) (by decide) (by decide) ⟨by omega, by omega, by omega, by omega⟩
theorem judC_rng (k i o c p : Int32) : inR 0 (judC k i o c p) 5 := by
  unfold judC
  (repeat' split) <;> exact ⟨by decide, by decide⟩
theorem PInv.read {f : Fr} (hP : PInv f) {t : Nat} (ht : t < cI (f 1)) {v : Int32} (hv : inR 0 v 5) : PInv (readF f t v) := by
  unfold readF
  refine (hP.upT ht (Or.inl ⟨rfl, hv⟩)).upT (w := 6) (by rw [va_up_ne _ _ (by omega)]; exact ht) (Or.inr ⟨rfl, ?_⟩)
  have := hP.2.1.2.2.2
  unfold inR at this ⊢
  omega
theorem lit_rng {x : Int32} {a b : Nat} (ha : a < 2 ^ 31) (hb : b < 2 ^ 31) (h : nI a ≤ x ∧ x ≤ nI b) : inR a x b := by
  obtain ⟨h1, h2⟩ := h
  rw [le_i, nI_toInt ha] at h1
  rw [le_i, nI_toInt hb] at h2
  exact ⟨h1, h2⟩
theorem inv_setPressure {A : kA} (hA : AInv A) (h p : Int32) : AInv (sSetPressure A h p) := by
  unfold sSetPressure
  split
  · split
    · rename_i h1 h2
      exact hA.keep.set (hA.f.upP (hdrYes h1).2 (lit_rng (a := 1) (b := 20) (by decide) (by decide) h2))
    · exact hA
  · exact hA
theorem inv_addLine {A : kA} (hA : AInv A) (h : Int32) : AInv (sAddLine A h) := by
  unfold sAddLine
  split
  · split
    · exact hA
    · rename_i h1 h2
      have hlt : cI (aF A 0) < 8 := by
        have := hA.f.nL
        rcases Nat.lt_or_ge (cI (aF A 0)) 8 with q | q
        · exact q
        · exact absurd (by rw [hA.f.e0, show cI (aF A 0) = 8 by omega]; rfl) h2
      have h3 := in_two.mpr h1
      exact hA.keep.set (hA.f.addL (lit_rng (a := 0) (b := 2) (by decide) (by decide) h3) hlt)
  · exact hA
theorem inv_addTrap {A : kA} (hA : AInv A) (a k z x y : Int32) : AInv (sAddTrap A a k z x y) := by
  unfold sAddTrap
  by_cases h1 : 0 ≤ a ∧ a < aF A 0
  · rw [if_pos h1]
    by_cases h2 : 0 ≤ k ∧ k ≤ 2
    · rw [if_pos h2]
      by_cases h3 : 1 ≤ z ∧ z ≤ 9
      · rw [if_pos h3]
        by_cases h4 : 0 ≤ x ∧ x ≤ 50
        · rw [if_pos h4]
          by_cases h5 : 0 ≤ y ∧ y ≤ 50
          · rw [if_pos h5]
            by_cases h6 : aF A 1 = 16
            · rw [if_pos h6]; exact hA
            · rw [if_neg h6]
              have hlt : cI (aF A 1) < 16 := by
                have := hA.f.nT
                rcases Nat.lt_or_ge (cI (aF A 1)) 16 with q | q
                · exact q
                · exact absurd (by rw [hA.f.e1, show cI (aF A 1) = 16 by omega]; rfl) h6
              refine hA.keep.set (hA.f.addT hlt ?_ (lit_rng (a := 0) (b := 2) (by decide) (by decide) h2) (lit_rng (a := 1) (b := 9) (by decide) (by decide) h3) (lit_rng (a := 0) (b := 50) (by decide) (by decide) h4) (lit_rng (a := 0) (b := 50) (by decide) (by decide) h5))
              simp only [le_i, lt_i, i0] at h1
              exact h1
          · rw [if_neg h5]; exact hA
        · rw [if_neg h4]; exact hA
      · rw [if_neg h3]; exact hA
    · rw [if_neg h2]; exact hA
  · rw [if_neg h1]; exact hA
theorem inv_moveLine {A : kA} (hA : AInv A) (i h : Int32) : AInv (sMoveLine A i h) := by
  unfold sMoveLine
  split
  · split
    · rename_i h1 h2
      have := hA.f.nL
      have := (lineYes hA.f h1).2
      exact hA.keep.set (hA.f.upH (by omega) (lit_rng (a := 0) (b := 2) (by decide) (by decide) (in_two.mpr h2)))
    · exact hA
  · exact hA
theorem inv_setWork {A : kA} (hA : AInv A) (a p i : Int32) : AInv (sSetWork A a p i) := by
  unfold sSetWork
  by_cases h1 : 1 ≤ a ∧ a ≤ 24
  · rw [if_pos h1]
    by_cases h2 : 1 ≤ p ∧ p ≤ 1000
    · rw [if_pos h2]
      by_cases h3 : 1 ≤ i ∧ i ≤ 400
      · rw [if_pos h3]
        refine hA.keep.set (((hA.f.upS (i := 2) (by decide) (by decide) ⟨fun _ => lit_rng (a := 1) (b := 24) (by decide) (by decide) h1, by omega, by omega, by omega⟩).upS (i := 3) (by decide) (by decide) ⟨by omega, fun _ => lit_rng (a := 1) (b := 1000) (by decide) (by decide) h2, by omega, by omega⟩).upS (i := 4) (by decide) (by decide) ⟨by omega, by omega, fun _ => lit_rng (a := 1) (b := 400) (by decide) (by decide) h3, by omega⟩)
      · rw [if_neg h3]; exact hA
    · rw [if_neg h2]; exact hA
  · rw [if_neg h1]; exact hA
theorem inv_read {A : kA} (hA : AInv A) (t i o c : Int32) : AInv (sRead A t i o c) := by
  by_cases h : jAll A t i o c
  · rw [(jud_yes h).2]
    exact hA.keep.set (hA.f.read (trapIx hA.f h.1).2 (judC_rng _ _ _ _ _))
  · rw [(jud_no h).2]; exact hA
theorem pass_rng {f : Fr} (hP : PInv f) {d : Int32} (h1 : 1 ≤ d ∧ d ≤ 100) (h2 : ¬ 10000 < f 5 + d) : inR 0 (f 5 + d) 10000 := by
  have h3 := hP.2.1.2.2.2
  have h4 := lit_rng (a := 1) (b := 100) (by decide) (by decide) h1
  unfold inR at h3 h4 ⊢
  have e : (f 5 + d).toInt = (f 5).toInt + d.toInt := add_i (by omega) (by omega)
  rw [lt_i, show (10000 : Int32).toInt = 10000 from rfl] at h2
  omega
theorem inv_pass {A : kA} (hA : AInv A) (d : Int32) : AInv (sPass A d) := by
  unfold sPass
  split
  · split
    · exact hA
    · rename_i h1 h2
      exact hA.keep.set (hA.f.upS (i := 5) (by decide) (by decide) ⟨by omega, by omega, by omega, fun _ => pass_rng hA.f h1 h2⟩)
  · exact hA
theorem inv_repair {A : kA} (hA : AInv A) (t : Int32) : AInv (sRepair A t) := by
  unfold sRepair
  split
  · split
    · exact hA
    · rename_i h1 h2
      exact hA.keep.set (hA.f.mend (trapIx hA.f h1).2)
  · exact hA
theorem inv_undo {A : kA} (hA : AInv A) : AInv (sUndo A) := by
  unfold sUndo
  split
  · exact hA
  · obtain ⟨h1, h2, h3⟩ := hA
    refine ⟨?_, h2, fun k hk => ?_⟩
    · show aN A - 1 ≤ 5
      omega
    · have hk' : k ≤ aN A - 1 := hk
      show PInv (va_up A.1 0 (A.1 (aN A)) k)
      by_cases h0 : k = 0
      · subst h0; rw [va_up_self]; exact h3 _ (Nat.le_refl _)
      · rw [va_up_ne _ _ h0]; exact h3 k (by omega)
theorem inv_type {A : kA} (hA : AInv A) (c : Int32) : AInv (sType A c) := by
  unfold sType
  split
  · split
    · exact hA
    · obtain ⟨h1, h2, h3⟩ := hA
      exact ⟨h1, by show aK A + 1 ≤ 100; omega, h3⟩
  · exact hA
theorem inv_clear {A : kA} (hA : AInv A) : AInv (sClear A) := ⟨hA.1, Nat.zero_le _, hA.2.2⟩
theorem sLoss_up5 {f : Fr} {v : Int32} (t : Nat) : sLoss (va_up f 5 v) t = sLoss f t := by
  have h : ∀ i, 8 ≤ i → va_up f 5 v i = f i := fun i hi => va_up_ne _ _ (by omega)
  unfold sLoss sP sH sOf
  rw [h (19 + 7 * t + 0) (by omega), h (19 + 7 * t + 2) (by omega), h (19 + 7 * t + 5) (by omega), h (11 + cI (f (19 + 7 * t + 0))) (by omega), h (8 + cI (f (11 + cI (f (19 + 7 * t + 0))))) (by omega)]
theorem aF_keep (A : kA) : aF (keepA A) = aF A := kpS_0 _ _
theorem aG_keep (A : kA) : aG (keepA A) = aG A := kpS_0 _ _
theorem RM.kept {I : kI} {L : kL} {X : kX} {A : kA} (h : RM I L X (keepA A)) : RM I L X (setF (keepA A) (aF A) (aG A)) := by
  have := h.start
  rw [aF_keep, aG_keep] at this
  exact this
end
