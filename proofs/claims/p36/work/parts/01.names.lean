-- ===== PART A: goes FIRST, ahead of the names: the tables' words, and 'selects' of the private methods out of them =====
/-- a private method of a class that the tables say can be made, by its rows of tables_1 -/
def lw_okq (q : MethodName × Nat) : Prop := (q.1.cls ≠ "java/lang/invoke/MethodHandle" ∧ q.1.cls ≠ "java/lang/invoke/VarHandle") ∧ Cond.instantiable q.1.cls q.2 ∈ tables_1 ∧ Cond.privateMethod q.1 ∈ tables_1 ∧ Cond.instanceMethod q.1 ∈ tables_1
theorem lw_p0 : lw_okq (⟨"TrapSurvey$History", "dropOldest", "()V"⟩, 2) := ⟨⟨by decide +kernel, by decide +kernel⟩, List.mem_of_getElem? (i := 125) (by decide +kernel), List.mem_of_getElem? (i := 240) (by decide +kernel), List.mem_of_getElem? (i := 241) (by decide +kernel)⟩
theorem lw_p1 : lw_okq (⟨"TrapSurvey$RepairOrder", "insert", "(I)V"⟩, 4) := ⟨⟨by decide +kernel, by decide +kernel⟩, List.mem_of_getElem? (i := 142) (by decide +kernel), List.mem_of_getElem? (i := 405) (by decide +kernel), List.mem_of_getElem? (i := 406) (by decide +kernel)⟩
theorem lw_p2 : lw_okq (⟨"TrapSurvey$RepairOrder", "isBetter", "(II)Z"⟩, 4) := ⟨⟨by decide +kernel, by decide +kernel⟩, List.mem_of_getElem? (i := 142) (by decide +kernel), List.mem_of_getElem? (i := 409) (by decide +kernel), List.mem_of_getElem? (i := 410) (by decide +kernel)⟩
theorem lw_p3 : lw_okq (⟨"TrapSurvey$SurveyRound", "nearestWaiting", "(LTrapSurvey$Plant;II)I"⟩, 4) := ⟨⟨by decide +kernel, by decide +kernel⟩, List.mem_of_getElem? (i := 162) (by decide +kernel), List.mem_of_getElem? (i := 438) (by decide +kernel), List.mem_of_getElem? (i := 439) (by decide +kernel)⟩
theorem lw_p4 : lw_okq (⟨"TrapSurvey$ReadingText", "scanList", "(I)Z"⟩, 5) := ⟨⟨by decide +kernel, by decide +kernel⟩, List.mem_of_getElem? (i := 183) (by decide +kernel), List.mem_of_getElem? (i := 474) (by decide +kernel), List.mem_of_getElem? (i := 475) (by decide +kernel)⟩
theorem lw_p5 : lw_okq (⟨"TrapSurvey$ReadingText", "scanReading", "([II)Z"⟩, 5) := ⟨⟨by decide +kernel, by decide +kernel⟩, List.mem_of_getElem? (i := 183) (by decide +kernel), List.mem_of_getElem? (i := 478) (by decide +kernel), List.mem_of_getElem? (i := 479) (by decide +kernel)⟩
theorem lw_p6 : lw_okq (⟨"TrapSurvey$ReadingText", "scanNumber", "([III)Z"⟩, 5) := ⟨⟨by decide +kernel, by decide +kernel⟩, List.mem_of_getElem? (i := 183) (by decide +kernel), List.mem_of_getElem? (i := 482) (by decide +kernel), List.mem_of_getElem? (i := 483) (by decide +kernel)⟩
theorem lw_p7 : lw_okq (⟨"TrapSurvey$ReadingText", "skipBlanks", "()V"⟩, 5) := ⟨⟨by decide +kernel, by decide +kernel⟩, List.mem_of_getElem? (i := 183) (by decide +kernel), List.mem_of_getElem? (i := 486) (by decide +kernel), List.mem_of_getElem? (i := 487) (by decide +kernel)⟩
theorem lw_p8 : lw_okq (⟨"TrapSurvey$ReadingText", "scanSign", "(C)Z"⟩, 5) := ⟨⟨by decide +kernel, by decide +kernel⟩, List.mem_of_getElem? (i := 183) (by decide +kernel), List.mem_of_getElem? (i := 494) (by decide +kernel), List.mem_of_getElem? (i := 495) (by decide +kernel)⟩
def lw_privs_1 : List (MethodName × Nat) := [(⟨"TrapSurvey$History", "dropOldest", "()V"⟩, 2), (⟨"TrapSurvey$RepairOrder", "insert", "(I)V"⟩, 4), (⟨"TrapSurvey$RepairOrder", "isBetter", "(II)Z"⟩, 4), (⟨"TrapSurvey$SurveyRound", "nearestWaiting", "(LTrapSurvey$Plant;II)I"⟩, 4), (⟨"TrapSurvey$ReadingText", "scanList", "(I)Z"⟩, 5), (⟨"TrapSurvey$ReadingText", "scanReading", "([II)Z"⟩, 5), (⟨"TrapSurvey$ReadingText", "scanNumber", "([III)Z"⟩, 5), (⟨"TrapSurvey$ReadingText", "skipBlanks", "()V"⟩, 5), (⟨"TrapSurvey$ReadingText", "scanSign", "(C)Z"⟩, 5)]
theorem lw_r1 : ∀ q ∈ lw_privs_1, lw_okq q := List.forall_mem_cons.mpr ⟨lw_p0, List.forall_mem_cons.mpr ⟨lw_p1, List.forall_mem_cons.mpr ⟨lw_p2, List.forall_mem_cons.mpr ⟨lw_p3, List.forall_mem_cons.mpr ⟨lw_p4, List.forall_mem_cons.mpr ⟨lw_p5, List.forall_mem_cons.mpr ⟨lw_p6, List.forall_mem_cons.mpr ⟨lw_p7, List.forall_mem_cons.mpr ⟨lw_p8, fun _ h => absurd h List.not_mem_nil⟩⟩⟩⟩⟩⟩⟩⟩⟩
def lw_privs : List (MethodName × Nat) := lw_privs_1
def lw_tbl : List Cond := k2_sels lw_privs ++ tables_1
theorem lw_privs_ok : ∀ q ∈ lw_privs, lw_okq q := lw_r1
def RX0 : String := "TrapSurvey$History"
def TX0 : u_T := fun k => match k with
  | 0 => ("TrapSurvey$History", "states", "[LTrapSurvey$Plant;", true)
  | _ => ("TrapSurvey$History", "size", "I", false)
def tyX0 : Nat → FieldType := fun k => match k with
  | 0 => .array (.object "TrapSurvey$Plant")
  | _ => .int
abbrev wsX00 : List Cond := u_ws RX0 TX0 2
theorem nmX0 : ∀ a, a < 2 → ∀ b, b < 2 → a ≠ b → (TX0 a).2.1 ≠ (TX0 b).2.1 := by decide +kernel
theorem tyX0_ok : ∀ k, k < 2 → parseFieldDescriptor (TX0 k).2.2.1 = some (tyX0 k) := by decide +kernel
abbrev cX0_init : ByteArray := prog_2_method_1_code
def yX0_init : MethodName := ⟨RX0, "<init>", "()V"⟩
abbrev cX0_keep : ByteArray := prog_2_method_2_code
def yX0_keep : MethodName := ⟨RX0, "keep", "(LTrapSurvey$Plant;)V"⟩
abbrev cX0_dropOldest : ByteArray := prog_2_method_3_code
def yX0_dropOldest : MethodName := ⟨RX0, "dropOldest", "()V"⟩
abbrev cX0_takeBack : ByteArray := prog_2_method_4_code
def yX0_takeBack : MethodName := ⟨RX0, "takeBack", "(LTrapSurvey$Plant;)Z"⟩
def RX1 : String := "TrapSurvey$Plant"
def TX1 : u_T := fun k => match k with
  | 0 => ("TrapSurvey$Plant", "pressures", "[I", true)
  | 1 => ("TrapSurvey$Plant", "lineHeaders", "[I", true)
  | 2 => ("TrapSurvey$Plant", "traps", "[LTrapSurvey$Trap;", true)
  | 3 => ("TrapSurvey$Plant", "lineCount", "I", false)
  | 4 => ("TrapSurvey$Plant", "trapCount", "I", false)
  | 5 => ("TrapSurvey$Plant", "hours", "I", false)
  | 6 => ("TrapSurvey$Plant", "price", "I", false)
  | 7 => ("TrapSurvey$Plant", "interval", "I", false)
  | 8 => ("TrapSurvey$Plant", "day", "I", false)
  | 9 => ("TrapSurvey$Plant", "spent", "I", false)
  | _ => ("TrapSurvey$Plant", "repairs", "I", false)
def tyX1 : Nat → FieldType := fun k => match k with
  | 0 => .array .int
  | 1 => .array .int
  | 2 => .array (.object "TrapSurvey$Trap")
  | 3 => .int
  | 4 => .int
  | 5 => .int
  | 6 => .int
  | 7 => .int
  | 8 => .int
  | 9 => .int
  | _ => .int
abbrev wsX10 : List Cond := u_ws RX1 TX1 11
theorem nmX1 : ∀ a, a < 11 → ∀ b, b < 11 → a ≠ b → (TX1 a).2.1 ≠ (TX1 b).2.1 := by decide +kernel
theorem tyX1_ok : ∀ k, k < 11 → parseFieldDescriptor (TX1 k).2.2.1 = some (tyX1 k) := by decide +kernel
abbrev cX1_init : ByteArray := prog_3_method_1_code
def yX1_init : MethodName := ⟨RX1, "<init>", "()V"⟩
abbrev cX1_copyFrom : ByteArray := prog_3_method_2_code
def yX1_copyFrom : MethodName := ⟨RX1, "copyFrom", "(LTrapSurvey$Plant;)V"⟩
abbrev cX1_hasHeader : ByteArray := prog_3_method_3_code
def yX1_hasHeader : MethodName := ⟨RX1, "hasHeader", "(I)Z"⟩
abbrev cX1_hasLine : ByteArray := prog_3_method_4_code
def yX1_hasLine : MethodName := ⟨RX1, "hasLine", "(I)Z"⟩
abbrev cX1_trapAt : ByteArray := prog_3_method_5_code
def yX1_trapAt : MethodName := ⟨RX1, "trapAt", "(I)LTrapSurvey$Trap;"⟩
abbrev cX1_headerOfLine : ByteArray := prog_3_method_6_code
def yX1_headerOfLine : MethodName := ⟨RX1, "headerOfLine", "(I)I"⟩
abbrev cX1_pressureOfHeader : ByteArray := prog_3_method_7_code
def yX1_pressureOfHeader : MethodName := ⟨RX1, "pressureOfHeader", "(I)I"⟩
abbrev cX1_pressureAt : ByteArray := prog_3_method_8_code
def yX1_pressureAt : MethodName := ⟨RX1, "pressureAt", "(LTrapSurvey$Trap;)I"⟩
abbrev cX1_takeReading : ByteArray := prog_3_method_9_code
def yX1_takeReading : MethodName := ⟨RX1, "takeReading", "(IIII)V"⟩
abbrev cX1_letPass : ByteArray := prog_3_method_10_code
def yX1_letPass : MethodName := ⟨RX1, "letPass", "(I)V"⟩
abbrev cX1_trapsInState : ByteArray := prog_3_method_11_code
def yX1_trapsInState : MethodName := ⟨RX1, "trapsInState", "(I)I"⟩
abbrev cX1_lossOf : ByteArray := prog_3_method_12_code
def yX1_lossOf : MethodName := ⟨RX1, "lossOf", "(LTrapSurvey$Trap;)I"⟩
abbrev cX1_lossOfLine : ByteArray := prog_3_method_13_code
def yX1_lossOfLine : MethodName := ⟨RX1, "lossOfLine", "(I)I"⟩
abbrev cX1_lossOfHeader : ByteArray := prog_3_method_14_code
def yX1_lossOfHeader : MethodName := ⟨RX1, "lossOfHeader", "(I)I"⟩
abbrev cX1_lostByAll : ByteArray := prog_3_method_15_code
def yX1_lostByAll : MethodName := ⟨RX1, "lostByAll", "()J"⟩
abbrev cX1_priceADay : ByteArray := prog_3_method_16_code
def yX1_priceADay : MethodName := ⟨RX1, "priceADay", "(I)J"⟩
abbrev cX1_paybackOf : ByteArray := prog_3_method_17_code
def yX1_paybackOf : MethodName := ⟨RX1, "paybackOf", "(LTrapSurvey$Trap;)J"⟩
abbrev cX1_mend : ByteArray := prog_3_method_18_code
def yX1_mend : MethodName := ⟨RX1, "mend", "(LTrapSurvey$Trap;)V"⟩
abbrev cX1_needsVisit : ByteArray := prog_3_method_19_code
def yX1_needsVisit : MethodName := ⟨RX1, "needsVisit", "(LTrapSurvey$Trap;)Z"⟩
def RX2 : String := "TrapSurvey$ReadingText"
def TX2 : u_T := fun k => match k with
  | 0 => ("TrapSurvey$ReadingText", "codes", "[I", true)
  | 1 => ("TrapSurvey$ReadingText", "readings", "[[I", true)
  | 2 => ("TrapSurvey$ReadingText", "length", "I", false)
  | 3 => ("TrapSurvey$ReadingText", "readingCount", "I", false)
  | _ => ("TrapSurvey$ReadingText", "position", "I", false)
def tyX2 : Nat → FieldType := fun k => match k with
  | 0 => .array .int
  | 1 => .array (.array .int)
  | 2 => .int
  | 3 => .int
  | _ => .int
abbrev wsX20 : List Cond := u_ws RX2 TX2 5
theorem nmX2 : ∀ a, a < 5 → ∀ b, b < 5 → a ≠ b → (TX2 a).2.1 ≠ (TX2 b).2.1 := by decide +kernel
theorem tyX2_ok : ∀ k, k < 5 → parseFieldDescriptor (TX2 k).2.2.1 = some (tyX2 k) := by decide +kernel
abbrev cX2_init : ByteArray := prog_4_method_1_code
def yX2_init : MethodName := ⟨RX2, "<init>", "()V"⟩
abbrev cX2_faultFor : ByteArray := prog_4_method_3_code
def yX2_faultFor : MethodName := ⟨RX2, "faultFor", "(I)I"⟩
abbrev cX2_scanList : ByteArray := prog_4_method_4_code
def yX2_scanList : MethodName := ⟨RX2, "scanList", "(I)Z"⟩
abbrev cX2_scanReading : ByteArray := prog_4_method_5_code
def yX2_scanReading : MethodName := ⟨RX2, "scanReading", "([II)Z"⟩
abbrev cX2_scanSign : ByteArray := prog_4_method_6_code
def yX2_scanSign : MethodName := ⟨RX2, "scanSign", "(C)Z"⟩
abbrev cX2_scanNumber : ByteArray := prog_4_method_7_code
def yX2_scanNumber : MethodName := ⟨RX2, "scanNumber", "([III)Z"⟩
abbrev cX2_skipBlanks : ByteArray := prog_4_method_8_code
def yX2_skipBlanks : MethodName := ⟨RX2, "skipBlanks", "()V"⟩
abbrev cX2_isDigit : ByteArray := prog_4_method_9_code
def yX2_isDigit : MethodName := ⟨RX2, "isDigit", "(I)Z"⟩
def RX3 : String := "TrapSurvey$RepairOrder"
def TX3 : u_T := fun k => match k with
  | 0 => ("TrapSurvey$RepairOrder", "ranked", "[I", true)
  | 1 => ("TrapSurvey$RepairOrder", "losses", "[I", true)
  | 2 => ("TrapSurvey$RepairOrder", "paybacks", "[J", true)
  | _ => ("TrapSurvey$RepairOrder", "size", "I", false)
def tyX3 : Nat → FieldType := fun k => match k with
  | 0 => .array .int
  | 1 => .array .int
  | 2 => .array .long
  | _ => .int
abbrev wsX30 : List Cond := u_ws RX3 TX3 4
theorem nmX3 : ∀ a, a < 4 → ∀ b, b < 4 → a ≠ b → (TX3 a).2.1 ≠ (TX3 b).2.1 := by decide +kernel
theorem tyX3_ok : ∀ k, k < 4 → parseFieldDescriptor (TX3 k).2.2.1 = some (tyX3 k) := by decide +kernel
abbrev cX3_init : ByteArray := prog_5_method_1_code
def yX3_init : MethodName := ⟨RX3, "<init>", "()V"⟩
abbrev cX3_rankTraps : ByteArray := prog_5_method_2_code
def yX3_rankTraps : MethodName := ⟨RX3, "rankTraps", "(LTrapSurvey$Plant;)V"⟩
abbrev cX3_trapAtRank : ByteArray := prog_5_method_3_code
def yX3_trapAtRank : MethodName := ⟨RX3, "trapAtRank", "(I)I"⟩
abbrev cX3_insert : ByteArray := prog_5_method_4_code
def yX3_insert : MethodName := ⟨RX3, "insert", "(I)V"⟩
abbrev cX3_isBetter : ByteArray := prog_5_method_5_code
def yX3_isBetter : MethodName := ⟨RX3, "isBetter", "(II)Z"⟩
def RX4 : String := "TrapSurvey$SurveyRound"
def TX4 : u_T := fun k => match k with
  | 0 => ("TrapSurvey$SurveyRound", "stops", "[I", true)
  | 1 => ("TrapSurvey$SurveyRound", "waits", "[Z", true)
  | 2 => ("TrapSurvey$SurveyRound", "size", "I", false)
  | _ => ("TrapSurvey$SurveyRound", "length", "I", false)
def tyX4 : Nat → FieldType := fun k => match k with
  | 0 => .array .int
  | 1 => .array .boolean
  | 2 => .int
  | _ => .int
abbrev wsX40 : List Cond := u_ws RX4 TX4 4
theorem nmX4 : ∀ a, a < 4 → ∀ b, b < 4 → a ≠ b → (TX4 a).2.1 ≠ (TX4 b).2.1 := by decide +kernel
theorem tyX4_ok : ∀ k, k < 4 → parseFieldDescriptor (TX4 k).2.2.1 = some (tyX4 k) := by decide +kernel
abbrev cX4_init : ByteArray := prog_6_method_1_code
def yX4_init : MethodName := ⟨RX4, "<init>", "()V"⟩
abbrev cX4_plan : ByteArray := prog_6_method_2_code
def yX4_plan : MethodName := ⟨RX4, "plan", "(LTrapSurvey$Plant;)V"⟩
abbrev cX4_stopAt : ByteArray := prog_6_method_3_code
def yX4_stopAt : MethodName := ⟨RX4, "stopAt", "(I)I"⟩
abbrev cX4_nearestWaiting : ByteArray := prog_6_method_4_code
def yX4_nearestWaiting : MethodName := ⟨RX4, "nearestWaiting", "(LTrapSurvey$Plant;II)I"⟩
def RX5 : String := "TrapSurvey$Trap"
def TX5 : u_T := fun k => match k with
  | 0 => ("TrapSurvey$Trap", "line", "I", false)
  | 1 => ("TrapSurvey$Trap", "kind", "I", false)
  | 2 => ("TrapSurvey$Trap", "size", "I", false)
  | 3 => ("TrapSurvey$Trap", "x", "I", false)
  | 4 => ("TrapSurvey$Trap", "y", "I", false)
  | 5 => ("TrapSurvey$Trap", "state", "I", false)
  | 6 => ("TrapSurvey$Trap", "readDay", "I", false)
  | _ => ("TrapSurvey$Trap", "lostSteam", "J", false)
def tyX5 : Nat → FieldType := fun k => match k with
  | 0 => .int
  | 1 => .int
  | 2 => .int
  | 3 => .int
  | 4 => .int
  | 5 => .int
  | 6 => .int
  | _ => .long
abbrev wsX50 : List Cond := u_ws RX5 TX5 8
theorem nmX5 : ∀ a, a < 8 → ∀ b, b < 8 → a ≠ b → (TX5 a).2.1 ≠ (TX5 b).2.1 := by decide +kernel
theorem tyX5_ok : ∀ k, k < 8 → parseFieldDescriptor (TX5 k).2.2.1 = some (tyX5 k) := by decide +kernel
abbrev cX5_init : ByteArray := prog_7_method_1_code
def yX5_init : MethodName := ⟨RX5, "<init>", "()V"⟩
abbrev cX5_install : ByteArray := prog_7_method_2_code
def yX5_install : MethodName := ⟨RX5, "install", "(IIIII)V"⟩
abbrev cX5_copyFrom : ByteArray := prog_7_method_3_code
def yX5_copyFrom : MethodName := ⟨RX5, "copyFrom", "(LTrapSurvey$Trap;)V"⟩
abbrev cX5_judged : ByteArray := prog_7_method_4_code
def yX5_judged : MethodName := ⟨RX5, "judged", "(IIII)I"⟩
abbrev cX5_judgedAsBucket : ByteArray := prog_7_method_5_code
def yX5_judgedAsBucket : MethodName := ⟨RX5, "judgedAsBucket", "(I)I"⟩
abbrev cX5_judgedAsThermostatic : ByteArray := prog_7_method_6_code
def yX5_judgedAsThermostatic : MethodName := ⟨RX5, "judgedAsThermostatic", "(II)I"⟩
abbrev cX5_judgedAsDisc : ByteArray := prog_7_method_7_code
def yX5_judgedAsDisc : MethodName := ⟨RX5, "judgedAsDisc", "(III)I"⟩
abbrev cX5_lossUnder : ByteArray := prog_7_method_8_code
def yX5_lossUnder : MethodName := ⟨RX5, "lossUnder", "(I)I"⟩
abbrev cX5_costOfRepair : ByteArray := prog_7_method_9_code
def yX5_costOfRepair : MethodName := ⟨RX5, "costOfRepair", "()I"⟩
abbrev cX5_wayFrom : ByteArray := prog_7_method_10_code
def yX5_wayFrom : MethodName := ⟨RX5, "wayFrom", "(II)I"⟩
def RX6 : String := "TrapSurvey"
def TX6 : u_T := fun k => match k with
  | 0 => ("TrapSurvey", "plant", "LTrapSurvey$Plant;", true)
  | 1 => ("TrapSurvey", "history", "LTrapSurvey$History;", true)
  | 2 => ("TrapSurvey", "repairOrder", "LTrapSurvey$RepairOrder;", true)
  | 3 => ("TrapSurvey", "surveyRound", "LTrapSurvey$SurveyRound;", true)
  | _ => ("TrapSurvey", "text", "LTrapSurvey$ReadingText;", true)
def tyX6 : Nat → FieldType := fun k => match k with
  | 0 => .object "TrapSurvey$Plant"
  | 1 => .object "TrapSurvey$History"
  | 2 => .object "TrapSurvey$RepairOrder"
  | 3 => .object "TrapSurvey$SurveyRound"
  | _ => .object "TrapSurvey$ReadingText"
abbrev wsX60 : List Cond := u_ws RX6 TX6 5
theorem nmX6 : ∀ a, a < 5 → ∀ b, b < 5 → a ≠ b → (TX6 a).2.1 ≠ (TX6 b).2.1 := by decide +kernel
theorem tyX6_ok : ∀ k, k < 5 → parseFieldDescriptor (TX6 k).2.2.1 = some (tyX6 k) := by decide +kernel
abbrev cX6_init : ByteArray := prog_1_method_1_code
def yX6_init : MethodName := ⟨RX6, "<init>", "()V"⟩
abbrev cX6_setPressure : ByteArray := prog_1_method_2_code
def yX6_setPressure : MethodName := ⟨RX6, "setPressure", "(II)I"⟩
abbrev cX6_addLine : ByteArray := prog_1_method_3_code
def yX6_addLine : MethodName := ⟨RX6, "addLine", "(I)I"⟩
abbrev cX6_addTrap : ByteArray := prog_1_method_4_code
def yX6_addTrap : MethodName := ⟨RX6, "addTrap", "(IIIII)I"⟩
abbrev cX6_moveLine : ByteArray := prog_1_method_5_code
def yX6_moveLine : MethodName := ⟨RX6, "moveLine", "(II)I"⟩
abbrev cX6_setWork : ByteArray := prog_1_method_6_code
def yX6_setWork : MethodName := ⟨RX6, "setWork", "(III)I"⟩
abbrev cX6_count : ByteArray := prog_1_method_7_code
def yX6_count : MethodName := ⟨RX6, "count", "(I)I"⟩
abbrev cX6_trap : ByteArray := prog_1_method_8_code
def yX6_trap : MethodName := ⟨RX6, "trap", "(II)I"⟩
abbrev cX6_headerOf : ByteArray := prog_1_method_9_code
def yX6_headerOf : MethodName := ⟨RX6, "headerOf", "(I)I"⟩
abbrev cX6_pressure : ByteArray := prog_1_method_10_code
def yX6_pressure : MethodName := ⟨RX6, "pressure", "(I)I"⟩
abbrev cX6_read : ByteArray := prog_1_method_11_code
def yX6_read : MethodName := ⟨RX6, "read", "(IIII)I"⟩
abbrev cX6_judge : ByteArray := prog_1_method_12_code
def yX6_judge : MethodName := ⟨RX6, "judge", "(IIII)I"⟩
abbrev cX6_pass : ByteArray := prog_1_method_13_code
def yX6_pass : MethodName := ⟨RX6, "pass", "(I)I"⟩
abbrev cX6_inState : ByteArray := prog_1_method_14_code
def yX6_inState : MethodName := ⟨RX6, "inState", "(I)I"⟩
abbrev cX6_loss : ByteArray := prog_1_method_15_code
def yX6_loss : MethodName := ⟨RX6, "loss", "(I)I"⟩
abbrev cX6_lineLoss : ByteArray := prog_1_method_16_code
def yX6_lineLoss : MethodName := ⟨RX6, "lineLoss", "(I)I"⟩
abbrev cX6_headerLoss : ByteArray := prog_1_method_17_code
def yX6_headerLoss : MethodName := ⟨RX6, "headerLoss", "(I)I"⟩
abbrev cX6_lost : ByteArray := prog_1_method_18_code
def yX6_lost : MethodName := ⟨RX6, "lost", "(I)J"⟩
abbrev cX6_saves : ByteArray := prog_1_method_19_code
def yX6_saves : MethodName := ⟨RX6, "saves", "(I)J"⟩
abbrev cX6_repairCost : ByteArray := prog_1_method_20_code
def yX6_repairCost : MethodName := ⟨RX6, "repairCost", "(I)I"⟩
abbrev cX6_payback : ByteArray := prog_1_method_21_code
def yX6_payback : MethodName := ⟨RX6, "payback", "(I)J"⟩
abbrev cX6_order : ByteArray := prog_1_method_22_code
def yX6_order : MethodName := ⟨RX6, "order", "(I)I"⟩
abbrev cX6_repair : ByteArray := prog_1_method_23_code
def yX6_repair : MethodName := ⟨RX6, "repair", "(I)I"⟩
abbrev cX6_repairAll : ByteArray := prog_1_method_24_code
def yX6_repairAll : MethodName := ⟨RX6, "repairAll", "(I)I"⟩
abbrev cX6_isDue : ByteArray := prog_1_method_25_code
def yX6_isDue : MethodName := ⟨RX6, "isDue", "(I)I"⟩
abbrev cX6_round : ByteArray := prog_1_method_26_code
def yX6_round : MethodName := ⟨RX6, "round", "(I)I"⟩
abbrev cX6_roundLength : ByteArray := prog_1_method_27_code
def yX6_roundLength : MethodName := ⟨RX6, "roundLength", "()I"⟩
abbrev cX6_dueOn : ByteArray := prog_1_method_28_code
def yX6_dueOn : MethodName := ⟨RX6, "dueOn", "(I)I"⟩
abbrev cX6_undo : ByteArray := prog_1_method_29_code
def yX6_undo : MethodName := ⟨RX6, "undo", "()I"⟩
abbrev cX6_readAll : ByteArray := prog_1_method_33_code
def yX6_readAll : MethodName := ⟨RX6, "readAll", "()I"⟩
abbrev cX6_digest : ByteArray := prog_1_method_34_code
def yX6_digest : MethodName := ⟨RX6, "digest", "()J"⟩
abbrev cX6_isWithin : ByteArray := prog_1_method_35_code
def yX6_isWithin : MethodName := ⟨RX6, "isWithin", "(III)Z"⟩
def RX7 : String := "TrapSurveyModel"
def TX7 : u_T := fun k => match k with
  | _ => ("", "", "", false)
def tyX7 : Nat → FieldType := fun k => match k with
  | _ => .int
abbrev wsX70 : List Cond := u_ws RX7 TX7 0
theorem nmX7 : ∀ a, a < 0 → ∀ b, b < 0 → a ≠ b → (TX7 a).2.1 ≠ (TX7 b).2.1 := by decide +kernel
theorem tyX7_ok : ∀ k, k < 0 → parseFieldDescriptor (TX7 k).2.2.1 = some (tyX7 k) := by decide +kernel
def RJ9 : String := "java/lang/Math"
def TJ9 : u_T := fun k => match k with
  | _ => ("", "", "", false)
def tyJ9 : Nat → FieldType := fun k => match k with
  | _ => .int
abbrev wsJ90 : List Cond := u_ws RJ9 TJ9 0
theorem nmJ9 : ∀ a, a < 0 → ∀ b, b < 0 → a ≠ b → (TJ9 a).2.1 ≠ (TJ9 b).2.1 := by decide +kernel
theorem tyJ9_ok : ∀ k, k < 0 → parseFieldDescriptor (TJ9 k).2.2.1 = some (tyJ9 k) := by decide +kernel
abbrev cJ9_abs_0f7a4 : ByteArray := prog_10_method_59_code
def yJ9_abs_0f7a4 : MethodName := ⟨RJ9, "abs", "(I)I"⟩
def RJ10 : String := "java/lang/System"
def TJ10 : u_T := fun k => match k with
  | _ => ("", "", "", false)
def tyJ10 : Nat → FieldType := fun k => match k with
  | _ => .int
abbrev wsJ100 : List Cond := u_ws RJ10 TJ10 0
theorem nmJ10 : ∀ a, a < 0 → ∀ b, b < 0 → a ≠ b → (TJ10 a).2.1 ≠ (TJ10 b).2.1 := by decide +kernel
theorem tyJ10_ok : ∀ k, k < 0 → parseFieldDescriptor (TJ10 k).2.2.1 = some (tyJ10 k) := by decide +kernel
def RJ7 : String := "java/util/Arrays"
def TJ7 : u_T := fun k => match k with
  | _ => ("", "", "", false)
def tyJ7 : Nat → FieldType := fun k => match k with
  | _ => .int
abbrev wsJ70 : List Cond := u_ws RJ7 TJ7 0
theorem nmJ7 : ∀ a, a < 0 → ∀ b, b < 0 → a ≠ b → (TJ7 a).2.1 ≠ (TJ7 b).2.1 := by decide +kernel
theorem tyJ7_ok : ∀ k, k < 0 → parseFieldDescriptor (TJ7 k).2.2.1 = some (tyJ7 k) := by decide +kernel
abbrev cJ7_fill_53178 : ByteArray := prog_12_method_103_code
def yJ7_fill_53178 : MethodName := ⟨RJ7, "fill", "([II)V"⟩
def RL : String := "TrapSurveyLaw"
abbrev cL_cell : ByteArray := method_2_code
def yL_cell : MethodName := ⟨RL, "cell", "([II)I"⟩
abbrev cL_low : ByteArray := method_3_code
def yL_low : MethodName := ⟨RL, "low", "(II)I"⟩
abbrev cL_areLossesSound : ByteArray := method_4_code
def yL_areLossesSound : MethodName := ⟨RL, "areLossesSound", "(LTrapSurvey;)Z"⟩
abbrev cL_isOrderSound : ByteArray := method_5_code
def yL_isOrderSound : MethodName := ⟨RL, "isOrderSound", "(LTrapSurvey;)Z"⟩
abbrev cL_isRoundSound : ByteArray := method_6_code
def yL_isRoundSound : MethodName := ⟨RL, "isRoundSound", "(LTrapSurvey;)Z"⟩
abbrev cL_way : ByteArray := method_7_code
def yL_way : MethodName := ⟨RL, "way", "(LTrapSurvey;III)I"⟩
abbrev cL_changes : ByteArray := method_8_code
def yL_changes : MethodName := ⟨RL, "changes", "(LTrapSurvey;I)I"⟩
abbrev cL_law : ByteArray := code
def yL_law : MethodName := ⟨RL, "law", "([I)Z"⟩
abbrev vwCl : List vw_C := [(RX0, TX0, 2), (RX1, TX1, 11), (RX2, TX2, 5), (RX3, TX3, 4), (RX4, TX4, 4), (RX5, TX5, 8), (RX6, TX6, 5)]
