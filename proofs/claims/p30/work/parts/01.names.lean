-- ===== PART A: goes FIRST, ahead of the names: the tables' words, and 'selects' of the private methods out of them =====
/-- a private method of a class that the tables say can be made, by its rows of tables_1 -/
def lw_okq (q : MethodName × Nat) : Prop := (q.1.cls ≠ "java/lang/invoke/MethodHandle" ∧ q.1.cls ≠ "java/lang/invoke/VarHandle") ∧ Cond.instantiable q.1.cls q.2 ∈ tables_1 ∧ Cond.privateMethod q.1 ∈ tables_1 ∧ Cond.instanceMethod q.1 ∈ tables_1
theorem lw_p0 : lw_okq (⟨"Tablature", "needString", "(I)V"⟩, 8) := ⟨⟨by decide +kernel, by decide +kernel⟩, List.mem_of_getElem? (i := 27) (by decide +kernel), List.mem_of_getElem? (i := 25) (by decide +kernel), List.mem_of_getElem? (i := 26) (by decide +kernel)⟩
theorem lw_p1 : lw_okq (⟨"java/lang/Throwable", "fillInStackTrace", "(I)Ljava/lang/Throwable;"⟩, 6) := ⟨⟨by decide +kernel, by decide +kernel⟩, List.mem_of_getElem? (i := 70) (by decide +kernel), List.mem_of_getElem? (i := 68) (by decide +kernel), List.mem_of_getElem? (i := 69) (by decide +kernel)⟩
theorem lw_p2 : lw_okq (⟨"Tablature", "instrumentChanged", "()V"⟩, 8) := ⟨⟨by decide +kernel, by decide +kernel⟩, List.mem_of_getElem? (i := 27) (by decide +kernel), List.mem_of_getElem? (i := 119) (by decide +kernel), List.mem_of_getElem? (i := 120) (by decide +kernel)⟩
theorem lw_p3 : lw_okq (⟨"Tablature", "needChord", "(I)V"⟩, 8) := ⟨⟨by decide +kernel, by decide +kernel⟩, List.mem_of_getElem? (i := 27) (by decide +kernel), List.mem_of_getElem? (i := 139) (by decide +kernel), List.mem_of_getElem? (i := 140) (by decide +kernel)⟩
theorem lw_p4 : lw_okq (⟨"Tablature", "needGrip", "(II)LTablature$Grips;"⟩, 8) := ⟨⟨by decide +kernel, by decide +kernel⟩, List.mem_of_getElem? (i := 27) (by decide +kernel), List.mem_of_getElem? (i := 144) (by decide +kernel), List.mem_of_getElem? (i := 145) (by decide +kernel)⟩
theorem lw_p5 : lw_okq (⟨"Tablature", "refreshPlan", "()V"⟩, 8) := ⟨⟨by decide +kernel, by decide +kernel⟩, List.mem_of_getElem? (i := 27) (by decide +kernel), List.mem_of_getElem? (i := 148) (by decide +kernel), List.mem_of_getElem? (i := 149) (by decide +kernel)⟩
theorem lw_p6 : lw_okq (⟨"Tablature$Hand", "countSounding", "()V"⟩, 8) := ⟨⟨by decide +kernel, by decide +kernel⟩, List.mem_of_getElem? (i := 171) (by decide +kernel), List.mem_of_getElem? (i := 169) (by decide +kernel), List.mem_of_getElem? (i := 170) (by decide +kernel)⟩
theorem lw_p7 : lw_okq (⟨"Tablature$Hand", "countPressed", "()V"⟩, 8) := ⟨⟨by decide +kernel, by decide +kernel⟩, List.mem_of_getElem? (i := 171) (by decide +kernel), List.mem_of_getElem? (i := 174) (by decide +kernel), List.mem_of_getElem? (i := 175) (by decide +kernel)⟩
theorem lw_p8 : lw_okq (⟨"Tablature$Hand", "findBarre", "()V"⟩, 8) := ⟨⟨by decide +kernel, by decide +kernel⟩, List.mem_of_getElem? (i := 171) (by decide +kernel), List.mem_of_getElem? (i := 178) (by decide +kernel), List.mem_of_getElem? (i := 179) (by decide +kernel)⟩
theorem lw_p9 : lw_okq (⟨"Tablature$Planner", "bestAt", "(II)I"⟩, 8) := ⟨⟨by decide +kernel, by decide +kernel⟩, List.mem_of_getElem? (i := 229) (by decide +kernel), List.mem_of_getElem? (i := 227) (by decide +kernel), List.mem_of_getElem? (i := 228) (by decide +kernel)⟩
theorem lw_p10 : lw_okq (⟨"Tablature", "askChord", "(II)I"⟩, 8) := ⟨⟨by decide +kernel, by decide +kernel⟩, List.mem_of_getElem? (i := 27) (by decide +kernel), List.mem_of_getElem? (i := 263) (by decide +kernel), List.mem_of_getElem? (i := 264) (by decide +kernel)⟩
theorem lw_p11 : lw_okq (⟨"Tablature", "askHand", "(I)I"⟩, 8) := ⟨⟨by decide +kernel, by decide +kernel⟩, List.mem_of_getElem? (i := 27) (by decide +kernel), List.mem_of_getElem? (i := 284) (by decide +kernel), List.mem_of_getElem? (i := 285) (by decide +kernel)⟩
theorem lw_p12 : lw_okq (⟨"Tablature", "askWhole", "(I)I"⟩, 8) := ⟨⟨by decide +kernel, by decide +kernel⟩, List.mem_of_getElem? (i := 27) (by decide +kernel), List.mem_of_getElem? (i := 320) (by decide +kernel), List.mem_of_getElem? (i := 321) (by decide +kernel)⟩
theorem lw_p13 : lw_okq (⟨"Tablature", "freshVoicing", "(III)LTablature$Shapes;"⟩, 8) := ⟨⟨by decide +kernel, by decide +kernel⟩, List.mem_of_getElem? (i := 27) (by decide +kernel), List.mem_of_getElem? (i := 344) (by decide +kernel), List.mem_of_getElem? (i := 345) (by decide +kernel)⟩
theorem lw_p14 : lw_okq (⟨"Tablature$Shapes", "offer", "(II)V"⟩, 8) := ⟨⟨by decide +kernel, by decide +kernel⟩, List.mem_of_getElem? (i := 361) (by decide +kernel), List.mem_of_getElem? (i := 359) (by decide +kernel), List.mem_of_getElem? (i := 360) (by decide +kernel)⟩
theorem lw_p15 : lw_okq (⟨"Tablature$Shapes", "isBetter", "(II)Z"⟩, 8) := ⟨⟨by decide +kernel, by decide +kernel⟩, List.mem_of_getElem? (i := 361) (by decide +kernel), List.mem_of_getElem? (i := 367) (by decide +kernel), List.mem_of_getElem? (i := 368) (by decide +kernel)⟩
def lw_privs_1 : List (MethodName × Nat) := [(⟨"Tablature", "needString", "(I)V"⟩, 8), (⟨"java/lang/Throwable", "fillInStackTrace", "(I)Ljava/lang/Throwable;"⟩, 6), (⟨"Tablature", "instrumentChanged", "()V"⟩, 8), (⟨"Tablature", "needChord", "(I)V"⟩, 8), (⟨"Tablature", "needGrip", "(II)LTablature$Grips;"⟩, 8), (⟨"Tablature", "refreshPlan", "()V"⟩, 8), (⟨"Tablature$Hand", "countSounding", "()V"⟩, 8), (⟨"Tablature$Hand", "countPressed", "()V"⟩, 8), (⟨"Tablature$Hand", "findBarre", "()V"⟩, 8), (⟨"Tablature$Planner", "bestAt", "(II)I"⟩, 8), (⟨"Tablature", "askChord", "(II)I"⟩, 8), (⟨"Tablature", "askHand", "(I)I"⟩, 8), (⟨"Tablature", "askWhole", "(I)I"⟩, 8), (⟨"Tablature", "freshVoicing", "(III)LTablature$Shapes;"⟩, 8), (⟨"Tablature$Shapes", "offer", "(II)V"⟩, 8), (⟨"Tablature$Shapes", "isBetter", "(II)Z"⟩, 8)]
theorem lw_r1 : ∀ q ∈ lw_privs_1, lw_okq q := List.forall_mem_cons.mpr ⟨lw_p0, List.forall_mem_cons.mpr ⟨lw_p1, List.forall_mem_cons.mpr ⟨lw_p2, List.forall_mem_cons.mpr ⟨lw_p3, List.forall_mem_cons.mpr ⟨lw_p4, List.forall_mem_cons.mpr ⟨lw_p5, List.forall_mem_cons.mpr ⟨lw_p6, List.forall_mem_cons.mpr ⟨lw_p7, List.forall_mem_cons.mpr ⟨lw_p8, List.forall_mem_cons.mpr ⟨lw_p9, List.forall_mem_cons.mpr ⟨lw_p10, List.forall_mem_cons.mpr ⟨lw_p11, List.forall_mem_cons.mpr ⟨lw_p12, List.forall_mem_cons.mpr ⟨lw_p13, List.forall_mem_cons.mpr ⟨lw_p14, List.forall_mem_cons.mpr ⟨lw_p15, fun _ h => absurd h List.not_mem_nil⟩⟩⟩⟩⟩⟩⟩⟩⟩⟩⟩⟩⟩⟩⟩⟩
theorem lw_p16 : lw_okq (⟨"Tablature", "totalUnder", "(II)I"⟩, 8) := ⟨⟨by decide +kernel, by decide +kernel⟩, List.mem_of_getElem? (i := 27) (by decide +kernel), List.mem_of_getElem? (i := 404) (by decide +kernel), List.mem_of_getElem? (i := 405) (by decide +kernel)⟩
theorem lw_p17 : lw_okq (⟨"Tablature", "mixChord", "(JI)J"⟩, 8) := ⟨⟨by decide +kernel, by decide +kernel⟩, List.mem_of_getElem? (i := 27) (by decide +kernel), List.mem_of_getElem? (i := 433) (by decide +kernel), List.mem_of_getElem? (i := 434) (by decide +kernel)⟩
theorem lw_p18 : lw_okq (⟨"Tablature", "mixGrip", "(JI)J"⟩, 8) := ⟨⟨by decide +kernel, by decide +kernel⟩, List.mem_of_getElem? (i := 27) (by decide +kernel), List.mem_of_getElem? (i := 437) (by decide +kernel), List.mem_of_getElem? (i := 438) (by decide +kernel)⟩
theorem lw_p19 : lw_okq (⟨"TablatureLaw$Neck", "go", "([I[III)V"⟩, 11) := ⟨⟨by decide +kernel, by decide +kernel⟩, List.mem_of_getElem? (i := 447) (by decide +kernel), List.mem_of_getElem? (i := 828) (by decide +kernel), List.mem_of_getElem? (i := 829) (by decide +kernel)⟩
def lw_privs_2 : List (MethodName × Nat) := [(⟨"Tablature", "totalUnder", "(II)I"⟩, 8), (⟨"Tablature", "mixChord", "(JI)J"⟩, 8), (⟨"Tablature", "mixGrip", "(JI)J"⟩, 8), (⟨"TablatureLaw$Neck", "go", "([I[III)V"⟩, 11)]
theorem lw_r2 : ∀ q ∈ lw_privs_2, lw_okq q := List.forall_mem_cons.mpr ⟨lw_p16, List.forall_mem_cons.mpr ⟨lw_p17, List.forall_mem_cons.mpr ⟨lw_p18, List.forall_mem_cons.mpr ⟨lw_p19, fun _ h => absurd h List.not_mem_nil⟩⟩⟩⟩
def lw_privs : List (MethodName × Nat) := lw_privs_1 ++ (lw_privs_2)
def lw_tbl : List Cond := k2_sels lw_privs ++ tables_1
theorem lw_privs_ok : ∀ q ∈ lw_privs, lw_okq q := by
  show ∀ q ∈ lw_privs_1 ++ (lw_privs_2), lw_okq q
  exact List.forall_mem_append.mpr ⟨lw_r1, lw_r2⟩

-- names, codes, decode rows: the printed ones
def RX0 : String := "Tablature$Chord"
def TX0 : u_T := fun k => match k with
  | 0 => ("Tablature$Chord", "pitches", "[I", true)
  | 1 => ("Tablature$Chord", "size", "I", false)
  | 2 => ("Tablature$Chord", "length", "I", false)
  | _ => ("Tablature$Chord", "fixedCode", "I", false)
def tyX0 : Nat → FieldType := fun k => match k with
  | 0 => .array .int
  | 1 => .int
  | 2 => .int
  | _ => .int
theorem nmX0 : ∀ a, a < 4 → ∀ b, b < 4 → a ≠ b → (TX0 a).2.1 ≠ (TX0 b).2.1 := by decide +kernel
theorem tyX0_ok : ∀ k, k < 4 → parseFieldDescriptor (TX0 k).2.2.1 = some (tyX0 k) := by decide +kernel
abbrev cX0_init : ByteArray := prog_2_method_1_code
def yX0_init : MethodName := ⟨RX0, "<init>", "()V"⟩
abbrev cX0_clear : ByteArray := prog_2_method_2_code
def yX0_clear : MethodName := ⟨RX0, "clear", "(I)V"⟩
abbrev cX0_add : ByteArray := prog_2_method_3_code
def yX0_add : MethodName := ⟨RX0, "add", "(I)V"⟩
abbrev cX0_lowest : ByteArray := prog_2_method_4_code
def yX0_lowest : MethodName := ⟨RX0, "lowest", "()I"⟩
abbrev cX0_highest : ByteArray := prog_2_method_5_code
def yX0_highest : MethodName := ⟨RX0, "highest", "()I"⟩
def RX1 : String := "Tablature$GripCode"
def TX1 : u_T := fun k => match k with
  | _ => ("", "", "", false)
def tyX1 : Nat → FieldType := fun k => match k with
  | _ => .int
theorem nmX1 : ∀ a, a < 0 → ∀ b, b < 0 → a ≠ b → (TX1 a).2.1 ≠ (TX1 b).2.1 := by decide +kernel
theorem tyX1_ok : ∀ k, k < 0 → parseFieldDescriptor (TX1 k).2.2.1 = some (tyX1 k) := by decide +kernel
abbrev cX1_fretAt : ByteArray := prog_3_method_2_code
def yX1_fretAt : MethodName := ⟨RX1, "fretAt", "(II)I"⟩
abbrev cX1_with : ByteArray := prog_3_method_3_code
def yX1_with : MethodName := ⟨RX1, "with", "(III)I"⟩
abbrev cX1_newlyPressed : ByteArray := prog_3_method_4_code
def yX1_newlyPressed : MethodName := ⟨RX1, "newlyPressed", "(II)I"⟩
def RX2 : String := "Tablature$Grips"
def TX2 : u_T := fun k => match k with
  | 0 => ("Tablature$Grips", "codes", "[I", true)
  | 1 => ("Tablature$Grips", "efforts", "[I", true)
  | 2 => ("Tablature$Grips", "lows", "[I", true)
  | _ => ("Tablature$Grips", "count", "I", false)
def tyX2 : Nat → FieldType := fun k => match k with
  | 0 => .array .int
  | 1 => .array .int
  | 2 => .array .int
  | _ => .int
theorem nmX2 : ∀ a, a < 4 → ∀ b, b < 4 → a ≠ b → (TX2 a).2.1 ≠ (TX2 b).2.1 := by decide +kernel
theorem tyX2_ok : ∀ k, k < 4 → parseFieldDescriptor (TX2 k).2.2.1 = some (tyX2 k) := by decide +kernel
abbrev cX2_init : ByteArray := prog_4_method_1_code
def yX2_init : MethodName := ⟨RX2, "<init>", "()V"⟩
abbrev cX2_has : ByteArray := prog_4_method_2_code
def yX2_has : MethodName := ⟨RX2, "has", "(I)Z"⟩
abbrev cX2_numberOf : ByteArray := prog_4_method_3_code
def yX2_numberOf : MethodName := ⟨RX2, "numberOf", "(I)I"⟩
abbrev cX2_insert : ByteArray := prog_4_method_4_code
def yX2_insert : MethodName := ⟨RX2, "insert", "(III)V"⟩
def RX3 : String := "Tablature$Hand"
def TX3 : u_T := fun k => match k with
  | 0 => ("Tablature$Hand", "low", "I", false)
  | 1 => ("Tablature$Hand", "high", "I", false)
  | 2 => ("Tablature$Hand", "sounding", "I", false)
  | 3 => ("Tablature$Hand", "barre", "Z", false)
  | 4 => ("Tablature$Hand", "frets", "[I", true)
  | 5 => ("Tablature$Hand", "pressed", "I", false)
  | 6 => ("Tablature$Hand", "pressedAtLow", "I", false)
  | _ => ("Tablature$Hand", "skipped", "I", false)
def tyX3 : Nat → FieldType := fun k => match k with
  | 0 => .int
  | 1 => .int
  | 2 => .int
  | 3 => .boolean
  | 4 => .array .int
  | 5 => .int
  | 6 => .int
  | _ => .int
theorem nmX3 : ∀ a, a < 8 → ∀ b, b < 8 → a ≠ b → (TX3 a).2.1 ≠ (TX3 b).2.1 := by decide +kernel
theorem tyX3_ok : ∀ k, k < 8 → parseFieldDescriptor (TX3 k).2.2.1 = some (tyX3 k) := by decide +kernel
abbrev cX3_init : ByteArray := prog_5_method_1_code
def yX3_init : MethodName := ⟨RX3, "<init>", "()V"⟩
abbrev cX3_hold : ByteArray := prog_5_method_2_code
def yX3_hold : MethodName := ⟨RX3, "hold", "(I)V"⟩
abbrev cX3_countSounding : ByteArray := prog_5_method_3_code
def yX3_countSounding : MethodName := ⟨RX3, "countSounding", "()V"⟩
abbrev cX3_countPressed : ByteArray := prog_5_method_4_code
def yX3_countPressed : MethodName := ⟨RX3, "countPressed", "()V"⟩
abbrev cX3_findBarre : ByteArray := prog_5_method_5_code
def yX3_findBarre : MethodName := ⟨RX3, "findBarre", "()V"⟩
abbrev cX3_fingerCount : ByteArray := prog_5_method_6_code
def yX3_fingerCount : MethodName := ⟨RX3, "fingerCount", "()I"⟩
abbrev cX3_isPlayable : ByteArray := prog_5_method_7_code
def yX3_isPlayable : MethodName := ⟨RX3, "isPlayable", "(I)Z"⟩
abbrev cX3_effort : ByteArray := prog_5_method_8_code
def yX3_effort : MethodName := ⟨RX3, "effort", "()I"⟩
abbrev cX3_fingerOn : ByteArray := prog_5_method_9_code
def yX3_fingerOn : MethodName := ⟨RX3, "fingerOn", "(I)I"⟩
def RX4 : String := "Tablature$Instrument"
def TX4 : u_T := fun k => match k with
  | 0 => ("Tablature$Instrument", "open", "[I", true)
  | 1 => ("Tablature$Instrument", "slack", "[Z", true)
  | 2 => ("Tablature$Instrument", "count", "I", false)
  | 3 => ("Tablature$Instrument", "capo", "I", false)
  | _ => ("Tablature$Instrument", "reach", "I", false)
def tyX4 : Nat → FieldType := fun k => match k with
  | 0 => .array .int
  | 1 => .array .boolean
  | 2 => .int
  | 3 => .int
  | _ => .int
theorem nmX4 : ∀ a, a < 5 → ∀ b, b < 5 → a ≠ b → (TX4 a).2.1 ≠ (TX4 b).2.1 := by decide +kernel
theorem tyX4_ok : ∀ k, k < 5 → parseFieldDescriptor (TX4 k).2.2.1 = some (tyX4 k) := by decide +kernel
abbrev cX4_init : ByteArray := prog_6_method_1_code
def yX4_init : MethodName := ⟨RX4, "<init>", "()V"⟩
abbrev cX4_draw : ByteArray := prog_6_method_2_code
def yX4_draw : MethodName := ⟨RX4, "draw", "(I)I"⟩
abbrev cX4_copy : ByteArray := prog_6_method_3_code
def yX4_copy : MethodName := ⟨RX4, "copy", "(LTablature$Instrument;)V"⟩
abbrev cX4_slackCount : ByteArray := prog_6_method_4_code
def yX4_slackCount : MethodName := ⟨RX4, "slackCount", "()I"⟩
abbrev cX4_isUsed : ByteArray := prog_6_method_5_code
def yX4_isUsed : MethodName := ⟨RX4, "isUsed", "(I)Z"⟩
abbrev cX4_lastFret : ByteArray := prog_6_method_6_code
def yX4_lastFret : MethodName := ⟨RX4, "lastFret", "()I"⟩
abbrev cX4_pitchOf : ByteArray := prog_6_method_7_code
def yX4_pitchOf : MethodName := ⟨RX4, "pitchOf", "(II)I"⟩
abbrev cX4_fretFor : ByteArray := prog_6_method_8_code
def yX4_fretFor : MethodName := ⟨RX4, "fretFor", "(II)I"⟩
def RX5 : String := "Tablature$Piece"
def TX5 : u_T := fun k => match k with
  | 0 => ("Tablature$Piece", "chords", "[LTablature$Chord;", true)
  | _ => ("Tablature$Piece", "count", "I", false)
def tyX5 : Nat → FieldType := fun k => match k with
  | 0 => .array (.object "Tablature$Chord")
  | _ => .int
theorem nmX5 : ∀ a, a < 2 → ∀ b, b < 2 → a ≠ b → (TX5 a).2.1 ≠ (TX5 b).2.1 := by decide +kernel
theorem tyX5_ok : ∀ k, k < 2 → parseFieldDescriptor (TX5 k).2.2.1 = some (tyX5 k) := by decide +kernel
abbrev cX5_init : ByteArray := prog_7_method_1_code
def yX5_init : MethodName := ⟨RX5, "<init>", "()V"⟩
abbrev cX5_append : ByteArray := prog_7_method_2_code
def yX5_append : MethodName := ⟨RX5, "append", "(I)LTablature$Chord;"⟩
def RX6 : String := "Tablature$Planner"
def TX6 : u_T := fun k => match k with
  | 0 => ("Tablature$Planner", "grips", "[LTablature$Grips;", true)
  | 1 => ("Tablature$Planner", "fixed", "[I", true)
  | 2 => ("Tablature$Planner", "choice", "[I", true)
  | 3 => ("Tablature$Planner", "total", "I", false)
  | 4 => ("Tablature$Planner", "lengths", "[I", true)
  | 5 => ("Tablature$Planner", "rest", "[[I", true)
  | 6 => ("Tablature$Planner", "hand", "LTablature$Hand;", true)
  | _ => ("Tablature$Planner", "count", "I", false)
def tyX6 : Nat → FieldType := fun k => match k with
  | 0 => .array (.object "Tablature$Grips")
  | 1 => .array .int
  | 2 => .array .int
  | 3 => .int
  | 4 => .array .int
  | 5 => .array (.array .int)
  | 6 => .object "Tablature$Hand"
  | _ => .int
theorem nmX6 : ∀ a, a < 8 → ∀ b, b < 8 → a ≠ b → (TX6 a).2.1 ≠ (TX6 b).2.1 := by decide +kernel
theorem tyX6_ok : ∀ k, k < 8 → parseFieldDescriptor (TX6 k).2.2.1 = some (tyX6 k) := by decide +kernel
abbrev cX6_init : ByteArray := prog_8_method_1_code
def yX6_init : MethodName := ⟨RX6, "<init>", "()V"⟩
abbrev cX6_read : ByteArray := prog_8_method_2_code
def yX6_read : MethodName := ⟨RX6, "read", "(LTablature$Instrument;LTablature$Piece;)V"⟩
abbrev cX6_place : ByteArray := prog_8_method_3_code
def yX6_place : MethodName := ⟨RX6, "place", "(LTablature$Grips;LTablature$Hand;LTablature$Instrument;LTablature$Chord;II)V"⟩
abbrev cX6_solve : ByteArray := prog_8_method_4_code
def yX6_solve : MethodName := ⟨RX6, "solve", "()V"⟩
abbrev cX6_bestAt : ByteArray := prog_8_method_5_code
def yX6_bestAt : MethodName := ⟨RX6, "bestAt", "(II)I"⟩
abbrev cX6_moveCost : ByteArray := prog_8_method_6_code
def yX6_moveCost : MethodName := ⟨RX6, "moveCost", "(III)I"⟩
abbrev cX6_hardestMove : ByteArray := prog_8_method_7_code
def yX6_hardestMove : MethodName := ⟨RX6, "hardestMove", "()I"⟩
abbrev cX6_sumOfMoves : ByteArray := prog_8_method_8_code
def yX6_sumOfMoves : MethodName := ⟨RX6, "sumOfMoves", "()I"⟩
abbrev cX6_griplessCount : ByteArray := prog_8_method_9_code
def yX6_griplessCount : MethodName := ⟨RX6, "griplessCount", "()I"⟩
abbrev cX6_fixedCount : ByteArray := prog_8_method_10_code
def yX6_fixedCount : MethodName := ⟨RX6, "fixedCount", "()I"⟩
def RX7 : String := "Tablature$Shapes"
def TX7 : u_T := fun k => match k with
  | 0 => ("Tablature$Shapes", "count", "I", false)
  | 1 => ("Tablature$Shapes", "bestEffort", "I", false)
  | 2 => ("Tablature$Shapes", "bestSounding", "I", false)
  | 3 => ("Tablature$Shapes", "bestCode", "I", false)
  | 4 => ("Tablature$Shapes", "classes", "I", false)
  | 5 => ("Tablature$Shapes", "bass", "I", false)
  | 6 => ("Tablature$Shapes", "fromFret", "I", false)
  | _ => ("Tablature$Shapes", "hand", "LTablature$Hand;", true)
def tyX7 : Nat → FieldType := fun k => match k with
  | 0 => .int
  | 1 => .int
  | 2 => .int
  | 3 => .int
  | 4 => .int
  | 5 => .int
  | 6 => .int
  | _ => .object "Tablature$Hand"
theorem nmX7 : ∀ a, a < 8 → ∀ b, b < 8 → a ≠ b → (TX7 a).2.1 ≠ (TX7 b).2.1 := by decide +kernel
theorem tyX7_ok : ∀ k, k < 8 → parseFieldDescriptor (TX7 k).2.2.1 = some (tyX7 k) := by decide +kernel
abbrev cX7_init : ByteArray := prog_9_method_1_code
def yX7_init : MethodName := ⟨RX7, "<init>", "()V"⟩
abbrev cX7_forget : ByteArray := prog_9_method_2_code
def yX7_forget : MethodName := ⟨RX7, "forget", "()V"⟩
abbrev cX7_isOf : ByteArray := prog_9_method_3_code
def yX7_isOf : MethodName := ⟨RX7, "isOf", "(III)Z"⟩
abbrev cX7_seek : ByteArray := prog_9_method_4_code
def yX7_seek : MethodName := ⟨RX7, "seek", "(LTablature$Instrument;III)V"⟩
abbrev cX7_bestFret : ByteArray := prog_9_method_5_code
def yX7_bestFret : MethodName := ⟨RX7, "bestFret", "(I)I"⟩
abbrev cX7_place : ByteArray := prog_9_method_6_code
def yX7_place : MethodName := ⟨RX7, "place", "(LTablature$Shapes;LTablature$Instrument;IIII)V"⟩
abbrev cX7_offer : ByteArray := prog_9_method_7_code
def yX7_offer : MethodName := ⟨RX7, "offer", "(II)V"⟩
abbrev cX7_isBetter : ByteArray := prog_9_method_8_code
def yX7_isBetter : MethodName := ⟨RX7, "isBetter", "(II)Z"⟩
def RX8 : String := "Tablature"
def TX8 : u_T := fun k => match k with
  | 0 => ("Tablature", "instrument", "LTablature$Instrument;", true)
  | 1 => ("Tablature", "trialInstrument", "LTablature$Instrument;", true)
  | 2 => ("Tablature", "piece", "LTablature$Piece;", true)
  | 3 => ("Tablature", "planner", "LTablature$Planner;", true)
  | 4 => ("Tablature", "trialPlanner", "LTablature$Planner;", true)
  | 5 => ("Tablature", "voicing", "LTablature$Shapes;", true)
  | 6 => ("Tablature", "hand", "LTablature$Hand;", true)
  | _ => ("Tablature", "planIsStale", "Z", false)
def tyX8 : Nat → FieldType := fun k => match k with
  | 0 => .object "Tablature$Instrument"
  | 1 => .object "Tablature$Instrument"
  | 2 => .object "Tablature$Piece"
  | 3 => .object "Tablature$Planner"
  | 4 => .object "Tablature$Planner"
  | 5 => .object "Tablature$Shapes"
  | 6 => .object "Tablature$Hand"
  | _ => .boolean
theorem nmX8 : ∀ a, a < 8 → ∀ b, b < 8 → a ≠ b → (TX8 a).2.1 ≠ (TX8 b).2.1 := by decide +kernel
theorem tyX8_ok : ∀ k, k < 8 → parseFieldDescriptor (TX8 k).2.2.1 = some (tyX8 k) := by decide +kernel
abbrev cX8_init : ByteArray := prog_1_method_1_code
def yX8_init : MethodName := ⟨RX8, "<init>", "()V"⟩
abbrev cX8_string : ByteArray := prog_1_method_2_code
def yX8_string : MethodName := ⟨RX8, "string", "(I)I"⟩
abbrev cX8_tune : ByteArray := prog_1_method_3_code
def yX8_tune : MethodName := ⟨RX8, "tune", "(II)I"⟩
abbrev cX8_slacken : ByteArray := prog_1_method_4_code
def yX8_slacken : MethodName := ⟨RX8, "slacken", "(IZ)I"⟩
abbrev cX8_capo : ByteArray := prog_1_method_5_code
def yX8_capo : MethodName := ⟨RX8, "capo", "(I)I"⟩
abbrev cX8_reach : ByteArray := prog_1_method_6_code
def yX8_reach : MethodName := ⟨RX8, "reach", "(I)I"⟩
abbrev cX8_chord : ByteArray := prog_1_method_8_code
def yX8_chord : MethodName := ⟨RX8, "chord", "(IIIII)I"⟩
abbrev cX8_fix : ByteArray := prog_1_method_10_code
def yX8_fix : MethodName := ⟨RX8, "fix", "(II)I"⟩
abbrev cX8_ofChord : ByteArray := prog_1_method_11_code
def yX8_ofChord : MethodName := ⟨RX8, "ofChord", "(II)I"⟩
abbrev cX8_ofGrip : ByteArray := prog_1_method_12_code
def yX8_ofGrip : MethodName := ⟨RX8, "ofGrip", "(III)I"⟩
abbrev cX8_fret : ByteArray := prog_1_method_13_code
def yX8_fret : MethodName := ⟨RX8, "fret", "(III)I"⟩
abbrev cX8_finger : ByteArray := prog_1_method_14_code
def yX8_finger : MethodName := ⟨RX8, "finger", "(III)I"⟩
abbrev cX8_move : ByteArray := prog_1_method_15_code
def yX8_move : MethodName := ⟨RX8, "move", "(III)I"⟩
abbrev cX8_plan : ByteArray := prog_1_method_16_code
def yX8_plan : MethodName := ⟨RX8, "plan", "(I)I"⟩
abbrev cX8_total : ByteArray := prog_1_method_17_code
def yX8_total : MethodName := ⟨RX8, "total", "()I"⟩
abbrev cX8_many : ByteArray := prog_1_method_19_code
def yX8_many : MethodName := ⟨RX8, "many", "(I)I"⟩
abbrev cX8_shapes : ByteArray := prog_1_method_21_code
def yX8_shapes : MethodName := ⟨RX8, "shapes", "(III)I"⟩
abbrev cX8_shapeEffort : ByteArray := prog_1_method_22_code
def yX8_shapeEffort : MethodName := ⟨RX8, "shapeEffort", "(III)I"⟩
abbrev cX8_shapeFret : ByteArray := prog_1_method_23_code
def yX8_shapeFret : MethodName := ⟨RX8, "shapeFret", "(IIII)I"⟩
abbrev cX8_totalWith : ByteArray := prog_1_method_24_code
def yX8_totalWith : MethodName := ⟨RX8, "totalWith", "(II)I"⟩
abbrev cX8_bestCapo : ByteArray := prog_1_method_25_code
def yX8_bestCapo : MethodName := ⟨RX8, "bestCapo", "()I"⟩
abbrev cX8_totalWithout : ByteArray := prog_1_method_26_code
def yX8_totalWithout : MethodName := ⟨RX8, "totalWithout", "(I)I"⟩
abbrev cX8_totalFixed : ByteArray := prog_1_method_27_code
def yX8_totalFixed : MethodName := ⟨RX8, "totalFixed", "(II)I"⟩
abbrev cX8_digest : ByteArray := prog_1_method_28_code
def yX8_digest : MethodName := ⟨RX8, "digest", "()J"⟩
abbrev cX8_mixChord : ByteArray := prog_1_method_29_code
def yX8_mixChord : MethodName := ⟨RX8, "mixChord", "(JI)J"⟩
abbrev cX8_mixGrip : ByteArray := prog_1_method_30_code
def yX8_mixGrip : MethodName := ⟨RX8, "mixGrip", "(JI)J"⟩
abbrev cX8_mix : ByteArray := prog_1_method_31_code
def yX8_mix : MethodName := ⟨RX8, "mix", "(JI)J"⟩
abbrev cX8_askWhole : ByteArray := prog_1_method_32_code
def yX8_askWhole : MethodName := ⟨RX8, "askWhole", "(I)I"⟩
abbrev cX8_askChord : ByteArray := prog_1_method_33_code
def yX8_askChord : MethodName := ⟨RX8, "askChord", "(II)I"⟩
abbrev cX8_askHand : ByteArray := prog_1_method_34_code
def yX8_askHand : MethodName := ⟨RX8, "askHand", "(I)I"⟩
abbrev cX8_totalUnder : ByteArray := prog_1_method_35_code
def yX8_totalUnder : MethodName := ⟨RX8, "totalUnder", "(II)I"⟩
abbrev cX8_instrumentChanged : ByteArray := prog_1_method_36_code
def yX8_instrumentChanged : MethodName := ⟨RX8, "instrumentChanged", "()V"⟩
abbrev cX8_refreshPlan : ByteArray := prog_1_method_37_code
def yX8_refreshPlan : MethodName := ⟨RX8, "refreshPlan", "()V"⟩
abbrev cX8_freshVoicing : ByteArray := prog_1_method_38_code
def yX8_freshVoicing : MethodName := ⟨RX8, "freshVoicing", "(III)LTablature$Shapes;"⟩
abbrev cX8_needString : ByteArray := prog_1_method_39_code
def yX8_needString : MethodName := ⟨RX8, "needString", "(I)V"⟩
abbrev cX8_needChord : ByteArray := prog_1_method_40_code
def yX8_needChord : MethodName := ⟨RX8, "needChord", "(I)V"⟩
abbrev cX8_needGrip : ByteArray := prog_1_method_41_code
def yX8_needGrip : MethodName := ⟨RX8, "needGrip", "(II)LTablature$Grips;"⟩
abbrev cX8_needQuestion : ByteArray := prog_1_method_42_code
def yX8_needQuestion : MethodName := ⟨RX8, "needQuestion", "(II)V"⟩
abbrev cX8_needOpen : ByteArray := prog_1_method_43_code
def yX8_needOpen : MethodName := ⟨RX8, "needOpen", "(I)V"⟩
abbrev cX8_needCapo : ByteArray := prog_1_method_44_code
def yX8_needCapo : MethodName := ⟨RX8, "needCapo", "(I)V"⟩
abbrev cX8_needReach : ByteArray := prog_1_method_45_code
def yX8_needReach : MethodName := ⟨RX8, "needReach", "(I)V"⟩
abbrev cX8_needVoicing : ByteArray := prog_1_method_46_code
def yX8_needVoicing : MethodName := ⟨RX8, "needVoicing", "(III)V"⟩
abbrev cX8_isPitch : ByteArray := prog_1_method_47_code
def yX8_isPitch : MethodName := ⟨RX8, "isPitch", "(I)Z"⟩
abbrev cX8_isPitchOrNone : ByteArray := prog_1_method_48_code
def yX8_isPitchOrNone : MethodName := ⟨RX8, "isPitchOrNone", "(I)Z"⟩
abbrev cX8_hasTwice : ByteArray := prog_1_method_49_code
def yX8_hasTwice : MethodName := ⟨RX8, "hasTwice", "(IIII)Z"⟩
def RX9 : String := "TablatureLaw$Neck"
def TX9 : u_T := fun k => match k with
  | 0 => ("TablatureLaw$Neck", "m", "LTablature;", true)
  | 1 => ("TablatureLaw$Neck", "s", "[I", true)
  | 2 => ("TablatureLaw$Neck", "draws", "I", false)
  | 3 => ("TablatureLaw$Neck", "open", "[I", false)
  | 4 => ("TablatureLaw$Neck", "isSlack", "[Z", false)
  | 5 => ("TablatureLaw$Neck", "capo", "I", false)
  | 6 => ("TablatureLaw$Neck", "reach", "I", false)
  | 7 => ("TablatureLaw$Neck", "chords", "[[I", false)
  | 8 => ("TablatureLaw$Neck", "lengths", "[I", false)
  | 9 => ("TablatureLaw$Neck", "fixed", "[[I", false)
  | _ => ("TablatureLaw$Neck", "found", "[[I", false)
def tyX9 : Nat → FieldType := fun k => match k with
  | 0 => .object "Tablature"
  | 1 => .array .int
  | 2 => .int
  | 3 => .array .int
  | 4 => .array .boolean
  | 5 => .int
  | 6 => .int
  | 7 => .array (.array .int)
  | 8 => .array .int
  | 9 => .array (.array .int)
  | _ => .array (.array .int)
theorem nmX9 : ∀ a, a < 11 → ∀ b, b < 11 → a ≠ b → (TX9 a).2.1 ≠ (TX9 b).2.1 := by decide +kernel
theorem tyX9_ok : ∀ k, k < 11 → parseFieldDescriptor (TX9 k).2.2.1 = some (tyX9 k) := by decide +kernel
abbrev cX9_init : ByteArray := prog_11_method_1_code
def yX9_init : MethodName := ⟨RX9, "<init>", "([II)V"⟩
abbrev cX9_draw : ByteArray := prog_11_method_2_code
def yX9_draw : MethodName := ⟨RX9, "draw", "(I)I"⟩
abbrev cX9_plus : ByteArray := prog_11_method_3_code
def yX9_plus : MethodName := ⟨RX9, "plus", "([II)[I"⟩
abbrev cX9_with : ByteArray := prog_11_method_4_code
def yX9_with : MethodName := ⟨RX9, "with", "([[I[II)[[I"⟩
abbrev cX9_string : ByteArray := prog_11_method_5_code
def yX9_string : MethodName := ⟨RX9, "string", "()Z"⟩
abbrev cX9_chord : ByteArray := prog_11_method_6_code
def yX9_chord : MethodName := ⟨RX9, "chord", "()Z"⟩
abbrev cX9_change : ByteArray := prog_11_method_8_code
def yX9_change : MethodName := ⟨RX9, "change", "()Z"⟩
abbrev cX9_low : ByteArray := prog_11_method_9_code
def yX9_low : MethodName := ⟨RX9, "low", "([I)I"⟩
abbrev cX9_high : ByteArray := prog_11_method_10_code
def yX9_high : MethodName := ⟨RX9, "high", "([I)I"⟩
abbrev cX9_hasBarre : ByteArray := prog_11_method_11_code
def yX9_hasBarre : MethodName := ⟨RX9, "hasBarre", "([I)Z"⟩
abbrev cX9_fingers : ByteArray := prog_11_method_12_code
def yX9_fingers : MethodName := ⟨RX9, "fingers", "([I)[I"⟩
abbrev cX9_count : ByteArray := prog_11_method_13_code
def yX9_count : MethodName := ⟨RX9, "count", "([I)I"⟩
abbrev cX9_sounds : ByteArray := prog_11_method_14_code
def yX9_sounds : MethodName := ⟨RX9, "sounds", "([I)I"⟩
abbrev cX9_effort : ByteArray := prog_11_method_15_code
def yX9_effort : MethodName := ⟨RX9, "effort", "([I)I"⟩
abbrev cX9_isSmaller : ByteArray := prog_11_method_16_code
def yX9_isSmaller : MethodName := ⟨RX9, "isSmaller", "([I[I)Z"⟩
abbrev cX9_go : ByteArray := prog_11_method_17_code
def yX9_go : MethodName := ⟨RX9, "go", "([I[III)V"⟩
abbrev cX9_grips : ByteArray := prog_11_method_18_code
def yX9_grips : MethodName := ⟨RX9, "grips", "(I)[[I"⟩
abbrev cX9_fix : ByteArray := prog_11_method_20_code
def yX9_fix : MethodName := ⟨RX9, "fix", "()Z"⟩
abbrev cX9_found : ByteArray := prog_11_method_25_code
def yX9_found : MethodName := ⟨RX9, "found", "(II)Z"⟩
def RX10 : String := "TablatureModel"
def TX10 : u_T := fun k => match k with
  | _ => ("", "", "", false)
def tyX10 : Nat → FieldType := fun k => match k with
  | _ => .int
theorem nmX10 : ∀ a, a < 0 → ∀ b, b < 0 → a ≠ b → (TX10 a).2.1 ≠ (TX10 b).2.1 := by decide +kernel
theorem tyX10_ok : ∀ k, k < 0 → parseFieldDescriptor (TX10 k).2.2.1 = some (tyX10 k) := by decide +kernel
def RJ6 : String := "java/lang/Integer"
abbrev cJ6_bitCount_0f7a4 : ByteArray := prog_17_method_49_code
def yJ6_bitCount_0f7a4 : MethodName := ⟨RJ6, "bitCount", "(I)I"⟩
def RJ9 : String := "java/lang/Math"
abbrev cJ9_abs_0f7a4 : ByteArray := prog_18_method_59_code
def yJ9_abs_0f7a4 : MethodName := ⟨RJ9, "abs", "(I)I"⟩
abbrev cJ9_max_7cf53 : ByteArray := prog_18_method_65_code
def yJ9_max_7cf53 : MethodName := ⟨RJ9, "max", "(II)I"⟩
abbrev cJ9_min_7cf53 : ByteArray := prog_18_method_69_code
def yJ9_min_7cf53 : MethodName := ⟨RJ9, "min", "(II)I"⟩
def RJ0 : String := "java/lang/String"
def RJ10 : String := "java/lang/System"
def RL : String := "TablatureLaw"
abbrev cL_below : ByteArray := method_2_code
def yL_below : MethodName := ⟨RL, "below", "(II)I"⟩
abbrev cL_cell : ByteArray := method_3_code
def yL_cell : MethodName := ⟨RL, "cell", "([II)I"⟩
abbrev cL_law : ByteArray := code
def yL_law : MethodName := ⟨RL, "law", "([I)Z"⟩
theorem dX0_init_0 : decode cX0_init 0 = .ok (.aload_n 0, 1) := by decide +kernel
theorem dX0_init_1 : decode cX0_init 1 = .ok (.invokespecial 3, 3) := by decide +kernel
theorem dX0_init_4 : decode cX0_init 4 = .ok (.aload_n 0, 1) := by decide +kernel
theorem dX0_init_5 : decode cX0_init 5 = .ok (.iconst 4, 1) := by decide +kernel
theorem dX0_init_6 : decode cX0_init 6 = .ok (.newarray .int, 2) := by decide +kernel
theorem dX0_init_8 : decode cX0_init 8 = .ok (.putfield 9, 3) := by decide +kernel
theorem dX0_init_11 : decode cX0_init 11 = .ok (.aload_n 0, 1) := by decide +kernel
theorem dX0_init_12 : decode cX0_init 12 = .ok (.iconst 0, 1) := by decide +kernel
theorem dX0_init_13 : decode cX0_init 13 = .ok (.putfield 15, 3) := by decide +kernel
theorem dX0_init_16 : decode cX0_init 16 = .ok (.aload_n 0, 1) := by decide +kernel
theorem dX0_init_17 : decode cX0_init 17 = .ok (.iconst 1, 1) := by decide +kernel
theorem dX0_init_18 : decode cX0_init 18 = .ok (.putfield 19, 3) := by decide +kernel
theorem dX0_init_21 : decode cX0_init 21 = .ok (.aload_n 0, 1) := by decide +kernel
theorem dX0_init_22 : decode cX0_init 22 = .ok (.iconst (-1), 1) := by decide +kernel
theorem dX0_init_23 : decode cX0_init 23 = .ok (.putfield 22, 3) := by decide +kernel
theorem dX0_init_26 : decode cX0_init 26 = .ok (.return_, 1) := by decide +kernel
theorem dX0_clear_0 : decode cX0_clear 0 = .ok (.aload_n 0, 1) := by decide +kernel
theorem dX0_clear_1 : decode cX0_clear 1 = .ok (.iconst 0, 1) := by decide +kernel
theorem dX0_clear_2 : decode cX0_clear 2 = .ok (.putfield 15, 3) := by decide +kernel
theorem dX0_clear_5 : decode cX0_clear 5 = .ok (.aload_n 0, 1) := by decide +kernel
theorem dX0_clear_6 : decode cX0_clear 6 = .ok (.iload_n 1, 1) := by decide +kernel
theorem dX0_clear_7 : decode cX0_clear 7 = .ok (.putfield 19, 3) := by decide +kernel
theorem dX0_clear_10 : decode cX0_clear 10 = .ok (.aload_n 0, 1) := by decide +kernel
theorem dX0_clear_11 : decode cX0_clear 11 = .ok (.iconst (-1), 1) := by decide +kernel
theorem dX0_clear_12 : decode cX0_clear 12 = .ok (.putfield 22, 3) := by decide +kernel
theorem dX0_clear_15 : decode cX0_clear 15 = .ok (.return_, 1) := by decide +kernel
theorem dX0_add_0 : decode cX0_add 0 = .ok (.iload_n 1, 1) := by decide +kernel
theorem dX0_add_1 : decode cX0_add 1 = .ok (.iconst (-1), 1) := by decide +kernel
theorem dX0_add_2 : decode cX0_add 2 = .ok (.if_icmp .eq 31, 3) := by decide +kernel
theorem dX0_add_5 : decode cX0_add 5 = .ok (.aload_n 0, 1) := by decide +kernel
theorem dX0_add_6 : decode cX0_add 6 = .ok (.getfield 15, 3) := by decide +kernel
theorem dX0_add_9 : decode cX0_add 9 = .ok (.iconst 4, 1) := by decide +kernel
theorem dX0_add_10 : decode cX0_add 10 = .ok (.if_icmp .ge 23, 3) := by decide +kernel
theorem dX0_add_13 : decode cX0_add 13 = .ok (.aload_n 0, 1) := by decide +kernel
theorem dX0_add_14 : decode cX0_add 14 = .ok (.getfield 9, 3) := by decide +kernel
theorem dX0_add_17 : decode cX0_add 17 = .ok (.aload_n 0, 1) := by decide +kernel
theorem dX0_add_18 : decode cX0_add 18 = .ok (.getfield 15, 3) := by decide +kernel
theorem dX0_add_21 : decode cX0_add 21 = .ok (.iload_n 1, 1) := by decide +kernel
theorem dX0_add_22 : decode cX0_add 22 = .ok (.iastore, 1) := by decide +kernel
theorem dX0_add_23 : decode cX0_add 23 = .ok (.aload_n 0, 1) := by decide +kernel
theorem dX0_add_24 : decode cX0_add 24 = .ok (.dup, 1) := by decide +kernel
theorem dX0_add_25 : decode cX0_add 25 = .ok (.getfield 15, 3) := by decide +kernel
theorem dX0_add_28 : decode cX0_add 28 = .ok (.iconst 1, 1) := by decide +kernel
theorem dX0_add_29 : decode cX0_add 29 = .ok (.iadd, 1) := by decide +kernel
theorem dX0_add_30 : decode cX0_add 30 = .ok (.putfield 15, 3) := by decide +kernel
theorem dX0_add_33 : decode cX0_add 33 = .ok (.return_, 1) := by decide +kernel
theorem dX0_lowest_0 : decode cX0_lowest 0 = .ok (.bipush 80, 2) := by decide +kernel
theorem dX0_lowest_2 : decode cX0_lowest 2 = .ok (.istore_n 1, 1) := by decide +kernel
theorem dX0_lowest_3 : decode cX0_lowest 3 = .ok (.iconst 0, 1) := by decide +kernel
theorem dX0_lowest_4 : decode cX0_lowest 4 = .ok (.istore_n 2, 1) := by decide +kernel
theorem dX0_lowest_5 : decode cX0_lowest 5 = .ok (.iload_n 2, 1) := by decide +kernel
theorem dX0_lowest_6 : decode cX0_lowest 6 = .ok (.aload_n 0, 1) := by decide +kernel
theorem dX0_lowest_7 : decode cX0_lowest 7 = .ok (.getfield 15, 3) := by decide +kernel
theorem dX0_lowest_10 : decode cX0_lowest 10 = .ok (.if_icmp .ge 20, 3) := by decide +kernel
theorem dX0_lowest_13 : decode cX0_lowest 13 = .ok (.iload_n 1, 1) := by decide +kernel
theorem dX0_lowest_14 : decode cX0_lowest 14 = .ok (.aload_n 0, 1) := by decide +kernel
theorem dX0_lowest_15 : decode cX0_lowest 15 = .ok (.getfield 9, 3) := by decide +kernel
theorem dX0_lowest_18 : decode cX0_lowest 18 = .ok (.iload_n 2, 1) := by decide +kernel
theorem dX0_lowest_19 : decode cX0_lowest 19 = .ok (.iaload, 1) := by decide +kernel
theorem dX0_lowest_20 : decode cX0_lowest 20 = .ok (.invokestatic 25, 3) := by decide +kernel
theorem dX0_lowest_23 : decode cX0_lowest 23 = .ok (.istore_n 1, 1) := by decide +kernel
theorem dX0_lowest_24 : decode cX0_lowest 24 = .ok (.iinc 2 1, 3) := by decide +kernel
theorem dX0_lowest_27 : decode cX0_lowest 27 = .ok (.goto (-22), 3) := by decide +kernel
theorem dX0_lowest_30 : decode cX0_lowest 30 = .ok (.iload_n 1, 1) := by decide +kernel
theorem dX0_lowest_31 : decode cX0_lowest 31 = .ok (.ireturn, 1) := by decide +kernel
theorem dX0_highest_0 : decode cX0_highest 0 = .ok (.iconst 0, 1) := by decide +kernel
theorem dX0_highest_1 : decode cX0_highest 1 = .ok (.istore_n 1, 1) := by decide +kernel
theorem dX0_highest_2 : decode cX0_highest 2 = .ok (.iconst 0, 1) := by decide +kernel
theorem dX0_highest_3 : decode cX0_highest 3 = .ok (.istore_n 2, 1) := by decide +kernel
theorem dX0_highest_4 : decode cX0_highest 4 = .ok (.iload_n 2, 1) := by decide +kernel
theorem dX0_highest_5 : decode cX0_highest 5 = .ok (.aload_n 0, 1) := by decide +kernel
theorem dX0_highest_6 : decode cX0_highest 6 = .ok (.getfield 15, 3) := by decide +kernel
theorem dX0_highest_9 : decode cX0_highest 9 = .ok (.if_icmp .ge 20, 3) := by decide +kernel
theorem dX0_highest_12 : decode cX0_highest 12 = .ok (.iload_n 1, 1) := by decide +kernel
theorem dX0_highest_13 : decode cX0_highest 13 = .ok (.aload_n 0, 1) := by decide +kernel
theorem dX0_highest_14 : decode cX0_highest 14 = .ok (.getfield 9, 3) := by decide +kernel
theorem dX0_highest_17 : decode cX0_highest 17 = .ok (.iload_n 2, 1) := by decide +kernel
theorem dX0_highest_18 : decode cX0_highest 18 = .ok (.iaload, 1) := by decide +kernel
theorem dX0_highest_19 : decode cX0_highest 19 = .ok (.invokestatic 31, 3) := by decide +kernel
theorem dX0_highest_22 : decode cX0_highest 22 = .ok (.istore_n 1, 1) := by decide +kernel
theorem dX0_highest_23 : decode cX0_highest 23 = .ok (.iinc 2 1, 3) := by decide +kernel
theorem dX0_highest_26 : decode cX0_highest 26 = .ok (.goto (-22), 3) := by decide +kernel
theorem dX0_highest_29 : decode cX0_highest 29 = .ok (.iload_n 1, 1) := by decide +kernel
theorem dX0_highest_30 : decode cX0_highest 30 = .ok (.ireturn, 1) := by decide +kernel
theorem dX1_fretAt_0 : decode cX1_fretAt 0 = .ok (.iload_n 0, 1) := by decide +kernel
theorem dX1_fretAt_1 : decode cX1_fretAt 1 = .ok (.iconst 4, 1) := by decide +kernel
theorem dX1_fretAt_2 : decode cX1_fretAt 2 = .ok (.iconst 5, 1) := by decide +kernel
theorem dX1_fretAt_3 : decode cX1_fretAt 3 = .ok (.iload_n 1, 1) := by decide +kernel
theorem dX1_fretAt_4 : decode cX1_fretAt 4 = .ok (.isub, 1) := by decide +kernel
theorem dX1_fretAt_5 : decode cX1_fretAt 5 = .ok (.imul, 1) := by decide +kernel
theorem dX1_fretAt_6 : decode cX1_fretAt 6 = .ok (.ishr, 1) := by decide +kernel
theorem dX1_fretAt_7 : decode cX1_fretAt 7 = .ok (.bipush 15, 2) := by decide +kernel
theorem dX1_fretAt_9 : decode cX1_fretAt 9 = .ok (.iand, 1) := by decide +kernel
theorem dX1_fretAt_10 : decode cX1_fretAt 10 = .ok (.iconst 1, 1) := by decide +kernel
theorem dX1_fretAt_11 : decode cX1_fretAt 11 = .ok (.isub, 1) := by decide +kernel
theorem dX1_fretAt_12 : decode cX1_fretAt 12 = .ok (.ireturn, 1) := by decide +kernel
theorem dX1_with_0 : decode cX1_with 0 = .ok (.iload_n 0, 1) := by decide +kernel
theorem dX1_with_1 : decode cX1_with 1 = .ok (.iload_n 2, 1) := by decide +kernel
theorem dX1_with_2 : decode cX1_with 2 = .ok (.iconst 1, 1) := by decide +kernel
theorem dX1_with_3 : decode cX1_with 3 = .ok (.iadd, 1) := by decide +kernel
theorem dX1_with_4 : decode cX1_with 4 = .ok (.iconst 4, 1) := by decide +kernel
theorem dX1_with_5 : decode cX1_with 5 = .ok (.iconst 5, 1) := by decide +kernel
theorem dX1_with_6 : decode cX1_with 6 = .ok (.iload_n 1, 1) := by decide +kernel
theorem dX1_with_7 : decode cX1_with 7 = .ok (.isub, 1) := by decide +kernel
theorem dX1_with_8 : decode cX1_with 8 = .ok (.imul, 1) := by decide +kernel
theorem dX1_with_9 : decode cX1_with 9 = .ok (.ishl, 1) := by decide +kernel
theorem dX1_with_10 : decode cX1_with 10 = .ok (.ior, 1) := by decide +kernel
theorem dX1_with_11 : decode cX1_with 11 = .ok (.ireturn, 1) := by decide +kernel
theorem dX1_newlyPressed_0 : decode cX1_newlyPressed 0 = .ok (.iload_n 0, 1) := by decide +kernel
theorem dX1_newlyPressed_1 : decode cX1_newlyPressed 1 = .ok (.iload_n 1, 1) := by decide +kernel
theorem dX1_newlyPressed_2 : decode cX1_newlyPressed 2 = .ok (.ixor, 1) := by decide +kernel
theorem dX1_newlyPressed_3 : decode cX1_newlyPressed 3 = .ok (.istore_n 2, 1) := by decide +kernel
theorem dX1_newlyPressed_4 : decode cX1_newlyPressed 4 = .ok (.iload_n 2, 1) := by decide +kernel
theorem dX1_newlyPressed_5 : decode cX1_newlyPressed 5 = .ok (.iload_n 2, 1) := by decide +kernel
theorem dX1_newlyPressed_6 : decode cX1_newlyPressed 6 = .ok (.iconst 1, 1) := by decide +kernel
theorem dX1_newlyPressed_7 : decode cX1_newlyPressed 7 = .ok (.ishr, 1) := by decide +kernel
theorem dX1_newlyPressed_8 : decode cX1_newlyPressed 8 = .ok (.ior, 1) := by decide +kernel
theorem dX1_newlyPressed_9 : decode cX1_newlyPressed 9 = .ok (.iload_n 2, 1) := by decide +kernel
theorem dX1_newlyPressed_10 : decode cX1_newlyPressed 10 = .ok (.iconst 2, 1) := by decide +kernel
theorem dX1_newlyPressed_11 : decode cX1_newlyPressed 11 = .ok (.ishr, 1) := by decide +kernel
theorem dX1_newlyPressed_12 : decode cX1_newlyPressed 12 = .ok (.ior, 1) := by decide +kernel
theorem dX1_newlyPressed_13 : decode cX1_newlyPressed 13 = .ok (.iload_n 2, 1) := by decide +kernel
theorem dX1_newlyPressed_14 : decode cX1_newlyPressed 14 = .ok (.iconst 3, 1) := by decide +kernel
theorem dX1_newlyPressed_15 : decode cX1_newlyPressed 15 = .ok (.ishr, 1) := by decide +kernel
theorem dX1_newlyPressed_16 : decode cX1_newlyPressed 16 = .ok (.ior, 1) := by decide +kernel
theorem dX1_newlyPressed_17 : decode cX1_newlyPressed 17 = .ok (.istore_n 3, 1) := by decide +kernel
theorem dX1_newlyPressed_18 : decode cX1_newlyPressed 18 = .ok (.iload_n 1, 1) := by decide +kernel
theorem dX1_newlyPressed_19 : decode cX1_newlyPressed 19 = .ok (.iconst 1, 1) := by decide +kernel
theorem dX1_newlyPressed_20 : decode cX1_newlyPressed 20 = .ok (.ishr, 1) := by decide +kernel
theorem dX1_newlyPressed_21 : decode cX1_newlyPressed 21 = .ok (.iload_n 1, 1) := by decide +kernel
theorem dX1_newlyPressed_22 : decode cX1_newlyPressed 22 = .ok (.iconst 2, 1) := by decide +kernel
theorem dX1_newlyPressed_23 : decode cX1_newlyPressed 23 = .ok (.ishr, 1) := by decide +kernel
theorem dX1_newlyPressed_24 : decode cX1_newlyPressed 24 = .ok (.ior, 1) := by decide +kernel
theorem dX1_newlyPressed_25 : decode cX1_newlyPressed 25 = .ok (.iload_n 1, 1) := by decide +kernel
theorem dX1_newlyPressed_26 : decode cX1_newlyPressed 26 = .ok (.iconst 3, 1) := by decide +kernel
theorem dX1_newlyPressed_27 : decode cX1_newlyPressed 27 = .ok (.ishr, 1) := by decide +kernel
theorem dX1_newlyPressed_28 : decode cX1_newlyPressed 28 = .ok (.ior, 1) := by decide +kernel
theorem dX1_newlyPressed_29 : decode cX1_newlyPressed 29 = .ok (.istore 4, 2) := by decide +kernel
theorem dX1_newlyPressed_31 : decode cX1_newlyPressed 31 = .ok (.iload_n 3, 1) := by decide +kernel
theorem dX1_newlyPressed_32 : decode cX1_newlyPressed 32 = .ok (.iload 4, 2) := by decide +kernel
theorem dX1_newlyPressed_34 : decode cX1_newlyPressed 34 = .ok (.iand, 1) := by decide +kernel
theorem dX1_newlyPressed_35 : decode cX1_newlyPressed 35 = .ok (.ldc 11, 2) := by decide +kernel
theorem dX1_newlyPressed_37 : decode cX1_newlyPressed 37 = .ok (.iand, 1) := by decide +kernel
theorem dX1_newlyPressed_38 : decode cX1_newlyPressed 38 = .ok (.ireturn, 1) := by decide +kernel
theorem dX2_init_0 : decode cX2_init 0 = .ok (.aload_n 0, 1) := by decide +kernel
theorem dX2_init_1 : decode cX2_init 1 = .ok (.invokespecial 3, 3) := by decide +kernel
theorem dX2_init_4 : decode cX2_init 4 = .ok (.aload_n 0, 1) := by decide +kernel
theorem dX2_init_5 : decode cX2_init 5 = .ok (.bipush 30, 2) := by decide +kernel
theorem dX2_init_7 : decode cX2_init 7 = .ok (.newarray .int, 2) := by decide +kernel
theorem dX2_init_9 : decode cX2_init 9 = .ok (.putfield 9, 3) := by decide +kernel
theorem dX2_init_12 : decode cX2_init 12 = .ok (.aload_n 0, 1) := by decide +kernel
theorem dX2_init_13 : decode cX2_init 13 = .ok (.bipush 30, 2) := by decide +kernel
theorem dX2_init_15 : decode cX2_init 15 = .ok (.newarray .int, 2) := by decide +kernel
theorem dX2_init_17 : decode cX2_init 17 = .ok (.putfield 15, 3) := by decide +kernel
theorem dX2_init_20 : decode cX2_init 20 = .ok (.aload_n 0, 1) := by decide +kernel
theorem dX2_init_21 : decode cX2_init 21 = .ok (.bipush 30, 2) := by decide +kernel
theorem dX2_init_23 : decode cX2_init 23 = .ok (.newarray .int, 2) := by decide +kernel
theorem dX2_init_25 : decode cX2_init 25 = .ok (.putfield 18, 3) := by decide +kernel
theorem dX2_init_28 : decode cX2_init 28 = .ok (.aload_n 0, 1) := by decide +kernel
theorem dX2_init_29 : decode cX2_init 29 = .ok (.iconst 0, 1) := by decide +kernel
theorem dX2_init_30 : decode cX2_init 30 = .ok (.putfield 21, 3) := by decide +kernel
theorem dX2_init_33 : decode cX2_init 33 = .ok (.return_, 1) := by decide +kernel
theorem dX2_has_0 : decode cX2_has 0 = .ok (.iload_n 1, 1) := by decide +kernel
theorem dX2_has_1 : decode cX2_has 1 = .ok (.ifCond .lt 21, 3) := by decide +kernel
theorem dX2_has_4 : decode cX2_has 4 = .ok (.iload_n 1, 1) := by decide +kernel
theorem dX2_has_5 : decode cX2_has 5 = .ok (.aload_n 0, 1) := by decide +kernel
theorem dX2_has_6 : decode cX2_has 6 = .ok (.getfield 21, 3) := by decide +kernel
theorem dX2_has_9 : decode cX2_has 9 = .ok (.if_icmp .ge 13, 3) := by decide +kernel
theorem dX2_has_12 : decode cX2_has 12 = .ok (.iload_n 1, 1) := by decide +kernel
theorem dX2_has_13 : decode cX2_has 13 = .ok (.bipush 30, 2) := by decide +kernel
theorem dX2_has_15 : decode cX2_has 15 = .ok (.if_icmp .ge 7, 3) := by decide +kernel
theorem dX2_has_18 : decode cX2_has 18 = .ok (.iconst 1, 1) := by decide +kernel
theorem dX2_has_19 : decode cX2_has 19 = .ok (.goto 4, 3) := by decide +kernel
theorem dX2_has_22 : decode cX2_has 22 = .ok (.iconst 0, 1) := by decide +kernel
theorem dX2_has_23 : decode cX2_has 23 = .ok (.ireturn, 1) := by decide +kernel
theorem dX2_numberOf_0 : decode cX2_numberOf 0 = .ok (.iconst 0, 1) := by decide +kernel
theorem dX2_numberOf_1 : decode cX2_numberOf 1 = .ok (.istore_n 2, 1) := by decide +kernel
theorem dX2_numberOf_2 : decode cX2_numberOf 2 = .ok (.iload_n 2, 1) := by decide +kernel
theorem dX2_numberOf_3 : decode cX2_numberOf 3 = .ok (.aload_n 0, 1) := by decide +kernel
theorem dX2_numberOf_4 : decode cX2_numberOf 4 = .ok (.getfield 21, 3) := by decide +kernel
theorem dX2_numberOf_7 : decode cX2_numberOf 7 = .ok (.if_icmp .ge 21, 3) := by decide +kernel
theorem dX2_numberOf_10 : decode cX2_numberOf 10 = .ok (.aload_n 0, 1) := by decide +kernel
theorem dX2_numberOf_11 : decode cX2_numberOf 11 = .ok (.getfield 9, 3) := by decide +kernel
theorem dX2_numberOf_14 : decode cX2_numberOf 14 = .ok (.iload_n 2, 1) := by decide +kernel
theorem dX2_numberOf_15 : decode cX2_numberOf 15 = .ok (.iaload, 1) := by decide +kernel
theorem dX2_numberOf_16 : decode cX2_numberOf 16 = .ok (.iload_n 1, 1) := by decide +kernel
theorem dX2_numberOf_17 : decode cX2_numberOf 17 = .ok (.if_icmp .ne 5, 3) := by decide +kernel
theorem dX2_numberOf_20 : decode cX2_numberOf 20 = .ok (.iload_n 2, 1) := by decide +kernel
theorem dX2_numberOf_21 : decode cX2_numberOf 21 = .ok (.ireturn, 1) := by decide +kernel
theorem dX2_numberOf_22 : decode cX2_numberOf 22 = .ok (.iinc 2 1, 3) := by decide +kernel
theorem dX2_numberOf_25 : decode cX2_numberOf 25 = .ok (.goto (-23), 3) := by decide +kernel
theorem dX2_numberOf_28 : decode cX2_numberOf 28 = .ok (.iconst (-1), 1) := by decide +kernel
theorem dX2_numberOf_29 : decode cX2_numberOf 29 = .ok (.ireturn, 1) := by decide +kernel
theorem dX2_insert_0 : decode cX2_insert 0 = .ok (.aload_n 0, 1) := by decide +kernel
theorem dX2_insert_1 : decode cX2_insert 1 = .ok (.getfield 21, 3) := by decide +kernel
theorem dX2_insert_4 : decode cX2_insert 4 = .ok (.istore 4, 2) := by decide +kernel
theorem dX2_insert_6 : decode cX2_insert 6 = .ok (.iload 4, 2) := by decide +kernel
theorem dX2_insert_8 : decode cX2_insert 8 = .ok (.ifCond .le 48, 3) := by decide +kernel
theorem dX2_insert_11 : decode cX2_insert 11 = .ok (.iload_n 2, 1) := by decide +kernel
theorem dX2_insert_12 : decode cX2_insert 12 = .ok (.aload_n 0, 1) := by decide +kernel
theorem dX2_insert_13 : decode cX2_insert 13 = .ok (.getfield 15, 3) := by decide +kernel
theorem dX2_insert_16 : decode cX2_insert 16 = .ok (.iload 4, 2) := by decide +kernel
theorem dX2_insert_18 : decode cX2_insert 18 = .ok (.iconst 1, 1) := by decide +kernel
theorem dX2_insert_19 : decode cX2_insert 19 = .ok (.isub, 1) := by decide +kernel
theorem dX2_insert_20 : decode cX2_insert 20 = .ok (.iaload, 1) := by decide +kernel
theorem dX2_insert_21 : decode cX2_insert 21 = .ok (.if_icmp .lt 29, 3) := by decide +kernel
theorem dX2_insert_24 : decode cX2_insert 24 = .ok (.iload_n 2, 1) := by decide +kernel
theorem dX2_insert_25 : decode cX2_insert 25 = .ok (.aload_n 0, 1) := by decide +kernel
theorem dX2_insert_26 : decode cX2_insert 26 = .ok (.getfield 15, 3) := by decide +kernel
theorem dX2_insert_29 : decode cX2_insert 29 = .ok (.iload 4, 2) := by decide +kernel
theorem dX2_insert_31 : decode cX2_insert 31 = .ok (.iconst 1, 1) := by decide +kernel
theorem dX2_insert_32 : decode cX2_insert 32 = .ok (.isub, 1) := by decide +kernel
theorem dX2_insert_33 : decode cX2_insert 33 = .ok (.iaload, 1) := by decide +kernel
theorem dX2_insert_34 : decode cX2_insert 34 = .ok (.if_icmp .ne 22, 3) := by decide +kernel
theorem dX2_insert_37 : decode cX2_insert 37 = .ok (.iload_n 1, 1) := by decide +kernel
theorem dX2_insert_38 : decode cX2_insert 38 = .ok (.aload_n 0, 1) := by decide +kernel
theorem dX2_insert_39 : decode cX2_insert 39 = .ok (.getfield 9, 3) := by decide +kernel
theorem dX2_insert_42 : decode cX2_insert 42 = .ok (.iload 4, 2) := by decide +kernel
theorem dX2_insert_44 : decode cX2_insert 44 = .ok (.iconst 1, 1) := by decide +kernel
theorem dX2_insert_45 : decode cX2_insert 45 = .ok (.isub, 1) := by decide +kernel
theorem dX2_insert_46 : decode cX2_insert 46 = .ok (.iaload, 1) := by decide +kernel
theorem dX2_insert_47 : decode cX2_insert 47 = .ok (.if_icmp .ge 9, 3) := by decide +kernel
theorem dX2_insert_50 : decode cX2_insert 50 = .ok (.iinc 4 (-1), 3) := by decide +kernel
theorem dX2_insert_53 : decode cX2_insert 53 = .ok (.goto (-47), 3) := by decide +kernel
theorem dX2_insert_56 : decode cX2_insert 56 = .ok (.iload 4, 2) := by decide +kernel
theorem dX2_insert_58 : decode cX2_insert 58 = .ok (.bipush 30, 2) := by decide +kernel
theorem dX2_insert_60 : decode cX2_insert 60 = .ok (.if_icmp .lt 4, 3) := by decide +kernel
theorem dX2_insert_63 : decode cX2_insert 63 = .ok (.return_, 1) := by decide +kernel
theorem dX2_insert_64 : decode cX2_insert 64 = .ok (.aload_n 0, 1) := by decide +kernel
theorem dX2_insert_65 : decode cX2_insert 65 = .ok (.aload_n 0, 1) := by decide +kernel
theorem dX2_insert_66 : decode cX2_insert 66 = .ok (.getfield 21, 3) := by decide +kernel
theorem dX2_insert_69 : decode cX2_insert 69 = .ok (.iconst 1, 1) := by decide +kernel
theorem dX2_insert_70 : decode cX2_insert 70 = .ok (.iadd, 1) := by decide +kernel
theorem dX2_insert_71 : decode cX2_insert 71 = .ok (.bipush 30, 2) := by decide +kernel
theorem dX2_insert_73 : decode cX2_insert 73 = .ok (.invokestatic 25, 3) := by decide +kernel
theorem dX2_insert_76 : decode cX2_insert 76 = .ok (.putfield 21, 3) := by decide +kernel
theorem dX2_insert_79 : decode cX2_insert 79 = .ok (.aload_n 0, 1) := by decide +kernel
theorem dX2_insert_80 : decode cX2_insert 80 = .ok (.getfield 21, 3) := by decide +kernel
theorem dX2_insert_83 : decode cX2_insert 83 = .ok (.iconst 1, 1) := by decide +kernel
theorem dX2_insert_84 : decode cX2_insert 84 = .ok (.isub, 1) := by decide +kernel
theorem dX2_insert_85 : decode cX2_insert 85 = .ok (.istore 5, 2) := by decide +kernel
theorem dX2_insert_87 : decode cX2_insert 87 = .ok (.iload 5, 2) := by decide +kernel
theorem dX2_insert_89 : decode cX2_insert 89 = .ok (.iload 4, 2) := by decide +kernel
theorem dX2_insert_91 : decode cX2_insert 91 = .ok (.if_icmp .le 57, 3) := by decide +kernel
theorem dX2_insert_94 : decode cX2_insert 94 = .ok (.aload_n 0, 1) := by decide +kernel
theorem dX2_insert_95 : decode cX2_insert 95 = .ok (.getfield 9, 3) := by decide +kernel
theorem dX2_insert_98 : decode cX2_insert 98 = .ok (.iload 5, 2) := by decide +kernel
theorem dX2_insert_100 : decode cX2_insert 100 = .ok (.aload_n 0, 1) := by decide +kernel
theorem dX2_insert_101 : decode cX2_insert 101 = .ok (.getfield 9, 3) := by decide +kernel
theorem dX2_insert_104 : decode cX2_insert 104 = .ok (.iload 5, 2) := by decide +kernel
theorem dX2_insert_106 : decode cX2_insert 106 = .ok (.iconst 1, 1) := by decide +kernel
theorem dX2_insert_107 : decode cX2_insert 107 = .ok (.isub, 1) := by decide +kernel
theorem dX2_insert_108 : decode cX2_insert 108 = .ok (.iaload, 1) := by decide +kernel
theorem dX2_insert_109 : decode cX2_insert 109 = .ok (.iastore, 1) := by decide +kernel
theorem dX2_insert_110 : decode cX2_insert 110 = .ok (.aload_n 0, 1) := by decide +kernel
theorem dX2_insert_111 : decode cX2_insert 111 = .ok (.getfield 15, 3) := by decide +kernel
theorem dX2_insert_114 : decode cX2_insert 114 = .ok (.iload 5, 2) := by decide +kernel
theorem dX2_insert_116 : decode cX2_insert 116 = .ok (.aload_n 0, 1) := by decide +kernel
theorem dX2_insert_117 : decode cX2_insert 117 = .ok (.getfield 15, 3) := by decide +kernel
theorem dX2_insert_120 : decode cX2_insert 120 = .ok (.iload 5, 2) := by decide +kernel
theorem dX2_insert_122 : decode cX2_insert 122 = .ok (.iconst 1, 1) := by decide +kernel
theorem dX2_insert_123 : decode cX2_insert 123 = .ok (.isub, 1) := by decide +kernel
theorem dX2_insert_124 : decode cX2_insert 124 = .ok (.iaload, 1) := by decide +kernel
theorem dX2_insert_125 : decode cX2_insert 125 = .ok (.iastore, 1) := by decide +kernel
theorem dX2_insert_126 : decode cX2_insert 126 = .ok (.aload_n 0, 1) := by decide +kernel
theorem dX2_insert_127 : decode cX2_insert 127 = .ok (.getfield 18, 3) := by decide +kernel
theorem dX2_insert_130 : decode cX2_insert 130 = .ok (.iload 5, 2) := by decide +kernel
theorem dX2_insert_132 : decode cX2_insert 132 = .ok (.aload_n 0, 1) := by decide +kernel
theorem dX2_insert_133 : decode cX2_insert 133 = .ok (.getfield 18, 3) := by decide +kernel
theorem dX2_insert_136 : decode cX2_insert 136 = .ok (.iload 5, 2) := by decide +kernel
theorem dX2_insert_138 : decode cX2_insert 138 = .ok (.iconst 1, 1) := by decide +kernel
theorem dX2_insert_139 : decode cX2_insert 139 = .ok (.isub, 1) := by decide +kernel
theorem dX2_insert_140 : decode cX2_insert 140 = .ok (.iaload, 1) := by decide +kernel
theorem dX2_insert_141 : decode cX2_insert 141 = .ok (.iastore, 1) := by decide +kernel
theorem dX2_insert_142 : decode cX2_insert 142 = .ok (.iinc 5 (-1), 3) := by decide +kernel
theorem dX2_insert_145 : decode cX2_insert 145 = .ok (.goto (-58), 3) := by decide +kernel
theorem dX2_insert_148 : decode cX2_insert 148 = .ok (.aload_n 0, 1) := by decide +kernel
theorem dX2_insert_149 : decode cX2_insert 149 = .ok (.getfield 9, 3) := by decide +kernel
theorem dX2_insert_152 : decode cX2_insert 152 = .ok (.iload 4, 2) := by decide +kernel
theorem dX2_insert_154 : decode cX2_insert 154 = .ok (.iload_n 1, 1) := by decide +kernel
theorem dX2_insert_155 : decode cX2_insert 155 = .ok (.iastore, 1) := by decide +kernel
theorem dX2_insert_156 : decode cX2_insert 156 = .ok (.aload_n 0, 1) := by decide +kernel
theorem dX2_insert_157 : decode cX2_insert 157 = .ok (.getfield 15, 3) := by decide +kernel
theorem dX2_insert_160 : decode cX2_insert 160 = .ok (.iload 4, 2) := by decide +kernel
theorem dX2_insert_162 : decode cX2_insert 162 = .ok (.iload_n 2, 1) := by decide +kernel
theorem dX2_insert_163 : decode cX2_insert 163 = .ok (.iastore, 1) := by decide +kernel
theorem dX2_insert_164 : decode cX2_insert 164 = .ok (.aload_n 0, 1) := by decide +kernel
theorem dX2_insert_165 : decode cX2_insert 165 = .ok (.getfield 18, 3) := by decide +kernel
theorem dX2_insert_168 : decode cX2_insert 168 = .ok (.iload 4, 2) := by decide +kernel
theorem dX2_insert_170 : decode cX2_insert 170 = .ok (.iload_n 3, 1) := by decide +kernel
theorem dX2_insert_171 : decode cX2_insert 171 = .ok (.iastore, 1) := by decide +kernel
theorem dX2_insert_172 : decode cX2_insert 172 = .ok (.return_, 1) := by decide +kernel
theorem dX3_init_0 : decode cX3_init 0 = .ok (.aload_n 0, 1) := by decide +kernel
theorem dX3_init_1 : decode cX3_init 1 = .ok (.invokespecial 3, 3) := by decide +kernel
theorem dX3_init_4 : decode cX3_init 4 = .ok (.aload_n 0, 1) := by decide +kernel
theorem dX3_init_5 : decode cX3_init 5 = .ok (.iconst 0, 1) := by decide +kernel
theorem dX3_init_6 : decode cX3_init 6 = .ok (.putfield 9, 3) := by decide +kernel
theorem dX3_init_9 : decode cX3_init 9 = .ok (.aload_n 0, 1) := by decide +kernel
theorem dX3_init_10 : decode cX3_init 10 = .ok (.iconst 0, 1) := by decide +kernel
theorem dX3_init_11 : decode cX3_init 11 = .ok (.putfield 15, 3) := by decide +kernel
theorem dX3_init_14 : decode cX3_init 14 = .ok (.aload_n 0, 1) := by decide +kernel
theorem dX3_init_15 : decode cX3_init 15 = .ok (.iconst 0, 1) := by decide +kernel
theorem dX3_init_16 : decode cX3_init 16 = .ok (.putfield 18, 3) := by decide +kernel
theorem dX3_init_19 : decode cX3_init 19 = .ok (.aload_n 0, 1) := by decide +kernel
theorem dX3_init_20 : decode cX3_init 20 = .ok (.iconst 0, 1) := by decide +kernel
theorem dX3_init_21 : decode cX3_init 21 = .ok (.putfield 21, 3) := by decide +kernel
theorem dX3_init_24 : decode cX3_init 24 = .ok (.aload_n 0, 1) := by decide +kernel
theorem dX3_init_25 : decode cX3_init 25 = .ok (.bipush 6, 2) := by decide +kernel
theorem dX3_init_27 : decode cX3_init 27 = .ok (.newarray .int, 2) := by decide +kernel
theorem dX3_init_29 : decode cX3_init 29 = .ok (.putfield 25, 3) := by decide +kernel
theorem dX3_init_32 : decode cX3_init 32 = .ok (.aload_n 0, 1) := by decide +kernel
theorem dX3_init_33 : decode cX3_init 33 = .ok (.iconst 0, 1) := by decide +kernel
theorem dX3_init_34 : decode cX3_init 34 = .ok (.putfield 29, 3) := by decide +kernel
theorem dX3_init_37 : decode cX3_init 37 = .ok (.aload_n 0, 1) := by decide +kernel
theorem dX3_init_38 : decode cX3_init 38 = .ok (.iconst 0, 1) := by decide +kernel
theorem dX3_init_39 : decode cX3_init 39 = .ok (.putfield 32, 3) := by decide +kernel
theorem dX3_init_42 : decode cX3_init 42 = .ok (.aload_n 0, 1) := by decide +kernel
theorem dX3_init_43 : decode cX3_init 43 = .ok (.iconst 0, 1) := by decide +kernel
theorem dX3_init_44 : decode cX3_init 44 = .ok (.putfield 35, 3) := by decide +kernel
theorem dX3_init_47 : decode cX3_init 47 = .ok (.return_, 1) := by decide +kernel
theorem dX3_hold_0 : decode cX3_hold 0 = .ok (.iconst 0, 1) := by decide +kernel
theorem dX3_hold_1 : decode cX3_hold 1 = .ok (.istore_n 2, 1) := by decide +kernel
theorem dX3_hold_2 : decode cX3_hold 2 = .ok (.iload_n 2, 1) := by decide +kernel
theorem dX3_hold_3 : decode cX3_hold 3 = .ok (.bipush 6, 2) := by decide +kernel
theorem dX3_hold_5 : decode cX3_hold 5 = .ok (.if_icmp .ge 20, 3) := by decide +kernel
theorem dX3_hold_8 : decode cX3_hold 8 = .ok (.aload_n 0, 1) := by decide +kernel
theorem dX3_hold_9 : decode cX3_hold 9 = .ok (.getfield 25, 3) := by decide +kernel
theorem dX3_hold_12 : decode cX3_hold 12 = .ok (.iload_n 2, 1) := by decide +kernel
theorem dX3_hold_13 : decode cX3_hold 13 = .ok (.iload_n 1, 1) := by decide +kernel
theorem dX3_hold_14 : decode cX3_hold 14 = .ok (.iload_n 2, 1) := by decide +kernel
theorem dX3_hold_15 : decode cX3_hold 15 = .ok (.invokestatic 38, 3) := by decide +kernel
theorem dX3_hold_18 : decode cX3_hold 18 = .ok (.iastore, 1) := by decide +kernel
theorem dX3_hold_19 : decode cX3_hold 19 = .ok (.iinc 2 1, 3) := by decide +kernel
theorem dX3_hold_22 : decode cX3_hold 22 = .ok (.goto (-20), 3) := by decide +kernel
theorem dX3_hold_25 : decode cX3_hold 25 = .ok (.aload_n 0, 1) := by decide +kernel
theorem dX3_hold_26 : decode cX3_hold 26 = .ok (.invokevirtual 44, 3) := by decide +kernel
theorem dX3_hold_29 : decode cX3_hold 29 = .ok (.aload_n 0, 1) := by decide +kernel
theorem dX3_hold_30 : decode cX3_hold 30 = .ok (.invokevirtual 47, 3) := by decide +kernel
theorem dX3_hold_33 : decode cX3_hold 33 = .ok (.aload_n 0, 1) := by decide +kernel
theorem dX3_hold_34 : decode cX3_hold 34 = .ok (.invokevirtual 50, 3) := by decide +kernel
theorem dX3_hold_37 : decode cX3_hold 37 = .ok (.return_, 1) := by decide +kernel
theorem dX3_countSounding_0 : decode cX3_countSounding 0 = .ok (.aload_n 0, 1) := by decide +kernel
theorem dX3_countSounding_1 : decode cX3_countSounding 1 = .ok (.iconst 0, 1) := by decide +kernel
theorem dX3_countSounding_2 : decode cX3_countSounding 2 = .ok (.putfield 18, 3) := by decide +kernel
theorem dX3_countSounding_5 : decode cX3_countSounding 5 = .ok (.aload_n 0, 1) := by decide +kernel
theorem dX3_countSounding_6 : decode cX3_countSounding 6 = .ok (.iconst 0, 1) := by decide +kernel
theorem dX3_countSounding_7 : decode cX3_countSounding 7 = .ok (.putfield 35, 3) := by decide +kernel
theorem dX3_countSounding_10 : decode cX3_countSounding 10 = .ok (.iconst 0, 1) := by decide +kernel
theorem dX3_countSounding_11 : decode cX3_countSounding 11 = .ok (.istore_n 1, 1) := by decide +kernel
theorem dX3_countSounding_12 : decode cX3_countSounding 12 = .ok (.iconst 0, 1) := by decide +kernel
theorem dX3_countSounding_13 : decode cX3_countSounding 13 = .ok (.istore_n 2, 1) := by decide +kernel
theorem dX3_countSounding_14 : decode cX3_countSounding 14 = .ok (.iload_n 2, 1) := by decide +kernel
theorem dX3_countSounding_15 : decode cX3_countSounding 15 = .ok (.bipush 6, 2) := by decide +kernel
theorem dX3_countSounding_17 : decode cX3_countSounding 17 = .ok (.if_icmp .ge 58, 3) := by decide +kernel
theorem dX3_countSounding_20 : decode cX3_countSounding 20 = .ok (.aload_n 0, 1) := by decide +kernel
theorem dX3_countSounding_21 : decode cX3_countSounding 21 = .ok (.getfield 25, 3) := by decide +kernel
theorem dX3_countSounding_24 : decode cX3_countSounding 24 = .ok (.iload_n 2, 1) := by decide +kernel
theorem dX3_countSounding_25 : decode cX3_countSounding 25 = .ok (.iaload, 1) := by decide +kernel
theorem dX3_countSounding_26 : decode cX3_countSounding 26 = .ok (.iconst (-1), 1) := by decide +kernel
theorem dX3_countSounding_27 : decode cX3_countSounding 27 = .ok (.if_icmp .ne 9, 3) := by decide +kernel
theorem dX3_countSounding_30 : decode cX3_countSounding 30 = .ok (.iinc 1 1, 3) := by decide +kernel
theorem dX3_countSounding_33 : decode cX3_countSounding 33 = .ok (.goto 36, 3) := by decide +kernel
theorem dX3_countSounding_36 : decode cX3_countSounding 36 = .ok (.aload_n 0, 1) := by decide +kernel
theorem dX3_countSounding_37 : decode cX3_countSounding 37 = .ok (.dup, 1) := by decide +kernel
theorem dX3_countSounding_38 : decode cX3_countSounding 38 = .ok (.getfield 35, 3) := by decide +kernel
theorem dX3_countSounding_41 : decode cX3_countSounding 41 = .ok (.aload_n 0, 1) := by decide +kernel
theorem dX3_countSounding_42 : decode cX3_countSounding 42 = .ok (.getfield 18, 3) := by decide +kernel
theorem dX3_countSounding_45 : decode cX3_countSounding 45 = .ok (.ifCond .ne 7, 3) := by decide +kernel
theorem dX3_countSounding_48 : decode cX3_countSounding 48 = .ok (.iconst 0, 1) := by decide +kernel
theorem dX3_countSounding_49 : decode cX3_countSounding 49 = .ok (.goto 4, 3) := by decide +kernel
theorem dX3_countSounding_52 : decode cX3_countSounding 52 = .ok (.iload_n 1, 1) := by decide +kernel
theorem dX3_countSounding_53 : decode cX3_countSounding 53 = .ok (.iadd, 1) := by decide +kernel
theorem dX3_countSounding_54 : decode cX3_countSounding 54 = .ok (.putfield 35, 3) := by decide +kernel
theorem dX3_countSounding_57 : decode cX3_countSounding 57 = .ok (.iconst 0, 1) := by decide +kernel
theorem dX3_countSounding_58 : decode cX3_countSounding 58 = .ok (.istore_n 1, 1) := by decide +kernel
theorem dX3_countSounding_59 : decode cX3_countSounding 59 = .ok (.aload_n 0, 1) := by decide +kernel
theorem dX3_countSounding_60 : decode cX3_countSounding 60 = .ok (.dup, 1) := by decide +kernel
theorem dX3_countSounding_61 : decode cX3_countSounding 61 = .ok (.getfield 18, 3) := by decide +kernel
theorem dX3_countSounding_64 : decode cX3_countSounding 64 = .ok (.iconst 1, 1) := by decide +kernel
theorem dX3_countSounding_65 : decode cX3_countSounding 65 = .ok (.iadd, 1) := by decide +kernel
theorem dX3_countSounding_66 : decode cX3_countSounding 66 = .ok (.putfield 18, 3) := by decide +kernel
theorem dX3_countSounding_69 : decode cX3_countSounding 69 = .ok (.iinc 2 1, 3) := by decide +kernel
theorem dX3_countSounding_72 : decode cX3_countSounding 72 = .ok (.goto (-58), 3) := by decide +kernel
theorem dX3_countSounding_75 : decode cX3_countSounding 75 = .ok (.return_, 1) := by decide +kernel
theorem dX3_countPressed_0 : decode cX3_countPressed 0 = .ok (.aload_n 0, 1) := by decide +kernel
theorem dX3_countPressed_1 : decode cX3_countPressed 1 = .ok (.iconst 0, 1) := by decide +kernel
theorem dX3_countPressed_2 : decode cX3_countPressed 2 = .ok (.putfield 9, 3) := by decide +kernel
theorem dX3_countPressed_5 : decode cX3_countPressed 5 = .ok (.aload_n 0, 1) := by decide +kernel
theorem dX3_countPressed_6 : decode cX3_countPressed 6 = .ok (.iconst 0, 1) := by decide +kernel
theorem dX3_countPressed_7 : decode cX3_countPressed 7 = .ok (.putfield 15, 3) := by decide +kernel
theorem dX3_countPressed_10 : decode cX3_countPressed 10 = .ok (.aload_n 0, 1) := by decide +kernel
theorem dX3_countPressed_11 : decode cX3_countPressed 11 = .ok (.iconst 0, 1) := by decide +kernel
theorem dX3_countPressed_12 : decode cX3_countPressed 12 = .ok (.putfield 29, 3) := by decide +kernel
theorem dX3_countPressed_15 : decode cX3_countPressed 15 = .ok (.iconst 0, 1) := by decide +kernel
theorem dX3_countPressed_16 : decode cX3_countPressed 16 = .ok (.istore_n 1, 1) := by decide +kernel
theorem dX3_countPressed_17 : decode cX3_countPressed 17 = .ok (.iload_n 1, 1) := by decide +kernel
theorem dX3_countPressed_18 : decode cX3_countPressed 18 = .ok (.bipush 6, 2) := by decide +kernel
theorem dX3_countPressed_20 : decode cX3_countPressed 20 = .ok (.if_icmp .ge 77, 3) := by decide +kernel
theorem dX3_countPressed_23 : decode cX3_countPressed 23 = .ok (.aload_n 0, 1) := by decide +kernel
theorem dX3_countPressed_24 : decode cX3_countPressed 24 = .ok (.getfield 25, 3) := by decide +kernel
theorem dX3_countPressed_27 : decode cX3_countPressed 27 = .ok (.iload_n 1, 1) := by decide +kernel
theorem dX3_countPressed_28 : decode cX3_countPressed 28 = .ok (.iaload, 1) := by decide +kernel
theorem dX3_countPressed_29 : decode cX3_countPressed 29 = .ok (.istore_n 2, 1) := by decide +kernel
theorem dX3_countPressed_30 : decode cX3_countPressed 30 = .ok (.iload_n 2, 1) := by decide +kernel
theorem dX3_countPressed_31 : decode cX3_countPressed 31 = .ok (.ifCond .le 60, 3) := by decide +kernel
theorem dX3_countPressed_34 : decode cX3_countPressed 34 = .ok (.aload_n 0, 1) := by decide +kernel
theorem dX3_countPressed_35 : decode cX3_countPressed 35 = .ok (.dup, 1) := by decide +kernel
theorem dX3_countPressed_36 : decode cX3_countPressed 36 = .ok (.getfield 29, 3) := by decide +kernel
theorem dX3_countPressed_39 : decode cX3_countPressed 39 = .ok (.iconst 1, 1) := by decide +kernel
theorem dX3_countPressed_40 : decode cX3_countPressed 40 = .ok (.iadd, 1) := by decide +kernel
theorem dX3_countPressed_41 : decode cX3_countPressed 41 = .ok (.putfield 29, 3) := by decide +kernel
theorem dX3_countPressed_44 : decode cX3_countPressed 44 = .ok (.aload_n 0, 1) := by decide +kernel
theorem dX3_countPressed_45 : decode cX3_countPressed 45 = .ok (.aload_n 0, 1) := by decide +kernel
theorem dX3_countPressed_46 : decode cX3_countPressed 46 = .ok (.getfield 9, 3) := by decide +kernel
theorem dX3_countPressed_49 : decode cX3_countPressed 49 = .ok (.ifCond .eq 11, 3) := by decide +kernel
theorem dX3_countPressed_52 : decode cX3_countPressed 52 = .ok (.iload_n 2, 1) := by decide +kernel
theorem dX3_countPressed_53 : decode cX3_countPressed 53 = .ok (.aload_n 0, 1) := by decide +kernel
theorem dX3_countPressed_54 : decode cX3_countPressed 54 = .ok (.getfield 9, 3) := by decide +kernel
theorem dX3_countPressed_57 : decode cX3_countPressed 57 = .ok (.if_icmp .ge 7, 3) := by decide +kernel
theorem dX3_countPressed_60 : decode cX3_countPressed 60 = .ok (.iload_n 2, 1) := by decide +kernel
theorem dX3_countPressed_61 : decode cX3_countPressed 61 = .ok (.goto 7, 3) := by decide +kernel
theorem dX3_countPressed_64 : decode cX3_countPressed 64 = .ok (.aload_n 0, 1) := by decide +kernel
theorem dX3_countPressed_65 : decode cX3_countPressed 65 = .ok (.getfield 9, 3) := by decide +kernel
theorem dX3_countPressed_68 : decode cX3_countPressed 68 = .ok (.putfield 9, 3) := by decide +kernel
theorem dX3_countPressed_71 : decode cX3_countPressed 71 = .ok (.aload_n 0, 1) := by decide +kernel
theorem dX3_countPressed_72 : decode cX3_countPressed 72 = .ok (.iload_n 2, 1) := by decide +kernel
theorem dX3_countPressed_73 : decode cX3_countPressed 73 = .ok (.aload_n 0, 1) := by decide +kernel
theorem dX3_countPressed_74 : decode cX3_countPressed 74 = .ok (.getfield 15, 3) := by decide +kernel
theorem dX3_countPressed_77 : decode cX3_countPressed 77 = .ok (.if_icmp .le 7, 3) := by decide +kernel
theorem dX3_countPressed_80 : decode cX3_countPressed 80 = .ok (.iload_n 2, 1) := by decide +kernel
theorem dX3_countPressed_81 : decode cX3_countPressed 81 = .ok (.goto 7, 3) := by decide +kernel
theorem dX3_countPressed_84 : decode cX3_countPressed 84 = .ok (.aload_n 0, 1) := by decide +kernel
theorem dX3_countPressed_85 : decode cX3_countPressed 85 = .ok (.getfield 15, 3) := by decide +kernel
theorem dX3_countPressed_88 : decode cX3_countPressed 88 = .ok (.putfield 15, 3) := by decide +kernel
theorem dX3_countPressed_91 : decode cX3_countPressed 91 = .ok (.iinc 1 1, 3) := by decide +kernel
theorem dX3_countPressed_94 : decode cX3_countPressed 94 = .ok (.goto (-77), 3) := by decide +kernel
theorem dX3_countPressed_97 : decode cX3_countPressed 97 = .ok (.return_, 1) := by decide +kernel
theorem dX3_findBarre_0 : decode cX3_findBarre 0 = .ok (.aload_n 0, 1) := by decide +kernel
theorem dX3_findBarre_1 : decode cX3_findBarre 1 = .ok (.iconst 0, 1) := by decide +kernel
theorem dX3_findBarre_2 : decode cX3_findBarre 2 = .ok (.putfield 32, 3) := by decide +kernel
theorem dX3_findBarre_5 : decode cX3_findBarre 5 = .ok (.iconst 0, 1) := by decide +kernel
theorem dX3_findBarre_6 : decode cX3_findBarre 6 = .ok (.istore_n 1, 1) := by decide +kernel
theorem dX3_findBarre_7 : decode cX3_findBarre 7 = .ok (.iconst 0, 1) := by decide +kernel
theorem dX3_findBarre_8 : decode cX3_findBarre 8 = .ok (.istore_n 2, 1) := by decide +kernel
theorem dX3_findBarre_9 : decode cX3_findBarre 9 = .ok (.iconst 0, 1) := by decide +kernel
theorem dX3_findBarre_10 : decode cX3_findBarre 10 = .ok (.istore_n 3, 1) := by decide +kernel
theorem dX3_findBarre_11 : decode cX3_findBarre 11 = .ok (.iload_n 3, 1) := by decide +kernel
theorem dX3_findBarre_12 : decode cX3_findBarre 12 = .ok (.bipush 6, 2) := by decide +kernel
theorem dX3_findBarre_14 : decode cX3_findBarre 14 = .ok (.if_icmp .ge 57, 3) := by decide +kernel
theorem dX3_findBarre_17 : decode cX3_findBarre 17 = .ok (.aload_n 0, 1) := by decide +kernel
theorem dX3_findBarre_18 : decode cX3_findBarre 18 = .ok (.getfield 25, 3) := by decide +kernel
theorem dX3_findBarre_21 : decode cX3_findBarre 21 = .ok (.iload_n 3, 1) := by decide +kernel
theorem dX3_findBarre_22 : decode cX3_findBarre 22 = .ok (.iaload, 1) := by decide +kernel
theorem dX3_findBarre_23 : decode cX3_findBarre 23 = .ok (.istore 4, 2) := by decide +kernel
theorem dX3_findBarre_25 : decode cX3_findBarre 25 = .ok (.iload 4, 2) := by decide +kernel
theorem dX3_findBarre_27 : decode cX3_findBarre 27 = .ok (.ifCond .ne 12, 3) := by decide +kernel
theorem dX3_findBarre_30 : decode cX3_findBarre 30 = .ok (.aload_n 0, 1) := by decide +kernel
theorem dX3_findBarre_31 : decode cX3_findBarre 31 = .ok (.getfield 32, 3) := by decide +kernel
theorem dX3_findBarre_34 : decode cX3_findBarre 34 = .ok (.ifCond .le 5, 3) := by decide +kernel
theorem dX3_findBarre_37 : decode cX3_findBarre 37 = .ok (.iconst 1, 1) := by decide +kernel
theorem dX3_findBarre_38 : decode cX3_findBarre 38 = .ok (.istore_n 1, 1) := by decide +kernel
theorem dX3_findBarre_39 : decode cX3_findBarre 39 = .ok (.iload 4, 2) := by decide +kernel
theorem dX3_findBarre_41 : decode cX3_findBarre 41 = .ok (.ifCond .le 24, 3) := by decide +kernel
theorem dX3_findBarre_44 : decode cX3_findBarre 44 = .ok (.iload 4, 2) := by decide +kernel
theorem dX3_findBarre_46 : decode cX3_findBarre 46 = .ok (.aload_n 0, 1) := by decide +kernel
theorem dX3_findBarre_47 : decode cX3_findBarre 47 = .ok (.getfield 9, 3) := by decide +kernel
theorem dX3_findBarre_50 : decode cX3_findBarre 50 = .ok (.if_icmp .ne 15, 3) := by decide +kernel
theorem dX3_findBarre_53 : decode cX3_findBarre 53 = .ok (.aload_n 0, 1) := by decide +kernel
theorem dX3_findBarre_54 : decode cX3_findBarre 54 = .ok (.dup, 1) := by decide +kernel
theorem dX3_findBarre_55 : decode cX3_findBarre 55 = .ok (.getfield 32, 3) := by decide +kernel
theorem dX3_findBarre_58 : decode cX3_findBarre 58 = .ok (.iconst 1, 1) := by decide +kernel
theorem dX3_findBarre_59 : decode cX3_findBarre 59 = .ok (.iadd, 1) := by decide +kernel
theorem dX3_findBarre_60 : decode cX3_findBarre 60 = .ok (.putfield 32, 3) := by decide +kernel
theorem dX3_findBarre_63 : decode cX3_findBarre 63 = .ok (.iload_n 1, 1) := by decide +kernel
theorem dX3_findBarre_64 : decode cX3_findBarre 64 = .ok (.istore_n 2, 1) := by decide +kernel
theorem dX3_findBarre_65 : decode cX3_findBarre 65 = .ok (.iinc 3 1, 3) := by decide +kernel
theorem dX3_findBarre_68 : decode cX3_findBarre 68 = .ok (.goto (-57), 3) := by decide +kernel
theorem dX3_findBarre_71 : decode cX3_findBarre 71 = .ok (.aload_n 0, 1) := by decide +kernel
theorem dX3_findBarre_72 : decode cX3_findBarre 72 = .ok (.aload_n 0, 1) := by decide +kernel
theorem dX3_findBarre_73 : decode cX3_findBarre 73 = .ok (.getfield 32, 3) := by decide +kernel
theorem dX3_findBarre_76 : decode cX3_findBarre 76 = .ok (.iconst 2, 1) := by decide +kernel
theorem dX3_findBarre_77 : decode cX3_findBarre 77 = .ok (.if_icmp .lt 11, 3) := by decide +kernel
theorem dX3_findBarre_80 : decode cX3_findBarre 80 = .ok (.iload_n 2, 1) := by decide +kernel
theorem dX3_findBarre_81 : decode cX3_findBarre 81 = .ok (.ifCond .ne 7, 3) := by decide +kernel
theorem dX3_findBarre_84 : decode cX3_findBarre 84 = .ok (.iconst 1, 1) := by decide +kernel
theorem dX3_findBarre_85 : decode cX3_findBarre 85 = .ok (.goto 4, 3) := by decide +kernel
theorem dX3_findBarre_88 : decode cX3_findBarre 88 = .ok (.iconst 0, 1) := by decide +kernel
theorem dX3_findBarre_89 : decode cX3_findBarre 89 = .ok (.putfield 21, 3) := by decide +kernel
theorem dX3_findBarre_92 : decode cX3_findBarre 92 = .ok (.return_, 1) := by decide +kernel
theorem dX3_fingerCount_0 : decode cX3_fingerCount 0 = .ok (.aload_n 0, 1) := by decide +kernel
theorem dX3_fingerCount_1 : decode cX3_fingerCount 1 = .ok (.getfield 21, 3) := by decide +kernel
theorem dX3_fingerCount_4 : decode cX3_fingerCount 4 = .ok (.ifCond .eq 17, 3) := by decide +kernel
theorem dX3_fingerCount_7 : decode cX3_fingerCount 7 = .ok (.aload_n 0, 1) := by decide +kernel
theorem dX3_fingerCount_8 : decode cX3_fingerCount 8 = .ok (.getfield 29, 3) := by decide +kernel
theorem dX3_fingerCount_11 : decode cX3_fingerCount 11 = .ok (.aload_n 0, 1) := by decide +kernel
theorem dX3_fingerCount_12 : decode cX3_fingerCount 12 = .ok (.getfield 32, 3) := by decide +kernel
theorem dX3_fingerCount_15 : decode cX3_fingerCount 15 = .ok (.isub, 1) := by decide +kernel
theorem dX3_fingerCount_16 : decode cX3_fingerCount 16 = .ok (.iconst 1, 1) := by decide +kernel
theorem dX3_fingerCount_17 : decode cX3_fingerCount 17 = .ok (.iadd, 1) := by decide +kernel
theorem dX3_fingerCount_18 : decode cX3_fingerCount 18 = .ok (.goto 7, 3) := by decide +kernel
theorem dX3_fingerCount_21 : decode cX3_fingerCount 21 = .ok (.aload_n 0, 1) := by decide +kernel
theorem dX3_fingerCount_22 : decode cX3_fingerCount 22 = .ok (.getfield 29, 3) := by decide +kernel
theorem dX3_fingerCount_25 : decode cX3_fingerCount 25 = .ok (.ireturn, 1) := by decide +kernel
theorem dX3_isPlayable_0 : decode cX3_isPlayable 0 = .ok (.aload_n 0, 1) := by decide +kernel
theorem dX3_isPlayable_1 : decode cX3_isPlayable 1 = .ok (.getfield 15, 3) := by decide +kernel
theorem dX3_isPlayable_4 : decode cX3_isPlayable 4 = .ok (.aload_n 0, 1) := by decide +kernel
theorem dX3_isPlayable_5 : decode cX3_isPlayable 5 = .ok (.getfield 9, 3) := by decide +kernel
theorem dX3_isPlayable_8 : decode cX3_isPlayable 8 = .ok (.isub, 1) := by decide +kernel
theorem dX3_isPlayable_9 : decode cX3_isPlayable 9 = .ok (.iload_n 1, 1) := by decide +kernel
theorem dX3_isPlayable_10 : decode cX3_isPlayable 10 = .ok (.if_icmp .gt 15, 3) := by decide +kernel
theorem dX3_isPlayable_13 : decode cX3_isPlayable 13 = .ok (.aload_n 0, 1) := by decide +kernel
theorem dX3_isPlayable_14 : decode cX3_isPlayable 14 = .ok (.invokevirtual 53, 3) := by decide +kernel
theorem dX3_isPlayable_17 : decode cX3_isPlayable 17 = .ok (.iconst 4, 1) := by decide +kernel
theorem dX3_isPlayable_18 : decode cX3_isPlayable 18 = .ok (.if_icmp .gt 7, 3) := by decide +kernel
theorem dX3_isPlayable_21 : decode cX3_isPlayable 21 = .ok (.iconst 1, 1) := by decide +kernel
theorem dX3_isPlayable_22 : decode cX3_isPlayable 22 = .ok (.goto 4, 3) := by decide +kernel
theorem dX3_isPlayable_25 : decode cX3_isPlayable 25 = .ok (.iconst 0, 1) := by decide +kernel
theorem dX3_isPlayable_26 : decode cX3_isPlayable 26 = .ok (.ireturn, 1) := by decide +kernel
theorem dX3_effort_0 : decode cX3_effort 0 = .ok (.iconst 2, 1) := by decide +kernel
theorem dX3_effort_1 : decode cX3_effort 1 = .ok (.aload_n 0, 1) := by decide +kernel
theorem dX3_effort_2 : decode cX3_effort 2 = .ok (.getfield 15, 3) := by decide +kernel
theorem dX3_effort_5 : decode cX3_effort 5 = .ok (.aload_n 0, 1) := by decide +kernel
theorem dX3_effort_6 : decode cX3_effort 6 = .ok (.getfield 9, 3) := by decide +kernel
theorem dX3_effort_9 : decode cX3_effort 9 = .ok (.isub, 1) := by decide +kernel
theorem dX3_effort_10 : decode cX3_effort 10 = .ok (.imul, 1) := by decide +kernel
theorem dX3_effort_11 : decode cX3_effort 11 = .ok (.aload_n 0, 1) := by decide +kernel
theorem dX3_effort_12 : decode cX3_effort 12 = .ok (.invokevirtual 53, 3) := by decide +kernel
theorem dX3_effort_15 : decode cX3_effort 15 = .ok (.iadd, 1) := by decide +kernel
theorem dX3_effort_16 : decode cX3_effort 16 = .ok (.aload_n 0, 1) := by decide +kernel
theorem dX3_effort_17 : decode cX3_effort 17 = .ok (.getfield 21, 3) := by decide +kernel
theorem dX3_effort_20 : decode cX3_effort 20 = .ok (.ifCond .eq 7, 3) := by decide +kernel
theorem dX3_effort_23 : decode cX3_effort 23 = .ok (.iconst 3, 1) := by decide +kernel
theorem dX3_effort_24 : decode cX3_effort 24 = .ok (.goto 4, 3) := by decide +kernel
theorem dX3_effort_27 : decode cX3_effort 27 = .ok (.iconst 0, 1) := by decide +kernel
theorem dX3_effort_28 : decode cX3_effort 28 = .ok (.iadd, 1) := by decide +kernel
theorem dX3_effort_29 : decode cX3_effort 29 = .ok (.aload_n 0, 1) := by decide +kernel
theorem dX3_effort_30 : decode cX3_effort 30 = .ok (.getfield 35, 3) := by decide +kernel
theorem dX3_effort_33 : decode cX3_effort 33 = .ok (.iadd, 1) := by decide +kernel
theorem dX3_effort_34 : decode cX3_effort 34 = .ok (.ireturn, 1) := by decide +kernel
theorem dX3_fingerOn_0 : decode cX3_fingerOn 0 = .ok (.iload_n 1, 1) := by decide +kernel
theorem dX3_fingerOn_1 : decode cX3_fingerOn 1 = .ok (.ifCond .lt 18, 3) := by decide +kernel
theorem dX3_fingerOn_4 : decode cX3_fingerOn 4 = .ok (.iload_n 1, 1) := by decide +kernel
theorem dX3_fingerOn_5 : decode cX3_fingerOn 5 = .ok (.bipush 6, 2) := by decide +kernel
theorem dX3_fingerOn_7 : decode cX3_fingerOn 7 = .ok (.if_icmp .ge 12, 3) := by decide +kernel
theorem dX3_fingerOn_10 : decode cX3_fingerOn 10 = .ok (.aload_n 0, 1) := by decide +kernel
theorem dX3_fingerOn_11 : decode cX3_fingerOn 11 = .ok (.getfield 25, 3) := by decide +kernel
theorem dX3_fingerOn_14 : decode cX3_fingerOn 14 = .ok (.iload_n 1, 1) := by decide +kernel
theorem dX3_fingerOn_15 : decode cX3_fingerOn 15 = .ok (.iaload, 1) := by decide +kernel
theorem dX3_fingerOn_16 : decode cX3_fingerOn 16 = .ok (.ifCond .gt 5, 3) := by decide +kernel
theorem dX3_fingerOn_19 : decode cX3_fingerOn 19 = .ok (.iconst 0, 1) := by decide +kernel
theorem dX3_fingerOn_20 : decode cX3_fingerOn 20 = .ok (.ireturn, 1) := by decide +kernel
theorem dX3_fingerOn_21 : decode cX3_fingerOn 21 = .ok (.aload_n 0, 1) := by decide +kernel
theorem dX3_fingerOn_22 : decode cX3_fingerOn 22 = .ok (.getfield 25, 3) := by decide +kernel
theorem dX3_fingerOn_25 : decode cX3_fingerOn 25 = .ok (.iload_n 1, 1) := by decide +kernel
theorem dX3_fingerOn_26 : decode cX3_fingerOn 26 = .ok (.iaload, 1) := by decide +kernel
theorem dX3_fingerOn_27 : decode cX3_fingerOn 27 = .ok (.istore_n 2, 1) := by decide +kernel
theorem dX3_fingerOn_28 : decode cX3_fingerOn 28 = .ok (.aload_n 0, 1) := by decide +kernel
theorem dX3_fingerOn_29 : decode cX3_fingerOn 29 = .ok (.getfield 21, 3) := by decide +kernel
theorem dX3_fingerOn_32 : decode cX3_fingerOn 32 = .ok (.ifCond .eq 13, 3) := by decide +kernel
theorem dX3_fingerOn_35 : decode cX3_fingerOn 35 = .ok (.iload_n 2, 1) := by decide +kernel
theorem dX3_fingerOn_36 : decode cX3_fingerOn 36 = .ok (.aload_n 0, 1) := by decide +kernel
theorem dX3_fingerOn_37 : decode cX3_fingerOn 37 = .ok (.getfield 9, 3) := by decide +kernel
theorem dX3_fingerOn_40 : decode cX3_fingerOn 40 = .ok (.if_icmp .ne 5, 3) := by decide +kernel
theorem dX3_fingerOn_43 : decode cX3_fingerOn 43 = .ok (.iconst 1, 1) := by decide +kernel
theorem dX3_fingerOn_44 : decode cX3_fingerOn 44 = .ok (.ireturn, 1) := by decide +kernel
theorem dX3_fingerOn_45 : decode cX3_fingerOn 45 = .ok (.iconst 0, 1) := by decide +kernel
theorem dX3_fingerOn_46 : decode cX3_fingerOn 46 = .ok (.istore_n 3, 1) := by decide +kernel
theorem dX3_fingerOn_47 : decode cX3_fingerOn 47 = .ok (.iconst 0, 1) := by decide +kernel
theorem dX3_fingerOn_48 : decode cX3_fingerOn 48 = .ok (.istore 4, 2) := by decide +kernel
theorem dX3_fingerOn_50 : decode cX3_fingerOn 50 = .ok (.iload 4, 2) := by decide +kernel
theorem dX3_fingerOn_52 : decode cX3_fingerOn 52 = .ok (.bipush 6, 2) := by decide +kernel
theorem dX3_fingerOn_54 : decode cX3_fingerOn 54 = .ok (.if_icmp .ge 44, 3) := by decide +kernel
theorem dX3_fingerOn_57 : decode cX3_fingerOn 57 = .ok (.aload_n 0, 1) := by decide +kernel
theorem dX3_fingerOn_58 : decode cX3_fingerOn 58 = .ok (.getfield 25, 3) := by decide +kernel
theorem dX3_fingerOn_61 : decode cX3_fingerOn 61 = .ok (.iload 4, 2) := by decide +kernel
theorem dX3_fingerOn_63 : decode cX3_fingerOn 63 = .ok (.iaload, 1) := by decide +kernel
theorem dX3_fingerOn_64 : decode cX3_fingerOn 64 = .ok (.istore 5, 2) := by decide +kernel
theorem dX3_fingerOn_66 : decode cX3_fingerOn 66 = .ok (.iload 5, 2) := by decide +kernel
theorem dX3_fingerOn_68 : decode cX3_fingerOn 68 = .ok (.ifCond .le 24, 3) := by decide +kernel
theorem dX3_fingerOn_71 : decode cX3_fingerOn 71 = .ok (.iload 5, 2) := by decide +kernel
theorem dX3_fingerOn_73 : decode cX3_fingerOn 73 = .ok (.iload_n 2, 1) := by decide +kernel
theorem dX3_fingerOn_74 : decode cX3_fingerOn 74 = .ok (.if_icmp .lt 15, 3) := by decide +kernel
theorem dX3_fingerOn_77 : decode cX3_fingerOn 77 = .ok (.iload 5, 2) := by decide +kernel
theorem dX3_fingerOn_79 : decode cX3_fingerOn 79 = .ok (.iload_n 2, 1) := by decide +kernel
theorem dX3_fingerOn_80 : decode cX3_fingerOn 80 = .ok (.if_icmp .ne 12, 3) := by decide +kernel
theorem dX3_fingerOn_83 : decode cX3_fingerOn 83 = .ok (.iload 4, 2) := by decide +kernel
theorem dX3_fingerOn_85 : decode cX3_fingerOn 85 = .ok (.iload_n 1, 1) := by decide +kernel
theorem dX3_fingerOn_86 : decode cX3_fingerOn 86 = .ok (.if_icmp .ge 6, 3) := by decide +kernel
theorem dX3_fingerOn_89 : decode cX3_fingerOn 89 = .ok (.iinc 3 1, 3) := by decide +kernel
theorem dX3_fingerOn_92 : decode cX3_fingerOn 92 = .ok (.iinc 4 1, 3) := by decide +kernel
theorem dX3_fingerOn_95 : decode cX3_fingerOn 95 = .ok (.goto (-45), 3) := by decide +kernel
theorem dX3_fingerOn_98 : decode cX3_fingerOn 98 = .ok (.aload_n 0, 1) := by decide +kernel
theorem dX3_fingerOn_99 : decode cX3_fingerOn 99 = .ok (.getfield 21, 3) := by decide +kernel
theorem dX3_fingerOn_102 : decode cX3_fingerOn 102 = .ok (.ifCond .eq 14, 3) := by decide +kernel
theorem dX3_fingerOn_105 : decode cX3_fingerOn 105 = .ok (.iload_n 3, 1) := by decide +kernel
theorem dX3_fingerOn_106 : decode cX3_fingerOn 106 = .ok (.aload_n 0, 1) := by decide +kernel
theorem dX3_fingerOn_107 : decode cX3_fingerOn 107 = .ok (.getfield 32, 3) := by decide +kernel
theorem dX3_fingerOn_110 : decode cX3_fingerOn 110 = .ok (.isub, 1) := by decide +kernel
theorem dX3_fingerOn_111 : decode cX3_fingerOn 111 = .ok (.iconst 2, 1) := by decide +kernel
theorem dX3_fingerOn_112 : decode cX3_fingerOn 112 = .ok (.iadd, 1) := by decide +kernel
theorem dX3_fingerOn_113 : decode cX3_fingerOn 113 = .ok (.goto 6, 3) := by decide +kernel
theorem dX3_fingerOn_116 : decode cX3_fingerOn 116 = .ok (.iload_n 3, 1) := by decide +kernel
theorem dX3_fingerOn_117 : decode cX3_fingerOn 117 = .ok (.iconst 1, 1) := by decide +kernel
theorem dX3_fingerOn_118 : decode cX3_fingerOn 118 = .ok (.iadd, 1) := by decide +kernel
theorem dX3_fingerOn_119 : decode cX3_fingerOn 119 = .ok (.ireturn, 1) := by decide +kernel
theorem dX4_init_0 : decode cX4_init 0 = .ok (.aload_n 0, 1) := by decide +kernel
theorem dX4_init_1 : decode cX4_init 1 = .ok (.invokespecial 3, 3) := by decide +kernel
theorem dX4_init_4 : decode cX4_init 4 = .ok (.aload_n 0, 1) := by decide +kernel
theorem dX4_init_5 : decode cX4_init 5 = .ok (.bipush 6, 2) := by decide +kernel
theorem dX4_init_7 : decode cX4_init 7 = .ok (.newarray .int, 2) := by decide +kernel
theorem dX4_init_9 : decode cX4_init 9 = .ok (.putfield 9, 3) := by decide +kernel
theorem dX4_init_12 : decode cX4_init 12 = .ok (.aload_n 0, 1) := by decide +kernel
theorem dX4_init_13 : decode cX4_init 13 = .ok (.bipush 6, 2) := by decide +kernel
theorem dX4_init_15 : decode cX4_init 15 = .ok (.newarray .boolean, 2) := by decide +kernel
theorem dX4_init_17 : decode cX4_init 17 = .ok (.putfield 15, 3) := by decide +kernel
theorem dX4_init_20 : decode cX4_init 20 = .ok (.aload_n 0, 1) := by decide +kernel
theorem dX4_init_21 : decode cX4_init 21 = .ok (.iconst 0, 1) := by decide +kernel
theorem dX4_init_22 : decode cX4_init 22 = .ok (.putfield 19, 3) := by decide +kernel
theorem dX4_init_25 : decode cX4_init 25 = .ok (.aload_n 0, 1) := by decide +kernel
theorem dX4_init_26 : decode cX4_init 26 = .ok (.iconst 0, 1) := by decide +kernel
theorem dX4_init_27 : decode cX4_init 27 = .ok (.putfield 23, 3) := by decide +kernel
theorem dX4_init_30 : decode cX4_init 30 = .ok (.aload_n 0, 1) := by decide +kernel
theorem dX4_init_31 : decode cX4_init 31 = .ok (.iconst 3, 1) := by decide +kernel
theorem dX4_init_32 : decode cX4_init 32 = .ok (.putfield 26, 3) := by decide +kernel
theorem dX4_init_35 : decode cX4_init 35 = .ok (.return_, 1) := by decide +kernel
theorem dX4_draw_0 : decode cX4_draw 0 = .ok (.aload_n 0, 1) := by decide +kernel
theorem dX4_draw_1 : decode cX4_draw 1 = .ok (.getfield 19, 3) := by decide +kernel
theorem dX4_draw_4 : decode cX4_draw 4 = .ok (.bipush 6, 2) := by decide +kernel
theorem dX4_draw_6 : decode cX4_draw 6 = .ok (.if_icmp .lt 5, 3) := by decide +kernel
theorem dX4_draw_9 : decode cX4_draw 9 = .ok (.iconst (-1), 1) := by decide +kernel
theorem dX4_draw_10 : decode cX4_draw 10 = .ok (.ireturn, 1) := by decide +kernel
theorem dX4_draw_11 : decode cX4_draw 11 = .ok (.aload_n 0, 1) := by decide +kernel
theorem dX4_draw_12 : decode cX4_draw 12 = .ok (.getfield 9, 3) := by decide +kernel
theorem dX4_draw_15 : decode cX4_draw 15 = .ok (.aload_n 0, 1) := by decide +kernel
theorem dX4_draw_16 : decode cX4_draw 16 = .ok (.getfield 19, 3) := by decide +kernel
theorem dX4_draw_19 : decode cX4_draw 19 = .ok (.iload_n 1, 1) := by decide +kernel
theorem dX4_draw_20 : decode cX4_draw 20 = .ok (.iastore, 1) := by decide +kernel
theorem dX4_draw_21 : decode cX4_draw 21 = .ok (.aload_n 0, 1) := by decide +kernel
theorem dX4_draw_22 : decode cX4_draw 22 = .ok (.getfield 15, 3) := by decide +kernel
theorem dX4_draw_25 : decode cX4_draw 25 = .ok (.aload_n 0, 1) := by decide +kernel
theorem dX4_draw_26 : decode cX4_draw 26 = .ok (.getfield 19, 3) := by decide +kernel
theorem dX4_draw_29 : decode cX4_draw 29 = .ok (.iconst 0, 1) := by decide +kernel
theorem dX4_draw_30 : decode cX4_draw 30 = .ok (.bastore, 1) := by decide +kernel
theorem dX4_draw_31 : decode cX4_draw 31 = .ok (.aload_n 0, 1) := by decide +kernel
theorem dX4_draw_32 : decode cX4_draw 32 = .ok (.dup, 1) := by decide +kernel
theorem dX4_draw_33 : decode cX4_draw 33 = .ok (.getfield 19, 3) := by decide +kernel
theorem dX4_draw_36 : decode cX4_draw 36 = .ok (.iconst 1, 1) := by decide +kernel
theorem dX4_draw_37 : decode cX4_draw 37 = .ok (.iadd, 1) := by decide +kernel
theorem dX4_draw_38 : decode cX4_draw 38 = .ok (.putfield 19, 3) := by decide +kernel
theorem dX4_draw_41 : decode cX4_draw 41 = .ok (.aload_n 0, 1) := by decide +kernel
theorem dX4_draw_42 : decode cX4_draw 42 = .ok (.getfield 19, 3) := by decide +kernel
theorem dX4_draw_45 : decode cX4_draw 45 = .ok (.iconst 1, 1) := by decide +kernel
theorem dX4_draw_46 : decode cX4_draw 46 = .ok (.isub, 1) := by decide +kernel
theorem dX4_draw_47 : decode cX4_draw 47 = .ok (.ireturn, 1) := by decide +kernel
theorem dX4_copy_0 : decode cX4_copy 0 = .ok (.iconst 0, 1) := by decide +kernel
theorem dX4_copy_1 : decode cX4_copy 1 = .ok (.istore_n 2, 1) := by decide +kernel
theorem dX4_copy_2 : decode cX4_copy 2 = .ok (.iload_n 2, 1) := by decide +kernel
theorem dX4_copy_3 : decode cX4_copy 3 = .ok (.bipush 6, 2) := by decide +kernel
theorem dX4_copy_5 : decode cX4_copy 5 = .ok (.if_icmp .ge 33, 3) := by decide +kernel
theorem dX4_copy_8 : decode cX4_copy 8 = .ok (.aload_n 0, 1) := by decide +kernel
theorem dX4_copy_9 : decode cX4_copy 9 = .ok (.getfield 9, 3) := by decide +kernel
theorem dX4_copy_12 : decode cX4_copy 12 = .ok (.iload_n 2, 1) := by decide +kernel
theorem dX4_copy_13 : decode cX4_copy 13 = .ok (.aload_n 1, 1) := by decide +kernel
theorem dX4_copy_14 : decode cX4_copy 14 = .ok (.getfield 9, 3) := by decide +kernel
theorem dX4_copy_17 : decode cX4_copy 17 = .ok (.iload_n 2, 1) := by decide +kernel
theorem dX4_copy_18 : decode cX4_copy 18 = .ok (.iaload, 1) := by decide +kernel
theorem dX4_copy_19 : decode cX4_copy 19 = .ok (.iastore, 1) := by decide +kernel
theorem dX4_copy_20 : decode cX4_copy 20 = .ok (.aload_n 0, 1) := by decide +kernel
theorem dX4_copy_21 : decode cX4_copy 21 = .ok (.getfield 15, 3) := by decide +kernel
theorem dX4_copy_24 : decode cX4_copy 24 = .ok (.iload_n 2, 1) := by decide +kernel
theorem dX4_copy_25 : decode cX4_copy 25 = .ok (.aload_n 1, 1) := by decide +kernel
theorem dX4_copy_26 : decode cX4_copy 26 = .ok (.getfield 15, 3) := by decide +kernel
theorem dX4_copy_29 : decode cX4_copy 29 = .ok (.iload_n 2, 1) := by decide +kernel
theorem dX4_copy_30 : decode cX4_copy 30 = .ok (.baload, 1) := by decide +kernel
theorem dX4_copy_31 : decode cX4_copy 31 = .ok (.bastore, 1) := by decide +kernel
theorem dX4_copy_32 : decode cX4_copy 32 = .ok (.iinc 2 1, 3) := by decide +kernel
theorem dX4_copy_35 : decode cX4_copy 35 = .ok (.goto (-33), 3) := by decide +kernel
theorem dX4_copy_38 : decode cX4_copy 38 = .ok (.aload_n 0, 1) := by decide +kernel
theorem dX4_copy_39 : decode cX4_copy 39 = .ok (.aload_n 1, 1) := by decide +kernel
theorem dX4_copy_40 : decode cX4_copy 40 = .ok (.getfield 19, 3) := by decide +kernel
theorem dX4_copy_43 : decode cX4_copy 43 = .ok (.putfield 19, 3) := by decide +kernel
theorem dX4_copy_46 : decode cX4_copy 46 = .ok (.aload_n 0, 1) := by decide +kernel
theorem dX4_copy_47 : decode cX4_copy 47 = .ok (.aload_n 1, 1) := by decide +kernel
theorem dX4_copy_48 : decode cX4_copy 48 = .ok (.getfield 23, 3) := by decide +kernel
theorem dX4_copy_51 : decode cX4_copy 51 = .ok (.putfield 23, 3) := by decide +kernel
theorem dX4_copy_54 : decode cX4_copy 54 = .ok (.aload_n 0, 1) := by decide +kernel
theorem dX4_copy_55 : decode cX4_copy 55 = .ok (.aload_n 1, 1) := by decide +kernel
theorem dX4_copy_56 : decode cX4_copy 56 = .ok (.getfield 26, 3) := by decide +kernel
theorem dX4_copy_59 : decode cX4_copy 59 = .ok (.putfield 26, 3) := by decide +kernel
theorem dX4_copy_62 : decode cX4_copy 62 = .ok (.return_, 1) := by decide +kernel
theorem dX4_slackCount_0 : decode cX4_slackCount 0 = .ok (.iconst 0, 1) := by decide +kernel
theorem dX4_slackCount_1 : decode cX4_slackCount 1 = .ok (.istore_n 1, 1) := by decide +kernel
theorem dX4_slackCount_2 : decode cX4_slackCount 2 = .ok (.iconst 0, 1) := by decide +kernel
theorem dX4_slackCount_3 : decode cX4_slackCount 3 = .ok (.istore_n 2, 1) := by decide +kernel
theorem dX4_slackCount_4 : decode cX4_slackCount 4 = .ok (.iload_n 2, 1) := by decide +kernel
theorem dX4_slackCount_5 : decode cX4_slackCount 5 = .ok (.bipush 6, 2) := by decide +kernel
theorem dX4_slackCount_7 : decode cX4_slackCount 7 = .ok (.if_icmp .ge 21, 3) := by decide +kernel
theorem dX4_slackCount_10 : decode cX4_slackCount 10 = .ok (.aload_n 0, 1) := by decide +kernel
theorem dX4_slackCount_11 : decode cX4_slackCount 11 = .ok (.getfield 15, 3) := by decide +kernel
theorem dX4_slackCount_14 : decode cX4_slackCount 14 = .ok (.iload_n 2, 1) := by decide +kernel
theorem dX4_slackCount_15 : decode cX4_slackCount 15 = .ok (.baload, 1) := by decide +kernel
theorem dX4_slackCount_16 : decode cX4_slackCount 16 = .ok (.ifCond .eq 6, 3) := by decide +kernel
theorem dX4_slackCount_19 : decode cX4_slackCount 19 = .ok (.iinc 1 1, 3) := by decide +kernel
theorem dX4_slackCount_22 : decode cX4_slackCount 22 = .ok (.iinc 2 1, 3) := by decide +kernel
theorem dX4_slackCount_25 : decode cX4_slackCount 25 = .ok (.goto (-21), 3) := by decide +kernel
theorem dX4_slackCount_28 : decode cX4_slackCount 28 = .ok (.iload_n 1, 1) := by decide +kernel
theorem dX4_slackCount_29 : decode cX4_slackCount 29 = .ok (.ireturn, 1) := by decide +kernel
theorem dX4_isUsed_0 : decode cX4_isUsed 0 = .ok (.iload_n 1, 1) := by decide +kernel
theorem dX4_isUsed_1 : decode cX4_isUsed 1 = .ok (.ifCond .lt 30, 3) := by decide +kernel
theorem dX4_isUsed_4 : decode cX4_isUsed 4 = .ok (.iload_n 1, 1) := by decide +kernel
theorem dX4_isUsed_5 : decode cX4_isUsed 5 = .ok (.aload_n 0, 1) := by decide +kernel
theorem dX4_isUsed_6 : decode cX4_isUsed 6 = .ok (.getfield 19, 3) := by decide +kernel
theorem dX4_isUsed_9 : decode cX4_isUsed 9 = .ok (.if_icmp .ge 22, 3) := by decide +kernel
theorem dX4_isUsed_12 : decode cX4_isUsed 12 = .ok (.iload_n 1, 1) := by decide +kernel
theorem dX4_isUsed_13 : decode cX4_isUsed 13 = .ok (.bipush 6, 2) := by decide +kernel
theorem dX4_isUsed_15 : decode cX4_isUsed 15 = .ok (.if_icmp .ge 16, 3) := by decide +kernel
theorem dX4_isUsed_18 : decode cX4_isUsed 18 = .ok (.aload_n 0, 1) := by decide +kernel
theorem dX4_isUsed_19 : decode cX4_isUsed 19 = .ok (.getfield 15, 3) := by decide +kernel
theorem dX4_isUsed_22 : decode cX4_isUsed 22 = .ok (.iload_n 1, 1) := by decide +kernel
theorem dX4_isUsed_23 : decode cX4_isUsed 23 = .ok (.baload, 1) := by decide +kernel
theorem dX4_isUsed_24 : decode cX4_isUsed 24 = .ok (.ifCond .ne 7, 3) := by decide +kernel
theorem dX4_isUsed_27 : decode cX4_isUsed 27 = .ok (.iconst 1, 1) := by decide +kernel
theorem dX4_isUsed_28 : decode cX4_isUsed 28 = .ok (.goto 4, 3) := by decide +kernel
theorem dX4_isUsed_31 : decode cX4_isUsed 31 = .ok (.iconst 0, 1) := by decide +kernel
theorem dX4_isUsed_32 : decode cX4_isUsed 32 = .ok (.ireturn, 1) := by decide +kernel
theorem dX4_lastFret_0 : decode cX4_lastFret 0 = .ok (.bipush 12, 2) := by decide +kernel
theorem dX4_lastFret_2 : decode cX4_lastFret 2 = .ok (.aload_n 0, 1) := by decide +kernel
theorem dX4_lastFret_3 : decode cX4_lastFret 3 = .ok (.getfield 23, 3) := by decide +kernel
theorem dX4_lastFret_6 : decode cX4_lastFret 6 = .ok (.isub, 1) := by decide +kernel
theorem dX4_lastFret_7 : decode cX4_lastFret 7 = .ok (.ireturn, 1) := by decide +kernel
theorem dX4_pitchOf_0 : decode cX4_pitchOf 0 = .ok (.aload_n 0, 1) := by decide +kernel
theorem dX4_pitchOf_1 : decode cX4_pitchOf 1 = .ok (.iload_n 1, 1) := by decide +kernel
theorem dX4_pitchOf_2 : decode cX4_pitchOf 2 = .ok (.invokevirtual 29, 3) := by decide +kernel
theorem dX4_pitchOf_5 : decode cX4_pitchOf 5 = .ok (.ifCond .eq 19, 3) := by decide +kernel
theorem dX4_pitchOf_8 : decode cX4_pitchOf 8 = .ok (.aload_n 0, 1) := by decide +kernel
theorem dX4_pitchOf_9 : decode cX4_pitchOf 9 = .ok (.getfield 9, 3) := by decide +kernel
theorem dX4_pitchOf_12 : decode cX4_pitchOf 12 = .ok (.iload_n 1, 1) := by decide +kernel
theorem dX4_pitchOf_13 : decode cX4_pitchOf 13 = .ok (.iaload, 1) := by decide +kernel
theorem dX4_pitchOf_14 : decode cX4_pitchOf 14 = .ok (.aload_n 0, 1) := by decide +kernel
theorem dX4_pitchOf_15 : decode cX4_pitchOf 15 = .ok (.getfield 23, 3) := by decide +kernel
theorem dX4_pitchOf_18 : decode cX4_pitchOf 18 = .ok (.iadd, 1) := by decide +kernel
theorem dX4_pitchOf_19 : decode cX4_pitchOf 19 = .ok (.iload_n 2, 1) := by decide +kernel
theorem dX4_pitchOf_20 : decode cX4_pitchOf 20 = .ok (.iadd, 1) := by decide +kernel
theorem dX4_pitchOf_21 : decode cX4_pitchOf 21 = .ok (.goto 4, 3) := by decide +kernel
theorem dX4_pitchOf_24 : decode cX4_pitchOf 24 = .ok (.iconst (-1), 1) := by decide +kernel
theorem dX4_pitchOf_25 : decode cX4_pitchOf 25 = .ok (.ireturn, 1) := by decide +kernel
theorem dX4_fretFor_0 : decode cX4_fretFor 0 = .ok (.aload_n 0, 1) := by decide +kernel
theorem dX4_fretFor_1 : decode cX4_fretFor 1 = .ok (.iload_n 1, 1) := by decide +kernel
theorem dX4_fretFor_2 : decode cX4_fretFor 2 = .ok (.invokevirtual 29, 3) := by decide +kernel
theorem dX4_fretFor_5 : decode cX4_fretFor 5 = .ok (.ifCond .ne 5, 3) := by decide +kernel
theorem dX4_fretFor_8 : decode cX4_fretFor 8 = .ok (.iconst (-1), 1) := by decide +kernel
theorem dX4_fretFor_9 : decode cX4_fretFor 9 = .ok (.ireturn, 1) := by decide +kernel
theorem dX4_fretFor_10 : decode cX4_fretFor 10 = .ok (.iload_n 2, 1) := by decide +kernel
theorem dX4_fretFor_11 : decode cX4_fretFor 11 = .ok (.aload_n 0, 1) := by decide +kernel
theorem dX4_fretFor_12 : decode cX4_fretFor 12 = .ok (.getfield 9, 3) := by decide +kernel
theorem dX4_fretFor_15 : decode cX4_fretFor 15 = .ok (.iload_n 1, 1) := by decide +kernel
theorem dX4_fretFor_16 : decode cX4_fretFor 16 = .ok (.iaload, 1) := by decide +kernel
theorem dX4_fretFor_17 : decode cX4_fretFor 17 = .ok (.isub, 1) := by decide +kernel
theorem dX4_fretFor_18 : decode cX4_fretFor 18 = .ok (.aload_n 0, 1) := by decide +kernel
theorem dX4_fretFor_19 : decode cX4_fretFor 19 = .ok (.getfield 23, 3) := by decide +kernel
theorem dX4_fretFor_22 : decode cX4_fretFor 22 = .ok (.isub, 1) := by decide +kernel
theorem dX4_fretFor_23 : decode cX4_fretFor 23 = .ok (.istore_n 3, 1) := by decide +kernel
theorem dX4_fretFor_24 : decode cX4_fretFor 24 = .ok (.iload_n 3, 1) := by decide +kernel
theorem dX4_fretFor_25 : decode cX4_fretFor 25 = .ok (.ifCond .lt 15, 3) := by decide +kernel
theorem dX4_fretFor_28 : decode cX4_fretFor 28 = .ok (.iload_n 3, 1) := by decide +kernel
theorem dX4_fretFor_29 : decode cX4_fretFor 29 = .ok (.aload_n 0, 1) := by decide +kernel
theorem dX4_fretFor_30 : decode cX4_fretFor 30 = .ok (.invokevirtual 33, 3) := by decide +kernel
theorem dX4_fretFor_33 : decode cX4_fretFor 33 = .ok (.if_icmp .gt 7, 3) := by decide +kernel
theorem dX4_fretFor_36 : decode cX4_fretFor 36 = .ok (.iload_n 3, 1) := by decide +kernel
theorem dX4_fretFor_37 : decode cX4_fretFor 37 = .ok (.goto 4, 3) := by decide +kernel
theorem dX4_fretFor_40 : decode cX4_fretFor 40 = .ok (.iconst (-1), 1) := by decide +kernel
theorem dX4_fretFor_41 : decode cX4_fretFor 41 = .ok (.ireturn, 1) := by decide +kernel
theorem dX5_init_0 : decode cX5_init 0 = .ok (.aload_n 0, 1) := by decide +kernel
theorem dX5_init_1 : decode cX5_init 1 = .ok (.invokespecial 3, 3) := by decide +kernel
theorem dX5_init_4 : decode cX5_init 4 = .ok (.aload_n 0, 1) := by decide +kernel
theorem dX5_init_5 : decode cX5_init 5 = .ok (.bipush 12, 2) := by decide +kernel
theorem dX5_init_7 : decode cX5_init 7 = .ok (.anewarray 9, 3) := by decide +kernel
theorem dX5_init_10 : decode cX5_init 10 = .ok (.putfield 11, 3) := by decide +kernel
theorem dX5_init_13 : decode cX5_init 13 = .ok (.aload_n 0, 1) := by decide +kernel
theorem dX5_init_14 : decode cX5_init 14 = .ok (.iconst 0, 1) := by decide +kernel
theorem dX5_init_15 : decode cX5_init 15 = .ok (.putfield 17, 3) := by decide +kernel
theorem dX5_init_18 : decode cX5_init 18 = .ok (.iconst 0, 1) := by decide +kernel
theorem dX5_init_19 : decode cX5_init 19 = .ok (.istore_n 1, 1) := by decide +kernel
theorem dX5_init_20 : decode cX5_init 20 = .ok (.iload_n 1, 1) := by decide +kernel
theorem dX5_init_21 : decode cX5_init 21 = .ok (.bipush 12, 2) := by decide +kernel
theorem dX5_init_23 : decode cX5_init 23 = .ok (.if_icmp .ge 22, 3) := by decide +kernel
theorem dX5_init_26 : decode cX5_init 26 = .ok (.aload_n 0, 1) := by decide +kernel
theorem dX5_init_27 : decode cX5_init 27 = .ok (.getfield 11, 3) := by decide +kernel
theorem dX5_init_30 : decode cX5_init 30 = .ok (.iload_n 1, 1) := by decide +kernel
theorem dX5_init_31 : decode cX5_init 31 = .ok (.new 9, 3) := by decide +kernel
theorem dX5_init_34 : decode cX5_init 34 = .ok (.dup, 1) := by decide +kernel
theorem dX5_init_35 : decode cX5_init 35 = .ok (.invokespecial 21, 3) := by decide +kernel
theorem dX5_init_38 : decode cX5_init 38 = .ok (.aastore, 1) := by decide +kernel
theorem dX5_init_39 : decode cX5_init 39 = .ok (.iinc 1 1, 3) := by decide +kernel
theorem dX5_init_42 : decode cX5_init 42 = .ok (.goto (-22), 3) := by decide +kernel
theorem dX5_init_45 : decode cX5_init 45 = .ok (.return_, 1) := by decide +kernel
theorem dX5_append_0 : decode cX5_append 0 = .ok (.aload_n 0, 1) := by decide +kernel
theorem dX5_append_1 : decode cX5_append 1 = .ok (.getfield 17, 3) := by decide +kernel
theorem dX5_append_4 : decode cX5_append 4 = .ok (.bipush 11, 2) := by decide +kernel
theorem dX5_append_6 : decode cX5_append 6 = .ok (.invokestatic 22, 3) := by decide +kernel
theorem dX5_append_9 : decode cX5_append 9 = .ok (.istore_n 2, 1) := by decide +kernel
theorem dX5_append_10 : decode cX5_append 10 = .ok (.aload_n 0, 1) := by decide +kernel
theorem dX5_append_11 : decode cX5_append 11 = .ok (.getfield 11, 3) := by decide +kernel
theorem dX5_append_14 : decode cX5_append 14 = .ok (.iload_n 2, 1) := by decide +kernel
theorem dX5_append_15 : decode cX5_append 15 = .ok (.aaload, 1) := by decide +kernel
theorem dX5_append_16 : decode cX5_append 16 = .ok (.iload_n 1, 1) := by decide +kernel
theorem dX5_append_17 : decode cX5_append 17 = .ok (.invokevirtual 28, 3) := by decide +kernel
theorem dX5_append_20 : decode cX5_append 20 = .ok (.aload_n 0, 1) := by decide +kernel
theorem dX5_append_21 : decode cX5_append 21 = .ok (.iload_n 2, 1) := by decide +kernel
theorem dX5_append_22 : decode cX5_append 22 = .ok (.iconst 1, 1) := by decide +kernel
theorem dX5_append_23 : decode cX5_append 23 = .ok (.iadd, 1) := by decide +kernel
theorem dX5_append_24 : decode cX5_append 24 = .ok (.putfield 17, 3) := by decide +kernel
theorem dX5_append_27 : decode cX5_append 27 = .ok (.aload_n 0, 1) := by decide +kernel
theorem dX5_append_28 : decode cX5_append 28 = .ok (.getfield 11, 3) := by decide +kernel
theorem dX5_append_31 : decode cX5_append 31 = .ok (.iload_n 2, 1) := by decide +kernel
theorem dX5_append_32 : decode cX5_append 32 = .ok (.aaload, 1) := by decide +kernel
theorem dX5_append_33 : decode cX5_append 33 = .ok (.areturn, 1) := by decide +kernel
theorem dX6_init_0 : decode cX6_init 0 = .ok (.aload_n 0, 1) := by decide +kernel
theorem dX6_init_1 : decode cX6_init 1 = .ok (.invokespecial 3, 3) := by decide +kernel
theorem dX6_init_4 : decode cX6_init 4 = .ok (.aload_n 0, 1) := by decide +kernel
theorem dX6_init_5 : decode cX6_init 5 = .ok (.bipush 12, 2) := by decide +kernel
theorem dX6_init_7 : decode cX6_init 7 = .ok (.anewarray 9, 3) := by decide +kernel
theorem dX6_init_10 : decode cX6_init 10 = .ok (.putfield 11, 3) := by decide +kernel
theorem dX6_init_13 : decode cX6_init 13 = .ok (.aload_n 0, 1) := by decide +kernel
theorem dX6_init_14 : decode cX6_init 14 = .ok (.bipush 12, 2) := by decide +kernel
theorem dX6_init_16 : decode cX6_init 16 = .ok (.newarray .int, 2) := by decide +kernel
theorem dX6_init_18 : decode cX6_init 18 = .ok (.putfield 17, 3) := by decide +kernel
theorem dX6_init_21 : decode cX6_init 21 = .ok (.aload_n 0, 1) := by decide +kernel
theorem dX6_init_22 : decode cX6_init 22 = .ok (.bipush 12, 2) := by decide +kernel
theorem dX6_init_24 : decode cX6_init 24 = .ok (.newarray .int, 2) := by decide +kernel
theorem dX6_init_26 : decode cX6_init 26 = .ok (.putfield 21, 3) := by decide +kernel
theorem dX6_init_29 : decode cX6_init 29 = .ok (.aload_n 0, 1) := by decide +kernel
theorem dX6_init_30 : decode cX6_init 30 = .ok (.iconst (-1), 1) := by decide +kernel
theorem dX6_init_31 : decode cX6_init 31 = .ok (.putfield 24, 3) := by decide +kernel
theorem dX6_init_34 : decode cX6_init 34 = .ok (.aload_n 0, 1) := by decide +kernel
theorem dX6_init_35 : decode cX6_init 35 = .ok (.bipush 12, 2) := by decide +kernel
theorem dX6_init_37 : decode cX6_init 37 = .ok (.newarray .int, 2) := by decide +kernel
theorem dX6_init_39 : decode cX6_init 39 = .ok (.putfield 28, 3) := by decide +kernel
theorem dX6_init_42 : decode cX6_init 42 = .ok (.aload_n 0, 1) := by decide +kernel
theorem dX6_init_43 : decode cX6_init 43 = .ok (.bipush 12, 2) := by decide +kernel
theorem dX6_init_45 : decode cX6_init 45 = .ok (.bipush 30, 2) := by decide +kernel
theorem dX6_init_47 : decode cX6_init 47 = .ok (.multianewarray 31 2, 4) := by decide +kernel
theorem dX6_init_51 : decode cX6_init 51 = .ok (.putfield 33, 3) := by decide +kernel
theorem dX6_init_54 : decode cX6_init 54 = .ok (.aload_n 0, 1) := by decide +kernel
theorem dX6_init_55 : decode cX6_init 55 = .ok (.new 36, 3) := by decide +kernel
theorem dX6_init_58 : decode cX6_init 58 = .ok (.dup, 1) := by decide +kernel
theorem dX6_init_59 : decode cX6_init 59 = .ok (.invokespecial 38, 3) := by decide +kernel
theorem dX6_init_62 : decode cX6_init 62 = .ok (.putfield 39, 3) := by decide +kernel
theorem dX6_init_65 : decode cX6_init 65 = .ok (.aload_n 0, 1) := by decide +kernel
theorem dX6_init_66 : decode cX6_init 66 = .ok (.iconst 0, 1) := by decide +kernel
theorem dX6_init_67 : decode cX6_init 67 = .ok (.putfield 43, 3) := by decide +kernel
theorem dX6_init_70 : decode cX6_init 70 = .ok (.iconst 0, 1) := by decide +kernel
theorem dX6_init_71 : decode cX6_init 71 = .ok (.istore_n 1, 1) := by decide +kernel
theorem dX6_init_72 : decode cX6_init 72 = .ok (.iload_n 1, 1) := by decide +kernel
theorem dX6_init_73 : decode cX6_init 73 = .ok (.bipush 12, 2) := by decide +kernel
theorem dX6_init_75 : decode cX6_init 75 = .ok (.if_icmp .ge 22, 3) := by decide +kernel
theorem dX6_init_78 : decode cX6_init 78 = .ok (.aload_n 0, 1) := by decide +kernel
theorem dX6_init_79 : decode cX6_init 79 = .ok (.getfield 11, 3) := by decide +kernel
theorem dX6_init_82 : decode cX6_init 82 = .ok (.iload_n 1, 1) := by decide +kernel
theorem dX6_init_83 : decode cX6_init 83 = .ok (.new 9, 3) := by decide +kernel
theorem dX6_init_86 : decode cX6_init 86 = .ok (.dup, 1) := by decide +kernel
theorem dX6_init_87 : decode cX6_init 87 = .ok (.invokespecial 46, 3) := by decide +kernel
theorem dX6_init_90 : decode cX6_init 90 = .ok (.aastore, 1) := by decide +kernel
theorem dX6_init_91 : decode cX6_init 91 = .ok (.iinc 1 1, 3) := by decide +kernel
theorem dX6_init_94 : decode cX6_init 94 = .ok (.goto (-22), 3) := by decide +kernel
theorem dX6_init_97 : decode cX6_init 97 = .ok (.return_, 1) := by decide +kernel
theorem dX6_read_0 : decode cX6_read 0 = .ok (.aload_n 0, 1) := by decide +kernel
theorem dX6_read_1 : decode cX6_read 1 = .ok (.aload_n 2, 1) := by decide +kernel
theorem dX6_read_2 : decode cX6_read 2 = .ok (.getfield 47, 3) := by decide +kernel
theorem dX6_read_5 : decode cX6_read 5 = .ok (.bipush 12, 2) := by decide +kernel
theorem dX6_read_7 : decode cX6_read 7 = .ok (.invokestatic 50, 3) := by decide +kernel
theorem dX6_read_10 : decode cX6_read 10 = .ok (.putfield 43, 3) := by decide +kernel
theorem dX6_read_13 : decode cX6_read 13 = .ok (.iconst 0, 1) := by decide +kernel
theorem dX6_read_14 : decode cX6_read 14 = .ok (.istore_n 3, 1) := by decide +kernel
theorem dX6_read_15 : decode cX6_read 15 = .ok (.iload_n 3, 1) := by decide +kernel
theorem dX6_read_16 : decode cX6_read 16 = .ok (.aload_n 0, 1) := by decide +kernel
theorem dX6_read_17 : decode cX6_read 17 = .ok (.getfield 43, 3) := by decide +kernel
theorem dX6_read_20 : decode cX6_read 20 = .ok (.if_icmp .ge 76, 3) := by decide +kernel
theorem dX6_read_23 : decode cX6_read 23 = .ok (.aload_n 2, 1) := by decide +kernel
theorem dX6_read_24 : decode cX6_read 24 = .ok (.getfield 56, 3) := by decide +kernel
theorem dX6_read_27 : decode cX6_read 27 = .ok (.iload_n 3, 1) := by decide +kernel
theorem dX6_read_28 : decode cX6_read 28 = .ok (.aaload, 1) := by decide +kernel
theorem dX6_read_29 : decode cX6_read 29 = .ok (.astore 4, 2) := by decide +kernel
theorem dX6_read_31 : decode cX6_read 31 = .ok (.aload_n 0, 1) := by decide +kernel
theorem dX6_read_32 : decode cX6_read 32 = .ok (.getfield 11, 3) := by decide +kernel
theorem dX6_read_35 : decode cX6_read 35 = .ok (.iload_n 3, 1) := by decide +kernel
theorem dX6_read_36 : decode cX6_read 36 = .ok (.aaload, 1) := by decide +kernel
theorem dX6_read_37 : decode cX6_read 37 = .ok (.iconst 0, 1) := by decide +kernel
theorem dX6_read_38 : decode cX6_read 38 = .ok (.putfield 60, 3) := by decide +kernel
theorem dX6_read_41 : decode cX6_read 41 = .ok (.aload_n 0, 1) := by decide +kernel
theorem dX6_read_42 : decode cX6_read 42 = .ok (.getfield 11, 3) := by decide +kernel
theorem dX6_read_45 : decode cX6_read 45 = .ok (.iload_n 3, 1) := by decide +kernel
theorem dX6_read_46 : decode cX6_read 46 = .ok (.aaload, 1) := by decide +kernel
theorem dX6_read_47 : decode cX6_read 47 = .ok (.aload_n 0, 1) := by decide +kernel
theorem dX6_read_48 : decode cX6_read 48 = .ok (.getfield 39, 3) := by decide +kernel
theorem dX6_read_51 : decode cX6_read 51 = .ok (.aload_n 1, 1) := by decide +kernel
theorem dX6_read_52 : decode cX6_read 52 = .ok (.aload 4, 2) := by decide +kernel
theorem dX6_read_54 : decode cX6_read 54 = .ok (.iconst 0, 1) := by decide +kernel
theorem dX6_read_55 : decode cX6_read 55 = .ok (.iconst 0, 1) := by decide +kernel
theorem dX6_read_56 : decode cX6_read 56 = .ok (.invokestatic 63, 3) := by decide +kernel
theorem dX6_read_59 : decode cX6_read 59 = .ok (.aload_n 0, 1) := by decide +kernel
theorem dX6_read_60 : decode cX6_read 60 = .ok (.getfield 17, 3) := by decide +kernel
theorem dX6_read_63 : decode cX6_read 63 = .ok (.iload_n 3, 1) := by decide +kernel
theorem dX6_read_64 : decode cX6_read 64 = .ok (.aload_n 0, 1) := by decide +kernel
theorem dX6_read_65 : decode cX6_read 65 = .ok (.getfield 11, 3) := by decide +kernel
theorem dX6_read_68 : decode cX6_read 68 = .ok (.iload_n 3, 1) := by decide +kernel
theorem dX6_read_69 : decode cX6_read 69 = .ok (.aaload, 1) := by decide +kernel
theorem dX6_read_70 : decode cX6_read 70 = .ok (.aload 4, 2) := by decide +kernel
theorem dX6_read_72 : decode cX6_read 72 = .ok (.getfield 67, 3) := by decide +kernel
theorem dX6_read_75 : decode cX6_read 75 = .ok (.invokevirtual 72, 3) := by decide +kernel
theorem dX6_read_78 : decode cX6_read 78 = .ok (.iastore, 1) := by decide +kernel
theorem dX6_read_79 : decode cX6_read 79 = .ok (.aload_n 0, 1) := by decide +kernel
theorem dX6_read_80 : decode cX6_read 80 = .ok (.getfield 28, 3) := by decide +kernel
theorem dX6_read_83 : decode cX6_read 83 = .ok (.iload_n 3, 1) := by decide +kernel
theorem dX6_read_84 : decode cX6_read 84 = .ok (.aload 4, 2) := by decide +kernel
theorem dX6_read_86 : decode cX6_read 86 = .ok (.getfield 76, 3) := by decide +kernel
theorem dX6_read_89 : decode cX6_read 89 = .ok (.iastore, 1) := by decide +kernel
theorem dX6_read_90 : decode cX6_read 90 = .ok (.iinc 3 1, 3) := by decide +kernel
theorem dX6_read_93 : decode cX6_read 93 = .ok (.goto (-78), 3) := by decide +kernel
theorem dX6_read_96 : decode cX6_read 96 = .ok (.return_, 1) := by decide +kernel
theorem dX6_place_0 : decode cX6_place 0 = .ok (.iload 4, 2) := by decide +kernel
theorem dX6_place_2 : decode cX6_place 2 = .ok (.aload_n 3, 1) := by decide +kernel
theorem dX6_place_3 : decode cX6_place 3 = .ok (.getfield 79, 3) := by decide +kernel
theorem dX6_place_6 : decode cX6_place 6 = .ok (.if_icmp .ge 9, 3) := by decide +kernel
theorem dX6_place_9 : decode cX6_place 9 = .ok (.iload 4, 2) := by decide +kernel
theorem dX6_place_11 : decode cX6_place 11 = .ok (.iconst 4, 1) := by decide +kernel
theorem dX6_place_12 : decode cX6_place 12 = .ok (.if_icmp .lt 35, 3) := by decide +kernel
theorem dX6_place_15 : decode cX6_place 15 = .ok (.aload_n 1, 1) := by decide +kernel
theorem dX6_place_16 : decode cX6_place 16 = .ok (.iload 5, 2) := by decide +kernel
theorem dX6_place_18 : decode cX6_place 18 = .ok (.invokevirtual 82, 3) := by decide +kernel
theorem dX6_place_21 : decode cX6_place 21 = .ok (.aload_n 1, 1) := by decide +kernel
theorem dX6_place_22 : decode cX6_place 22 = .ok (.aload_n 2, 1) := by decide +kernel
theorem dX6_place_23 : decode cX6_place 23 = .ok (.getfield 86, 3) := by decide +kernel
theorem dX6_place_26 : decode cX6_place 26 = .ok (.invokevirtual 91, 3) := by decide +kernel
theorem dX6_place_29 : decode cX6_place 29 = .ok (.ifCond .eq 17, 3) := by decide +kernel
theorem dX6_place_32 : decode cX6_place 32 = .ok (.aload_n 0, 1) := by decide +kernel
theorem dX6_place_33 : decode cX6_place 33 = .ok (.iload 5, 2) := by decide +kernel
theorem dX6_place_35 : decode cX6_place 35 = .ok (.aload_n 1, 1) := by decide +kernel
theorem dX6_place_36 : decode cX6_place 36 = .ok (.invokevirtual 95, 3) := by decide +kernel
theorem dX6_place_39 : decode cX6_place 39 = .ok (.aload_n 1, 1) := by decide +kernel
theorem dX6_place_40 : decode cX6_place 40 = .ok (.getfield 99, 3) := by decide +kernel
theorem dX6_place_43 : decode cX6_place 43 = .ok (.invokevirtual 102, 3) := by decide +kernel
theorem dX6_place_46 : decode cX6_place 46 = .ok (.return_, 1) := by decide +kernel
theorem dX6_place_47 : decode cX6_place 47 = .ok (.iconst 0, 1) := by decide +kernel
theorem dX6_place_48 : decode cX6_place 48 = .ok (.istore 6, 2) := by decide +kernel
theorem dX6_place_50 : decode cX6_place 50 = .ok (.iload 6, 2) := by decide +kernel
theorem dX6_place_52 : decode cX6_place 52 = .ok (.aload_n 2, 1) := by decide +kernel
theorem dX6_place_53 : decode cX6_place 53 = .ok (.getfield 106, 3) := by decide +kernel
theorem dX6_place_56 : decode cX6_place 56 = .ok (.if_icmp .ge 61, 3) := by decide +kernel
theorem dX6_place_59 : decode cX6_place 59 = .ok (.aload_n 2, 1) := by decide +kernel
theorem dX6_place_60 : decode cX6_place 60 = .ok (.iload 6, 2) := by decide +kernel
theorem dX6_place_62 : decode cX6_place 62 = .ok (.aload_n 3, 1) := by decide +kernel
theorem dX6_place_63 : decode cX6_place 63 = .ok (.getfield 107, 3) := by decide +kernel
theorem dX6_place_66 : decode cX6_place 66 = .ok (.iload 4, 2) := by decide +kernel
theorem dX6_place_68 : decode cX6_place 68 = .ok (.iaload, 1) := by decide +kernel
theorem dX6_place_69 : decode cX6_place 69 = .ok (.invokevirtual 110, 3) := by decide +kernel
theorem dX6_place_72 : decode cX6_place 72 = .ok (.istore 7, 2) := by decide +kernel
theorem dX6_place_74 : decode cX6_place 74 = .ok (.iload 7, 2) := by decide +kernel
theorem dX6_place_76 : decode cX6_place 76 = .ok (.iconst (-1), 1) := by decide +kernel
theorem dX6_place_77 : decode cX6_place 77 = .ok (.if_icmp .eq 34, 3) := by decide +kernel
theorem dX6_place_80 : decode cX6_place 80 = .ok (.iload 5, 2) := by decide +kernel
theorem dX6_place_82 : decode cX6_place 82 = .ok (.iload 6, 2) := by decide +kernel
theorem dX6_place_84 : decode cX6_place 84 = .ok (.invokestatic 113, 3) := by decide +kernel
theorem dX6_place_87 : decode cX6_place 87 = .ok (.iconst (-1), 1) := by decide +kernel
theorem dX6_place_88 : decode cX6_place 88 = .ok (.if_icmp .ne 23, 3) := by decide +kernel
theorem dX6_place_91 : decode cX6_place 91 = .ok (.aload_n 0, 1) := by decide +kernel
theorem dX6_place_92 : decode cX6_place 92 = .ok (.aload_n 1, 1) := by decide +kernel
theorem dX6_place_93 : decode cX6_place 93 = .ok (.aload_n 2, 1) := by decide +kernel
theorem dX6_place_94 : decode cX6_place 94 = .ok (.aload_n 3, 1) := by decide +kernel
theorem dX6_place_95 : decode cX6_place 95 = .ok (.iload 4, 2) := by decide +kernel
theorem dX6_place_97 : decode cX6_place 97 = .ok (.iconst 1, 1) := by decide +kernel
theorem dX6_place_98 : decode cX6_place 98 = .ok (.iadd, 1) := by decide +kernel
theorem dX6_place_99 : decode cX6_place 99 = .ok (.iload 5, 2) := by decide +kernel
theorem dX6_place_101 : decode cX6_place 101 = .ok (.iload 6, 2) := by decide +kernel
theorem dX6_place_103 : decode cX6_place 103 = .ok (.iload 7, 2) := by decide +kernel
theorem dX6_place_105 : decode cX6_place 105 = .ok (.invokestatic 116, 3) := by decide +kernel
theorem dX6_place_108 : decode cX6_place 108 = .ok (.invokestatic 63, 3) := by decide +kernel
theorem dX6_place_111 : decode cX6_place 111 = .ok (.iinc 6 1, 3) := by decide +kernel
theorem dX6_place_114 : decode cX6_place 114 = .ok (.goto (-64), 3) := by decide +kernel
theorem dX6_place_117 : decode cX6_place 117 = .ok (.return_, 1) := by decide +kernel
theorem dX6_solve_0 : decode cX6_solve 0 = .ok (.aload_n 0, 1) := by decide +kernel
theorem dX6_solve_1 : decode cX6_solve 1 = .ok (.iconst (-1), 1) := by decide +kernel
theorem dX6_solve_2 : decode cX6_solve 2 = .ok (.putfield 24, 3) := by decide +kernel
theorem dX6_solve_5 : decode cX6_solve 5 = .ok (.iconst 0, 1) := by decide +kernel
theorem dX6_solve_6 : decode cX6_solve 6 = .ok (.istore_n 1, 1) := by decide +kernel
theorem dX6_solve_7 : decode cX6_solve 7 = .ok (.iload_n 1, 1) := by decide +kernel
theorem dX6_solve_8 : decode cX6_solve 8 = .ok (.aload_n 0, 1) := by decide +kernel
theorem dX6_solve_9 : decode cX6_solve 9 = .ok (.getfield 43, 3) := by decide +kernel
theorem dX6_solve_12 : decode cX6_solve 12 = .ok (.if_icmp .ge 16, 3) := by decide +kernel
theorem dX6_solve_15 : decode cX6_solve 15 = .ok (.aload_n 0, 1) := by decide +kernel
theorem dX6_solve_16 : decode cX6_solve 16 = .ok (.getfield 21, 3) := by decide +kernel
theorem dX6_solve_19 : decode cX6_solve 19 = .ok (.iload_n 1, 1) := by decide +kernel
theorem dX6_solve_20 : decode cX6_solve 20 = .ok (.iconst (-1), 1) := by decide +kernel
theorem dX6_solve_21 : decode cX6_solve 21 = .ok (.iastore, 1) := by decide +kernel
theorem dX6_solve_22 : decode cX6_solve 22 = .ok (.iinc 1 1, 3) := by decide +kernel
theorem dX6_solve_25 : decode cX6_solve 25 = .ok (.goto (-18), 3) := by decide +kernel
theorem dX6_solve_28 : decode cX6_solve 28 = .ok (.aload_n 0, 1) := by decide +kernel
theorem dX6_solve_29 : decode cX6_solve 29 = .ok (.getfield 43, 3) := by decide +kernel
theorem dX6_solve_32 : decode cX6_solve 32 = .ok (.ifCond .eq 10, 3) := by decide +kernel
theorem dX6_solve_35 : decode cX6_solve 35 = .ok (.aload_n 0, 1) := by decide +kernel
theorem dX6_solve_36 : decode cX6_solve 36 = .ok (.invokevirtual 120, 3) := by decide +kernel
theorem dX6_solve_39 : decode cX6_solve 39 = .ok (.ifCond .le 4, 3) := by decide +kernel
theorem dX6_solve_42 : decode cX6_solve 42 = .ok (.return_, 1) := by decide +kernel
theorem dX6_solve_43 : decode cX6_solve 43 = .ok (.aload_n 0, 1) := by decide +kernel
theorem dX6_solve_44 : decode cX6_solve 44 = .ok (.getfield 43, 3) := by decide +kernel
theorem dX6_solve_47 : decode cX6_solve 47 = .ok (.iconst 1, 1) := by decide +kernel
theorem dX6_solve_48 : decode cX6_solve 48 = .ok (.isub, 1) := by decide +kernel
theorem dX6_solve_49 : decode cX6_solve 49 = .ok (.istore_n 1, 1) := by decide +kernel
theorem dX6_solve_50 : decode cX6_solve 50 = .ok (.iload_n 1, 1) := by decide +kernel
theorem dX6_solve_51 : decode cX6_solve 51 = .ok (.ifCond .lt 90, 3) := by decide +kernel
theorem dX6_solve_54 : decode cX6_solve 54 = .ok (.iconst 0, 1) := by decide +kernel
theorem dX6_solve_55 : decode cX6_solve 55 = .ok (.istore_n 2, 1) := by decide +kernel
theorem dX6_solve_56 : decode cX6_solve 56 = .ok (.iload_n 2, 1) := by decide +kernel
theorem dX6_solve_57 : decode cX6_solve 57 = .ok (.aload_n 0, 1) := by decide +kernel
theorem dX6_solve_58 : decode cX6_solve 58 = .ok (.getfield 11, 3) := by decide +kernel
theorem dX6_solve_61 : decode cX6_solve 61 = .ok (.iload_n 1, 1) := by decide +kernel
theorem dX6_solve_62 : decode cX6_solve 62 = .ok (.aaload, 1) := by decide +kernel
theorem dX6_solve_63 : decode cX6_solve 63 = .ok (.getfield 60, 3) := by decide +kernel
theorem dX6_solve_66 : decode cX6_solve 66 = .ok (.if_icmp .ge 69, 3) := by decide +kernel
theorem dX6_solve_69 : decode cX6_solve 69 = .ok (.aload_n 0, 1) := by decide +kernel
theorem dX6_solve_70 : decode cX6_solve 70 = .ok (.iload_n 1, 1) := by decide +kernel
theorem dX6_solve_71 : decode cX6_solve 71 = .ok (.iconst 1, 1) := by decide +kernel
theorem dX6_solve_72 : decode cX6_solve 72 = .ok (.iadd, 1) := by decide +kernel
theorem dX6_solve_73 : decode cX6_solve 73 = .ok (.iload_n 2, 1) := by decide +kernel
theorem dX6_solve_74 : decode cX6_solve 74 = .ok (.invokevirtual 123, 3) := by decide +kernel
theorem dX6_solve_77 : decode cX6_solve 77 = .ok (.istore_n 3, 1) := by decide +kernel
theorem dX6_solve_78 : decode cX6_solve 78 = .ok (.iload_n 3, 1) := by decide +kernel
theorem dX6_solve_79 : decode cX6_solve 79 = .ok (.iconst (-1), 1) := by decide +kernel
theorem dX6_solve_80 : decode cX6_solve 80 = .ok (.if_icmp .ne 7, 3) := by decide +kernel
theorem dX6_solve_83 : decode cX6_solve 83 = .ok (.iconst 0, 1) := by decide +kernel
theorem dX6_solve_84 : decode cX6_solve 84 = .ok (.goto 21, 3) := by decide +kernel
theorem dX6_solve_87 : decode cX6_solve 87 = .ok (.aload_n 0, 1) := by decide +kernel
theorem dX6_solve_88 : decode cX6_solve 88 = .ok (.getfield 33, 3) := by decide +kernel
theorem dX6_solve_91 : decode cX6_solve 91 = .ok (.iload_n 1, 1) := by decide +kernel
theorem dX6_solve_92 : decode cX6_solve 92 = .ok (.iconst 1, 1) := by decide +kernel
theorem dX6_solve_93 : decode cX6_solve 93 = .ok (.iadd, 1) := by decide +kernel
theorem dX6_solve_94 : decode cX6_solve 94 = .ok (.aaload, 1) := by decide +kernel
theorem dX6_solve_95 : decode cX6_solve 95 = .ok (.iload_n 3, 1) := by decide +kernel
theorem dX6_solve_96 : decode cX6_solve 96 = .ok (.iaload, 1) := by decide +kernel
theorem dX6_solve_97 : decode cX6_solve 97 = .ok (.aload_n 0, 1) := by decide +kernel
theorem dX6_solve_98 : decode cX6_solve 98 = .ok (.iload_n 1, 1) := by decide +kernel
theorem dX6_solve_99 : decode cX6_solve 99 = .ok (.iload_n 2, 1) := by decide +kernel
theorem dX6_solve_100 : decode cX6_solve 100 = .ok (.iload_n 3, 1) := by decide +kernel
theorem dX6_solve_101 : decode cX6_solve 101 = .ok (.invokevirtual 126, 3) := by decide +kernel
theorem dX6_solve_104 : decode cX6_solve 104 = .ok (.iadd, 1) := by decide +kernel
theorem dX6_solve_105 : decode cX6_solve 105 = .ok (.istore 4, 2) := by decide +kernel
theorem dX6_solve_107 : decode cX6_solve 107 = .ok (.aload_n 0, 1) := by decide +kernel
theorem dX6_solve_108 : decode cX6_solve 108 = .ok (.getfield 33, 3) := by decide +kernel
theorem dX6_solve_111 : decode cX6_solve 111 = .ok (.iload_n 1, 1) := by decide +kernel
theorem dX6_solve_112 : decode cX6_solve 112 = .ok (.aaload, 1) := by decide +kernel
theorem dX6_solve_113 : decode cX6_solve 113 = .ok (.iload_n 2, 1) := by decide +kernel
theorem dX6_solve_114 : decode cX6_solve 114 = .ok (.aload_n 0, 1) := by decide +kernel
theorem dX6_solve_115 : decode cX6_solve 115 = .ok (.getfield 11, 3) := by decide +kernel
theorem dX6_solve_118 : decode cX6_solve 118 = .ok (.iload_n 1, 1) := by decide +kernel
theorem dX6_solve_119 : decode cX6_solve 119 = .ok (.aaload, 1) := by decide +kernel
theorem dX6_solve_120 : decode cX6_solve 120 = .ok (.getfield 129, 3) := by decide +kernel
theorem dX6_solve_123 : decode cX6_solve 123 = .ok (.iload_n 2, 1) := by decide +kernel
theorem dX6_solve_124 : decode cX6_solve 124 = .ok (.iaload, 1) := by decide +kernel
theorem dX6_solve_125 : decode cX6_solve 125 = .ok (.iload 4, 2) := by decide +kernel
theorem dX6_solve_127 : decode cX6_solve 127 = .ok (.iadd, 1) := by decide +kernel
theorem dX6_solve_128 : decode cX6_solve 128 = .ok (.iastore, 1) := by decide +kernel
theorem dX6_solve_129 : decode cX6_solve 129 = .ok (.iinc 2 1, 3) := by decide +kernel
theorem dX6_solve_132 : decode cX6_solve 132 = .ok (.goto (-76), 3) := by decide +kernel
theorem dX6_solve_135 : decode cX6_solve 135 = .ok (.iinc 1 (-1), 3) := by decide +kernel
theorem dX6_solve_138 : decode cX6_solve 138 = .ok (.goto (-88), 3) := by decide +kernel
theorem dX6_solve_141 : decode cX6_solve 141 = .ok (.iconst (-1), 1) := by decide +kernel
theorem dX6_solve_142 : decode cX6_solve 142 = .ok (.istore_n 1, 1) := by decide +kernel
theorem dX6_solve_143 : decode cX6_solve 143 = .ok (.iconst 0, 1) := by decide +kernel
theorem dX6_solve_144 : decode cX6_solve 144 = .ok (.istore_n 2, 1) := by decide +kernel
theorem dX6_solve_145 : decode cX6_solve 145 = .ok (.iload_n 2, 1) := by decide +kernel
theorem dX6_solve_146 : decode cX6_solve 146 = .ok (.aload_n 0, 1) := by decide +kernel
theorem dX6_solve_147 : decode cX6_solve 147 = .ok (.getfield 43, 3) := by decide +kernel
theorem dX6_solve_150 : decode cX6_solve 150 = .ok (.if_icmp .ge 28, 3) := by decide +kernel
theorem dX6_solve_153 : decode cX6_solve 153 = .ok (.aload_n 0, 1) := by decide +kernel
theorem dX6_solve_154 : decode cX6_solve 154 = .ok (.getfield 21, 3) := by decide +kernel
theorem dX6_solve_157 : decode cX6_solve 157 = .ok (.iload_n 2, 1) := by decide +kernel
theorem dX6_solve_158 : decode cX6_solve 158 = .ok (.aload_n 0, 1) := by decide +kernel
theorem dX6_solve_159 : decode cX6_solve 159 = .ok (.iload_n 2, 1) := by decide +kernel
theorem dX6_solve_160 : decode cX6_solve 160 = .ok (.iload_n 1, 1) := by decide +kernel
theorem dX6_solve_161 : decode cX6_solve 161 = .ok (.invokevirtual 123, 3) := by decide +kernel
theorem dX6_solve_164 : decode cX6_solve 164 = .ok (.iastore, 1) := by decide +kernel
theorem dX6_solve_165 : decode cX6_solve 165 = .ok (.aload_n 0, 1) := by decide +kernel
theorem dX6_solve_166 : decode cX6_solve 166 = .ok (.getfield 21, 3) := by decide +kernel
theorem dX6_solve_169 : decode cX6_solve 169 = .ok (.iload_n 2, 1) := by decide +kernel
theorem dX6_solve_170 : decode cX6_solve 170 = .ok (.iaload, 1) := by decide +kernel
theorem dX6_solve_171 : decode cX6_solve 171 = .ok (.istore_n 1, 1) := by decide +kernel
theorem dX6_solve_172 : decode cX6_solve 172 = .ok (.iinc 2 1, 3) := by decide +kernel
theorem dX6_solve_175 : decode cX6_solve 175 = .ok (.goto (-30), 3) := by decide +kernel
theorem dX6_solve_178 : decode cX6_solve 178 = .ok (.aload_n 0, 1) := by decide +kernel
theorem dX6_solve_179 : decode cX6_solve 179 = .ok (.aload_n 0, 1) := by decide +kernel
theorem dX6_solve_180 : decode cX6_solve 180 = .ok (.getfield 11, 3) := by decide +kernel
theorem dX6_solve_183 : decode cX6_solve 183 = .ok (.iconst 0, 1) := by decide +kernel
theorem dX6_solve_184 : decode cX6_solve 184 = .ok (.aaload, 1) := by decide +kernel
theorem dX6_solve_185 : decode cX6_solve 185 = .ok (.aload_n 0, 1) := by decide +kernel
theorem dX6_solve_186 : decode cX6_solve 186 = .ok (.getfield 21, 3) := by decide +kernel
theorem dX6_solve_189 : decode cX6_solve 189 = .ok (.iconst 0, 1) := by decide +kernel
theorem dX6_solve_190 : decode cX6_solve 190 = .ok (.iaload, 1) := by decide +kernel
theorem dX6_solve_191 : decode cX6_solve 191 = .ok (.invokevirtual 132, 3) := by decide +kernel
theorem dX6_solve_194 : decode cX6_solve 194 = .ok (.ifCond .eq 19, 3) := by decide +kernel
theorem dX6_solve_197 : decode cX6_solve 197 = .ok (.aload_n 0, 1) := by decide +kernel
theorem dX6_solve_198 : decode cX6_solve 198 = .ok (.getfield 33, 3) := by decide +kernel
theorem dX6_solve_201 : decode cX6_solve 201 = .ok (.iconst 0, 1) := by decide +kernel
theorem dX6_solve_202 : decode cX6_solve 202 = .ok (.aaload, 1) := by decide +kernel
theorem dX6_solve_203 : decode cX6_solve 203 = .ok (.aload_n 0, 1) := by decide +kernel
theorem dX6_solve_204 : decode cX6_solve 204 = .ok (.getfield 21, 3) := by decide +kernel
theorem dX6_solve_207 : decode cX6_solve 207 = .ok (.iconst 0, 1) := by decide +kernel
theorem dX6_solve_208 : decode cX6_solve 208 = .ok (.iaload, 1) := by decide +kernel
theorem dX6_solve_209 : decode cX6_solve 209 = .ok (.iaload, 1) := by decide +kernel
theorem dX6_solve_210 : decode cX6_solve 210 = .ok (.goto 4, 3) := by decide +kernel
theorem dX6_solve_213 : decode cX6_solve 213 = .ok (.iconst (-1), 1) := by decide +kernel
theorem dX6_solve_214 : decode cX6_solve 214 = .ok (.putfield 24, 3) := by decide +kernel
theorem dX6_solve_217 : decode cX6_solve 217 = .ok (.return_, 1) := by decide +kernel
theorem dX6_bestAt_0 : decode cX6_bestAt 0 = .ok (.iload_n 1, 1) := by decide +kernel
theorem dX6_bestAt_1 : decode cX6_bestAt 1 = .ok (.aload_n 0, 1) := by decide +kernel
theorem dX6_bestAt_2 : decode cX6_bestAt 2 = .ok (.getfield 43, 3) := by decide +kernel
theorem dX6_bestAt_5 : decode cX6_bestAt 5 = .ok (.if_icmp .lt 5, 3) := by decide +kernel
theorem dX6_bestAt_8 : decode cX6_bestAt 8 = .ok (.iconst (-1), 1) := by decide +kernel
theorem dX6_bestAt_9 : decode cX6_bestAt 9 = .ok (.ireturn, 1) := by decide +kernel
theorem dX6_bestAt_10 : decode cX6_bestAt 10 = .ok (.iconst (-1), 1) := by decide +kernel
theorem dX6_bestAt_11 : decode cX6_bestAt 11 = .ok (.istore_n 3, 1) := by decide +kernel
theorem dX6_bestAt_12 : decode cX6_bestAt 12 = .ok (.iconst 0, 1) := by decide +kernel
theorem dX6_bestAt_13 : decode cX6_bestAt 13 = .ok (.istore 4, 2) := by decide +kernel
theorem dX6_bestAt_15 : decode cX6_bestAt 15 = .ok (.iconst 0, 1) := by decide +kernel
theorem dX6_bestAt_16 : decode cX6_bestAt 16 = .ok (.istore 5, 2) := by decide +kernel
theorem dX6_bestAt_18 : decode cX6_bestAt 18 = .ok (.iload 5, 2) := by decide +kernel
theorem dX6_bestAt_20 : decode cX6_bestAt 20 = .ok (.aload_n 0, 1) := by decide +kernel
theorem dX6_bestAt_21 : decode cX6_bestAt 21 = .ok (.getfield 11, 3) := by decide +kernel
theorem dX6_bestAt_24 : decode cX6_bestAt 24 = .ok (.iload_n 1, 1) := by decide +kernel
theorem dX6_bestAt_25 : decode cX6_bestAt 25 = .ok (.aaload, 1) := by decide +kernel
theorem dX6_bestAt_26 : decode cX6_bestAt 26 = .ok (.getfield 60, 3) := by decide +kernel
theorem dX6_bestAt_29 : decode cX6_bestAt 29 = .ok (.if_icmp .ge 74, 3) := by decide +kernel
theorem dX6_bestAt_32 : decode cX6_bestAt 32 = .ok (.aload_n 0, 1) := by decide +kernel
theorem dX6_bestAt_33 : decode cX6_bestAt 33 = .ok (.getfield 17, 3) := by decide +kernel
theorem dX6_bestAt_36 : decode cX6_bestAt 36 = .ok (.iload_n 1, 1) := by decide +kernel
theorem dX6_bestAt_37 : decode cX6_bestAt 37 = .ok (.iaload, 1) := by decide +kernel
theorem dX6_bestAt_38 : decode cX6_bestAt 38 = .ok (.iconst (-1), 1) := by decide +kernel
theorem dX6_bestAt_39 : decode cX6_bestAt 39 = .ok (.if_icmp .eq 17, 3) := by decide +kernel
theorem dX6_bestAt_42 : decode cX6_bestAt 42 = .ok (.aload_n 0, 1) := by decide +kernel
theorem dX6_bestAt_43 : decode cX6_bestAt 43 = .ok (.getfield 17, 3) := by decide +kernel
theorem dX6_bestAt_46 : decode cX6_bestAt 46 = .ok (.iload_n 1, 1) := by decide +kernel
theorem dX6_bestAt_47 : decode cX6_bestAt 47 = .ok (.iaload, 1) := by decide +kernel
theorem dX6_bestAt_48 : decode cX6_bestAt 48 = .ok (.iload 5, 2) := by decide +kernel
theorem dX6_bestAt_50 : decode cX6_bestAt 50 = .ok (.if_icmp .eq 6, 3) := by decide +kernel
theorem dX6_bestAt_53 : decode cX6_bestAt 53 = .ok (.goto 44, 3) := by decide +kernel
theorem dX6_bestAt_56 : decode cX6_bestAt 56 = .ok (.aload_n 0, 1) := by decide +kernel
theorem dX6_bestAt_57 : decode cX6_bestAt 57 = .ok (.getfield 33, 3) := by decide +kernel
theorem dX6_bestAt_60 : decode cX6_bestAt 60 = .ok (.iload_n 1, 1) := by decide +kernel
theorem dX6_bestAt_61 : decode cX6_bestAt 61 = .ok (.aaload, 1) := by decide +kernel
theorem dX6_bestAt_62 : decode cX6_bestAt 62 = .ok (.iload 5, 2) := by decide +kernel
theorem dX6_bestAt_64 : decode cX6_bestAt 64 = .ok (.iaload, 1) := by decide +kernel
theorem dX6_bestAt_65 : decode cX6_bestAt 65 = .ok (.aload_n 0, 1) := by decide +kernel
theorem dX6_bestAt_66 : decode cX6_bestAt 66 = .ok (.iload_n 1, 1) := by decide +kernel
theorem dX6_bestAt_67 : decode cX6_bestAt 67 = .ok (.iconst 1, 1) := by decide +kernel
theorem dX6_bestAt_68 : decode cX6_bestAt 68 = .ok (.isub, 1) := by decide +kernel
theorem dX6_bestAt_69 : decode cX6_bestAt 69 = .ok (.iload_n 2, 1) := by decide +kernel
theorem dX6_bestAt_70 : decode cX6_bestAt 70 = .ok (.iload 5, 2) := by decide +kernel
theorem dX6_bestAt_72 : decode cX6_bestAt 72 = .ok (.invokevirtual 126, 3) := by decide +kernel
theorem dX6_bestAt_75 : decode cX6_bestAt 75 = .ok (.iadd, 1) := by decide +kernel
theorem dX6_bestAt_76 : decode cX6_bestAt 76 = .ok (.istore 6, 2) := by decide +kernel
theorem dX6_bestAt_78 : decode cX6_bestAt 78 = .ok (.iload_n 3, 1) := by decide +kernel
theorem dX6_bestAt_79 : decode cX6_bestAt 79 = .ok (.iconst (-1), 1) := by decide +kernel
theorem dX6_bestAt_80 : decode cX6_bestAt 80 = .ok (.if_icmp .eq 10, 3) := by decide +kernel
theorem dX6_bestAt_83 : decode cX6_bestAt 83 = .ok (.iload 6, 2) := by decide +kernel
theorem dX6_bestAt_85 : decode cX6_bestAt 85 = .ok (.iload 4, 2) := by decide +kernel
theorem dX6_bestAt_87 : decode cX6_bestAt 87 = .ok (.if_icmp .ge 10, 3) := by decide +kernel
theorem dX6_bestAt_90 : decode cX6_bestAt 90 = .ok (.iload 5, 2) := by decide +kernel
theorem dX6_bestAt_92 : decode cX6_bestAt 92 = .ok (.istore_n 3, 1) := by decide +kernel
theorem dX6_bestAt_93 : decode cX6_bestAt 93 = .ok (.iload 6, 2) := by decide +kernel
theorem dX6_bestAt_95 : decode cX6_bestAt 95 = .ok (.istore 4, 2) := by decide +kernel
theorem dX6_bestAt_97 : decode cX6_bestAt 97 = .ok (.iinc 5 1, 3) := by decide +kernel
theorem dX6_bestAt_100 : decode cX6_bestAt 100 = .ok (.goto (-82), 3) := by decide +kernel
theorem dX6_bestAt_103 : decode cX6_bestAt 103 = .ok (.iload_n 3, 1) := by decide +kernel
theorem dX6_bestAt_104 : decode cX6_bestAt 104 = .ok (.ireturn, 1) := by decide +kernel
theorem dX6_moveCost_0 : decode cX6_moveCost 0 = .ok (.iload_n 1, 1) := by decide +kernel
theorem dX6_moveCost_1 : decode cX6_moveCost 1 = .ok (.ifCond .lt 41, 3) := by decide +kernel
theorem dX6_moveCost_4 : decode cX6_moveCost 4 = .ok (.iload_n 1, 1) := by decide +kernel
theorem dX6_moveCost_5 : decode cX6_moveCost 5 = .ok (.iconst 1, 1) := by decide +kernel
theorem dX6_moveCost_6 : decode cX6_moveCost 6 = .ok (.iadd, 1) := by decide +kernel
theorem dX6_moveCost_7 : decode cX6_moveCost 7 = .ok (.aload_n 0, 1) := by decide +kernel
theorem dX6_moveCost_8 : decode cX6_moveCost 8 = .ok (.getfield 43, 3) := by decide +kernel
theorem dX6_moveCost_11 : decode cX6_moveCost 11 = .ok (.if_icmp .ge 31, 3) := by decide +kernel
theorem dX6_moveCost_14 : decode cX6_moveCost 14 = .ok (.aload_n 0, 1) := by decide +kernel
theorem dX6_moveCost_15 : decode cX6_moveCost 15 = .ok (.getfield 11, 3) := by decide +kernel
theorem dX6_moveCost_18 : decode cX6_moveCost 18 = .ok (.iload_n 1, 1) := by decide +kernel
theorem dX6_moveCost_19 : decode cX6_moveCost 19 = .ok (.aaload, 1) := by decide +kernel
theorem dX6_moveCost_20 : decode cX6_moveCost 20 = .ok (.iload_n 2, 1) := by decide +kernel
theorem dX6_moveCost_21 : decode cX6_moveCost 21 = .ok (.invokevirtual 132, 3) := by decide +kernel
theorem dX6_moveCost_24 : decode cX6_moveCost 24 = .ok (.ifCond .eq 18, 3) := by decide +kernel
theorem dX6_moveCost_27 : decode cX6_moveCost 27 = .ok (.aload_n 0, 1) := by decide +kernel
theorem dX6_moveCost_28 : decode cX6_moveCost 28 = .ok (.getfield 11, 3) := by decide +kernel
theorem dX6_moveCost_31 : decode cX6_moveCost 31 = .ok (.iload_n 1, 1) := by decide +kernel
theorem dX6_moveCost_32 : decode cX6_moveCost 32 = .ok (.iconst 1, 1) := by decide +kernel
theorem dX6_moveCost_33 : decode cX6_moveCost 33 = .ok (.iadd, 1) := by decide +kernel
theorem dX6_moveCost_34 : decode cX6_moveCost 34 = .ok (.aaload, 1) := by decide +kernel
theorem dX6_moveCost_35 : decode cX6_moveCost 35 = .ok (.iload_n 3, 1) := by decide +kernel
theorem dX6_moveCost_36 : decode cX6_moveCost 36 = .ok (.invokevirtual 132, 3) := by decide +kernel
theorem dX6_moveCost_39 : decode cX6_moveCost 39 = .ok (.ifCond .ne 5, 3) := by decide +kernel
theorem dX6_moveCost_42 : decode cX6_moveCost 42 = .ok (.iconst 0, 1) := by decide +kernel
theorem dX6_moveCost_43 : decode cX6_moveCost 43 = .ok (.ireturn, 1) := by decide +kernel
theorem dX6_moveCost_44 : decode cX6_moveCost 44 = .ok (.aload_n 0, 1) := by decide +kernel
theorem dX6_moveCost_45 : decode cX6_moveCost 45 = .ok (.getfield 11, 3) := by decide +kernel
theorem dX6_moveCost_48 : decode cX6_moveCost 48 = .ok (.iload_n 1, 1) := by decide +kernel
theorem dX6_moveCost_49 : decode cX6_moveCost 49 = .ok (.aaload, 1) := by decide +kernel
theorem dX6_moveCost_50 : decode cX6_moveCost 50 = .ok (.getfield 135, 3) := by decide +kernel
theorem dX6_moveCost_53 : decode cX6_moveCost 53 = .ok (.iload_n 2, 1) := by decide +kernel
theorem dX6_moveCost_54 : decode cX6_moveCost 54 = .ok (.iaload, 1) := by decide +kernel
theorem dX6_moveCost_55 : decode cX6_moveCost 55 = .ok (.istore 4, 2) := by decide +kernel
theorem dX6_moveCost_57 : decode cX6_moveCost 57 = .ok (.aload_n 0, 1) := by decide +kernel
theorem dX6_moveCost_58 : decode cX6_moveCost 58 = .ok (.getfield 11, 3) := by decide +kernel
theorem dX6_moveCost_61 : decode cX6_moveCost 61 = .ok (.iload_n 1, 1) := by decide +kernel
theorem dX6_moveCost_62 : decode cX6_moveCost 62 = .ok (.iconst 1, 1) := by decide +kernel
theorem dX6_moveCost_63 : decode cX6_moveCost 63 = .ok (.iadd, 1) := by decide +kernel
theorem dX6_moveCost_64 : decode cX6_moveCost 64 = .ok (.aaload, 1) := by decide +kernel
theorem dX6_moveCost_65 : decode cX6_moveCost 65 = .ok (.getfield 135, 3) := by decide +kernel
theorem dX6_moveCost_68 : decode cX6_moveCost 68 = .ok (.iload_n 3, 1) := by decide +kernel
theorem dX6_moveCost_69 : decode cX6_moveCost 69 = .ok (.iaload, 1) := by decide +kernel
theorem dX6_moveCost_70 : decode cX6_moveCost 70 = .ok (.istore 5, 2) := by decide +kernel
theorem dX6_moveCost_72 : decode cX6_moveCost 72 = .ok (.iload 4, 2) := by decide +kernel
theorem dX6_moveCost_74 : decode cX6_moveCost 74 = .ok (.ifCond .eq 8, 3) := by decide +kernel
theorem dX6_moveCost_77 : decode cX6_moveCost 77 = .ok (.iload 5, 2) := by decide +kernel
theorem dX6_moveCost_79 : decode cX6_moveCost 79 = .ok (.ifCond .ne 5, 3) := by decide +kernel
theorem dX6_moveCost_82 : decode cX6_moveCost 82 = .ok (.iconst 0, 1) := by decide +kernel
theorem dX6_moveCost_83 : decode cX6_moveCost 83 = .ok (.ireturn, 1) := by decide +kernel
theorem dX6_moveCost_84 : decode cX6_moveCost 84 = .ok (.aload_n 0, 1) := by decide +kernel
theorem dX6_moveCost_85 : decode cX6_moveCost 85 = .ok (.getfield 28, 3) := by decide +kernel
theorem dX6_moveCost_88 : decode cX6_moveCost 88 = .ok (.iload_n 1, 1) := by decide +kernel
theorem dX6_moveCost_89 : decode cX6_moveCost 89 = .ok (.iaload, 1) := by decide +kernel
theorem dX6_moveCost_90 : decode cX6_moveCost 90 = .ok (.iconst 1, 1) := by decide +kernel
theorem dX6_moveCost_91 : decode cX6_moveCost 91 = .ok (.if_icmp .ne 8, 3) := by decide +kernel
theorem dX6_moveCost_94 : decode cX6_moveCost 94 = .ok (.bipush 6, 2) := by decide +kernel
theorem dX6_moveCost_96 : decode cX6_moveCost 96 = .ok (.goto 4, 3) := by decide +kernel
theorem dX6_moveCost_99 : decode cX6_moveCost 99 = .ok (.iconst 3, 1) := by decide +kernel
theorem dX6_moveCost_100 : decode cX6_moveCost 100 = .ok (.istore 6, 2) := by decide +kernel
theorem dX6_moveCost_102 : decode cX6_moveCost 102 = .ok (.aload_n 0, 1) := by decide +kernel
theorem dX6_moveCost_103 : decode cX6_moveCost 103 = .ok (.getfield 11, 3) := by decide +kernel
theorem dX6_moveCost_106 : decode cX6_moveCost 106 = .ok (.iload_n 1, 1) := by decide +kernel
theorem dX6_moveCost_107 : decode cX6_moveCost 107 = .ok (.aaload, 1) := by decide +kernel
theorem dX6_moveCost_108 : decode cX6_moveCost 108 = .ok (.getfield 138, 3) := by decide +kernel
theorem dX6_moveCost_111 : decode cX6_moveCost 111 = .ok (.iload_n 2, 1) := by decide +kernel
theorem dX6_moveCost_112 : decode cX6_moveCost 112 = .ok (.iaload, 1) := by decide +kernel
theorem dX6_moveCost_113 : decode cX6_moveCost 113 = .ok (.aload_n 0, 1) := by decide +kernel
theorem dX6_moveCost_114 : decode cX6_moveCost 114 = .ok (.getfield 11, 3) := by decide +kernel
theorem dX6_moveCost_117 : decode cX6_moveCost 117 = .ok (.iload_n 1, 1) := by decide +kernel
theorem dX6_moveCost_118 : decode cX6_moveCost 118 = .ok (.iconst 1, 1) := by decide +kernel
theorem dX6_moveCost_119 : decode cX6_moveCost 119 = .ok (.iadd, 1) := by decide +kernel
theorem dX6_moveCost_120 : decode cX6_moveCost 120 = .ok (.aaload, 1) := by decide +kernel
theorem dX6_moveCost_121 : decode cX6_moveCost 121 = .ok (.getfield 138, 3) := by decide +kernel
theorem dX6_moveCost_124 : decode cX6_moveCost 124 = .ok (.iload_n 3, 1) := by decide +kernel
theorem dX6_moveCost_125 : decode cX6_moveCost 125 = .ok (.iaload, 1) := by decide +kernel
theorem dX6_moveCost_126 : decode cX6_moveCost 126 = .ok (.invokestatic 141, 3) := by decide +kernel
theorem dX6_moveCost_129 : decode cX6_moveCost 129 = .ok (.istore 7, 2) := by decide +kernel
theorem dX6_moveCost_131 : decode cX6_moveCost 131 = .ok (.iload 6, 2) := by decide +kernel
theorem dX6_moveCost_133 : decode cX6_moveCost 133 = .ok (.iload 5, 2) := by decide +kernel
theorem dX6_moveCost_135 : decode cX6_moveCost 135 = .ok (.iload 4, 2) := by decide +kernel
theorem dX6_moveCost_137 : decode cX6_moveCost 137 = .ok (.isub, 1) := by decide +kernel
theorem dX6_moveCost_138 : decode cX6_moveCost 138 = .ok (.invokestatic 144, 3) := by decide +kernel
theorem dX6_moveCost_141 : decode cX6_moveCost 141 = .ok (.imul, 1) := by decide +kernel
theorem dX6_moveCost_142 : decode cX6_moveCost 142 = .ok (.iload 7, 2) := by decide +kernel
theorem dX6_moveCost_144 : decode cX6_moveCost 144 = .ok (.invokestatic 147, 3) := by decide +kernel
theorem dX6_moveCost_147 : decode cX6_moveCost 147 = .ok (.iadd, 1) := by decide +kernel
theorem dX6_moveCost_148 : decode cX6_moveCost 148 = .ok (.ireturn, 1) := by decide +kernel
theorem dX6_hardestMove_0 : decode cX6_hardestMove 0 = .ok (.aload_n 0, 1) := by decide +kernel
theorem dX6_hardestMove_1 : decode cX6_hardestMove 1 = .ok (.getfield 24, 3) := by decide +kernel
theorem dX6_hardestMove_4 : decode cX6_hardestMove 4 = .ok (.iconst (-1), 1) := by decide +kernel
theorem dX6_hardestMove_5 : decode cX6_hardestMove 5 = .ok (.if_icmp .ne 5, 3) := by decide +kernel
theorem dX6_hardestMove_8 : decode cX6_hardestMove 8 = .ok (.iconst (-1), 1) := by decide +kernel
theorem dX6_hardestMove_9 : decode cX6_hardestMove 9 = .ok (.ireturn, 1) := by decide +kernel
theorem dX6_hardestMove_10 : decode cX6_hardestMove 10 = .ok (.iconst (-1), 1) := by decide +kernel
theorem dX6_hardestMove_11 : decode cX6_hardestMove 11 = .ok (.istore_n 1, 1) := by decide +kernel
theorem dX6_hardestMove_12 : decode cX6_hardestMove 12 = .ok (.iconst (-1), 1) := by decide +kernel
theorem dX6_hardestMove_13 : decode cX6_hardestMove 13 = .ok (.istore_n 2, 1) := by decide +kernel
theorem dX6_hardestMove_14 : decode cX6_hardestMove 14 = .ok (.iconst 0, 1) := by decide +kernel
theorem dX6_hardestMove_15 : decode cX6_hardestMove 15 = .ok (.istore_n 3, 1) := by decide +kernel
theorem dX6_hardestMove_16 : decode cX6_hardestMove 16 = .ok (.iload_n 3, 1) := by decide +kernel
theorem dX6_hardestMove_17 : decode cX6_hardestMove 17 = .ok (.iconst 1, 1) := by decide +kernel
theorem dX6_hardestMove_18 : decode cX6_hardestMove 18 = .ok (.iadd, 1) := by decide +kernel
theorem dX6_hardestMove_19 : decode cX6_hardestMove 19 = .ok (.aload_n 0, 1) := by decide +kernel
theorem dX6_hardestMove_20 : decode cX6_hardestMove 20 = .ok (.getfield 43, 3) := by decide +kernel
theorem dX6_hardestMove_23 : decode cX6_hardestMove 23 = .ok (.if_icmp .ge 41, 3) := by decide +kernel
theorem dX6_hardestMove_26 : decode cX6_hardestMove 26 = .ok (.aload_n 0, 1) := by decide +kernel
theorem dX6_hardestMove_27 : decode cX6_hardestMove 27 = .ok (.iload_n 3, 1) := by decide +kernel
theorem dX6_hardestMove_28 : decode cX6_hardestMove 28 = .ok (.aload_n 0, 1) := by decide +kernel
theorem dX6_hardestMove_29 : decode cX6_hardestMove 29 = .ok (.getfield 21, 3) := by decide +kernel
theorem dX6_hardestMove_32 : decode cX6_hardestMove 32 = .ok (.iload_n 3, 1) := by decide +kernel
theorem dX6_hardestMove_33 : decode cX6_hardestMove 33 = .ok (.iaload, 1) := by decide +kernel
theorem dX6_hardestMove_34 : decode cX6_hardestMove 34 = .ok (.aload_n 0, 1) := by decide +kernel
theorem dX6_hardestMove_35 : decode cX6_hardestMove 35 = .ok (.getfield 21, 3) := by decide +kernel
theorem dX6_hardestMove_38 : decode cX6_hardestMove 38 = .ok (.iload_n 3, 1) := by decide +kernel
theorem dX6_hardestMove_39 : decode cX6_hardestMove 39 = .ok (.iconst 1, 1) := by decide +kernel
theorem dX6_hardestMove_40 : decode cX6_hardestMove 40 = .ok (.iadd, 1) := by decide +kernel
theorem dX6_hardestMove_41 : decode cX6_hardestMove 41 = .ok (.iaload, 1) := by decide +kernel
theorem dX6_hardestMove_42 : decode cX6_hardestMove 42 = .ok (.invokevirtual 126, 3) := by decide +kernel
theorem dX6_hardestMove_45 : decode cX6_hardestMove 45 = .ok (.istore 4, 2) := by decide +kernel
theorem dX6_hardestMove_47 : decode cX6_hardestMove 47 = .ok (.iload 4, 2) := by decide +kernel
theorem dX6_hardestMove_49 : decode cX6_hardestMove 49 = .ok (.iload_n 2, 1) := by decide +kernel
theorem dX6_hardestMove_50 : decode cX6_hardestMove 50 = .ok (.if_icmp .le 8, 3) := by decide +kernel
theorem dX6_hardestMove_53 : decode cX6_hardestMove 53 = .ok (.iload_n 3, 1) := by decide +kernel
theorem dX6_hardestMove_54 : decode cX6_hardestMove 54 = .ok (.istore_n 1, 1) := by decide +kernel
theorem dX6_hardestMove_55 : decode cX6_hardestMove 55 = .ok (.iload 4, 2) := by decide +kernel
theorem dX6_hardestMove_57 : decode cX6_hardestMove 57 = .ok (.istore_n 2, 1) := by decide +kernel
theorem dX6_hardestMove_58 : decode cX6_hardestMove 58 = .ok (.iinc 3 1, 3) := by decide +kernel
theorem dX6_hardestMove_61 : decode cX6_hardestMove 61 = .ok (.goto (-45), 3) := by decide +kernel
theorem dX6_hardestMove_64 : decode cX6_hardestMove 64 = .ok (.iload_n 1, 1) := by decide +kernel
theorem dX6_hardestMove_65 : decode cX6_hardestMove 65 = .ok (.ireturn, 1) := by decide +kernel
theorem dX6_sumOfMoves_0 : decode cX6_sumOfMoves 0 = .ok (.aload_n 0, 1) := by decide +kernel
theorem dX6_sumOfMoves_1 : decode cX6_sumOfMoves 1 = .ok (.getfield 24, 3) := by decide +kernel
theorem dX6_sumOfMoves_4 : decode cX6_sumOfMoves 4 = .ok (.iconst (-1), 1) := by decide +kernel
theorem dX6_sumOfMoves_5 : decode cX6_sumOfMoves 5 = .ok (.if_icmp .ne 5, 3) := by decide +kernel
theorem dX6_sumOfMoves_8 : decode cX6_sumOfMoves 8 = .ok (.iconst (-1), 1) := by decide +kernel
theorem dX6_sumOfMoves_9 : decode cX6_sumOfMoves 9 = .ok (.ireturn, 1) := by decide +kernel
theorem dX6_sumOfMoves_10 : decode cX6_sumOfMoves 10 = .ok (.iconst 0, 1) := by decide +kernel
theorem dX6_sumOfMoves_11 : decode cX6_sumOfMoves 11 = .ok (.istore_n 1, 1) := by decide +kernel
theorem dX6_sumOfMoves_12 : decode cX6_sumOfMoves 12 = .ok (.iconst 0, 1) := by decide +kernel
theorem dX6_sumOfMoves_13 : decode cX6_sumOfMoves 13 = .ok (.istore_n 2, 1) := by decide +kernel
theorem dX6_sumOfMoves_14 : decode cX6_sumOfMoves 14 = .ok (.iload_n 2, 1) := by decide +kernel
theorem dX6_sumOfMoves_15 : decode cX6_sumOfMoves 15 = .ok (.iconst 1, 1) := by decide +kernel
theorem dX6_sumOfMoves_16 : decode cX6_sumOfMoves 16 = .ok (.iadd, 1) := by decide +kernel
theorem dX6_sumOfMoves_17 : decode cX6_sumOfMoves 17 = .ok (.aload_n 0, 1) := by decide +kernel
theorem dX6_sumOfMoves_18 : decode cX6_sumOfMoves 18 = .ok (.getfield 43, 3) := by decide +kernel
theorem dX6_sumOfMoves_21 : decode cX6_sumOfMoves 21 = .ok (.if_icmp .ge 31, 3) := by decide +kernel
theorem dX6_sumOfMoves_24 : decode cX6_sumOfMoves 24 = .ok (.iload_n 1, 1) := by decide +kernel
theorem dX6_sumOfMoves_25 : decode cX6_sumOfMoves 25 = .ok (.aload_n 0, 1) := by decide +kernel
theorem dX6_sumOfMoves_26 : decode cX6_sumOfMoves 26 = .ok (.iload_n 2, 1) := by decide +kernel
theorem dX6_sumOfMoves_27 : decode cX6_sumOfMoves 27 = .ok (.aload_n 0, 1) := by decide +kernel
theorem dX6_sumOfMoves_28 : decode cX6_sumOfMoves 28 = .ok (.getfield 21, 3) := by decide +kernel
theorem dX6_sumOfMoves_31 : decode cX6_sumOfMoves 31 = .ok (.iload_n 2, 1) := by decide +kernel
theorem dX6_sumOfMoves_32 : decode cX6_sumOfMoves 32 = .ok (.iaload, 1) := by decide +kernel
theorem dX6_sumOfMoves_33 : decode cX6_sumOfMoves 33 = .ok (.aload_n 0, 1) := by decide +kernel
theorem dX6_sumOfMoves_34 : decode cX6_sumOfMoves 34 = .ok (.getfield 21, 3) := by decide +kernel
theorem dX6_sumOfMoves_37 : decode cX6_sumOfMoves 37 = .ok (.iload_n 2, 1) := by decide +kernel
theorem dX6_sumOfMoves_38 : decode cX6_sumOfMoves 38 = .ok (.iconst 1, 1) := by decide +kernel
theorem dX6_sumOfMoves_39 : decode cX6_sumOfMoves 39 = .ok (.iadd, 1) := by decide +kernel
theorem dX6_sumOfMoves_40 : decode cX6_sumOfMoves 40 = .ok (.iaload, 1) := by decide +kernel
theorem dX6_sumOfMoves_41 : decode cX6_sumOfMoves 41 = .ok (.invokevirtual 126, 3) := by decide +kernel
theorem dX6_sumOfMoves_44 : decode cX6_sumOfMoves 44 = .ok (.iadd, 1) := by decide +kernel
theorem dX6_sumOfMoves_45 : decode cX6_sumOfMoves 45 = .ok (.istore_n 1, 1) := by decide +kernel
theorem dX6_sumOfMoves_46 : decode cX6_sumOfMoves 46 = .ok (.iinc 2 1, 3) := by decide +kernel
theorem dX6_sumOfMoves_49 : decode cX6_sumOfMoves 49 = .ok (.goto (-35), 3) := by decide +kernel
theorem dX6_sumOfMoves_52 : decode cX6_sumOfMoves 52 = .ok (.iload_n 1, 1) := by decide +kernel
theorem dX6_sumOfMoves_53 : decode cX6_sumOfMoves 53 = .ok (.ireturn, 1) := by decide +kernel
theorem dX6_griplessCount_0 : decode cX6_griplessCount 0 = .ok (.iconst 0, 1) := by decide +kernel
theorem dX6_griplessCount_1 : decode cX6_griplessCount 1 = .ok (.istore_n 1, 1) := by decide +kernel
theorem dX6_griplessCount_2 : decode cX6_griplessCount 2 = .ok (.iconst 0, 1) := by decide +kernel
theorem dX6_griplessCount_3 : decode cX6_griplessCount 3 = .ok (.istore_n 2, 1) := by decide +kernel
theorem dX6_griplessCount_4 : decode cX6_griplessCount 4 = .ok (.iload_n 2, 1) := by decide +kernel
theorem dX6_griplessCount_5 : decode cX6_griplessCount 5 = .ok (.aload_n 0, 1) := by decide +kernel
theorem dX6_griplessCount_6 : decode cX6_griplessCount 6 = .ok (.getfield 43, 3) := by decide +kernel
theorem dX6_griplessCount_9 : decode cX6_griplessCount 9 = .ok (.if_icmp .ge 24, 3) := by decide +kernel
theorem dX6_griplessCount_12 : decode cX6_griplessCount 12 = .ok (.aload_n 0, 1) := by decide +kernel
theorem dX6_griplessCount_13 : decode cX6_griplessCount 13 = .ok (.getfield 11, 3) := by decide +kernel
theorem dX6_griplessCount_16 : decode cX6_griplessCount 16 = .ok (.iload_n 2, 1) := by decide +kernel
theorem dX6_griplessCount_17 : decode cX6_griplessCount 17 = .ok (.aaload, 1) := by decide +kernel
theorem dX6_griplessCount_18 : decode cX6_griplessCount 18 = .ok (.getfield 60, 3) := by decide +kernel
theorem dX6_griplessCount_21 : decode cX6_griplessCount 21 = .ok (.ifCond .ne 6, 3) := by decide +kernel
theorem dX6_griplessCount_24 : decode cX6_griplessCount 24 = .ok (.iinc 1 1, 3) := by decide +kernel
theorem dX6_griplessCount_27 : decode cX6_griplessCount 27 = .ok (.iinc 2 1, 3) := by decide +kernel
theorem dX6_griplessCount_30 : decode cX6_griplessCount 30 = .ok (.goto (-26), 3) := by decide +kernel
theorem dX6_griplessCount_33 : decode cX6_griplessCount 33 = .ok (.iload_n 1, 1) := by decide +kernel
theorem dX6_griplessCount_34 : decode cX6_griplessCount 34 = .ok (.ireturn, 1) := by decide +kernel
theorem dX6_fixedCount_0 : decode cX6_fixedCount 0 = .ok (.iconst 0, 1) := by decide +kernel
theorem dX6_fixedCount_1 : decode cX6_fixedCount 1 = .ok (.istore_n 1, 1) := by decide +kernel
theorem dX6_fixedCount_2 : decode cX6_fixedCount 2 = .ok (.iconst 0, 1) := by decide +kernel
theorem dX6_fixedCount_3 : decode cX6_fixedCount 3 = .ok (.istore_n 2, 1) := by decide +kernel
theorem dX6_fixedCount_4 : decode cX6_fixedCount 4 = .ok (.iload_n 2, 1) := by decide +kernel
theorem dX6_fixedCount_5 : decode cX6_fixedCount 5 = .ok (.aload_n 0, 1) := by decide +kernel
theorem dX6_fixedCount_6 : decode cX6_fixedCount 6 = .ok (.getfield 43, 3) := by decide +kernel
theorem dX6_fixedCount_9 : decode cX6_fixedCount 9 = .ok (.if_icmp .ge 22, 3) := by decide +kernel
theorem dX6_fixedCount_12 : decode cX6_fixedCount 12 = .ok (.aload_n 0, 1) := by decide +kernel
theorem dX6_fixedCount_13 : decode cX6_fixedCount 13 = .ok (.getfield 17, 3) := by decide +kernel
theorem dX6_fixedCount_16 : decode cX6_fixedCount 16 = .ok (.iload_n 2, 1) := by decide +kernel
theorem dX6_fixedCount_17 : decode cX6_fixedCount 17 = .ok (.iaload, 1) := by decide +kernel
theorem dX6_fixedCount_18 : decode cX6_fixedCount 18 = .ok (.iconst (-1), 1) := by decide +kernel
theorem dX6_fixedCount_19 : decode cX6_fixedCount 19 = .ok (.if_icmp .eq 6, 3) := by decide +kernel
theorem dX6_fixedCount_22 : decode cX6_fixedCount 22 = .ok (.iinc 1 1, 3) := by decide +kernel
theorem dX6_fixedCount_25 : decode cX6_fixedCount 25 = .ok (.iinc 2 1, 3) := by decide +kernel
theorem dX6_fixedCount_28 : decode cX6_fixedCount 28 = .ok (.goto (-24), 3) := by decide +kernel
theorem dX6_fixedCount_31 : decode cX6_fixedCount 31 = .ok (.iload_n 1, 1) := by decide +kernel
theorem dX6_fixedCount_32 : decode cX6_fixedCount 32 = .ok (.ireturn, 1) := by decide +kernel
theorem dX7_init_0 : decode cX7_init 0 = .ok (.aload_n 0, 1) := by decide +kernel
theorem dX7_init_1 : decode cX7_init 1 = .ok (.invokespecial 3, 3) := by decide +kernel
theorem dX7_init_4 : decode cX7_init 4 = .ok (.aload_n 0, 1) := by decide +kernel
theorem dX7_init_5 : decode cX7_init 5 = .ok (.iconst 0, 1) := by decide +kernel
theorem dX7_init_6 : decode cX7_init 6 = .ok (.putfield 9, 3) := by decide +kernel
theorem dX7_init_9 : decode cX7_init 9 = .ok (.aload_n 0, 1) := by decide +kernel
theorem dX7_init_10 : decode cX7_init 10 = .ok (.iconst (-1), 1) := by decide +kernel
theorem dX7_init_11 : decode cX7_init 11 = .ok (.putfield 15, 3) := by decide +kernel
theorem dX7_init_14 : decode cX7_init 14 = .ok (.aload_n 0, 1) := by decide +kernel
theorem dX7_init_15 : decode cX7_init 15 = .ok (.iconst 0, 1) := by decide +kernel
theorem dX7_init_16 : decode cX7_init 16 = .ok (.putfield 18, 3) := by decide +kernel
theorem dX7_init_19 : decode cX7_init 19 = .ok (.aload_n 0, 1) := by decide +kernel
theorem dX7_init_20 : decode cX7_init 20 = .ok (.iconst 0, 1) := by decide +kernel
theorem dX7_init_21 : decode cX7_init 21 = .ok (.putfield 23, 3) := by decide +kernel
theorem dX7_init_24 : decode cX7_init 24 = .ok (.aload_n 0, 1) := by decide +kernel
theorem dX7_init_25 : decode cX7_init 25 = .ok (.iconst 0, 1) := by decide +kernel
theorem dX7_init_26 : decode cX7_init 26 = .ok (.putfield 26, 3) := by decide +kernel
theorem dX7_init_29 : decode cX7_init 29 = .ok (.aload_n 0, 1) := by decide +kernel
theorem dX7_init_30 : decode cX7_init 30 = .ok (.iconst 0, 1) := by decide +kernel
theorem dX7_init_31 : decode cX7_init 31 = .ok (.putfield 29, 3) := by decide +kernel
theorem dX7_init_34 : decode cX7_init 34 = .ok (.aload_n 0, 1) := by decide +kernel
theorem dX7_init_35 : decode cX7_init 35 = .ok (.iconst 0, 1) := by decide +kernel
theorem dX7_init_36 : decode cX7_init 36 = .ok (.putfield 32, 3) := by decide +kernel
theorem dX7_init_39 : decode cX7_init 39 = .ok (.aload_n 0, 1) := by decide +kernel
theorem dX7_init_40 : decode cX7_init 40 = .ok (.new 35, 3) := by decide +kernel
theorem dX7_init_43 : decode cX7_init 43 = .ok (.dup, 1) := by decide +kernel
theorem dX7_init_44 : decode cX7_init 44 = .ok (.invokespecial 37, 3) := by decide +kernel
theorem dX7_init_47 : decode cX7_init 47 = .ok (.putfield 38, 3) := by decide +kernel
theorem dX7_init_50 : decode cX7_init 50 = .ok (.return_, 1) := by decide +kernel
theorem dX7_forget_0 : decode cX7_forget 0 = .ok (.aload_n 0, 1) := by decide +kernel
theorem dX7_forget_1 : decode cX7_forget 1 = .ok (.iconst 0, 1) := by decide +kernel
theorem dX7_forget_2 : decode cX7_forget 2 = .ok (.putfield 26, 3) := by decide +kernel
theorem dX7_forget_5 : decode cX7_forget 5 = .ok (.return_, 1) := by decide +kernel
theorem dX7_isOf_0 : decode cX7_isOf 0 = .ok (.aload_n 0, 1) := by decide +kernel
theorem dX7_isOf_1 : decode cX7_isOf 1 = .ok (.getfield 26, 3) := by decide +kernel
theorem dX7_isOf_4 : decode cX7_isOf 4 = .ok (.iload_n 1, 1) := by decide +kernel
theorem dX7_isOf_5 : decode cX7_isOf 5 = .ok (.if_icmp .ne 23, 3) := by decide +kernel
theorem dX7_isOf_8 : decode cX7_isOf 8 = .ok (.aload_n 0, 1) := by decide +kernel
theorem dX7_isOf_9 : decode cX7_isOf 9 = .ok (.getfield 29, 3) := by decide +kernel
theorem dX7_isOf_12 : decode cX7_isOf 12 = .ok (.iload_n 2, 1) := by decide +kernel
theorem dX7_isOf_13 : decode cX7_isOf 13 = .ok (.if_icmp .ne 15, 3) := by decide +kernel
theorem dX7_isOf_16 : decode cX7_isOf 16 = .ok (.aload_n 0, 1) := by decide +kernel
theorem dX7_isOf_17 : decode cX7_isOf 17 = .ok (.getfield 32, 3) := by decide +kernel
theorem dX7_isOf_20 : decode cX7_isOf 20 = .ok (.iload_n 3, 1) := by decide +kernel
theorem dX7_isOf_21 : decode cX7_isOf 21 = .ok (.if_icmp .ne 7, 3) := by decide +kernel
theorem dX7_isOf_24 : decode cX7_isOf 24 = .ok (.iconst 1, 1) := by decide +kernel
theorem dX7_isOf_25 : decode cX7_isOf 25 = .ok (.goto 4, 3) := by decide +kernel
theorem dX7_isOf_28 : decode cX7_isOf 28 = .ok (.iconst 0, 1) := by decide +kernel
theorem dX7_isOf_29 : decode cX7_isOf 29 = .ok (.ireturn, 1) := by decide +kernel
theorem dX7_seek_0 : decode cX7_seek 0 = .ok (.aload_n 0, 1) := by decide +kernel
theorem dX7_seek_1 : decode cX7_seek 1 = .ok (.iload_n 2, 1) := by decide +kernel
theorem dX7_seek_2 : decode cX7_seek 2 = .ok (.putfield 26, 3) := by decide +kernel
theorem dX7_seek_5 : decode cX7_seek 5 = .ok (.aload_n 0, 1) := by decide +kernel
theorem dX7_seek_6 : decode cX7_seek 6 = .ok (.iload_n 3, 1) := by decide +kernel
theorem dX7_seek_7 : decode cX7_seek 7 = .ok (.putfield 29, 3) := by decide +kernel
theorem dX7_seek_10 : decode cX7_seek 10 = .ok (.aload_n 0, 1) := by decide +kernel
theorem dX7_seek_11 : decode cX7_seek 11 = .ok (.iload 4, 2) := by decide +kernel
theorem dX7_seek_13 : decode cX7_seek 13 = .ok (.putfield 32, 3) := by decide +kernel
theorem dX7_seek_16 : decode cX7_seek 16 = .ok (.aload_n 0, 1) := by decide +kernel
theorem dX7_seek_17 : decode cX7_seek 17 = .ok (.iconst 0, 1) := by decide +kernel
theorem dX7_seek_18 : decode cX7_seek 18 = .ok (.putfield 9, 3) := by decide +kernel
theorem dX7_seek_21 : decode cX7_seek 21 = .ok (.aload_n 0, 1) := by decide +kernel
theorem dX7_seek_22 : decode cX7_seek 22 = .ok (.iconst (-1), 1) := by decide +kernel
theorem dX7_seek_23 : decode cX7_seek 23 = .ok (.putfield 15, 3) := by decide +kernel
theorem dX7_seek_26 : decode cX7_seek 26 = .ok (.aload_n 0, 1) := by decide +kernel
theorem dX7_seek_27 : decode cX7_seek 27 = .ok (.iconst 0, 1) := by decide +kernel
theorem dX7_seek_28 : decode cX7_seek 28 = .ok (.putfield 18, 3) := by decide +kernel
theorem dX7_seek_31 : decode cX7_seek 31 = .ok (.aload_n 0, 1) := by decide +kernel
theorem dX7_seek_32 : decode cX7_seek 32 = .ok (.iconst 0, 1) := by decide +kernel
theorem dX7_seek_33 : decode cX7_seek 33 = .ok (.putfield 23, 3) := by decide +kernel
theorem dX7_seek_36 : decode cX7_seek 36 = .ok (.aload_n 0, 1) := by decide +kernel
theorem dX7_seek_37 : decode cX7_seek 37 = .ok (.aload_n 1, 1) := by decide +kernel
theorem dX7_seek_38 : decode cX7_seek 38 = .ok (.iconst 0, 1) := by decide +kernel
theorem dX7_seek_39 : decode cX7_seek 39 = .ok (.iconst 0, 1) := by decide +kernel
theorem dX7_seek_40 : decode cX7_seek 40 = .ok (.iconst 0, 1) := by decide +kernel
theorem dX7_seek_41 : decode cX7_seek 41 = .ok (.iconst (-1), 1) := by decide +kernel
theorem dX7_seek_42 : decode cX7_seek 42 = .ok (.invokestatic 42, 3) := by decide +kernel
theorem dX7_seek_45 : decode cX7_seek 45 = .ok (.return_, 1) := by decide +kernel
theorem dX7_bestFret_0 : decode cX7_bestFret 0 = .ok (.aload_n 0, 1) := by decide +kernel
theorem dX7_bestFret_1 : decode cX7_bestFret 1 = .ok (.getfield 23, 3) := by decide +kernel
theorem dX7_bestFret_4 : decode cX7_bestFret 4 = .ok (.iload_n 1, 1) := by decide +kernel
theorem dX7_bestFret_5 : decode cX7_bestFret 5 = .ok (.invokestatic 46, 3) := by decide +kernel
theorem dX7_bestFret_8 : decode cX7_bestFret 8 = .ok (.ireturn, 1) := by decide +kernel
theorem dX7_place_0 : decode cX7_place 0 = .ok (.iload_n 2, 1) := by decide +kernel
theorem dX7_place_1 : decode cX7_place 1 = .ok (.bipush 6, 2) := by decide +kernel
theorem dX7_place_3 : decode cX7_place 3 = .ok (.if_icmp .lt 39, 3) := by decide +kernel
theorem dX7_place_6 : decode cX7_place 6 = .ok (.iload 4, 2) := by decide +kernel
theorem dX7_place_8 : decode cX7_place 8 = .ok (.aload_n 0, 1) := by decide +kernel
theorem dX7_place_9 : decode cX7_place 9 = .ok (.getfield 26, 3) := by decide +kernel
theorem dX7_place_12 : decode cX7_place 12 = .ok (.if_icmp .ne 29, 3) := by decide +kernel
theorem dX7_place_15 : decode cX7_place 15 = .ok (.iload 5, 2) := by decide +kernel
theorem dX7_place_17 : decode cX7_place 17 = .ok (.ifCond .lt 24, 3) := by decide +kernel
theorem dX7_place_20 : decode cX7_place 20 = .ok (.iload 5, 2) := by decide +kernel
theorem dX7_place_22 : decode cX7_place 22 = .ok (.bipush 12, 2) := by decide +kernel
theorem dX7_place_24 : decode cX7_place 24 = .ok (.irem, 1) := by decide +kernel
theorem dX7_place_25 : decode cX7_place 25 = .ok (.aload_n 0, 1) := by decide +kernel
theorem dX7_place_26 : decode cX7_place 26 = .ok (.getfield 29, 3) := by decide +kernel
theorem dX7_place_29 : decode cX7_place 29 = .ok (.if_icmp .ne 12, 3) := by decide +kernel
theorem dX7_place_32 : decode cX7_place 32 = .ok (.aload_n 0, 1) := by decide +kernel
theorem dX7_place_33 : decode cX7_place 33 = .ok (.iload_n 3, 1) := by decide +kernel
theorem dX7_place_34 : decode cX7_place 34 = .ok (.aload_n 1, 1) := by decide +kernel
theorem dX7_place_35 : decode cX7_place 35 = .ok (.getfield 50, 3) := by decide +kernel
theorem dX7_place_38 : decode cX7_place 38 = .ok (.invokevirtual 55, 3) := by decide +kernel
theorem dX7_place_41 : decode cX7_place 41 = .ok (.return_, 1) := by decide +kernel
theorem dX7_place_42 : decode cX7_place 42 = .ok (.aload_n 0, 1) := by decide +kernel
theorem dX7_place_43 : decode cX7_place 43 = .ok (.aload_n 1, 1) := by decide +kernel
theorem dX7_place_44 : decode cX7_place 44 = .ok (.iload_n 2, 1) := by decide +kernel
theorem dX7_place_45 : decode cX7_place 45 = .ok (.iconst 1, 1) := by decide +kernel
theorem dX7_place_46 : decode cX7_place 46 = .ok (.iadd, 1) := by decide +kernel
theorem dX7_place_47 : decode cX7_place 47 = .ok (.iload_n 3, 1) := by decide +kernel
theorem dX7_place_48 : decode cX7_place 48 = .ok (.iload 4, 2) := by decide +kernel
theorem dX7_place_50 : decode cX7_place 50 = .ok (.iload 5, 2) := by decide +kernel
theorem dX7_place_52 : decode cX7_place 52 = .ok (.invokestatic 42, 3) := by decide +kernel
theorem dX7_place_55 : decode cX7_place 55 = .ok (.aload_n 1, 1) := by decide +kernel
theorem dX7_place_56 : decode cX7_place 56 = .ok (.iload_n 2, 1) := by decide +kernel
theorem dX7_place_57 : decode cX7_place 57 = .ok (.invokevirtual 59, 3) := by decide +kernel
theorem dX7_place_60 : decode cX7_place 60 = .ok (.ifCond .ne 4, 3) := by decide +kernel
theorem dX7_place_63 : decode cX7_place 63 = .ok (.return_, 1) := by decide +kernel
theorem dX7_place_64 : decode cX7_place 64 = .ok (.aload_n 0, 1) := by decide +kernel
theorem dX7_place_65 : decode cX7_place 65 = .ok (.getfield 32, 3) := by decide +kernel
theorem dX7_place_68 : decode cX7_place 68 = .ok (.iconst 3, 1) := by decide +kernel
theorem dX7_place_69 : decode cX7_place 69 = .ok (.iadd, 1) := by decide +kernel
theorem dX7_place_70 : decode cX7_place 70 = .ok (.aload_n 1, 1) := by decide +kernel
theorem dX7_place_71 : decode cX7_place 71 = .ok (.invokevirtual 63, 3) := by decide +kernel
theorem dX7_place_74 : decode cX7_place 74 = .ok (.invokestatic 67, 3) := by decide +kernel
theorem dX7_place_77 : decode cX7_place 77 = .ok (.istore 6, 2) := by decide +kernel
theorem dX7_place_79 : decode cX7_place 79 = .ok (.iconst 0, 1) := by decide +kernel
theorem dX7_place_80 : decode cX7_place 80 = .ok (.istore 7, 2) := by decide +kernel
theorem dX7_place_82 : decode cX7_place 82 = .ok (.iload 7, 2) := by decide +kernel
theorem dX7_place_84 : decode cX7_place 84 = .ok (.iload 6, 2) := by decide +kernel
theorem dX7_place_86 : decode cX7_place 86 = .ok (.if_icmp .gt 105, 3) := by decide +kernel
theorem dX7_place_89 : decode cX7_place 89 = .ok (.iload 7, 2) := by decide +kernel
theorem dX7_place_91 : decode cX7_place 91 = .ok (.ifCond .le 16, 3) := by decide +kernel
theorem dX7_place_94 : decode cX7_place 94 = .ok (.iload 7, 2) := by decide +kernel
theorem dX7_place_96 : decode cX7_place 96 = .ok (.aload_n 0, 1) := by decide +kernel
theorem dX7_place_97 : decode cX7_place 97 = .ok (.getfield 32, 3) := by decide +kernel
theorem dX7_place_100 : decode cX7_place 100 = .ok (.if_icmp .ge 7, 3) := by decide +kernel
theorem dX7_place_103 : decode cX7_place 103 = .ok (.iconst 1, 1) := by decide +kernel
theorem dX7_place_104 : decode cX7_place 104 = .ok (.goto 4, 3) := by decide +kernel
theorem dX7_place_107 : decode cX7_place 107 = .ok (.iconst 0, 1) := by decide +kernel
theorem dX7_place_108 : decode cX7_place 108 = .ok (.istore 8, 2) := by decide +kernel
theorem dX7_place_110 : decode cX7_place 110 = .ok (.aload_n 1, 1) := by decide +kernel
theorem dX7_place_111 : decode cX7_place 111 = .ok (.iload_n 2, 1) := by decide +kernel
theorem dX7_place_112 : decode cX7_place 112 = .ok (.iload 7, 2) := by decide +kernel
theorem dX7_place_114 : decode cX7_place 114 = .ok (.invokevirtual 72, 3) := by decide +kernel
theorem dX7_place_117 : decode cX7_place 117 = .ok (.istore 9, 2) := by decide +kernel
theorem dX7_place_119 : decode cX7_place 119 = .ok (.iconst 1, 1) := by decide +kernel
theorem dX7_place_120 : decode cX7_place 120 = .ok (.iload 9, 2) := by decide +kernel
theorem dX7_place_122 : decode cX7_place 122 = .ok (.bipush 12, 2) := by decide +kernel
theorem dX7_place_124 : decode cX7_place 124 = .ok (.irem, 1) := by decide +kernel
theorem dX7_place_125 : decode cX7_place 125 = .ok (.ishl, 1) := by decide +kernel
theorem dX7_place_126 : decode cX7_place 126 = .ok (.istore 10, 2) := by decide +kernel
theorem dX7_place_128 : decode cX7_place 128 = .ok (.iload 8, 2) := by decide +kernel
theorem dX7_place_130 : decode cX7_place 130 = .ok (.ifCond .ne 55, 3) := by decide +kernel
theorem dX7_place_133 : decode cX7_place 133 = .ok (.aload_n 0, 1) := by decide +kernel
theorem dX7_place_134 : decode cX7_place 134 = .ok (.getfield 26, 3) := by decide +kernel
theorem dX7_place_137 : decode cX7_place 137 = .ok (.iload 10, 2) := by decide +kernel
theorem dX7_place_139 : decode cX7_place 139 = .ok (.iand, 1) := by decide +kernel
theorem dX7_place_140 : decode cX7_place 140 = .ok (.ifCond .eq 45, 3) := by decide +kernel
theorem dX7_place_143 : decode cX7_place 143 = .ok (.iload 5, 2) := by decide +kernel
theorem dX7_place_145 : decode cX7_place 145 = .ok (.iconst (-1), 1) := by decide +kernel
theorem dX7_place_146 : decode cX7_place 146 = .ok (.if_icmp .ne 8, 3) := by decide +kernel
theorem dX7_place_149 : decode cX7_place 149 = .ok (.iload 9, 2) := by decide +kernel
theorem dX7_place_151 : decode cX7_place 151 = .ok (.goto 10, 3) := by decide +kernel
theorem dX7_place_154 : decode cX7_place 154 = .ok (.iload 5, 2) := by decide +kernel
theorem dX7_place_156 : decode cX7_place 156 = .ok (.iload 9, 2) := by decide +kernel
theorem dX7_place_158 : decode cX7_place 158 = .ok (.invokestatic 67, 3) := by decide +kernel
theorem dX7_place_161 : decode cX7_place 161 = .ok (.istore 11, 2) := by decide +kernel
theorem dX7_place_163 : decode cX7_place 163 = .ok (.aload_n 0, 1) := by decide +kernel
theorem dX7_place_164 : decode cX7_place 164 = .ok (.aload_n 1, 1) := by decide +kernel
theorem dX7_place_165 : decode cX7_place 165 = .ok (.iload_n 2, 1) := by decide +kernel
theorem dX7_place_166 : decode cX7_place 166 = .ok (.iconst 1, 1) := by decide +kernel
theorem dX7_place_167 : decode cX7_place 167 = .ok (.iadd, 1) := by decide +kernel
theorem dX7_place_168 : decode cX7_place 168 = .ok (.iload_n 3, 1) := by decide +kernel
theorem dX7_place_169 : decode cX7_place 169 = .ok (.iload_n 2, 1) := by decide +kernel
theorem dX7_place_170 : decode cX7_place 170 = .ok (.iload 7, 2) := by decide +kernel
theorem dX7_place_172 : decode cX7_place 172 = .ok (.invokestatic 75, 3) := by decide +kernel
theorem dX7_place_175 : decode cX7_place 175 = .ok (.iload 4, 2) := by decide +kernel
theorem dX7_place_177 : decode cX7_place 177 = .ok (.iload 10, 2) := by decide +kernel
theorem dX7_place_179 : decode cX7_place 179 = .ok (.ior, 1) := by decide +kernel
theorem dX7_place_180 : decode cX7_place 180 = .ok (.iload 11, 2) := by decide +kernel
theorem dX7_place_182 : decode cX7_place 182 = .ok (.invokestatic 42, 3) := by decide +kernel
theorem dX7_place_185 : decode cX7_place 185 = .ok (.iinc 7 1, 3) := by decide +kernel
theorem dX7_place_188 : decode cX7_place 188 = .ok (.goto (-106), 3) := by decide +kernel
theorem dX7_place_191 : decode cX7_place 191 = .ok (.return_, 1) := by decide +kernel
theorem dX7_offer_0 : decode cX7_offer 0 = .ok (.aload_n 0, 1) := by decide +kernel
theorem dX7_offer_1 : decode cX7_offer 1 = .ok (.getfield 38, 3) := by decide +kernel
theorem dX7_offer_4 : decode cX7_offer 4 = .ok (.iload_n 1, 1) := by decide +kernel
theorem dX7_offer_5 : decode cX7_offer 5 = .ok (.invokevirtual 79, 3) := by decide +kernel
theorem dX7_offer_8 : decode cX7_offer 8 = .ok (.aload_n 0, 1) := by decide +kernel
theorem dX7_offer_9 : decode cX7_offer 9 = .ok (.getfield 38, 3) := by decide +kernel
theorem dX7_offer_12 : decode cX7_offer 12 = .ok (.iload_n 2, 1) := by decide +kernel
theorem dX7_offer_13 : decode cX7_offer 13 = .ok (.invokevirtual 83, 3) := by decide +kernel
theorem dX7_offer_16 : decode cX7_offer 16 = .ok (.ifCond .ne 4, 3) := by decide +kernel
theorem dX7_offer_19 : decode cX7_offer 19 = .ok (.return_, 1) := by decide +kernel
theorem dX7_offer_20 : decode cX7_offer 20 = .ok (.aload_n 0, 1) := by decide +kernel
theorem dX7_offer_21 : decode cX7_offer 21 = .ok (.dup, 1) := by decide +kernel
theorem dX7_offer_22 : decode cX7_offer 22 = .ok (.getfield 9, 3) := by decide +kernel
theorem dX7_offer_25 : decode cX7_offer 25 = .ok (.iconst 1, 1) := by decide +kernel
theorem dX7_offer_26 : decode cX7_offer 26 = .ok (.iadd, 1) := by decide +kernel
theorem dX7_offer_27 : decode cX7_offer 27 = .ok (.putfield 9, 3) := by decide +kernel
theorem dX7_offer_30 : decode cX7_offer 30 = .ok (.aload_n 0, 1) := by decide +kernel
theorem dX7_offer_31 : decode cX7_offer 31 = .ok (.getfield 15, 3) := by decide +kernel
theorem dX7_offer_34 : decode cX7_offer 34 = .ok (.iconst (-1), 1) := by decide +kernel
theorem dX7_offer_35 : decode cX7_offer 35 = .ok (.if_icmp .eq 18, 3) := by decide +kernel
theorem dX7_offer_38 : decode cX7_offer 38 = .ok (.aload_n 0, 1) := by decide +kernel
theorem dX7_offer_39 : decode cX7_offer 39 = .ok (.iload_n 1, 1) := by decide +kernel
theorem dX7_offer_40 : decode cX7_offer 40 = .ok (.aload_n 0, 1) := by decide +kernel
theorem dX7_offer_41 : decode cX7_offer 41 = .ok (.getfield 38, 3) := by decide +kernel
theorem dX7_offer_44 : decode cX7_offer 44 = .ok (.invokevirtual 86, 3) := by decide +kernel
theorem dX7_offer_47 : decode cX7_offer 47 = .ok (.invokevirtual 89, 3) := by decide +kernel
theorem dX7_offer_50 : decode cX7_offer 50 = .ok (.ifCond .eq 30, 3) := by decide +kernel
theorem dX7_offer_53 : decode cX7_offer 53 = .ok (.aload_n 0, 1) := by decide +kernel
theorem dX7_offer_54 : decode cX7_offer 54 = .ok (.aload_n 0, 1) := by decide +kernel
theorem dX7_offer_55 : decode cX7_offer 55 = .ok (.getfield 38, 3) := by decide +kernel
theorem dX7_offer_58 : decode cX7_offer 58 = .ok (.invokevirtual 86, 3) := by decide +kernel
theorem dX7_offer_61 : decode cX7_offer 61 = .ok (.putfield 15, 3) := by decide +kernel
theorem dX7_offer_64 : decode cX7_offer 64 = .ok (.aload_n 0, 1) := by decide +kernel
theorem dX7_offer_65 : decode cX7_offer 65 = .ok (.aload_n 0, 1) := by decide +kernel
theorem dX7_offer_66 : decode cX7_offer 66 = .ok (.getfield 38, 3) := by decide +kernel
theorem dX7_offer_69 : decode cX7_offer 69 = .ok (.getfield 93, 3) := by decide +kernel
theorem dX7_offer_72 : decode cX7_offer 72 = .ok (.putfield 18, 3) := by decide +kernel
theorem dX7_offer_75 : decode cX7_offer 75 = .ok (.aload_n 0, 1) := by decide +kernel
theorem dX7_offer_76 : decode cX7_offer 76 = .ok (.iload_n 1, 1) := by decide +kernel
theorem dX7_offer_77 : decode cX7_offer 77 = .ok (.putfield 23, 3) := by decide +kernel
theorem dX7_offer_80 : decode cX7_offer 80 = .ok (.return_, 1) := by decide +kernel
theorem dX7_isBetter_0 : decode cX7_isBetter 0 = .ok (.iload_n 2, 1) := by decide +kernel
theorem dX7_isBetter_1 : decode cX7_isBetter 1 = .ok (.aload_n 0, 1) := by decide +kernel
theorem dX7_isBetter_2 : decode cX7_isBetter 2 = .ok (.getfield 15, 3) := by decide +kernel
theorem dX7_isBetter_5 : decode cX7_isBetter 5 = .ok (.if_icmp .eq 17, 3) := by decide +kernel
theorem dX7_isBetter_8 : decode cX7_isBetter 8 = .ok (.iload_n 2, 1) := by decide +kernel
theorem dX7_isBetter_9 : decode cX7_isBetter 9 = .ok (.aload_n 0, 1) := by decide +kernel
theorem dX7_isBetter_10 : decode cX7_isBetter 10 = .ok (.getfield 15, 3) := by decide +kernel
theorem dX7_isBetter_13 : decode cX7_isBetter 13 = .ok (.if_icmp .ge 7, 3) := by decide +kernel
theorem dX7_isBetter_16 : decode cX7_isBetter 16 = .ok (.iconst 1, 1) := by decide +kernel
theorem dX7_isBetter_17 : decode cX7_isBetter 17 = .ok (.goto 4, 3) := by decide +kernel
theorem dX7_isBetter_20 : decode cX7_isBetter 20 = .ok (.iconst 0, 1) := by decide +kernel
theorem dX7_isBetter_21 : decode cX7_isBetter 21 = .ok (.ireturn, 1) := by decide +kernel
theorem dX7_isBetter_22 : decode cX7_isBetter 22 = .ok (.aload_n 0, 1) := by decide +kernel
theorem dX7_isBetter_23 : decode cX7_isBetter 23 = .ok (.getfield 38, 3) := by decide +kernel
theorem dX7_isBetter_26 : decode cX7_isBetter 26 = .ok (.getfield 93, 3) := by decide +kernel
theorem dX7_isBetter_29 : decode cX7_isBetter 29 = .ok (.aload_n 0, 1) := by decide +kernel
theorem dX7_isBetter_30 : decode cX7_isBetter 30 = .ok (.getfield 18, 3) := by decide +kernel
theorem dX7_isBetter_33 : decode cX7_isBetter 33 = .ok (.if_icmp .eq 23, 3) := by decide +kernel
theorem dX7_isBetter_36 : decode cX7_isBetter 36 = .ok (.aload_n 0, 1) := by decide +kernel
theorem dX7_isBetter_37 : decode cX7_isBetter 37 = .ok (.getfield 38, 3) := by decide +kernel
theorem dX7_isBetter_40 : decode cX7_isBetter 40 = .ok (.getfield 93, 3) := by decide +kernel
theorem dX7_isBetter_43 : decode cX7_isBetter 43 = .ok (.aload_n 0, 1) := by decide +kernel
theorem dX7_isBetter_44 : decode cX7_isBetter 44 = .ok (.getfield 18, 3) := by decide +kernel
theorem dX7_isBetter_47 : decode cX7_isBetter 47 = .ok (.if_icmp .le 7, 3) := by decide +kernel
theorem dX7_isBetter_50 : decode cX7_isBetter 50 = .ok (.iconst 1, 1) := by decide +kernel
theorem dX7_isBetter_51 : decode cX7_isBetter 51 = .ok (.goto 4, 3) := by decide +kernel
theorem dX7_isBetter_54 : decode cX7_isBetter 54 = .ok (.iconst 0, 1) := by decide +kernel
theorem dX7_isBetter_55 : decode cX7_isBetter 55 = .ok (.ireturn, 1) := by decide +kernel
theorem dX7_isBetter_56 : decode cX7_isBetter 56 = .ok (.iload_n 1, 1) := by decide +kernel
theorem dX7_isBetter_57 : decode cX7_isBetter 57 = .ok (.aload_n 0, 1) := by decide +kernel
theorem dX7_isBetter_58 : decode cX7_isBetter 58 = .ok (.getfield 23, 3) := by decide +kernel
theorem dX7_isBetter_61 : decode cX7_isBetter 61 = .ok (.if_icmp .ge 7, 3) := by decide +kernel
theorem dX7_isBetter_64 : decode cX7_isBetter 64 = .ok (.iconst 1, 1) := by decide +kernel
theorem dX7_isBetter_65 : decode cX7_isBetter 65 = .ok (.goto 4, 3) := by decide +kernel
theorem dX7_isBetter_68 : decode cX7_isBetter 68 = .ok (.iconst 0, 1) := by decide +kernel
theorem dX7_isBetter_69 : decode cX7_isBetter 69 = .ok (.ireturn, 1) := by decide +kernel
theorem dX8_init_0 : decode cX8_init 0 = .ok (.aload_n 0, 1) := by decide +kernel
theorem dX8_init_1 : decode cX8_init 1 = .ok (.invokespecial 1, 3) := by decide +kernel
theorem dX8_init_4 : decode cX8_init 4 = .ok (.aload_n 0, 1) := by decide +kernel
theorem dX8_init_5 : decode cX8_init 5 = .ok (.new 7, 3) := by decide +kernel
theorem dX8_init_8 : decode cX8_init 8 = .ok (.dup, 1) := by decide +kernel
theorem dX8_init_9 : decode cX8_init 9 = .ok (.invokespecial 9, 3) := by decide +kernel
theorem dX8_init_12 : decode cX8_init 12 = .ok (.putfield 10, 3) := by decide +kernel
theorem dX8_init_15 : decode cX8_init 15 = .ok (.aload_n 0, 1) := by decide +kernel
theorem dX8_init_16 : decode cX8_init 16 = .ok (.new 7, 3) := by decide +kernel
theorem dX8_init_19 : decode cX8_init 19 = .ok (.dup, 1) := by decide +kernel
theorem dX8_init_20 : decode cX8_init 20 = .ok (.invokespecial 9, 3) := by decide +kernel
theorem dX8_init_23 : decode cX8_init 23 = .ok (.putfield 16, 3) := by decide +kernel
theorem dX8_init_26 : decode cX8_init 26 = .ok (.aload_n 0, 1) := by decide +kernel
theorem dX8_init_27 : decode cX8_init 27 = .ok (.new 19, 3) := by decide +kernel
theorem dX8_init_30 : decode cX8_init 30 = .ok (.dup, 1) := by decide +kernel
theorem dX8_init_31 : decode cX8_init 31 = .ok (.invokespecial 21, 3) := by decide +kernel
theorem dX8_init_34 : decode cX8_init 34 = .ok (.putfield 22, 3) := by decide +kernel
theorem dX8_init_37 : decode cX8_init 37 = .ok (.aload_n 0, 1) := by decide +kernel
theorem dX8_init_38 : decode cX8_init 38 = .ok (.new 26, 3) := by decide +kernel
theorem dX8_init_41 : decode cX8_init 41 = .ok (.dup, 1) := by decide +kernel
theorem dX8_init_42 : decode cX8_init 42 = .ok (.invokespecial 28, 3) := by decide +kernel
theorem dX8_init_45 : decode cX8_init 45 = .ok (.putfield 29, 3) := by decide +kernel
theorem dX8_init_48 : decode cX8_init 48 = .ok (.aload_n 0, 1) := by decide +kernel
theorem dX8_init_49 : decode cX8_init 49 = .ok (.new 26, 3) := by decide +kernel
theorem dX8_init_52 : decode cX8_init 52 = .ok (.dup, 1) := by decide +kernel
theorem dX8_init_53 : decode cX8_init 53 = .ok (.invokespecial 28, 3) := by decide +kernel
theorem dX8_init_56 : decode cX8_init 56 = .ok (.putfield 33, 3) := by decide +kernel
theorem dX8_init_59 : decode cX8_init 59 = .ok (.aload_n 0, 1) := by decide +kernel
theorem dX8_init_60 : decode cX8_init 60 = .ok (.new 36, 3) := by decide +kernel
theorem dX8_init_63 : decode cX8_init 63 = .ok (.dup, 1) := by decide +kernel
theorem dX8_init_64 : decode cX8_init 64 = .ok (.invokespecial 38, 3) := by decide +kernel
theorem dX8_init_67 : decode cX8_init 67 = .ok (.putfield 39, 3) := by decide +kernel
theorem dX8_init_70 : decode cX8_init 70 = .ok (.aload_n 0, 1) := by decide +kernel
theorem dX8_init_71 : decode cX8_init 71 = .ok (.new 43, 3) := by decide +kernel
theorem dX8_init_74 : decode cX8_init 74 = .ok (.dup, 1) := by decide +kernel
theorem dX8_init_75 : decode cX8_init 75 = .ok (.invokespecial 45, 3) := by decide +kernel
theorem dX8_init_78 : decode cX8_init 78 = .ok (.putfield 46, 3) := by decide +kernel
theorem dX8_init_81 : decode cX8_init 81 = .ok (.aload_n 0, 1) := by decide +kernel
theorem dX8_init_82 : decode cX8_init 82 = .ok (.iconst 1, 1) := by decide +kernel
theorem dX8_init_83 : decode cX8_init 83 = .ok (.putfield 50, 3) := by decide +kernel
theorem dX8_init_86 : decode cX8_init 86 = .ok (.return_, 1) := by decide +kernel
theorem dX8_string_0 : decode cX8_string 0 = .ok (.iload_n 1, 1) := by decide +kernel
theorem dX8_string_1 : decode cX8_string 1 = .ok (.invokestatic 54, 3) := by decide +kernel
theorem dX8_string_4 : decode cX8_string 4 = .ok (.aload_n 0, 1) := by decide +kernel
theorem dX8_string_5 : decode cX8_string 5 = .ok (.getfield 10, 3) := by decide +kernel
theorem dX8_string_8 : decode cX8_string 8 = .ok (.getfield 58, 3) := by decide +kernel
theorem dX8_string_11 : decode cX8_string 11 = .ok (.bipush 6, 2) := by decide +kernel
theorem dX8_string_13 : decode cX8_string 13 = .ok (.if_icmp .lt 13, 3) := by decide +kernel
theorem dX8_string_16 : decode cX8_string 16 = .ok (.new 62, 3) := by decide +kernel
theorem dX8_string_19 : decode cX8_string 19 = .ok (.dup, 1) := by decide +kernel
theorem dX8_string_20 : decode cX8_string 20 = .ok (.ldc 64, 2) := by decide +kernel
theorem dX8_string_22 : decode cX8_string 22 = .ok (.invokespecial 66, 3) := by decide +kernel
theorem dX8_string_25 : decode cX8_string 25 = .ok (.athrow, 1) := by decide +kernel
theorem dX8_string_26 : decode cX8_string 26 = .ok (.aload_n 0, 1) := by decide +kernel
theorem dX8_string_27 : decode cX8_string 27 = .ok (.getfield 10, 3) := by decide +kernel
theorem dX8_string_30 : decode cX8_string 30 = .ok (.iload_n 1, 1) := by decide +kernel
theorem dX8_string_31 : decode cX8_string 31 = .ok (.invokevirtual 69, 3) := by decide +kernel
theorem dX8_string_34 : decode cX8_string 34 = .ok (.istore_n 2, 1) := by decide +kernel
theorem dX8_string_35 : decode cX8_string 35 = .ok (.aload_n 0, 1) := by decide +kernel
theorem dX8_string_36 : decode cX8_string 36 = .ok (.invokevirtual 73, 3) := by decide +kernel
theorem dX8_string_39 : decode cX8_string 39 = .ok (.iload_n 2, 1) := by decide +kernel
theorem dX8_string_40 : decode cX8_string 40 = .ok (.ireturn, 1) := by decide +kernel
theorem dX8_tune_0 : decode cX8_tune 0 = .ok (.aload_n 0, 1) := by decide +kernel
theorem dX8_tune_1 : decode cX8_tune 1 = .ok (.iload_n 1, 1) := by decide +kernel
theorem dX8_tune_2 : decode cX8_tune 2 = .ok (.invokevirtual 76, 3) := by decide +kernel
theorem dX8_tune_5 : decode cX8_tune 5 = .ok (.iload_n 2, 1) := by decide +kernel
theorem dX8_tune_6 : decode cX8_tune 6 = .ok (.invokestatic 54, 3) := by decide +kernel
theorem dX8_tune_9 : decode cX8_tune 9 = .ok (.aload_n 0, 1) := by decide +kernel
theorem dX8_tune_10 : decode cX8_tune 10 = .ok (.getfield 10, 3) := by decide +kernel
theorem dX8_tune_13 : decode cX8_tune 13 = .ok (.getfield 79, 3) := by decide +kernel
theorem dX8_tune_16 : decode cX8_tune 16 = .ok (.iload_n 1, 1) := by decide +kernel
theorem dX8_tune_17 : decode cX8_tune 17 = .ok (.iaload, 1) := by decide +kernel
theorem dX8_tune_18 : decode cX8_tune 18 = .ok (.istore_n 3, 1) := by decide +kernel
theorem dX8_tune_19 : decode cX8_tune 19 = .ok (.aload_n 0, 1) := by decide +kernel
theorem dX8_tune_20 : decode cX8_tune 20 = .ok (.getfield 10, 3) := by decide +kernel
theorem dX8_tune_23 : decode cX8_tune 23 = .ok (.getfield 79, 3) := by decide +kernel
theorem dX8_tune_26 : decode cX8_tune 26 = .ok (.iload_n 1, 1) := by decide +kernel
theorem dX8_tune_27 : decode cX8_tune 27 = .ok (.iload_n 2, 1) := by decide +kernel
theorem dX8_tune_28 : decode cX8_tune 28 = .ok (.iastore, 1) := by decide +kernel
theorem dX8_tune_29 : decode cX8_tune 29 = .ok (.aload_n 0, 1) := by decide +kernel
theorem dX8_tune_30 : decode cX8_tune 30 = .ok (.invokevirtual 73, 3) := by decide +kernel
theorem dX8_tune_33 : decode cX8_tune 33 = .ok (.iload_n 3, 1) := by decide +kernel
theorem dX8_tune_34 : decode cX8_tune 34 = .ok (.ireturn, 1) := by decide +kernel
theorem dX8_slacken_0 : decode cX8_slacken 0 = .ok (.aload_n 0, 1) := by decide +kernel
theorem dX8_slacken_1 : decode cX8_slacken 1 = .ok (.iload_n 1, 1) := by decide +kernel
theorem dX8_slacken_2 : decode cX8_slacken 2 = .ok (.invokevirtual 76, 3) := by decide +kernel
theorem dX8_slacken_5 : decode cX8_slacken 5 = .ok (.aload_n 0, 1) := by decide +kernel
theorem dX8_slacken_6 : decode cX8_slacken 6 = .ok (.getfield 10, 3) := by decide +kernel
theorem dX8_slacken_9 : decode cX8_slacken 9 = .ok (.getfield 83, 3) := by decide +kernel
theorem dX8_slacken_12 : decode cX8_slacken 12 = .ok (.iload_n 1, 1) := by decide +kernel
theorem dX8_slacken_13 : decode cX8_slacken 13 = .ok (.iload_n 2, 1) := by decide +kernel
theorem dX8_slacken_14 : decode cX8_slacken 14 = .ok (.bastore, 1) := by decide +kernel
theorem dX8_slacken_15 : decode cX8_slacken 15 = .ok (.aload_n 0, 1) := by decide +kernel
theorem dX8_slacken_16 : decode cX8_slacken 16 = .ok (.invokevirtual 73, 3) := by decide +kernel
theorem dX8_slacken_19 : decode cX8_slacken 19 = .ok (.aload_n 0, 1) := by decide +kernel
theorem dX8_slacken_20 : decode cX8_slacken 20 = .ok (.getfield 10, 3) := by decide +kernel
theorem dX8_slacken_23 : decode cX8_slacken 23 = .ok (.getfield 58, 3) := by decide +kernel
theorem dX8_slacken_26 : decode cX8_slacken 26 = .ok (.aload_n 0, 1) := by decide +kernel
theorem dX8_slacken_27 : decode cX8_slacken 27 = .ok (.getfield 10, 3) := by decide +kernel
theorem dX8_slacken_30 : decode cX8_slacken 30 = .ok (.invokevirtual 87, 3) := by decide +kernel
theorem dX8_slacken_33 : decode cX8_slacken 33 = .ok (.isub, 1) := by decide +kernel
theorem dX8_slacken_34 : decode cX8_slacken 34 = .ok (.ireturn, 1) := by decide +kernel
theorem dX8_capo_0 : decode cX8_capo 0 = .ok (.iload_n 1, 1) := by decide +kernel
theorem dX8_capo_1 : decode cX8_capo 1 = .ok (.invokestatic 91, 3) := by decide +kernel
theorem dX8_capo_4 : decode cX8_capo 4 = .ok (.aload_n 0, 1) := by decide +kernel
theorem dX8_capo_5 : decode cX8_capo 5 = .ok (.getfield 10, 3) := by decide +kernel
theorem dX8_capo_8 : decode cX8_capo 8 = .ok (.getfield 94, 3) := by decide +kernel
theorem dX8_capo_11 : decode cX8_capo 11 = .ok (.istore_n 2, 1) := by decide +kernel
theorem dX8_capo_12 : decode cX8_capo 12 = .ok (.aload_n 0, 1) := by decide +kernel
theorem dX8_capo_13 : decode cX8_capo 13 = .ok (.getfield 10, 3) := by decide +kernel
theorem dX8_capo_16 : decode cX8_capo 16 = .ok (.iload_n 1, 1) := by decide +kernel
theorem dX8_capo_17 : decode cX8_capo 17 = .ok (.putfield 94, 3) := by decide +kernel
theorem dX8_capo_20 : decode cX8_capo 20 = .ok (.aload_n 0, 1) := by decide +kernel
theorem dX8_capo_21 : decode cX8_capo 21 = .ok (.invokevirtual 73, 3) := by decide +kernel
theorem dX8_capo_24 : decode cX8_capo 24 = .ok (.iload_n 2, 1) := by decide +kernel
theorem dX8_capo_25 : decode cX8_capo 25 = .ok (.ireturn, 1) := by decide +kernel
theorem dX8_reach_0 : decode cX8_reach 0 = .ok (.iload_n 1, 1) := by decide +kernel
theorem dX8_reach_1 : decode cX8_reach 1 = .ok (.invokestatic 97, 3) := by decide +kernel
theorem dX8_reach_4 : decode cX8_reach 4 = .ok (.aload_n 0, 1) := by decide +kernel
theorem dX8_reach_5 : decode cX8_reach 5 = .ok (.getfield 10, 3) := by decide +kernel
theorem dX8_reach_8 : decode cX8_reach 8 = .ok (.getfield 100, 3) := by decide +kernel
theorem dX8_reach_11 : decode cX8_reach 11 = .ok (.istore_n 2, 1) := by decide +kernel
theorem dX8_reach_12 : decode cX8_reach 12 = .ok (.aload_n 0, 1) := by decide +kernel
theorem dX8_reach_13 : decode cX8_reach 13 = .ok (.getfield 10, 3) := by decide +kernel
theorem dX8_reach_16 : decode cX8_reach 16 = .ok (.iload_n 1, 1) := by decide +kernel
theorem dX8_reach_17 : decode cX8_reach 17 = .ok (.putfield 100, 3) := by decide +kernel
theorem dX8_reach_20 : decode cX8_reach 20 = .ok (.aload_n 0, 1) := by decide +kernel
theorem dX8_reach_21 : decode cX8_reach 21 = .ok (.invokevirtual 73, 3) := by decide +kernel
theorem dX8_reach_24 : decode cX8_reach 24 = .ok (.iload_n 2, 1) := by decide +kernel
theorem dX8_reach_25 : decode cX8_reach 25 = .ok (.ireturn, 1) := by decide +kernel
theorem dX8_chord_0 : decode cX8_chord 0 = .ok (.iload_n 1, 1) := by decide +kernel
theorem dX8_chord_1 : decode cX8_chord 1 = .ok (.invokestatic 103, 3) := by decide +kernel
theorem dX8_chord_4 : decode cX8_chord 4 = .ok (.ifCond .eq 25, 3) := by decide +kernel
theorem dX8_chord_7 : decode cX8_chord 7 = .ok (.iload_n 2, 1) := by decide +kernel
theorem dX8_chord_8 : decode cX8_chord 8 = .ok (.invokestatic 116, 3) := by decide +kernel
theorem dX8_chord_11 : decode cX8_chord 11 = .ok (.ifCond .eq 18, 3) := by decide +kernel
theorem dX8_chord_14 : decode cX8_chord 14 = .ok (.iload_n 3, 1) := by decide +kernel
theorem dX8_chord_15 : decode cX8_chord 15 = .ok (.invokestatic 116, 3) := by decide +kernel
theorem dX8_chord_18 : decode cX8_chord 18 = .ok (.ifCond .eq 11, 3) := by decide +kernel
theorem dX8_chord_21 : decode cX8_chord 21 = .ok (.iload 4, 2) := by decide +kernel
theorem dX8_chord_23 : decode cX8_chord 23 = .ok (.invokestatic 116, 3) := by decide +kernel
theorem dX8_chord_26 : decode cX8_chord 26 = .ok (.ifCond .ne 13, 3) := by decide +kernel
theorem dX8_chord_29 : decode cX8_chord 29 = .ok (.new 107, 3) := by decide +kernel
theorem dX8_chord_32 : decode cX8_chord 32 = .ok (.dup, 1) := by decide +kernel
theorem dX8_chord_33 : decode cX8_chord 33 = .ok (.ldc 109, 2) := by decide +kernel
theorem dX8_chord_35 : decode cX8_chord 35 = .ok (.invokespecial 111, 3) := by decide +kernel
theorem dX8_chord_38 : decode cX8_chord 38 = .ok (.athrow, 1) := by decide +kernel
theorem dX8_chord_39 : decode cX8_chord 39 = .ok (.iload_n 1, 1) := by decide +kernel
theorem dX8_chord_40 : decode cX8_chord 40 = .ok (.iload_n 2, 1) := by decide +kernel
theorem dX8_chord_41 : decode cX8_chord 41 = .ok (.iload_n 3, 1) := by decide +kernel
theorem dX8_chord_42 : decode cX8_chord 42 = .ok (.iload 4, 2) := by decide +kernel
theorem dX8_chord_44 : decode cX8_chord 44 = .ok (.invokestatic 119, 3) := by decide +kernel
theorem dX8_chord_47 : decode cX8_chord 47 = .ok (.ifCond .eq 13, 3) := by decide +kernel
theorem dX8_chord_50 : decode cX8_chord 50 = .ok (.new 107, 3) := by decide +kernel
theorem dX8_chord_53 : decode cX8_chord 53 = .ok (.dup, 1) := by decide +kernel
theorem dX8_chord_54 : decode cX8_chord 54 = .ok (.ldc 123, 2) := by decide +kernel
theorem dX8_chord_56 : decode cX8_chord 56 = .ok (.invokespecial 111, 3) := by decide +kernel
theorem dX8_chord_59 : decode cX8_chord 59 = .ok (.athrow, 1) := by decide +kernel
theorem dX8_chord_60 : decode cX8_chord 60 = .ok (.iload 5, 2) := by decide +kernel
theorem dX8_chord_62 : decode cX8_chord 62 = .ok (.iconst 1, 1) := by decide +kernel
theorem dX8_chord_63 : decode cX8_chord 63 = .ok (.if_icmp .lt 10, 3) := by decide +kernel
theorem dX8_chord_66 : decode cX8_chord 66 = .ok (.iload 5, 2) := by decide +kernel
theorem dX8_chord_68 : decode cX8_chord 68 = .ok (.bipush 8, 2) := by decide +kernel
theorem dX8_chord_70 : decode cX8_chord 70 = .ok (.if_icmp .le 13, 3) := by decide +kernel
theorem dX8_chord_73 : decode cX8_chord 73 = .ok (.new 107, 3) := by decide +kernel
theorem dX8_chord_76 : decode cX8_chord 76 = .ok (.dup, 1) := by decide +kernel
theorem dX8_chord_77 : decode cX8_chord 77 = .ok (.ldc 125, 2) := by decide +kernel
theorem dX8_chord_79 : decode cX8_chord 79 = .ok (.invokespecial 111, 3) := by decide +kernel
theorem dX8_chord_82 : decode cX8_chord 82 = .ok (.athrow, 1) := by decide +kernel
theorem dX8_chord_83 : decode cX8_chord 83 = .ok (.aload_n 0, 1) := by decide +kernel
theorem dX8_chord_84 : decode cX8_chord 84 = .ok (.getfield 22, 3) := by decide +kernel
theorem dX8_chord_87 : decode cX8_chord 87 = .ok (.getfield 127, 3) := by decide +kernel
theorem dX8_chord_90 : decode cX8_chord 90 = .ok (.bipush 12, 2) := by decide +kernel
theorem dX8_chord_92 : decode cX8_chord 92 = .ok (.if_icmp .lt 13, 3) := by decide +kernel
theorem dX8_chord_95 : decode cX8_chord 95 = .ok (.new 62, 3) := by decide +kernel
theorem dX8_chord_98 : decode cX8_chord 98 = .ok (.dup, 1) := by decide +kernel
theorem dX8_chord_99 : decode cX8_chord 99 = .ok (.ldc 128, 2) := by decide +kernel
theorem dX8_chord_101 : decode cX8_chord 101 = .ok (.invokespecial 66, 3) := by decide +kernel
theorem dX8_chord_104 : decode cX8_chord 104 = .ok (.athrow, 1) := by decide +kernel
theorem dX8_chord_105 : decode cX8_chord 105 = .ok (.aload_n 0, 1) := by decide +kernel
theorem dX8_chord_106 : decode cX8_chord 106 = .ok (.getfield 22, 3) := by decide +kernel
theorem dX8_chord_109 : decode cX8_chord 109 = .ok (.iload 5, 2) := by decide +kernel
theorem dX8_chord_111 : decode cX8_chord 111 = .ok (.invokevirtual 130, 3) := by decide +kernel
theorem dX8_chord_114 : decode cX8_chord 114 = .ok (.astore 6, 2) := by decide +kernel
theorem dX8_chord_116 : decode cX8_chord 116 = .ok (.aload 6, 2) := by decide +kernel
theorem dX8_chord_118 : decode cX8_chord 118 = .ok (.iload_n 1, 1) := by decide +kernel
theorem dX8_chord_119 : decode cX8_chord 119 = .ok (.invokevirtual 134, 3) := by decide +kernel
theorem dX8_chord_122 : decode cX8_chord 122 = .ok (.aload 6, 2) := by decide +kernel
theorem dX8_chord_124 : decode cX8_chord 124 = .ok (.iload_n 2, 1) := by decide +kernel
theorem dX8_chord_125 : decode cX8_chord 125 = .ok (.invokevirtual 134, 3) := by decide +kernel
theorem dX8_chord_128 : decode cX8_chord 128 = .ok (.aload 6, 2) := by decide +kernel
theorem dX8_chord_130 : decode cX8_chord 130 = .ok (.iload_n 3, 1) := by decide +kernel
theorem dX8_chord_131 : decode cX8_chord 131 = .ok (.invokevirtual 134, 3) := by decide +kernel
theorem dX8_chord_134 : decode cX8_chord 134 = .ok (.aload 6, 2) := by decide +kernel
theorem dX8_chord_136 : decode cX8_chord 136 = .ok (.iload 4, 2) := by decide +kernel
theorem dX8_chord_138 : decode cX8_chord 138 = .ok (.invokevirtual 134, 3) := by decide +kernel
theorem dX8_chord_141 : decode cX8_chord 141 = .ok (.aload_n 0, 1) := by decide +kernel
theorem dX8_chord_142 : decode cX8_chord 142 = .ok (.iconst 1, 1) := by decide +kernel
theorem dX8_chord_143 : decode cX8_chord 143 = .ok (.putfield 50, 3) := by decide +kernel
theorem dX8_chord_146 : decode cX8_chord 146 = .ok (.aload_n 0, 1) := by decide +kernel
theorem dX8_chord_147 : decode cX8_chord 147 = .ok (.getfield 22, 3) := by decide +kernel
theorem dX8_chord_150 : decode cX8_chord 150 = .ok (.getfield 127, 3) := by decide +kernel
theorem dX8_chord_153 : decode cX8_chord 153 = .ok (.iconst 1, 1) := by decide +kernel
theorem dX8_chord_154 : decode cX8_chord 154 = .ok (.isub, 1) := by decide +kernel
theorem dX8_chord_155 : decode cX8_chord 155 = .ok (.ireturn, 1) := by decide +kernel
theorem dX8_fix_0 : decode cX8_fix 0 = .ok (.aload_n 0, 1) := by decide +kernel
theorem dX8_fix_1 : decode cX8_fix 1 = .ok (.iload_n 1, 1) := by decide +kernel
theorem dX8_fix_2 : decode cX8_fix 2 = .ok (.invokevirtual 139, 3) := by decide +kernel
theorem dX8_fix_5 : decode cX8_fix 5 = .ok (.iconst (-1), 1) := by decide +kernel
theorem dX8_fix_6 : decode cX8_fix 6 = .ok (.istore_n 3, 1) := by decide +kernel
theorem dX8_fix_7 : decode cX8_fix 7 = .ok (.iconst 0, 1) := by decide +kernel
theorem dX8_fix_8 : decode cX8_fix 8 = .ok (.istore 4, 2) := by decide +kernel
theorem dX8_fix_10 : decode cX8_fix 10 = .ok (.iload_n 2, 1) := by decide +kernel
theorem dX8_fix_11 : decode cX8_fix 11 = .ok (.iconst (-1), 1) := by decide +kernel
theorem dX8_fix_12 : decode cX8_fix 12 = .ok (.if_icmp .eq 28, 3) := by decide +kernel
theorem dX8_fix_15 : decode cX8_fix 15 = .ok (.aload_n 0, 1) := by decide +kernel
theorem dX8_fix_16 : decode cX8_fix 16 = .ok (.iload_n 1, 1) := by decide +kernel
theorem dX8_fix_17 : decode cX8_fix 17 = .ok (.iload_n 2, 1) := by decide +kernel
theorem dX8_fix_18 : decode cX8_fix 18 = .ok (.invokevirtual 145, 3) := by decide +kernel
theorem dX8_fix_21 : decode cX8_fix 21 = .ok (.astore 5, 2) := by decide +kernel
theorem dX8_fix_23 : decode cX8_fix 23 = .ok (.aload 5, 2) := by decide +kernel
theorem dX8_fix_25 : decode cX8_fix 25 = .ok (.getfield 149, 3) := by decide +kernel
theorem dX8_fix_28 : decode cX8_fix 28 = .ok (.iload_n 2, 1) := by decide +kernel
theorem dX8_fix_29 : decode cX8_fix 29 = .ok (.iaload, 1) := by decide +kernel
theorem dX8_fix_30 : decode cX8_fix 30 = .ok (.istore_n 3, 1) := by decide +kernel
theorem dX8_fix_31 : decode cX8_fix 31 = .ok (.aload 5, 2) := by decide +kernel
theorem dX8_fix_33 : decode cX8_fix 33 = .ok (.getfield 154, 3) := by decide +kernel
theorem dX8_fix_36 : decode cX8_fix 36 = .ok (.iload_n 2, 1) := by decide +kernel
theorem dX8_fix_37 : decode cX8_fix 37 = .ok (.iaload, 1) := by decide +kernel
theorem dX8_fix_38 : decode cX8_fix 38 = .ok (.istore 4, 2) := by decide +kernel
theorem dX8_fix_40 : decode cX8_fix 40 = .ok (.aload_n 0, 1) := by decide +kernel
theorem dX8_fix_41 : decode cX8_fix 41 = .ok (.getfield 22, 3) := by decide +kernel
theorem dX8_fix_44 : decode cX8_fix 44 = .ok (.getfield 157, 3) := by decide +kernel
theorem dX8_fix_47 : decode cX8_fix 47 = .ok (.iload_n 1, 1) := by decide +kernel
theorem dX8_fix_48 : decode cX8_fix 48 = .ok (.aaload, 1) := by decide +kernel
theorem dX8_fix_49 : decode cX8_fix 49 = .ok (.iload_n 3, 1) := by decide +kernel
theorem dX8_fix_50 : decode cX8_fix 50 = .ok (.putfield 161, 3) := by decide +kernel
theorem dX8_fix_53 : decode cX8_fix 53 = .ok (.aload_n 0, 1) := by decide +kernel
theorem dX8_fix_54 : decode cX8_fix 54 = .ok (.iconst 1, 1) := by decide +kernel
theorem dX8_fix_55 : decode cX8_fix 55 = .ok (.putfield 50, 3) := by decide +kernel
theorem dX8_fix_58 : decode cX8_fix 58 = .ok (.iload 4, 2) := by decide +kernel
theorem dX8_fix_60 : decode cX8_fix 60 = .ok (.ireturn, 1) := by decide +kernel
theorem dX8_ofChord_0 : decode cX8_ofChord 0 = .ok (.aload_n 0, 1) := by decide +kernel
theorem dX8_ofChord_1 : decode cX8_ofChord 1 = .ok (.iload_n 1, 1) := by decide +kernel
theorem dX8_ofChord_2 : decode cX8_ofChord 2 = .ok (.invokevirtual 139, 3) := by decide +kernel
theorem dX8_ofChord_5 : decode cX8_ofChord 5 = .ok (.iload_n 2, 1) := by decide +kernel
theorem dX8_ofChord_6 : decode cX8_ofChord 6 = .ok (.iconst 5, 1) := by decide +kernel
theorem dX8_ofChord_7 : decode cX8_ofChord 7 = .ok (.invokestatic 164, 3) := by decide +kernel
theorem dX8_ofChord_10 : decode cX8_ofChord 10 = .ok (.aload_n 0, 1) := by decide +kernel
theorem dX8_ofChord_11 : decode cX8_ofChord 11 = .ok (.invokevirtual 168, 3) := by decide +kernel
theorem dX8_ofChord_14 : decode cX8_ofChord 14 = .ok (.aload_n 0, 1) := by decide +kernel
theorem dX8_ofChord_15 : decode cX8_ofChord 15 = .ok (.iload_n 1, 1) := by decide +kernel
theorem dX8_ofChord_16 : decode cX8_ofChord 16 = .ok (.iload_n 2, 1) := by decide +kernel
theorem dX8_ofChord_17 : decode cX8_ofChord 17 = .ok (.invokevirtual 171, 3) := by decide +kernel
theorem dX8_ofChord_20 : decode cX8_ofChord 20 = .ok (.ireturn, 1) := by decide +kernel
theorem dX8_ofGrip_0 : decode cX8_ofGrip 0 = .ok (.aload_n 0, 1) := by decide +kernel
theorem dX8_ofGrip_1 : decode cX8_ofGrip 1 = .ok (.iload_n 1, 1) := by decide +kernel
theorem dX8_ofGrip_2 : decode cX8_ofGrip 2 = .ok (.iload_n 2, 1) := by decide +kernel
theorem dX8_ofGrip_3 : decode cX8_ofGrip 3 = .ok (.invokevirtual 145, 3) := by decide +kernel
theorem dX8_ofGrip_6 : decode cX8_ofGrip 6 = .ok (.astore 4, 2) := by decide +kernel
theorem dX8_ofGrip_8 : decode cX8_ofGrip 8 = .ok (.iload_n 3, 1) := by decide +kernel
theorem dX8_ofGrip_9 : decode cX8_ofGrip 9 = .ok (.iconst 5, 1) := by decide +kernel
theorem dX8_ofGrip_10 : decode cX8_ofGrip 10 = .ok (.invokestatic 164, 3) := by decide +kernel
theorem dX8_ofGrip_13 : decode cX8_ofGrip 13 = .ok (.aload_n 0, 1) := by decide +kernel
theorem dX8_ofGrip_14 : decode cX8_ofGrip 14 = .ok (.getfield 46, 3) := by decide +kernel
theorem dX8_ofGrip_17 : decode cX8_ofGrip 17 = .ok (.aload 4, 2) := by decide +kernel
theorem dX8_ofGrip_19 : decode cX8_ofGrip 19 = .ok (.getfield 149, 3) := by decide +kernel
theorem dX8_ofGrip_22 : decode cX8_ofGrip 22 = .ok (.iload_n 2, 1) := by decide +kernel
theorem dX8_ofGrip_23 : decode cX8_ofGrip 23 = .ok (.iaload, 1) := by decide +kernel
theorem dX8_ofGrip_24 : decode cX8_ofGrip 24 = .ok (.invokevirtual 174, 3) := by decide +kernel
theorem dX8_ofGrip_27 : decode cX8_ofGrip 27 = .ok (.aload_n 0, 1) := by decide +kernel
theorem dX8_ofGrip_28 : decode cX8_ofGrip 28 = .ok (.iload_n 3, 1) := by decide +kernel
theorem dX8_ofGrip_29 : decode cX8_ofGrip 29 = .ok (.invokevirtual 177, 3) := by decide +kernel
theorem dX8_ofGrip_32 : decode cX8_ofGrip 32 = .ok (.ireturn, 1) := by decide +kernel
theorem dX8_fret_0 : decode cX8_fret 0 = .ok (.aload_n 0, 1) := by decide +kernel
theorem dX8_fret_1 : decode cX8_fret 1 = .ok (.iload_n 1, 1) := by decide +kernel
theorem dX8_fret_2 : decode cX8_fret 2 = .ok (.iload_n 2, 1) := by decide +kernel
theorem dX8_fret_3 : decode cX8_fret 3 = .ok (.invokevirtual 145, 3) := by decide +kernel
theorem dX8_fret_6 : decode cX8_fret 6 = .ok (.astore 4, 2) := by decide +kernel
theorem dX8_fret_8 : decode cX8_fret 8 = .ok (.aload_n 0, 1) := by decide +kernel
theorem dX8_fret_9 : decode cX8_fret 9 = .ok (.iload_n 3, 1) := by decide +kernel
theorem dX8_fret_10 : decode cX8_fret 10 = .ok (.invokevirtual 76, 3) := by decide +kernel
theorem dX8_fret_13 : decode cX8_fret 13 = .ok (.aload 4, 2) := by decide +kernel
theorem dX8_fret_15 : decode cX8_fret 15 = .ok (.getfield 149, 3) := by decide +kernel
theorem dX8_fret_18 : decode cX8_fret 18 = .ok (.iload_n 2, 1) := by decide +kernel
theorem dX8_fret_19 : decode cX8_fret 19 = .ok (.iaload, 1) := by decide +kernel
theorem dX8_fret_20 : decode cX8_fret 20 = .ok (.iload_n 3, 1) := by decide +kernel
theorem dX8_fret_21 : decode cX8_fret 21 = .ok (.invokestatic 180, 3) := by decide +kernel
theorem dX8_fret_24 : decode cX8_fret 24 = .ok (.ireturn, 1) := by decide +kernel
theorem dX8_finger_0 : decode cX8_finger 0 = .ok (.aload_n 0, 1) := by decide +kernel
theorem dX8_finger_1 : decode cX8_finger 1 = .ok (.iload_n 1, 1) := by decide +kernel
theorem dX8_finger_2 : decode cX8_finger 2 = .ok (.iload_n 2, 1) := by decide +kernel
theorem dX8_finger_3 : decode cX8_finger 3 = .ok (.invokevirtual 145, 3) := by decide +kernel
theorem dX8_finger_6 : decode cX8_finger 6 = .ok (.astore 4, 2) := by decide +kernel
theorem dX8_finger_8 : decode cX8_finger 8 = .ok (.aload_n 0, 1) := by decide +kernel
theorem dX8_finger_9 : decode cX8_finger 9 = .ok (.iload_n 3, 1) := by decide +kernel
theorem dX8_finger_10 : decode cX8_finger 10 = .ok (.invokevirtual 76, 3) := by decide +kernel
theorem dX8_finger_13 : decode cX8_finger 13 = .ok (.aload_n 0, 1) := by decide +kernel
theorem dX8_finger_14 : decode cX8_finger 14 = .ok (.getfield 46, 3) := by decide +kernel
theorem dX8_finger_17 : decode cX8_finger 17 = .ok (.aload 4, 2) := by decide +kernel
theorem dX8_finger_19 : decode cX8_finger 19 = .ok (.getfield 149, 3) := by decide +kernel
theorem dX8_finger_22 : decode cX8_finger 22 = .ok (.iload_n 2, 1) := by decide +kernel
theorem dX8_finger_23 : decode cX8_finger 23 = .ok (.iaload, 1) := by decide +kernel
theorem dX8_finger_24 : decode cX8_finger 24 = .ok (.invokevirtual 174, 3) := by decide +kernel
theorem dX8_finger_27 : decode cX8_finger 27 = .ok (.aload_n 0, 1) := by decide +kernel
theorem dX8_finger_28 : decode cX8_finger 28 = .ok (.getfield 46, 3) := by decide +kernel
theorem dX8_finger_31 : decode cX8_finger 31 = .ok (.iload_n 3, 1) := by decide +kernel
theorem dX8_finger_32 : decode cX8_finger 32 = .ok (.invokevirtual 185, 3) := by decide +kernel
theorem dX8_finger_35 : decode cX8_finger 35 = .ok (.ireturn, 1) := by decide +kernel
theorem dX8_move_0 : decode cX8_move 0 = .ok (.aload_n 0, 1) := by decide +kernel
theorem dX8_move_1 : decode cX8_move 1 = .ok (.iload_n 1, 1) := by decide +kernel
theorem dX8_move_2 : decode cX8_move 2 = .ok (.iload_n 2, 1) := by decide +kernel
theorem dX8_move_3 : decode cX8_move 3 = .ok (.invokevirtual 145, 3) := by decide +kernel
theorem dX8_move_6 : decode cX8_move 6 = .ok (.pop, 1) := by decide +kernel
theorem dX8_move_7 : decode cX8_move 7 = .ok (.aload_n 0, 1) := by decide +kernel
theorem dX8_move_8 : decode cX8_move 8 = .ok (.iload_n 1, 1) := by decide +kernel
theorem dX8_move_9 : decode cX8_move 9 = .ok (.iconst 1, 1) := by decide +kernel
theorem dX8_move_10 : decode cX8_move 10 = .ok (.iadd, 1) := by decide +kernel
theorem dX8_move_11 : decode cX8_move 11 = .ok (.iload_n 3, 1) := by decide +kernel
theorem dX8_move_12 : decode cX8_move 12 = .ok (.invokevirtual 145, 3) := by decide +kernel
theorem dX8_move_15 : decode cX8_move 15 = .ok (.pop, 1) := by decide +kernel
theorem dX8_move_16 : decode cX8_move 16 = .ok (.aload_n 0, 1) := by decide +kernel
theorem dX8_move_17 : decode cX8_move 17 = .ok (.getfield 29, 3) := by decide +kernel
theorem dX8_move_20 : decode cX8_move 20 = .ok (.iload_n 1, 1) := by decide +kernel
theorem dX8_move_21 : decode cX8_move 21 = .ok (.iload_n 2, 1) := by decide +kernel
theorem dX8_move_22 : decode cX8_move 22 = .ok (.iload_n 3, 1) := by decide +kernel
theorem dX8_move_23 : decode cX8_move 23 = .ok (.invokevirtual 188, 3) := by decide +kernel
theorem dX8_move_26 : decode cX8_move 26 = .ok (.ireturn, 1) := by decide +kernel
theorem dX8_plan_0 : decode cX8_plan 0 = .ok (.aload_n 0, 1) := by decide +kernel
theorem dX8_plan_1 : decode cX8_plan 1 = .ok (.iload_n 1, 1) := by decide +kernel
theorem dX8_plan_2 : decode cX8_plan 2 = .ok (.invokevirtual 139, 3) := by decide +kernel
theorem dX8_plan_5 : decode cX8_plan 5 = .ok (.aload_n 0, 1) := by decide +kernel
theorem dX8_plan_6 : decode cX8_plan 6 = .ok (.invokevirtual 168, 3) := by decide +kernel
theorem dX8_plan_9 : decode cX8_plan 9 = .ok (.aload_n 0, 1) := by decide +kernel
theorem dX8_plan_10 : decode cX8_plan 10 = .ok (.getfield 29, 3) := by decide +kernel
theorem dX8_plan_13 : decode cX8_plan 13 = .ok (.getfield 192, 3) := by decide +kernel
theorem dX8_plan_16 : decode cX8_plan 16 = .ok (.iload_n 1, 1) := by decide +kernel
theorem dX8_plan_17 : decode cX8_plan 17 = .ok (.iaload, 1) := by decide +kernel
theorem dX8_plan_18 : decode cX8_plan 18 = .ok (.ireturn, 1) := by decide +kernel
theorem dX8_total_0 : decode cX8_total 0 = .ok (.aload_n 0, 1) := by decide +kernel
theorem dX8_total_1 : decode cX8_total 1 = .ok (.invokevirtual 168, 3) := by decide +kernel
theorem dX8_total_4 : decode cX8_total 4 = .ok (.aload_n 0, 1) := by decide +kernel
theorem dX8_total_5 : decode cX8_total 5 = .ok (.getfield 29, 3) := by decide +kernel
theorem dX8_total_8 : decode cX8_total 8 = .ok (.getfield 195, 3) := by decide +kernel
theorem dX8_total_11 : decode cX8_total 11 = .ok (.ireturn, 1) := by decide +kernel
theorem dX8_many_0 : decode cX8_many 0 = .ok (.iload_n 1, 1) := by decide +kernel
theorem dX8_many_1 : decode cX8_many 1 = .ok (.bipush 7, 2) := by decide +kernel
theorem dX8_many_3 : decode cX8_many 3 = .ok (.invokestatic 164, 3) := by decide +kernel
theorem dX8_many_6 : decode cX8_many 6 = .ok (.aload_n 0, 1) := by decide +kernel
theorem dX8_many_7 : decode cX8_many 7 = .ok (.invokevirtual 168, 3) := by decide +kernel
theorem dX8_many_10 : decode cX8_many 10 = .ok (.aload_n 0, 1) := by decide +kernel
theorem dX8_many_11 : decode cX8_many 11 = .ok (.iload_n 1, 1) := by decide +kernel
theorem dX8_many_12 : decode cX8_many 12 = .ok (.invokevirtual 201, 3) := by decide +kernel
theorem dX8_many_15 : decode cX8_many 15 = .ok (.ireturn, 1) := by decide +kernel
theorem dX8_shapes_0 : decode cX8_shapes 0 = .ok (.iload_n 1, 1) := by decide +kernel
theorem dX8_shapes_1 : decode cX8_shapes 1 = .ok (.iload_n 2, 1) := by decide +kernel
theorem dX8_shapes_2 : decode cX8_shapes 2 = .ok (.iload_n 3, 1) := by decide +kernel
theorem dX8_shapes_3 : decode cX8_shapes 3 = .ok (.invokestatic 207, 3) := by decide +kernel
theorem dX8_shapes_6 : decode cX8_shapes 6 = .ok (.aload_n 0, 1) := by decide +kernel
theorem dX8_shapes_7 : decode cX8_shapes 7 = .ok (.iload_n 1, 1) := by decide +kernel
theorem dX8_shapes_8 : decode cX8_shapes 8 = .ok (.iload_n 2, 1) := by decide +kernel
theorem dX8_shapes_9 : decode cX8_shapes 9 = .ok (.iload_n 3, 1) := by decide +kernel
theorem dX8_shapes_10 : decode cX8_shapes 10 = .ok (.invokevirtual 211, 3) := by decide +kernel
theorem dX8_shapes_13 : decode cX8_shapes 13 = .ok (.getfield 215, 3) := by decide +kernel
theorem dX8_shapes_16 : decode cX8_shapes 16 = .ok (.ireturn, 1) := by decide +kernel
theorem dX8_shapeEffort_0 : decode cX8_shapeEffort 0 = .ok (.iload_n 1, 1) := by decide +kernel
theorem dX8_shapeEffort_1 : decode cX8_shapeEffort 1 = .ok (.iload_n 2, 1) := by decide +kernel
theorem dX8_shapeEffort_2 : decode cX8_shapeEffort 2 = .ok (.iload_n 3, 1) := by decide +kernel
theorem dX8_shapeEffort_3 : decode cX8_shapeEffort 3 = .ok (.invokestatic 207, 3) := by decide +kernel
theorem dX8_shapeEffort_6 : decode cX8_shapeEffort 6 = .ok (.aload_n 0, 1) := by decide +kernel
theorem dX8_shapeEffort_7 : decode cX8_shapeEffort 7 = .ok (.iload_n 1, 1) := by decide +kernel
theorem dX8_shapeEffort_8 : decode cX8_shapeEffort 8 = .ok (.iload_n 2, 1) := by decide +kernel
theorem dX8_shapeEffort_9 : decode cX8_shapeEffort 9 = .ok (.iload_n 3, 1) := by decide +kernel
theorem dX8_shapeEffort_10 : decode cX8_shapeEffort 10 = .ok (.invokevirtual 211, 3) := by decide +kernel
theorem dX8_shapeEffort_13 : decode cX8_shapeEffort 13 = .ok (.getfield 216, 3) := by decide +kernel
theorem dX8_shapeEffort_16 : decode cX8_shapeEffort 16 = .ok (.ireturn, 1) := by decide +kernel
theorem dX8_shapeFret_0 : decode cX8_shapeFret 0 = .ok (.aload_n 0, 1) := by decide +kernel
theorem dX8_shapeFret_1 : decode cX8_shapeFret 1 = .ok (.iload 4, 2) := by decide +kernel
theorem dX8_shapeFret_3 : decode cX8_shapeFret 3 = .ok (.invokevirtual 76, 3) := by decide +kernel
theorem dX8_shapeFret_6 : decode cX8_shapeFret 6 = .ok (.iload_n 1, 1) := by decide +kernel
theorem dX8_shapeFret_7 : decode cX8_shapeFret 7 = .ok (.iload_n 2, 1) := by decide +kernel
theorem dX8_shapeFret_8 : decode cX8_shapeFret 8 = .ok (.iload_n 3, 1) := by decide +kernel
theorem dX8_shapeFret_9 : decode cX8_shapeFret 9 = .ok (.invokestatic 207, 3) := by decide +kernel
theorem dX8_shapeFret_12 : decode cX8_shapeFret 12 = .ok (.aload_n 0, 1) := by decide +kernel
theorem dX8_shapeFret_13 : decode cX8_shapeFret 13 = .ok (.iload_n 1, 1) := by decide +kernel
theorem dX8_shapeFret_14 : decode cX8_shapeFret 14 = .ok (.iload_n 2, 1) := by decide +kernel
theorem dX8_shapeFret_15 : decode cX8_shapeFret 15 = .ok (.iload_n 3, 1) := by decide +kernel
theorem dX8_shapeFret_16 : decode cX8_shapeFret 16 = .ok (.invokevirtual 211, 3) := by decide +kernel
theorem dX8_shapeFret_19 : decode cX8_shapeFret 19 = .ok (.iload 4, 2) := by decide +kernel
theorem dX8_shapeFret_21 : decode cX8_shapeFret 21 = .ok (.invokevirtual 219, 3) := by decide +kernel
theorem dX8_shapeFret_24 : decode cX8_shapeFret 24 = .ok (.ireturn, 1) := by decide +kernel
theorem dX8_totalWith_0 : decode cX8_totalWith 0 = .ok (.iload_n 1, 1) := by decide +kernel
theorem dX8_totalWith_1 : decode cX8_totalWith 1 = .ok (.invokestatic 91, 3) := by decide +kernel
theorem dX8_totalWith_4 : decode cX8_totalWith 4 = .ok (.iload_n 2, 1) := by decide +kernel
theorem dX8_totalWith_5 : decode cX8_totalWith 5 = .ok (.invokestatic 97, 3) := by decide +kernel
theorem dX8_totalWith_8 : decode cX8_totalWith 8 = .ok (.aload_n 0, 1) := by decide +kernel
theorem dX8_totalWith_9 : decode cX8_totalWith 9 = .ok (.iload_n 1, 1) := by decide +kernel
theorem dX8_totalWith_10 : decode cX8_totalWith 10 = .ok (.iload_n 2, 1) := by decide +kernel
theorem dX8_totalWith_11 : decode cX8_totalWith 11 = .ok (.invokevirtual 222, 3) := by decide +kernel
theorem dX8_totalWith_14 : decode cX8_totalWith 14 = .ok (.ireturn, 1) := by decide +kernel
theorem dX8_bestCapo_0 : decode cX8_bestCapo 0 = .ok (.iconst (-1), 1) := by decide +kernel
theorem dX8_bestCapo_1 : decode cX8_bestCapo 1 = .ok (.istore_n 1, 1) := by decide +kernel
theorem dX8_bestCapo_2 : decode cX8_bestCapo 2 = .ok (.iconst (-1), 1) := by decide +kernel
theorem dX8_bestCapo_3 : decode cX8_bestCapo 3 = .ok (.istore_n 2, 1) := by decide +kernel
theorem dX8_bestCapo_4 : decode cX8_bestCapo 4 = .ok (.iconst 0, 1) := by decide +kernel
theorem dX8_bestCapo_5 : decode cX8_bestCapo 5 = .ok (.istore_n 3, 1) := by decide +kernel
theorem dX8_bestCapo_6 : decode cX8_bestCapo 6 = .ok (.iload_n 3, 1) := by decide +kernel
theorem dX8_bestCapo_7 : decode cX8_bestCapo 7 = .ok (.bipush 7, 2) := by decide +kernel
theorem dX8_bestCapo_9 : decode cX8_bestCapo 9 = .ok (.if_icmp .gt 45, 3) := by decide +kernel
theorem dX8_bestCapo_12 : decode cX8_bestCapo 12 = .ok (.aload_n 0, 1) := by decide +kernel
theorem dX8_bestCapo_13 : decode cX8_bestCapo 13 = .ok (.iload_n 3, 1) := by decide +kernel
theorem dX8_bestCapo_14 : decode cX8_bestCapo 14 = .ok (.aload_n 0, 1) := by decide +kernel
theorem dX8_bestCapo_15 : decode cX8_bestCapo 15 = .ok (.getfield 10, 3) := by decide +kernel
theorem dX8_bestCapo_18 : decode cX8_bestCapo 18 = .ok (.getfield 100, 3) := by decide +kernel
theorem dX8_bestCapo_21 : decode cX8_bestCapo 21 = .ok (.invokevirtual 222, 3) := by decide +kernel
theorem dX8_bestCapo_24 : decode cX8_bestCapo 24 = .ok (.istore 4, 2) := by decide +kernel
theorem dX8_bestCapo_26 : decode cX8_bestCapo 26 = .ok (.iload 4, 2) := by decide +kernel
theorem dX8_bestCapo_28 : decode cX8_bestCapo 28 = .ok (.iconst (-1), 1) := by decide +kernel
theorem dX8_bestCapo_29 : decode cX8_bestCapo 29 = .ok (.if_icmp .eq 19, 3) := by decide +kernel
theorem dX8_bestCapo_32 : decode cX8_bestCapo 32 = .ok (.iload_n 1, 1) := by decide +kernel
theorem dX8_bestCapo_33 : decode cX8_bestCapo 33 = .ok (.iconst (-1), 1) := by decide +kernel
theorem dX8_bestCapo_34 : decode cX8_bestCapo 34 = .ok (.if_icmp .eq 9, 3) := by decide +kernel
theorem dX8_bestCapo_37 : decode cX8_bestCapo 37 = .ok (.iload 4, 2) := by decide +kernel
theorem dX8_bestCapo_39 : decode cX8_bestCapo 39 = .ok (.iload_n 2, 1) := by decide +kernel
theorem dX8_bestCapo_40 : decode cX8_bestCapo 40 = .ok (.if_icmp .ge 8, 3) := by decide +kernel
theorem dX8_bestCapo_43 : decode cX8_bestCapo 43 = .ok (.iload_n 3, 1) := by decide +kernel
theorem dX8_bestCapo_44 : decode cX8_bestCapo 44 = .ok (.istore_n 1, 1) := by decide +kernel
theorem dX8_bestCapo_45 : decode cX8_bestCapo 45 = .ok (.iload 4, 2) := by decide +kernel
theorem dX8_bestCapo_47 : decode cX8_bestCapo 47 = .ok (.istore_n 2, 1) := by decide +kernel
theorem dX8_bestCapo_48 : decode cX8_bestCapo 48 = .ok (.iinc 3 1, 3) := by decide +kernel
theorem dX8_bestCapo_51 : decode cX8_bestCapo 51 = .ok (.goto (-45), 3) := by decide +kernel
theorem dX8_bestCapo_54 : decode cX8_bestCapo 54 = .ok (.iload_n 1, 1) := by decide +kernel
theorem dX8_bestCapo_55 : decode cX8_bestCapo 55 = .ok (.ireturn, 1) := by decide +kernel
theorem dX8_totalWithout_0 : decode cX8_totalWithout 0 = .ok (.aload_n 0, 1) := by decide +kernel
theorem dX8_totalWithout_1 : decode cX8_totalWithout 1 = .ok (.iload_n 1, 1) := by decide +kernel
theorem dX8_totalWithout_2 : decode cX8_totalWithout 2 = .ok (.invokevirtual 76, 3) := by decide +kernel
theorem dX8_totalWithout_5 : decode cX8_totalWithout 5 = .ok (.aload_n 0, 1) := by decide +kernel
theorem dX8_totalWithout_6 : decode cX8_totalWithout 6 = .ok (.getfield 16, 3) := by decide +kernel
theorem dX8_totalWithout_9 : decode cX8_totalWithout 9 = .ok (.aload_n 0, 1) := by decide +kernel
theorem dX8_totalWithout_10 : decode cX8_totalWithout 10 = .ok (.getfield 10, 3) := by decide +kernel
theorem dX8_totalWithout_13 : decode cX8_totalWithout 13 = .ok (.invokevirtual 225, 3) := by decide +kernel
theorem dX8_totalWithout_16 : decode cX8_totalWithout 16 = .ok (.aload_n 0, 1) := by decide +kernel
theorem dX8_totalWithout_17 : decode cX8_totalWithout 17 = .ok (.getfield 16, 3) := by decide +kernel
theorem dX8_totalWithout_20 : decode cX8_totalWithout 20 = .ok (.getfield 83, 3) := by decide +kernel
theorem dX8_totalWithout_23 : decode cX8_totalWithout 23 = .ok (.iload_n 1, 1) := by decide +kernel
theorem dX8_totalWithout_24 : decode cX8_totalWithout 24 = .ok (.iconst 1, 1) := by decide +kernel
theorem dX8_totalWithout_25 : decode cX8_totalWithout 25 = .ok (.bastore, 1) := by decide +kernel
theorem dX8_totalWithout_26 : decode cX8_totalWithout 26 = .ok (.aload_n 0, 1) := by decide +kernel
theorem dX8_totalWithout_27 : decode cX8_totalWithout 27 = .ok (.getfield 33, 3) := by decide +kernel
theorem dX8_totalWithout_30 : decode cX8_totalWithout 30 = .ok (.aload_n 0, 1) := by decide +kernel
theorem dX8_totalWithout_31 : decode cX8_totalWithout 31 = .ok (.getfield 16, 3) := by decide +kernel
theorem dX8_totalWithout_34 : decode cX8_totalWithout 34 = .ok (.aload_n 0, 1) := by decide +kernel
theorem dX8_totalWithout_35 : decode cX8_totalWithout 35 = .ok (.getfield 22, 3) := by decide +kernel
theorem dX8_totalWithout_38 : decode cX8_totalWithout 38 = .ok (.invokevirtual 229, 3) := by decide +kernel
theorem dX8_totalWithout_41 : decode cX8_totalWithout 41 = .ok (.aload_n 0, 1) := by decide +kernel
theorem dX8_totalWithout_42 : decode cX8_totalWithout 42 = .ok (.getfield 33, 3) := by decide +kernel
theorem dX8_totalWithout_45 : decode cX8_totalWithout 45 = .ok (.invokevirtual 233, 3) := by decide +kernel
theorem dX8_totalWithout_48 : decode cX8_totalWithout 48 = .ok (.aload_n 0, 1) := by decide +kernel
theorem dX8_totalWithout_49 : decode cX8_totalWithout 49 = .ok (.getfield 33, 3) := by decide +kernel
theorem dX8_totalWithout_52 : decode cX8_totalWithout 52 = .ok (.getfield 195, 3) := by decide +kernel
theorem dX8_totalWithout_55 : decode cX8_totalWithout 55 = .ok (.ireturn, 1) := by decide +kernel
theorem dX8_totalFixed_0 : decode cX8_totalFixed 0 = .ok (.aload_n 0, 1) := by decide +kernel
theorem dX8_totalFixed_1 : decode cX8_totalFixed 1 = .ok (.iload_n 1, 1) := by decide +kernel
theorem dX8_totalFixed_2 : decode cX8_totalFixed 2 = .ok (.iload_n 2, 1) := by decide +kernel
theorem dX8_totalFixed_3 : decode cX8_totalFixed 3 = .ok (.invokevirtual 145, 3) := by decide +kernel
theorem dX8_totalFixed_6 : decode cX8_totalFixed 6 = .ok (.pop, 1) := by decide +kernel
theorem dX8_totalFixed_7 : decode cX8_totalFixed 7 = .ok (.aload_n 0, 1) := by decide +kernel
theorem dX8_totalFixed_8 : decode cX8_totalFixed 8 = .ok (.getfield 33, 3) := by decide +kernel
theorem dX8_totalFixed_11 : decode cX8_totalFixed 11 = .ok (.aload_n 0, 1) := by decide +kernel
theorem dX8_totalFixed_12 : decode cX8_totalFixed 12 = .ok (.getfield 10, 3) := by decide +kernel
theorem dX8_totalFixed_15 : decode cX8_totalFixed 15 = .ok (.aload_n 0, 1) := by decide +kernel
theorem dX8_totalFixed_16 : decode cX8_totalFixed 16 = .ok (.getfield 22, 3) := by decide +kernel
theorem dX8_totalFixed_19 : decode cX8_totalFixed 19 = .ok (.invokevirtual 229, 3) := by decide +kernel
theorem dX8_totalFixed_22 : decode cX8_totalFixed 22 = .ok (.aload_n 0, 1) := by decide +kernel
theorem dX8_totalFixed_23 : decode cX8_totalFixed 23 = .ok (.getfield 33, 3) := by decide +kernel
theorem dX8_totalFixed_26 : decode cX8_totalFixed 26 = .ok (.getfield 236, 3) := by decide +kernel
theorem dX8_totalFixed_29 : decode cX8_totalFixed 29 = .ok (.iload_n 1, 1) := by decide +kernel
theorem dX8_totalFixed_30 : decode cX8_totalFixed 30 = .ok (.iload_n 2, 1) := by decide +kernel
theorem dX8_totalFixed_31 : decode cX8_totalFixed 31 = .ok (.iastore, 1) := by decide +kernel
theorem dX8_totalFixed_32 : decode cX8_totalFixed 32 = .ok (.aload_n 0, 1) := by decide +kernel
theorem dX8_totalFixed_33 : decode cX8_totalFixed 33 = .ok (.getfield 33, 3) := by decide +kernel
theorem dX8_totalFixed_36 : decode cX8_totalFixed 36 = .ok (.invokevirtual 233, 3) := by decide +kernel
theorem dX8_totalFixed_39 : decode cX8_totalFixed 39 = .ok (.aload_n 0, 1) := by decide +kernel
theorem dX8_totalFixed_40 : decode cX8_totalFixed 40 = .ok (.getfield 33, 3) := by decide +kernel
theorem dX8_totalFixed_43 : decode cX8_totalFixed 43 = .ok (.getfield 195, 3) := by decide +kernel
theorem dX8_totalFixed_46 : decode cX8_totalFixed 46 = .ok (.ireturn, 1) := by decide +kernel
theorem dX8_digest_0 : decode cX8_digest 0 = .ok (.aload_n 0, 1) := by decide +kernel
theorem dX8_digest_1 : decode cX8_digest 1 = .ok (.invokevirtual 168, 3) := by decide +kernel
theorem dX8_digest_4 : decode cX8_digest 4 = .ok (.ldc2_w 239, 3) := by decide +kernel
theorem dX8_digest_7 : decode cX8_digest 7 = .ok (.lstore_n 1, 1) := by decide +kernel
theorem dX8_digest_8 : decode cX8_digest 8 = .ok (.iconst 0, 1) := by decide +kernel
theorem dX8_digest_9 : decode cX8_digest 9 = .ok (.istore_n 3, 1) := by decide +kernel
theorem dX8_digest_10 : decode cX8_digest 10 = .ok (.iload_n 3, 1) := by decide +kernel
theorem dX8_digest_11 : decode cX8_digest 11 = .ok (.bipush 7, 2) := by decide +kernel
theorem dX8_digest_13 : decode cX8_digest 13 = .ok (.if_icmp .gt 19, 3) := by decide +kernel
theorem dX8_digest_16 : decode cX8_digest 16 = .ok (.lload_n 1, 1) := by decide +kernel
theorem dX8_digest_17 : decode cX8_digest 17 = .ok (.aload_n 0, 1) := by decide +kernel
theorem dX8_digest_18 : decode cX8_digest 18 = .ok (.iload_n 3, 1) := by decide +kernel
theorem dX8_digest_19 : decode cX8_digest 19 = .ok (.invokevirtual 201, 3) := by decide +kernel
theorem dX8_digest_22 : decode cX8_digest 22 = .ok (.invokestatic 241, 3) := by decide +kernel
theorem dX8_digest_25 : decode cX8_digest 25 = .ok (.lstore_n 1, 1) := by decide +kernel
theorem dX8_digest_26 : decode cX8_digest 26 = .ok (.iinc 3 1, 3) := by decide +kernel
theorem dX8_digest_29 : decode cX8_digest 29 = .ok (.goto (-19), 3) := by decide +kernel
theorem dX8_digest_32 : decode cX8_digest 32 = .ok (.iconst 0, 1) := by decide +kernel
theorem dX8_digest_33 : decode cX8_digest 33 = .ok (.istore_n 3, 1) := by decide +kernel
theorem dX8_digest_34 : decode cX8_digest 34 = .ok (.iload_n 3, 1) := by decide +kernel
theorem dX8_digest_35 : decode cX8_digest 35 = .ok (.aload_n 0, 1) := by decide +kernel
theorem dX8_digest_36 : decode cX8_digest 36 = .ok (.getfield 22, 3) := by decide +kernel
theorem dX8_digest_39 : decode cX8_digest 39 = .ok (.getfield 127, 3) := by decide +kernel
theorem dX8_digest_42 : decode cX8_digest 42 = .ok (.if_icmp .ge 16, 3) := by decide +kernel
theorem dX8_digest_45 : decode cX8_digest 45 = .ok (.aload_n 0, 1) := by decide +kernel
theorem dX8_digest_46 : decode cX8_digest 46 = .ok (.lload_n 1, 1) := by decide +kernel
theorem dX8_digest_47 : decode cX8_digest 47 = .ok (.iload_n 3, 1) := by decide +kernel
theorem dX8_digest_48 : decode cX8_digest 48 = .ok (.invokevirtual 245, 3) := by decide +kernel
theorem dX8_digest_51 : decode cX8_digest 51 = .ok (.lstore_n 1, 1) := by decide +kernel
theorem dX8_digest_52 : decode cX8_digest 52 = .ok (.iinc 3 1, 3) := by decide +kernel
theorem dX8_digest_55 : decode cX8_digest 55 = .ok (.goto (-21), 3) := by decide +kernel
theorem dX8_digest_58 : decode cX8_digest 58 = .ok (.lload_n 1, 1) := by decide +kernel
theorem dX8_digest_59 : decode cX8_digest 59 = .ok (.aload_n 0, 1) := by decide +kernel
theorem dX8_digest_60 : decode cX8_digest 60 = .ok (.getfield 29, 3) := by decide +kernel
theorem dX8_digest_63 : decode cX8_digest 63 = .ok (.getfield 195, 3) := by decide +kernel
theorem dX8_digest_66 : decode cX8_digest 66 = .ok (.invokestatic 241, 3) := by decide +kernel
theorem dX8_digest_69 : decode cX8_digest 69 = .ok (.lstore_n 1, 1) := by decide +kernel
theorem dX8_digest_70 : decode cX8_digest 70 = .ok (.lload_n 1, 1) := by decide +kernel
theorem dX8_digest_71 : decode cX8_digest 71 = .ok (.aload_n 0, 1) := by decide +kernel
theorem dX8_digest_72 : decode cX8_digest 72 = .ok (.getfield 29, 3) := by decide +kernel
theorem dX8_digest_75 : decode cX8_digest 75 = .ok (.invokevirtual 198, 3) := by decide +kernel
theorem dX8_digest_78 : decode cX8_digest 78 = .ok (.invokestatic 241, 3) := by decide +kernel
theorem dX8_digest_81 : decode cX8_digest 81 = .ok (.lstore_n 1, 1) := by decide +kernel
theorem dX8_digest_82 : decode cX8_digest 82 = .ok (.lload_n 1, 1) := by decide +kernel
theorem dX8_digest_83 : decode cX8_digest 83 = .ok (.aload_n 0, 1) := by decide +kernel
theorem dX8_digest_84 : decode cX8_digest 84 = .ok (.invokevirtual 248, 3) := by decide +kernel
theorem dX8_digest_87 : decode cX8_digest 87 = .ok (.invokestatic 241, 3) := by decide +kernel
theorem dX8_digest_90 : decode cX8_digest 90 = .ok (.lstore_n 1, 1) := by decide +kernel
theorem dX8_digest_91 : decode cX8_digest 91 = .ok (.iconst 0, 1) := by decide +kernel
theorem dX8_digest_92 : decode cX8_digest 92 = .ok (.istore_n 3, 1) := by decide +kernel
theorem dX8_digest_93 : decode cX8_digest 93 = .ok (.iload_n 3, 1) := by decide +kernel
theorem dX8_digest_94 : decode cX8_digest 94 = .ok (.aload_n 0, 1) := by decide +kernel
theorem dX8_digest_95 : decode cX8_digest 95 = .ok (.getfield 10, 3) := by decide +kernel
theorem dX8_digest_98 : decode cX8_digest 98 = .ok (.getfield 58, 3) := by decide +kernel
theorem dX8_digest_101 : decode cX8_digest 101 = .ok (.if_icmp .ge 19, 3) := by decide +kernel
theorem dX8_digest_104 : decode cX8_digest 104 = .ok (.lload_n 1, 1) := by decide +kernel
theorem dX8_digest_105 : decode cX8_digest 105 = .ok (.aload_n 0, 1) := by decide +kernel
theorem dX8_digest_106 : decode cX8_digest 106 = .ok (.iload_n 3, 1) := by decide +kernel
theorem dX8_digest_107 : decode cX8_digest 107 = .ok (.invokevirtual 251, 3) := by decide +kernel
theorem dX8_digest_110 : decode cX8_digest 110 = .ok (.invokestatic 241, 3) := by decide +kernel
theorem dX8_digest_113 : decode cX8_digest 113 = .ok (.lstore_n 1, 1) := by decide +kernel
theorem dX8_digest_114 : decode cX8_digest 114 = .ok (.iinc 3 1, 3) := by decide +kernel
theorem dX8_digest_117 : decode cX8_digest 117 = .ok (.goto (-24), 3) := by decide +kernel
theorem dX8_digest_120 : decode cX8_digest 120 = .ok (.aload_n 0, 1) := by decide +kernel
theorem dX8_digest_121 : decode cX8_digest 121 = .ok (.sipush 145, 3) := by decide +kernel
theorem dX8_digest_124 : decode cX8_digest 124 = .ok (.iconst 0, 1) := by decide +kernel
theorem dX8_digest_125 : decode cX8_digest 125 = .ok (.iconst 1, 1) := by decide +kernel
theorem dX8_digest_126 : decode cX8_digest 126 = .ok (.invokevirtual 211, 3) := by decide +kernel
theorem dX8_digest_129 : decode cX8_digest 129 = .ok (.astore_n 3, 1) := by decide +kernel
theorem dX8_digest_130 : decode cX8_digest 130 = .ok (.lload_n 1, 1) := by decide +kernel
theorem dX8_digest_131 : decode cX8_digest 131 = .ok (.aload_n 3, 1) := by decide +kernel
theorem dX8_digest_132 : decode cX8_digest 132 = .ok (.getfield 215, 3) := by decide +kernel
theorem dX8_digest_135 : decode cX8_digest 135 = .ok (.invokestatic 241, 3) := by decide +kernel
theorem dX8_digest_138 : decode cX8_digest 138 = .ok (.lstore_n 1, 1) := by decide +kernel
theorem dX8_digest_139 : decode cX8_digest 139 = .ok (.lload_n 1, 1) := by decide +kernel
theorem dX8_digest_140 : decode cX8_digest 140 = .ok (.aload_n 3, 1) := by decide +kernel
theorem dX8_digest_141 : decode cX8_digest 141 = .ok (.getfield 216, 3) := by decide +kernel
theorem dX8_digest_144 : decode cX8_digest 144 = .ok (.invokestatic 241, 3) := by decide +kernel
theorem dX8_digest_147 : decode cX8_digest 147 = .ok (.lreturn, 1) := by decide +kernel
theorem dX8_mixChord_0 : decode cX8_mixChord 0 = .ok (.lload_n 1, 1) := by decide +kernel
theorem dX8_mixChord_1 : decode cX8_mixChord 1 = .ok (.lstore 4, 2) := by decide +kernel
theorem dX8_mixChord_3 : decode cX8_mixChord 3 = .ok (.iconst 0, 1) := by decide +kernel
theorem dX8_mixChord_4 : decode cX8_mixChord 4 = .ok (.istore 6, 2) := by decide +kernel
theorem dX8_mixChord_6 : decode cX8_mixChord 6 = .ok (.iload 6, 2) := by decide +kernel
theorem dX8_mixChord_8 : decode cX8_mixChord 8 = .ok (.iconst 5, 1) := by decide +kernel
theorem dX8_mixChord_9 : decode cX8_mixChord 9 = .ok (.if_icmp .gt 23, 3) := by decide +kernel
theorem dX8_mixChord_12 : decode cX8_mixChord 12 = .ok (.lload 4, 2) := by decide +kernel
theorem dX8_mixChord_14 : decode cX8_mixChord 14 = .ok (.aload_n 0, 1) := by decide +kernel
theorem dX8_mixChord_15 : decode cX8_mixChord 15 = .ok (.iload_n 3, 1) := by decide +kernel
theorem dX8_mixChord_16 : decode cX8_mixChord 16 = .ok (.iload 6, 2) := by decide +kernel
theorem dX8_mixChord_18 : decode cX8_mixChord 18 = .ok (.invokevirtual 171, 3) := by decide +kernel
theorem dX8_mixChord_21 : decode cX8_mixChord 21 = .ok (.invokestatic 241, 3) := by decide +kernel
theorem dX8_mixChord_24 : decode cX8_mixChord 24 = .ok (.lstore 4, 2) := by decide +kernel
theorem dX8_mixChord_26 : decode cX8_mixChord 26 = .ok (.iinc 6 1, 3) := by decide +kernel
theorem dX8_mixChord_29 : decode cX8_mixChord 29 = .ok (.goto (-23), 3) := by decide +kernel
theorem dX8_mixChord_32 : decode cX8_mixChord 32 = .ok (.aload_n 0, 1) := by decide +kernel
theorem dX8_mixChord_33 : decode cX8_mixChord 33 = .ok (.getfield 29, 3) := by decide +kernel
theorem dX8_mixChord_36 : decode cX8_mixChord 36 = .ok (.getfield 192, 3) := by decide +kernel
theorem dX8_mixChord_39 : decode cX8_mixChord 39 = .ok (.iload_n 3, 1) := by decide +kernel
theorem dX8_mixChord_40 : decode cX8_mixChord 40 = .ok (.iaload, 1) := by decide +kernel
theorem dX8_mixChord_41 : decode cX8_mixChord 41 = .ok (.istore 6, 2) := by decide +kernel
theorem dX8_mixChord_43 : decode cX8_mixChord 43 = .ok (.lload 4, 2) := by decide +kernel
theorem dX8_mixChord_45 : decode cX8_mixChord 45 = .ok (.iload 6, 2) := by decide +kernel
theorem dX8_mixChord_47 : decode cX8_mixChord 47 = .ok (.invokestatic 241, 3) := by decide +kernel
theorem dX8_mixChord_50 : decode cX8_mixChord 50 = .ok (.lstore 4, 2) := by decide +kernel
theorem dX8_mixChord_52 : decode cX8_mixChord 52 = .ok (.aload_n 0, 1) := by decide +kernel
theorem dX8_mixChord_53 : decode cX8_mixChord 53 = .ok (.getfield 29, 3) := by decide +kernel
theorem dX8_mixChord_56 : decode cX8_mixChord 56 = .ok (.getfield 254, 3) := by decide +kernel
theorem dX8_mixChord_59 : decode cX8_mixChord 59 = .ok (.iload_n 3, 1) := by decide +kernel
theorem dX8_mixChord_60 : decode cX8_mixChord 60 = .ok (.aaload, 1) := by decide +kernel
theorem dX8_mixChord_61 : decode cX8_mixChord 61 = .ok (.iload 6, 2) := by decide +kernel
theorem dX8_mixChord_63 : decode cX8_mixChord 63 = .ok (.invokevirtual 258, 3) := by decide +kernel
theorem dX8_mixChord_66 : decode cX8_mixChord 66 = .ok (.ifCond .eq 27, 3) := by decide +kernel
theorem dX8_mixChord_69 : decode cX8_mixChord 69 = .ok (.aload_n 0, 1) := by decide +kernel
theorem dX8_mixChord_70 : decode cX8_mixChord 70 = .ok (.lload 4, 2) := by decide +kernel
theorem dX8_mixChord_72 : decode cX8_mixChord 72 = .ok (.aload_n 0, 1) := by decide +kernel
theorem dX8_mixChord_73 : decode cX8_mixChord 73 = .ok (.getfield 29, 3) := by decide +kernel
theorem dX8_mixChord_76 : decode cX8_mixChord 76 = .ok (.getfield 254, 3) := by decide +kernel
theorem dX8_mixChord_79 : decode cX8_mixChord 79 = .ok (.iload_n 3, 1) := by decide +kernel
theorem dX8_mixChord_80 : decode cX8_mixChord 80 = .ok (.aaload, 1) := by decide +kernel
theorem dX8_mixChord_81 : decode cX8_mixChord 81 = .ok (.getfield 149, 3) := by decide +kernel
theorem dX8_mixChord_84 : decode cX8_mixChord 84 = .ok (.iload 6, 2) := by decide +kernel
theorem dX8_mixChord_86 : decode cX8_mixChord 86 = .ok (.iaload, 1) := by decide +kernel
theorem dX8_mixChord_87 : decode cX8_mixChord 87 = .ok (.invokevirtual 261, 3) := by decide +kernel
theorem dX8_mixChord_90 : decode cX8_mixChord 90 = .ok (.goto 5, 3) := by decide +kernel
theorem dX8_mixChord_93 : decode cX8_mixChord 93 = .ok (.lload 4, 2) := by decide +kernel
theorem dX8_mixChord_95 : decode cX8_mixChord 95 = .ok (.lreturn, 1) := by decide +kernel
theorem dX8_mixGrip_0 : decode cX8_mixGrip 0 = .ok (.lload_n 1, 1) := by decide +kernel
theorem dX8_mixGrip_1 : decode cX8_mixGrip 1 = .ok (.lstore 4, 2) := by decide +kernel
theorem dX8_mixGrip_3 : decode cX8_mixGrip 3 = .ok (.aload_n 0, 1) := by decide +kernel
theorem dX8_mixGrip_4 : decode cX8_mixGrip 4 = .ok (.getfield 46, 3) := by decide +kernel
theorem dX8_mixGrip_7 : decode cX8_mixGrip 7 = .ok (.iload_n 3, 1) := by decide +kernel
theorem dX8_mixGrip_8 : decode cX8_mixGrip 8 = .ok (.invokevirtual 174, 3) := by decide +kernel
theorem dX8_mixGrip_11 : decode cX8_mixGrip 11 = .ok (.iconst 0, 1) := by decide +kernel
theorem dX8_mixGrip_12 : decode cX8_mixGrip 12 = .ok (.istore 6, 2) := by decide +kernel
theorem dX8_mixGrip_14 : decode cX8_mixGrip 14 = .ok (.iload 6, 2) := by decide +kernel
theorem dX8_mixGrip_16 : decode cX8_mixGrip 16 = .ok (.iconst 5, 1) := by decide +kernel
theorem dX8_mixGrip_17 : decode cX8_mixGrip 17 = .ok (.if_icmp .gt 22, 3) := by decide +kernel
theorem dX8_mixGrip_20 : decode cX8_mixGrip 20 = .ok (.lload 4, 2) := by decide +kernel
theorem dX8_mixGrip_22 : decode cX8_mixGrip 22 = .ok (.aload_n 0, 1) := by decide +kernel
theorem dX8_mixGrip_23 : decode cX8_mixGrip 23 = .ok (.iload 6, 2) := by decide +kernel
theorem dX8_mixGrip_25 : decode cX8_mixGrip 25 = .ok (.invokevirtual 177, 3) := by decide +kernel
theorem dX8_mixGrip_28 : decode cX8_mixGrip 28 = .ok (.invokestatic 241, 3) := by decide +kernel
theorem dX8_mixGrip_31 : decode cX8_mixGrip 31 = .ok (.lstore 4, 2) := by decide +kernel
theorem dX8_mixGrip_33 : decode cX8_mixGrip 33 = .ok (.iinc 6 1, 3) := by decide +kernel
theorem dX8_mixGrip_36 : decode cX8_mixGrip 36 = .ok (.goto (-22), 3) := by decide +kernel
theorem dX8_mixGrip_39 : decode cX8_mixGrip 39 = .ok (.iconst 0, 1) := by decide +kernel
theorem dX8_mixGrip_40 : decode cX8_mixGrip 40 = .ok (.istore 6, 2) := by decide +kernel
theorem dX8_mixGrip_42 : decode cX8_mixGrip 42 = .ok (.iload 6, 2) := by decide +kernel
theorem dX8_mixGrip_44 : decode cX8_mixGrip 44 = .ok (.aload_n 0, 1) := by decide +kernel
theorem dX8_mixGrip_45 : decode cX8_mixGrip 45 = .ok (.getfield 10, 3) := by decide +kernel
theorem dX8_mixGrip_48 : decode cX8_mixGrip 48 = .ok (.getfield 58, 3) := by decide +kernel
theorem dX8_mixGrip_51 : decode cX8_mixGrip 51 = .ok (.if_icmp .ge 38, 3) := by decide +kernel
theorem dX8_mixGrip_54 : decode cX8_mixGrip 54 = .ok (.lload 4, 2) := by decide +kernel
theorem dX8_mixGrip_56 : decode cX8_mixGrip 56 = .ok (.iload_n 3, 1) := by decide +kernel
theorem dX8_mixGrip_57 : decode cX8_mixGrip 57 = .ok (.iload 6, 2) := by decide +kernel
theorem dX8_mixGrip_59 : decode cX8_mixGrip 59 = .ok (.invokestatic 180, 3) := by decide +kernel
theorem dX8_mixGrip_62 : decode cX8_mixGrip 62 = .ok (.invokestatic 241, 3) := by decide +kernel
theorem dX8_mixGrip_65 : decode cX8_mixGrip 65 = .ok (.lstore 4, 2) := by decide +kernel
theorem dX8_mixGrip_67 : decode cX8_mixGrip 67 = .ok (.lload 4, 2) := by decide +kernel
theorem dX8_mixGrip_69 : decode cX8_mixGrip 69 = .ok (.aload_n 0, 1) := by decide +kernel
theorem dX8_mixGrip_70 : decode cX8_mixGrip 70 = .ok (.getfield 46, 3) := by decide +kernel
theorem dX8_mixGrip_73 : decode cX8_mixGrip 73 = .ok (.iload 6, 2) := by decide +kernel
theorem dX8_mixGrip_75 : decode cX8_mixGrip 75 = .ok (.invokevirtual 185, 3) := by decide +kernel
theorem dX8_mixGrip_78 : decode cX8_mixGrip 78 = .ok (.invokestatic 241, 3) := by decide +kernel
theorem dX8_mixGrip_81 : decode cX8_mixGrip 81 = .ok (.lstore 4, 2) := by decide +kernel
theorem dX8_mixGrip_83 : decode cX8_mixGrip 83 = .ok (.iinc 6 1, 3) := by decide +kernel
theorem dX8_mixGrip_86 : decode cX8_mixGrip 86 = .ok (.goto (-44), 3) := by decide +kernel
theorem dX8_mixGrip_89 : decode cX8_mixGrip 89 = .ok (.lload 4, 2) := by decide +kernel
theorem dX8_mixGrip_91 : decode cX8_mixGrip 91 = .ok (.lreturn, 1) := by decide +kernel
theorem dX8_mix_0 : decode cX8_mix 0 = .ok (.lload_n 0, 1) := by decide +kernel
theorem dX8_mix_1 : decode cX8_mix 1 = .ok (.ldc2_w 264, 3) := by decide +kernel
theorem dX8_mix_4 : decode cX8_mix 4 = .ok (.lmul, 1) := by decide +kernel
theorem dX8_mix_5 : decode cX8_mix 5 = .ok (.iload_n 2, 1) := by decide +kernel
theorem dX8_mix_6 : decode cX8_mix 6 = .ok (.i2l, 1) := by decide +kernel
theorem dX8_mix_7 : decode cX8_mix 7 = .ok (.ladd, 1) := by decide +kernel
theorem dX8_mix_8 : decode cX8_mix 8 = .ok (.lreturn, 1) := by decide +kernel
theorem dX8_askWhole_0 : decode cX8_askWhole 0 = .ok (.iload_n 1, 1) := by decide +kernel
theorem dX8_askWhole_1 : decode cX8_askWhole 1 = .ok (.tableswitch 99 0 6 #[43, 51, 59, 67, 75, 83, 91], 43) := by decide +kernel
theorem dX8_askWhole_44 : decode cX8_askWhole 44 = .ok (.aload_n 0, 1) := by decide +kernel
theorem dX8_askWhole_45 : decode cX8_askWhole 45 = .ok (.getfield 10, 3) := by decide +kernel
theorem dX8_askWhole_48 : decode cX8_askWhole 48 = .ok (.getfield 58, 3) := by decide +kernel
theorem dX8_askWhole_51 : decode cX8_askWhole 51 = .ok (.ireturn, 1) := by decide +kernel
theorem dX8_askWhole_52 : decode cX8_askWhole 52 = .ok (.aload_n 0, 1) := by decide +kernel
theorem dX8_askWhole_53 : decode cX8_askWhole 53 = .ok (.getfield 10, 3) := by decide +kernel
theorem dX8_askWhole_56 : decode cX8_askWhole 56 = .ok (.invokevirtual 87, 3) := by decide +kernel
theorem dX8_askWhole_59 : decode cX8_askWhole 59 = .ok (.ireturn, 1) := by decide +kernel
theorem dX8_askWhole_60 : decode cX8_askWhole 60 = .ok (.aload_n 0, 1) := by decide +kernel
theorem dX8_askWhole_61 : decode cX8_askWhole 61 = .ok (.getfield 10, 3) := by decide +kernel
theorem dX8_askWhole_64 : decode cX8_askWhole 64 = .ok (.getfield 94, 3) := by decide +kernel
theorem dX8_askWhole_67 : decode cX8_askWhole 67 = .ok (.ireturn, 1) := by decide +kernel
theorem dX8_askWhole_68 : decode cX8_askWhole 68 = .ok (.aload_n 0, 1) := by decide +kernel
theorem dX8_askWhole_69 : decode cX8_askWhole 69 = .ok (.getfield 10, 3) := by decide +kernel
theorem dX8_askWhole_72 : decode cX8_askWhole 72 = .ok (.getfield 100, 3) := by decide +kernel
theorem dX8_askWhole_75 : decode cX8_askWhole 75 = .ok (.ireturn, 1) := by decide +kernel
theorem dX8_askWhole_76 : decode cX8_askWhole 76 = .ok (.aload_n 0, 1) := by decide +kernel
theorem dX8_askWhole_77 : decode cX8_askWhole 77 = .ok (.getfield 22, 3) := by decide +kernel
theorem dX8_askWhole_80 : decode cX8_askWhole 80 = .ok (.getfield 127, 3) := by decide +kernel
theorem dX8_askWhole_83 : decode cX8_askWhole 83 = .ok (.ireturn, 1) := by decide +kernel
theorem dX8_askWhole_84 : decode cX8_askWhole 84 = .ok (.aload_n 0, 1) := by decide +kernel
theorem dX8_askWhole_85 : decode cX8_askWhole 85 = .ok (.getfield 29, 3) := by decide +kernel
theorem dX8_askWhole_88 : decode cX8_askWhole 88 = .ok (.invokevirtual 266, 3) := by decide +kernel
theorem dX8_askWhole_91 : decode cX8_askWhole 91 = .ok (.ireturn, 1) := by decide +kernel
theorem dX8_askWhole_92 : decode cX8_askWhole 92 = .ok (.aload_n 0, 1) := by decide +kernel
theorem dX8_askWhole_93 : decode cX8_askWhole 93 = .ok (.getfield 29, 3) := by decide +kernel
theorem dX8_askWhole_96 : decode cX8_askWhole 96 = .ok (.invokevirtual 269, 3) := by decide +kernel
theorem dX8_askWhole_99 : decode cX8_askWhole 99 = .ok (.ireturn, 1) := by decide +kernel
theorem dX8_askWhole_100 : decode cX8_askWhole 100 = .ok (.aload_n 0, 1) := by decide +kernel
theorem dX8_askWhole_101 : decode cX8_askWhole 101 = .ok (.getfield 29, 3) := by decide +kernel
theorem dX8_askWhole_104 : decode cX8_askWhole 104 = .ok (.invokevirtual 272, 3) := by decide +kernel
theorem dX8_askWhole_107 : decode cX8_askWhole 107 = .ok (.ireturn, 1) := by decide +kernel
theorem dX8_askChord_0 : decode cX8_askChord 0 = .ok (.aload_n 0, 1) := by decide +kernel
theorem dX8_askChord_1 : decode cX8_askChord 1 = .ok (.getfield 22, 3) := by decide +kernel
theorem dX8_askChord_4 : decode cX8_askChord 4 = .ok (.getfield 157, 3) := by decide +kernel
theorem dX8_askChord_7 : decode cX8_askChord 7 = .ok (.iload_n 1, 1) := by decide +kernel
theorem dX8_askChord_8 : decode cX8_askChord 8 = .ok (.aaload, 1) := by decide +kernel
theorem dX8_askChord_9 : decode cX8_askChord 9 = .ok (.astore_n 3, 1) := by decide +kernel
theorem dX8_askChord_10 : decode cX8_askChord 10 = .ok (.iload_n 2, 1) := by decide +kernel
theorem dX8_askChord_11 : decode cX8_askChord 11 = .ok (.tableswitch 66 0 4 #[33, 38, 43, 48, 53], 33) := by decide +kernel
theorem dX8_askChord_44 : decode cX8_askChord 44 = .ok (.aload_n 3, 1) := by decide +kernel
theorem dX8_askChord_45 : decode cX8_askChord 45 = .ok (.getfield 275, 3) := by decide +kernel
theorem dX8_askChord_48 : decode cX8_askChord 48 = .ok (.ireturn, 1) := by decide +kernel
theorem dX8_askChord_49 : decode cX8_askChord 49 = .ok (.aload_n 3, 1) := by decide +kernel
theorem dX8_askChord_50 : decode cX8_askChord 50 = .ok (.invokevirtual 278, 3) := by decide +kernel
theorem dX8_askChord_53 : decode cX8_askChord 53 = .ok (.ireturn, 1) := by decide +kernel
theorem dX8_askChord_54 : decode cX8_askChord 54 = .ok (.aload_n 3, 1) := by decide +kernel
theorem dX8_askChord_55 : decode cX8_askChord 55 = .ok (.invokevirtual 281, 3) := by decide +kernel
theorem dX8_askChord_58 : decode cX8_askChord 58 = .ok (.ireturn, 1) := by decide +kernel
theorem dX8_askChord_59 : decode cX8_askChord 59 = .ok (.aload_n 3, 1) := by decide +kernel
theorem dX8_askChord_60 : decode cX8_askChord 60 = .ok (.getfield 284, 3) := by decide +kernel
theorem dX8_askChord_63 : decode cX8_askChord 63 = .ok (.ireturn, 1) := by decide +kernel
theorem dX8_askChord_64 : decode cX8_askChord 64 = .ok (.aload_n 0, 1) := by decide +kernel
theorem dX8_askChord_65 : decode cX8_askChord 65 = .ok (.getfield 29, 3) := by decide +kernel
theorem dX8_askChord_68 : decode cX8_askChord 68 = .ok (.getfield 254, 3) := by decide +kernel
theorem dX8_askChord_71 : decode cX8_askChord 71 = .ok (.iload_n 1, 1) := by decide +kernel
theorem dX8_askChord_72 : decode cX8_askChord 72 = .ok (.aaload, 1) := by decide +kernel
theorem dX8_askChord_73 : decode cX8_askChord 73 = .ok (.getfield 287, 3) := by decide +kernel
theorem dX8_askChord_76 : decode cX8_askChord 76 = .ok (.ireturn, 1) := by decide +kernel
theorem dX8_askChord_77 : decode cX8_askChord 77 = .ok (.aload_n 0, 1) := by decide +kernel
theorem dX8_askChord_78 : decode cX8_askChord 78 = .ok (.getfield 29, 3) := by decide +kernel
theorem dX8_askChord_81 : decode cX8_askChord 81 = .ok (.getfield 236, 3) := by decide +kernel
theorem dX8_askChord_84 : decode cX8_askChord 84 = .ok (.iload_n 1, 1) := by decide +kernel
theorem dX8_askChord_85 : decode cX8_askChord 85 = .ok (.iaload, 1) := by decide +kernel
theorem dX8_askChord_86 : decode cX8_askChord 86 = .ok (.ireturn, 1) := by decide +kernel
theorem dX8_askHand_0 : decode cX8_askHand 0 = .ok (.iload_n 1, 1) := by decide +kernel
theorem dX8_askHand_1 : decode cX8_askHand 1 = .ok (.tableswitch 83 0 4 #[35, 43, 51, 59, 67], 35) := by decide +kernel
theorem dX8_askHand_36 : decode cX8_askHand 36 = .ok (.aload_n 0, 1) := by decide +kernel
theorem dX8_askHand_37 : decode cX8_askHand 37 = .ok (.getfield 46, 3) := by decide +kernel
theorem dX8_askHand_40 : decode cX8_askHand 40 = .ok (.invokevirtual 288, 3) := by decide +kernel
theorem dX8_askHand_43 : decode cX8_askHand 43 = .ok (.ireturn, 1) := by decide +kernel
theorem dX8_askHand_44 : decode cX8_askHand 44 = .ok (.aload_n 0, 1) := by decide +kernel
theorem dX8_askHand_45 : decode cX8_askHand 45 = .ok (.getfield 46, 3) := by decide +kernel
theorem dX8_askHand_48 : decode cX8_askHand 48 = .ok (.getfield 291, 3) := by decide +kernel
theorem dX8_askHand_51 : decode cX8_askHand 51 = .ok (.ireturn, 1) := by decide +kernel
theorem dX8_askHand_52 : decode cX8_askHand 52 = .ok (.aload_n 0, 1) := by decide +kernel
theorem dX8_askHand_53 : decode cX8_askHand 53 = .ok (.getfield 46, 3) := by decide +kernel
theorem dX8_askHand_56 : decode cX8_askHand 56 = .ok (.getfield 294, 3) := by decide +kernel
theorem dX8_askHand_59 : decode cX8_askHand 59 = .ok (.ireturn, 1) := by decide +kernel
theorem dX8_askHand_60 : decode cX8_askHand 60 = .ok (.aload_n 0, 1) := by decide +kernel
theorem dX8_askHand_61 : decode cX8_askHand 61 = .ok (.getfield 46, 3) := by decide +kernel
theorem dX8_askHand_64 : decode cX8_askHand 64 = .ok (.invokevirtual 297, 3) := by decide +kernel
theorem dX8_askHand_67 : decode cX8_askHand 67 = .ok (.ireturn, 1) := by decide +kernel
theorem dX8_askHand_68 : decode cX8_askHand 68 = .ok (.aload_n 0, 1) := by decide +kernel
theorem dX8_askHand_69 : decode cX8_askHand 69 = .ok (.getfield 46, 3) := by decide +kernel
theorem dX8_askHand_72 : decode cX8_askHand 72 = .ok (.getfield 300, 3) := by decide +kernel
theorem dX8_askHand_75 : decode cX8_askHand 75 = .ok (.ifCond .eq 7, 3) := by decide +kernel
theorem dX8_askHand_78 : decode cX8_askHand 78 = .ok (.iconst 1, 1) := by decide +kernel
theorem dX8_askHand_79 : decode cX8_askHand 79 = .ok (.goto 4, 3) := by decide +kernel
theorem dX8_askHand_82 : decode cX8_askHand 82 = .ok (.iconst 0, 1) := by decide +kernel
theorem dX8_askHand_83 : decode cX8_askHand 83 = .ok (.ireturn, 1) := by decide +kernel
theorem dX8_askHand_84 : decode cX8_askHand 84 = .ok (.aload_n 0, 1) := by decide +kernel
theorem dX8_askHand_85 : decode cX8_askHand 85 = .ok (.getfield 46, 3) := by decide +kernel
theorem dX8_askHand_88 : decode cX8_askHand 88 = .ok (.getfield 303, 3) := by decide +kernel
theorem dX8_askHand_91 : decode cX8_askHand 91 = .ok (.ireturn, 1) := by decide +kernel
theorem dX8_totalUnder_0 : decode cX8_totalUnder 0 = .ok (.aload_n 0, 1) := by decide +kernel
theorem dX8_totalUnder_1 : decode cX8_totalUnder 1 = .ok (.getfield 16, 3) := by decide +kernel
theorem dX8_totalUnder_4 : decode cX8_totalUnder 4 = .ok (.aload_n 0, 1) := by decide +kernel
theorem dX8_totalUnder_5 : decode cX8_totalUnder 5 = .ok (.getfield 10, 3) := by decide +kernel
theorem dX8_totalUnder_8 : decode cX8_totalUnder 8 = .ok (.invokevirtual 225, 3) := by decide +kernel
theorem dX8_totalUnder_11 : decode cX8_totalUnder 11 = .ok (.aload_n 0, 1) := by decide +kernel
theorem dX8_totalUnder_12 : decode cX8_totalUnder 12 = .ok (.getfield 16, 3) := by decide +kernel
theorem dX8_totalUnder_15 : decode cX8_totalUnder 15 = .ok (.iload_n 1, 1) := by decide +kernel
theorem dX8_totalUnder_16 : decode cX8_totalUnder 16 = .ok (.putfield 94, 3) := by decide +kernel
theorem dX8_totalUnder_19 : decode cX8_totalUnder 19 = .ok (.aload_n 0, 1) := by decide +kernel
theorem dX8_totalUnder_20 : decode cX8_totalUnder 20 = .ok (.getfield 16, 3) := by decide +kernel
theorem dX8_totalUnder_23 : decode cX8_totalUnder 23 = .ok (.iload_n 2, 1) := by decide +kernel
theorem dX8_totalUnder_24 : decode cX8_totalUnder 24 = .ok (.putfield 100, 3) := by decide +kernel
theorem dX8_totalUnder_27 : decode cX8_totalUnder 27 = .ok (.aload_n 0, 1) := by decide +kernel
theorem dX8_totalUnder_28 : decode cX8_totalUnder 28 = .ok (.getfield 33, 3) := by decide +kernel
theorem dX8_totalUnder_31 : decode cX8_totalUnder 31 = .ok (.aload_n 0, 1) := by decide +kernel
theorem dX8_totalUnder_32 : decode cX8_totalUnder 32 = .ok (.getfield 16, 3) := by decide +kernel
theorem dX8_totalUnder_35 : decode cX8_totalUnder 35 = .ok (.aload_n 0, 1) := by decide +kernel
theorem dX8_totalUnder_36 : decode cX8_totalUnder 36 = .ok (.getfield 22, 3) := by decide +kernel
theorem dX8_totalUnder_39 : decode cX8_totalUnder 39 = .ok (.invokevirtual 229, 3) := by decide +kernel
theorem dX8_totalUnder_42 : decode cX8_totalUnder 42 = .ok (.aload_n 0, 1) := by decide +kernel
theorem dX8_totalUnder_43 : decode cX8_totalUnder 43 = .ok (.getfield 33, 3) := by decide +kernel
theorem dX8_totalUnder_46 : decode cX8_totalUnder 46 = .ok (.invokevirtual 233, 3) := by decide +kernel
theorem dX8_totalUnder_49 : decode cX8_totalUnder 49 = .ok (.aload_n 0, 1) := by decide +kernel
theorem dX8_totalUnder_50 : decode cX8_totalUnder 50 = .ok (.getfield 33, 3) := by decide +kernel
theorem dX8_totalUnder_53 : decode cX8_totalUnder 53 = .ok (.getfield 195, 3) := by decide +kernel
theorem dX8_totalUnder_56 : decode cX8_totalUnder 56 = .ok (.ireturn, 1) := by decide +kernel
theorem dX8_instrumentChanged_0 : decode cX8_instrumentChanged 0 = .ok (.aload_n 0, 1) := by decide +kernel
theorem dX8_instrumentChanged_1 : decode cX8_instrumentChanged 1 = .ok (.iconst 1, 1) := by decide +kernel
theorem dX8_instrumentChanged_2 : decode cX8_instrumentChanged 2 = .ok (.putfield 50, 3) := by decide +kernel
theorem dX8_instrumentChanged_5 : decode cX8_instrumentChanged 5 = .ok (.aload_n 0, 1) := by decide +kernel
theorem dX8_instrumentChanged_6 : decode cX8_instrumentChanged 6 = .ok (.getfield 39, 3) := by decide +kernel
theorem dX8_instrumentChanged_9 : decode cX8_instrumentChanged 9 = .ok (.invokevirtual 306, 3) := by decide +kernel
theorem dX8_instrumentChanged_12 : decode cX8_instrumentChanged 12 = .ok (.return_, 1) := by decide +kernel
theorem dX8_refreshPlan_0 : decode cX8_refreshPlan 0 = .ok (.aload_n 0, 1) := by decide +kernel
theorem dX8_refreshPlan_1 : decode cX8_refreshPlan 1 = .ok (.getfield 50, 3) := by decide +kernel
theorem dX8_refreshPlan_4 : decode cX8_refreshPlan 4 = .ok (.ifCond .eq 30, 3) := by decide +kernel
theorem dX8_refreshPlan_7 : decode cX8_refreshPlan 7 = .ok (.aload_n 0, 1) := by decide +kernel
theorem dX8_refreshPlan_8 : decode cX8_refreshPlan 8 = .ok (.getfield 29, 3) := by decide +kernel
theorem dX8_refreshPlan_11 : decode cX8_refreshPlan 11 = .ok (.aload_n 0, 1) := by decide +kernel
theorem dX8_refreshPlan_12 : decode cX8_refreshPlan 12 = .ok (.getfield 10, 3) := by decide +kernel
theorem dX8_refreshPlan_15 : decode cX8_refreshPlan 15 = .ok (.aload_n 0, 1) := by decide +kernel
theorem dX8_refreshPlan_16 : decode cX8_refreshPlan 16 = .ok (.getfield 22, 3) := by decide +kernel
theorem dX8_refreshPlan_19 : decode cX8_refreshPlan 19 = .ok (.invokevirtual 229, 3) := by decide +kernel
theorem dX8_refreshPlan_22 : decode cX8_refreshPlan 22 = .ok (.aload_n 0, 1) := by decide +kernel
theorem dX8_refreshPlan_23 : decode cX8_refreshPlan 23 = .ok (.getfield 29, 3) := by decide +kernel
theorem dX8_refreshPlan_26 : decode cX8_refreshPlan 26 = .ok (.invokevirtual 233, 3) := by decide +kernel
theorem dX8_refreshPlan_29 : decode cX8_refreshPlan 29 = .ok (.aload_n 0, 1) := by decide +kernel
theorem dX8_refreshPlan_30 : decode cX8_refreshPlan 30 = .ok (.iconst 0, 1) := by decide +kernel
theorem dX8_refreshPlan_31 : decode cX8_refreshPlan 31 = .ok (.putfield 50, 3) := by decide +kernel
theorem dX8_refreshPlan_34 : decode cX8_refreshPlan 34 = .ok (.return_, 1) := by decide +kernel
theorem dX8_freshVoicing_0 : decode cX8_freshVoicing 0 = .ok (.aload_n 0, 1) := by decide +kernel
theorem dX8_freshVoicing_1 : decode cX8_freshVoicing 1 = .ok (.getfield 39, 3) := by decide +kernel
theorem dX8_freshVoicing_4 : decode cX8_freshVoicing 4 = .ok (.iload_n 1, 1) := by decide +kernel
theorem dX8_freshVoicing_5 : decode cX8_freshVoicing 5 = .ok (.iload_n 2, 1) := by decide +kernel
theorem dX8_freshVoicing_6 : decode cX8_freshVoicing 6 = .ok (.iload_n 3, 1) := by decide +kernel
theorem dX8_freshVoicing_7 : decode cX8_freshVoicing 7 = .ok (.invokevirtual 309, 3) := by decide +kernel
theorem dX8_freshVoicing_10 : decode cX8_freshVoicing 10 = .ok (.ifCond .ne 17, 3) := by decide +kernel
theorem dX8_freshVoicing_13 : decode cX8_freshVoicing 13 = .ok (.aload_n 0, 1) := by decide +kernel
theorem dX8_freshVoicing_14 : decode cX8_freshVoicing 14 = .ok (.getfield 39, 3) := by decide +kernel
theorem dX8_freshVoicing_17 : decode cX8_freshVoicing 17 = .ok (.aload_n 0, 1) := by decide +kernel
theorem dX8_freshVoicing_18 : decode cX8_freshVoicing 18 = .ok (.getfield 10, 3) := by decide +kernel
theorem dX8_freshVoicing_21 : decode cX8_freshVoicing 21 = .ok (.iload_n 1, 1) := by decide +kernel
theorem dX8_freshVoicing_22 : decode cX8_freshVoicing 22 = .ok (.iload_n 2, 1) := by decide +kernel
theorem dX8_freshVoicing_23 : decode cX8_freshVoicing 23 = .ok (.iload_n 3, 1) := by decide +kernel
theorem dX8_freshVoicing_24 : decode cX8_freshVoicing 24 = .ok (.invokevirtual 313, 3) := by decide +kernel
theorem dX8_freshVoicing_27 : decode cX8_freshVoicing 27 = .ok (.aload_n 0, 1) := by decide +kernel
theorem dX8_freshVoicing_28 : decode cX8_freshVoicing 28 = .ok (.getfield 39, 3) := by decide +kernel
theorem dX8_freshVoicing_31 : decode cX8_freshVoicing 31 = .ok (.areturn, 1) := by decide +kernel
theorem dX8_needString_0 : decode cX8_needString 0 = .ok (.iload_n 1, 1) := by decide +kernel
theorem dX8_needString_1 : decode cX8_needString 1 = .ok (.ifCond .lt 14, 3) := by decide +kernel
theorem dX8_needString_4 : decode cX8_needString 4 = .ok (.iload_n 1, 1) := by decide +kernel
theorem dX8_needString_5 : decode cX8_needString 5 = .ok (.aload_n 0, 1) := by decide +kernel
theorem dX8_needString_6 : decode cX8_needString 6 = .ok (.getfield 10, 3) := by decide +kernel
theorem dX8_needString_9 : decode cX8_needString 9 = .ok (.getfield 58, 3) := by decide +kernel
theorem dX8_needString_12 : decode cX8_needString 12 = .ok (.if_icmp .lt 14, 3) := by decide +kernel
theorem dX8_needString_15 : decode cX8_needString 15 = .ok (.new 317, 3) := by decide +kernel
theorem dX8_needString_18 : decode cX8_needString 18 = .ok (.dup, 1) := by decide +kernel
theorem dX8_needString_19 : decode cX8_needString 19 = .ok (.ldc_w 319, 3) := by decide +kernel
theorem dX8_needString_22 : decode cX8_needString 22 = .ok (.invokespecial 321, 3) := by decide +kernel
theorem dX8_needString_25 : decode cX8_needString 25 = .ok (.athrow, 1) := by decide +kernel
theorem dX8_needString_26 : decode cX8_needString 26 = .ok (.return_, 1) := by decide +kernel
theorem dX8_needChord_0 : decode cX8_needChord 0 = .ok (.iload_n 1, 1) := by decide +kernel
theorem dX8_needChord_1 : decode cX8_needChord 1 = .ok (.ifCond .lt 14, 3) := by decide +kernel
theorem dX8_needChord_4 : decode cX8_needChord 4 = .ok (.iload_n 1, 1) := by decide +kernel
theorem dX8_needChord_5 : decode cX8_needChord 5 = .ok (.aload_n 0, 1) := by decide +kernel
theorem dX8_needChord_6 : decode cX8_needChord 6 = .ok (.getfield 22, 3) := by decide +kernel
theorem dX8_needChord_9 : decode cX8_needChord 9 = .ok (.getfield 127, 3) := by decide +kernel
theorem dX8_needChord_12 : decode cX8_needChord 12 = .ok (.if_icmp .lt 14, 3) := by decide +kernel
theorem dX8_needChord_15 : decode cX8_needChord 15 = .ok (.new 317, 3) := by decide +kernel
theorem dX8_needChord_18 : decode cX8_needChord 18 = .ok (.dup, 1) := by decide +kernel
theorem dX8_needChord_19 : decode cX8_needChord 19 = .ok (.ldc_w 322, 3) := by decide +kernel
theorem dX8_needChord_22 : decode cX8_needChord 22 = .ok (.invokespecial 321, 3) := by decide +kernel
theorem dX8_needChord_25 : decode cX8_needChord 25 = .ok (.athrow, 1) := by decide +kernel
theorem dX8_needChord_26 : decode cX8_needChord 26 = .ok (.return_, 1) := by decide +kernel
theorem dX8_needGrip_0 : decode cX8_needGrip 0 = .ok (.aload_n 0, 1) := by decide +kernel
theorem dX8_needGrip_1 : decode cX8_needGrip 1 = .ok (.iload_n 1, 1) := by decide +kernel
theorem dX8_needGrip_2 : decode cX8_needGrip 2 = .ok (.invokevirtual 139, 3) := by decide +kernel
theorem dX8_needGrip_5 : decode cX8_needGrip 5 = .ok (.aload_n 0, 1) := by decide +kernel
theorem dX8_needGrip_6 : decode cX8_needGrip 6 = .ok (.invokevirtual 168, 3) := by decide +kernel
theorem dX8_needGrip_9 : decode cX8_needGrip 9 = .ok (.aload_n 0, 1) := by decide +kernel
theorem dX8_needGrip_10 : decode cX8_needGrip 10 = .ok (.getfield 29, 3) := by decide +kernel
theorem dX8_needGrip_13 : decode cX8_needGrip 13 = .ok (.getfield 254, 3) := by decide +kernel
theorem dX8_needGrip_16 : decode cX8_needGrip 16 = .ok (.iload_n 1, 1) := by decide +kernel
theorem dX8_needGrip_17 : decode cX8_needGrip 17 = .ok (.aaload, 1) := by decide +kernel
theorem dX8_needGrip_18 : decode cX8_needGrip 18 = .ok (.iload_n 2, 1) := by decide +kernel
theorem dX8_needGrip_19 : decode cX8_needGrip 19 = .ok (.invokevirtual 258, 3) := by decide +kernel
theorem dX8_needGrip_22 : decode cX8_needGrip 22 = .ok (.ifCond .ne 14, 3) := by decide +kernel
theorem dX8_needGrip_25 : decode cX8_needGrip 25 = .ok (.new 317, 3) := by decide +kernel
theorem dX8_needGrip_28 : decode cX8_needGrip 28 = .ok (.dup, 1) := by decide +kernel
theorem dX8_needGrip_29 : decode cX8_needGrip 29 = .ok (.ldc_w 324, 3) := by decide +kernel
theorem dX8_needGrip_32 : decode cX8_needGrip 32 = .ok (.invokespecial 321, 3) := by decide +kernel
theorem dX8_needGrip_35 : decode cX8_needGrip 35 = .ok (.athrow, 1) := by decide +kernel
theorem dX8_needGrip_36 : decode cX8_needGrip 36 = .ok (.aload_n 0, 1) := by decide +kernel
theorem dX8_needGrip_37 : decode cX8_needGrip 37 = .ok (.getfield 29, 3) := by decide +kernel
theorem dX8_needGrip_40 : decode cX8_needGrip 40 = .ok (.getfield 254, 3) := by decide +kernel
theorem dX8_needGrip_43 : decode cX8_needGrip 43 = .ok (.iload_n 1, 1) := by decide +kernel
theorem dX8_needGrip_44 : decode cX8_needGrip 44 = .ok (.aaload, 1) := by decide +kernel
theorem dX8_needGrip_45 : decode cX8_needGrip 45 = .ok (.areturn, 1) := by decide +kernel
theorem dX8_needQuestion_0 : decode cX8_needQuestion 0 = .ok (.iload_n 0, 1) := by decide +kernel
theorem dX8_needQuestion_1 : decode cX8_needQuestion 1 = .ok (.ifCond .lt 8, 3) := by decide +kernel
theorem dX8_needQuestion_4 : decode cX8_needQuestion 4 = .ok (.iload_n 0, 1) := by decide +kernel
theorem dX8_needQuestion_5 : decode cX8_needQuestion 5 = .ok (.iload_n 1, 1) := by decide +kernel
theorem dX8_needQuestion_6 : decode cX8_needQuestion 6 = .ok (.if_icmp .le 14, 3) := by decide +kernel
theorem dX8_needQuestion_9 : decode cX8_needQuestion 9 = .ok (.new 107, 3) := by decide +kernel
theorem dX8_needQuestion_12 : decode cX8_needQuestion 12 = .ok (.dup, 1) := by decide +kernel
theorem dX8_needQuestion_13 : decode cX8_needQuestion 13 = .ok (.ldc_w 326, 3) := by decide +kernel
theorem dX8_needQuestion_16 : decode cX8_needQuestion 16 = .ok (.invokespecial 111, 3) := by decide +kernel
theorem dX8_needQuestion_19 : decode cX8_needQuestion 19 = .ok (.athrow, 1) := by decide +kernel
theorem dX8_needQuestion_20 : decode cX8_needQuestion 20 = .ok (.return_, 1) := by decide +kernel
theorem dX8_needOpen_0 : decode cX8_needOpen 0 = .ok (.iload_n 0, 1) := by decide +kernel
theorem dX8_needOpen_1 : decode cX8_needOpen 1 = .ok (.ifCond .lt 9, 3) := by decide +kernel
theorem dX8_needOpen_4 : decode cX8_needOpen 4 = .ok (.iload_n 0, 1) := by decide +kernel
theorem dX8_needOpen_5 : decode cX8_needOpen 5 = .ok (.bipush 60, 2) := by decide +kernel
theorem dX8_needOpen_7 : decode cX8_needOpen 7 = .ok (.if_icmp .le 14, 3) := by decide +kernel
theorem dX8_needOpen_10 : decode cX8_needOpen 10 = .ok (.new 107, 3) := by decide +kernel
theorem dX8_needOpen_13 : decode cX8_needOpen 13 = .ok (.dup, 1) := by decide +kernel
theorem dX8_needOpen_14 : decode cX8_needOpen 14 = .ok (.ldc_w 328, 3) := by decide +kernel
theorem dX8_needOpen_17 : decode cX8_needOpen 17 = .ok (.invokespecial 111, 3) := by decide +kernel
theorem dX8_needOpen_20 : decode cX8_needOpen 20 = .ok (.athrow, 1) := by decide +kernel
theorem dX8_needOpen_21 : decode cX8_needOpen 21 = .ok (.return_, 1) := by decide +kernel
theorem dX8_needCapo_0 : decode cX8_needCapo 0 = .ok (.iload_n 0, 1) := by decide +kernel
theorem dX8_needCapo_1 : decode cX8_needCapo 1 = .ok (.ifCond .lt 9, 3) := by decide +kernel
theorem dX8_needCapo_4 : decode cX8_needCapo 4 = .ok (.iload_n 0, 1) := by decide +kernel
theorem dX8_needCapo_5 : decode cX8_needCapo 5 = .ok (.bipush 7, 2) := by decide +kernel
theorem dX8_needCapo_7 : decode cX8_needCapo 7 = .ok (.if_icmp .le 14, 3) := by decide +kernel
theorem dX8_needCapo_10 : decode cX8_needCapo 10 = .ok (.new 107, 3) := by decide +kernel
theorem dX8_needCapo_13 : decode cX8_needCapo 13 = .ok (.dup, 1) := by decide +kernel
theorem dX8_needCapo_14 : decode cX8_needCapo 14 = .ok (.ldc_w 330, 3) := by decide +kernel
theorem dX8_needCapo_17 : decode cX8_needCapo 17 = .ok (.invokespecial 111, 3) := by decide +kernel
theorem dX8_needCapo_20 : decode cX8_needCapo 20 = .ok (.athrow, 1) := by decide +kernel
theorem dX8_needCapo_21 : decode cX8_needCapo 21 = .ok (.return_, 1) := by decide +kernel
theorem dX8_needReach_0 : decode cX8_needReach 0 = .ok (.iload_n 0, 1) := by decide +kernel
theorem dX8_needReach_1 : decode cX8_needReach 1 = .ok (.iconst 1, 1) := by decide +kernel
theorem dX8_needReach_2 : decode cX8_needReach 2 = .ok (.if_icmp .lt 9, 3) := by decide +kernel
theorem dX8_needReach_5 : decode cX8_needReach 5 = .ok (.iload_n 0, 1) := by decide +kernel
theorem dX8_needReach_6 : decode cX8_needReach 6 = .ok (.bipush 6, 2) := by decide +kernel
theorem dX8_needReach_8 : decode cX8_needReach 8 = .ok (.if_icmp .le 14, 3) := by decide +kernel
theorem dX8_needReach_11 : decode cX8_needReach 11 = .ok (.new 107, 3) := by decide +kernel
theorem dX8_needReach_14 : decode cX8_needReach 14 = .ok (.dup, 1) := by decide +kernel
theorem dX8_needReach_15 : decode cX8_needReach 15 = .ok (.ldc_w 332, 3) := by decide +kernel
theorem dX8_needReach_18 : decode cX8_needReach 18 = .ok (.invokespecial 111, 3) := by decide +kernel
theorem dX8_needReach_21 : decode cX8_needReach 21 = .ok (.athrow, 1) := by decide +kernel
theorem dX8_needReach_22 : decode cX8_needReach 22 = .ok (.return_, 1) := by decide +kernel
theorem dX8_needVoicing_0 : decode cX8_needVoicing 0 = .ok (.iload_n 0, 1) := by decide +kernel
theorem dX8_needVoicing_1 : decode cX8_needVoicing 1 = .ok (.iconst 1, 1) := by decide +kernel
theorem dX8_needVoicing_2 : decode cX8_needVoicing 2 = .ok (.if_icmp .lt 18, 3) := by decide +kernel
theorem dX8_needVoicing_5 : decode cX8_needVoicing 5 = .ok (.iload_n 0, 1) := by decide +kernel
theorem dX8_needVoicing_6 : decode cX8_needVoicing 6 = .ok (.sipush 4095, 3) := by decide +kernel
theorem dX8_needVoicing_9 : decode cX8_needVoicing 9 = .ok (.if_icmp .gt 11, 3) := by decide +kernel
theorem dX8_needVoicing_12 : decode cX8_needVoicing 12 = .ok (.iload_n 0, 1) := by decide +kernel
theorem dX8_needVoicing_13 : decode cX8_needVoicing 13 = .ok (.invokestatic 334, 3) := by decide +kernel
theorem dX8_needVoicing_16 : decode cX8_needVoicing 16 = .ok (.iconst 4, 1) := by decide +kernel
theorem dX8_needVoicing_17 : decode cX8_needVoicing 17 = .ok (.if_icmp .le 14, 3) := by decide +kernel
theorem dX8_needVoicing_20 : decode cX8_needVoicing 20 = .ok (.new 107, 3) := by decide +kernel
theorem dX8_needVoicing_23 : decode cX8_needVoicing 23 = .ok (.dup, 1) := by decide +kernel
theorem dX8_needVoicing_24 : decode cX8_needVoicing 24 = .ok (.ldc_w 339, 3) := by decide +kernel
theorem dX8_needVoicing_27 : decode cX8_needVoicing 27 = .ok (.invokespecial 111, 3) := by decide +kernel
theorem dX8_needVoicing_30 : decode cX8_needVoicing 30 = .ok (.athrow, 1) := by decide +kernel
theorem dX8_needVoicing_31 : decode cX8_needVoicing 31 = .ok (.iload_n 1, 1) := by decide +kernel
theorem dX8_needVoicing_32 : decode cX8_needVoicing 32 = .ok (.ifCond .lt 17, 3) := by decide +kernel
theorem dX8_needVoicing_35 : decode cX8_needVoicing 35 = .ok (.iload_n 1, 1) := by decide +kernel
theorem dX8_needVoicing_36 : decode cX8_needVoicing 36 = .ok (.bipush 12, 2) := by decide +kernel
theorem dX8_needVoicing_38 : decode cX8_needVoicing 38 = .ok (.if_icmp .ge 11, 3) := by decide +kernel
theorem dX8_needVoicing_41 : decode cX8_needVoicing 41 = .ok (.iload_n 0, 1) := by decide +kernel
theorem dX8_needVoicing_42 : decode cX8_needVoicing 42 = .ok (.iload_n 1, 1) := by decide +kernel
theorem dX8_needVoicing_43 : decode cX8_needVoicing 43 = .ok (.ishr, 1) := by decide +kernel
theorem dX8_needVoicing_44 : decode cX8_needVoicing 44 = .ok (.iconst 1, 1) := by decide +kernel
theorem dX8_needVoicing_45 : decode cX8_needVoicing 45 = .ok (.iand, 1) := by decide +kernel
theorem dX8_needVoicing_46 : decode cX8_needVoicing 46 = .ok (.ifCond .ne 14, 3) := by decide +kernel
theorem dX8_needVoicing_49 : decode cX8_needVoicing 49 = .ok (.new 107, 3) := by decide +kernel
theorem dX8_needVoicing_52 : decode cX8_needVoicing 52 = .ok (.dup, 1) := by decide +kernel
theorem dX8_needVoicing_53 : decode cX8_needVoicing 53 = .ok (.ldc_w 341, 3) := by decide +kernel
theorem dX8_needVoicing_56 : decode cX8_needVoicing 56 = .ok (.invokespecial 111, 3) := by decide +kernel
theorem dX8_needVoicing_59 : decode cX8_needVoicing 59 = .ok (.athrow, 1) := by decide +kernel
theorem dX8_needVoicing_60 : decode cX8_needVoicing 60 = .ok (.iload_n 2, 1) := by decide +kernel
theorem dX8_needVoicing_61 : decode cX8_needVoicing 61 = .ok (.iconst 1, 1) := by decide +kernel
theorem dX8_needVoicing_62 : decode cX8_needVoicing 62 = .ok (.if_icmp .lt 9, 3) := by decide +kernel
theorem dX8_needVoicing_65 : decode cX8_needVoicing 65 = .ok (.iload_n 2, 1) := by decide +kernel
theorem dX8_needVoicing_66 : decode cX8_needVoicing 66 = .ok (.bipush 9, 2) := by decide +kernel
theorem dX8_needVoicing_68 : decode cX8_needVoicing 68 = .ok (.if_icmp .le 14, 3) := by decide +kernel
theorem dX8_needVoicing_71 : decode cX8_needVoicing 71 = .ok (.new 107, 3) := by decide +kernel
theorem dX8_needVoicing_74 : decode cX8_needVoicing 74 = .ok (.dup, 1) := by decide +kernel
theorem dX8_needVoicing_75 : decode cX8_needVoicing 75 = .ok (.ldc_w 343, 3) := by decide +kernel
theorem dX8_needVoicing_78 : decode cX8_needVoicing 78 = .ok (.invokespecial 111, 3) := by decide +kernel
theorem dX8_needVoicing_81 : decode cX8_needVoicing 81 = .ok (.athrow, 1) := by decide +kernel
theorem dX8_needVoicing_82 : decode cX8_needVoicing 82 = .ok (.return_, 1) := by decide +kernel
theorem dX8_isPitch_0 : decode cX8_isPitch 0 = .ok (.iload_n 0, 1) := by decide +kernel
theorem dX8_isPitch_1 : decode cX8_isPitch 1 = .ok (.ifCond .lt 13, 3) := by decide +kernel
theorem dX8_isPitch_4 : decode cX8_isPitch 4 = .ok (.iload_n 0, 1) := by decide +kernel
theorem dX8_isPitch_5 : decode cX8_isPitch 5 = .ok (.bipush 80, 2) := by decide +kernel
theorem dX8_isPitch_7 : decode cX8_isPitch 7 = .ok (.if_icmp .gt 7, 3) := by decide +kernel
theorem dX8_isPitch_10 : decode cX8_isPitch 10 = .ok (.iconst 1, 1) := by decide +kernel
theorem dX8_isPitch_11 : decode cX8_isPitch 11 = .ok (.goto 4, 3) := by decide +kernel
theorem dX8_isPitch_14 : decode cX8_isPitch 14 = .ok (.iconst 0, 1) := by decide +kernel
theorem dX8_isPitch_15 : decode cX8_isPitch 15 = .ok (.ireturn, 1) := by decide +kernel
theorem dX8_isPitchOrNone_0 : decode cX8_isPitchOrNone 0 = .ok (.iload_n 0, 1) := by decide +kernel
theorem dX8_isPitchOrNone_1 : decode cX8_isPitchOrNone 1 = .ok (.iconst (-1), 1) := by decide +kernel
theorem dX8_isPitchOrNone_2 : decode cX8_isPitchOrNone 2 = .ok (.if_icmp .eq 10, 3) := by decide +kernel
theorem dX8_isPitchOrNone_5 : decode cX8_isPitchOrNone 5 = .ok (.iload_n 0, 1) := by decide +kernel
theorem dX8_isPitchOrNone_6 : decode cX8_isPitchOrNone 6 = .ok (.invokestatic 103, 3) := by decide +kernel
theorem dX8_isPitchOrNone_9 : decode cX8_isPitchOrNone 9 = .ok (.ifCond .eq 7, 3) := by decide +kernel
theorem dX8_isPitchOrNone_12 : decode cX8_isPitchOrNone 12 = .ok (.iconst 1, 1) := by decide +kernel
theorem dX8_isPitchOrNone_13 : decode cX8_isPitchOrNone 13 = .ok (.goto 4, 3) := by decide +kernel
theorem dX8_isPitchOrNone_16 : decode cX8_isPitchOrNone 16 = .ok (.iconst 0, 1) := by decide +kernel
theorem dX8_isPitchOrNone_17 : decode cX8_isPitchOrNone 17 = .ok (.ireturn, 1) := by decide +kernel
theorem dX8_hasTwice_0 : decode cX8_hasTwice 0 = .ok (.iload_n 0, 1) := by decide +kernel
theorem dX8_hasTwice_1 : decode cX8_hasTwice 1 = .ok (.iload_n 1, 1) := by decide +kernel
theorem dX8_hasTwice_2 : decode cX8_hasTwice 2 = .ok (.if_icmp .eq 38, 3) := by decide +kernel
theorem dX8_hasTwice_5 : decode cX8_hasTwice 5 = .ok (.iload_n 0, 1) := by decide +kernel
theorem dX8_hasTwice_6 : decode cX8_hasTwice 6 = .ok (.iload_n 2, 1) := by decide +kernel
theorem dX8_hasTwice_7 : decode cX8_hasTwice 7 = .ok (.if_icmp .eq 33, 3) := by decide +kernel
theorem dX8_hasTwice_10 : decode cX8_hasTwice 10 = .ok (.iload_n 0, 1) := by decide +kernel
theorem dX8_hasTwice_11 : decode cX8_hasTwice 11 = .ok (.iload_n 3, 1) := by decide +kernel
theorem dX8_hasTwice_12 : decode cX8_hasTwice 12 = .ok (.if_icmp .eq 28, 3) := by decide +kernel
theorem dX8_hasTwice_15 : decode cX8_hasTwice 15 = .ok (.iload_n 1, 1) := by decide +kernel
theorem dX8_hasTwice_16 : decode cX8_hasTwice 16 = .ok (.iconst (-1), 1) := by decide +kernel
theorem dX8_hasTwice_17 : decode cX8_hasTwice 17 = .ok (.if_icmp .eq 13, 3) := by decide +kernel
theorem dX8_hasTwice_20 : decode cX8_hasTwice 20 = .ok (.iload_n 1, 1) := by decide +kernel
theorem dX8_hasTwice_21 : decode cX8_hasTwice 21 = .ok (.iload_n 2, 1) := by decide +kernel
theorem dX8_hasTwice_22 : decode cX8_hasTwice 22 = .ok (.if_icmp .eq 18, 3) := by decide +kernel
theorem dX8_hasTwice_25 : decode cX8_hasTwice 25 = .ok (.iload_n 1, 1) := by decide +kernel
theorem dX8_hasTwice_26 : decode cX8_hasTwice 26 = .ok (.iload_n 3, 1) := by decide +kernel
theorem dX8_hasTwice_27 : decode cX8_hasTwice 27 = .ok (.if_icmp .eq 13, 3) := by decide +kernel
theorem dX8_hasTwice_30 : decode cX8_hasTwice 30 = .ok (.iload_n 2, 1) := by decide +kernel
theorem dX8_hasTwice_31 : decode cX8_hasTwice 31 = .ok (.iconst (-1), 1) := by decide +kernel
theorem dX8_hasTwice_32 : decode cX8_hasTwice 32 = .ok (.if_icmp .eq 12, 3) := by decide +kernel
theorem dX8_hasTwice_35 : decode cX8_hasTwice 35 = .ok (.iload_n 2, 1) := by decide +kernel
theorem dX8_hasTwice_36 : decode cX8_hasTwice 36 = .ok (.iload_n 3, 1) := by decide +kernel
theorem dX8_hasTwice_37 : decode cX8_hasTwice 37 = .ok (.if_icmp .ne 7, 3) := by decide +kernel
theorem dX8_hasTwice_40 : decode cX8_hasTwice 40 = .ok (.iconst 1, 1) := by decide +kernel
theorem dX8_hasTwice_41 : decode cX8_hasTwice 41 = .ok (.goto 4, 3) := by decide +kernel
theorem dX8_hasTwice_44 : decode cX8_hasTwice 44 = .ok (.iconst 0, 1) := by decide +kernel
theorem dX8_hasTwice_45 : decode cX8_hasTwice 45 = .ok (.ireturn, 1) := by decide +kernel
theorem dX9_init_0 : decode cX9_init 0 = .ok (.aload_n 0, 1) := by decide +kernel
theorem dX9_init_1 : decode cX9_init 1 = .ok (.invokespecial 1, 3) := by decide +kernel
theorem dX9_init_4 : decode cX9_init 4 = .ok (.aload_n 0, 1) := by decide +kernel
theorem dX9_init_5 : decode cX9_init 5 = .ok (.new 7, 3) := by decide +kernel
theorem dX9_init_8 : decode cX9_init 8 = .ok (.dup, 1) := by decide +kernel
theorem dX9_init_9 : decode cX9_init 9 = .ok (.invokespecial 9, 3) := by decide +kernel
theorem dX9_init_12 : decode cX9_init 12 = .ok (.putfield 10, 3) := by decide +kernel
theorem dX9_init_15 : decode cX9_init 15 = .ok (.aload_n 0, 1) := by decide +kernel
theorem dX9_init_16 : decode cX9_init 16 = .ok (.iconst 0, 1) := by decide +kernel
theorem dX9_init_17 : decode cX9_init 17 = .ok (.newarray .int, 2) := by decide +kernel
theorem dX9_init_19 : decode cX9_init 19 = .ok (.putfield 16, 3) := by decide +kernel
theorem dX9_init_22 : decode cX9_init 22 = .ok (.aload_n 0, 1) := by decide +kernel
theorem dX9_init_23 : decode cX9_init 23 = .ok (.bipush 6, 2) := by decide +kernel
theorem dX9_init_25 : decode cX9_init 25 = .ok (.newarray .boolean, 2) := by decide +kernel
theorem dX9_init_27 : decode cX9_init 27 = .ok (.putfield 20, 3) := by decide +kernel
theorem dX9_init_30 : decode cX9_init 30 = .ok (.aload_n 0, 1) := by decide +kernel
theorem dX9_init_31 : decode cX9_init 31 = .ok (.iconst 3, 1) := by decide +kernel
theorem dX9_init_32 : decode cX9_init 32 = .ok (.putfield 24, 3) := by decide +kernel
theorem dX9_init_35 : decode cX9_init 35 = .ok (.aload_n 0, 1) := by decide +kernel
theorem dX9_init_36 : decode cX9_init 36 = .ok (.iconst 0, 1) := by decide +kernel
theorem dX9_init_37 : decode cX9_init 37 = .ok (.anewarray 28, 3) := by decide +kernel
theorem dX9_init_40 : decode cX9_init 40 = .ok (.putfield 29, 3) := by decide +kernel
theorem dX9_init_43 : decode cX9_init 43 = .ok (.aload_n 0, 1) := by decide +kernel
theorem dX9_init_44 : decode cX9_init 44 = .ok (.iconst 0, 1) := by decide +kernel
theorem dX9_init_45 : decode cX9_init 45 = .ok (.newarray .int, 2) := by decide +kernel
theorem dX9_init_47 : decode cX9_init 47 = .ok (.putfield 33, 3) := by decide +kernel
theorem dX9_init_50 : decode cX9_init 50 = .ok (.aload_n 0, 1) := by decide +kernel
theorem dX9_init_51 : decode cX9_init 51 = .ok (.iconst 0, 1) := by decide +kernel
theorem dX9_init_52 : decode cX9_init 52 = .ok (.anewarray 28, 3) := by decide +kernel
theorem dX9_init_55 : decode cX9_init 55 = .ok (.putfield 36, 3) := by decide +kernel
theorem dX9_init_58 : decode cX9_init 58 = .ok (.aload_n 0, 1) := by decide +kernel
theorem dX9_init_59 : decode cX9_init 59 = .ok (.iconst 0, 1) := by decide +kernel
theorem dX9_init_60 : decode cX9_init 60 = .ok (.anewarray 28, 3) := by decide +kernel
theorem dX9_init_63 : decode cX9_init 63 = .ok (.putfield 39, 3) := by decide +kernel
theorem dX9_init_66 : decode cX9_init 66 = .ok (.aload_n 0, 1) := by decide +kernel
theorem dX9_init_67 : decode cX9_init 67 = .ok (.aload_n 1, 1) := by decide +kernel
theorem dX9_init_68 : decode cX9_init 68 = .ok (.putfield 42, 3) := by decide +kernel
theorem dX9_init_71 : decode cX9_init 71 = .ok (.aload_n 0, 1) := by decide +kernel
theorem dX9_init_72 : decode cX9_init 72 = .ok (.iload_n 2, 1) := by decide +kernel
theorem dX9_init_73 : decode cX9_init 73 = .ok (.putfield 45, 3) := by decide +kernel
theorem dX9_init_76 : decode cX9_init 76 = .ok (.return_, 1) := by decide +kernel
theorem dX9_draw_0 : decode cX9_draw 0 = .ok (.aload_n 0, 1) := by decide +kernel
theorem dX9_draw_1 : decode cX9_draw 1 = .ok (.getfield 42, 3) := by decide +kernel
theorem dX9_draw_4 : decode cX9_draw 4 = .ok (.aload_n 0, 1) := by decide +kernel
theorem dX9_draw_5 : decode cX9_draw 5 = .ok (.getfield 45, 3) := by decide +kernel
theorem dX9_draw_8 : decode cX9_draw 8 = .ok (.bipush 24, 2) := by decide +kernel
theorem dX9_draw_10 : decode cX9_draw 10 = .ok (.irem, 1) := by decide +kernel
theorem dX9_draw_11 : decode cX9_draw 11 = .ok (.invokestatic 48, 3) := by decide +kernel
theorem dX9_draw_14 : decode cX9_draw 14 = .ok (.aload_n 0, 1) := by decide +kernel
theorem dX9_draw_15 : decode cX9_draw 15 = .ok (.getfield 45, 3) := by decide +kernel
theorem dX9_draw_18 : decode cX9_draw 18 = .ok (.bipush 24, 2) := by decide +kernel
theorem dX9_draw_20 : decode cX9_draw 20 = .ok (.idiv, 1) := by decide +kernel
theorem dX9_draw_21 : decode cX9_draw 21 = .ok (.bipush 8, 2) := by decide +kernel
theorem dX9_draw_23 : decode cX9_draw 23 = .ok (.irem, 1) := by decide +kernel
theorem dX9_draw_24 : decode cX9_draw 24 = .ok (.ishr, 1) := by decide +kernel
theorem dX9_draw_25 : decode cX9_draw 25 = .ok (.sipush 193, 3) := by decide +kernel
theorem dX9_draw_28 : decode cX9_draw 28 = .ok (.aload_n 0, 1) := by decide +kernel
theorem dX9_draw_29 : decode cX9_draw 29 = .ok (.getfield 45, 3) := by decide +kernel
theorem dX9_draw_32 : decode cX9_draw 32 = .ok (.imul, 1) := by decide +kernel
theorem dX9_draw_33 : decode cX9_draw 33 = .ok (.iadd, 1) := by decide +kernel
theorem dX9_draw_34 : decode cX9_draw 34 = .ok (.iload_n 1, 1) := by decide +kernel
theorem dX9_draw_35 : decode cX9_draw 35 = .ok (.invokestatic 54, 3) := by decide +kernel
theorem dX9_draw_38 : decode cX9_draw 38 = .ok (.istore_n 2, 1) := by decide +kernel
theorem dX9_draw_39 : decode cX9_draw 39 = .ok (.aload_n 0, 1) := by decide +kernel
theorem dX9_draw_40 : decode cX9_draw 40 = .ok (.dup, 1) := by decide +kernel
theorem dX9_draw_41 : decode cX9_draw 41 = .ok (.getfield 45, 3) := by decide +kernel
theorem dX9_draw_44 : decode cX9_draw 44 = .ok (.iconst 1, 1) := by decide +kernel
theorem dX9_draw_45 : decode cX9_draw 45 = .ok (.iadd, 1) := by decide +kernel
theorem dX9_draw_46 : decode cX9_draw 46 = .ok (.putfield 45, 3) := by decide +kernel
theorem dX9_draw_49 : decode cX9_draw 49 = .ok (.iload_n 2, 1) := by decide +kernel
theorem dX9_draw_50 : decode cX9_draw 50 = .ok (.ireturn, 1) := by decide +kernel
theorem dX9_plus_0 : decode cX9_plus 0 = .ok (.aload_n 0, 1) := by decide +kernel
theorem dX9_plus_1 : decode cX9_plus 1 = .ok (.arraylength, 1) := by decide +kernel
theorem dX9_plus_2 : decode cX9_plus 2 = .ok (.iconst 1, 1) := by decide +kernel
theorem dX9_plus_3 : decode cX9_plus 3 = .ok (.iadd, 1) := by decide +kernel
theorem dX9_plus_4 : decode cX9_plus 4 = .ok (.newarray .int, 2) := by decide +kernel
theorem dX9_plus_6 : decode cX9_plus 6 = .ok (.astore_n 2, 1) := by decide +kernel
theorem dX9_plus_7 : decode cX9_plus 7 = .ok (.aload_n 0, 1) := by decide +kernel
theorem dX9_plus_8 : decode cX9_plus 8 = .ok (.iconst 0, 1) := by decide +kernel
theorem dX9_plus_9 : decode cX9_plus 9 = .ok (.aload_n 2, 1) := by decide +kernel
theorem dX9_plus_10 : decode cX9_plus 10 = .ok (.iconst 0, 1) := by decide +kernel
theorem dX9_plus_11 : decode cX9_plus 11 = .ok (.aload_n 0, 1) := by decide +kernel
theorem dX9_plus_12 : decode cX9_plus 12 = .ok (.arraylength, 1) := by decide +kernel
theorem dX9_plus_13 : decode cX9_plus 13 = .ok (.invokestatic 58, 3) := by decide +kernel
theorem dX9_plus_16 : decode cX9_plus 16 = .ok (.aload_n 2, 1) := by decide +kernel
theorem dX9_plus_17 : decode cX9_plus 17 = .ok (.aload_n 0, 1) := by decide +kernel
theorem dX9_plus_18 : decode cX9_plus 18 = .ok (.arraylength, 1) := by decide +kernel
theorem dX9_plus_19 : decode cX9_plus 19 = .ok (.iload_n 1, 1) := by decide +kernel
theorem dX9_plus_20 : decode cX9_plus 20 = .ok (.iastore, 1) := by decide +kernel
theorem dX9_plus_21 : decode cX9_plus 21 = .ok (.aload_n 2, 1) := by decide +kernel
theorem dX9_plus_22 : decode cX9_plus 22 = .ok (.areturn, 1) := by decide +kernel
theorem dX9_with_0 : decode cX9_with 0 = .ok (.aload_n 0, 1) := by decide +kernel
theorem dX9_with_1 : decode cX9_with 1 = .ok (.arraylength, 1) := by decide +kernel
theorem dX9_with_2 : decode cX9_with 2 = .ok (.iconst 1, 1) := by decide +kernel
theorem dX9_with_3 : decode cX9_with 3 = .ok (.iadd, 1) := by decide +kernel
theorem dX9_with_4 : decode cX9_with 4 = .ok (.anewarray 28, 3) := by decide +kernel
theorem dX9_with_7 : decode cX9_with 7 = .ok (.astore_n 3, 1) := by decide +kernel
theorem dX9_with_8 : decode cX9_with 8 = .ok (.aload_n 0, 1) := by decide +kernel
theorem dX9_with_9 : decode cX9_with 9 = .ok (.iconst 0, 1) := by decide +kernel
theorem dX9_with_10 : decode cX9_with 10 = .ok (.aload_n 3, 1) := by decide +kernel
theorem dX9_with_11 : decode cX9_with 11 = .ok (.iconst 0, 1) := by decide +kernel
theorem dX9_with_12 : decode cX9_with 12 = .ok (.iload_n 2, 1) := by decide +kernel
theorem dX9_with_13 : decode cX9_with 13 = .ok (.invokestatic 58, 3) := by decide +kernel
theorem dX9_with_16 : decode cX9_with 16 = .ok (.aload_n 3, 1) := by decide +kernel
theorem dX9_with_17 : decode cX9_with 17 = .ok (.iload_n 2, 1) := by decide +kernel
theorem dX9_with_18 : decode cX9_with 18 = .ok (.aload_n 1, 1) := by decide +kernel
theorem dX9_with_19 : decode cX9_with 19 = .ok (.aastore, 1) := by decide +kernel
theorem dX9_with_20 : decode cX9_with 20 = .ok (.aload_n 0, 1) := by decide +kernel
theorem dX9_with_21 : decode cX9_with 21 = .ok (.iload_n 2, 1) := by decide +kernel
theorem dX9_with_22 : decode cX9_with 22 = .ok (.aload_n 3, 1) := by decide +kernel
theorem dX9_with_23 : decode cX9_with 23 = .ok (.iload_n 2, 1) := by decide +kernel
theorem dX9_with_24 : decode cX9_with 24 = .ok (.iconst 1, 1) := by decide +kernel
theorem dX9_with_25 : decode cX9_with 25 = .ok (.iadd, 1) := by decide +kernel
theorem dX9_with_26 : decode cX9_with 26 = .ok (.aload_n 0, 1) := by decide +kernel
theorem dX9_with_27 : decode cX9_with 27 = .ok (.arraylength, 1) := by decide +kernel
theorem dX9_with_28 : decode cX9_with 28 = .ok (.iload_n 2, 1) := by decide +kernel
theorem dX9_with_29 : decode cX9_with 29 = .ok (.isub, 1) := by decide +kernel
theorem dX9_with_30 : decode cX9_with 30 = .ok (.invokestatic 58, 3) := by decide +kernel
theorem dX9_with_33 : decode cX9_with 33 = .ok (.aload_n 3, 1) := by decide +kernel
theorem dX9_with_34 : decode cX9_with 34 = .ok (.areturn, 1) := by decide +kernel
theorem dX9_string_0 : decode cX9_string 0 = .ok (.aload_n 0, 1) := by decide +kernel
theorem dX9_string_1 : decode cX9_string 1 = .ok (.getfield 16, 3) := by decide +kernel
theorem dX9_string_4 : decode cX9_string 4 = .ok (.arraylength, 1) := by decide +kernel
theorem dX9_string_5 : decode cX9_string 5 = .ok (.bipush 6, 2) := by decide +kernel
theorem dX9_string_7 : decode cX9_string 7 = .ok (.if_icmp .ne 5, 3) := by decide +kernel
theorem dX9_string_10 : decode cX9_string 10 = .ok (.iconst 1, 1) := by decide +kernel
theorem dX9_string_11 : decode cX9_string 11 = .ok (.ireturn, 1) := by decide +kernel
theorem dX9_string_12 : decode cX9_string 12 = .ok (.aload_n 0, 1) := by decide +kernel
theorem dX9_string_13 : decode cX9_string 13 = .ok (.getfield 16, 3) := by decide +kernel
theorem dX9_string_16 : decode cX9_string 16 = .ok (.arraylength, 1) := by decide +kernel
theorem dX9_string_17 : decode cX9_string 17 = .ok (.ifCond .ne 15, 3) := by decide +kernel
theorem dX9_string_20 : decode cX9_string 20 = .ok (.bipush 26, 2) := by decide +kernel
theorem dX9_string_22 : decode cX9_string 22 = .ok (.aload_n 0, 1) := by decide +kernel
theorem dX9_string_23 : decode cX9_string 23 = .ok (.bipush 6, 2) := by decide +kernel
theorem dX9_string_25 : decode cX9_string 25 = .ok (.invokevirtual 64, 3) := by decide +kernel
theorem dX9_string_28 : decode cX9_string 28 = .ok (.iadd, 1) := by decide +kernel
theorem dX9_string_29 : decode cX9_string 29 = .ok (.goto 28, 3) := by decide +kernel
theorem dX9_string_32 : decode cX9_string 32 = .ok (.bipush 60, 2) := by decide +kernel
theorem dX9_string_34 : decode cX9_string 34 = .ok (.aload_n 0, 1) := by decide +kernel
theorem dX9_string_35 : decode cX9_string 35 = .ok (.getfield 16, 3) := by decide +kernel
theorem dX9_string_38 : decode cX9_string 38 = .ok (.aload_n 0, 1) := by decide +kernel
theorem dX9_string_39 : decode cX9_string 39 = .ok (.getfield 16, 3) := by decide +kernel
theorem dX9_string_42 : decode cX9_string 42 = .ok (.arraylength, 1) := by decide +kernel
theorem dX9_string_43 : decode cX9_string 43 = .ok (.iconst 1, 1) := by decide +kernel
theorem dX9_string_44 : decode cX9_string 44 = .ok (.isub, 1) := by decide +kernel
theorem dX9_string_45 : decode cX9_string 45 = .ok (.iaload, 1) := by decide +kernel
theorem dX9_string_46 : decode cX9_string 46 = .ok (.iconst 3, 1) := by decide +kernel
theorem dX9_string_47 : decode cX9_string 47 = .ok (.iadd, 1) := by decide +kernel
theorem dX9_string_48 : decode cX9_string 48 = .ok (.aload_n 0, 1) := by decide +kernel
theorem dX9_string_49 : decode cX9_string 49 = .ok (.iconst 4, 1) := by decide +kernel
theorem dX9_string_50 : decode cX9_string 50 = .ok (.invokevirtual 64, 3) := by decide +kernel
theorem dX9_string_53 : decode cX9_string 53 = .ok (.iadd, 1) := by decide +kernel
theorem dX9_string_54 : decode cX9_string 54 = .ok (.invokestatic 68, 3) := by decide +kernel
theorem dX9_string_57 : decode cX9_string 57 = .ok (.istore_n 1, 1) := by decide +kernel
theorem dX9_string_58 : decode cX9_string 58 = .ok (.aload_n 0, 1) := by decide +kernel
theorem dX9_string_59 : decode cX9_string 59 = .ok (.aload_n 0, 1) := by decide +kernel
theorem dX9_string_60 : decode cX9_string 60 = .ok (.getfield 16, 3) := by decide +kernel
theorem dX9_string_63 : decode cX9_string 63 = .ok (.iload_n 1, 1) := by decide +kernel
theorem dX9_string_64 : decode cX9_string 64 = .ok (.invokestatic 73, 3) := by decide +kernel
theorem dX9_string_67 : decode cX9_string 67 = .ok (.putfield 16, 3) := by decide +kernel
theorem dX9_string_70 : decode cX9_string 70 = .ok (.iconst 0, 1) := by decide +kernel
theorem dX9_string_71 : decode cX9_string 71 = .ok (.istore_n 2, 1) := by decide +kernel
theorem dX9_string_72 : decode cX9_string 72 = .ok (.iload_n 2, 1) := by decide +kernel
theorem dX9_string_73 : decode cX9_string 73 = .ok (.aload_n 0, 1) := by decide +kernel
theorem dX9_string_74 : decode cX9_string 74 = .ok (.getfield 36, 3) := by decide +kernel
theorem dX9_string_77 : decode cX9_string 77 = .ok (.arraylength, 1) := by decide +kernel
theorem dX9_string_78 : decode cX9_string 78 = .ok (.if_icmp .ge 35, 3) := by decide +kernel
theorem dX9_string_81 : decode cX9_string 81 = .ok (.aload_n 0, 1) := by decide +kernel
theorem dX9_string_82 : decode cX9_string 82 = .ok (.getfield 36, 3) := by decide +kernel
theorem dX9_string_85 : decode cX9_string 85 = .ok (.iload_n 2, 1) := by decide +kernel
theorem dX9_string_86 : decode cX9_string 86 = .ok (.aaload, 1) := by decide +kernel
theorem dX9_string_87 : decode cX9_string 87 = .ok (.arraylength, 1) := by decide +kernel
theorem dX9_string_88 : decode cX9_string 88 = .ok (.ifCond .le 19, 3) := by decide +kernel
theorem dX9_string_91 : decode cX9_string 91 = .ok (.aload_n 0, 1) := by decide +kernel
theorem dX9_string_92 : decode cX9_string 92 = .ok (.getfield 36, 3) := by decide +kernel
theorem dX9_string_95 : decode cX9_string 95 = .ok (.iload_n 2, 1) := by decide +kernel
theorem dX9_string_96 : decode cX9_string 96 = .ok (.aload_n 0, 1) := by decide +kernel
theorem dX9_string_97 : decode cX9_string 97 = .ok (.getfield 36, 3) := by decide +kernel
theorem dX9_string_100 : decode cX9_string 100 = .ok (.iload_n 2, 1) := by decide +kernel
theorem dX9_string_101 : decode cX9_string 101 = .ok (.aaload, 1) := by decide +kernel
theorem dX9_string_102 : decode cX9_string 102 = .ok (.iconst (-1), 1) := by decide +kernel
theorem dX9_string_103 : decode cX9_string 103 = .ok (.invokestatic 73, 3) := by decide +kernel
theorem dX9_string_106 : decode cX9_string 106 = .ok (.aastore, 1) := by decide +kernel
theorem dX9_string_107 : decode cX9_string 107 = .ok (.iinc 2 1, 3) := by decide +kernel
theorem dX9_string_110 : decode cX9_string 110 = .ok (.goto (-38), 3) := by decide +kernel
theorem dX9_string_113 : decode cX9_string 113 = .ok (.aload_n 0, 1) := by decide +kernel
theorem dX9_string_114 : decode cX9_string 114 = .ok (.getfield 10, 3) := by decide +kernel
theorem dX9_string_117 : decode cX9_string 117 = .ok (.iload_n 1, 1) := by decide +kernel
theorem dX9_string_118 : decode cX9_string 118 = .ok (.invokevirtual 77, 3) := by decide +kernel
theorem dX9_string_121 : decode cX9_string 121 = .ok (.aload_n 0, 1) := by decide +kernel
theorem dX9_string_122 : decode cX9_string 122 = .ok (.getfield 16, 3) := by decide +kernel
theorem dX9_string_125 : decode cX9_string 125 = .ok (.arraylength, 1) := by decide +kernel
theorem dX9_string_126 : decode cX9_string 126 = .ok (.iconst 1, 1) := by decide +kernel
theorem dX9_string_127 : decode cX9_string 127 = .ok (.isub, 1) := by decide +kernel
theorem dX9_string_128 : decode cX9_string 128 = .ok (.if_icmp .ne 7, 3) := by decide +kernel
theorem dX9_string_131 : decode cX9_string 131 = .ok (.iconst 1, 1) := by decide +kernel
theorem dX9_string_132 : decode cX9_string 132 = .ok (.goto 4, 3) := by decide +kernel
theorem dX9_string_135 : decode cX9_string 135 = .ok (.iconst 0, 1) := by decide +kernel
theorem dX9_string_136 : decode cX9_string 136 = .ok (.ireturn, 1) := by decide +kernel
theorem dX9_chord_0 : decode cX9_chord 0 = .ok (.aload_n 0, 1) := by decide +kernel
theorem dX9_chord_1 : decode cX9_chord 1 = .ok (.getfield 29, 3) := by decide +kernel
theorem dX9_chord_4 : decode cX9_chord 4 = .ok (.arraylength, 1) := by decide +kernel
theorem dX9_chord_5 : decode cX9_chord 5 = .ok (.bipush 12, 2) := by decide +kernel
theorem dX9_chord_7 : decode cX9_chord 7 = .ok (.if_icmp .eq 11, 3) := by decide +kernel
theorem dX9_chord_10 : decode cX9_chord 10 = .ok (.aload_n 0, 1) := by decide +kernel
theorem dX9_chord_11 : decode cX9_chord 11 = .ok (.getfield 16, 3) := by decide +kernel
theorem dX9_chord_14 : decode cX9_chord 14 = .ok (.arraylength, 1) := by decide +kernel
theorem dX9_chord_15 : decode cX9_chord 15 = .ok (.ifCond .ne 5, 3) := by decide +kernel
theorem dX9_chord_18 : decode cX9_chord 18 = .ok (.iconst 1, 1) := by decide +kernel
theorem dX9_chord_19 : decode cX9_chord 19 = .ok (.ireturn, 1) := by decide +kernel
theorem dX9_chord_20 : decode cX9_chord 20 = .ok (.iconst 0, 1) := by decide +kernel
theorem dX9_chord_21 : decode cX9_chord 21 = .ok (.newarray .int, 2) := by decide +kernel
theorem dX9_chord_23 : decode cX9_chord 23 = .ok (.astore_n 1, 1) := by decide +kernel
theorem dX9_chord_24 : decode cX9_chord 24 = .ok (.iconst 1, 1) := by decide +kernel
theorem dX9_chord_25 : decode cX9_chord 25 = .ok (.aload_n 0, 1) := by decide +kernel
theorem dX9_chord_26 : decode cX9_chord 26 = .ok (.iconst 4, 1) := by decide +kernel
theorem dX9_chord_27 : decode cX9_chord 27 = .ok (.invokevirtual 64, 3) := by decide +kernel
theorem dX9_chord_30 : decode cX9_chord 30 = .ok (.iadd, 1) := by decide +kernel
theorem dX9_chord_31 : decode cX9_chord 31 = .ok (.istore_n 2, 1) := by decide +kernel
theorem dX9_chord_32 : decode cX9_chord 32 = .ok (.iconst 0, 1) := by decide +kernel
theorem dX9_chord_33 : decode cX9_chord 33 = .ok (.istore_n 3, 1) := by decide +kernel
theorem dX9_chord_34 : decode cX9_chord 34 = .ok (.iload_n 3, 1) := by decide +kernel
theorem dX9_chord_35 : decode cX9_chord 35 = .ok (.iload_n 2, 1) := by decide +kernel
theorem dX9_chord_36 : decode cX9_chord 36 = .ok (.if_icmp .ge 82, 3) := by decide +kernel
theorem dX9_chord_39 : decode cX9_chord 39 = .ok (.bipush 80, 2) := by decide +kernel
theorem dX9_chord_41 : decode cX9_chord 41 = .ok (.aload_n 0, 1) := by decide +kernel
theorem dX9_chord_42 : decode cX9_chord 42 = .ok (.getfield 16, 3) := by decide +kernel
theorem dX9_chord_45 : decode cX9_chord 45 = .ok (.aload_n 0, 1) := by decide +kernel
theorem dX9_chord_46 : decode cX9_chord 46 = .ok (.aload_n 0, 1) := by decide +kernel
theorem dX9_chord_47 : decode cX9_chord 47 = .ok (.getfield 16, 3) := by decide +kernel
theorem dX9_chord_50 : decode cX9_chord 50 = .ok (.arraylength, 1) := by decide +kernel
theorem dX9_chord_51 : decode cX9_chord 51 = .ok (.invokevirtual 64, 3) := by decide +kernel
theorem dX9_chord_54 : decode cX9_chord 54 = .ok (.iaload, 1) := by decide +kernel
theorem dX9_chord_55 : decode cX9_chord 55 = .ok (.aload_n 0, 1) := by decide +kernel
theorem dX9_chord_56 : decode cX9_chord 56 = .ok (.getfield 80, 3) := by decide +kernel
theorem dX9_chord_59 : decode cX9_chord 59 = .ok (.iadd, 1) := by decide +kernel
theorem dX9_chord_60 : decode cX9_chord 60 = .ok (.aload_n 0, 1) := by decide +kernel
theorem dX9_chord_61 : decode cX9_chord 61 = .ok (.bipush 8, 2) := by decide +kernel
theorem dX9_chord_63 : decode cX9_chord 63 = .ok (.invokevirtual 64, 3) := by decide +kernel
theorem dX9_chord_66 : decode cX9_chord 66 = .ok (.iadd, 1) := by decide +kernel
theorem dX9_chord_67 : decode cX9_chord 67 = .ok (.invokestatic 68, 3) := by decide +kernel
theorem dX9_chord_70 : decode cX9_chord 70 = .ok (.istore 4, 2) := by decide +kernel
theorem dX9_chord_72 : decode cX9_chord 72 = .ok (.iconst 0, 1) := by decide +kernel
theorem dX9_chord_73 : decode cX9_chord 73 = .ok (.istore 5, 2) := by decide +kernel
theorem dX9_chord_75 : decode cX9_chord 75 = .ok (.iload 5, 2) := by decide +kernel
theorem dX9_chord_77 : decode cX9_chord 77 = .ok (.aload_n 1, 1) := by decide +kernel
theorem dX9_chord_78 : decode cX9_chord 78 = .ok (.arraylength, 1) := by decide +kernel
theorem dX9_chord_79 : decode cX9_chord 79 = .ok (.if_icmp .ge 21, 3) := by decide +kernel
theorem dX9_chord_82 : decode cX9_chord 82 = .ok (.aload_n 1, 1) := by decide +kernel
theorem dX9_chord_83 : decode cX9_chord 83 = .ok (.iload 5, 2) := by decide +kernel
theorem dX9_chord_85 : decode cX9_chord 85 = .ok (.iaload, 1) := by decide +kernel
theorem dX9_chord_86 : decode cX9_chord 86 = .ok (.iload 4, 2) := by decide +kernel
theorem dX9_chord_88 : decode cX9_chord 88 = .ok (.if_icmp .ne 6, 3) := by decide +kernel
theorem dX9_chord_91 : decode cX9_chord 91 = .ok (.iconst (-1), 1) := by decide +kernel
theorem dX9_chord_92 : decode cX9_chord 92 = .ok (.istore 4, 2) := by decide +kernel
theorem dX9_chord_94 : decode cX9_chord 94 = .ok (.iinc 5 1, 3) := by decide +kernel
theorem dX9_chord_97 : decode cX9_chord 97 = .ok (.goto (-22), 3) := by decide +kernel
theorem dX9_chord_100 : decode cX9_chord 100 = .ok (.iload 4, 2) := by decide +kernel
theorem dX9_chord_102 : decode cX9_chord 102 = .ok (.ifCond .lt 10, 3) := by decide +kernel
theorem dX9_chord_105 : decode cX9_chord 105 = .ok (.aload_n 1, 1) := by decide +kernel
theorem dX9_chord_106 : decode cX9_chord 106 = .ok (.iload 4, 2) := by decide +kernel
theorem dX9_chord_108 : decode cX9_chord 108 = .ok (.invokestatic 73, 3) := by decide +kernel
theorem dX9_chord_111 : decode cX9_chord 111 = .ok (.astore_n 1, 1) := by decide +kernel
theorem dX9_chord_112 : decode cX9_chord 112 = .ok (.iinc 3 1, 3) := by decide +kernel
theorem dX9_chord_115 : decode cX9_chord 115 = .ok (.goto (-81), 3) := by decide +kernel
theorem dX9_chord_118 : decode cX9_chord 118 = .ok (.iconst 1, 1) := by decide +kernel
theorem dX9_chord_119 : decode cX9_chord 119 = .ok (.aload_n 0, 1) := by decide +kernel
theorem dX9_chord_120 : decode cX9_chord 120 = .ok (.iconst 3, 1) := by decide +kernel
theorem dX9_chord_121 : decode cX9_chord 121 = .ok (.invokevirtual 64, 3) := by decide +kernel
theorem dX9_chord_124 : decode cX9_chord 124 = .ok (.iadd, 1) := by decide +kernel
theorem dX9_chord_125 : decode cX9_chord 125 = .ok (.istore_n 3, 1) := by decide +kernel
theorem dX9_chord_126 : decode cX9_chord 126 = .ok (.iconst 4, 1) := by decide +kernel
theorem dX9_chord_127 : decode cX9_chord 127 = .ok (.newarray .int, 2) := by decide +kernel
theorem dX9_chord_129 : decode cX9_chord 129 = .ok (.dup, 1) := by decide +kernel
theorem dX9_chord_130 : decode cX9_chord 130 = .ok (.iconst 0, 1) := by decide +kernel
theorem dX9_chord_131 : decode cX9_chord 131 = .ok (.iconst (-1), 1) := by decide +kernel
theorem dX9_chord_132 : decode cX9_chord 132 = .ok (.iastore, 1) := by decide +kernel
theorem dX9_chord_133 : decode cX9_chord 133 = .ok (.dup, 1) := by decide +kernel
theorem dX9_chord_134 : decode cX9_chord 134 = .ok (.iconst 1, 1) := by decide +kernel
theorem dX9_chord_135 : decode cX9_chord 135 = .ok (.iconst (-1), 1) := by decide +kernel
theorem dX9_chord_136 : decode cX9_chord 136 = .ok (.iastore, 1) := by decide +kernel
theorem dX9_chord_137 : decode cX9_chord 137 = .ok (.dup, 1) := by decide +kernel
theorem dX9_chord_138 : decode cX9_chord 138 = .ok (.iconst 2, 1) := by decide +kernel
theorem dX9_chord_139 : decode cX9_chord 139 = .ok (.iconst (-1), 1) := by decide +kernel
theorem dX9_chord_140 : decode cX9_chord 140 = .ok (.iastore, 1) := by decide +kernel
theorem dX9_chord_141 : decode cX9_chord 141 = .ok (.dup, 1) := by decide +kernel
theorem dX9_chord_142 : decode cX9_chord 142 = .ok (.iconst 3, 1) := by decide +kernel
theorem dX9_chord_143 : decode cX9_chord 143 = .ok (.iconst (-1), 1) := by decide +kernel
theorem dX9_chord_144 : decode cX9_chord 144 = .ok (.iastore, 1) := by decide +kernel
theorem dX9_chord_145 : decode cX9_chord 145 = .ok (.astore 4, 2) := by decide +kernel
theorem dX9_chord_147 : decode cX9_chord 147 = .ok (.aload_n 1, 1) := by decide +kernel
theorem dX9_chord_148 : decode cX9_chord 148 = .ok (.iconst 0, 1) := by decide +kernel
theorem dX9_chord_149 : decode cX9_chord 149 = .ok (.aload 4, 2) := by decide +kernel
theorem dX9_chord_151 : decode cX9_chord 151 = .ok (.iconst 0, 1) := by decide +kernel
theorem dX9_chord_152 : decode cX9_chord 152 = .ok (.aload_n 1, 1) := by decide +kernel
theorem dX9_chord_153 : decode cX9_chord 153 = .ok (.arraylength, 1) := by decide +kernel
theorem dX9_chord_154 : decode cX9_chord 154 = .ok (.invokestatic 58, 3) := by decide +kernel
theorem dX9_chord_157 : decode cX9_chord 157 = .ok (.aload_n 0, 1) := by decide +kernel
theorem dX9_chord_158 : decode cX9_chord 158 = .ok (.aload_n 0, 1) := by decide +kernel
theorem dX9_chord_159 : decode cX9_chord 159 = .ok (.getfield 29, 3) := by decide +kernel
theorem dX9_chord_162 : decode cX9_chord 162 = .ok (.aload_n 1, 1) := by decide +kernel
theorem dX9_chord_163 : decode cX9_chord 163 = .ok (.aload_n 0, 1) := by decide +kernel
theorem dX9_chord_164 : decode cX9_chord 164 = .ok (.getfield 29, 3) := by decide +kernel
theorem dX9_chord_167 : decode cX9_chord 167 = .ok (.arraylength, 1) := by decide +kernel
theorem dX9_chord_168 : decode cX9_chord 168 = .ok (.invokestatic 83, 3) := by decide +kernel
theorem dX9_chord_171 : decode cX9_chord 171 = .ok (.putfield 29, 3) := by decide +kernel
theorem dX9_chord_174 : decode cX9_chord 174 = .ok (.aload_n 0, 1) := by decide +kernel
theorem dX9_chord_175 : decode cX9_chord 175 = .ok (.aload_n 0, 1) := by decide +kernel
theorem dX9_chord_176 : decode cX9_chord 176 = .ok (.getfield 33, 3) := by decide +kernel
theorem dX9_chord_179 : decode cX9_chord 179 = .ok (.iload_n 3, 1) := by decide +kernel
theorem dX9_chord_180 : decode cX9_chord 180 = .ok (.invokestatic 73, 3) := by decide +kernel
theorem dX9_chord_183 : decode cX9_chord 183 = .ok (.putfield 33, 3) := by decide +kernel
theorem dX9_chord_186 : decode cX9_chord 186 = .ok (.aload_n 0, 1) := by decide +kernel
theorem dX9_chord_187 : decode cX9_chord 187 = .ok (.aload_n 0, 1) := by decide +kernel
theorem dX9_chord_188 : decode cX9_chord 188 = .ok (.getfield 36, 3) := by decide +kernel
theorem dX9_chord_191 : decode cX9_chord 191 = .ok (.iconst 0, 1) := by decide +kernel
theorem dX9_chord_192 : decode cX9_chord 192 = .ok (.newarray .int, 2) := by decide +kernel
theorem dX9_chord_194 : decode cX9_chord 194 = .ok (.aload_n 0, 1) := by decide +kernel
theorem dX9_chord_195 : decode cX9_chord 195 = .ok (.getfield 36, 3) := by decide +kernel
theorem dX9_chord_198 : decode cX9_chord 198 = .ok (.arraylength, 1) := by decide +kernel
theorem dX9_chord_199 : decode cX9_chord 199 = .ok (.invokestatic 83, 3) := by decide +kernel
theorem dX9_chord_202 : decode cX9_chord 202 = .ok (.putfield 36, 3) := by decide +kernel
theorem dX9_chord_205 : decode cX9_chord 205 = .ok (.aload_n 0, 1) := by decide +kernel
theorem dX9_chord_206 : decode cX9_chord 206 = .ok (.getfield 10, 3) := by decide +kernel
theorem dX9_chord_209 : decode cX9_chord 209 = .ok (.aload 4, 2) := by decide +kernel
theorem dX9_chord_211 : decode cX9_chord 211 = .ok (.iconst 0, 1) := by decide +kernel
theorem dX9_chord_212 : decode cX9_chord 212 = .ok (.iaload, 1) := by decide +kernel
theorem dX9_chord_213 : decode cX9_chord 213 = .ok (.aload 4, 2) := by decide +kernel
theorem dX9_chord_215 : decode cX9_chord 215 = .ok (.iconst 1, 1) := by decide +kernel
theorem dX9_chord_216 : decode cX9_chord 216 = .ok (.iaload, 1) := by decide +kernel
theorem dX9_chord_217 : decode cX9_chord 217 = .ok (.aload 4, 2) := by decide +kernel
theorem dX9_chord_219 : decode cX9_chord 219 = .ok (.iconst 2, 1) := by decide +kernel
theorem dX9_chord_220 : decode cX9_chord 220 = .ok (.iaload, 1) := by decide +kernel
theorem dX9_chord_221 : decode cX9_chord 221 = .ok (.aload 4, 2) := by decide +kernel
theorem dX9_chord_223 : decode cX9_chord 223 = .ok (.iconst 3, 1) := by decide +kernel
theorem dX9_chord_224 : decode cX9_chord 224 = .ok (.iaload, 1) := by decide +kernel
theorem dX9_chord_225 : decode cX9_chord 225 = .ok (.iload_n 3, 1) := by decide +kernel
theorem dX9_chord_226 : decode cX9_chord 226 = .ok (.invokevirtual 87, 3) := by decide +kernel
theorem dX9_chord_229 : decode cX9_chord 229 = .ok (.aload_n 0, 1) := by decide +kernel
theorem dX9_chord_230 : decode cX9_chord 230 = .ok (.getfield 29, 3) := by decide +kernel
theorem dX9_chord_233 : decode cX9_chord 233 = .ok (.arraylength, 1) := by decide +kernel
theorem dX9_chord_234 : decode cX9_chord 234 = .ok (.iconst 1, 1) := by decide +kernel
theorem dX9_chord_235 : decode cX9_chord 235 = .ok (.isub, 1) := by decide +kernel
theorem dX9_chord_236 : decode cX9_chord 236 = .ok (.if_icmp .ne 7, 3) := by decide +kernel
theorem dX9_chord_239 : decode cX9_chord 239 = .ok (.iconst 1, 1) := by decide +kernel
theorem dX9_chord_240 : decode cX9_chord 240 = .ok (.goto 4, 3) := by decide +kernel
theorem dX9_chord_243 : decode cX9_chord 243 = .ok (.iconst 0, 1) := by decide +kernel
theorem dX9_chord_244 : decode cX9_chord 244 = .ok (.ireturn, 1) := by decide +kernel
theorem dX9_change_0 : decode cX9_change 0 = .ok (.aload_n 0, 1) := by decide +kernel
theorem dX9_change_1 : decode cX9_change 1 = .ok (.iconst 4, 1) := by decide +kernel
theorem dX9_change_2 : decode cX9_change 2 = .ok (.invokevirtual 64, 3) := by decide +kernel
theorem dX9_change_5 : decode cX9_change 5 = .ok (.tableswitch 205 0 2 #[27, 62, 99], 27) := by decide +kernel
theorem dX9_change_32 : decode cX9_change 32 = .ok (.aload_n 0, 1) := by decide +kernel
theorem dX9_change_33 : decode cX9_change 33 = .ok (.getfield 80, 3) := by decide +kernel
theorem dX9_change_36 : decode cX9_change 36 = .ok (.istore_n 1, 1) := by decide +kernel
theorem dX9_change_37 : decode cX9_change 37 = .ok (.aload_n 0, 1) := by decide +kernel
theorem dX9_change_38 : decode cX9_change 38 = .ok (.aload_n 0, 1) := by decide +kernel
theorem dX9_change_39 : decode cX9_change 39 = .ok (.iconst 4, 1) := by decide +kernel
theorem dX9_change_40 : decode cX9_change 40 = .ok (.invokevirtual 64, 3) := by decide +kernel
theorem dX9_change_43 : decode cX9_change 43 = .ok (.putfield 80, 3) := by decide +kernel
theorem dX9_change_46 : decode cX9_change 46 = .ok (.aload_n 0, 1) := by decide +kernel
theorem dX9_change_47 : decode cX9_change 47 = .ok (.getfield 10, 3) := by decide +kernel
theorem dX9_change_50 : decode cX9_change 50 = .ok (.aload_n 0, 1) := by decide +kernel
theorem dX9_change_51 : decode cX9_change 51 = .ok (.getfield 80, 3) := by decide +kernel
theorem dX9_change_54 : decode cX9_change 54 = .ok (.invokevirtual 94, 3) := by decide +kernel
theorem dX9_change_57 : decode cX9_change 57 = .ok (.iload_n 1, 1) := by decide +kernel
theorem dX9_change_58 : decode cX9_change 58 = .ok (.if_icmp .ne 7, 3) := by decide +kernel
theorem dX9_change_61 : decode cX9_change 61 = .ok (.iconst 1, 1) := by decide +kernel
theorem dX9_change_62 : decode cX9_change 62 = .ok (.goto 4, 3) := by decide +kernel
theorem dX9_change_65 : decode cX9_change 65 = .ok (.iconst 0, 1) := by decide +kernel
theorem dX9_change_66 : decode cX9_change 66 = .ok (.ireturn, 1) := by decide +kernel
theorem dX9_change_67 : decode cX9_change 67 = .ok (.aload_n 0, 1) := by decide +kernel
theorem dX9_change_68 : decode cX9_change 68 = .ok (.getfield 24, 3) := by decide +kernel
theorem dX9_change_71 : decode cX9_change 71 = .ok (.istore_n 1, 1) := by decide +kernel
theorem dX9_change_72 : decode cX9_change 72 = .ok (.aload_n 0, 1) := by decide +kernel
theorem dX9_change_73 : decode cX9_change 73 = .ok (.iconst 1, 1) := by decide +kernel
theorem dX9_change_74 : decode cX9_change 74 = .ok (.aload_n 0, 1) := by decide +kernel
theorem dX9_change_75 : decode cX9_change 75 = .ok (.iconst 5, 1) := by decide +kernel
theorem dX9_change_76 : decode cX9_change 76 = .ok (.invokevirtual 64, 3) := by decide +kernel
theorem dX9_change_79 : decode cX9_change 79 = .ok (.iadd, 1) := by decide +kernel
theorem dX9_change_80 : decode cX9_change 80 = .ok (.putfield 24, 3) := by decide +kernel
theorem dX9_change_83 : decode cX9_change 83 = .ok (.aload_n 0, 1) := by decide +kernel
theorem dX9_change_84 : decode cX9_change 84 = .ok (.getfield 10, 3) := by decide +kernel
theorem dX9_change_87 : decode cX9_change 87 = .ok (.aload_n 0, 1) := by decide +kernel
theorem dX9_change_88 : decode cX9_change 88 = .ok (.getfield 24, 3) := by decide +kernel
theorem dX9_change_91 : decode cX9_change 91 = .ok (.invokevirtual 96, 3) := by decide +kernel
theorem dX9_change_94 : decode cX9_change 94 = .ok (.iload_n 1, 1) := by decide +kernel
theorem dX9_change_95 : decode cX9_change 95 = .ok (.if_icmp .ne 7, 3) := by decide +kernel
theorem dX9_change_98 : decode cX9_change 98 = .ok (.iconst 1, 1) := by decide +kernel
theorem dX9_change_99 : decode cX9_change 99 = .ok (.goto 4, 3) := by decide +kernel
theorem dX9_change_102 : decode cX9_change 102 = .ok (.iconst 0, 1) := by decide +kernel
theorem dX9_change_103 : decode cX9_change 103 = .ok (.ireturn, 1) := by decide +kernel
theorem dX9_change_104 : decode cX9_change 104 = .ok (.aload_n 0, 1) := by decide +kernel
theorem dX9_change_105 : decode cX9_change 105 = .ok (.getfield 16, 3) := by decide +kernel
theorem dX9_change_108 : decode cX9_change 108 = .ok (.arraylength, 1) := by decide +kernel
theorem dX9_change_109 : decode cX9_change 109 = .ok (.ifCond .ne 5, 3) := by decide +kernel
theorem dX9_change_112 : decode cX9_change 112 = .ok (.iconst 1, 1) := by decide +kernel
theorem dX9_change_113 : decode cX9_change 113 = .ok (.ireturn, 1) := by decide +kernel
theorem dX9_change_114 : decode cX9_change 114 = .ok (.aload_n 0, 1) := by decide +kernel
theorem dX9_change_115 : decode cX9_change 115 = .ok (.aload_n 0, 1) := by decide +kernel
theorem dX9_change_116 : decode cX9_change 116 = .ok (.getfield 16, 3) := by decide +kernel
theorem dX9_change_119 : decode cX9_change 119 = .ok (.arraylength, 1) := by decide +kernel
theorem dX9_change_120 : decode cX9_change 120 = .ok (.invokevirtual 64, 3) := by decide +kernel
theorem dX9_change_123 : decode cX9_change 123 = .ok (.istore_n 2, 1) := by decide +kernel
theorem dX9_change_124 : decode cX9_change 124 = .ok (.aload_n 0, 1) := by decide +kernel
theorem dX9_change_125 : decode cX9_change 125 = .ok (.getfield 20, 3) := by decide +kernel
theorem dX9_change_128 : decode cX9_change 128 = .ok (.iload_n 2, 1) := by decide +kernel
theorem dX9_change_129 : decode cX9_change 129 = .ok (.aload_n 0, 1) := by decide +kernel
theorem dX9_change_130 : decode cX9_change 130 = .ok (.iconst 3, 1) := by decide +kernel
theorem dX9_change_131 : decode cX9_change 131 = .ok (.invokevirtual 64, 3) := by decide +kernel
theorem dX9_change_134 : decode cX9_change 134 = .ok (.ifCond .ne 7, 3) := by decide +kernel
theorem dX9_change_137 : decode cX9_change 137 = .ok (.iconst 1, 1) := by decide +kernel
theorem dX9_change_138 : decode cX9_change 138 = .ok (.goto 4, 3) := by decide +kernel
theorem dX9_change_141 : decode cX9_change 141 = .ok (.iconst 0, 1) := by decide +kernel
theorem dX9_change_142 : decode cX9_change 142 = .ok (.bastore, 1) := by decide +kernel
theorem dX9_change_143 : decode cX9_change 143 = .ok (.aload_n 0, 1) := by decide +kernel
theorem dX9_change_144 : decode cX9_change 144 = .ok (.getfield 16, 3) := by decide +kernel
theorem dX9_change_147 : decode cX9_change 147 = .ok (.arraylength, 1) := by decide +kernel
theorem dX9_change_148 : decode cX9_change 148 = .ok (.istore_n 3, 1) := by decide +kernel
theorem dX9_change_149 : decode cX9_change 149 = .ok (.iconst 0, 1) := by decide +kernel
theorem dX9_change_150 : decode cX9_change 150 = .ok (.istore 4, 2) := by decide +kernel
theorem dX9_change_152 : decode cX9_change 152 = .ok (.iload 4, 2) := by decide +kernel
theorem dX9_change_154 : decode cX9_change 154 = .ok (.aload_n 0, 1) := by decide +kernel
theorem dX9_change_155 : decode cX9_change 155 = .ok (.getfield 16, 3) := by decide +kernel
theorem dX9_change_158 : decode cX9_change 158 = .ok (.arraylength, 1) := by decide +kernel
theorem dX9_change_159 : decode cX9_change 159 = .ok (.if_icmp .ge 27, 3) := by decide +kernel
theorem dX9_change_162 : decode cX9_change 162 = .ok (.iload_n 3, 1) := by decide +kernel
theorem dX9_change_163 : decode cX9_change 163 = .ok (.aload_n 0, 1) := by decide +kernel
theorem dX9_change_164 : decode cX9_change 164 = .ok (.getfield 20, 3) := by decide +kernel
theorem dX9_change_167 : decode cX9_change 167 = .ok (.iload 4, 2) := by decide +kernel
theorem dX9_change_169 : decode cX9_change 169 = .ok (.baload, 1) := by decide +kernel
theorem dX9_change_170 : decode cX9_change 170 = .ok (.ifCond .eq 7, 3) := by decide +kernel
theorem dX9_change_173 : decode cX9_change 173 = .ok (.iconst 1, 1) := by decide +kernel
theorem dX9_change_174 : decode cX9_change 174 = .ok (.goto 4, 3) := by decide +kernel
theorem dX9_change_177 : decode cX9_change 177 = .ok (.iconst 0, 1) := by decide +kernel
theorem dX9_change_178 : decode cX9_change 178 = .ok (.isub, 1) := by decide +kernel
theorem dX9_change_179 : decode cX9_change 179 = .ok (.istore_n 3, 1) := by decide +kernel
theorem dX9_change_180 : decode cX9_change 180 = .ok (.iinc 4 1, 3) := by decide +kernel
theorem dX9_change_183 : decode cX9_change 183 = .ok (.goto (-31), 3) := by decide +kernel
theorem dX9_change_186 : decode cX9_change 186 = .ok (.aload_n 0, 1) := by decide +kernel
theorem dX9_change_187 : decode cX9_change 187 = .ok (.getfield 10, 3) := by decide +kernel
theorem dX9_change_190 : decode cX9_change 190 = .ok (.iload_n 2, 1) := by decide +kernel
theorem dX9_change_191 : decode cX9_change 191 = .ok (.aload_n 0, 1) := by decide +kernel
theorem dX9_change_192 : decode cX9_change 192 = .ok (.getfield 20, 3) := by decide +kernel
theorem dX9_change_195 : decode cX9_change 195 = .ok (.iload_n 2, 1) := by decide +kernel
theorem dX9_change_196 : decode cX9_change 196 = .ok (.baload, 1) := by decide +kernel
theorem dX9_change_197 : decode cX9_change 197 = .ok (.invokevirtual 98, 3) := by decide +kernel
theorem dX9_change_200 : decode cX9_change 200 = .ok (.iload_n 3, 1) := by decide +kernel
theorem dX9_change_201 : decode cX9_change 201 = .ok (.if_icmp .ne 7, 3) := by decide +kernel
theorem dX9_change_204 : decode cX9_change 204 = .ok (.iconst 1, 1) := by decide +kernel
theorem dX9_change_205 : decode cX9_change 205 = .ok (.goto 4, 3) := by decide +kernel
theorem dX9_change_208 : decode cX9_change 208 = .ok (.iconst 0, 1) := by decide +kernel
theorem dX9_change_209 : decode cX9_change 209 = .ok (.ireturn, 1) := by decide +kernel
theorem dX9_change_210 : decode cX9_change 210 = .ok (.aload_n 0, 1) := by decide +kernel
theorem dX9_change_211 : decode cX9_change 211 = .ok (.getfield 16, 3) := by decide +kernel
theorem dX9_change_214 : decode cX9_change 214 = .ok (.arraylength, 1) := by decide +kernel
theorem dX9_change_215 : decode cX9_change 215 = .ok (.ifCond .ne 5, 3) := by decide +kernel
theorem dX9_change_218 : decode cX9_change 218 = .ok (.iconst 1, 1) := by decide +kernel
theorem dX9_change_219 : decode cX9_change 219 = .ok (.ireturn, 1) := by decide +kernel
theorem dX9_change_220 : decode cX9_change 220 = .ok (.aload_n 0, 1) := by decide +kernel
theorem dX9_change_221 : decode cX9_change 221 = .ok (.aload_n 0, 1) := by decide +kernel
theorem dX9_change_222 : decode cX9_change 222 = .ok (.getfield 16, 3) := by decide +kernel
theorem dX9_change_225 : decode cX9_change 225 = .ok (.arraylength, 1) := by decide +kernel
theorem dX9_change_226 : decode cX9_change 226 = .ok (.invokevirtual 64, 3) := by decide +kernel
theorem dX9_change_229 : decode cX9_change 229 = .ok (.istore 4, 2) := by decide +kernel
theorem dX9_change_231 : decode cX9_change 231 = .ok (.aload_n 0, 1) := by decide +kernel
theorem dX9_change_232 : decode cX9_change 232 = .ok (.getfield 16, 3) := by decide +kernel
theorem dX9_change_235 : decode cX9_change 235 = .ok (.iload 4, 2) := by decide +kernel
theorem dX9_change_237 : decode cX9_change 237 = .ok (.iaload, 1) := by decide +kernel
theorem dX9_change_238 : decode cX9_change 238 = .ok (.istore_n 1, 1) := by decide +kernel
theorem dX9_change_239 : decode cX9_change 239 = .ok (.aload_n 0, 1) := by decide +kernel
theorem dX9_change_240 : decode cX9_change 240 = .ok (.getfield 16, 3) := by decide +kernel
theorem dX9_change_243 : decode cX9_change 243 = .ok (.iload 4, 2) := by decide +kernel
theorem dX9_change_245 : decode cX9_change 245 = .ok (.iconst 0, 1) := by decide +kernel
theorem dX9_change_246 : decode cX9_change 246 = .ok (.bipush 60, 2) := by decide +kernel
theorem dX9_change_248 : decode cX9_change 248 = .ok (.iload_n 1, 1) := by decide +kernel
theorem dX9_change_249 : decode cX9_change 249 = .ok (.aload_n 0, 1) := by decide +kernel
theorem dX9_change_250 : decode cX9_change 250 = .ok (.iconst 5, 1) := by decide +kernel
theorem dX9_change_251 : decode cX9_change 251 = .ok (.invokevirtual 64, 3) := by decide +kernel
theorem dX9_change_254 : decode cX9_change 254 = .ok (.iadd, 1) := by decide +kernel
theorem dX9_change_255 : decode cX9_change 255 = .ok (.iconst 2, 1) := by decide +kernel
theorem dX9_change_256 : decode cX9_change 256 = .ok (.isub, 1) := by decide +kernel
theorem dX9_change_257 : decode cX9_change 257 = .ok (.invokestatic 68, 3) := by decide +kernel
theorem dX9_change_260 : decode cX9_change 260 = .ok (.invokestatic 102, 3) := by decide +kernel
theorem dX9_change_263 : decode cX9_change 263 = .ok (.iastore, 1) := by decide +kernel
theorem dX9_change_264 : decode cX9_change 264 = .ok (.aload_n 0, 1) := by decide +kernel
theorem dX9_change_265 : decode cX9_change 265 = .ok (.getfield 10, 3) := by decide +kernel
theorem dX9_change_268 : decode cX9_change 268 = .ok (.iload 4, 2) := by decide +kernel
theorem dX9_change_270 : decode cX9_change 270 = .ok (.aload_n 0, 1) := by decide +kernel
theorem dX9_change_271 : decode cX9_change 271 = .ok (.getfield 16, 3) := by decide +kernel
theorem dX9_change_274 : decode cX9_change 274 = .ok (.iload 4, 2) := by decide +kernel
theorem dX9_change_276 : decode cX9_change 276 = .ok (.iaload, 1) := by decide +kernel
theorem dX9_change_277 : decode cX9_change 277 = .ok (.invokevirtual 105, 3) := by decide +kernel
theorem dX9_change_280 : decode cX9_change 280 = .ok (.iload_n 1, 1) := by decide +kernel
theorem dX9_change_281 : decode cX9_change 281 = .ok (.if_icmp .ne 7, 3) := by decide +kernel
theorem dX9_change_284 : decode cX9_change 284 = .ok (.iconst 1, 1) := by decide +kernel
theorem dX9_change_285 : decode cX9_change 285 = .ok (.goto 4, 3) := by decide +kernel
theorem dX9_change_288 : decode cX9_change 288 = .ok (.iconst 0, 1) := by decide +kernel
theorem dX9_change_289 : decode cX9_change 289 = .ok (.ireturn, 1) := by decide +kernel
theorem dX9_low_0 : decode cX9_low 0 = .ok (.bipush 99, 2) := by decide +kernel
theorem dX9_low_2 : decode cX9_low 2 = .ok (.istore_n 1, 1) := by decide +kernel
theorem dX9_low_3 : decode cX9_low 3 = .ok (.aload_n 0, 1) := by decide +kernel
theorem dX9_low_4 : decode cX9_low 4 = .ok (.astore_n 2, 1) := by decide +kernel
theorem dX9_low_5 : decode cX9_low 5 = .ok (.aload_n 2, 1) := by decide +kernel
theorem dX9_low_6 : decode cX9_low 6 = .ok (.arraylength, 1) := by decide +kernel
theorem dX9_low_7 : decode cX9_low 7 = .ok (.istore_n 3, 1) := by decide +kernel
theorem dX9_low_8 : decode cX9_low 8 = .ok (.iconst 0, 1) := by decide +kernel
theorem dX9_low_9 : decode cX9_low 9 = .ok (.istore 4, 2) := by decide +kernel
theorem dX9_low_11 : decode cX9_low 11 = .ok (.iload 4, 2) := by decide +kernel
theorem dX9_low_13 : decode cX9_low 13 = .ok (.iload_n 3, 1) := by decide +kernel
theorem dX9_low_14 : decode cX9_low 14 = .ok (.if_icmp .ge 31, 3) := by decide +kernel
theorem dX9_low_17 : decode cX9_low 17 = .ok (.aload_n 2, 1) := by decide +kernel
theorem dX9_low_18 : decode cX9_low 18 = .ok (.iload 4, 2) := by decide +kernel
theorem dX9_low_20 : decode cX9_low 20 = .ok (.iaload, 1) := by decide +kernel
theorem dX9_low_21 : decode cX9_low 21 = .ok (.istore 5, 2) := by decide +kernel
theorem dX9_low_23 : decode cX9_low 23 = .ok (.iload 5, 2) := by decide +kernel
theorem dX9_low_25 : decode cX9_low 25 = .ok (.ifCond .le 12, 3) := by decide +kernel
theorem dX9_low_28 : decode cX9_low 28 = .ok (.iload_n 1, 1) := by decide +kernel
theorem dX9_low_29 : decode cX9_low 29 = .ok (.iload 5, 2) := by decide +kernel
theorem dX9_low_31 : decode cX9_low 31 = .ok (.invokestatic 68, 3) := by decide +kernel
theorem dX9_low_34 : decode cX9_low 34 = .ok (.goto 4, 3) := by decide +kernel
theorem dX9_low_37 : decode cX9_low 37 = .ok (.iload_n 1, 1) := by decide +kernel
theorem dX9_low_38 : decode cX9_low 38 = .ok (.istore_n 1, 1) := by decide +kernel
theorem dX9_low_39 : decode cX9_low 39 = .ok (.iinc 4 1, 3) := by decide +kernel
theorem dX9_low_42 : decode cX9_low 42 = .ok (.goto (-31), 3) := by decide +kernel
theorem dX9_low_45 : decode cX9_low 45 = .ok (.iload_n 1, 1) := by decide +kernel
theorem dX9_low_46 : decode cX9_low 46 = .ok (.bipush 99, 2) := by decide +kernel
theorem dX9_low_48 : decode cX9_low 48 = .ok (.if_icmp .ne 7, 3) := by decide +kernel
theorem dX9_low_51 : decode cX9_low 51 = .ok (.iconst 0, 1) := by decide +kernel
theorem dX9_low_52 : decode cX9_low 52 = .ok (.goto 4, 3) := by decide +kernel
theorem dX9_low_55 : decode cX9_low 55 = .ok (.iload_n 1, 1) := by decide +kernel
theorem dX9_low_56 : decode cX9_low 56 = .ok (.ireturn, 1) := by decide +kernel
theorem dX9_high_0 : decode cX9_high 0 = .ok (.iconst 0, 1) := by decide +kernel
theorem dX9_high_1 : decode cX9_high 1 = .ok (.istore_n 1, 1) := by decide +kernel
theorem dX9_high_2 : decode cX9_high 2 = .ok (.aload_n 0, 1) := by decide +kernel
theorem dX9_high_3 : decode cX9_high 3 = .ok (.astore_n 2, 1) := by decide +kernel
theorem dX9_high_4 : decode cX9_high 4 = .ok (.aload_n 2, 1) := by decide +kernel
theorem dX9_high_5 : decode cX9_high 5 = .ok (.arraylength, 1) := by decide +kernel
theorem dX9_high_6 : decode cX9_high 6 = .ok (.istore_n 3, 1) := by decide +kernel
theorem dX9_high_7 : decode cX9_high 7 = .ok (.iconst 0, 1) := by decide +kernel
theorem dX9_high_8 : decode cX9_high 8 = .ok (.istore 4, 2) := by decide +kernel
theorem dX9_high_10 : decode cX9_high 10 = .ok (.iload 4, 2) := by decide +kernel
theorem dX9_high_12 : decode cX9_high 12 = .ok (.iload_n 3, 1) := by decide +kernel
theorem dX9_high_13 : decode cX9_high 13 = .ok (.if_icmp .ge 28, 3) := by decide +kernel
theorem dX9_high_16 : decode cX9_high 16 = .ok (.aload_n 2, 1) := by decide +kernel
theorem dX9_high_17 : decode cX9_high 17 = .ok (.iload 4, 2) := by decide +kernel
theorem dX9_high_19 : decode cX9_high 19 = .ok (.iaload, 1) := by decide +kernel
theorem dX9_high_20 : decode cX9_high 20 = .ok (.istore 5, 2) := by decide +kernel
theorem dX9_high_22 : decode cX9_high 22 = .ok (.iload 5, 2) := by decide +kernel
theorem dX9_high_24 : decode cX9_high 24 = .ok (.iload_n 1, 1) := by decide +kernel
theorem dX9_high_25 : decode cX9_high 25 = .ok (.if_icmp .le 8, 3) := by decide +kernel
theorem dX9_high_28 : decode cX9_high 28 = .ok (.iload 5, 2) := by decide +kernel
theorem dX9_high_30 : decode cX9_high 30 = .ok (.goto 4, 3) := by decide +kernel
theorem dX9_high_33 : decode cX9_high 33 = .ok (.iload_n 1, 1) := by decide +kernel
theorem dX9_high_34 : decode cX9_high 34 = .ok (.istore_n 1, 1) := by decide +kernel
theorem dX9_high_35 : decode cX9_high 35 = .ok (.iinc 4 1, 3) := by decide +kernel
theorem dX9_high_38 : decode cX9_high 38 = .ok (.goto (-28), 3) := by decide +kernel
theorem dX9_high_41 : decode cX9_high 41 = .ok (.iload_n 1, 1) := by decide +kernel
theorem dX9_high_42 : decode cX9_high 42 = .ok (.ireturn, 1) := by decide +kernel
theorem dX9_hasBarre_0 : decode cX9_hasBarre 0 = .ok (.iconst (-1), 1) := by decide +kernel
theorem dX9_hasBarre_1 : decode cX9_hasBarre 1 = .ok (.istore_n 1, 1) := by decide +kernel
theorem dX9_hasBarre_2 : decode cX9_hasBarre 2 = .ok (.iconst 0, 1) := by decide +kernel
theorem dX9_hasBarre_3 : decode cX9_hasBarre 3 = .ok (.istore_n 2, 1) := by decide +kernel
theorem dX9_hasBarre_4 : decode cX9_hasBarre 4 = .ok (.iload_n 2, 1) := by decide +kernel
theorem dX9_hasBarre_5 : decode cX9_hasBarre 5 = .ok (.aload_n 0, 1) := by decide +kernel
theorem dX9_hasBarre_6 : decode cX9_hasBarre 6 = .ok (.arraylength, 1) := by decide +kernel
theorem dX9_hasBarre_7 : decode cX9_hasBarre 7 = .ok (.if_icmp .ge 133, 3) := by decide +kernel
theorem dX9_hasBarre_10 : decode cX9_hasBarre 10 = .ok (.aload_n 0, 1) := by decide +kernel
theorem dX9_hasBarre_11 : decode cX9_hasBarre 11 = .ok (.invokestatic 108, 3) := by decide +kernel
theorem dX9_hasBarre_14 : decode cX9_hasBarre 14 = .ok (.ifCond .eq 120, 3) := by decide +kernel
theorem dX9_hasBarre_17 : decode cX9_hasBarre 17 = .ok (.aload_n 0, 1) := by decide +kernel
theorem dX9_hasBarre_18 : decode cX9_hasBarre 18 = .ok (.iload_n 2, 1) := by decide +kernel
theorem dX9_hasBarre_19 : decode cX9_hasBarre 19 = .ok (.iaload, 1) := by decide +kernel
theorem dX9_hasBarre_20 : decode cX9_hasBarre 20 = .ok (.aload_n 0, 1) := by decide +kernel
theorem dX9_hasBarre_21 : decode cX9_hasBarre 21 = .ok (.invokestatic 108, 3) := by decide +kernel
theorem dX9_hasBarre_24 : decode cX9_hasBarre 24 = .ok (.if_icmp .eq 6, 3) := by decide +kernel
theorem dX9_hasBarre_27 : decode cX9_hasBarre 27 = .ok (.goto 107, 3) := by decide +kernel
theorem dX9_hasBarre_30 : decode cX9_hasBarre 30 = .ok (.iconst 0, 1) := by decide +kernel
theorem dX9_hasBarre_31 : decode cX9_hasBarre 31 = .ok (.istore_n 3, 1) := by decide +kernel
theorem dX9_hasBarre_32 : decode cX9_hasBarre 32 = .ok (.iload_n 1, 1) := by decide +kernel
theorem dX9_hasBarre_33 : decode cX9_hasBarre 33 = .ok (.iconst 1, 1) := by decide +kernel
theorem dX9_hasBarre_34 : decode cX9_hasBarre 34 = .ok (.iadd, 1) := by decide +kernel
theorem dX9_hasBarre_35 : decode cX9_hasBarre 35 = .ok (.istore 4, 2) := by decide +kernel
theorem dX9_hasBarre_37 : decode cX9_hasBarre 37 = .ok (.iload 4, 2) := by decide +kernel
theorem dX9_hasBarre_39 : decode cX9_hasBarre 39 = .ok (.iload_n 2, 1) := by decide +kernel
theorem dX9_hasBarre_40 : decode cX9_hasBarre 40 = .ok (.if_icmp .ge 24, 3) := by decide +kernel
theorem dX9_hasBarre_43 : decode cX9_hasBarre 43 = .ok (.iload_n 3, 1) := by decide +kernel
theorem dX9_hasBarre_44 : decode cX9_hasBarre 44 = .ok (.aload_n 0, 1) := by decide +kernel
theorem dX9_hasBarre_45 : decode cX9_hasBarre 45 = .ok (.iload 4, 2) := by decide +kernel
theorem dX9_hasBarre_47 : decode cX9_hasBarre 47 = .ok (.iaload, 1) := by decide +kernel
theorem dX9_hasBarre_48 : decode cX9_hasBarre 48 = .ok (.ifCond .ne 7, 3) := by decide +kernel
theorem dX9_hasBarre_51 : decode cX9_hasBarre 51 = .ok (.iconst 1, 1) := by decide +kernel
theorem dX9_hasBarre_52 : decode cX9_hasBarre 52 = .ok (.goto 4, 3) := by decide +kernel
theorem dX9_hasBarre_55 : decode cX9_hasBarre 55 = .ok (.iconst 0, 1) := by decide +kernel
theorem dX9_hasBarre_56 : decode cX9_hasBarre 56 = .ok (.ior, 1) := by decide +kernel
theorem dX9_hasBarre_57 : decode cX9_hasBarre 57 = .ok (.istore_n 3, 1) := by decide +kernel
theorem dX9_hasBarre_58 : decode cX9_hasBarre 58 = .ok (.iinc 4 1, 3) := by decide +kernel
theorem dX9_hasBarre_61 : decode cX9_hasBarre 61 = .ok (.goto (-24), 3) := by decide +kernel
theorem dX9_hasBarre_64 : decode cX9_hasBarre 64 = .ok (.iload_n 1, 1) := by decide +kernel
theorem dX9_hasBarre_65 : decode cX9_hasBarre 65 = .ok (.ifCond .lt 9, 3) := by decide +kernel
theorem dX9_hasBarre_68 : decode cX9_hasBarre 68 = .ok (.iload_n 3, 1) := by decide +kernel
theorem dX9_hasBarre_69 : decode cX9_hasBarre 69 = .ok (.ifCond .eq 5, 3) := by decide +kernel
theorem dX9_hasBarre_72 : decode cX9_hasBarre 72 = .ok (.iconst 0, 1) := by decide +kernel
theorem dX9_hasBarre_73 : decode cX9_hasBarre 73 = .ok (.ireturn, 1) := by decide +kernel
theorem dX9_hasBarre_74 : decode cX9_hasBarre 74 = .ok (.iload_n 1, 1) := by decide +kernel
theorem dX9_hasBarre_75 : decode cX9_hasBarre 75 = .ok (.ifCond .ge 8, 3) := by decide +kernel
theorem dX9_hasBarre_78 : decode cX9_hasBarre 78 = .ok (.iload_n 2, 1) := by decide +kernel
theorem dX9_hasBarre_79 : decode cX9_hasBarre 79 = .ok (.istore_n 1, 1) := by decide +kernel
theorem dX9_hasBarre_80 : decode cX9_hasBarre 80 = .ok (.goto 54, 3) := by decide +kernel
theorem dX9_hasBarre_83 : decode cX9_hasBarre 83 = .ok (.iconst 0, 1) := by decide +kernel
theorem dX9_hasBarre_84 : decode cX9_hasBarre 84 = .ok (.istore 4, 2) := by decide +kernel
theorem dX9_hasBarre_86 : decode cX9_hasBarre 86 = .ok (.iload_n 2, 1) := by decide +kernel
theorem dX9_hasBarre_87 : decode cX9_hasBarre 87 = .ok (.iconst 1, 1) := by decide +kernel
theorem dX9_hasBarre_88 : decode cX9_hasBarre 88 = .ok (.iadd, 1) := by decide +kernel
theorem dX9_hasBarre_89 : decode cX9_hasBarre 89 = .ok (.istore 5, 2) := by decide +kernel
theorem dX9_hasBarre_91 : decode cX9_hasBarre 91 = .ok (.iload 5, 2) := by decide +kernel
theorem dX9_hasBarre_93 : decode cX9_hasBarre 93 = .ok (.aload_n 0, 1) := by decide +kernel
theorem dX9_hasBarre_94 : decode cX9_hasBarre 94 = .ok (.arraylength, 1) := by decide +kernel
theorem dX9_hasBarre_95 : decode cX9_hasBarre 95 = .ok (.if_icmp .ge 30, 3) := by decide +kernel
theorem dX9_hasBarre_98 : decode cX9_hasBarre 98 = .ok (.iload 4, 2) := by decide +kernel
theorem dX9_hasBarre_100 : decode cX9_hasBarre 100 = .ok (.aload_n 0, 1) := by decide +kernel
theorem dX9_hasBarre_101 : decode cX9_hasBarre 101 = .ok (.iload 5, 2) := by decide +kernel
theorem dX9_hasBarre_103 : decode cX9_hasBarre 103 = .ok (.iaload, 1) := by decide +kernel
theorem dX9_hasBarre_104 : decode cX9_hasBarre 104 = .ok (.aload_n 0, 1) := by decide +kernel
theorem dX9_hasBarre_105 : decode cX9_hasBarre 105 = .ok (.invokestatic 108, 3) := by decide +kernel
theorem dX9_hasBarre_108 : decode cX9_hasBarre 108 = .ok (.if_icmp .ne 7, 3) := by decide +kernel
theorem dX9_hasBarre_111 : decode cX9_hasBarre 111 = .ok (.iconst 1, 1) := by decide +kernel
theorem dX9_hasBarre_112 : decode cX9_hasBarre 112 = .ok (.goto 4, 3) := by decide +kernel
theorem dX9_hasBarre_115 : decode cX9_hasBarre 115 = .ok (.iconst 0, 1) := by decide +kernel
theorem dX9_hasBarre_116 : decode cX9_hasBarre 116 = .ok (.ior, 1) := by decide +kernel
theorem dX9_hasBarre_117 : decode cX9_hasBarre 117 = .ok (.istore 4, 2) := by decide +kernel
theorem dX9_hasBarre_119 : decode cX9_hasBarre 119 = .ok (.iinc 5 1, 3) := by decide +kernel
theorem dX9_hasBarre_122 : decode cX9_hasBarre 122 = .ok (.goto (-31), 3) := by decide +kernel
theorem dX9_hasBarre_125 : decode cX9_hasBarre 125 = .ok (.iload 4, 2) := by decide +kernel
theorem dX9_hasBarre_127 : decode cX9_hasBarre 127 = .ok (.ifCond .ne 5, 3) := by decide +kernel
theorem dX9_hasBarre_130 : decode cX9_hasBarre 130 = .ok (.iconst 1, 1) := by decide +kernel
theorem dX9_hasBarre_131 : decode cX9_hasBarre 131 = .ok (.ireturn, 1) := by decide +kernel
theorem dX9_hasBarre_132 : decode cX9_hasBarre 132 = .ok (.iload_n 2, 1) := by decide +kernel
theorem dX9_hasBarre_133 : decode cX9_hasBarre 133 = .ok (.istore_n 1, 1) := by decide +kernel
theorem dX9_hasBarre_134 : decode cX9_hasBarre 134 = .ok (.iinc 2 1, 3) := by decide +kernel
theorem dX9_hasBarre_137 : decode cX9_hasBarre 137 = .ok (.goto (-133), 3) := by decide +kernel
theorem dX9_hasBarre_140 : decode cX9_hasBarre 140 = .ok (.iconst 0, 1) := by decide +kernel
theorem dX9_hasBarre_141 : decode cX9_hasBarre 141 = .ok (.ireturn, 1) := by decide +kernel
theorem dX9_fingers_0 : decode cX9_fingers 0 = .ok (.aload_n 0, 1) := by decide +kernel
theorem dX9_fingers_1 : decode cX9_fingers 1 = .ok (.arraylength, 1) := by decide +kernel
theorem dX9_fingers_2 : decode cX9_fingers 2 = .ok (.newarray .int, 2) := by decide +kernel
theorem dX9_fingers_4 : decode cX9_fingers 4 = .ok (.astore_n 1, 1) := by decide +kernel
theorem dX9_fingers_5 : decode cX9_fingers 5 = .ok (.iconst 1, 1) := by decide +kernel
theorem dX9_fingers_6 : decode cX9_fingers 6 = .ok (.istore_n 2, 1) := by decide +kernel
theorem dX9_fingers_7 : decode cX9_fingers 7 = .ok (.iconst 1, 1) := by decide +kernel
theorem dX9_fingers_8 : decode cX9_fingers 8 = .ok (.istore_n 3, 1) := by decide +kernel
theorem dX9_fingers_9 : decode cX9_fingers 9 = .ok (.iload_n 3, 1) := by decide +kernel
theorem dX9_fingers_10 : decode cX9_fingers 10 = .ok (.bipush 12, 2) := by decide +kernel
theorem dX9_fingers_12 : decode cX9_fingers 12 = .ok (.if_icmp .gt 79, 3) := by decide +kernel
theorem dX9_fingers_15 : decode cX9_fingers 15 = .ok (.iload_n 3, 1) := by decide +kernel
theorem dX9_fingers_16 : decode cX9_fingers 16 = .ok (.aload_n 0, 1) := by decide +kernel
theorem dX9_fingers_17 : decode cX9_fingers 17 = .ok (.invokestatic 108, 3) := by decide +kernel
theorem dX9_fingers_20 : decode cX9_fingers 20 = .ok (.if_icmp .ne 14, 3) := by decide +kernel
theorem dX9_fingers_23 : decode cX9_fingers 23 = .ok (.aload_n 0, 1) := by decide +kernel
theorem dX9_fingers_24 : decode cX9_fingers 24 = .ok (.invokestatic 112, 3) := by decide +kernel
theorem dX9_fingers_27 : decode cX9_fingers 27 = .ok (.ifCond .eq 7, 3) := by decide +kernel
theorem dX9_fingers_30 : decode cX9_fingers 30 = .ok (.iconst 1, 1) := by decide +kernel
theorem dX9_fingers_31 : decode cX9_fingers 31 = .ok (.goto 4, 3) := by decide +kernel
theorem dX9_fingers_34 : decode cX9_fingers 34 = .ok (.iconst 0, 1) := by decide +kernel
theorem dX9_fingers_35 : decode cX9_fingers 35 = .ok (.istore 4, 2) := by decide +kernel
theorem dX9_fingers_37 : decode cX9_fingers 37 = .ok (.iconst 0, 1) := by decide +kernel
theorem dX9_fingers_38 : decode cX9_fingers 38 = .ok (.istore 5, 2) := by decide +kernel
theorem dX9_fingers_40 : decode cX9_fingers 40 = .ok (.iload 5, 2) := by decide +kernel
theorem dX9_fingers_42 : decode cX9_fingers 42 = .ok (.aload_n 0, 1) := by decide +kernel
theorem dX9_fingers_43 : decode cX9_fingers 43 = .ok (.arraylength, 1) := by decide +kernel
theorem dX9_fingers_44 : decode cX9_fingers 44 = .ok (.if_icmp .ge 33, 3) := by decide +kernel
theorem dX9_fingers_47 : decode cX9_fingers 47 = .ok (.aload_n 0, 1) := by decide +kernel
theorem dX9_fingers_48 : decode cX9_fingers 48 = .ok (.iload 5, 2) := by decide +kernel
theorem dX9_fingers_50 : decode cX9_fingers 50 = .ok (.iaload, 1) := by decide +kernel
theorem dX9_fingers_51 : decode cX9_fingers 51 = .ok (.iload_n 3, 1) := by decide +kernel
theorem dX9_fingers_52 : decode cX9_fingers 52 = .ok (.if_icmp .eq 6, 3) := by decide +kernel
theorem dX9_fingers_55 : decode cX9_fingers 55 = .ok (.goto 16, 3) := by decide +kernel
theorem dX9_fingers_58 : decode cX9_fingers 58 = .ok (.aload_n 1, 1) := by decide +kernel
theorem dX9_fingers_59 : decode cX9_fingers 59 = .ok (.iload 5, 2) := by decide +kernel
theorem dX9_fingers_61 : decode cX9_fingers 61 = .ok (.iload_n 2, 1) := by decide +kernel
theorem dX9_fingers_62 : decode cX9_fingers 62 = .ok (.iastore, 1) := by decide +kernel
theorem dX9_fingers_63 : decode cX9_fingers 63 = .ok (.iload 4, 2) := by decide +kernel
theorem dX9_fingers_65 : decode cX9_fingers 65 = .ok (.ifCond .ne 6, 3) := by decide +kernel
theorem dX9_fingers_68 : decode cX9_fingers 68 = .ok (.iinc 2 1, 3) := by decide +kernel
theorem dX9_fingers_71 : decode cX9_fingers 71 = .ok (.iinc 5 1, 3) := by decide +kernel
theorem dX9_fingers_74 : decode cX9_fingers 74 = .ok (.goto (-34), 3) := by decide +kernel
theorem dX9_fingers_77 : decode cX9_fingers 77 = .ok (.iload 4, 2) := by decide +kernel
theorem dX9_fingers_79 : decode cX9_fingers 79 = .ok (.ifCond .eq 6, 3) := by decide +kernel
theorem dX9_fingers_82 : decode cX9_fingers 82 = .ok (.iinc 2 1, 3) := by decide +kernel
theorem dX9_fingers_85 : decode cX9_fingers 85 = .ok (.iinc 3 1, 3) := by decide +kernel
theorem dX9_fingers_88 : decode cX9_fingers 88 = .ok (.goto (-79), 3) := by decide +kernel
theorem dX9_fingers_91 : decode cX9_fingers 91 = .ok (.aload_n 1, 1) := by decide +kernel
theorem dX9_fingers_92 : decode cX9_fingers 92 = .ok (.areturn, 1) := by decide +kernel
theorem dX9_count_0 : decode cX9_count 0 = .ok (.iconst 0, 1) := by decide +kernel
theorem dX9_count_1 : decode cX9_count 1 = .ok (.istore_n 1, 1) := by decide +kernel
theorem dX9_count_2 : decode cX9_count 2 = .ok (.aload_n 0, 1) := by decide +kernel
theorem dX9_count_3 : decode cX9_count 3 = .ok (.invokestatic 116, 3) := by decide +kernel
theorem dX9_count_6 : decode cX9_count 6 = .ok (.astore_n 2, 1) := by decide +kernel
theorem dX9_count_7 : decode cX9_count 7 = .ok (.aload_n 2, 1) := by decide +kernel
theorem dX9_count_8 : decode cX9_count 8 = .ok (.arraylength, 1) := by decide +kernel
theorem dX9_count_9 : decode cX9_count 9 = .ok (.istore_n 3, 1) := by decide +kernel
theorem dX9_count_10 : decode cX9_count 10 = .ok (.iconst 0, 1) := by decide +kernel
theorem dX9_count_11 : decode cX9_count 11 = .ok (.istore 4, 2) := by decide +kernel
theorem dX9_count_13 : decode cX9_count 13 = .ok (.iload 4, 2) := by decide +kernel
theorem dX9_count_15 : decode cX9_count 15 = .ok (.iload_n 3, 1) := by decide +kernel
theorem dX9_count_16 : decode cX9_count 16 = .ok (.if_icmp .ge 22, 3) := by decide +kernel
theorem dX9_count_19 : decode cX9_count 19 = .ok (.aload_n 2, 1) := by decide +kernel
theorem dX9_count_20 : decode cX9_count 20 = .ok (.iload 4, 2) := by decide +kernel
theorem dX9_count_22 : decode cX9_count 22 = .ok (.iaload, 1) := by decide +kernel
theorem dX9_count_23 : decode cX9_count 23 = .ok (.istore 5, 2) := by decide +kernel
theorem dX9_count_25 : decode cX9_count 25 = .ok (.iload_n 1, 1) := by decide +kernel
theorem dX9_count_26 : decode cX9_count 26 = .ok (.iload 5, 2) := by decide +kernel
theorem dX9_count_28 : decode cX9_count 28 = .ok (.invokestatic 102, 3) := by decide +kernel
theorem dX9_count_31 : decode cX9_count 31 = .ok (.istore_n 1, 1) := by decide +kernel
theorem dX9_count_32 : decode cX9_count 32 = .ok (.iinc 4 1, 3) := by decide +kernel
theorem dX9_count_35 : decode cX9_count 35 = .ok (.goto (-22), 3) := by decide +kernel
theorem dX9_count_38 : decode cX9_count 38 = .ok (.iload_n 1, 1) := by decide +kernel
theorem dX9_count_39 : decode cX9_count 39 = .ok (.ireturn, 1) := by decide +kernel
theorem dX9_sounds_0 : decode cX9_sounds 0 = .ok (.iconst 0, 1) := by decide +kernel
theorem dX9_sounds_1 : decode cX9_sounds 1 = .ok (.istore_n 1, 1) := by decide +kernel
theorem dX9_sounds_2 : decode cX9_sounds 2 = .ok (.aload_n 0, 1) := by decide +kernel
theorem dX9_sounds_3 : decode cX9_sounds 3 = .ok (.astore_n 2, 1) := by decide +kernel
theorem dX9_sounds_4 : decode cX9_sounds 4 = .ok (.aload_n 2, 1) := by decide +kernel
theorem dX9_sounds_5 : decode cX9_sounds 5 = .ok (.arraylength, 1) := by decide +kernel
theorem dX9_sounds_6 : decode cX9_sounds 6 = .ok (.istore_n 3, 1) := by decide +kernel
theorem dX9_sounds_7 : decode cX9_sounds 7 = .ok (.iconst 0, 1) := by decide +kernel
theorem dX9_sounds_8 : decode cX9_sounds 8 = .ok (.istore 4, 2) := by decide +kernel
theorem dX9_sounds_10 : decode cX9_sounds 10 = .ok (.iload 4, 2) := by decide +kernel
theorem dX9_sounds_12 : decode cX9_sounds 12 = .ok (.iload_n 3, 1) := by decide +kernel
theorem dX9_sounds_13 : decode cX9_sounds 13 = .ok (.if_icmp .ge 28, 3) := by decide +kernel
theorem dX9_sounds_16 : decode cX9_sounds 16 = .ok (.aload_n 2, 1) := by decide +kernel
theorem dX9_sounds_17 : decode cX9_sounds 17 = .ok (.iload 4, 2) := by decide +kernel
theorem dX9_sounds_19 : decode cX9_sounds 19 = .ok (.iaload, 1) := by decide +kernel
theorem dX9_sounds_20 : decode cX9_sounds 20 = .ok (.istore 5, 2) := by decide +kernel
theorem dX9_sounds_22 : decode cX9_sounds 22 = .ok (.iload_n 1, 1) := by decide +kernel
theorem dX9_sounds_23 : decode cX9_sounds 23 = .ok (.iload 5, 2) := by decide +kernel
theorem dX9_sounds_25 : decode cX9_sounds 25 = .ok (.ifCond .lt 7, 3) := by decide +kernel
theorem dX9_sounds_28 : decode cX9_sounds 28 = .ok (.iconst 1, 1) := by decide +kernel
theorem dX9_sounds_29 : decode cX9_sounds 29 = .ok (.goto 4, 3) := by decide +kernel
theorem dX9_sounds_32 : decode cX9_sounds 32 = .ok (.iconst 0, 1) := by decide +kernel
theorem dX9_sounds_33 : decode cX9_sounds 33 = .ok (.iadd, 1) := by decide +kernel
theorem dX9_sounds_34 : decode cX9_sounds 34 = .ok (.istore_n 1, 1) := by decide +kernel
theorem dX9_sounds_35 : decode cX9_sounds 35 = .ok (.iinc 4 1, 3) := by decide +kernel
theorem dX9_sounds_38 : decode cX9_sounds 38 = .ok (.goto (-28), 3) := by decide +kernel
theorem dX9_sounds_41 : decode cX9_sounds 41 = .ok (.iload_n 1, 1) := by decide +kernel
theorem dX9_sounds_42 : decode cX9_sounds 42 = .ok (.ireturn, 1) := by decide +kernel
theorem dX9_effort_0 : decode cX9_effort 0 = .ok (.iconst (-1), 1) := by decide +kernel
theorem dX9_effort_1 : decode cX9_effort 1 = .ok (.istore_n 1, 1) := by decide +kernel
theorem dX9_effort_2 : decode cX9_effort 2 = .ok (.iconst (-1), 1) := by decide +kernel
theorem dX9_effort_3 : decode cX9_effort 3 = .ok (.istore_n 2, 1) := by decide +kernel
theorem dX9_effort_4 : decode cX9_effort 4 = .ok (.iconst 0, 1) := by decide +kernel
theorem dX9_effort_5 : decode cX9_effort 5 = .ok (.istore_n 3, 1) := by decide +kernel
theorem dX9_effort_6 : decode cX9_effort 6 = .ok (.iload_n 3, 1) := by decide +kernel
theorem dX9_effort_7 : decode cX9_effort 7 = .ok (.aload_n 0, 1) := by decide +kernel
theorem dX9_effort_8 : decode cX9_effort 8 = .ok (.arraylength, 1) := by decide +kernel
theorem dX9_effort_9 : decode cX9_effort 9 = .ok (.if_icmp .ge 30, 3) := by decide +kernel
theorem dX9_effort_12 : decode cX9_effort 12 = .ok (.aload_n 0, 1) := by decide +kernel
theorem dX9_effort_13 : decode cX9_effort 13 = .ok (.iload_n 3, 1) := by decide +kernel
theorem dX9_effort_14 : decode cX9_effort 14 = .ok (.iaload, 1) := by decide +kernel
theorem dX9_effort_15 : decode cX9_effort 15 = .ok (.ifCond .ge 6, 3) := by decide +kernel
theorem dX9_effort_18 : decode cX9_effort 18 = .ok (.goto 15, 3) := by decide +kernel
theorem dX9_effort_21 : decode cX9_effort 21 = .ok (.iload_n 1, 1) := by decide +kernel
theorem dX9_effort_22 : decode cX9_effort 22 = .ok (.ifCond .ge 7, 3) := by decide +kernel
theorem dX9_effort_25 : decode cX9_effort 25 = .ok (.iload_n 3, 1) := by decide +kernel
theorem dX9_effort_26 : decode cX9_effort 26 = .ok (.goto 4, 3) := by decide +kernel
theorem dX9_effort_29 : decode cX9_effort 29 = .ok (.iload_n 1, 1) := by decide +kernel
theorem dX9_effort_30 : decode cX9_effort 30 = .ok (.istore_n 1, 1) := by decide +kernel
theorem dX9_effort_31 : decode cX9_effort 31 = .ok (.iload_n 3, 1) := by decide +kernel
theorem dX9_effort_32 : decode cX9_effort 32 = .ok (.istore_n 2, 1) := by decide +kernel
theorem dX9_effort_33 : decode cX9_effort 33 = .ok (.iinc 3 1, 3) := by decide +kernel
theorem dX9_effort_36 : decode cX9_effort 36 = .ok (.goto (-30), 3) := by decide +kernel
theorem dX9_effort_39 : decode cX9_effort 39 = .ok (.iload_n 1, 1) := by decide +kernel
theorem dX9_effort_40 : decode cX9_effort 40 = .ok (.ifCond .ge 7, 3) := by decide +kernel
theorem dX9_effort_43 : decode cX9_effort 43 = .ok (.iconst 0, 1) := by decide +kernel
theorem dX9_effort_44 : decode cX9_effort 44 = .ok (.goto 13, 3) := by decide +kernel
theorem dX9_effort_47 : decode cX9_effort 47 = .ok (.iload_n 2, 1) := by decide +kernel
theorem dX9_effort_48 : decode cX9_effort 48 = .ok (.iload_n 1, 1) := by decide +kernel
theorem dX9_effort_49 : decode cX9_effort 49 = .ok (.isub, 1) := by decide +kernel
theorem dX9_effort_50 : decode cX9_effort 50 = .ok (.iconst 1, 1) := by decide +kernel
theorem dX9_effort_51 : decode cX9_effort 51 = .ok (.iadd, 1) := by decide +kernel
theorem dX9_effort_52 : decode cX9_effort 52 = .ok (.aload_n 0, 1) := by decide +kernel
theorem dX9_effort_53 : decode cX9_effort 53 = .ok (.invokestatic 120, 3) := by decide +kernel
theorem dX9_effort_56 : decode cX9_effort 56 = .ok (.isub, 1) := by decide +kernel
theorem dX9_effort_57 : decode cX9_effort 57 = .ok (.istore_n 3, 1) := by decide +kernel
theorem dX9_effort_58 : decode cX9_effort 58 = .ok (.iconst 2, 1) := by decide +kernel
theorem dX9_effort_59 : decode cX9_effort 59 = .ok (.aload_n 0, 1) := by decide +kernel
theorem dX9_effort_60 : decode cX9_effort 60 = .ok (.invokestatic 123, 3) := by decide +kernel
theorem dX9_effort_63 : decode cX9_effort 63 = .ok (.aload_n 0, 1) := by decide +kernel
theorem dX9_effort_64 : decode cX9_effort 64 = .ok (.invokestatic 108, 3) := by decide +kernel
theorem dX9_effort_67 : decode cX9_effort 67 = .ok (.isub, 1) := by decide +kernel
theorem dX9_effort_68 : decode cX9_effort 68 = .ok (.imul, 1) := by decide +kernel
theorem dX9_effort_69 : decode cX9_effort 69 = .ok (.aload_n 0, 1) := by decide +kernel
theorem dX9_effort_70 : decode cX9_effort 70 = .ok (.invokestatic 126, 3) := by decide +kernel
theorem dX9_effort_73 : decode cX9_effort 73 = .ok (.iadd, 1) := by decide +kernel
theorem dX9_effort_74 : decode cX9_effort 74 = .ok (.iload_n 3, 1) := by decide +kernel
theorem dX9_effort_75 : decode cX9_effort 75 = .ok (.iadd, 1) := by decide +kernel
theorem dX9_effort_76 : decode cX9_effort 76 = .ok (.aload_n 0, 1) := by decide +kernel
theorem dX9_effort_77 : decode cX9_effort 77 = .ok (.invokestatic 112, 3) := by decide +kernel
theorem dX9_effort_80 : decode cX9_effort 80 = .ok (.ifCond .eq 7, 3) := by decide +kernel
theorem dX9_effort_83 : decode cX9_effort 83 = .ok (.iconst 3, 1) := by decide +kernel
theorem dX9_effort_84 : decode cX9_effort 84 = .ok (.goto 4, 3) := by decide +kernel
theorem dX9_effort_87 : decode cX9_effort 87 = .ok (.iconst 0, 1) := by decide +kernel
theorem dX9_effort_88 : decode cX9_effort 88 = .ok (.iadd, 1) := by decide +kernel
theorem dX9_effort_89 : decode cX9_effort 89 = .ok (.ireturn, 1) := by decide +kernel
theorem dX9_isSmaller_0 : decode cX9_isSmaller 0 = .ok (.iconst 0, 1) := by decide +kernel
theorem dX9_isSmaller_1 : decode cX9_isSmaller 1 = .ok (.istore_n 2, 1) := by decide +kernel
theorem dX9_isSmaller_2 : decode cX9_isSmaller 2 = .ok (.iload_n 2, 1) := by decide +kernel
theorem dX9_isSmaller_3 : decode cX9_isSmaller 3 = .ok (.aload_n 0, 1) := by decide +kernel
theorem dX9_isSmaller_4 : decode cX9_isSmaller 4 = .ok (.arraylength, 1) := by decide +kernel
theorem dX9_isSmaller_5 : decode cX9_isSmaller 5 = .ok (.if_icmp .ge 33, 3) := by decide +kernel
theorem dX9_isSmaller_8 : decode cX9_isSmaller 8 = .ok (.aload_n 0, 1) := by decide +kernel
theorem dX9_isSmaller_9 : decode cX9_isSmaller 9 = .ok (.iload_n 2, 1) := by decide +kernel
theorem dX9_isSmaller_10 : decode cX9_isSmaller 10 = .ok (.iaload, 1) := by decide +kernel
theorem dX9_isSmaller_11 : decode cX9_isSmaller 11 = .ok (.aload_n 1, 1) := by decide +kernel
theorem dX9_isSmaller_12 : decode cX9_isSmaller 12 = .ok (.iload_n 2, 1) := by decide +kernel
theorem dX9_isSmaller_13 : decode cX9_isSmaller 13 = .ok (.iaload, 1) := by decide +kernel
theorem dX9_isSmaller_14 : decode cX9_isSmaller 14 = .ok (.if_icmp .eq 18, 3) := by decide +kernel
theorem dX9_isSmaller_17 : decode cX9_isSmaller 17 = .ok (.aload_n 0, 1) := by decide +kernel
theorem dX9_isSmaller_18 : decode cX9_isSmaller 18 = .ok (.iload_n 2, 1) := by decide +kernel
theorem dX9_isSmaller_19 : decode cX9_isSmaller 19 = .ok (.iaload, 1) := by decide +kernel
theorem dX9_isSmaller_20 : decode cX9_isSmaller 20 = .ok (.aload_n 1, 1) := by decide +kernel
theorem dX9_isSmaller_21 : decode cX9_isSmaller 21 = .ok (.iload_n 2, 1) := by decide +kernel
theorem dX9_isSmaller_22 : decode cX9_isSmaller 22 = .ok (.iaload, 1) := by decide +kernel
theorem dX9_isSmaller_23 : decode cX9_isSmaller 23 = .ok (.if_icmp .ge 7, 3) := by decide +kernel
theorem dX9_isSmaller_26 : decode cX9_isSmaller 26 = .ok (.iconst 1, 1) := by decide +kernel
theorem dX9_isSmaller_27 : decode cX9_isSmaller 27 = .ok (.goto 4, 3) := by decide +kernel
theorem dX9_isSmaller_30 : decode cX9_isSmaller 30 = .ok (.iconst 0, 1) := by decide +kernel
theorem dX9_isSmaller_31 : decode cX9_isSmaller 31 = .ok (.ireturn, 1) := by decide +kernel
theorem dX9_isSmaller_32 : decode cX9_isSmaller 32 = .ok (.iinc 2 1, 3) := by decide +kernel
theorem dX9_isSmaller_35 : decode cX9_isSmaller 35 = .ok (.goto (-33), 3) := by decide +kernel
theorem dX9_isSmaller_38 : decode cX9_isSmaller 38 = .ok (.iconst 0, 1) := by decide +kernel
theorem dX9_isSmaller_39 : decode cX9_isSmaller 39 = .ok (.ireturn, 1) := by decide +kernel
theorem dX9_go_0 : decode cX9_go 0 = .ok (.iload_n 3, 1) := by decide +kernel
theorem dX9_go_1 : decode cX9_go 1 = .ok (.aload_n 0, 1) := by decide +kernel
theorem dX9_go_2 : decode cX9_go 2 = .ok (.getfield 16, 3) := by decide +kernel
theorem dX9_go_5 : decode cX9_go 5 = .ok (.arraylength, 1) := by decide +kernel
theorem dX9_go_6 : decode cX9_go 6 = .ok (.if_icmp .ne 141, 3) := by decide +kernel
theorem dX9_go_9 : decode cX9_go 9 = .ok (.iload 4, 2) := by decide +kernel
theorem dX9_go_11 : decode cX9_go 11 = .ok (.iconst 1, 1) := by decide +kernel
theorem dX9_go_12 : decode cX9_go 12 = .ok (.aload_n 1, 1) := by decide +kernel
theorem dX9_go_13 : decode cX9_go 13 = .ok (.arraylength, 1) := by decide +kernel
theorem dX9_go_14 : decode cX9_go 14 = .ok (.ishl, 1) := by decide +kernel
theorem dX9_go_15 : decode cX9_go 15 = .ok (.iconst 1, 1) := by decide +kernel
theorem dX9_go_16 : decode cX9_go 16 = .ok (.isub, 1) := by decide +kernel
theorem dX9_go_17 : decode cX9_go 17 = .ok (.if_icmp .ne 27, 3) := by decide +kernel
theorem dX9_go_20 : decode cX9_go 20 = .ok (.aload_n 2, 1) := by decide +kernel
theorem dX9_go_21 : decode cX9_go 21 = .ok (.invokestatic 123, 3) := by decide +kernel
theorem dX9_go_24 : decode cX9_go 24 = .ok (.aload_n 2, 1) := by decide +kernel
theorem dX9_go_25 : decode cX9_go 25 = .ok (.invokestatic 108, 3) := by decide +kernel
theorem dX9_go_28 : decode cX9_go 28 = .ok (.isub, 1) := by decide +kernel
theorem dX9_go_29 : decode cX9_go 29 = .ok (.aload_n 0, 1) := by decide +kernel
theorem dX9_go_30 : decode cX9_go 30 = .ok (.getfield 24, 3) := by decide +kernel
theorem dX9_go_33 : decode cX9_go 33 = .ok (.if_icmp .gt 11, 3) := by decide +kernel
theorem dX9_go_36 : decode cX9_go 36 = .ok (.aload_n 2, 1) := by decide +kernel
theorem dX9_go_37 : decode cX9_go 37 = .ok (.invokestatic 126, 3) := by decide +kernel
theorem dX9_go_40 : decode cX9_go 40 = .ok (.iconst 4, 1) := by decide +kernel
theorem dX9_go_41 : decode cX9_go 41 = .ok (.if_icmp .le 4, 3) := by decide +kernel
theorem dX9_go_44 : decode cX9_go 44 = .ok (.return_, 1) := by decide +kernel
theorem dX9_go_45 : decode cX9_go 45 = .ok (.aload_n 2, 1) := by decide +kernel
theorem dX9_go_46 : decode cX9_go 46 = .ok (.arraylength, 1) := by decide +kernel
theorem dX9_go_47 : decode cX9_go 47 = .ok (.newarray .int, 2) := by decide +kernel
theorem dX9_go_49 : decode cX9_go 49 = .ok (.astore 5, 2) := by decide +kernel
theorem dX9_go_51 : decode cX9_go 51 = .ok (.aload_n 2, 1) := by decide +kernel
theorem dX9_go_52 : decode cX9_go 52 = .ok (.iconst 0, 1) := by decide +kernel
theorem dX9_go_53 : decode cX9_go 53 = .ok (.aload 5, 2) := by decide +kernel
theorem dX9_go_55 : decode cX9_go 55 = .ok (.iconst 0, 1) := by decide +kernel
theorem dX9_go_56 : decode cX9_go 56 = .ok (.aload_n 2, 1) := by decide +kernel
theorem dX9_go_57 : decode cX9_go 57 = .ok (.arraylength, 1) := by decide +kernel
theorem dX9_go_58 : decode cX9_go 58 = .ok (.invokestatic 58, 3) := by decide +kernel
theorem dX9_go_61 : decode cX9_go 61 = .ok (.iconst 0, 1) := by decide +kernel
theorem dX9_go_62 : decode cX9_go 62 = .ok (.istore 6, 2) := by decide +kernel
theorem dX9_go_64 : decode cX9_go 64 = .ok (.iload 6, 2) := by decide +kernel
theorem dX9_go_66 : decode cX9_go 66 = .ok (.aload_n 0, 1) := by decide +kernel
theorem dX9_go_67 : decode cX9_go 67 = .ok (.getfield 39, 3) := by decide +kernel
theorem dX9_go_70 : decode cX9_go 70 = .ok (.arraylength, 1) := by decide +kernel
theorem dX9_go_71 : decode cX9_go 71 = .ok (.if_icmp .ge 60, 3) := by decide +kernel
theorem dX9_go_74 : decode cX9_go 74 = .ok (.aload_n 0, 1) := by decide +kernel
theorem dX9_go_75 : decode cX9_go 75 = .ok (.getfield 39, 3) := by decide +kernel
theorem dX9_go_78 : decode cX9_go 78 = .ok (.iload 6, 2) := by decide +kernel
theorem dX9_go_80 : decode cX9_go 80 = .ok (.aaload, 1) := by decide +kernel
theorem dX9_go_81 : decode cX9_go 81 = .ok (.invokestatic 129, 3) := by decide +kernel
theorem dX9_go_84 : decode cX9_go 84 = .ok (.aload 5, 2) := by decide +kernel
theorem dX9_go_86 : decode cX9_go 86 = .ok (.invokestatic 129, 3) := by decide +kernel
theorem dX9_go_89 : decode cX9_go 89 = .ok (.if_icmp .lt 36, 3) := by decide +kernel
theorem dX9_go_92 : decode cX9_go 92 = .ok (.aload_n 0, 1) := by decide +kernel
theorem dX9_go_93 : decode cX9_go 93 = .ok (.getfield 39, 3) := by decide +kernel
theorem dX9_go_96 : decode cX9_go 96 = .ok (.iload 6, 2) := by decide +kernel
theorem dX9_go_98 : decode cX9_go 98 = .ok (.aaload, 1) := by decide +kernel
theorem dX9_go_99 : decode cX9_go 99 = .ok (.invokestatic 129, 3) := by decide +kernel
theorem dX9_go_102 : decode cX9_go 102 = .ok (.aload 5, 2) := by decide +kernel
theorem dX9_go_104 : decode cX9_go 104 = .ok (.invokestatic 129, 3) := by decide +kernel
theorem dX9_go_107 : decode cX9_go 107 = .ok (.if_icmp .ne 24, 3) := by decide +kernel
theorem dX9_go_110 : decode cX9_go 110 = .ok (.aload_n 0, 1) := by decide +kernel
theorem dX9_go_111 : decode cX9_go 111 = .ok (.getfield 39, 3) := by decide +kernel
theorem dX9_go_114 : decode cX9_go 114 = .ok (.iload 6, 2) := by decide +kernel
theorem dX9_go_116 : decode cX9_go 116 = .ok (.aaload, 1) := by decide +kernel
theorem dX9_go_117 : decode cX9_go 117 = .ok (.aload 5, 2) := by decide +kernel
theorem dX9_go_119 : decode cX9_go 119 = .ok (.invokestatic 132, 3) := by decide +kernel
theorem dX9_go_122 : decode cX9_go 122 = .ok (.ifCond .eq 9, 3) := by decide +kernel
theorem dX9_go_125 : decode cX9_go 125 = .ok (.iinc 6 1, 3) := by decide +kernel
theorem dX9_go_128 : decode cX9_go 128 = .ok (.goto (-64), 3) := by decide +kernel
theorem dX9_go_131 : decode cX9_go 131 = .ok (.aload_n 0, 1) := by decide +kernel
theorem dX9_go_132 : decode cX9_go 132 = .ok (.aload_n 0, 1) := by decide +kernel
theorem dX9_go_133 : decode cX9_go 133 = .ok (.getfield 39, 3) := by decide +kernel
theorem dX9_go_136 : decode cX9_go 136 = .ok (.aload 5, 2) := by decide +kernel
theorem dX9_go_138 : decode cX9_go 138 = .ok (.iload 6, 2) := by decide +kernel
theorem dX9_go_140 : decode cX9_go 140 = .ok (.invokestatic 83, 3) := by decide +kernel
theorem dX9_go_143 : decode cX9_go 143 = .ok (.putfield 39, 3) := by decide +kernel
theorem dX9_go_146 : decode cX9_go 146 = .ok (.return_, 1) := by decide +kernel
theorem dX9_go_147 : decode cX9_go 147 = .ok (.aload_n 2, 1) := by decide +kernel
theorem dX9_go_148 : decode cX9_go 148 = .ok (.iload_n 3, 1) := by decide +kernel
theorem dX9_go_149 : decode cX9_go 149 = .ok (.iconst (-1), 1) := by decide +kernel
theorem dX9_go_150 : decode cX9_go 150 = .ok (.iastore, 1) := by decide +kernel
theorem dX9_go_151 : decode cX9_go 151 = .ok (.aload_n 0, 1) := by decide +kernel
theorem dX9_go_152 : decode cX9_go 152 = .ok (.aload_n 1, 1) := by decide +kernel
theorem dX9_go_153 : decode cX9_go 153 = .ok (.aload_n 2, 1) := by decide +kernel
theorem dX9_go_154 : decode cX9_go 154 = .ok (.iload_n 3, 1) := by decide +kernel
theorem dX9_go_155 : decode cX9_go 155 = .ok (.iconst 1, 1) := by decide +kernel
theorem dX9_go_156 : decode cX9_go 156 = .ok (.iadd, 1) := by decide +kernel
theorem dX9_go_157 : decode cX9_go 157 = .ok (.iload 4, 2) := by decide +kernel
theorem dX9_go_159 : decode cX9_go 159 = .ok (.invokevirtual 136, 3) := by decide +kernel
theorem dX9_go_162 : decode cX9_go 162 = .ok (.iconst 0, 1) := by decide +kernel
theorem dX9_go_163 : decode cX9_go 163 = .ok (.istore 5, 2) := by decide +kernel
theorem dX9_go_165 : decode cX9_go 165 = .ok (.iload 5, 2) := by decide +kernel
theorem dX9_go_167 : decode cX9_go 167 = .ok (.aload_n 1, 1) := by decide +kernel
theorem dX9_go_168 : decode cX9_go 168 = .ok (.arraylength, 1) := by decide +kernel
theorem dX9_go_169 : decode cX9_go 169 = .ok (.if_icmp .ge 92, 3) := by decide +kernel
theorem dX9_go_172 : decode cX9_go 172 = .ok (.aload_n 0, 1) := by decide +kernel
theorem dX9_go_173 : decode cX9_go 173 = .ok (.getfield 20, 3) := by decide +kernel
theorem dX9_go_176 : decode cX9_go 176 = .ok (.iload_n 3, 1) := by decide +kernel
theorem dX9_go_177 : decode cX9_go 177 = .ok (.baload, 1) := by decide +kernel
theorem dX9_go_178 : decode cX9_go 178 = .ok (.ifCond .ne 83, 3) := by decide +kernel
theorem dX9_go_181 : decode cX9_go 181 = .ok (.aload_n 1, 1) := by decide +kernel
theorem dX9_go_182 : decode cX9_go 182 = .ok (.iload 5, 2) := by decide +kernel
theorem dX9_go_184 : decode cX9_go 184 = .ok (.iaload, 1) := by decide +kernel
theorem dX9_go_185 : decode cX9_go 185 = .ok (.aload_n 0, 1) := by decide +kernel
theorem dX9_go_186 : decode cX9_go 186 = .ok (.getfield 16, 3) := by decide +kernel
theorem dX9_go_189 : decode cX9_go 189 = .ok (.iload_n 3, 1) := by decide +kernel
theorem dX9_go_190 : decode cX9_go 190 = .ok (.iaload, 1) := by decide +kernel
theorem dX9_go_191 : decode cX9_go 191 = .ok (.isub, 1) := by decide +kernel
theorem dX9_go_192 : decode cX9_go 192 = .ok (.aload_n 0, 1) := by decide +kernel
theorem dX9_go_193 : decode cX9_go 193 = .ok (.getfield 80, 3) := by decide +kernel
theorem dX9_go_196 : decode cX9_go 196 = .ok (.isub, 1) := by decide +kernel
theorem dX9_go_197 : decode cX9_go 197 = .ok (.istore 6, 2) := by decide +kernel
theorem dX9_go_199 : decode cX9_go 199 = .ok (.iload 6, 2) := by decide +kernel
theorem dX9_go_201 : decode cX9_go 201 = .ok (.ifCond .lt 54, 3) := by decide +kernel
theorem dX9_go_204 : decode cX9_go 204 = .ok (.iload 6, 2) := by decide +kernel
theorem dX9_go_206 : decode cX9_go 206 = .ok (.bipush 12, 2) := by decide +kernel
theorem dX9_go_208 : decode cX9_go 208 = .ok (.aload_n 0, 1) := by decide +kernel
theorem dX9_go_209 : decode cX9_go 209 = .ok (.getfield 80, 3) := by decide +kernel
theorem dX9_go_212 : decode cX9_go 212 = .ok (.isub, 1) := by decide +kernel
theorem dX9_go_213 : decode cX9_go 213 = .ok (.if_icmp .gt 42, 3) := by decide +kernel
theorem dX9_go_216 : decode cX9_go 216 = .ok (.iload 4, 2) := by decide +kernel
theorem dX9_go_218 : decode cX9_go 218 = .ok (.iload 5, 2) := by decide +kernel
theorem dX9_go_220 : decode cX9_go 220 = .ok (.ishr, 1) := by decide +kernel
theorem dX9_go_221 : decode cX9_go 221 = .ok (.iconst 1, 1) := by decide +kernel
theorem dX9_go_222 : decode cX9_go 222 = .ok (.iand, 1) := by decide +kernel
theorem dX9_go_223 : decode cX9_go 223 = .ok (.iconst 1, 1) := by decide +kernel
theorem dX9_go_224 : decode cX9_go 224 = .ok (.if_icmp .ne 6, 3) := by decide +kernel
theorem dX9_go_227 : decode cX9_go 227 = .ok (.goto 28, 3) := by decide +kernel
theorem dX9_go_230 : decode cX9_go 230 = .ok (.aload_n 2, 1) := by decide +kernel
theorem dX9_go_231 : decode cX9_go 231 = .ok (.iload_n 3, 1) := by decide +kernel
theorem dX9_go_232 : decode cX9_go 232 = .ok (.iload 6, 2) := by decide +kernel
theorem dX9_go_234 : decode cX9_go 234 = .ok (.iastore, 1) := by decide +kernel
theorem dX9_go_235 : decode cX9_go 235 = .ok (.aload_n 0, 1) := by decide +kernel
theorem dX9_go_236 : decode cX9_go 236 = .ok (.aload_n 1, 1) := by decide +kernel
theorem dX9_go_237 : decode cX9_go 237 = .ok (.aload_n 2, 1) := by decide +kernel
theorem dX9_go_238 : decode cX9_go 238 = .ok (.iload_n 3, 1) := by decide +kernel
theorem dX9_go_239 : decode cX9_go 239 = .ok (.iconst 1, 1) := by decide +kernel
theorem dX9_go_240 : decode cX9_go 240 = .ok (.iadd, 1) := by decide +kernel
theorem dX9_go_241 : decode cX9_go 241 = .ok (.iload 4, 2) := by decide +kernel
theorem dX9_go_243 : decode cX9_go 243 = .ok (.iconst 1, 1) := by decide +kernel
theorem dX9_go_244 : decode cX9_go 244 = .ok (.iload 5, 2) := by decide +kernel
theorem dX9_go_246 : decode cX9_go 246 = .ok (.ishl, 1) := by decide +kernel
theorem dX9_go_247 : decode cX9_go 247 = .ok (.ior, 1) := by decide +kernel
theorem dX9_go_248 : decode cX9_go 248 = .ok (.invokevirtual 136, 3) := by decide +kernel
theorem dX9_go_251 : decode cX9_go 251 = .ok (.aload_n 2, 1) := by decide +kernel
theorem dX9_go_252 : decode cX9_go 252 = .ok (.iload_n 3, 1) := by decide +kernel
theorem dX9_go_253 : decode cX9_go 253 = .ok (.iconst (-1), 1) := by decide +kernel
theorem dX9_go_254 : decode cX9_go 254 = .ok (.iastore, 1) := by decide +kernel
theorem dX9_go_255 : decode cX9_go 255 = .ok (.iinc 5 1, 3) := by decide +kernel
theorem dX9_go_258 : decode cX9_go 258 = .ok (.goto (-93), 3) := by decide +kernel
theorem dX9_go_261 : decode cX9_go 261 = .ok (.return_, 1) := by decide +kernel
theorem dX9_grips_0 : decode cX9_grips 0 = .ok (.aload_n 0, 1) := by decide +kernel
theorem dX9_grips_1 : decode cX9_grips 1 = .ok (.iconst 0, 1) := by decide +kernel
theorem dX9_grips_2 : decode cX9_grips 2 = .ok (.anewarray 28, 3) := by decide +kernel
theorem dX9_grips_5 : decode cX9_grips 5 = .ok (.putfield 39, 3) := by decide +kernel
theorem dX9_grips_8 : decode cX9_grips 8 = .ok (.aload_n 0, 1) := by decide +kernel
theorem dX9_grips_9 : decode cX9_grips 9 = .ok (.aload_n 0, 1) := by decide +kernel
theorem dX9_grips_10 : decode cX9_grips 10 = .ok (.getfield 29, 3) := by decide +kernel
theorem dX9_grips_13 : decode cX9_grips 13 = .ok (.iload_n 1, 1) := by decide +kernel
theorem dX9_grips_14 : decode cX9_grips 14 = .ok (.aaload, 1) := by decide +kernel
theorem dX9_grips_15 : decode cX9_grips 15 = .ok (.aload_n 0, 1) := by decide +kernel
theorem dX9_grips_16 : decode cX9_grips 16 = .ok (.getfield 16, 3) := by decide +kernel
theorem dX9_grips_19 : decode cX9_grips 19 = .ok (.arraylength, 1) := by decide +kernel
theorem dX9_grips_20 : decode cX9_grips 20 = .ok (.newarray .int, 2) := by decide +kernel
theorem dX9_grips_22 : decode cX9_grips 22 = .ok (.iconst 0, 1) := by decide +kernel
theorem dX9_grips_23 : decode cX9_grips 23 = .ok (.iconst 0, 1) := by decide +kernel
theorem dX9_grips_24 : decode cX9_grips 24 = .ok (.invokevirtual 136, 3) := by decide +kernel
theorem dX9_grips_27 : decode cX9_grips 27 = .ok (.bipush 30, 2) := by decide +kernel
theorem dX9_grips_29 : decode cX9_grips 29 = .ok (.aload_n 0, 1) := by decide +kernel
theorem dX9_grips_30 : decode cX9_grips 30 = .ok (.getfield 39, 3) := by decide +kernel
theorem dX9_grips_33 : decode cX9_grips 33 = .ok (.arraylength, 1) := by decide +kernel
theorem dX9_grips_34 : decode cX9_grips 34 = .ok (.invokestatic 68, 3) := by decide +kernel
theorem dX9_grips_37 : decode cX9_grips 37 = .ok (.anewarray 28, 3) := by decide +kernel
theorem dX9_grips_40 : decode cX9_grips 40 = .ok (.astore_n 2, 1) := by decide +kernel
theorem dX9_grips_41 : decode cX9_grips 41 = .ok (.aload_n 0, 1) := by decide +kernel
theorem dX9_grips_42 : decode cX9_grips 42 = .ok (.getfield 39, 3) := by decide +kernel
theorem dX9_grips_45 : decode cX9_grips 45 = .ok (.iconst 0, 1) := by decide +kernel
theorem dX9_grips_46 : decode cX9_grips 46 = .ok (.aload_n 2, 1) := by decide +kernel
theorem dX9_grips_47 : decode cX9_grips 47 = .ok (.iconst 0, 1) := by decide +kernel
theorem dX9_grips_48 : decode cX9_grips 48 = .ok (.aload_n 2, 1) := by decide +kernel
theorem dX9_grips_49 : decode cX9_grips 49 = .ok (.arraylength, 1) := by decide +kernel
theorem dX9_grips_50 : decode cX9_grips 50 = .ok (.invokestatic 58, 3) := by decide +kernel
theorem dX9_grips_53 : decode cX9_grips 53 = .ok (.aload_n 2, 1) := by decide +kernel
theorem dX9_grips_54 : decode cX9_grips 54 = .ok (.areturn, 1) := by decide +kernel
theorem dX9_fix_0 : decode cX9_fix 0 = .ok (.aload_n 0, 1) := by decide +kernel
theorem dX9_fix_1 : decode cX9_fix 1 = .ok (.getfield 29, 3) := by decide +kernel
theorem dX9_fix_4 : decode cX9_fix 4 = .ok (.arraylength, 1) := by decide +kernel
theorem dX9_fix_5 : decode cX9_fix 5 = .ok (.ifCond .ne 5, 3) := by decide +kernel
theorem dX9_fix_8 : decode cX9_fix 8 = .ok (.iconst 1, 1) := by decide +kernel
theorem dX9_fix_9 : decode cX9_fix 9 = .ok (.ireturn, 1) := by decide +kernel
theorem dX9_fix_10 : decode cX9_fix 10 = .ok (.aload_n 0, 1) := by decide +kernel
theorem dX9_fix_11 : decode cX9_fix 11 = .ok (.aload_n 0, 1) := by decide +kernel
theorem dX9_fix_12 : decode cX9_fix 12 = .ok (.getfield 29, 3) := by decide +kernel
theorem dX9_fix_15 : decode cX9_fix 15 = .ok (.arraylength, 1) := by decide +kernel
theorem dX9_fix_16 : decode cX9_fix 16 = .ok (.invokevirtual 64, 3) := by decide +kernel
theorem dX9_fix_19 : decode cX9_fix 19 = .ok (.istore_n 1, 1) := by decide +kernel
theorem dX9_fix_20 : decode cX9_fix 20 = .ok (.aload_n 0, 1) := by decide +kernel
theorem dX9_fix_21 : decode cX9_fix 21 = .ok (.iload_n 1, 1) := by decide +kernel
theorem dX9_fix_22 : decode cX9_fix 22 = .ok (.invokevirtual 140, 3) := by decide +kernel
theorem dX9_fix_25 : decode cX9_fix 25 = .ok (.astore_n 2, 1) := by decide +kernel
theorem dX9_fix_26 : decode cX9_fix 26 = .ok (.aload_n 0, 1) := by decide +kernel
theorem dX9_fix_27 : decode cX9_fix 27 = .ok (.aload_n 2, 1) := by decide +kernel
theorem dX9_fix_28 : decode cX9_fix 28 = .ok (.arraylength, 1) := by decide +kernel
theorem dX9_fix_29 : decode cX9_fix 29 = .ok (.iconst 1, 1) := by decide +kernel
theorem dX9_fix_30 : decode cX9_fix 30 = .ok (.iadd, 1) := by decide +kernel
theorem dX9_fix_31 : decode cX9_fix 31 = .ok (.invokevirtual 64, 3) := by decide +kernel
theorem dX9_fix_34 : decode cX9_fix 34 = .ok (.iconst 1, 1) := by decide +kernel
theorem dX9_fix_35 : decode cX9_fix 35 = .ok (.isub, 1) := by decide +kernel
theorem dX9_fix_36 : decode cX9_fix 36 = .ok (.istore_n 3, 1) := by decide +kernel
theorem dX9_fix_37 : decode cX9_fix 37 = .ok (.aload_n 0, 1) := by decide +kernel
theorem dX9_fix_38 : decode cX9_fix 38 = .ok (.getfield 36, 3) := by decide +kernel
theorem dX9_fix_41 : decode cX9_fix 41 = .ok (.iload_n 1, 1) := by decide +kernel
theorem dX9_fix_42 : decode cX9_fix 42 = .ok (.iload_n 3, 1) := by decide +kernel
theorem dX9_fix_43 : decode cX9_fix 43 = .ok (.ifCond .ge 9, 3) := by decide +kernel
theorem dX9_fix_46 : decode cX9_fix 46 = .ok (.iconst 0, 1) := by decide +kernel
theorem dX9_fix_47 : decode cX9_fix 47 = .ok (.newarray .int, 2) := by decide +kernel
theorem dX9_fix_49 : decode cX9_fix 49 = .ok (.goto 6, 3) := by decide +kernel
theorem dX9_fix_52 : decode cX9_fix 52 = .ok (.aload_n 2, 1) := by decide +kernel
theorem dX9_fix_53 : decode cX9_fix 53 = .ok (.iload_n 3, 1) := by decide +kernel
theorem dX9_fix_54 : decode cX9_fix 54 = .ok (.aaload, 1) := by decide +kernel
theorem dX9_fix_55 : decode cX9_fix 55 = .ok (.aastore, 1) := by decide +kernel
theorem dX9_fix_56 : decode cX9_fix 56 = .ok (.aload_n 0, 1) := by decide +kernel
theorem dX9_fix_57 : decode cX9_fix 57 = .ok (.getfield 10, 3) := by decide +kernel
theorem dX9_fix_60 : decode cX9_fix 60 = .ok (.iload_n 1, 1) := by decide +kernel
theorem dX9_fix_61 : decode cX9_fix 61 = .ok (.iload_n 3, 1) := by decide +kernel
theorem dX9_fix_62 : decode cX9_fix 62 = .ok (.invokevirtual 144, 3) := by decide +kernel
theorem dX9_fix_65 : decode cX9_fix 65 = .ok (.iload_n 3, 1) := by decide +kernel
theorem dX9_fix_66 : decode cX9_fix 66 = .ok (.ifCond .ge 7, 3) := by decide +kernel
theorem dX9_fix_69 : decode cX9_fix 69 = .ok (.iconst 0, 1) := by decide +kernel
theorem dX9_fix_70 : decode cX9_fix 70 = .ok (.goto 9, 3) := by decide +kernel
theorem dX9_fix_73 : decode cX9_fix 73 = .ok (.aload_n 2, 1) := by decide +kernel
theorem dX9_fix_74 : decode cX9_fix 74 = .ok (.iload_n 3, 1) := by decide +kernel
theorem dX9_fix_75 : decode cX9_fix 75 = .ok (.aaload, 1) := by decide +kernel
theorem dX9_fix_76 : decode cX9_fix 76 = .ok (.invokestatic 129, 3) := by decide +kernel
theorem dX9_fix_79 : decode cX9_fix 79 = .ok (.if_icmp .ne 7, 3) := by decide +kernel
theorem dX9_fix_82 : decode cX9_fix 82 = .ok (.iconst 1, 1) := by decide +kernel
theorem dX9_fix_83 : decode cX9_fix 83 = .ok (.goto 4, 3) := by decide +kernel
theorem dX9_fix_86 : decode cX9_fix 86 = .ok (.iconst 0, 1) := by decide +kernel
theorem dX9_fix_87 : decode cX9_fix 87 = .ok (.ireturn, 1) := by decide +kernel
theorem dX9_found_0 : decode cX9_found 0 = .ok (.iconst 0, 1) := by decide +kernel
theorem dX9_found_1 : decode cX9_found 1 = .ok (.istore_n 3, 1) := by decide +kernel
theorem dX9_found_2 : decode cX9_found 2 = .ok (.iload_n 3, 1) := by decide +kernel
theorem dX9_found_3 : decode cX9_found 3 = .ok (.iload_n 1, 1) := by decide +kernel
theorem dX9_found_4 : decode cX9_found 4 = .ok (.if_icmp .ge 18, 3) := by decide +kernel
theorem dX9_found_7 : decode cX9_found 7 = .ok (.aload_n 0, 1) := by decide +kernel
theorem dX9_found_8 : decode cX9_found 8 = .ok (.invokevirtual 166, 3) := by decide +kernel
theorem dX9_found_11 : decode cX9_found 11 = .ok (.ifCond .ne 5, 3) := by decide +kernel
theorem dX9_found_14 : decode cX9_found 14 = .ok (.iconst 0, 1) := by decide +kernel
theorem dX9_found_15 : decode cX9_found 15 = .ok (.ireturn, 1) := by decide +kernel
theorem dX9_found_16 : decode cX9_found 16 = .ok (.iinc 3 1, 3) := by decide +kernel
theorem dX9_found_19 : decode cX9_found 19 = .ok (.goto (-17), 3) := by decide +kernel
theorem dX9_found_22 : decode cX9_found 22 = .ok (.iconst 0, 1) := by decide +kernel
theorem dX9_found_23 : decode cX9_found 23 = .ok (.istore_n 3, 1) := by decide +kernel
theorem dX9_found_24 : decode cX9_found 24 = .ok (.iload_n 3, 1) := by decide +kernel
theorem dX9_found_25 : decode cX9_found 25 = .ok (.iload_n 2, 1) := by decide +kernel
theorem dX9_found_26 : decode cX9_found 26 = .ok (.if_icmp .ge 18, 3) := by decide +kernel
theorem dX9_found_29 : decode cX9_found 29 = .ok (.aload_n 0, 1) := by decide +kernel
theorem dX9_found_30 : decode cX9_found 30 = .ok (.invokevirtual 169, 3) := by decide +kernel
theorem dX9_found_33 : decode cX9_found 33 = .ok (.ifCond .ne 5, 3) := by decide +kernel
theorem dX9_found_36 : decode cX9_found 36 = .ok (.iconst 0, 1) := by decide +kernel
theorem dX9_found_37 : decode cX9_found 37 = .ok (.ireturn, 1) := by decide +kernel
theorem dX9_found_38 : decode cX9_found 38 = .ok (.iinc 3 1, 3) := by decide +kernel
theorem dX9_found_41 : decode cX9_found 41 = .ok (.goto (-17), 3) := by decide +kernel
theorem dX9_found_44 : decode cX9_found 44 = .ok (.iconst 1, 1) := by decide +kernel
theorem dX9_found_45 : decode cX9_found 45 = .ok (.ireturn, 1) := by decide +kernel
theorem dJ6_bitCount_0f7a4_0 : decode cJ6_bitCount_0f7a4 0 = .ok (.iload_n 0, 1) := by decide +kernel
theorem dJ6_bitCount_0f7a4_1 : decode cJ6_bitCount_0f7a4 1 = .ok (.iload_n 0, 1) := by decide +kernel
theorem dJ6_bitCount_0f7a4_2 : decode cJ6_bitCount_0f7a4 2 = .ok (.iconst 1, 1) := by decide +kernel
theorem dJ6_bitCount_0f7a4_3 : decode cJ6_bitCount_0f7a4 3 = .ok (.iushr, 1) := by decide +kernel
theorem dJ6_bitCount_0f7a4_4 : decode cJ6_bitCount_0f7a4 4 = .ok (.ldc_w 265, 3) := by decide +kernel
theorem dJ6_bitCount_0f7a4_7 : decode cJ6_bitCount_0f7a4 7 = .ok (.iand, 1) := by decide +kernel
theorem dJ6_bitCount_0f7a4_8 : decode cJ6_bitCount_0f7a4 8 = .ok (.isub, 1) := by decide +kernel
theorem dJ6_bitCount_0f7a4_9 : decode cJ6_bitCount_0f7a4 9 = .ok (.istore_n 0, 1) := by decide +kernel
theorem dJ6_bitCount_0f7a4_10 : decode cJ6_bitCount_0f7a4 10 = .ok (.iload_n 0, 1) := by decide +kernel
theorem dJ6_bitCount_0f7a4_11 : decode cJ6_bitCount_0f7a4 11 = .ok (.ldc_w 266, 3) := by decide +kernel
theorem dJ6_bitCount_0f7a4_14 : decode cJ6_bitCount_0f7a4 14 = .ok (.iand, 1) := by decide +kernel
theorem dJ6_bitCount_0f7a4_15 : decode cJ6_bitCount_0f7a4 15 = .ok (.iload_n 0, 1) := by decide +kernel
theorem dJ6_bitCount_0f7a4_16 : decode cJ6_bitCount_0f7a4 16 = .ok (.iconst 2, 1) := by decide +kernel
theorem dJ6_bitCount_0f7a4_17 : decode cJ6_bitCount_0f7a4 17 = .ok (.iushr, 1) := by decide +kernel
theorem dJ6_bitCount_0f7a4_18 : decode cJ6_bitCount_0f7a4 18 = .ok (.ldc_w 266, 3) := by decide +kernel
theorem dJ6_bitCount_0f7a4_21 : decode cJ6_bitCount_0f7a4 21 = .ok (.iand, 1) := by decide +kernel
theorem dJ6_bitCount_0f7a4_22 : decode cJ6_bitCount_0f7a4 22 = .ok (.iadd, 1) := by decide +kernel
theorem dJ6_bitCount_0f7a4_23 : decode cJ6_bitCount_0f7a4 23 = .ok (.istore_n 0, 1) := by decide +kernel
theorem dJ6_bitCount_0f7a4_24 : decode cJ6_bitCount_0f7a4 24 = .ok (.iload_n 0, 1) := by decide +kernel
theorem dJ6_bitCount_0f7a4_25 : decode cJ6_bitCount_0f7a4 25 = .ok (.iload_n 0, 1) := by decide +kernel
theorem dJ6_bitCount_0f7a4_26 : decode cJ6_bitCount_0f7a4 26 = .ok (.iconst 4, 1) := by decide +kernel
theorem dJ6_bitCount_0f7a4_27 : decode cJ6_bitCount_0f7a4 27 = .ok (.iushr, 1) := by decide +kernel
theorem dJ6_bitCount_0f7a4_28 : decode cJ6_bitCount_0f7a4 28 = .ok (.iadd, 1) := by decide +kernel
theorem dJ6_bitCount_0f7a4_29 : decode cJ6_bitCount_0f7a4 29 = .ok (.ldc_w 267, 3) := by decide +kernel
theorem dJ6_bitCount_0f7a4_32 : decode cJ6_bitCount_0f7a4 32 = .ok (.iand, 1) := by decide +kernel
theorem dJ6_bitCount_0f7a4_33 : decode cJ6_bitCount_0f7a4 33 = .ok (.istore_n 0, 1) := by decide +kernel
theorem dJ6_bitCount_0f7a4_34 : decode cJ6_bitCount_0f7a4 34 = .ok (.iload_n 0, 1) := by decide +kernel
theorem dJ6_bitCount_0f7a4_35 : decode cJ6_bitCount_0f7a4 35 = .ok (.iload_n 0, 1) := by decide +kernel
theorem dJ6_bitCount_0f7a4_36 : decode cJ6_bitCount_0f7a4 36 = .ok (.bipush 8, 2) := by decide +kernel
theorem dJ6_bitCount_0f7a4_38 : decode cJ6_bitCount_0f7a4 38 = .ok (.iushr, 1) := by decide +kernel
theorem dJ6_bitCount_0f7a4_39 : decode cJ6_bitCount_0f7a4 39 = .ok (.iadd, 1) := by decide +kernel
theorem dJ6_bitCount_0f7a4_40 : decode cJ6_bitCount_0f7a4 40 = .ok (.istore_n 0, 1) := by decide +kernel
theorem dJ6_bitCount_0f7a4_41 : decode cJ6_bitCount_0f7a4 41 = .ok (.iload_n 0, 1) := by decide +kernel
theorem dJ6_bitCount_0f7a4_42 : decode cJ6_bitCount_0f7a4 42 = .ok (.iload_n 0, 1) := by decide +kernel
theorem dJ6_bitCount_0f7a4_43 : decode cJ6_bitCount_0f7a4 43 = .ok (.bipush 16, 2) := by decide +kernel
theorem dJ6_bitCount_0f7a4_45 : decode cJ6_bitCount_0f7a4 45 = .ok (.iushr, 1) := by decide +kernel
theorem dJ6_bitCount_0f7a4_46 : decode cJ6_bitCount_0f7a4 46 = .ok (.iadd, 1) := by decide +kernel
theorem dJ6_bitCount_0f7a4_47 : decode cJ6_bitCount_0f7a4 47 = .ok (.istore_n 0, 1) := by decide +kernel
theorem dJ6_bitCount_0f7a4_48 : decode cJ6_bitCount_0f7a4 48 = .ok (.iload_n 0, 1) := by decide +kernel
theorem dJ6_bitCount_0f7a4_49 : decode cJ6_bitCount_0f7a4 49 = .ok (.bipush 63, 2) := by decide +kernel
theorem dJ6_bitCount_0f7a4_51 : decode cJ6_bitCount_0f7a4 51 = .ok (.iand, 1) := by decide +kernel
theorem dJ6_bitCount_0f7a4_52 : decode cJ6_bitCount_0f7a4 52 = .ok (.ireturn, 1) := by decide +kernel
theorem dJ9_abs_0f7a4_0 : decode cJ9_abs_0f7a4 0 = .ok (.iload_n 0, 1) := by decide +kernel
theorem dJ9_abs_0f7a4_1 : decode cJ9_abs_0f7a4 1 = .ok (.ifCond .ge 8, 3) := by decide +kernel
theorem dJ9_abs_0f7a4_4 : decode cJ9_abs_0f7a4 4 = .ok (.iload_n 0, 1) := by decide +kernel
theorem dJ9_abs_0f7a4_5 : decode cJ9_abs_0f7a4 5 = .ok (.ineg, 1) := by decide +kernel
theorem dJ9_abs_0f7a4_6 : decode cJ9_abs_0f7a4 6 = .ok (.goto 4, 3) := by decide +kernel
theorem dJ9_abs_0f7a4_9 : decode cJ9_abs_0f7a4 9 = .ok (.iload_n 0, 1) := by decide +kernel
theorem dJ9_abs_0f7a4_10 : decode cJ9_abs_0f7a4 10 = .ok (.ireturn, 1) := by decide +kernel
theorem dJ9_max_7cf53_0 : decode cJ9_max_7cf53 0 = .ok (.iload_n 0, 1) := by decide +kernel
theorem dJ9_max_7cf53_1 : decode cJ9_max_7cf53 1 = .ok (.iload_n 1, 1) := by decide +kernel
theorem dJ9_max_7cf53_2 : decode cJ9_max_7cf53 2 = .ok (.if_icmp .lt 7, 3) := by decide +kernel
theorem dJ9_max_7cf53_5 : decode cJ9_max_7cf53 5 = .ok (.iload_n 0, 1) := by decide +kernel
theorem dJ9_max_7cf53_6 : decode cJ9_max_7cf53 6 = .ok (.goto 4, 3) := by decide +kernel
theorem dJ9_max_7cf53_9 : decode cJ9_max_7cf53 9 = .ok (.iload_n 1, 1) := by decide +kernel
theorem dJ9_max_7cf53_10 : decode cJ9_max_7cf53 10 = .ok (.ireturn, 1) := by decide +kernel
theorem dJ9_min_7cf53_0 : decode cJ9_min_7cf53 0 = .ok (.iload_n 0, 1) := by decide +kernel
theorem dJ9_min_7cf53_1 : decode cJ9_min_7cf53 1 = .ok (.iload_n 1, 1) := by decide +kernel
theorem dJ9_min_7cf53_2 : decode cJ9_min_7cf53 2 = .ok (.if_icmp .gt 7, 3) := by decide +kernel
theorem dJ9_min_7cf53_5 : decode cJ9_min_7cf53 5 = .ok (.iload_n 0, 1) := by decide +kernel
theorem dJ9_min_7cf53_6 : decode cJ9_min_7cf53 6 = .ok (.goto 4, 3) := by decide +kernel
theorem dJ9_min_7cf53_9 : decode cJ9_min_7cf53 9 = .ok (.iload_n 1, 1) := by decide +kernel
theorem dJ9_min_7cf53_10 : decode cJ9_min_7cf53 10 = .ok (.ireturn, 1) := by decide +kernel
theorem dL_below_0 : decode cL_below 0 = .ok (.iload_n 0, 1) := by decide +kernel
theorem dL_below_1 : decode cL_below 1 = .ok (.ldc 7, 2) := by decide +kernel
theorem dL_below_3 : decode cL_below 3 = .ok (.iand, 1) := by decide +kernel
theorem dL_below_4 : decode cL_below 4 = .ok (.iload_n 1, 1) := by decide +kernel
theorem dL_below_5 : decode cL_below 5 = .ok (.irem, 1) := by decide +kernel
theorem dL_below_6 : decode cL_below 6 = .ok (.ireturn, 1) := by decide +kernel
theorem dL_cell_0 : decode cL_cell 0 = .ok (.iload_n 1, 1) := by decide +kernel
theorem dL_cell_1 : decode cL_cell 1 = .ok (.aload_n 0, 1) := by decide +kernel
theorem dL_cell_2 : decode cL_cell 2 = .ok (.arraylength, 1) := by decide +kernel
theorem dL_cell_3 : decode cL_cell 3 = .ok (.if_icmp .ge 9, 3) := by decide +kernel
theorem dL_cell_6 : decode cL_cell 6 = .ok (.aload_n 0, 1) := by decide +kernel
theorem dL_cell_7 : decode cL_cell 7 = .ok (.iload_n 1, 1) := by decide +kernel
theorem dL_cell_8 : decode cL_cell 8 = .ok (.iaload, 1) := by decide +kernel
theorem dL_cell_9 : decode cL_cell 9 = .ok (.goto 9, 3) := by decide +kernel
theorem dL_cell_12 : decode cL_cell 12 = .ok (.ldc 8, 2) := by decide +kernel
theorem dL_cell_14 : decode cL_cell 14 = .ok (.iload_n 1, 1) := by decide +kernel
theorem dL_cell_15 : decode cL_cell 15 = .ok (.iconst 3, 1) := by decide +kernel
theorem dL_cell_16 : decode cL_cell 16 = .ok (.iadd, 1) := by decide +kernel
theorem dL_cell_17 : decode cL_cell 17 = .ok (.imul, 1) := by decide +kernel
theorem dL_cell_18 : decode cL_cell 18 = .ok (.ireturn, 1) := by decide +kernel
theorem dL_law_0 : decode cL_law 0 = .ok (.iconst 0, 1) := by decide +kernel
theorem dL_law_1 : decode cL_law 1 = .ok (.istore_n 1, 1) := by decide +kernel
theorem dL_law_2 : decode cL_law 2 = .ok (.iload_n 1, 1) := by decide +kernel
theorem dL_law_3 : decode cL_law 3 = .ok (.iconst 3, 1) := by decide +kernel
theorem dL_law_4 : decode cL_law 4 = .ok (.if_icmp .ge 1139, 3) := by decide +kernel
theorem dL_law_7 : decode cL_law 7 = .ok (.new 9, 3) := by decide +kernel
theorem dL_law_10 : decode cL_law 10 = .ok (.dup, 1) := by decide +kernel
theorem dL_law_11 : decode cL_law 11 = .ok (.aload_n 0, 1) := by decide +kernel
theorem dL_law_12 : decode cL_law 12 = .ok (.bipush 31, 2) := by decide +kernel
theorem dL_law_14 : decode cL_law 14 = .ok (.iload_n 1, 1) := by decide +kernel
theorem dL_law_15 : decode cL_law 15 = .ok (.imul, 1) := by decide +kernel
theorem dL_law_16 : decode cL_law 16 = .ok (.bipush 7, 2) := by decide +kernel
theorem dL_law_18 : decode cL_law 18 = .ok (.iadd, 1) := by decide +kernel
theorem dL_law_19 : decode cL_law 19 = .ok (.invokespecial 11, 3) := by decide +kernel
theorem dL_law_22 : decode cL_law 22 = .ok (.astore_n 2, 1) := by decide +kernel
theorem dL_law_23 : decode cL_law 23 = .ok (.aload_n 2, 1) := by decide +kernel
theorem dL_law_24 : decode cL_law 24 = .ok (.getfield 14, 3) := by decide +kernel
theorem dL_law_27 : decode cL_law 27 = .ok (.astore_n 3, 1) := by decide +kernel
theorem dL_law_28 : decode cL_law 28 = .ok (.aload_n 2, 1) := by decide +kernel
theorem dL_law_29 : decode cL_law 29 = .ok (.iconst 3, 1) := by decide +kernel
theorem dL_law_30 : decode cL_law 30 = .ok (.aload_n 2, 1) := by decide +kernel
theorem dL_law_31 : decode cL_law 31 = .ok (.iconst 2, 1) := by decide +kernel
theorem dL_law_32 : decode cL_law 32 = .ok (.invokevirtual 18, 3) := by decide +kernel
theorem dL_law_35 : decode cL_law 35 = .ok (.iadd, 1) := by decide +kernel
theorem dL_law_36 : decode cL_law 36 = .ok (.iconst 3, 1) := by decide +kernel
theorem dL_law_37 : decode cL_law 37 = .ok (.invokevirtual 22, 3) := by decide +kernel
theorem dL_law_40 : decode cL_law 40 = .ok (.ifCond .ne 5, 3) := by decide +kernel
theorem dL_law_43 : decode cL_law 43 = .ok (.iconst 0, 1) := by decide +kernel
theorem dL_law_44 : decode cL_law 44 = .ok (.ireturn, 1) := by decide +kernel
theorem dL_law_45 : decode cL_law 45 = .ok (.iconst 0, 1) := by decide +kernel
theorem dL_law_46 : decode cL_law 46 = .ok (.istore 4, 2) := by decide +kernel
theorem dL_law_48 : decode cL_law 48 = .ok (.iload 4, 2) := by decide +kernel
theorem dL_law_50 : decode cL_law 50 = .ok (.iconst 4, 1) := by decide +kernel
theorem dL_law_51 : decode cL_law 51 = .ok (.if_icmp .ge 1086, 3) := by decide +kernel
theorem dL_law_54 : decode cL_law 54 = .ok (.aload_n 2, 1) := by decide +kernel
theorem dL_law_55 : decode cL_law 55 = .ok (.invokevirtual 26, 3) := by decide +kernel
theorem dL_law_58 : decode cL_law 58 = .ok (.ifCond .eq 28, 3) := by decide +kernel
theorem dL_law_61 : decode cL_law 61 = .ok (.aload_n 2, 1) := by decide +kernel
theorem dL_law_62 : decode cL_law 62 = .ok (.iconst 3, 1) := by decide +kernel
theorem dL_law_63 : decode cL_law 63 = .ok (.invokevirtual 18, 3) := by decide +kernel
theorem dL_law_66 : decode cL_law 66 = .ok (.ifCond .ne 13, 3) := by decide +kernel
theorem dL_law_69 : decode cL_law 69 = .ok (.aload_n 2, 1) := by decide +kernel
theorem dL_law_70 : decode cL_law 70 = .ok (.invokevirtual 30, 3) := by decide +kernel
theorem dL_law_73 : decode cL_law 73 = .ok (.ifCond .eq 13, 3) := by decide +kernel
theorem dL_law_76 : decode cL_law 76 = .ok (.goto 12, 3) := by decide +kernel
theorem dL_law_79 : decode cL_law 79 = .ok (.aload_n 2, 1) := by decide +kernel
theorem dL_law_80 : decode cL_law 80 = .ok (.invokevirtual 33, 3) := by decide +kernel
theorem dL_law_83 : decode cL_law 83 = .ok (.ifCond .ne 5, 3) := by decide +kernel
theorem dL_law_86 : decode cL_law 86 = .ok (.iconst 0, 1) := by decide +kernel
theorem dL_law_87 : decode cL_law 87 = .ok (.ireturn, 1) := by decide +kernel
theorem dL_law_88 : decode cL_law 88 = .ok (.aload_n 3, 1) := by decide +kernel
theorem dL_law_89 : decode cL_law 89 = .ok (.invokevirtual 36, 3) := by decide +kernel
theorem dL_law_92 : decode cL_law 92 = .ok (.lstore 5, 2) := by decide +kernel
theorem dL_law_94 : decode cL_law 94 = .ok (.aload_n 3, 1) := by decide +kernel
theorem dL_law_95 : decode cL_law 95 = .ok (.iconst 4, 1) := by decide +kernel
theorem dL_law_96 : decode cL_law 96 = .ok (.invokevirtual 42, 3) := by decide +kernel
theorem dL_law_99 : decode cL_law 99 = .ok (.istore 7, 2) := by decide +kernel
theorem dL_law_101 : decode cL_law 101 = .ok (.aload_n 3, 1) := by decide +kernel
theorem dL_law_102 : decode cL_law 102 = .ok (.iconst 0, 1) := by decide +kernel
theorem dL_law_103 : decode cL_law 103 = .ok (.invokevirtual 42, 3) := by decide +kernel
theorem dL_law_106 : decode cL_law 106 = .ok (.istore 8, 2) := by decide +kernel
theorem dL_law_108 : decode cL_law 108 = .ok (.aload_n 3, 1) := by decide +kernel
theorem dL_law_109 : decode cL_law 109 = .ok (.invokevirtual 45, 3) := by decide +kernel
theorem dL_law_112 : decode cL_law 112 = .ok (.istore 9, 2) := by decide +kernel
theorem dL_law_114 : decode cL_law 114 = .ok (.iconst 0, 1) := by decide +kernel
theorem dL_law_115 : decode cL_law 115 = .ok (.istore 10, 2) := by decide +kernel
theorem dL_law_117 : decode cL_law 117 = .ok (.iconst 0, 1) := by decide +kernel
theorem dL_law_118 : decode cL_law 118 = .ok (.istore 11, 2) := by decide +kernel
theorem dL_law_120 : decode cL_law 120 = .ok (.iconst 0, 1) := by decide +kernel
theorem dL_law_121 : decode cL_law 121 = .ok (.istore 12, 2) := by decide +kernel
theorem dL_law_123 : decode cL_law 123 = .ok (.iload 12, 2) := by decide +kernel
theorem dL_law_125 : decode cL_law 125 = .ok (.iload 7, 2) := by decide +kernel
theorem dL_law_127 : decode cL_law 127 = .ok (.if_icmp .ge 504, 3) := by decide +kernel
theorem dL_law_130 : decode cL_law 130 = .ok (.aload_n 3, 1) := by decide +kernel
theorem dL_law_131 : decode cL_law 131 = .ok (.iload 12, 2) := by decide +kernel
theorem dL_law_133 : decode cL_law 133 = .ok (.iconst 4, 1) := by decide +kernel
theorem dL_law_134 : decode cL_law 134 = .ok (.invokevirtual 49, 3) := by decide +kernel
theorem dL_law_137 : decode cL_law 137 = .ok (.istore 13, 2) := by decide +kernel
theorem dL_law_139 : decode cL_law 139 = .ok (.iload 11, 2) := by decide +kernel
theorem dL_law_141 : decode cL_law 141 = .ok (.iload 13, 2) := by decide +kernel
theorem dL_law_143 : decode cL_law 143 = .ok (.ifCond .ne 7, 3) := by decide +kernel
theorem dL_law_146 : decode cL_law 146 = .ok (.iconst 1, 1) := by decide +kernel
theorem dL_law_147 : decode cL_law 147 = .ok (.goto 4, 3) := by decide +kernel
theorem dL_law_150 : decode cL_law 150 = .ok (.iconst 0, 1) := by decide +kernel
theorem dL_law_151 : decode cL_law 151 = .ok (.iadd, 1) := by decide +kernel
theorem dL_law_152 : decode cL_law 152 = .ok (.istore 11, 2) := by decide +kernel
theorem dL_law_154 : decode cL_law 154 = .ok (.aload_n 3, 1) := by decide +kernel
theorem dL_law_155 : decode cL_law 155 = .ok (.iload 12, 2) := by decide +kernel
theorem dL_law_157 : decode cL_law 157 = .ok (.iconst 5, 1) := by decide +kernel
theorem dL_law_158 : decode cL_law 158 = .ok (.invokevirtual 49, 3) := by decide +kernel
theorem dL_law_161 : decode cL_law 161 = .ok (.istore 14, 2) := by decide +kernel
theorem dL_law_163 : decode cL_law 163 = .ok (.iload 13, 2) := by decide +kernel
theorem dL_law_165 : decode cL_law 165 = .ok (.bipush 30, 2) := by decide +kernel
theorem dL_law_167 : decode cL_law 167 = .ok (.if_icmp .gt 51, 3) := by decide +kernel
theorem dL_law_170 : decode cL_law 170 = .ok (.iload 14, 2) := by decide +kernel
theorem dL_law_172 : decode cL_law 172 = .ok (.iload 13, 2) := by decide +kernel
theorem dL_law_174 : decode cL_law 174 = .ok (.if_icmp .ge 44, 3) := by decide +kernel
theorem dL_law_177 : decode cL_law 177 = .ok (.iload 9, 2) := by decide +kernel
theorem dL_law_179 : decode cL_law 179 = .ok (.ifCond .lt 41, 3) := by decide +kernel
theorem dL_law_182 : decode cL_law 182 = .ok (.aload_n 3, 1) := by decide +kernel
theorem dL_law_183 : decode cL_law 183 = .ok (.iload 12, 2) := by decide +kernel
theorem dL_law_185 : decode cL_law 185 = .ok (.invokevirtual 53, 3) := by decide +kernel
theorem dL_law_188 : decode cL_law 188 = .ok (.ifCond .lt 30, 3) := by decide +kernel
theorem dL_law_191 : decode cL_law 191 = .ok (.aload_n 3, 1) := by decide +kernel
theorem dL_law_192 : decode cL_law 192 = .ok (.iload 12, 2) := by decide +kernel
theorem dL_law_194 : decode cL_law 194 = .ok (.invokevirtual 53, 3) := by decide +kernel
theorem dL_law_197 : decode cL_law 197 = .ok (.iload 13, 2) := by decide +kernel
theorem dL_law_199 : decode cL_law 199 = .ok (.if_icmp .ge 19, 3) := by decide +kernel
theorem dL_law_202 : decode cL_law 202 = .ok (.iload 14, 2) := by decide +kernel
theorem dL_law_204 : decode cL_law 204 = .ok (.ifCond .lt 16, 3) := by decide +kernel
theorem dL_law_207 : decode cL_law 207 = .ok (.aload_n 3, 1) := by decide +kernel
theorem dL_law_208 : decode cL_law 208 = .ok (.iload 12, 2) := by decide +kernel
theorem dL_law_210 : decode cL_law 210 = .ok (.invokevirtual 53, 3) := by decide +kernel
theorem dL_law_213 : decode cL_law 213 = .ok (.iload 14, 2) := by decide +kernel
theorem dL_law_215 : decode cL_law 215 = .ok (.if_icmp .eq 5, 3) := by decide +kernel
theorem dL_law_218 : decode cL_law 218 = .ok (.iconst 0, 1) := by decide +kernel
theorem dL_law_219 : decode cL_law 219 = .ok (.ireturn, 1) := by decide +kernel
theorem dL_law_220 : decode cL_law 220 = .ok (.iload 9, 2) := by decide +kernel
theorem dL_law_222 : decode cL_law 222 = .ok (.ifCond .lt 55, 3) := by decide +kernel
theorem dL_law_225 : decode cL_law 225 = .ok (.iload 10, 2) := by decide +kernel
theorem dL_law_227 : decode cL_law 227 = .ok (.aload_n 3, 1) := by decide +kernel
theorem dL_law_228 : decode cL_law 228 = .ok (.iload 12, 2) := by decide +kernel
theorem dL_law_230 : decode cL_law 230 = .ok (.aload_n 3, 1) := by decide +kernel
theorem dL_law_231 : decode cL_law 231 = .ok (.iload 12, 2) := by decide +kernel
theorem dL_law_233 : decode cL_law 233 = .ok (.invokevirtual 53, 3) := by decide +kernel
theorem dL_law_236 : decode cL_law 236 = .ok (.iconst 0, 1) := by decide +kernel
theorem dL_law_237 : decode cL_law 237 = .ok (.invokevirtual 56, 3) := by decide +kernel
theorem dL_law_240 : decode cL_law 240 = .ok (.iload 12, 2) := by decide +kernel
theorem dL_law_242 : decode cL_law 242 = .ok (.iconst 1, 1) := by decide +kernel
theorem dL_law_243 : decode cL_law 243 = .ok (.iadd, 1) := by decide +kernel
theorem dL_law_244 : decode cL_law 244 = .ok (.iload 7, 2) := by decide +kernel
theorem dL_law_246 : decode cL_law 246 = .ok (.if_icmp .ge 26, 3) := by decide +kernel
theorem dL_law_249 : decode cL_law 249 = .ok (.aload_n 3, 1) := by decide +kernel
theorem dL_law_250 : decode cL_law 250 = .ok (.iload 12, 2) := by decide +kernel
theorem dL_law_252 : decode cL_law 252 = .ok (.aload_n 3, 1) := by decide +kernel
theorem dL_law_253 : decode cL_law 253 = .ok (.iload 12, 2) := by decide +kernel
theorem dL_law_255 : decode cL_law 255 = .ok (.invokevirtual 53, 3) := by decide +kernel
theorem dL_law_258 : decode cL_law 258 = .ok (.aload_n 3, 1) := by decide +kernel
theorem dL_law_259 : decode cL_law 259 = .ok (.iload 12, 2) := by decide +kernel
theorem dL_law_261 : decode cL_law 261 = .ok (.iconst 1, 1) := by decide +kernel
theorem dL_law_262 : decode cL_law 262 = .ok (.iadd, 1) := by decide +kernel
theorem dL_law_263 : decode cL_law 263 = .ok (.invokevirtual 53, 3) := by decide +kernel
theorem dL_law_266 : decode cL_law 266 = .ok (.invokevirtual 60, 3) := by decide +kernel
theorem dL_law_269 : decode cL_law 269 = .ok (.goto 4, 3) := by decide +kernel
theorem dL_law_272 : decode cL_law 272 = .ok (.iconst 0, 1) := by decide +kernel
theorem dL_law_273 : decode cL_law 273 = .ok (.iadd, 1) := by decide +kernel
theorem dL_law_274 : decode cL_law 274 = .ok (.iadd, 1) := by decide +kernel
theorem dL_law_275 : decode cL_law 275 = .ok (.istore 10, 2) := by decide +kernel
theorem dL_law_277 : decode cL_law 277 = .ok (.iconst 0, 1) := by decide +kernel
theorem dL_law_278 : decode cL_law 278 = .ok (.istore 15, 2) := by decide +kernel
theorem dL_law_280 : decode cL_law 280 = .ok (.iload 15, 2) := by decide +kernel
theorem dL_law_282 : decode cL_law 282 = .ok (.iload 13, 2) := by decide +kernel
theorem dL_law_284 : decode cL_law 284 = .ok (.if_icmp .ge 341, 3) := by decide +kernel
theorem dL_law_287 : decode cL_law 287 = .ok (.iconst 0, 1) := by decide +kernel
theorem dL_law_288 : decode cL_law 288 = .ok (.istore 16, 2) := by decide +kernel
theorem dL_law_290 : decode cL_law 290 = .ok (.iload 15, 2) := by decide +kernel
theorem dL_law_292 : decode cL_law 292 = .ok (.iconst 1, 1) := by decide +kernel
theorem dL_law_293 : decode cL_law 293 = .ok (.iadd, 1) := by decide +kernel
theorem dL_law_294 : decode cL_law 294 = .ok (.iload 13, 2) := by decide +kernel
theorem dL_law_296 : decode cL_law 296 = .ok (.if_icmp .ge 7, 3) := by decide +kernel
theorem dL_law_299 : decode cL_law 299 = .ok (.iconst 1, 1) := by decide +kernel
theorem dL_law_300 : decode cL_law 300 = .ok (.goto 4, 3) := by decide +kernel
theorem dL_law_303 : decode cL_law 303 = .ok (.iconst 0, 1) := by decide +kernel
theorem dL_law_304 : decode cL_law 304 = .ok (.istore 17, 2) := by decide +kernel
theorem dL_law_306 : decode cL_law 306 = .ok (.iconst 0, 1) := by decide +kernel
theorem dL_law_307 : decode cL_law 307 = .ok (.istore 18, 2) := by decide +kernel
theorem dL_law_309 : decode cL_law 309 = .ok (.iload 18, 2) := by decide +kernel
theorem dL_law_311 : decode cL_law 311 = .ok (.iload 8, 2) := by decide +kernel
theorem dL_law_313 : decode cL_law 313 = .ok (.if_icmp .ge 245, 3) := by decide +kernel
theorem dL_law_316 : decode cL_law 316 = .ok (.aload_n 3, 1) := by decide +kernel
theorem dL_law_317 : decode cL_law 317 = .ok (.iload 12, 2) := by decide +kernel
theorem dL_law_319 : decode cL_law 319 = .ok (.iload 15, 2) := by decide +kernel
theorem dL_law_321 : decode cL_law 321 = .ok (.iload 18, 2) := by decide +kernel
theorem dL_law_323 : decode cL_law 323 = .ok (.invokevirtual 63, 3) := by decide +kernel
theorem dL_law_326 : decode cL_law 326 = .ok (.istore 19, 2) := by decide +kernel
theorem dL_law_328 : decode cL_law 328 = .ok (.aload_n 3, 1) := by decide +kernel
theorem dL_law_329 : decode cL_law 329 = .ok (.iload 12, 2) := by decide +kernel
theorem dL_law_331 : decode cL_law 331 = .ok (.iload 15, 2) := by decide +kernel
theorem dL_law_333 : decode cL_law 333 = .ok (.iload 18, 2) := by decide +kernel
theorem dL_law_335 : decode cL_law 335 = .ok (.invokevirtual 66, 3) := by decide +kernel
theorem dL_law_338 : decode cL_law 338 = .ok (.istore 20, 2) := by decide +kernel
theorem dL_law_340 : decode cL_law 340 = .ok (.iload 16, 2) := by decide +kernel
theorem dL_law_342 : decode cL_law 342 = .ok (.iload 20, 2) := by decide +kernel
theorem dL_law_344 : decode cL_law 344 = .ok (.invokestatic 69, 3) := by decide +kernel
theorem dL_law_347 : decode cL_law 347 = .ok (.istore 16, 2) := by decide +kernel
theorem dL_law_349 : decode cL_law 349 = .ok (.iload 17, 2) := by decide +kernel
theorem dL_law_351 : decode cL_law 351 = .ok (.iload 15, 2) := by decide +kernel
theorem dL_law_353 : decode cL_law 353 = .ok (.iconst 1, 1) := by decide +kernel
theorem dL_law_354 : decode cL_law 354 = .ok (.iadd, 1) := by decide +kernel
theorem dL_law_355 : decode cL_law 355 = .ok (.iload 13, 2) := by decide +kernel
theorem dL_law_357 : decode cL_law 357 = .ok (.if_icmp .ge 24, 3) := by decide +kernel
theorem dL_law_360 : decode cL_law 360 = .ok (.aload_n 3, 1) := by decide +kernel
theorem dL_law_361 : decode cL_law 361 = .ok (.iload 12, 2) := by decide +kernel
theorem dL_law_363 : decode cL_law 363 = .ok (.iload 15, 2) := by decide +kernel
theorem dL_law_365 : decode cL_law 365 = .ok (.iconst 1, 1) := by decide +kernel
theorem dL_law_366 : decode cL_law 366 = .ok (.iadd, 1) := by decide +kernel
theorem dL_law_367 : decode cL_law 367 = .ok (.iload 18, 2) := by decide +kernel
theorem dL_law_369 : decode cL_law 369 = .ok (.invokevirtual 63, 3) := by decide +kernel
theorem dL_law_372 : decode cL_law 372 = .ok (.iload 19, 2) := by decide +kernel
theorem dL_law_374 : decode cL_law 374 = .ok (.if_icmp .ne 7, 3) := by decide +kernel
theorem dL_law_377 : decode cL_law 377 = .ok (.iconst 1, 1) := by decide +kernel
theorem dL_law_378 : decode cL_law 378 = .ok (.goto 4, 3) := by decide +kernel
theorem dL_law_381 : decode cL_law 381 = .ok (.iconst 0, 1) := by decide +kernel
theorem dL_law_382 : decode cL_law 382 = .ok (.iand, 1) := by decide +kernel
theorem dL_law_383 : decode cL_law 383 = .ok (.istore 17, 2) := by decide +kernel
theorem dL_law_385 : decode cL_law 385 = .ok (.aload_n 2, 1) := by decide +kernel
theorem dL_law_386 : decode cL_law 386 = .ok (.getfield 74, 3) := by decide +kernel
theorem dL_law_389 : decode cL_law 389 = .ok (.iload 18, 2) := by decide +kernel
theorem dL_law_391 : decode cL_law 391 = .ok (.baload, 1) := by decide +kernel
theorem dL_law_392 : decode cL_law 392 = .ok (.ifCond .eq 8, 3) := by decide +kernel
theorem dL_law_395 : decode cL_law 395 = .ok (.iload 19, 2) := by decide +kernel
theorem dL_law_397 : decode cL_law 397 = .ok (.ifCond .ge 49, 3) := by decide +kernel
theorem dL_law_400 : decode cL_law 400 = .ok (.iload 19, 2) := by decide +kernel
theorem dL_law_402 : decode cL_law 402 = .ok (.bipush 12, 2) := by decide +kernel
theorem dL_law_404 : decode cL_law 404 = .ok (.aload_n 3, 1) := by decide +kernel
theorem dL_law_405 : decode cL_law 405 = .ok (.iconst 2, 1) := by decide +kernel
theorem dL_law_406 : decode cL_law 406 = .ok (.invokevirtual 42, 3) := by decide +kernel
theorem dL_law_409 : decode cL_law 409 = .ok (.isub, 1) := by decide +kernel
theorem dL_law_410 : decode cL_law 410 = .ok (.if_icmp .gt 36, 3) := by decide +kernel
theorem dL_law_413 : decode cL_law 413 = .ok (.iload 19, 2) := by decide +kernel
theorem dL_law_415 : decode cL_law 415 = .ok (.aload_n 3, 1) := by decide +kernel
theorem dL_law_416 : decode cL_law 416 = .ok (.iload 12, 2) := by decide +kernel
theorem dL_law_418 : decode cL_law 418 = .ok (.iload 15, 2) := by decide +kernel
theorem dL_law_420 : decode cL_law 420 = .ok (.iconst 2, 1) := by decide +kernel
theorem dL_law_421 : decode cL_law 421 = .ok (.invokevirtual 56, 3) := by decide +kernel
theorem dL_law_424 : decode cL_law 424 = .ok (.if_icmp .gt 22, 3) := by decide +kernel
theorem dL_law_427 : decode cL_law 427 = .ok (.iload 19, 2) := by decide +kernel
theorem dL_law_429 : decode cL_law 429 = .ok (.ifCond .le 19, 3) := by decide +kernel
theorem dL_law_432 : decode cL_law 432 = .ok (.iload 19, 2) := by decide +kernel
theorem dL_law_434 : decode cL_law 434 = .ok (.aload_n 3, 1) := by decide +kernel
theorem dL_law_435 : decode cL_law 435 = .ok (.iload 12, 2) := by decide +kernel
theorem dL_law_437 : decode cL_law 437 = .ok (.iload 15, 2) := by decide +kernel
theorem dL_law_439 : decode cL_law 439 = .ok (.iconst 1, 1) := by decide +kernel
theorem dL_law_440 : decode cL_law 440 = .ok (.invokevirtual 56, 3) := by decide +kernel
theorem dL_law_443 : decode cL_law 443 = .ok (.if_icmp .ge 5, 3) := by decide +kernel
theorem dL_law_446 : decode cL_law 446 = .ok (.iconst 0, 1) := by decide +kernel
theorem dL_law_447 : decode cL_law 447 = .ok (.ireturn, 1) := by decide +kernel
theorem dL_law_448 : decode cL_law 448 = .ok (.iconst 0, 1) := by decide +kernel
theorem dL_law_449 : decode cL_law 449 = .ok (.istore 21, 2) := by decide +kernel
theorem dL_law_451 : decode cL_law 451 = .ok (.iload 21, 2) := by decide +kernel
theorem dL_law_453 : decode cL_law 453 = .ok (.iload 18, 2) := by decide +kernel
theorem dL_law_455 : decode cL_law 455 = .ok (.if_icmp .ge 97, 3) := by decide +kernel
theorem dL_law_458 : decode cL_law 458 = .ok (.aload_n 3, 1) := by decide +kernel
theorem dL_law_459 : decode cL_law 459 = .ok (.iload 12, 2) := by decide +kernel
theorem dL_law_461 : decode cL_law 461 = .ok (.iload 15, 2) := by decide +kernel
theorem dL_law_463 : decode cL_law 463 = .ok (.iload 21, 2) := by decide +kernel
theorem dL_law_465 : decode cL_law 465 = .ok (.invokevirtual 63, 3) := by decide +kernel
theorem dL_law_468 : decode cL_law 468 = .ok (.istore 22, 2) := by decide +kernel
theorem dL_law_470 : decode cL_law 470 = .ok (.iload 19, 2) := by decide +kernel
theorem dL_law_472 : decode cL_law 472 = .ok (.ifCond .le 74, 3) := by decide +kernel
theorem dL_law_475 : decode cL_law 475 = .ok (.iload 22, 2) := by decide +kernel
theorem dL_law_477 : decode cL_law 477 = .ok (.ifCond .le 69, 3) := by decide +kernel
theorem dL_law_480 : decode cL_law 480 = .ok (.iload 19, 2) := by decide +kernel
theorem dL_law_482 : decode cL_law 482 = .ok (.iload 22, 2) := by decide +kernel
theorem dL_law_484 : decode cL_law 484 = .ok (.if_icmp .le 7, 3) := by decide +kernel
theorem dL_law_487 : decode cL_law 487 = .ok (.iconst 1, 1) := by decide +kernel
theorem dL_law_488 : decode cL_law 488 = .ok (.goto 4, 3) := by decide +kernel
theorem dL_law_491 : decode cL_law 491 = .ok (.iconst 0, 1) := by decide +kernel
theorem dL_law_492 : decode cL_law 492 = .ok (.iload 20, 2) := by decide +kernel
theorem dL_law_494 : decode cL_law 494 = .ok (.aload_n 3, 1) := by decide +kernel
theorem dL_law_495 : decode cL_law 495 = .ok (.iload 12, 2) := by decide +kernel
theorem dL_law_497 : decode cL_law 497 = .ok (.iload 15, 2) := by decide +kernel
theorem dL_law_499 : decode cL_law 499 = .ok (.iload 21, 2) := by decide +kernel
theorem dL_law_501 : decode cL_law 501 = .ok (.invokevirtual 66, 3) := by decide +kernel
theorem dL_law_504 : decode cL_law 504 = .ok (.if_icmp .le 7, 3) := by decide +kernel
theorem dL_law_507 : decode cL_law 507 = .ok (.iconst 1, 1) := by decide +kernel
theorem dL_law_508 : decode cL_law 508 = .ok (.goto 4, 3) := by decide +kernel
theorem dL_law_511 : decode cL_law 511 = .ok (.iconst 0, 1) := by decide +kernel
theorem dL_law_512 : decode cL_law 512 = .ok (.if_icmp .eq 10, 3) := by decide +kernel
theorem dL_law_515 : decode cL_law 515 = .ok (.iload 19, 2) := by decide +kernel
theorem dL_law_517 : decode cL_law 517 = .ok (.iload 22, 2) := by decide +kernel
theorem dL_law_519 : decode cL_law 519 = .ok (.if_icmp .ne 25, 3) := by decide +kernel
theorem dL_law_522 : decode cL_law 522 = .ok (.iload 19, 2) := by decide +kernel
theorem dL_law_524 : decode cL_law 524 = .ok (.iload 22, 2) := by decide +kernel
theorem dL_law_526 : decode cL_law 526 = .ok (.if_icmp .ne 20, 3) := by decide +kernel
theorem dL_law_529 : decode cL_law 529 = .ok (.iload 20, 2) := by decide +kernel
theorem dL_law_531 : decode cL_law 531 = .ok (.aload_n 3, 1) := by decide +kernel
theorem dL_law_532 : decode cL_law 532 = .ok (.iload 12, 2) := by decide +kernel
theorem dL_law_534 : decode cL_law 534 = .ok (.iload 15, 2) := by decide +kernel
theorem dL_law_536 : decode cL_law 536 = .ok (.iload 21, 2) := by decide +kernel
theorem dL_law_538 : decode cL_law 538 = .ok (.invokevirtual 66, 3) := by decide +kernel
theorem dL_law_541 : decode cL_law 541 = .ok (.if_icmp .ge 5, 3) := by decide +kernel
theorem dL_law_544 : decode cL_law 544 = .ok (.iconst 0, 1) := by decide +kernel
theorem dL_law_545 : decode cL_law 545 = .ok (.ireturn, 1) := by decide +kernel
theorem dL_law_546 : decode cL_law 546 = .ok (.iinc 21 1, 3) := by decide +kernel
theorem dL_law_549 : decode cL_law 549 = .ok (.goto (-98), 3) := by decide +kernel
theorem dL_law_552 : decode cL_law 552 = .ok (.iinc 18 1, 3) := by decide +kernel
theorem dL_law_555 : decode cL_law 555 = .ok (.goto (-246), 3) := by decide +kernel
theorem dL_law_558 : decode cL_law 558 = .ok (.iload 17, 2) := by decide +kernel
theorem dL_law_560 : decode cL_law 560 = .ok (.ifCond .ne 49, 3) := by decide +kernel
theorem dL_law_563 : decode cL_law 563 = .ok (.iload 16, 2) := by decide +kernel
theorem dL_law_565 : decode cL_law 565 = .ok (.aload_n 3, 1) := by decide +kernel
theorem dL_law_566 : decode cL_law 566 = .ok (.iload 12, 2) := by decide +kernel
theorem dL_law_568 : decode cL_law 568 = .ok (.iload 15, 2) := by decide +kernel
theorem dL_law_570 : decode cL_law 570 = .ok (.iconst 3, 1) := by decide +kernel
theorem dL_law_571 : decode cL_law 571 = .ok (.invokevirtual 56, 3) := by decide +kernel
theorem dL_law_574 : decode cL_law 574 = .ok (.if_icmp .ne 35, 3) := by decide +kernel
theorem dL_law_577 : decode cL_law 577 = .ok (.iload 16, 2) := by decide +kernel
theorem dL_law_579 : decode cL_law 579 = .ok (.iconst 4, 1) := by decide +kernel
theorem dL_law_580 : decode cL_law 580 = .ok (.if_icmp .gt 29, 3) := by decide +kernel
theorem dL_law_583 : decode cL_law 583 = .ok (.aload_n 3, 1) := by decide +kernel
theorem dL_law_584 : decode cL_law 584 = .ok (.iload 12, 2) := by decide +kernel
theorem dL_law_586 : decode cL_law 586 = .ok (.iload 15, 2) := by decide +kernel
theorem dL_law_588 : decode cL_law 588 = .ok (.iconst 4, 1) := by decide +kernel
theorem dL_law_589 : decode cL_law 589 = .ok (.invokevirtual 56, 3) := by decide +kernel
theorem dL_law_592 : decode cL_law 592 = .ok (.iconst 1, 1) := by decide +kernel
theorem dL_law_593 : decode cL_law 593 = .ok (.if_icmp .ne 18, 3) := by decide +kernel
theorem dL_law_596 : decode cL_law 596 = .ok (.aload_n 3, 1) := by decide +kernel
theorem dL_law_597 : decode cL_law 597 = .ok (.iload 12, 2) := by decide +kernel
theorem dL_law_599 : decode cL_law 599 = .ok (.iload 15, 2) := by decide +kernel
theorem dL_law_601 : decode cL_law 601 = .ok (.iconst 0, 1) := by decide +kernel
theorem dL_law_602 : decode cL_law 602 = .ok (.invokevirtual 56, 3) := by decide +kernel
theorem dL_law_605 : decode cL_law 605 = .ok (.iconst 4, 1) := by decide +kernel
theorem dL_law_606 : decode cL_law 606 = .ok (.if_icmp .ge 5, 3) := by decide +kernel
theorem dL_law_609 : decode cL_law 609 = .ok (.iconst 0, 1) := by decide +kernel
theorem dL_law_610 : decode cL_law 610 = .ok (.ireturn, 1) := by decide +kernel
theorem dL_law_611 : decode cL_law 611 = .ok (.iload 15, 2) := by decide +kernel
theorem dL_law_613 : decode cL_law 613 = .ok (.iconst 1, 1) := by decide +kernel
theorem dL_law_614 : decode cL_law 614 = .ok (.iload 15, 2) := by decide +kernel
theorem dL_law_616 : decode cL_law 616 = .ok (.iconst 3, 1) := by decide +kernel
theorem dL_law_617 : decode cL_law 617 = .ok (.idiv, 1) := by decide +kernel
theorem dL_law_618 : decode cL_law 618 = .ok (.iadd, 1) := by decide +kernel
theorem dL_law_619 : decode cL_law 619 = .ok (.iadd, 1) := by decide +kernel
theorem dL_law_620 : decode cL_law 620 = .ok (.istore 15, 2) := by decide +kernel
theorem dL_law_622 : decode cL_law 622 = .ok (.goto (-342), 3) := by decide +kernel
theorem dL_law_625 : decode cL_law 625 = .ok (.iinc 12 1, 3) := by decide +kernel
theorem dL_law_628 : decode cL_law 628 = .ok (.goto (-505), 3) := by decide +kernel
theorem dL_law_631 : decode cL_law 631 = .ok (.iload 11, 2) := by decide +kernel
theorem dL_law_633 : decode cL_law 633 = .ok (.aload_n 3, 1) := by decide +kernel
theorem dL_law_634 : decode cL_law 634 = .ok (.iconst 5, 1) := by decide +kernel
theorem dL_law_635 : decode cL_law 635 = .ok (.invokevirtual 42, 3) := by decide +kernel
theorem dL_law_638 : decode cL_law 638 = .ok (.if_icmp .ne 61, 3) := by decide +kernel
theorem dL_law_641 : decode cL_law 641 = .ok (.iload 9, 2) := by decide +kernel
theorem dL_law_643 : decode cL_law 643 = .ok (.ifCond .ge 7, 3) := by decide +kernel
theorem dL_law_646 : decode cL_law 646 = .ok (.iconst 1, 1) := by decide +kernel
theorem dL_law_647 : decode cL_law 647 = .ok (.goto 4, 3) := by decide +kernel
theorem dL_law_650 : decode cL_law 650 = .ok (.iconst 0, 1) := by decide +kernel
theorem dL_law_651 : decode cL_law 651 = .ok (.iload 11, 2) := by decide +kernel
theorem dL_law_653 : decode cL_law 653 = .ok (.ifCond .gt 8, 3) := by decide +kernel
theorem dL_law_656 : decode cL_law 656 = .ok (.iload 7, 2) := by decide +kernel
theorem dL_law_658 : decode cL_law 658 = .ok (.ifCond .ne 7, 3) := by decide +kernel
theorem dL_law_661 : decode cL_law 661 = .ok (.iconst 1, 1) := by decide +kernel
theorem dL_law_662 : decode cL_law 662 = .ok (.goto 4, 3) := by decide +kernel
theorem dL_law_665 : decode cL_law 665 = .ok (.iconst 0, 1) := by decide +kernel
theorem dL_law_666 : decode cL_law 666 = .ok (.if_icmp .ne 33, 3) := by decide +kernel
theorem dL_law_669 : decode cL_law 669 = .ok (.iload 9, 2) := by decide +kernel
theorem dL_law_671 : decode cL_law 671 = .ok (.ifCond .lt 30, 3) := by decide +kernel
theorem dL_law_674 : decode cL_law 674 = .ok (.iload 9, 2) := by decide +kernel
theorem dL_law_676 : decode cL_law 676 = .ok (.iload 10, 2) := by decide +kernel
theorem dL_law_678 : decode cL_law 678 = .ok (.if_icmp .ne 21, 3) := by decide +kernel
theorem dL_law_681 : decode cL_law 681 = .ok (.aload_n 3, 1) := by decide +kernel
theorem dL_law_682 : decode cL_law 682 = .ok (.aload_n 3, 1) := by decide +kernel
theorem dL_law_683 : decode cL_law 683 = .ok (.invokevirtual 78, 3) := by decide +kernel
theorem dL_law_686 : decode cL_law 686 = .ok (.aload_n 3, 1) := by decide +kernel
theorem dL_law_687 : decode cL_law 687 = .ok (.iconst 3, 1) := by decide +kernel
theorem dL_law_688 : decode cL_law 688 = .ok (.invokevirtual 42, 3) := by decide +kernel
theorem dL_law_691 : decode cL_law 691 = .ok (.invokevirtual 81, 3) := by decide +kernel
theorem dL_law_694 : decode cL_law 694 = .ok (.iload 9, 2) := by decide +kernel
theorem dL_law_696 : decode cL_law 696 = .ok (.if_icmp .le 5, 3) := by decide +kernel
theorem dL_law_699 : decode cL_law 699 = .ok (.iconst 0, 1) := by decide +kernel
theorem dL_law_700 : decode cL_law 700 = .ok (.ireturn, 1) := by decide +kernel
theorem dL_law_701 : decode cL_law 701 = .ok (.iconst 1, 1) := by decide +kernel
theorem dL_law_702 : decode cL_law 702 = .ok (.istore 12, 2) := by decide +kernel
theorem dL_law_704 : decode cL_law 704 = .ok (.iload 12, 2) := by decide +kernel
theorem dL_law_706 : decode cL_law 706 = .ok (.bipush 10, 2) := by decide +kernel
theorem dL_law_708 : decode cL_law 708 = .ok (.if_icmp .ge 224, 3) := by decide +kernel
theorem dL_law_711 : decode cL_law 711 = .ok (.aload_n 2, 1) := by decide +kernel
theorem dL_law_712 : decode cL_law 712 = .ok (.bipush 12, 2) := by decide +kernel
theorem dL_law_714 : decode cL_law 714 = .ok (.invokevirtual 18, 3) := by decide +kernel
theorem dL_law_717 : decode cL_law 717 = .ok (.istore 13, 2) := by decide +kernel
theorem dL_law_719 : decode cL_law 719 = .ok (.iconst 1, 1) := by decide +kernel
theorem dL_law_720 : decode cL_law 720 = .ok (.iload 13, 2) := by decide +kernel
theorem dL_law_722 : decode cL_law 722 = .ok (.ishl, 1) := by decide +kernel
theorem dL_law_723 : decode cL_law 723 = .ok (.iconst 1, 1) := by decide +kernel
theorem dL_law_724 : decode cL_law 724 = .ok (.iload 13, 2) := by decide +kernel
theorem dL_law_726 : decode cL_law 726 = .ok (.iconst 4, 1) := by decide +kernel
theorem dL_law_727 : decode cL_law 727 = .ok (.iadd, 1) := by decide +kernel
theorem dL_law_728 : decode cL_law 728 = .ok (.bipush 12, 2) := by decide +kernel
theorem dL_law_730 : decode cL_law 730 = .ok (.irem, 1) := by decide +kernel
theorem dL_law_731 : decode cL_law 731 = .ok (.ishl, 1) := by decide +kernel
theorem dL_law_732 : decode cL_law 732 = .ok (.ior, 1) := by decide +kernel
theorem dL_law_733 : decode cL_law 733 = .ok (.istore 14, 2) := by decide +kernel
theorem dL_law_735 : decode cL_law 735 = .ok (.aload_n 3, 1) := by decide +kernel
theorem dL_law_736 : decode cL_law 736 = .ok (.iload 14, 2) := by decide +kernel
theorem dL_law_738 : decode cL_law 738 = .ok (.iload 13, 2) := by decide +kernel
theorem dL_law_740 : decode cL_law 740 = .ok (.iload 12, 2) := by decide +kernel
theorem dL_law_742 : decode cL_law 742 = .ok (.invokevirtual 84, 3) := by decide +kernel
theorem dL_law_745 : decode cL_law 745 = .ok (.istore 15, 2) := by decide +kernel
theorem dL_law_747 : decode cL_law 747 = .ok (.aload_n 3, 1) := by decide +kernel
theorem dL_law_748 : decode cL_law 748 = .ok (.iload 14, 2) := by decide +kernel
theorem dL_law_750 : decode cL_law 750 = .ok (.iload 13, 2) := by decide +kernel
theorem dL_law_752 : decode cL_law 752 = .ok (.iload 12, 2) := by decide +kernel
theorem dL_law_754 : decode cL_law 754 = .ok (.invokevirtual 87, 3) := by decide +kernel
theorem dL_law_757 : decode cL_law 757 = .ok (.istore 16, 2) := by decide +kernel
theorem dL_law_759 : decode cL_law 759 = .ok (.iload 15, 2) := by decide +kernel
theorem dL_law_761 : decode cL_law 761 = .ok (.ifCond .le 7, 3) := by decide +kernel
theorem dL_law_764 : decode cL_law 764 = .ok (.iconst 1, 1) := by decide +kernel
theorem dL_law_765 : decode cL_law 765 = .ok (.goto 4, 3) := by decide +kernel
theorem dL_law_768 : decode cL_law 768 = .ok (.iconst 0, 1) := by decide +kernel
theorem dL_law_769 : decode cL_law 769 = .ok (.iload 16, 2) := by decide +kernel
theorem dL_law_771 : decode cL_law 771 = .ok (.ifCond .lt 7, 3) := by decide +kernel
theorem dL_law_774 : decode cL_law 774 = .ok (.iconst 1, 1) := by decide +kernel
theorem dL_law_775 : decode cL_law 775 = .ok (.goto 4, 3) := by decide +kernel
theorem dL_law_778 : decode cL_law 778 = .ok (.iconst 0, 1) := by decide +kernel
theorem dL_law_779 : decode cL_law 779 = .ok (.if_icmp .eq 5, 3) := by decide +kernel
theorem dL_law_782 : decode cL_law 782 = .ok (.iconst 0, 1) := by decide +kernel
theorem dL_law_783 : decode cL_law 783 = .ok (.ireturn, 1) := by decide +kernel
theorem dL_law_784 : decode cL_law 784 = .ok (.iconst 0, 1) := by decide +kernel
theorem dL_law_785 : decode cL_law 785 = .ok (.istore 17, 2) := by decide +kernel
theorem dL_law_787 : decode cL_law 787 = .ok (.sipush 999, 3) := by decide +kernel
theorem dL_law_790 : decode cL_law 790 = .ok (.istore 18, 2) := by decide +kernel
theorem dL_law_792 : decode cL_law 792 = .ok (.iconst 0, 1) := by decide +kernel
theorem dL_law_793 : decode cL_law 793 = .ok (.istore 19, 2) := by decide +kernel
theorem dL_law_795 : decode cL_law 795 = .ok (.iload 19, 2) := by decide +kernel
theorem dL_law_797 : decode cL_law 797 = .ok (.iload 8, 2) := by decide +kernel
theorem dL_law_799 : decode cL_law 799 = .ok (.if_icmp .ge 103, 3) := by decide +kernel
theorem dL_law_802 : decode cL_law 802 = .ok (.aload_n 3, 1) := by decide +kernel
theorem dL_law_803 : decode cL_law 803 = .ok (.iload 14, 2) := by decide +kernel
theorem dL_law_805 : decode cL_law 805 = .ok (.iload 13, 2) := by decide +kernel
theorem dL_law_807 : decode cL_law 807 = .ok (.iload 12, 2) := by decide +kernel
theorem dL_law_809 : decode cL_law 809 = .ok (.iload 19, 2) := by decide +kernel
theorem dL_law_811 : decode cL_law 811 = .ok (.invokevirtual 90, 3) := by decide +kernel
theorem dL_law_814 : decode cL_law 814 = .ok (.istore 20, 2) := by decide +kernel
theorem dL_law_816 : decode cL_law 816 = .ok (.iload 20, 2) := by decide +kernel
theorem dL_law_818 : decode cL_law 818 = .ok (.ifCond .ge 6, 3) := by decide +kernel
theorem dL_law_821 : decode cL_law 821 = .ok (.goto 75, 3) := by decide +kernel
theorem dL_law_824 : decode cL_law 824 = .ok (.aload_n 2, 1) := by decide +kernel
theorem dL_law_825 : decode cL_law 825 = .ok (.getfield 94, 3) := by decide +kernel
theorem dL_law_828 : decode cL_law 828 = .ok (.iload 19, 2) := by decide +kernel
theorem dL_law_830 : decode cL_law 830 = .ok (.iaload, 1) := by decide +kernel
theorem dL_law_831 : decode cL_law 831 = .ok (.aload_n 3, 1) := by decide +kernel
theorem dL_law_832 : decode cL_law 832 = .ok (.iconst 2, 1) := by decide +kernel
theorem dL_law_833 : decode cL_law 833 = .ok (.invokevirtual 42, 3) := by decide +kernel
theorem dL_law_836 : decode cL_law 836 = .ok (.iadd, 1) := by decide +kernel
theorem dL_law_837 : decode cL_law 837 = .ok (.iload 20, 2) := by decide +kernel
theorem dL_law_839 : decode cL_law 839 = .ok (.iadd, 1) := by decide +kernel
theorem dL_law_840 : decode cL_law 840 = .ok (.istore 21, 2) := by decide +kernel
theorem dL_law_842 : decode cL_law 842 = .ok (.iload 17, 2) := by decide +kernel
theorem dL_law_844 : decode cL_law 844 = .ok (.iconst 1, 1) := by decide +kernel
theorem dL_law_845 : decode cL_law 845 = .ok (.iload 21, 2) := by decide +kernel
theorem dL_law_847 : decode cL_law 847 = .ok (.bipush 12, 2) := by decide +kernel
theorem dL_law_849 : decode cL_law 849 = .ok (.irem, 1) := by decide +kernel
theorem dL_law_850 : decode cL_law 850 = .ok (.ishl, 1) := by decide +kernel
theorem dL_law_851 : decode cL_law 851 = .ok (.ior, 1) := by decide +kernel
theorem dL_law_852 : decode cL_law 852 = .ok (.istore 17, 2) := by decide +kernel
theorem dL_law_854 : decode cL_law 854 = .ok (.iload 18, 2) := by decide +kernel
theorem dL_law_856 : decode cL_law 856 = .ok (.iload 21, 2) := by decide +kernel
theorem dL_law_858 : decode cL_law 858 = .ok (.invokestatic 98, 3) := by decide +kernel
theorem dL_law_861 : decode cL_law 861 = .ok (.istore 18, 2) := by decide +kernel
theorem dL_law_863 : decode cL_law 863 = .ok (.iload 20, 2) := by decide +kernel
theorem dL_law_865 : decode cL_law 865 = .ok (.ifCond .le 19, 3) := by decide +kernel
theorem dL_law_868 : decode cL_law 868 = .ok (.iload 20, 2) := by decide +kernel
theorem dL_law_870 : decode cL_law 870 = .ok (.iload 12, 2) := by decide +kernel
theorem dL_law_872 : decode cL_law 872 = .ok (.if_icmp .lt 22, 3) := by decide +kernel
theorem dL_law_875 : decode cL_law 875 = .ok (.iload 20, 2) := by decide +kernel
theorem dL_law_877 : decode cL_law 877 = .ok (.iload 12, 2) := by decide +kernel
theorem dL_law_879 : decode cL_law 879 = .ok (.iconst 3, 1) := by decide +kernel
theorem dL_law_880 : decode cL_law 880 = .ok (.iadd, 1) := by decide +kernel
theorem dL_law_881 : decode cL_law 881 = .ok (.if_icmp .gt 13, 3) := by decide +kernel
theorem dL_law_884 : decode cL_law 884 = .ok (.aload_n 2, 1) := by decide +kernel
theorem dL_law_885 : decode cL_law 885 = .ok (.getfield 74, 3) := by decide +kernel
theorem dL_law_888 : decode cL_law 888 = .ok (.iload 19, 2) := by decide +kernel
theorem dL_law_890 : decode cL_law 890 = .ok (.baload, 1) := by decide +kernel
theorem dL_law_891 : decode cL_law 891 = .ok (.ifCond .eq 5, 3) := by decide +kernel
theorem dL_law_894 : decode cL_law 894 = .ok (.iconst 0, 1) := by decide +kernel
theorem dL_law_895 : decode cL_law 895 = .ok (.ireturn, 1) := by decide +kernel
theorem dL_law_896 : decode cL_law 896 = .ok (.iinc 19 1, 3) := by decide +kernel
theorem dL_law_899 : decode cL_law 899 = .ok (.goto (-104), 3) := by decide +kernel
theorem dL_law_902 : decode cL_law 902 = .ok (.iload 15, 2) := by decide +kernel
theorem dL_law_904 : decode cL_law 904 = .ok (.ifCond .le 22, 3) := by decide +kernel
theorem dL_law_907 : decode cL_law 907 = .ok (.iload 17, 2) := by decide +kernel
theorem dL_law_909 : decode cL_law 909 = .ok (.iload 14, 2) := by decide +kernel
theorem dL_law_911 : decode cL_law 911 = .ok (.if_icmp .ne 13, 3) := by decide +kernel
theorem dL_law_914 : decode cL_law 914 = .ok (.iload 18, 2) := by decide +kernel
theorem dL_law_916 : decode cL_law 916 = .ok (.bipush 12, 2) := by decide +kernel
theorem dL_law_918 : decode cL_law 918 = .ok (.irem, 1) := by decide +kernel
theorem dL_law_919 : decode cL_law 919 = .ok (.iload 13, 2) := by decide +kernel
theorem dL_law_921 : decode cL_law 921 = .ok (.if_icmp .eq 5, 3) := by decide +kernel
theorem dL_law_924 : decode cL_law 924 = .ok (.iconst 0, 1) := by decide +kernel
theorem dL_law_925 : decode cL_law 925 = .ok (.ireturn, 1) := by decide +kernel
theorem dL_law_926 : decode cL_law 926 = .ok (.iinc 12 4, 3) := by decide +kernel
theorem dL_law_929 : decode cL_law 929 = .ok (.goto (-225), 3) := by decide +kernel
theorem dL_law_932 : decode cL_law 932 = .ok (.aload_n 3, 1) := by decide +kernel
theorem dL_law_933 : decode cL_law 933 = .ok (.invokevirtual 36, 3) := by decide +kernel
theorem dL_law_936 : decode cL_law 936 = .ok (.lload 5, 2) := by decide +kernel
theorem dL_law_938 : decode cL_law 938 = .ok (.lcmp, 1) := by decide +kernel
theorem dL_law_939 : decode cL_law 939 = .ok (.ifCond .eq 5, 3) := by decide +kernel
theorem dL_law_942 : decode cL_law 942 = .ok (.iconst 0, 1) := by decide +kernel
theorem dL_law_943 : decode cL_law 943 = .ok (.ireturn, 1) := by decide +kernel
theorem dL_law_944 : decode cL_law 944 = .ok (.aload_n 2, 1) := by decide +kernel
theorem dL_law_945 : decode cL_law 945 = .ok (.iload 8, 2) := by decide +kernel
theorem dL_law_947 : decode cL_law 947 = .ok (.invokevirtual 18, 3) := by decide +kernel
theorem dL_law_950 : decode cL_law 950 = .ok (.istore 12, 2) := by decide +kernel
theorem dL_law_952 : decode cL_law 952 = .ok (.aload_n 3, 1) := by decide +kernel
theorem dL_law_953 : decode cL_law 953 = .ok (.iload 12, 2) := by decide +kernel
theorem dL_law_955 : decode cL_law 955 = .ok (.bipush 17, 2) := by decide +kernel
theorem dL_law_957 : decode cL_law 957 = .ok (.invokevirtual 101, 3) := by decide +kernel
theorem dL_law_960 : decode cL_law 960 = .ok (.istore 13, 2) := by decide +kernel
theorem dL_law_962 : decode cL_law 962 = .ok (.aload_n 3, 1) := by decide +kernel
theorem dL_law_963 : decode cL_law 963 = .ok (.iload 12, 2) := by decide +kernel
theorem dL_law_965 : decode cL_law 965 = .ok (.iload 13, 2) := by decide +kernel
theorem dL_law_967 : decode cL_law 967 = .ok (.invokevirtual 101, 3) := by decide +kernel
theorem dL_law_970 : decode cL_law 970 = .ok (.pop, 1) := by decide +kernel
theorem dL_law_971 : decode cL_law 971 = .ok (.aload_n 2, 1) := by decide +kernel
theorem dL_law_972 : decode cL_law 972 = .ok (.getfield 74, 3) := by decide +kernel
theorem dL_law_975 : decode cL_law 975 = .ok (.iload 12, 2) := by decide +kernel
theorem dL_law_977 : decode cL_law 977 = .ok (.baload, 1) := by decide +kernel
theorem dL_law_978 : decode cL_law 978 = .ok (.ifCond .ne 38, 3) := by decide +kernel
theorem dL_law_981 : decode cL_law 981 = .ok (.aload_n 3, 1) := by decide +kernel
theorem dL_law_982 : decode cL_law 982 = .ok (.iload 12, 2) := by decide +kernel
theorem dL_law_984 : decode cL_law 984 = .ok (.invokevirtual 104, 3) := by decide +kernel
theorem dL_law_987 : decode cL_law 987 = .ok (.istore 14, 2) := by decide +kernel
theorem dL_law_989 : decode cL_law 989 = .ok (.aload_n 3, 1) := by decide +kernel
theorem dL_law_990 : decode cL_law 990 = .ok (.iload 12, 2) := by decide +kernel
theorem dL_law_992 : decode cL_law 992 = .ok (.iconst 1, 1) := by decide +kernel
theorem dL_law_993 : decode cL_law 993 = .ok (.invokevirtual 107, 3) := by decide +kernel
theorem dL_law_996 : decode cL_law 996 = .ok (.pop, 1) := by decide +kernel
theorem dL_law_997 : decode cL_law 997 = .ok (.aload_n 3, 1) := by decide +kernel
theorem dL_law_998 : decode cL_law 998 = .ok (.invokevirtual 45, 3) := by decide +kernel
theorem dL_law_1001 : decode cL_law 1001 = .ok (.iload 14, 2) := by decide +kernel
theorem dL_law_1003 : decode cL_law 1003 = .ok (.if_icmp .eq 5, 3) := by decide +kernel
theorem dL_law_1006 : decode cL_law 1006 = .ok (.iconst 0, 1) := by decide +kernel
theorem dL_law_1007 : decode cL_law 1007 = .ok (.ireturn, 1) := by decide +kernel
theorem dL_law_1008 : decode cL_law 1008 = .ok (.aload_n 3, 1) := by decide +kernel
theorem dL_law_1009 : decode cL_law 1009 = .ok (.iload 12, 2) := by decide +kernel
theorem dL_law_1011 : decode cL_law 1011 = .ok (.iconst 0, 1) := by decide +kernel
theorem dL_law_1012 : decode cL_law 1012 = .ok (.invokevirtual 107, 3) := by decide +kernel
theorem dL_law_1015 : decode cL_law 1015 = .ok (.pop, 1) := by decide +kernel
theorem dL_law_1016 : decode cL_law 1016 = .ok (.aload_n 3, 1) := by decide +kernel
theorem dL_law_1017 : decode cL_law 1017 = .ok (.invokevirtual 36, 3) := by decide +kernel
theorem dL_law_1020 : decode cL_law 1020 = .ok (.lload 5, 2) := by decide +kernel
theorem dL_law_1022 : decode cL_law 1022 = .ok (.lcmp, 1) := by decide +kernel
theorem dL_law_1023 : decode cL_law 1023 = .ok (.ifCond .eq 5, 3) := by decide +kernel
theorem dL_law_1026 : decode cL_law 1026 = .ok (.iconst 0, 1) := by decide +kernel
theorem dL_law_1027 : decode cL_law 1027 = .ok (.ireturn, 1) := by decide +kernel
theorem dL_law_1028 : decode cL_law 1028 = .ok (.iload 9, 2) := by decide +kernel
theorem dL_law_1030 : decode cL_law 1030 = .ok (.ifCond .lt 101, 3) := by decide +kernel
theorem dL_law_1033 : decode cL_law 1033 = .ok (.iload 7, 2) := by decide +kernel
theorem dL_law_1035 : decode cL_law 1035 = .ok (.ifCond .le 96, 3) := by decide +kernel
theorem dL_law_1038 : decode cL_law 1038 = .ok (.aload_n 2, 1) := by decide +kernel
theorem dL_law_1039 : decode cL_law 1039 = .ok (.iload 7, 2) := by decide +kernel
theorem dL_law_1041 : decode cL_law 1041 = .ok (.invokevirtual 18, 3) := by decide +kernel
theorem dL_law_1044 : decode cL_law 1044 = .ok (.istore 14, 2) := by decide +kernel
theorem dL_law_1046 : decode cL_law 1046 = .ok (.aload_n 3, 1) := by decide +kernel
theorem dL_law_1047 : decode cL_law 1047 = .ok (.iload 14, 2) := by decide +kernel
theorem dL_law_1049 : decode cL_law 1049 = .ok (.invokevirtual 53, 3) := by decide +kernel
theorem dL_law_1052 : decode cL_law 1052 = .ok (.istore 15, 2) := by decide +kernel
theorem dL_law_1054 : decode cL_law 1054 = .ok (.aload_n 2, 1) := by decide +kernel
theorem dL_law_1055 : decode cL_law 1055 = .ok (.getfield 111, 3) := by decide +kernel
theorem dL_law_1058 : decode cL_law 1058 = .ok (.iload 14, 2) := by decide +kernel
theorem dL_law_1060 : decode cL_law 1060 = .ok (.aaload, 1) := by decide +kernel
theorem dL_law_1061 : decode cL_law 1061 = .ok (.arraylength, 1) := by decide +kernel
theorem dL_law_1062 : decode cL_law 1062 = .ok (.ifCond .ne 57, 3) := by decide +kernel
theorem dL_law_1065 : decode cL_law 1065 = .ok (.aload_n 3, 1) := by decide +kernel
theorem dL_law_1066 : decode cL_law 1066 = .ok (.iload 14, 2) := by decide +kernel
theorem dL_law_1068 : decode cL_law 1068 = .ok (.iload 15, 2) := by decide +kernel
theorem dL_law_1070 : decode cL_law 1070 = .ok (.invokevirtual 115, 3) := by decide +kernel
theorem dL_law_1073 : decode cL_law 1073 = .ok (.iload 9, 2) := by decide +kernel
theorem dL_law_1075 : decode cL_law 1075 = .ok (.if_icmp .ne 42, 3) := by decide +kernel
theorem dL_law_1078 : decode cL_law 1078 = .ok (.aload_n 3, 1) := by decide +kernel
theorem dL_law_1079 : decode cL_law 1079 = .ok (.iload 14, 2) := by decide +kernel
theorem dL_law_1081 : decode cL_law 1081 = .ok (.iload 15, 2) := by decide +kernel
theorem dL_law_1083 : decode cL_law 1083 = .ok (.invokevirtual 118, 3) := by decide +kernel
theorem dL_law_1086 : decode cL_law 1086 = .ok (.aload_n 3, 1) := by decide +kernel
theorem dL_law_1087 : decode cL_law 1087 = .ok (.iload 14, 2) := by decide +kernel
theorem dL_law_1089 : decode cL_law 1089 = .ok (.iload 15, 2) := by decide +kernel
theorem dL_law_1091 : decode cL_law 1091 = .ok (.iconst 0, 1) := by decide +kernel
theorem dL_law_1092 : decode cL_law 1092 = .ok (.invokevirtual 56, 3) := by decide +kernel
theorem dL_law_1095 : decode cL_law 1095 = .ok (.if_icmp .ne 22, 3) := by decide +kernel
theorem dL_law_1098 : decode cL_law 1098 = .ok (.aload_n 3, 1) := by decide +kernel
theorem dL_law_1099 : decode cL_law 1099 = .ok (.invokevirtual 45, 3) := by decide +kernel
theorem dL_law_1102 : decode cL_law 1102 = .ok (.iload 9, 2) := by decide +kernel
theorem dL_law_1104 : decode cL_law 1104 = .ok (.if_icmp .ne 13, 3) := by decide +kernel
theorem dL_law_1107 : decode cL_law 1107 = .ok (.aload_n 3, 1) := by decide +kernel
theorem dL_law_1108 : decode cL_law 1108 = .ok (.iload 14, 2) := by decide +kernel
theorem dL_law_1110 : decode cL_law 1110 = .ok (.iconst (-1), 1) := by decide +kernel
theorem dL_law_1111 : decode cL_law 1111 = .ok (.invokevirtual 118, 3) := by decide +kernel
theorem dL_law_1114 : decode cL_law 1114 = .ok (.ifCond .eq 5, 3) := by decide +kernel
theorem dL_law_1117 : decode cL_law 1117 = .ok (.iconst 0, 1) := by decide +kernel
theorem dL_law_1118 : decode cL_law 1118 = .ok (.ireturn, 1) := by decide +kernel
theorem dL_law_1119 : decode cL_law 1119 = .ok (.aload_n 3, 1) := by decide +kernel
theorem dL_law_1120 : decode cL_law 1120 = .ok (.invokevirtual 36, 3) := by decide +kernel
theorem dL_law_1123 : decode cL_law 1123 = .ok (.lload 5, 2) := by decide +kernel
theorem dL_law_1125 : decode cL_law 1125 = .ok (.lcmp, 1) := by decide +kernel
theorem dL_law_1126 : decode cL_law 1126 = .ok (.ifCond .eq 5, 3) := by decide +kernel
theorem dL_law_1129 : decode cL_law 1129 = .ok (.iconst 0, 1) := by decide +kernel
theorem dL_law_1130 : decode cL_law 1130 = .ok (.ireturn, 1) := by decide +kernel
theorem dL_law_1131 : decode cL_law 1131 = .ok (.iinc 4 1, 3) := by decide +kernel
theorem dL_law_1134 : decode cL_law 1134 = .ok (.goto (-1086), 3) := by decide +kernel
theorem dL_law_1137 : decode cL_law 1137 = .ok (.iinc 1 1, 3) := by decide +kernel
theorem dL_law_1140 : decode cL_law 1140 = .ok (.goto (-1138), 3) := by decide +kernel
theorem dL_law_1143 : decode cL_law 1143 = .ok (.iconst 1, 1) := by decide +kernel
theorem dL_law_1144 : decode cL_law 1144 = .ok (.ireturn, 1) := by decide +kernel
abbrev vwCl : List vw_C := [(RX0, TX0, 4), (RX2, TX2, 4), (RX3, TX3, 8), (RX4, TX4, 5), (RX5, TX5, 2), (RX6, TX6, 8), (RX7, TX7, 8), (RX8, TX8, 8), (RX9, TX9, 11)]
