theorem wd1 {w : Cond} (i : Nat) (h : tables_1_1[i]? = some w) (g : goodWord w = true) : w ∈ xWA := xWA_in (List.mem_append_right _ (show w ∈ tables_1 from List.mem_append_left _ (List.mem_of_getElem? h))) g
theorem wd2 {w : Cond} (i : Nat) (h : tables_1_2[i]? = some w) (g : goodWord w = true) : w ∈ xWA := xWA_in (List.mem_append_right _ (show w ∈ tables_1 from List.mem_append_right _ (List.mem_append_left _ (List.mem_of_getElem? h)))) g
theorem wd3 {w : Cond} (i : Nat) (h : tables_1_3[i]? = some w) (g : goodWord w = true) : w ∈ xWA := xWA_in (List.mem_append_right _ (show w ∈ tables_1 from List.mem_append_right _ (List.mem_append_right _ (List.mem_append_left _ (List.mem_of_getElem? h))))) g
theorem wd4 {w : Cond} (i : Nat) (h : tables_1_4[i]? = some w) (g : goodWord w = true) : w ∈ xWA := xWA_in (List.mem_append_right _ (show w ∈ tables_1 from List.mem_append_right _ (List.mem_append_right _ (List.mem_append_right _ (List.mem_of_getElem? h))))) g
-- methods
abbrev m_Tab_tune : xM := (⟨"Tablature", "tune", "(II)I"⟩, prog_1_method_3_code, 4, (some Jvm.ClassFile.FieldType.int))
abbrev m_Tab_needString : xM := (⟨"Tablature", "needString", "(I)V"⟩, prog_1_method_39_code, 2, none)
abbrev m_Tab_needOpen : xM := (⟨"Tablature", "needOpen", "(I)V"⟩, prog_1_method_43_code, 1, none)
abbrev m_Tab_instrumentChanged : xM := (⟨"Tablature", "instrumentChanged", "()V"⟩, prog_1_method_36_code, 1, none)
abbrev m_Shapes_forget : xM := (⟨"Tablature$Shapes", "forget", "()V"⟩, prog_9_method_2_code, 1, none)
abbrev m_Tab_slacken : xM := (⟨"Tablature", "slacken", "(IZ)I"⟩, prog_1_method_4_code, 3, (some Jvm.ClassFile.FieldType.int))
abbrev m_Instr_slackCount : xM := (⟨"Tablature$Instrument", "slackCount", "()I"⟩, prog_6_method_4_code, 3, (some Jvm.ClassFile.FieldType.int))
abbrev m_Tab_fix : xM := (⟨"Tablature", "fix", "(II)I"⟩, prog_1_method_10_code, 6, (some Jvm.ClassFile.FieldType.int))
abbrev m_Tab_needChord : xM := (⟨"Tablature", "needChord", "(I)V"⟩, prog_1_method_40_code, 2, none)
abbrev m_Tab_needGrip : xM := (⟨"Tablature", "needGrip", "(II)LTablature$Grips;"⟩, prog_1_method_41_code, 3, (some (Jvm.ClassFile.FieldType.object "Tablature$Grips")))
abbrev m_Tab_refreshPlan : xM := (⟨"Tablature", "refreshPlan", "()V"⟩, prog_1_method_37_code, 1, none)
abbrev m_Plan_read : xM := (⟨"Tablature$Planner", "read", "(LTablature$Instrument;LTablature$Piece;)V"⟩, prog_8_method_2_code, 5, none)
abbrev m_Math_min : xM := (⟨"java/lang/Math", "min", "(II)I"⟩, prog_18_method_69_code, 2, (some Jvm.ClassFile.FieldType.int))
abbrev m_Plan_place : xM := (⟨"Tablature$Planner", "place", "(LTablature$Grips;LTablature$Hand;LTablature$Instrument;LTablature$Chord;II)V"⟩, prog_8_method_3_code, 8, none)
abbrev m_Hand_hold : xM := (⟨"Tablature$Hand", "hold", "(I)V"⟩, prog_5_method_2_code, 3, none)
abbrev m_Code_fretAt : xM := (⟨"Tablature$GripCode", "fretAt", "(II)I"⟩, prog_3_method_2_code, 2, (some Jvm.ClassFile.FieldType.int))
abbrev m_Hand_countSounding : xM := (⟨"Tablature$Hand", "countSounding", "()V"⟩, prog_5_method_3_code, 3, none)
abbrev m_Hand_countPressed : xM := (⟨"Tablature$Hand", "countPressed", "()V"⟩, prog_5_method_4_code, 3, none)
abbrev m_Hand_findBarre : xM := (⟨"Tablature$Hand", "findBarre", "()V"⟩, prog_5_method_5_code, 5, none)
abbrev m_Hand_isPlayable : xM := (⟨"Tablature$Hand", "isPlayable", "(I)Z"⟩, prog_5_method_7_code, 2, (some Jvm.ClassFile.FieldType.boolean))
abbrev m_Hand_fingerCount : xM := (⟨"Tablature$Hand", "fingerCount", "()I"⟩, prog_5_method_6_code, 1, (some Jvm.ClassFile.FieldType.int))
abbrev m_Hand_effort : xM := (⟨"Tablature$Hand", "effort", "()I"⟩, prog_5_method_8_code, 1, (some Jvm.ClassFile.FieldType.int))
abbrev m_Grips_insert : xM := (⟨"Tablature$Grips", "insert", "(III)V"⟩, prog_4_method_4_code, 6, none)
abbrev m_Instr_fretFor : xM := (⟨"Tablature$Instrument", "fretFor", "(II)I"⟩, prog_6_method_8_code, 4, (some Jvm.ClassFile.FieldType.int))
abbrev m_Instr_isUsed : xM := (⟨"Tablature$Instrument", "isUsed", "(I)Z"⟩, prog_6_method_5_code, 2, (some Jvm.ClassFile.FieldType.boolean))
abbrev m_Instr_lastFret : xM := (⟨"Tablature$Instrument", "lastFret", "()I"⟩, prog_6_method_6_code, 1, (some Jvm.ClassFile.FieldType.int))
abbrev m_Code_with : xM := (⟨"Tablature$GripCode", "with", "(III)I"⟩, prog_3_method_3_code, 3, (some Jvm.ClassFile.FieldType.int))
abbrev m_Grips_numberOf : xM := (⟨"Tablature$Grips", "numberOf", "(I)I"⟩, prog_4_method_3_code, 3, (some Jvm.ClassFile.FieldType.int))
abbrev m_Plan_solve : xM := (⟨"Tablature$Planner", "solve", "()V"⟩, prog_8_method_4_code, 5, none)
abbrev m_Plan_griplessCount : xM := (⟨"Tablature$Planner", "griplessCount", "()I"⟩, prog_8_method_9_code, 3, (some Jvm.ClassFile.FieldType.int))
abbrev m_Plan_bestAt : xM := (⟨"Tablature$Planner", "bestAt", "(II)I"⟩, prog_8_method_5_code, 7, (some Jvm.ClassFile.FieldType.int))
abbrev m_Plan_moveCost : xM := (⟨"Tablature$Planner", "moveCost", "(III)I"⟩, prog_8_method_6_code, 8, (some Jvm.ClassFile.FieldType.int))
abbrev m_Grips_has : xM := (⟨"Tablature$Grips", "has", "(I)Z"⟩, prog_4_method_2_code, 2, (some Jvm.ClassFile.FieldType.boolean))
abbrev m_Code_newlyPressed : xM := (⟨"Tablature$GripCode", "newlyPressed", "(II)I"⟩, prog_3_method_4_code, 5, (some Jvm.ClassFile.FieldType.int))
abbrev m_Math_abs : xM := (⟨"java/lang/Math", "abs", "(I)I"⟩, prog_18_method_59_code, 1, (some Jvm.ClassFile.FieldType.int))
abbrev m_Integer_bitCount : xM := (⟨"java/lang/Integer", "bitCount", "(I)I"⟩, prog_17_method_49_code, 1, (some Jvm.ClassFile.FieldType.int))
abbrev m_Tab_ofChord : xM := (⟨"Tablature", "ofChord", "(II)I"⟩, prog_1_method_11_code, 3, (some Jvm.ClassFile.FieldType.int))
abbrev m_Tab_needQuestion : xM := (⟨"Tablature", "needQuestion", "(II)V"⟩, prog_1_method_42_code, 2, none)
abbrev m_Tab_askChord : xM := (⟨"Tablature", "askChord", "(II)I"⟩, prog_1_method_33_code, 4, (some Jvm.ClassFile.FieldType.int))
abbrev m_Chord_lowest : xM := (⟨"Tablature$Chord", "lowest", "()I"⟩, prog_2_method_4_code, 3, (some Jvm.ClassFile.FieldType.int))
abbrev m_Chord_highest : xM := (⟨"Tablature$Chord", "highest", "()I"⟩, prog_2_method_5_code, 3, (some Jvm.ClassFile.FieldType.int))
abbrev m_Math_max : xM := (⟨"java/lang/Math", "max", "(II)I"⟩, prog_18_method_65_code, 2, (some Jvm.ClassFile.FieldType.int))
abbrev m_Tab_ofGrip : xM := (⟨"Tablature", "ofGrip", "(III)I"⟩, prog_1_method_12_code, 5, (some Jvm.ClassFile.FieldType.int))
abbrev m_Tab_askHand : xM := (⟨"Tablature", "askHand", "(I)I"⟩, prog_1_method_34_code, 2, (some Jvm.ClassFile.FieldType.int))
abbrev m_Tab_fret : xM := (⟨"Tablature", "fret", "(III)I"⟩, prog_1_method_13_code, 5, (some Jvm.ClassFile.FieldType.int))
abbrev m_Tab_finger : xM := (⟨"Tablature", "finger", "(III)I"⟩, prog_1_method_14_code, 5, (some Jvm.ClassFile.FieldType.int))
abbrev m_Hand_fingerOn : xM := (⟨"Tablature$Hand", "fingerOn", "(I)I"⟩, prog_5_method_9_code, 6, (some Jvm.ClassFile.FieldType.int))
abbrev m_Tab_move : xM := (⟨"Tablature", "move", "(III)I"⟩, prog_1_method_15_code, 4, (some Jvm.ClassFile.FieldType.int))
abbrev m_Tab_plan : xM := (⟨"Tablature", "plan", "(I)I"⟩, prog_1_method_16_code, 2, (some Jvm.ClassFile.FieldType.int))
abbrev m_Tab_total : xM := (⟨"Tablature", "total", "()I"⟩, prog_1_method_17_code, 1, (some Jvm.ClassFile.FieldType.int))
abbrev m_Tab_many : xM := (⟨"Tablature", "many", "(I)I"⟩, prog_1_method_19_code, 2, (some Jvm.ClassFile.FieldType.int))
abbrev m_Tab_askWhole : xM := (⟨"Tablature", "askWhole", "(I)I"⟩, prog_1_method_32_code, 2, (some Jvm.ClassFile.FieldType.int))
abbrev m_Plan_fixedCount : xM := (⟨"Tablature$Planner", "fixedCount", "()I"⟩, prog_8_method_10_code, 3, (some Jvm.ClassFile.FieldType.int))
abbrev m_Plan_sumOfMoves : xM := (⟨"Tablature$Planner", "sumOfMoves", "()I"⟩, prog_8_method_8_code, 3, (some Jvm.ClassFile.FieldType.int))
abbrev m_Tab_shapes : xM := (⟨"Tablature", "shapes", "(III)I"⟩, prog_1_method_21_code, 4, (some Jvm.ClassFile.FieldType.int))
abbrev m_Tab_needVoicing : xM := (⟨"Tablature", "needVoicing", "(III)V"⟩, prog_1_method_46_code, 3, none)
abbrev m_Tab_freshVoicing : xM := (⟨"Tablature", "freshVoicing", "(III)LTablature$Shapes;"⟩, prog_1_method_38_code, 4, (some (Jvm.ClassFile.FieldType.object "Tablature$Shapes")))
abbrev m_Shapes_isOf : xM := (⟨"Tablature$Shapes", "isOf", "(III)Z"⟩, prog_9_method_3_code, 4, (some Jvm.ClassFile.FieldType.boolean))
abbrev m_Shapes_seek : xM := (⟨"Tablature$Shapes", "seek", "(LTablature$Instrument;III)V"⟩, prog_9_method_4_code, 5, none)
abbrev m_Shapes_place : xM := (⟨"Tablature$Shapes", "place", "(LTablature$Shapes;LTablature$Instrument;IIII)V"⟩, prog_9_method_6_code, 12, none)
abbrev m_Shapes_offer : xM := (⟨"Tablature$Shapes", "offer", "(II)V"⟩, prog_9_method_7_code, 3, none)
abbrev m_Shapes_isBetter : xM := (⟨"Tablature$Shapes", "isBetter", "(II)Z"⟩, prog_9_method_8_code, 3, (some Jvm.ClassFile.FieldType.boolean))
abbrev m_Instr_pitchOf : xM := (⟨"Tablature$Instrument", "pitchOf", "(II)I"⟩, prog_6_method_7_code, 3, (some Jvm.ClassFile.FieldType.int))
abbrev m_Tab_shapeEffort : xM := (⟨"Tablature", "shapeEffort", "(III)I"⟩, prog_1_method_22_code, 4, (some Jvm.ClassFile.FieldType.int))
abbrev m_Tab_shapeFret : xM := (⟨"Tablature", "shapeFret", "(IIII)I"⟩, prog_1_method_23_code, 5, (some Jvm.ClassFile.FieldType.int))
abbrev m_Shapes_bestFret : xM := (⟨"Tablature$Shapes", "bestFret", "(I)I"⟩, prog_9_method_5_code, 2, (some Jvm.ClassFile.FieldType.int))
abbrev m_Tab_totalWith : xM := (⟨"Tablature", "totalWith", "(II)I"⟩, prog_1_method_24_code, 3, (some Jvm.ClassFile.FieldType.int))
abbrev m_Tab_needCapo : xM := (⟨"Tablature", "needCapo", "(I)V"⟩, prog_1_method_44_code, 1, none)
abbrev m_Tab_needReach : xM := (⟨"Tablature", "needReach", "(I)V"⟩, prog_1_method_45_code, 1, none)
abbrev m_Tab_totalUnder : xM := (⟨"Tablature", "totalUnder", "(II)I"⟩, prog_1_method_35_code, 3, (some Jvm.ClassFile.FieldType.int))
abbrev m_Instr_copy : xM := (⟨"Tablature$Instrument", "copy", "(LTablature$Instrument;)V"⟩, prog_6_method_3_code, 3, none)
abbrev m_Tab_bestCapo : xM := (⟨"Tablature", "bestCapo", "()I"⟩, prog_1_method_25_code, 5, (some Jvm.ClassFile.FieldType.int))
abbrev m_Tab_totalWithout : xM := (⟨"Tablature", "totalWithout", "(I)I"⟩, prog_1_method_26_code, 2, (some Jvm.ClassFile.FieldType.int))
abbrev m_Tab_totalFixed : xM := (⟨"Tablature", "totalFixed", "(II)I"⟩, prog_1_method_27_code, 3, (some Jvm.ClassFile.FieldType.int))
abbrev m_Tab_digest : xM := (⟨"Tablature", "digest", "()J"⟩, prog_1_method_28_code, 4, (some Jvm.ClassFile.FieldType.long))
abbrev m_Tab_mix : xM := (⟨"Tablature", "mix", "(JI)J"⟩, prog_1_method_31_code, 3, (some Jvm.ClassFile.FieldType.long))
abbrev m_Tab_mixChord : xM := (⟨"Tablature", "mixChord", "(JI)J"⟩, prog_1_method_29_code, 7, (some Jvm.ClassFile.FieldType.long))
abbrev m_Tab_mixGrip : xM := (⟨"Tablature", "mixGrip", "(JI)J"⟩, prog_1_method_30_code, 7, (some Jvm.ClassFile.FieldType.long))
abbrev m_Plan_hardestMove : xM := (⟨"Tablature$Planner", "hardestMove", "()I"⟩, prog_8_method_7_code, 5, (some Jvm.ClassFile.FieldType.int))
abbrev m_Neck_init : xM := (⟨"TablatureLaw$Neck", "<init>", "([II)V"⟩, prog_11_method_1_code, 3, none)
abbrev m_Tab_init : xM := (⟨"Tablature", "<init>", "()V"⟩, prog_1_method_1_code, 1, none)
abbrev m_Instr_init : xM := (⟨"Tablature$Instrument", "<init>", "()V"⟩, prog_6_method_1_code, 1, none)
abbrev m_Piece_init : xM := (⟨"Tablature$Piece", "<init>", "()V"⟩, prog_7_method_1_code, 2, none)
abbrev m_Chord_init : xM := (⟨"Tablature$Chord", "<init>", "()V"⟩, prog_2_method_1_code, 1, none)
abbrev m_Plan_init : xM := (⟨"Tablature$Planner", "<init>", "()V"⟩, prog_8_method_1_code, 2, none)
abbrev m_Hand_init : xM := (⟨"Tablature$Hand", "<init>", "()V"⟩, prog_5_method_1_code, 1, none)
abbrev m_Grips_init : xM := (⟨"Tablature$Grips", "<init>", "()V"⟩, prog_4_method_1_code, 1, none)
abbrev m_Shapes_init : xM := (⟨"Tablature$Shapes", "<init>", "()V"⟩, prog_9_method_1_code, 1, none)
abbrev m_Neck_draw : xM := (⟨"TablatureLaw$Neck", "draw", "(I)I"⟩, prog_11_method_2_code, 3, (some Jvm.ClassFile.FieldType.int))
abbrev m_Law_cell : xM := (⟨"TablatureLaw", "cell", "([II)I"⟩, method_3_code, 2, (some Jvm.ClassFile.FieldType.int))
abbrev m_Law_below : xM := (⟨"TablatureLaw", "below", "(II)I"⟩, method_2_code, 2, (some Jvm.ClassFile.FieldType.int))
abbrev m_Neck_chord : xM := (⟨"TablatureLaw$Neck", "chord", "()Z"⟩, prog_11_method_6_code, 6, (some Jvm.ClassFile.FieldType.boolean))
abbrev m_Neck_plus : xM := (⟨"TablatureLaw$Neck", "plus", "([II)[I"⟩, prog_11_method_3_code, 3, (some (Jvm.ClassFile.FieldType.array Jvm.ClassFile.FieldType.int)))
abbrev m_Neck_with : xM := (⟨"TablatureLaw$Neck", "with", "([[I[II)[[I"⟩, prog_11_method_4_code, 4, (some (Jvm.ClassFile.FieldType.array (Jvm.ClassFile.FieldType.array Jvm.ClassFile.FieldType.int))))
abbrev m_Tab_chord : xM := (⟨"Tablature", "chord", "(IIIII)I"⟩, prog_1_method_8_code, 7, (some Jvm.ClassFile.FieldType.int))
abbrev m_Tab_isPitch : xM := (⟨"Tablature", "isPitch", "(I)Z"⟩, prog_1_method_47_code, 1, (some Jvm.ClassFile.FieldType.boolean))
abbrev m_Tab_isPitchOrNone : xM := (⟨"Tablature", "isPitchOrNone", "(I)Z"⟩, prog_1_method_48_code, 1, (some Jvm.ClassFile.FieldType.boolean))
abbrev m_Tab_hasTwice : xM := (⟨"Tablature", "hasTwice", "(IIII)Z"⟩, prog_1_method_49_code, 4, (some Jvm.ClassFile.FieldType.boolean))
abbrev m_Piece_append : xM := (⟨"Tablature$Piece", "append", "(I)LTablature$Chord;"⟩, prog_7_method_2_code, 3, (some (Jvm.ClassFile.FieldType.object "Tablature$Chord")))
abbrev m_Chord_clear : xM := (⟨"Tablature$Chord", "clear", "(I)V"⟩, prog_2_method_2_code, 2, none)
abbrev m_Chord_add : xM := (⟨"Tablature$Chord", "add", "(I)V"⟩, prog_2_method_3_code, 2, none)
abbrev m_Neck_change : xM := (⟨"TablatureLaw$Neck", "change", "()Z"⟩, prog_11_method_8_code, 5, (some Jvm.ClassFile.FieldType.boolean))
abbrev m_Tab_capo : xM := (⟨"Tablature", "capo", "(I)I"⟩, prog_1_method_5_code, 3, (some Jvm.ClassFile.FieldType.int))
abbrev m_Tab_reach : xM := (⟨"Tablature", "reach", "(I)I"⟩, prog_1_method_6_code, 3, (some Jvm.ClassFile.FieldType.int))
abbrev m_Neck_fix : xM := (⟨"TablatureLaw$Neck", "fix", "()Z"⟩, prog_11_method_20_code, 4, (some Jvm.ClassFile.FieldType.boolean))
abbrev m_Neck_grips : xM := (⟨"TablatureLaw$Neck", "grips", "(I)[[I"⟩, prog_11_method_18_code, 3, (some (Jvm.ClassFile.FieldType.array (Jvm.ClassFile.FieldType.array Jvm.ClassFile.FieldType.int))))
abbrev m_Neck_go : xM := (⟨"TablatureLaw$Neck", "go", "([I[III)V"⟩, prog_11_method_17_code, 7, none)
abbrev m_Neck_high : xM := (⟨"TablatureLaw$Neck", "high", "([I)I"⟩, prog_11_method_10_code, 6, (some Jvm.ClassFile.FieldType.int))
abbrev m_Neck_low : xM := (⟨"TablatureLaw$Neck", "low", "([I)I"⟩, prog_11_method_9_code, 6, (some Jvm.ClassFile.FieldType.int))
abbrev m_Neck_count : xM := (⟨"TablatureLaw$Neck", "count", "([I)I"⟩, prog_11_method_13_code, 6, (some Jvm.ClassFile.FieldType.int))
abbrev m_Neck_fingers : xM := (⟨"TablatureLaw$Neck", "fingers", "([I)[I"⟩, prog_11_method_12_code, 6, (some (Jvm.ClassFile.FieldType.array Jvm.ClassFile.FieldType.int)))
abbrev m_Neck_hasBarre : xM := (⟨"TablatureLaw$Neck", "hasBarre", "([I)Z"⟩, prog_11_method_11_code, 6, (some Jvm.ClassFile.FieldType.boolean))
abbrev m_Neck_effort : xM := (⟨"TablatureLaw$Neck", "effort", "([I)I"⟩, prog_11_method_15_code, 4, (some Jvm.ClassFile.FieldType.int))
abbrev m_Neck_sounds : xM := (⟨"TablatureLaw$Neck", "sounds", "([I)I"⟩, prog_11_method_14_code, 6, (some Jvm.ClassFile.FieldType.int))
abbrev m_Neck_isSmaller : xM := (⟨"TablatureLaw$Neck", "isSmaller", "([I[I)Z"⟩, prog_11_method_16_code, 3, (some Jvm.ClassFile.FieldType.boolean))
abbrev m_Neck_found : xM := (⟨"TablatureLaw$Neck", "found", "(II)Z"⟩, prog_11_method_25_code, 4, (some Jvm.ClassFile.FieldType.boolean))
abbrev m_Neck_string : xM := (⟨"TablatureLaw$Neck", "string", "()Z"⟩, prog_11_method_5_code, 3, (some Jvm.ClassFile.FieldType.boolean))
abbrev m_Tab_string : xM := (⟨"Tablature", "string", "(I)I"⟩, prog_1_method_2_code, 3, (some Jvm.ClassFile.FieldType.int))
abbrev m_Instr_draw : xM := (⟨"Tablature$Instrument", "draw", "(I)I"⟩, prog_6_method_2_code, 2, (some Jvm.ClassFile.FieldType.int))
-- classes
set_option maxRecDepth 100000 in
theorem in_RX0 : ∀ w ∈ u_ws RX0 TX0 4, w ∈ lw_tbl ∧ goodWord w = true := by decide +kernel
set_option maxRecDepth 100000 in
theorem in_RX2 : ∀ w ∈ u_ws RX2 TX2 4, w ∈ lw_tbl ∧ goodWord w = true := by decide +kernel
set_option maxRecDepth 100000 in
theorem in_RX3 : ∀ w ∈ u_ws RX3 TX3 8, w ∈ lw_tbl ∧ goodWord w = true := by decide +kernel
set_option maxRecDepth 100000 in
theorem in_RX4 : ∀ w ∈ u_ws RX4 TX4 5, w ∈ lw_tbl ∧ goodWord w = true := by decide +kernel
set_option maxRecDepth 100000 in
theorem in_RX5 : ∀ w ∈ u_ws RX5 TX5 2, w ∈ lw_tbl ∧ goodWord w = true := by decide +kernel
set_option maxRecDepth 100000 in
theorem in_RX6 : ∀ w ∈ u_ws RX6 TX6 8, w ∈ lw_tbl ∧ goodWord w = true := by decide +kernel
set_option maxRecDepth 100000 in
theorem in_RX7 : ∀ w ∈ u_ws RX7 TX7 8, w ∈ lw_tbl ∧ goodWord w = true := by decide +kernel
set_option maxRecDepth 100000 in
theorem in_RX8 : ∀ w ∈ u_ws RX8 TX8 8, w ∈ lw_tbl ∧ goodWord w = true := by decide +kernel
set_option maxRecDepth 100000 in
theorem in_RX9 : ∀ w ∈ u_ws RX9 TX9 11, w ∈ lw_tbl ∧ goodWord w = true := by decide +kernel
-- accesses and calls
theorem w_0 : (Jvm.Cond.methodLink "Tablature" (1 : Nat) ({ cls := "java/lang/Object", name := "<init>", desc := "()V" } : Jvm.MethodName)) ∈ xWA := wd2 216 rfl rfl
theorem s_Tab_1 : (Jvm.Cond.methodLink "Tablature" (1 : Nat) ({ cls := "java/lang/Object", name := "<init>", desc := "()V" } : Jvm.MethodName)) ∈ xWA := w_0
theorem w_1 : (Jvm.Cond.classLink "Tablature" (7 : Nat) "Tablature$Instrument") ∈ xWA := wd2 217 rfl rfl
theorem w_2 : (Jvm.Cond.instantiable "Tablature$Instrument" (5 : Nat)) ∈ xWA := wd2 218 rfl rfl
theorem w_3 : (Jvm.Cond.initialized "Tablature$Instrument") ∈ xWA := wd1 3 rfl rfl
theorem n_Tab_7 : xNw "Tablature" 7 3 5 [.null, .null, vi 0, vi 0, vi 0] := ⟨RX4, TX4, tyX4, rfl, fun w hw => xWA_in (in_RX4 w hw).1 (in_RX4 w hw).2, tyX4_ok, w_1, w_2, w_3, by decide +kernel⟩
theorem w_4 : (Jvm.Cond.code ({ cls := "Tablature$Instrument", name := "<init>", desc := "()V" } : Jvm.MethodName) prog_6_method_1_code (1 : Nat) (Option.none : Option Jvm.ClassFile.FieldType)) ∈ xWA := wd2 221 rfl rfl
theorem ok_Instr_init : xOk "" m_Instr_init 0 := ⟨w_4, w_3, ⟨by decide +kernel, by decide +kernel⟩, by decide +kernel⟩
theorem w_5 : (Jvm.Cond.instanceMethod ({ cls := "Tablature$Instrument", name := "<init>", desc := "()V" } : Jvm.MethodName)) ∈ xWA := wd2 220 rfl rfl
theorem s_Tab_9 : xIN "Tablature" 9 "Tablature" m_Instr_init 0 := ⟨ok_Instr_init, by decide +kernel, w_5, rfl, rfl⟩
theorem w_6 : (Jvm.Cond.fieldLink "Tablature" (10 : Nat) "Tablature" "instrument" "LTablature$Instrument;") ∈ xWA := wd3 188 rfl rfl
theorem p_Tab_10 : xP "Tablature" 10 7 0 (.object "Tablature$Instrument") true := ⟨RX8, TX8, 8, tyX8, rfl, fun w hw => xWA_in (in_RX8 w hw).1 (in_RX8 w hw).2, by decide, w_6, tyX8_ok, nmX8, rfl, by decide +kernel, Or.inr rfl⟩
theorem w_7 : (Jvm.Cond.fieldLink "Tablature" (16 : Nat) "Tablature" "trialInstrument" "LTablature$Instrument;") ∈ xWA := wd3 189 rfl rfl
theorem p_Tab_16 : xP "Tablature" 16 7 1 (.object "Tablature$Instrument") true := ⟨RX8, TX8, 8, tyX8, rfl, fun w hw => xWA_in (in_RX8 w hw).1 (in_RX8 w hw).2, by decide, w_7, tyX8_ok, nmX8, rfl, by decide +kernel, Or.inr rfl⟩
theorem w_8 : (Jvm.Cond.classLink "Tablature" (19 : Nat) "Tablature$Piece") ∈ xWA := wd3 9 rfl rfl
theorem w_9 : (Jvm.Cond.instantiable "Tablature$Piece" (2 : Nat)) ∈ xWA := wd3 10 rfl rfl
theorem w_10 : (Jvm.Cond.initialized "Tablature$Piece") ∈ xWA := wd1 4 rfl rfl
theorem n_Tab_19 : xNw "Tablature" 19 4 2 [.null, vi 0] := ⟨RX5, TX5, tyX5, rfl, fun w hw => xWA_in (in_RX5 w hw).1 (in_RX5 w hw).2, tyX5_ok, w_8, w_9, w_10, by decide +kernel⟩
theorem w_11 : (Jvm.Cond.code ({ cls := "Tablature$Piece", name := "<init>", desc := "()V" } : Jvm.MethodName) prog_7_method_1_code (2 : Nat) (Option.none : Option Jvm.ClassFile.FieldType)) ∈ xWA := wd3 13 rfl rfl
theorem ok_Piece_init : xOk "" m_Piece_init 0 := ⟨w_11, w_10, ⟨by decide +kernel, by decide +kernel⟩, by decide +kernel⟩
theorem w_12 : (Jvm.Cond.instanceMethod ({ cls := "Tablature$Piece", name := "<init>", desc := "()V" } : Jvm.MethodName)) ∈ xWA := wd3 12 rfl rfl
theorem w_13 : (Jvm.Cond.methodLink "Tablature" (21 : Nat) ({ cls := "Tablature$Piece", name := "<init>", desc := "()V" } : Jvm.MethodName)) ∈ xWA := wd3 11 rfl rfl
theorem s_Tab_21 : xIn "Tablature" 21 m_Piece_init 0 := ⟨ok_Piece_init, w_13, w_12, rfl, rfl⟩
theorem w_14 : (Jvm.Cond.fieldLink "Tablature" (22 : Nat) "Tablature" "piece" "LTablature$Piece;") ∈ xWA := wd3 190 rfl rfl
theorem p_Tab_22 : xP "Tablature" 22 7 2 (.object "Tablature$Piece") true := ⟨RX8, TX8, 8, tyX8, rfl, fun w hw => xWA_in (in_RX8 w hw).1 (in_RX8 w hw).2, by decide, w_14, tyX8_ok, nmX8, rfl, by decide +kernel, Or.inr rfl⟩
theorem w_15 : (Jvm.Cond.classLink "Tablature" (26 : Nat) "Tablature$Planner") ∈ xWA := wd3 53 rfl rfl
theorem w_16 : (Jvm.Cond.instantiable "Tablature$Planner" (8 : Nat)) ∈ xWA := wd1 229 rfl rfl
theorem w_17 : (Jvm.Cond.initialized "Tablature$Planner") ∈ xWA := wd1 6 rfl rfl
theorem n_Tab_26 : xNw "Tablature" 26 5 8 [.null, .null, .null, vi 0, .null, .null, .null, vi 0] := ⟨RX6, TX6, tyX6, rfl, fun w hw => xWA_in (in_RX6 w hw).1 (in_RX6 w hw).2, tyX6_ok, w_15, w_16, w_17, by decide +kernel⟩
theorem w_18 : (Jvm.Cond.code ({ cls := "Tablature$Planner", name := "<init>", desc := "()V" } : Jvm.MethodName) prog_8_method_1_code (2 : Nat) (Option.none : Option Jvm.ClassFile.FieldType)) ∈ xWA := wd3 56 rfl rfl
theorem ok_Plan_init : xOk "" m_Plan_init 0 := ⟨w_18, w_17, ⟨by decide +kernel, by decide +kernel⟩, by decide +kernel⟩
theorem w_19 : (Jvm.Cond.instanceMethod ({ cls := "Tablature$Planner", name := "<init>", desc := "()V" } : Jvm.MethodName)) ∈ xWA := wd3 55 rfl rfl
theorem w_20 : (Jvm.Cond.methodLink "Tablature" (28 : Nat) ({ cls := "Tablature$Planner", name := "<init>", desc := "()V" } : Jvm.MethodName)) ∈ xWA := wd3 54 rfl rfl
theorem s_Tab_28 : xIn "Tablature" 28 m_Plan_init 0 := ⟨ok_Plan_init, w_20, w_19, rfl, rfl⟩
theorem w_21 : (Jvm.Cond.fieldLink "Tablature" (29 : Nat) "Tablature" "planner" "LTablature$Planner;") ∈ xWA := wd3 191 rfl rfl
theorem p_Tab_29 : xP "Tablature" 29 7 3 (.object "Tablature$Planner") true := ⟨RX8, TX8, 8, tyX8, rfl, fun w hw => xWA_in (in_RX8 w hw).1 (in_RX8 w hw).2, by decide, w_21, tyX8_ok, nmX8, rfl, by decide +kernel, Or.inr rfl⟩
theorem w_22 : (Jvm.Cond.fieldLink "Tablature" (33 : Nat) "Tablature" "trialPlanner" "LTablature$Planner;") ∈ xWA := wd3 192 rfl rfl
theorem p_Tab_33 : xP "Tablature" 33 7 4 (.object "Tablature$Planner") true := ⟨RX8, TX8, 8, tyX8, rfl, fun w hw => xWA_in (in_RX8 w hw).1 (in_RX8 w hw).2, by decide, w_22, tyX8_ok, nmX8, rfl, by decide +kernel, Or.inr rfl⟩
theorem w_23 : (Jvm.Cond.classLink "Tablature" (36 : Nat) "Tablature$Shapes") ∈ xWA := wd3 152 rfl rfl
theorem w_24 : (Jvm.Cond.instantiable "Tablature$Shapes" (8 : Nat)) ∈ xWA := wd2 121 rfl rfl
theorem w_25 : (Jvm.Cond.initialized "Tablature$Shapes") ∈ xWA := wd1 9 rfl rfl
theorem n_Tab_36 : xNw "Tablature" 36 6 8 [vi 0, vi 0, vi 0, vi 0, vi 0, vi 0, vi 0, .null] := ⟨RX7, TX7, tyX7, rfl, fun w hw => xWA_in (in_RX7 w hw).1 (in_RX7 w hw).2, tyX7_ok, w_23, w_24, w_25, by decide +kernel⟩
theorem w_26 : (Jvm.Cond.code ({ cls := "Tablature$Shapes", name := "<init>", desc := "()V" } : Jvm.MethodName) prog_9_method_1_code (1 : Nat) (Option.none : Option Jvm.ClassFile.FieldType)) ∈ xWA := wd3 155 rfl rfl
theorem ok_Shapes_init : xOk "" m_Shapes_init 0 := ⟨w_26, w_25, ⟨by decide +kernel, by decide +kernel⟩, by decide +kernel⟩
theorem w_27 : (Jvm.Cond.instanceMethod ({ cls := "Tablature$Shapes", name := "<init>", desc := "()V" } : Jvm.MethodName)) ∈ xWA := wd3 154 rfl rfl
theorem s_Tab_38 : xIN "Tablature" 38 "Tablature" m_Shapes_init 0 := ⟨ok_Shapes_init, by decide +kernel, w_27, rfl, rfl⟩
theorem w_28 : (Jvm.Cond.fieldLink "Tablature" (39 : Nat) "Tablature" "voicing" "LTablature$Shapes;") ∈ xWA := wd3 193 rfl rfl
theorem p_Tab_39 : xP "Tablature" 39 7 5 (.object "Tablature$Shapes") true := ⟨RX8, TX8, 8, tyX8, rfl, fun w hw => xWA_in (in_RX8 w hw).1 (in_RX8 w hw).2, by decide, w_28, tyX8_ok, nmX8, rfl, by decide +kernel, Or.inr rfl⟩
theorem w_29 : (Jvm.Cond.classLink "Tablature" (43 : Nat) "Tablature$Hand") ∈ xWA := wd3 186 rfl rfl
theorem w_30 : (Jvm.Cond.instantiable "Tablature$Hand" (8 : Nat)) ∈ xWA := wd1 171 rfl rfl
theorem w_31 : (Jvm.Cond.initialized "Tablature$Hand") ∈ xWA := wd1 7 rfl rfl
theorem n_Tab_43 : xNw "Tablature" 43 2 8 [vi 0, vi 0, vi 0, vi 0, .null, vi 0, vi 0, vi 0] := ⟨RX3, TX3, tyX3, rfl, fun w hw => xWA_in (in_RX3 w hw).1 (in_RX3 w hw).2, tyX3_ok, w_29, w_30, w_31, by decide +kernel⟩
theorem w_32 : (Jvm.Cond.code ({ cls := "Tablature$Hand", name := "<init>", desc := "()V" } : Jvm.MethodName) prog_5_method_1_code (1 : Nat) (Option.none : Option Jvm.ClassFile.FieldType)) ∈ xWA := wd3 65 rfl rfl
theorem ok_Hand_init : xOk "" m_Hand_init 0 := ⟨w_32, w_31, ⟨by decide +kernel, by decide +kernel⟩, by decide +kernel⟩
theorem w_33 : (Jvm.Cond.instanceMethod ({ cls := "Tablature$Hand", name := "<init>", desc := "()V" } : Jvm.MethodName)) ∈ xWA := wd3 64 rfl rfl
theorem s_Tab_45 : xIN "Tablature" 45 "Tablature" m_Hand_init 0 := ⟨ok_Hand_init, by decide +kernel, w_33, rfl, rfl⟩
theorem w_34 : (Jvm.Cond.fieldLink "Tablature" (46 : Nat) "Tablature" "hand" "LTablature$Hand;") ∈ xWA := wd3 194 rfl rfl
theorem p_Tab_46 : xP "Tablature" 46 7 6 (.object "Tablature$Hand") true := ⟨RX8, TX8, 8, tyX8, rfl, fun w hw => xWA_in (in_RX8 w hw).1 (in_RX8 w hw).2, by decide, w_34, tyX8_ok, nmX8, rfl, by decide +kernel, Or.inr rfl⟩
theorem w_35 : (Jvm.Cond.fieldLink "Tablature" (50 : Nat) "Tablature" "planIsStale" "Z") ∈ xWA := wd3 195 rfl rfl
theorem p_Tab_50 : xP "Tablature" 50 7 7 .boolean false := ⟨RX8, TX8, 8, tyX8, rfl, fun w hw => xWA_in (in_RX8 w hw).1 (in_RX8 w hw).2, by decide, w_35, tyX8_ok, nmX8, rfl, by decide +kernel, Or.inl rfl⟩
theorem w_36 : (Jvm.Cond.initialized "Tablature") ∈ xWA := wd1 2 rfl rfl
theorem w_37 : (Jvm.Cond.code ({ cls := "Tablature", name := "needOpen", desc := "(I)V" } : Jvm.MethodName) prog_1_method_43_code (1 : Nat) (Option.none : Option Jvm.ClassFile.FieldType)) ∈ xWA := wd1 101 rfl rfl
theorem ok_Tab_needOpen : xOk "" m_Tab_needOpen 1 := ⟨w_37, w_36, ⟨by decide +kernel, by decide +kernel⟩, by decide +kernel⟩
theorem w_38 : (Jvm.Cond.static ({ cls := "Tablature", name := "needOpen", desc := "(I)V" } : Jvm.MethodName)) ∈ xWA := wd1 100 rfl rfl
theorem w_39 : (Jvm.Cond.methodLink "Tablature" (54 : Nat) ({ cls := "Tablature", name := "needOpen", desc := "(I)V" } : Jvm.MethodName)) ∈ xWA := wd1 99 rfl rfl
theorem s_Tab_54 : xS "Tablature" 54 m_Tab_needOpen 1 := ⟨ok_Tab_needOpen, w_39, w_38⟩
theorem f_Tab_10 : xF "Tablature" 10 7 0 := ⟨RX8, TX8, 8, rfl, fun w hw => xWA_in (in_RX8 w hw).1 (in_RX8 w hw).2, by decide, w_6⟩
theorem w_40 : (Jvm.Cond.fieldLink "Tablature" (58 : Nat) "Tablature$Instrument" "count" "I") ∈ xWA := wd2 228 rfl rfl
theorem f_Tab_58 : xF "Tablature" 58 3 2 := ⟨RX4, TX4, 5, rfl, fun w hw => xWA_in (in_RX4 w hw).1 (in_RX4 w hw).2, by decide, w_40⟩
theorem w_41 : (Jvm.Cond.methodLink "Tablature" (66 : Nat) ({ cls := "java/lang/IllegalStateException", name := "<init>", desc := "(Ljava/lang/String;)V" } : Jvm.MethodName)) ∈ xWA := wd4 65 rfl rfl
theorem s_Tab_66 : (Jvm.Cond.methodLink "Tablature" (66 : Nat) ({ cls := "java/lang/IllegalStateException", name := "<init>", desc := "(Ljava/lang/String;)V" } : Jvm.MethodName)) ∈ xWA := w_41
theorem w_42 : (Jvm.Cond.code ({ cls := "Tablature$Instrument", name := "draw", desc := "(I)I" } : Jvm.MethodName) prog_6_method_2_code (2 : Nat) (Option.some Jvm.ClassFile.FieldType.int)) ∈ xWA := wd4 152 rfl rfl
theorem ok_Instr_draw : xOk "" m_Instr_draw 1 := ⟨w_42, w_3, ⟨by decide +kernel, by decide +kernel⟩, by decide +kernel⟩
theorem w_43 : (Jvm.Cond.instanceMethod ({ cls := "Tablature$Instrument", name := "draw", desc := "(I)I" } : Jvm.MethodName)) ∈ xWA := wd4 150 rfl rfl
theorem w_44 : (Jvm.Cond.selects "Tablature$Instrument" ({ cls := "Tablature$Instrument", name := "draw", desc := "(I)I" } : Jvm.MethodName) ({ cls := "Tablature$Instrument", name := "draw", desc := "(I)I" } : Jvm.MethodName)) ∈ xWA := wd4 151 rfl rfl
theorem w_45 : (Jvm.Cond.methodLink "Tablature" (69 : Nat) ({ cls := "Tablature$Instrument", name := "draw", desc := "(I)I" } : Jvm.MethodName)) ∈ xWA := wd4 149 rfl rfl
theorem s_Tab_69 : xVi "Tablature" 69 3 m_Instr_draw 1 := ⟨ok_Instr_draw, w_45, w_43, w_44, TX4, 5, rfl⟩
theorem w_46 : (Jvm.Cond.code ({ cls := "Tablature", name := "instrumentChanged", desc := "()V" } : Jvm.MethodName) prog_1_method_36_code (1 : Nat) (Option.none : Option Jvm.ClassFile.FieldType)) ∈ xWA := wd1 121 rfl rfl
theorem ok_Tab_instrumentChanged : xOk "" m_Tab_instrumentChanged 0 := ⟨w_46, w_36, ⟨by decide +kernel, by decide +kernel⟩, by decide +kernel⟩
theorem w_47 : (Jvm.Cond.instanceMethod ({ cls := "Tablature", name := "instrumentChanged", desc := "()V" } : Jvm.MethodName)) ∈ xWA := wd1 120 rfl rfl
theorem sel_2 : Cond.selects m_Tab_instrumentChanged.1.cls m_Tab_instrumentChanged.1 m_Tab_instrumentChanged.1 ∈ xWA := xWA_in (List.mem_append_left _ (List.mem_of_getElem? (i := 2) (by decide +kernel))) rfl
theorem w_48 : (Jvm.Cond.methodLink "Tablature" (73 : Nat) ({ cls := "Tablature", name := "instrumentChanged", desc := "()V" } : Jvm.MethodName)) ∈ xWA := wd1 118 rfl rfl
theorem s_Tab_73 : xVi "Tablature" 73 7 m_Tab_instrumentChanged 0 := ⟨ok_Tab_instrumentChanged, w_48, w_47, sel_2, TX8, 8, rfl⟩
theorem w_49 : (Jvm.Cond.code ({ cls := "Tablature", name := "needString", desc := "(I)V" } : Jvm.MethodName) prog_1_method_39_code (2 : Nat) (Option.none : Option Jvm.ClassFile.FieldType)) ∈ xWA := wd1 28 rfl rfl
theorem ok_Tab_needString : xOk "" m_Tab_needString 1 := ⟨w_49, w_36, ⟨by decide +kernel, by decide +kernel⟩, by decide +kernel⟩
theorem w_50 : (Jvm.Cond.instanceMethod ({ cls := "Tablature", name := "needString", desc := "(I)V" } : Jvm.MethodName)) ∈ xWA := wd1 26 rfl rfl
theorem sel_0 : Cond.selects m_Tab_needString.1.cls m_Tab_needString.1 m_Tab_needString.1 ∈ xWA := xWA_in (List.mem_append_left _ (List.mem_of_getElem? (i := 0) (by decide +kernel))) rfl
theorem w_51 : (Jvm.Cond.methodLink "Tablature" (76 : Nat) ({ cls := "Tablature", name := "needString", desc := "(I)V" } : Jvm.MethodName)) ∈ xWA := wd1 24 rfl rfl
theorem s_Tab_76 : xVi "Tablature" 76 7 m_Tab_needString 1 := ⟨ok_Tab_needString, w_51, w_50, sel_0, TX8, 8, rfl⟩
theorem w_52 : (Jvm.Cond.fieldLink "Tablature" (79 : Nat) "Tablature$Instrument" "open" "[I") ∈ xWA := wd2 224 rfl rfl
theorem f_Tab_79 : xF "Tablature" 79 3 0 := ⟨RX4, TX4, 5, rfl, fun w hw => xWA_in (in_RX4 w hw).1 (in_RX4 w hw).2, by decide, w_52⟩
theorem w_53 : (Jvm.Cond.fieldLink "Tablature" (83 : Nat) "Tablature$Instrument" "slack" "[Z") ∈ xWA := wd2 226 rfl rfl
theorem f_Tab_83 : xF "Tablature" 83 3 1 := ⟨RX4, TX4, 5, rfl, fun w hw => xWA_in (in_RX4 w hw).1 (in_RX4 w hw).2, by decide, w_53⟩
theorem w_54 : (Jvm.Cond.code ({ cls := "Tablature$Instrument", name := "slackCount", desc := "()I" } : Jvm.MethodName) prog_6_method_4_code (3 : Nat) (Option.some Jvm.ClassFile.FieldType.int)) ∈ xWA := wd1 133 rfl rfl
theorem ok_Instr_slackCount : xOk "" m_Instr_slackCount 0 := ⟨w_54, w_3, ⟨by decide +kernel, by decide +kernel⟩, by decide +kernel⟩
theorem w_55 : (Jvm.Cond.instanceMethod ({ cls := "Tablature$Instrument", name := "slackCount", desc := "()I" } : Jvm.MethodName)) ∈ xWA := wd1 131 rfl rfl
theorem w_56 : (Jvm.Cond.selects "Tablature$Instrument" ({ cls := "Tablature$Instrument", name := "slackCount", desc := "()I" } : Jvm.MethodName) ({ cls := "Tablature$Instrument", name := "slackCount", desc := "()I" } : Jvm.MethodName)) ∈ xWA := wd1 132 rfl rfl
theorem w_57 : (Jvm.Cond.methodLink "Tablature" (87 : Nat) ({ cls := "Tablature$Instrument", name := "slackCount", desc := "()I" } : Jvm.MethodName)) ∈ xWA := wd1 130 rfl rfl
theorem s_Tab_87 : xVi "Tablature" 87 3 m_Instr_slackCount 0 := ⟨ok_Instr_slackCount, w_57, w_55, w_56, TX4, 5, rfl⟩
theorem w_58 : (Jvm.Cond.code ({ cls := "Tablature", name := "needCapo", desc := "(I)V" } : Jvm.MethodName) prog_1_method_44_code (1 : Nat) (Option.none : Option Jvm.ClassFile.FieldType)) ∈ xWA := wd2 157 rfl rfl
theorem ok_Tab_needCapo : xOk "" m_Tab_needCapo 1 := ⟨w_58, w_36, ⟨by decide +kernel, by decide +kernel⟩, by decide +kernel⟩
theorem w_59 : (Jvm.Cond.static ({ cls := "Tablature", name := "needCapo", desc := "(I)V" } : Jvm.MethodName)) ∈ xWA := wd2 156 rfl rfl
theorem w_60 : (Jvm.Cond.methodLink "Tablature" (91 : Nat) ({ cls := "Tablature", name := "needCapo", desc := "(I)V" } : Jvm.MethodName)) ∈ xWA := wd2 155 rfl rfl
theorem s_Tab_91 : xS "Tablature" 91 m_Tab_needCapo 1 := ⟨ok_Tab_needCapo, w_60, w_59⟩
theorem w_61 : (Jvm.Cond.fieldLink "Tablature" (94 : Nat) "Tablature$Instrument" "capo" "I") ∈ xWA := wd2 231 rfl rfl
theorem f_Tab_94 : xF "Tablature" 94 3 3 := ⟨RX4, TX4, 5, rfl, fun w hw => xWA_in (in_RX4 w hw).1 (in_RX4 w hw).2, by decide, w_61⟩
theorem p_Tab_94 : xP "Tablature" 94 3 3 .int false := ⟨RX4, TX4, 5, tyX4, rfl, fun w hw => xWA_in (in_RX4 w hw).1 (in_RX4 w hw).2, by decide, w_61, tyX4_ok, nmX4, rfl, by decide +kernel, Or.inl rfl⟩
theorem w_62 : (Jvm.Cond.code ({ cls := "Tablature", name := "needReach", desc := "(I)V" } : Jvm.MethodName) prog_1_method_45_code (1 : Nat) (Option.none : Option Jvm.ClassFile.FieldType)) ∈ xWA := wd2 161 rfl rfl
theorem ok_Tab_needReach : xOk "" m_Tab_needReach 1 := ⟨w_62, w_36, ⟨by decide +kernel, by decide +kernel⟩, by decide +kernel⟩
theorem w_63 : (Jvm.Cond.static ({ cls := "Tablature", name := "needReach", desc := "(I)V" } : Jvm.MethodName)) ∈ xWA := wd2 160 rfl rfl
theorem w_64 : (Jvm.Cond.methodLink "Tablature" (97 : Nat) ({ cls := "Tablature", name := "needReach", desc := "(I)V" } : Jvm.MethodName)) ∈ xWA := wd2 159 rfl rfl
theorem s_Tab_97 : xS "Tablature" 97 m_Tab_needReach 1 := ⟨ok_Tab_needReach, w_64, w_63⟩
theorem w_65 : (Jvm.Cond.fieldLink "Tablature" (100 : Nat) "Tablature$Instrument" "reach" "I") ∈ xWA := wd2 234 rfl rfl
theorem f_Tab_100 : xF "Tablature" 100 3 4 := ⟨RX4, TX4, 5, rfl, fun w hw => xWA_in (in_RX4 w hw).1 (in_RX4 w hw).2, by decide, w_65⟩
theorem p_Tab_100 : xP "Tablature" 100 3 4 .int false := ⟨RX4, TX4, 5, tyX4, rfl, fun w hw => xWA_in (in_RX4 w hw).1 (in_RX4 w hw).2, by decide, w_65, tyX4_ok, nmX4, rfl, by decide +kernel, Or.inl rfl⟩
theorem w_66 : (Jvm.Cond.code ({ cls := "Tablature", name := "isPitch", desc := "(I)Z" } : Jvm.MethodName) prog_1_method_47_code (1 : Nat) (Option.some Jvm.ClassFile.FieldType.boolean)) ∈ xWA := wd4 45 rfl rfl
theorem ok_Tab_isPitch : xOk "" m_Tab_isPitch 1 := ⟨w_66, w_36, ⟨by decide +kernel, by decide +kernel⟩, by decide +kernel⟩
theorem w_67 : (Jvm.Cond.static ({ cls := "Tablature", name := "isPitch", desc := "(I)Z" } : Jvm.MethodName)) ∈ xWA := wd4 44 rfl rfl
theorem w_68 : (Jvm.Cond.methodLink "Tablature" (103 : Nat) ({ cls := "Tablature", name := "isPitch", desc := "(I)Z" } : Jvm.MethodName)) ∈ xWA := wd4 43 rfl rfl
theorem s_Tab_103 : xS "Tablature" 103 m_Tab_isPitch 1 := ⟨ok_Tab_isPitch, w_68, w_67⟩
theorem w_69 : (Jvm.Cond.code ({ cls := "Tablature", name := "isPitchOrNone", desc := "(I)Z" } : Jvm.MethodName) prog_1_method_48_code (1 : Nat) (Option.some Jvm.ClassFile.FieldType.boolean)) ∈ xWA := wd4 48 rfl rfl
theorem ok_Tab_isPitchOrNone : xOk "" m_Tab_isPitchOrNone 1 := ⟨w_69, w_36, ⟨by decide +kernel, by decide +kernel⟩, by decide +kernel⟩
theorem w_70 : (Jvm.Cond.static ({ cls := "Tablature", name := "isPitchOrNone", desc := "(I)Z" } : Jvm.MethodName)) ∈ xWA := wd4 47 rfl rfl
theorem w_71 : (Jvm.Cond.methodLink "Tablature" (116 : Nat) ({ cls := "Tablature", name := "isPitchOrNone", desc := "(I)Z" } : Jvm.MethodName)) ∈ xWA := wd4 46 rfl rfl
theorem s_Tab_116 : xS "Tablature" 116 m_Tab_isPitchOrNone 1 := ⟨ok_Tab_isPitchOrNone, w_71, w_70⟩
theorem w_72 : (Jvm.Cond.methodLink "Tablature" (111 : Nat) ({ cls := "java/lang/IllegalArgumentException", name := "<init>", desc := "(Ljava/lang/String;)V" } : Jvm.MethodName)) ∈ xWA := wd1 112 rfl rfl
theorem s_Tab_111 : (Jvm.Cond.methodLink "Tablature" (111 : Nat) ({ cls := "java/lang/IllegalArgumentException", name := "<init>", desc := "(Ljava/lang/String;)V" } : Jvm.MethodName)) ∈ xWA := w_72
theorem w_73 : (Jvm.Cond.code ({ cls := "Tablature", name := "hasTwice", desc := "(IIII)Z" } : Jvm.MethodName) prog_1_method_49_code (4 : Nat) (Option.some Jvm.ClassFile.FieldType.boolean)) ∈ xWA := wd4 52 rfl rfl
theorem ok_Tab_hasTwice : xOk "" m_Tab_hasTwice 4 := ⟨w_73, w_36, ⟨by decide +kernel, by decide +kernel⟩, by decide +kernel⟩
theorem w_74 : (Jvm.Cond.static ({ cls := "Tablature", name := "hasTwice", desc := "(IIII)Z" } : Jvm.MethodName)) ∈ xWA := wd4 51 rfl rfl
theorem w_75 : (Jvm.Cond.methodLink "Tablature" (119 : Nat) ({ cls := "Tablature", name := "hasTwice", desc := "(IIII)Z" } : Jvm.MethodName)) ∈ xWA := wd4 50 rfl rfl
theorem s_Tab_119 : xS "Tablature" 119 m_Tab_hasTwice 4 := ⟨ok_Tab_hasTwice, w_75, w_74⟩
theorem f_Tab_22 : xF "Tablature" 22 7 2 := ⟨RX8, TX8, 8, rfl, fun w hw => xWA_in (in_RX8 w hw).1 (in_RX8 w hw).2, by decide, w_14⟩
theorem w_76 : (Jvm.Cond.fieldLink "Tablature" (127 : Nat) "Tablature$Piece" "count" "I") ∈ xWA := wd3 47 rfl rfl
theorem f_Tab_127 : xF "Tablature" 127 4 1 := ⟨RX5, TX5, 2, rfl, fun w hw => xWA_in (in_RX5 w hw).1 (in_RX5 w hw).2, by decide, w_76⟩
theorem w_77 : (Jvm.Cond.code ({ cls := "Tablature$Piece", name := "append", desc := "(I)LTablature$Chord;" } : Jvm.MethodName) prog_7_method_2_code (3 : Nat) (Option.some (Jvm.ClassFile.FieldType.object "Tablature$Chord"))) ∈ xWA := wd4 74 rfl rfl
theorem ok_Piece_append : xOk "" m_Piece_append 1 := ⟨w_77, w_10, ⟨by decide +kernel, by decide +kernel⟩, by decide +kernel⟩
theorem w_78 : (Jvm.Cond.instanceMethod ({ cls := "Tablature$Piece", name := "append", desc := "(I)LTablature$Chord;" } : Jvm.MethodName)) ∈ xWA := wd4 72 rfl rfl
theorem w_79 : (Jvm.Cond.selects "Tablature$Piece" ({ cls := "Tablature$Piece", name := "append", desc := "(I)LTablature$Chord;" } : Jvm.MethodName) ({ cls := "Tablature$Piece", name := "append", desc := "(I)LTablature$Chord;" } : Jvm.MethodName)) ∈ xWA := wd4 73 rfl rfl
theorem w_80 : (Jvm.Cond.methodLink "Tablature" (130 : Nat) ({ cls := "Tablature$Piece", name := "append", desc := "(I)LTablature$Chord;" } : Jvm.MethodName)) ∈ xWA := wd4 71 rfl rfl
theorem s_Tab_130 : xVi "Tablature" 130 4 m_Piece_append 1 := ⟨ok_Piece_append, w_80, w_78, w_79, TX5, 2, rfl⟩
theorem w_81 : (Jvm.Cond.initialized "Tablature$Chord") ∈ xWA := wd1 5 rfl rfl
theorem w_82 : (Jvm.Cond.code ({ cls := "Tablature$Chord", name := "add", desc := "(I)V" } : Jvm.MethodName) prog_2_method_3_code (2 : Nat) (Option.none : Option Jvm.ClassFile.FieldType)) ∈ xWA := wd4 83 rfl rfl
theorem ok_Chord_add : xOk "" m_Chord_add 1 := ⟨w_82, w_81, ⟨by decide +kernel, by decide +kernel⟩, by decide +kernel⟩
theorem w_83 : (Jvm.Cond.instanceMethod ({ cls := "Tablature$Chord", name := "add", desc := "(I)V" } : Jvm.MethodName)) ∈ xWA := wd4 81 rfl rfl
theorem w_84 : (Jvm.Cond.selects "Tablature$Chord" ({ cls := "Tablature$Chord", name := "add", desc := "(I)V" } : Jvm.MethodName) ({ cls := "Tablature$Chord", name := "add", desc := "(I)V" } : Jvm.MethodName)) ∈ xWA := wd4 82 rfl rfl
theorem w_85 : (Jvm.Cond.methodLink "Tablature" (134 : Nat) ({ cls := "Tablature$Chord", name := "add", desc := "(I)V" } : Jvm.MethodName)) ∈ xWA := wd4 80 rfl rfl
theorem s_Tab_134 : xVi "Tablature" 134 0 m_Chord_add 1 := ⟨ok_Chord_add, w_85, w_83, w_84, TX0, 4, rfl⟩
theorem w_86 : (Jvm.Cond.code ({ cls := "Tablature", name := "needChord", desc := "(I)V" } : Jvm.MethodName) prog_1_method_40_code (2 : Nat) (Option.none : Option Jvm.ClassFile.FieldType)) ∈ xWA := wd1 141 rfl rfl
theorem ok_Tab_needChord : xOk "" m_Tab_needChord 1 := ⟨w_86, w_36, ⟨by decide +kernel, by decide +kernel⟩, by decide +kernel⟩
theorem w_87 : (Jvm.Cond.instanceMethod ({ cls := "Tablature", name := "needChord", desc := "(I)V" } : Jvm.MethodName)) ∈ xWA := wd1 140 rfl rfl
theorem sel_3 : Cond.selects m_Tab_needChord.1.cls m_Tab_needChord.1 m_Tab_needChord.1 ∈ xWA := xWA_in (List.mem_append_left _ (List.mem_of_getElem? (i := 3) (by decide +kernel))) rfl
theorem w_88 : (Jvm.Cond.methodLink "Tablature" (139 : Nat) ({ cls := "Tablature", name := "needChord", desc := "(I)V" } : Jvm.MethodName)) ∈ xWA := wd1 138 rfl rfl
theorem s_Tab_139 : xVi "Tablature" 139 7 m_Tab_needChord 1 := ⟨ok_Tab_needChord, w_88, w_87, sel_3, TX8, 8, rfl⟩
theorem w_89 : (Jvm.Cond.code ({ cls := "Tablature", name := "needGrip", desc := "(II)LTablature$Grips;" } : Jvm.MethodName) prog_1_method_41_code (3 : Nat) (Option.some (Jvm.ClassFile.FieldType.object "Tablature$Grips"))) ∈ xWA := wd1 146 rfl rfl
theorem ok_Tab_needGrip : xOk "" m_Tab_needGrip 2 := ⟨w_89, w_36, ⟨by decide +kernel, by decide +kernel⟩, by decide +kernel⟩
theorem w_90 : (Jvm.Cond.instanceMethod ({ cls := "Tablature", name := "needGrip", desc := "(II)LTablature$Grips;" } : Jvm.MethodName)) ∈ xWA := wd1 145 rfl rfl
theorem sel_4 : Cond.selects m_Tab_needGrip.1.cls m_Tab_needGrip.1 m_Tab_needGrip.1 ∈ xWA := xWA_in (List.mem_append_left _ (List.mem_of_getElem? (i := 4) (by decide +kernel))) rfl
theorem w_91 : (Jvm.Cond.methodLink "Tablature" (145 : Nat) ({ cls := "Tablature", name := "needGrip", desc := "(II)LTablature$Grips;" } : Jvm.MethodName)) ∈ xWA := wd1 143 rfl rfl
theorem s_Tab_145 : xVi "Tablature" 145 7 m_Tab_needGrip 2 := ⟨ok_Tab_needGrip, w_91, w_90, sel_4, TX8, 8, rfl⟩
theorem w_92 : (Jvm.Cond.fieldLink "Tablature" (149 : Nat) "Tablature$Grips" "codes" "[I") ∈ xWA := wd3 105 rfl rfl
theorem f_Tab_149 : xF "Tablature" 149 1 0 := ⟨RX2, TX2, 4, rfl, fun w hw => xWA_in (in_RX2 w hw).1 (in_RX2 w hw).2, by decide, w_92⟩
theorem w_93 : (Jvm.Cond.fieldLink "Tablature" (154 : Nat) "Tablature$Grips" "efforts" "[I") ∈ xWA := wd3 108 rfl rfl
theorem f_Tab_154 : xF "Tablature" 154 1 1 := ⟨RX2, TX2, 4, rfl, fun w hw => xWA_in (in_RX2 w hw).1 (in_RX2 w hw).2, by decide, w_93⟩
theorem w_94 : (Jvm.Cond.fieldLink "Tablature" (157 : Nat) "Tablature$Piece" "chords" "[LTablature$Chord;") ∈ xWA := wd3 44 rfl rfl
theorem f_Tab_157 : xF "Tablature" 157 4 0 := ⟨RX5, TX5, 2, rfl, fun w hw => xWA_in (in_RX5 w hw).1 (in_RX5 w hw).2, by decide, w_94⟩
theorem w_95 : (Jvm.Cond.fieldLink "Tablature" (161 : Nat) "Tablature$Chord" "fixedCode" "I") ∈ xWA := wd3 32 rfl rfl
theorem p_Tab_161 : xP "Tablature" 161 0 3 .int false := ⟨RX0, TX0, 4, tyX0, rfl, fun w hw => xWA_in (in_RX0 w hw).1 (in_RX0 w hw).2, by decide, w_95, tyX0_ok, nmX0, rfl, by decide +kernel, Or.inl rfl⟩
theorem w_96 : (Jvm.Cond.code ({ cls := "Tablature", name := "needQuestion", desc := "(II)V" } : Jvm.MethodName) prog_1_method_42_code (2 : Nat) (Option.none : Option Jvm.ClassFile.FieldType)) ∈ xWA := wd2 20 rfl rfl
theorem ok_Tab_needQuestion : xOk "" m_Tab_needQuestion 2 := ⟨w_96, w_36, ⟨by decide +kernel, by decide +kernel⟩, by decide +kernel⟩
theorem w_97 : (Jvm.Cond.static ({ cls := "Tablature", name := "needQuestion", desc := "(II)V" } : Jvm.MethodName)) ∈ xWA := wd2 19 rfl rfl
theorem w_98 : (Jvm.Cond.methodLink "Tablature" (164 : Nat) ({ cls := "Tablature", name := "needQuestion", desc := "(II)V" } : Jvm.MethodName)) ∈ xWA := wd2 18 rfl rfl
theorem s_Tab_164 : xS "Tablature" 164 m_Tab_needQuestion 2 := ⟨ok_Tab_needQuestion, w_98, w_97⟩
theorem w_99 : (Jvm.Cond.code ({ cls := "Tablature", name := "refreshPlan", desc := "()V" } : Jvm.MethodName) prog_1_method_37_code (1 : Nat) (Option.none : Option Jvm.ClassFile.FieldType)) ∈ xWA := wd1 150 rfl rfl
theorem ok_Tab_refreshPlan : xOk "" m_Tab_refreshPlan 0 := ⟨w_99, w_36, ⟨by decide +kernel, by decide +kernel⟩, by decide +kernel⟩
theorem w_100 : (Jvm.Cond.instanceMethod ({ cls := "Tablature", name := "refreshPlan", desc := "()V" } : Jvm.MethodName)) ∈ xWA := wd1 149 rfl rfl
theorem sel_5 : Cond.selects m_Tab_refreshPlan.1.cls m_Tab_refreshPlan.1 m_Tab_refreshPlan.1 ∈ xWA := xWA_in (List.mem_append_left _ (List.mem_of_getElem? (i := 5) (by decide +kernel))) rfl
theorem w_101 : (Jvm.Cond.methodLink "Tablature" (168 : Nat) ({ cls := "Tablature", name := "refreshPlan", desc := "()V" } : Jvm.MethodName)) ∈ xWA := wd1 147 rfl rfl
theorem s_Tab_168 : xVi "Tablature" 168 7 m_Tab_refreshPlan 0 := ⟨ok_Tab_refreshPlan, w_101, w_100, sel_5, TX8, 8, rfl⟩
theorem w_102 : (Jvm.Cond.code ({ cls := "Tablature", name := "askChord", desc := "(II)I" } : Jvm.MethodName) prog_1_method_33_code (4 : Nat) (Option.some Jvm.ClassFile.FieldType.int)) ∈ xWA := wd2 25 rfl rfl
theorem ok_Tab_askChord : xOk "" m_Tab_askChord 2 := ⟨w_102, w_36, ⟨by decide +kernel, by decide +kernel⟩, by decide +kernel⟩
theorem w_103 : (Jvm.Cond.instanceMethod ({ cls := "Tablature", name := "askChord", desc := "(II)I" } : Jvm.MethodName)) ∈ xWA := wd2 24 rfl rfl
theorem sel_10 : Cond.selects m_Tab_askChord.1.cls m_Tab_askChord.1 m_Tab_askChord.1 ∈ xWA := xWA_in (List.mem_append_left _ (List.mem_of_getElem? (i := 10) (by decide +kernel))) rfl
theorem w_104 : (Jvm.Cond.methodLink "Tablature" (171 : Nat) ({ cls := "Tablature", name := "askChord", desc := "(II)I" } : Jvm.MethodName)) ∈ xWA := wd2 22 rfl rfl
theorem s_Tab_171 : xVi "Tablature" 171 7 m_Tab_askChord 2 := ⟨ok_Tab_askChord, w_104, w_103, sel_10, TX8, 8, rfl⟩
theorem f_Tab_46 : xF "Tablature" 46 7 6 := ⟨RX8, TX8, 8, rfl, fun w hw => xWA_in (in_RX8 w hw).1 (in_RX8 w hw).2, by decide, w_34⟩
theorem w_105 : (Jvm.Cond.code ({ cls := "Tablature$Hand", name := "hold", desc := "(I)V" } : Jvm.MethodName) prog_5_method_2_code (3 : Nat) (Option.none : Option Jvm.ClassFile.FieldType)) ∈ xWA := wd1 164 rfl rfl
theorem ok_Hand_hold : xOk "" m_Hand_hold 1 := ⟨w_105, w_31, ⟨by decide +kernel, by decide +kernel⟩, by decide +kernel⟩
theorem w_106 : (Jvm.Cond.instanceMethod ({ cls := "Tablature$Hand", name := "hold", desc := "(I)V" } : Jvm.MethodName)) ∈ xWA := wd1 162 rfl rfl
theorem w_107 : (Jvm.Cond.selects "Tablature$Hand" ({ cls := "Tablature$Hand", name := "hold", desc := "(I)V" } : Jvm.MethodName) ({ cls := "Tablature$Hand", name := "hold", desc := "(I)V" } : Jvm.MethodName)) ∈ xWA := wd1 163 rfl rfl
theorem w_108 : (Jvm.Cond.methodLink "Tablature" (174 : Nat) ({ cls := "Tablature$Hand", name := "hold", desc := "(I)V" } : Jvm.MethodName)) ∈ xWA := wd2 42 rfl rfl
theorem s_Tab_174 : xVi "Tablature" 174 2 m_Hand_hold 1 := ⟨ok_Hand_hold, w_108, w_106, w_107, TX3, 8, rfl⟩
theorem w_109 : (Jvm.Cond.code ({ cls := "Tablature", name := "askHand", desc := "(I)I" } : Jvm.MethodName) prog_1_method_34_code (2 : Nat) (Option.some Jvm.ClassFile.FieldType.int)) ∈ xWA := wd2 46 rfl rfl
theorem ok_Tab_askHand : xOk "" m_Tab_askHand 1 := ⟨w_109, w_36, ⟨by decide +kernel, by decide +kernel⟩, by decide +kernel⟩
theorem w_110 : (Jvm.Cond.instanceMethod ({ cls := "Tablature", name := "askHand", desc := "(I)I" } : Jvm.MethodName)) ∈ xWA := wd2 45 rfl rfl
theorem sel_11 : Cond.selects m_Tab_askHand.1.cls m_Tab_askHand.1 m_Tab_askHand.1 ∈ xWA := xWA_in (List.mem_append_left _ (List.mem_of_getElem? (i := 11) (by decide +kernel))) rfl
theorem w_111 : (Jvm.Cond.methodLink "Tablature" (177 : Nat) ({ cls := "Tablature", name := "askHand", desc := "(I)I" } : Jvm.MethodName)) ∈ xWA := wd2 43 rfl rfl
theorem s_Tab_177 : xVi "Tablature" 177 7 m_Tab_askHand 1 := ⟨ok_Tab_askHand, w_111, w_110, sel_11, TX8, 8, rfl⟩
theorem w_112 : (Jvm.Cond.initialized "Tablature$GripCode") ∈ xWA := wd1 18 rfl rfl
theorem w_113 : (Jvm.Cond.code ({ cls := "Tablature$GripCode", name := "fretAt", desc := "(II)I" } : Jvm.MethodName) prog_3_method_2_code (2 : Nat) (Option.some Jvm.ClassFile.FieldType.int)) ∈ xWA := wd1 167 rfl rfl
theorem ok_Code_fretAt : xOk "" m_Code_fretAt 2 := ⟨w_113, w_112, ⟨by decide +kernel, by decide +kernel⟩, by decide +kernel⟩
theorem w_114 : (Jvm.Cond.static ({ cls := "Tablature$GripCode", name := "fretAt", desc := "(II)I" } : Jvm.MethodName)) ∈ xWA := wd1 166 rfl rfl
theorem w_115 : (Jvm.Cond.methodLink "Tablature" (180 : Nat) ({ cls := "Tablature$GripCode", name := "fretAt", desc := "(II)I" } : Jvm.MethodName)) ∈ xWA := wd2 53 rfl rfl
theorem s_Tab_180 : xS "Tablature" 180 m_Code_fretAt 2 := ⟨ok_Code_fretAt, w_115, w_114⟩
theorem w_116 : (Jvm.Cond.code ({ cls := "Tablature$Hand", name := "fingerOn", desc := "(I)I" } : Jvm.MethodName) prog_5_method_9_code (6 : Nat) (Option.some Jvm.ClassFile.FieldType.int)) ∈ xWA := wd2 61 rfl rfl
theorem ok_Hand_fingerOn : xOk "" m_Hand_fingerOn 1 := ⟨w_116, w_31, ⟨by decide +kernel, by decide +kernel⟩, by decide +kernel⟩
theorem w_117 : (Jvm.Cond.instanceMethod ({ cls := "Tablature$Hand", name := "fingerOn", desc := "(I)I" } : Jvm.MethodName)) ∈ xWA := wd2 59 rfl rfl
theorem w_118 : (Jvm.Cond.selects "Tablature$Hand" ({ cls := "Tablature$Hand", name := "fingerOn", desc := "(I)I" } : Jvm.MethodName) ({ cls := "Tablature$Hand", name := "fingerOn", desc := "(I)I" } : Jvm.MethodName)) ∈ xWA := wd2 60 rfl rfl
theorem w_119 : (Jvm.Cond.methodLink "Tablature" (185 : Nat) ({ cls := "Tablature$Hand", name := "fingerOn", desc := "(I)I" } : Jvm.MethodName)) ∈ xWA := wd2 58 rfl rfl
theorem s_Tab_185 : xVi "Tablature" 185 2 m_Hand_fingerOn 1 := ⟨ok_Hand_fingerOn, w_119, w_117, w_118, TX3, 8, rfl⟩
theorem f_Tab_29 : xF "Tablature" 29 7 3 := ⟨RX8, TX8, 8, rfl, fun w hw => xWA_in (in_RX8 w hw).1 (in_RX8 w hw).2, by decide, w_21⟩
theorem w_120 : (Jvm.Cond.code ({ cls := "Tablature$Planner", name := "moveCost", desc := "(III)I" } : Jvm.MethodName) prog_8_method_6_code (8 : Nat) (Option.some Jvm.ClassFile.FieldType.int)) ∈ xWA := wd1 234 rfl rfl
theorem ok_Plan_moveCost : xOk "" m_Plan_moveCost 3 := ⟨w_120, w_17, ⟨by decide +kernel, by decide +kernel⟩, by decide +kernel⟩
theorem w_121 : (Jvm.Cond.instanceMethod ({ cls := "Tablature$Planner", name := "moveCost", desc := "(III)I" } : Jvm.MethodName)) ∈ xWA := wd1 232 rfl rfl
theorem w_122 : (Jvm.Cond.selects "Tablature$Planner" ({ cls := "Tablature$Planner", name := "moveCost", desc := "(III)I" } : Jvm.MethodName) ({ cls := "Tablature$Planner", name := "moveCost", desc := "(III)I" } : Jvm.MethodName)) ∈ xWA := wd1 233 rfl rfl
theorem w_123 : (Jvm.Cond.methodLink "Tablature" (188 : Nat) ({ cls := "Tablature$Planner", name := "moveCost", desc := "(III)I" } : Jvm.MethodName)) ∈ xWA := wd2 66 rfl rfl
theorem s_Tab_188 : xVi "Tablature" 188 5 m_Plan_moveCost 3 := ⟨ok_Plan_moveCost, w_123, w_121, w_122, TX6, 8, rfl⟩
theorem w_124 : (Jvm.Cond.fieldLink "Tablature" (192 : Nat) "Tablature$Planner" "choice" "[I") ∈ xWA := wd3 128 rfl rfl
theorem f_Tab_192 : xF "Tablature" 192 5 2 := ⟨RX6, TX6, 8, rfl, fun w hw => xWA_in (in_RX6 w hw).1 (in_RX6 w hw).2, by decide, w_124⟩
theorem w_125 : (Jvm.Cond.fieldLink "Tablature" (195 : Nat) "Tablature$Planner" "total" "I") ∈ xWA := wd3 130 rfl rfl
theorem f_Tab_195 : xF "Tablature" 195 5 3 := ⟨RX6, TX6, 8, rfl, fun w hw => xWA_in (in_RX6 w hw).1 (in_RX6 w hw).2, by decide, w_125⟩
theorem w_126 : (Jvm.Cond.code ({ cls := "Tablature", name := "askWhole", desc := "(I)I" } : Jvm.MethodName) prog_1_method_32_code (2 : Nat) (Option.some Jvm.ClassFile.FieldType.int)) ∈ xWA := wd2 82 rfl rfl
theorem ok_Tab_askWhole : xOk "" m_Tab_askWhole 1 := ⟨w_126, w_36, ⟨by decide +kernel, by decide +kernel⟩, by decide +kernel⟩
theorem w_127 : (Jvm.Cond.instanceMethod ({ cls := "Tablature", name := "askWhole", desc := "(I)I" } : Jvm.MethodName)) ∈ xWA := wd2 81 rfl rfl
theorem sel_12 : Cond.selects m_Tab_askWhole.1.cls m_Tab_askWhole.1 m_Tab_askWhole.1 ∈ xWA := xWA_in (List.mem_append_left _ (List.mem_of_getElem? (i := 12) (by decide +kernel))) rfl
theorem w_128 : (Jvm.Cond.methodLink "Tablature" (201 : Nat) ({ cls := "Tablature", name := "askWhole", desc := "(I)I" } : Jvm.MethodName)) ∈ xWA := wd2 79 rfl rfl
theorem s_Tab_201 : xVi "Tablature" 201 7 m_Tab_askWhole 1 := ⟨ok_Tab_askWhole, w_128, w_127, sel_12, TX8, 8, rfl⟩
theorem w_129 : (Jvm.Cond.code ({ cls := "Tablature", name := "needVoicing", desc := "(III)V" } : Jvm.MethodName) prog_1_method_46_code (3 : Nat) (Option.none : Option Jvm.ClassFile.FieldType)) ∈ xWA := wd2 98 rfl rfl
theorem ok_Tab_needVoicing : xOk "" m_Tab_needVoicing 3 := ⟨w_129, w_36, ⟨by decide +kernel, by decide +kernel⟩, by decide +kernel⟩
theorem w_130 : (Jvm.Cond.static ({ cls := "Tablature", name := "needVoicing", desc := "(III)V" } : Jvm.MethodName)) ∈ xWA := wd2 97 rfl rfl
theorem w_131 : (Jvm.Cond.methodLink "Tablature" (207 : Nat) ({ cls := "Tablature", name := "needVoicing", desc := "(III)V" } : Jvm.MethodName)) ∈ xWA := wd2 96 rfl rfl
theorem s_Tab_207 : xS "Tablature" 207 m_Tab_needVoicing 3 := ⟨ok_Tab_needVoicing, w_131, w_130⟩
theorem w_132 : (Jvm.Cond.code ({ cls := "Tablature", name := "freshVoicing", desc := "(III)LTablature$Shapes;" } : Jvm.MethodName) prog_1_method_38_code (4 : Nat) (Option.some (Jvm.ClassFile.FieldType.object "Tablature$Shapes"))) ∈ xWA := wd2 106 rfl rfl
theorem ok_Tab_freshVoicing : xOk "" m_Tab_freshVoicing 3 := ⟨w_132, w_36, ⟨by decide +kernel, by decide +kernel⟩, by decide +kernel⟩
theorem w_133 : (Jvm.Cond.instanceMethod ({ cls := "Tablature", name := "freshVoicing", desc := "(III)LTablature$Shapes;" } : Jvm.MethodName)) ∈ xWA := wd2 105 rfl rfl
theorem sel_13 : Cond.selects m_Tab_freshVoicing.1.cls m_Tab_freshVoicing.1 m_Tab_freshVoicing.1 ∈ xWA := xWA_in (List.mem_append_left _ (List.mem_of_getElem? (i := 13) (by decide +kernel))) rfl
theorem w_134 : (Jvm.Cond.methodLink "Tablature" (211 : Nat) ({ cls := "Tablature", name := "freshVoicing", desc := "(III)LTablature$Shapes;" } : Jvm.MethodName)) ∈ xWA := wd2 103 rfl rfl
theorem s_Tab_211 : xVi "Tablature" 211 7 m_Tab_freshVoicing 3 := ⟨ok_Tab_freshVoicing, w_134, w_133, sel_13, TX8, 8, rfl⟩
theorem w_135 : (Jvm.Cond.fieldLink "Tablature" (215 : Nat) "Tablature$Shapes" "count" "I") ∈ xWA := wd3 160 rfl rfl
theorem f_Tab_215 : xF "Tablature" 215 6 0 := ⟨RX7, TX7, 8, rfl, fun w hw => xWA_in (in_RX7 w hw).1 (in_RX7 w hw).2, by decide, w_135⟩
theorem w_136 : (Jvm.Cond.fieldLink "Tablature" (216 : Nat) "Tablature$Shapes" "bestEffort" "I") ∈ xWA := wd3 162 rfl rfl
theorem f_Tab_216 : xF "Tablature" 216 6 1 := ⟨RX7, TX7, 8, rfl, fun w hw => xWA_in (in_RX7 w hw).1 (in_RX7 w hw).2, by decide, w_136⟩
theorem w_137 : (Jvm.Cond.code ({ cls := "Tablature$Shapes", name := "bestFret", desc := "(I)I" } : Jvm.MethodName) prog_9_method_5_code (2 : Nat) (Option.some Jvm.ClassFile.FieldType.int)) ∈ xWA := wd2 149 rfl rfl
theorem ok_Shapes_bestFret : xOk "" m_Shapes_bestFret 1 := ⟨w_137, w_25, ⟨by decide +kernel, by decide +kernel⟩, by decide +kernel⟩
theorem w_138 : (Jvm.Cond.instanceMethod ({ cls := "Tablature$Shapes", name := "bestFret", desc := "(I)I" } : Jvm.MethodName)) ∈ xWA := wd2 147 rfl rfl
theorem w_139 : (Jvm.Cond.selects "Tablature$Shapes" ({ cls := "Tablature$Shapes", name := "bestFret", desc := "(I)I" } : Jvm.MethodName) ({ cls := "Tablature$Shapes", name := "bestFret", desc := "(I)I" } : Jvm.MethodName)) ∈ xWA := wd2 148 rfl rfl
theorem w_140 : (Jvm.Cond.methodLink "Tablature" (219 : Nat) ({ cls := "Tablature$Shapes", name := "bestFret", desc := "(I)I" } : Jvm.MethodName)) ∈ xWA := wd2 146 rfl rfl
theorem s_Tab_219 : xVi "Tablature" 219 6 m_Shapes_bestFret 1 := ⟨ok_Shapes_bestFret, w_140, w_138, w_139, TX7, 8, rfl⟩
theorem w_141 : (Jvm.Cond.code ({ cls := "Tablature", name := "totalUnder", desc := "(II)I" } : Jvm.MethodName) prog_1_method_35_code (3 : Nat) (Option.some Jvm.ClassFile.FieldType.int)) ∈ xWA := wd2 166 rfl rfl
theorem ok_Tab_totalUnder : xOk "" m_Tab_totalUnder 2 := ⟨w_141, w_36, ⟨by decide +kernel, by decide +kernel⟩, by decide +kernel⟩
theorem w_142 : (Jvm.Cond.instanceMethod ({ cls := "Tablature", name := "totalUnder", desc := "(II)I" } : Jvm.MethodName)) ∈ xWA := wd2 165 rfl rfl
theorem sel_16 : Cond.selects m_Tab_totalUnder.1.cls m_Tab_totalUnder.1 m_Tab_totalUnder.1 ∈ xWA := xWA_in (List.mem_append_left _ (List.mem_of_getElem? (i := 16) (by decide +kernel))) rfl
theorem w_143 : (Jvm.Cond.methodLink "Tablature" (222 : Nat) ({ cls := "Tablature", name := "totalUnder", desc := "(II)I" } : Jvm.MethodName)) ∈ xWA := wd2 163 rfl rfl
theorem s_Tab_222 : xVi "Tablature" 222 7 m_Tab_totalUnder 2 := ⟨ok_Tab_totalUnder, w_143, w_142, sel_16, TX8, 8, rfl⟩
theorem f_Tab_16 : xF "Tablature" 16 7 1 := ⟨RX8, TX8, 8, rfl, fun w hw => xWA_in (in_RX8 w hw).1 (in_RX8 w hw).2, by decide, w_7⟩
theorem w_144 : (Jvm.Cond.code ({ cls := "Tablature$Instrument", name := "copy", desc := "(LTablature$Instrument;)V" } : Jvm.MethodName) prog_6_method_3_code (3 : Nat) (Option.none : Option Jvm.ClassFile.FieldType)) ∈ xWA := wd2 170 rfl rfl
theorem ok_Instr_copy : xOk "" m_Instr_copy 1 := ⟨w_144, w_3, ⟨by decide +kernel, by decide +kernel⟩, by decide +kernel⟩
theorem w_145 : (Jvm.Cond.instanceMethod ({ cls := "Tablature$Instrument", name := "copy", desc := "(LTablature$Instrument;)V" } : Jvm.MethodName)) ∈ xWA := wd2 168 rfl rfl
theorem w_146 : (Jvm.Cond.selects "Tablature$Instrument" ({ cls := "Tablature$Instrument", name := "copy", desc := "(LTablature$Instrument;)V" } : Jvm.MethodName) ({ cls := "Tablature$Instrument", name := "copy", desc := "(LTablature$Instrument;)V" } : Jvm.MethodName)) ∈ xWA := wd2 169 rfl rfl
theorem w_147 : (Jvm.Cond.methodLink "Tablature" (225 : Nat) ({ cls := "Tablature$Instrument", name := "copy", desc := "(LTablature$Instrument;)V" } : Jvm.MethodName)) ∈ xWA := wd2 167 rfl rfl
theorem s_Tab_225 : xVi "Tablature" 225 3 m_Instr_copy 1 := ⟨ok_Instr_copy, w_147, w_145, w_146, TX4, 5, rfl⟩
theorem f_Tab_33 : xF "Tablature" 33 7 4 := ⟨RX8, TX8, 8, rfl, fun w hw => xWA_in (in_RX8 w hw).1 (in_RX8 w hw).2, by decide, w_22⟩
theorem w_148 : (Jvm.Cond.code ({ cls := "Tablature$Planner", name := "read", desc := "(LTablature$Instrument;LTablature$Piece;)V" } : Jvm.MethodName) prog_8_method_2_code (5 : Nat) (Option.none : Option Jvm.ClassFile.FieldType)) ∈ xWA := wd1 154 rfl rfl
theorem ok_Plan_read : xOk "" m_Plan_read 2 := ⟨w_148, w_17, ⟨by decide +kernel, by decide +kernel⟩, by decide +kernel⟩
theorem w_149 : (Jvm.Cond.instanceMethod ({ cls := "Tablature$Planner", name := "read", desc := "(LTablature$Instrument;LTablature$Piece;)V" } : Jvm.MethodName)) ∈ xWA := wd1 152 rfl rfl
theorem w_150 : (Jvm.Cond.selects "Tablature$Planner" ({ cls := "Tablature$Planner", name := "read", desc := "(LTablature$Instrument;LTablature$Piece;)V" } : Jvm.MethodName) ({ cls := "Tablature$Planner", name := "read", desc := "(LTablature$Instrument;LTablature$Piece;)V" } : Jvm.MethodName)) ∈ xWA := wd1 153 rfl rfl
theorem w_151 : (Jvm.Cond.methodLink "Tablature" (229 : Nat) ({ cls := "Tablature$Planner", name := "read", desc := "(LTablature$Instrument;LTablature$Piece;)V" } : Jvm.MethodName)) ∈ xWA := wd1 151 rfl rfl
theorem s_Tab_229 : xVi "Tablature" 229 5 m_Plan_read 2 := ⟨ok_Plan_read, w_151, w_149, w_150, TX6, 8, rfl⟩
theorem w_152 : (Jvm.Cond.code ({ cls := "Tablature$Planner", name := "solve", desc := "()V" } : Jvm.MethodName) prog_8_method_4_code (5 : Nat) (Option.none : Option Jvm.ClassFile.FieldType)) ∈ xWA := wd1 221 rfl rfl
theorem ok_Plan_solve : xOk "" m_Plan_solve 0 := ⟨w_152, w_17, ⟨by decide +kernel, by decide +kernel⟩, by decide +kernel⟩
theorem w_153 : (Jvm.Cond.instanceMethod ({ cls := "Tablature$Planner", name := "solve", desc := "()V" } : Jvm.MethodName)) ∈ xWA := wd1 219 rfl rfl
theorem w_154 : (Jvm.Cond.selects "Tablature$Planner" ({ cls := "Tablature$Planner", name := "solve", desc := "()V" } : Jvm.MethodName) ({ cls := "Tablature$Planner", name := "solve", desc := "()V" } : Jvm.MethodName)) ∈ xWA := wd1 220 rfl rfl
theorem w_155 : (Jvm.Cond.methodLink "Tablature" (233 : Nat) ({ cls := "Tablature$Planner", name := "solve", desc := "()V" } : Jvm.MethodName)) ∈ xWA := wd1 218 rfl rfl
theorem s_Tab_233 : xVi "Tablature" 233 5 m_Plan_solve 0 := ⟨ok_Plan_solve, w_155, w_153, w_154, TX6, 8, rfl⟩
theorem w_156 : (Jvm.Cond.fieldLink "Tablature" (236 : Nat) "Tablature$Planner" "fixed" "[I") ∈ xWA := wd3 126 rfl rfl
theorem f_Tab_236 : xF "Tablature" 236 5 1 := ⟨RX6, TX6, 8, rfl, fun w hw => xWA_in (in_RX6 w hw).1 (in_RX6 w hw).2, by decide, w_156⟩
theorem w_157 : (Jvm.Cond.constantLong "Tablature" (239 : Nat) (58104 : Int64)) ∈ xWA := wd2 187 rfl rfl
theorem k_Tab_239 : (Jvm.Cond.constantLong "Tablature" (239 : Nat) (58104 : Int64)) ∈ xWA := w_157
theorem w_158 : (Jvm.Cond.code ({ cls := "Tablature", name := "mix", desc := "(JI)J" } : Jvm.MethodName) prog_1_method_31_code (3 : Nat) (Option.some Jvm.ClassFile.FieldType.long)) ∈ xWA := wd2 190 rfl rfl
theorem ok_Tab_mix : xOk "" m_Tab_mix 2 := ⟨w_158, w_36, ⟨by decide +kernel, by decide +kernel⟩, by decide +kernel⟩
theorem w_159 : (Jvm.Cond.static ({ cls := "Tablature", name := "mix", desc := "(JI)J" } : Jvm.MethodName)) ∈ xWA := wd2 189 rfl rfl
theorem w_160 : (Jvm.Cond.methodLink "Tablature" (241 : Nat) ({ cls := "Tablature", name := "mix", desc := "(JI)J" } : Jvm.MethodName)) ∈ xWA := wd2 188 rfl rfl
theorem s_Tab_241 : xS "Tablature" 241 m_Tab_mix 2 := ⟨ok_Tab_mix, w_160, w_159⟩
theorem w_161 : (Jvm.Cond.code ({ cls := "Tablature", name := "mixChord", desc := "(JI)J" } : Jvm.MethodName) prog_1_method_29_code (7 : Nat) (Option.some Jvm.ClassFile.FieldType.long)) ∈ xWA := wd2 195 rfl rfl
theorem ok_Tab_mixChord : xOk "" m_Tab_mixChord 2 := ⟨w_161, w_36, ⟨by decide +kernel, by decide +kernel⟩, by decide +kernel⟩
theorem w_162 : (Jvm.Cond.instanceMethod ({ cls := "Tablature", name := "mixChord", desc := "(JI)J" } : Jvm.MethodName)) ∈ xWA := wd2 194 rfl rfl
theorem sel_17 : Cond.selects m_Tab_mixChord.1.cls m_Tab_mixChord.1 m_Tab_mixChord.1 ∈ xWA := xWA_in (List.mem_append_left _ (List.mem_of_getElem? (i := 17) (by decide +kernel))) rfl
theorem w_163 : (Jvm.Cond.methodLink "Tablature" (245 : Nat) ({ cls := "Tablature", name := "mixChord", desc := "(JI)J" } : Jvm.MethodName)) ∈ xWA := wd2 192 rfl rfl
theorem s_Tab_245 : xVi "Tablature" 245 7 m_Tab_mixChord 2 := ⟨ok_Tab_mixChord, w_163, w_162, sel_17, TX8, 8, rfl⟩
theorem w_164 : (Jvm.Cond.code ({ cls := "Tablature$Planner", name := "hardestMove", desc := "()I" } : Jvm.MethodName) prog_8_method_7_code (5 : Nat) (Option.some Jvm.ClassFile.FieldType.int)) ∈ xWA := wd2 203 rfl rfl
theorem ok_Plan_hardestMove : xOk "" m_Plan_hardestMove 0 := ⟨w_164, w_17, ⟨by decide +kernel, by decide +kernel⟩, by decide +kernel⟩
theorem w_165 : (Jvm.Cond.instanceMethod ({ cls := "Tablature$Planner", name := "hardestMove", desc := "()I" } : Jvm.MethodName)) ∈ xWA := wd2 201 rfl rfl
theorem w_166 : (Jvm.Cond.selects "Tablature$Planner" ({ cls := "Tablature$Planner", name := "hardestMove", desc := "()I" } : Jvm.MethodName) ({ cls := "Tablature$Planner", name := "hardestMove", desc := "()I" } : Jvm.MethodName)) ∈ xWA := wd2 202 rfl rfl
theorem w_167 : (Jvm.Cond.methodLink "Tablature" (198 : Nat) ({ cls := "Tablature$Planner", name := "hardestMove", desc := "()I" } : Jvm.MethodName)) ∈ xWA := wd2 200 rfl rfl
theorem s_Tab_198 : xVi "Tablature" 198 5 m_Plan_hardestMove 0 := ⟨ok_Plan_hardestMove, w_167, w_165, w_166, TX6, 8, rfl⟩
theorem w_168 : (Jvm.Cond.code ({ cls := "Tablature", name := "bestCapo", desc := "()I" } : Jvm.MethodName) prog_1_method_25_code (5 : Nat) (Option.some Jvm.ClassFile.FieldType.int)) ∈ xWA := wd2 174 rfl rfl
theorem ok_Tab_bestCapo : xOk "" m_Tab_bestCapo 0 := ⟨w_168, w_36, ⟨by decide +kernel, by decide +kernel⟩, by decide +kernel⟩
theorem w_169 : (Jvm.Cond.instanceMethod ({ cls := "Tablature", name := "bestCapo", desc := "()I" } : Jvm.MethodName)) ∈ xWA := wd2 172 rfl rfl
theorem w_170 : (Jvm.Cond.selects "Tablature" ({ cls := "Tablature", name := "bestCapo", desc := "()I" } : Jvm.MethodName) ({ cls := "Tablature", name := "bestCapo", desc := "()I" } : Jvm.MethodName)) ∈ xWA := wd2 173 rfl rfl
theorem w_171 : (Jvm.Cond.methodLink "Tablature" (248 : Nat) ({ cls := "Tablature", name := "bestCapo", desc := "()I" } : Jvm.MethodName)) ∈ xWA := wd2 204 rfl rfl
theorem s_Tab_248 : xVi "Tablature" 248 7 m_Tab_bestCapo 0 := ⟨ok_Tab_bestCapo, w_171, w_169, w_170, TX8, 8, rfl⟩
theorem w_172 : (Jvm.Cond.code ({ cls := "Tablature", name := "totalWithout", desc := "(I)I" } : Jvm.MethodName) prog_1_method_26_code (2 : Nat) (Option.some Jvm.ClassFile.FieldType.int)) ∈ xWA := wd2 178 rfl rfl
theorem ok_Tab_totalWithout : xOk "" m_Tab_totalWithout 1 := ⟨w_172, w_36, ⟨by decide +kernel, by decide +kernel⟩, by decide +kernel⟩
theorem w_173 : (Jvm.Cond.instanceMethod ({ cls := "Tablature", name := "totalWithout", desc := "(I)I" } : Jvm.MethodName)) ∈ xWA := wd2 176 rfl rfl
theorem w_174 : (Jvm.Cond.selects "Tablature" ({ cls := "Tablature", name := "totalWithout", desc := "(I)I" } : Jvm.MethodName) ({ cls := "Tablature", name := "totalWithout", desc := "(I)I" } : Jvm.MethodName)) ∈ xWA := wd2 177 rfl rfl
theorem w_175 : (Jvm.Cond.methodLink "Tablature" (251 : Nat) ({ cls := "Tablature", name := "totalWithout", desc := "(I)I" } : Jvm.MethodName)) ∈ xWA := wd2 205 rfl rfl
theorem s_Tab_251 : xVi "Tablature" 251 7 m_Tab_totalWithout 1 := ⟨ok_Tab_totalWithout, w_175, w_173, w_174, TX8, 8, rfl⟩
theorem w_176 : (Jvm.Cond.fieldLink "Tablature" (254 : Nat) "Tablature$Planner" "grips" "[LTablature$Grips;") ∈ xWA := wd3 124 rfl rfl
theorem f_Tab_254 : xF "Tablature" 254 5 0 := ⟨RX6, TX6, 8, rfl, fun w hw => xWA_in (in_RX6 w hw).1 (in_RX6 w hw).2, by decide, w_176⟩
theorem w_177 : (Jvm.Cond.initialized "Tablature$Grips") ∈ xWA := wd1 8 rfl rfl
theorem w_178 : (Jvm.Cond.code ({ cls := "Tablature$Grips", name := "has", desc := "(I)Z" } : Jvm.MethodName) prog_4_method_2_code (2 : Nat) (Option.some Jvm.ClassFile.FieldType.boolean)) ∈ xWA := wd1 238 rfl rfl
theorem ok_Grips_has : xOk "" m_Grips_has 1 := ⟨w_178, w_177, ⟨by decide +kernel, by decide +kernel⟩, by decide +kernel⟩
theorem w_179 : (Jvm.Cond.instanceMethod ({ cls := "Tablature$Grips", name := "has", desc := "(I)Z" } : Jvm.MethodName)) ∈ xWA := wd1 236 rfl rfl
theorem w_180 : (Jvm.Cond.selects "Tablature$Grips" ({ cls := "Tablature$Grips", name := "has", desc := "(I)Z" } : Jvm.MethodName) ({ cls := "Tablature$Grips", name := "has", desc := "(I)Z" } : Jvm.MethodName)) ∈ xWA := wd1 237 rfl rfl
theorem w_181 : (Jvm.Cond.methodLink "Tablature" (258 : Nat) ({ cls := "Tablature$Grips", name := "has", desc := "(I)Z" } : Jvm.MethodName)) ∈ xWA := wd2 12 rfl rfl
theorem s_Tab_258 : xVi "Tablature" 258 1 m_Grips_has 1 := ⟨ok_Grips_has, w_181, w_179, w_180, TX2, 4, rfl⟩
theorem w_182 : (Jvm.Cond.code ({ cls := "Tablature", name := "mixGrip", desc := "(JI)J" } : Jvm.MethodName) prog_1_method_30_code (7 : Nat) (Option.some Jvm.ClassFile.FieldType.long)) ∈ xWA := wd2 199 rfl rfl
theorem ok_Tab_mixGrip : xOk "" m_Tab_mixGrip 2 := ⟨w_182, w_36, ⟨by decide +kernel, by decide +kernel⟩, by decide +kernel⟩
theorem w_183 : (Jvm.Cond.instanceMethod ({ cls := "Tablature", name := "mixGrip", desc := "(JI)J" } : Jvm.MethodName)) ∈ xWA := wd2 198 rfl rfl
theorem sel_18 : Cond.selects m_Tab_mixGrip.1.cls m_Tab_mixGrip.1 m_Tab_mixGrip.1 ∈ xWA := xWA_in (List.mem_append_left _ (List.mem_of_getElem? (i := 18) (by decide +kernel))) rfl
theorem w_184 : (Jvm.Cond.methodLink "Tablature" (261 : Nat) ({ cls := "Tablature", name := "mixGrip", desc := "(JI)J" } : Jvm.MethodName)) ∈ xWA := wd2 196 rfl rfl
theorem s_Tab_261 : xVi "Tablature" 261 7 m_Tab_mixGrip 2 := ⟨ok_Tab_mixGrip, w_184, w_183, sel_18, TX8, 8, rfl⟩
theorem w_185 : (Jvm.Cond.constantLong "Tablature" (264 : Nat) (31 : Int64)) ∈ xWA := wd2 191 rfl rfl
theorem k_Tab_264 : (Jvm.Cond.constantLong "Tablature" (264 : Nat) (31 : Int64)) ∈ xWA := w_185
theorem w_186 : (Jvm.Cond.code ({ cls := "Tablature$Planner", name := "griplessCount", desc := "()I" } : Jvm.MethodName) prog_8_method_9_code (3 : Nat) (Option.some Jvm.ClassFile.FieldType.int)) ∈ xWA := wd1 225 rfl rfl
theorem ok_Plan_griplessCount : xOk "" m_Plan_griplessCount 0 := ⟨w_186, w_17, ⟨by decide +kernel, by decide +kernel⟩, by decide +kernel⟩
theorem w_187 : (Jvm.Cond.instanceMethod ({ cls := "Tablature$Planner", name := "griplessCount", desc := "()I" } : Jvm.MethodName)) ∈ xWA := wd1 223 rfl rfl
theorem w_188 : (Jvm.Cond.selects "Tablature$Planner" ({ cls := "Tablature$Planner", name := "griplessCount", desc := "()I" } : Jvm.MethodName) ({ cls := "Tablature$Planner", name := "griplessCount", desc := "()I" } : Jvm.MethodName)) ∈ xWA := wd1 224 rfl rfl
theorem w_189 : (Jvm.Cond.methodLink "Tablature" (266 : Nat) ({ cls := "Tablature$Planner", name := "griplessCount", desc := "()I" } : Jvm.MethodName)) ∈ xWA := wd2 83 rfl rfl
theorem s_Tab_266 : xVi "Tablature" 266 5 m_Plan_griplessCount 0 := ⟨ok_Plan_griplessCount, w_189, w_187, w_188, TX6, 8, rfl⟩
theorem w_190 : (Jvm.Cond.code ({ cls := "Tablature$Planner", name := "fixedCount", desc := "()I" } : Jvm.MethodName) prog_8_method_10_code (3 : Nat) (Option.some Jvm.ClassFile.FieldType.int)) ∈ xWA := wd2 87 rfl rfl
theorem ok_Plan_fixedCount : xOk "" m_Plan_fixedCount 0 := ⟨w_190, w_17, ⟨by decide +kernel, by decide +kernel⟩, by decide +kernel⟩
theorem w_191 : (Jvm.Cond.instanceMethod ({ cls := "Tablature$Planner", name := "fixedCount", desc := "()I" } : Jvm.MethodName)) ∈ xWA := wd2 85 rfl rfl
theorem w_192 : (Jvm.Cond.selects "Tablature$Planner" ({ cls := "Tablature$Planner", name := "fixedCount", desc := "()I" } : Jvm.MethodName) ({ cls := "Tablature$Planner", name := "fixedCount", desc := "()I" } : Jvm.MethodName)) ∈ xWA := wd2 86 rfl rfl
theorem w_193 : (Jvm.Cond.methodLink "Tablature" (269 : Nat) ({ cls := "Tablature$Planner", name := "fixedCount", desc := "()I" } : Jvm.MethodName)) ∈ xWA := wd2 84 rfl rfl
theorem s_Tab_269 : xVi "Tablature" 269 5 m_Plan_fixedCount 0 := ⟨ok_Plan_fixedCount, w_193, w_191, w_192, TX6, 8, rfl⟩
theorem w_194 : (Jvm.Cond.code ({ cls := "Tablature$Planner", name := "sumOfMoves", desc := "()I" } : Jvm.MethodName) prog_8_method_8_code (3 : Nat) (Option.some Jvm.ClassFile.FieldType.int)) ∈ xWA := wd2 91 rfl rfl
theorem ok_Plan_sumOfMoves : xOk "" m_Plan_sumOfMoves 0 := ⟨w_194, w_17, ⟨by decide +kernel, by decide +kernel⟩, by decide +kernel⟩
theorem w_195 : (Jvm.Cond.instanceMethod ({ cls := "Tablature$Planner", name := "sumOfMoves", desc := "()I" } : Jvm.MethodName)) ∈ xWA := wd2 89 rfl rfl
theorem w_196 : (Jvm.Cond.selects "Tablature$Planner" ({ cls := "Tablature$Planner", name := "sumOfMoves", desc := "()I" } : Jvm.MethodName) ({ cls := "Tablature$Planner", name := "sumOfMoves", desc := "()I" } : Jvm.MethodName)) ∈ xWA := wd2 90 rfl rfl
theorem w_197 : (Jvm.Cond.methodLink "Tablature" (272 : Nat) ({ cls := "Tablature$Planner", name := "sumOfMoves", desc := "()I" } : Jvm.MethodName)) ∈ xWA := wd2 88 rfl rfl
theorem s_Tab_272 : xVi "Tablature" 272 5 m_Plan_sumOfMoves 0 := ⟨ok_Plan_sumOfMoves, w_197, w_195, w_196, TX6, 8, rfl⟩
theorem w_198 : (Jvm.Cond.fieldLink "Tablature" (275 : Nat) "Tablature$Chord" "size" "I") ∈ xWA := wd3 26 rfl rfl
theorem f_Tab_275 : xF "Tablature" 275 0 1 := ⟨RX0, TX0, 4, rfl, fun w hw => xWA_in (in_RX0 w hw).1 (in_RX0 w hw).2, by decide, w_198⟩
theorem w_199 : (Jvm.Cond.code ({ cls := "Tablature$Chord", name := "lowest", desc := "()I" } : Jvm.MethodName) prog_2_method_4_code (3 : Nat) (Option.some Jvm.ClassFile.FieldType.int)) ∈ xWA := wd2 29 rfl rfl
theorem ok_Chord_lowest : xOk "" m_Chord_lowest 0 := ⟨w_199, w_81, ⟨by decide +kernel, by decide +kernel⟩, by decide +kernel⟩
theorem w_200 : (Jvm.Cond.instanceMethod ({ cls := "Tablature$Chord", name := "lowest", desc := "()I" } : Jvm.MethodName)) ∈ xWA := wd2 27 rfl rfl
theorem w_201 : (Jvm.Cond.selects "Tablature$Chord" ({ cls := "Tablature$Chord", name := "lowest", desc := "()I" } : Jvm.MethodName) ({ cls := "Tablature$Chord", name := "lowest", desc := "()I" } : Jvm.MethodName)) ∈ xWA := wd2 28 rfl rfl
theorem w_202 : (Jvm.Cond.methodLink "Tablature" (278 : Nat) ({ cls := "Tablature$Chord", name := "lowest", desc := "()I" } : Jvm.MethodName)) ∈ xWA := wd2 26 rfl rfl
theorem s_Tab_278 : xVi "Tablature" 278 0 m_Chord_lowest 0 := ⟨ok_Chord_lowest, w_202, w_200, w_201, TX0, 4, rfl⟩
theorem w_203 : (Jvm.Cond.code ({ cls := "Tablature$Chord", name := "highest", desc := "()I" } : Jvm.MethodName) prog_2_method_5_code (3 : Nat) (Option.some Jvm.ClassFile.FieldType.int)) ∈ xWA := wd2 34 rfl rfl
theorem ok_Chord_highest : xOk "" m_Chord_highest 0 := ⟨w_203, w_81, ⟨by decide +kernel, by decide +kernel⟩, by decide +kernel⟩
theorem w_204 : (Jvm.Cond.instanceMethod ({ cls := "Tablature$Chord", name := "highest", desc := "()I" } : Jvm.MethodName)) ∈ xWA := wd2 32 rfl rfl
theorem w_205 : (Jvm.Cond.selects "Tablature$Chord" ({ cls := "Tablature$Chord", name := "highest", desc := "()I" } : Jvm.MethodName) ({ cls := "Tablature$Chord", name := "highest", desc := "()I" } : Jvm.MethodName)) ∈ xWA := wd2 33 rfl rfl
theorem w_206 : (Jvm.Cond.methodLink "Tablature" (281 : Nat) ({ cls := "Tablature$Chord", name := "highest", desc := "()I" } : Jvm.MethodName)) ∈ xWA := wd2 31 rfl rfl
theorem s_Tab_281 : xVi "Tablature" 281 0 m_Chord_highest 0 := ⟨ok_Chord_highest, w_206, w_204, w_205, TX0, 4, rfl⟩
theorem w_207 : (Jvm.Cond.fieldLink "Tablature" (284 : Nat) "Tablature$Chord" "length" "I") ∈ xWA := wd3 29 rfl rfl
theorem f_Tab_284 : xF "Tablature" 284 0 2 := ⟨RX0, TX0, 4, rfl, fun w hw => xWA_in (in_RX0 w hw).1 (in_RX0 w hw).2, by decide, w_207⟩
theorem w_208 : (Jvm.Cond.fieldLink "Tablature" (287 : Nat) "Tablature$Grips" "count" "I") ∈ xWA := wd3 113 rfl rfl
theorem f_Tab_287 : xF "Tablature" 287 1 3 := ⟨RX2, TX2, 4, rfl, fun w hw => xWA_in (in_RX2 w hw).1 (in_RX2 w hw).2, by decide, w_208⟩
theorem w_209 : (Jvm.Cond.code ({ cls := "Tablature$Hand", name := "effort", desc := "()I" } : Jvm.MethodName) prog_5_method_8_code (1 : Nat) (Option.some Jvm.ClassFile.FieldType.int)) ∈ xWA := wd1 192 rfl rfl
theorem ok_Hand_effort : xOk "" m_Hand_effort 0 := ⟨w_209, w_31, ⟨by decide +kernel, by decide +kernel⟩, by decide +kernel⟩
theorem w_210 : (Jvm.Cond.instanceMethod ({ cls := "Tablature$Hand", name := "effort", desc := "()I" } : Jvm.MethodName)) ∈ xWA := wd1 190 rfl rfl
theorem w_211 : (Jvm.Cond.selects "Tablature$Hand" ({ cls := "Tablature$Hand", name := "effort", desc := "()I" } : Jvm.MethodName) ({ cls := "Tablature$Hand", name := "effort", desc := "()I" } : Jvm.MethodName)) ∈ xWA := wd1 191 rfl rfl
theorem w_212 : (Jvm.Cond.methodLink "Tablature" (288 : Nat) ({ cls := "Tablature$Hand", name := "effort", desc := "()I" } : Jvm.MethodName)) ∈ xWA := wd2 47 rfl rfl
theorem s_Tab_288 : xVi "Tablature" 288 2 m_Hand_effort 0 := ⟨ok_Hand_effort, w_212, w_210, w_211, TX3, 8, rfl⟩
theorem w_213 : (Jvm.Cond.fieldLink "Tablature" (291 : Nat) "Tablature$Hand" "low" "I") ∈ xWA := wd3 69 rfl rfl
theorem f_Tab_291 : xF "Tablature" 291 2 0 := ⟨RX3, TX3, 8, rfl, fun w hw => xWA_in (in_RX3 w hw).1 (in_RX3 w hw).2, by decide, w_213⟩
theorem w_214 : (Jvm.Cond.fieldLink "Tablature" (294 : Nat) "Tablature$Hand" "high" "I") ∈ xWA := wd3 71 rfl rfl
theorem f_Tab_294 : xF "Tablature" 294 2 1 := ⟨RX3, TX3, 8, rfl, fun w hw => xWA_in (in_RX3 w hw).1 (in_RX3 w hw).2, by decide, w_214⟩
theorem w_215 : (Jvm.Cond.code ({ cls := "Tablature$Hand", name := "fingerCount", desc := "()I" } : Jvm.MethodName) prog_5_method_6_code (1 : Nat) (Option.some Jvm.ClassFile.FieldType.int)) ∈ xWA := wd1 188 rfl rfl
theorem ok_Hand_fingerCount : xOk "" m_Hand_fingerCount 0 := ⟨w_215, w_31, ⟨by decide +kernel, by decide +kernel⟩, by decide +kernel⟩
theorem w_216 : (Jvm.Cond.instanceMethod ({ cls := "Tablature$Hand", name := "fingerCount", desc := "()I" } : Jvm.MethodName)) ∈ xWA := wd1 186 rfl rfl
theorem w_217 : (Jvm.Cond.selects "Tablature$Hand" ({ cls := "Tablature$Hand", name := "fingerCount", desc := "()I" } : Jvm.MethodName) ({ cls := "Tablature$Hand", name := "fingerCount", desc := "()I" } : Jvm.MethodName)) ∈ xWA := wd1 187 rfl rfl
theorem w_218 : (Jvm.Cond.methodLink "Tablature" (297 : Nat) ({ cls := "Tablature$Hand", name := "fingerCount", desc := "()I" } : Jvm.MethodName)) ∈ xWA := wd2 48 rfl rfl
theorem s_Tab_297 : xVi "Tablature" 297 2 m_Hand_fingerCount 0 := ⟨ok_Hand_fingerCount, w_218, w_216, w_217, TX3, 8, rfl⟩
theorem w_219 : (Jvm.Cond.fieldLink "Tablature" (300 : Nat) "Tablature$Hand" "barre" "Z") ∈ xWA := wd3 76 rfl rfl
theorem f_Tab_300 : xF "Tablature" 300 2 3 := ⟨RX3, TX3, 8, rfl, fun w hw => xWA_in (in_RX3 w hw).1 (in_RX3 w hw).2, by decide, w_219⟩
theorem w_220 : (Jvm.Cond.fieldLink "Tablature" (303 : Nat) "Tablature$Hand" "sounding" "I") ∈ xWA := wd3 74 rfl rfl
theorem f_Tab_303 : xF "Tablature" 303 2 2 := ⟨RX3, TX3, 8, rfl, fun w hw => xWA_in (in_RX3 w hw).1 (in_RX3 w hw).2, by decide, w_220⟩
theorem f_Tab_39 : xF "Tablature" 39 7 5 := ⟨RX8, TX8, 8, rfl, fun w hw => xWA_in (in_RX8 w hw).1 (in_RX8 w hw).2, by decide, w_28⟩
theorem w_221 : (Jvm.Cond.code ({ cls := "Tablature$Shapes", name := "forget", desc := "()V" } : Jvm.MethodName) prog_9_method_2_code (1 : Nat) (Option.none : Option Jvm.ClassFile.FieldType)) ∈ xWA := wd1 125 rfl rfl
theorem ok_Shapes_forget : xOk "" m_Shapes_forget 0 := ⟨w_221, w_25, ⟨by decide +kernel, by decide +kernel⟩, by decide +kernel⟩
theorem w_222 : (Jvm.Cond.instanceMethod ({ cls := "Tablature$Shapes", name := "forget", desc := "()V" } : Jvm.MethodName)) ∈ xWA := wd1 123 rfl rfl
theorem w_223 : (Jvm.Cond.selects "Tablature$Shapes" ({ cls := "Tablature$Shapes", name := "forget", desc := "()V" } : Jvm.MethodName) ({ cls := "Tablature$Shapes", name := "forget", desc := "()V" } : Jvm.MethodName)) ∈ xWA := wd1 124 rfl rfl
theorem w_224 : (Jvm.Cond.methodLink "Tablature" (306 : Nat) ({ cls := "Tablature$Shapes", name := "forget", desc := "()V" } : Jvm.MethodName)) ∈ xWA := wd1 122 rfl rfl
theorem s_Tab_306 : xVi "Tablature" 306 6 m_Shapes_forget 0 := ⟨ok_Shapes_forget, w_224, w_222, w_223, TX7, 8, rfl⟩
theorem f_Tab_50 : xF "Tablature" 50 7 7 := ⟨RX8, TX8, 8, rfl, fun w hw => xWA_in (in_RX8 w hw).1 (in_RX8 w hw).2, by decide, w_35⟩
theorem w_225 : (Jvm.Cond.code ({ cls := "Tablature$Shapes", name := "isOf", desc := "(III)Z" } : Jvm.MethodName) prog_9_method_3_code (4 : Nat) (Option.some Jvm.ClassFile.FieldType.boolean)) ∈ xWA := wd2 110 rfl rfl
theorem ok_Shapes_isOf : xOk "" m_Shapes_isOf 3 := ⟨w_225, w_25, ⟨by decide +kernel, by decide +kernel⟩, by decide +kernel⟩
theorem w_226 : (Jvm.Cond.instanceMethod ({ cls := "Tablature$Shapes", name := "isOf", desc := "(III)Z" } : Jvm.MethodName)) ∈ xWA := wd2 108 rfl rfl
theorem w_227 : (Jvm.Cond.selects "Tablature$Shapes" ({ cls := "Tablature$Shapes", name := "isOf", desc := "(III)Z" } : Jvm.MethodName) ({ cls := "Tablature$Shapes", name := "isOf", desc := "(III)Z" } : Jvm.MethodName)) ∈ xWA := wd2 109 rfl rfl
theorem w_228 : (Jvm.Cond.methodLink "Tablature" (309 : Nat) ({ cls := "Tablature$Shapes", name := "isOf", desc := "(III)Z" } : Jvm.MethodName)) ∈ xWA := wd2 107 rfl rfl
theorem s_Tab_309 : xVi "Tablature" 309 6 m_Shapes_isOf 3 := ⟨ok_Shapes_isOf, w_228, w_226, w_227, TX7, 8, rfl⟩
theorem w_229 : (Jvm.Cond.code ({ cls := "Tablature$Shapes", name := "seek", desc := "(LTablature$Instrument;III)V" } : Jvm.MethodName) prog_9_method_4_code (5 : Nat) (Option.none : Option Jvm.ClassFile.FieldType)) ∈ xWA := wd2 114 rfl rfl
theorem ok_Shapes_seek : xOk "" m_Shapes_seek 4 := ⟨w_229, w_25, ⟨by decide +kernel, by decide +kernel⟩, by decide +kernel⟩
theorem w_230 : (Jvm.Cond.instanceMethod ({ cls := "Tablature$Shapes", name := "seek", desc := "(LTablature$Instrument;III)V" } : Jvm.MethodName)) ∈ xWA := wd2 112 rfl rfl
theorem w_231 : (Jvm.Cond.selects "Tablature$Shapes" ({ cls := "Tablature$Shapes", name := "seek", desc := "(LTablature$Instrument;III)V" } : Jvm.MethodName) ({ cls := "Tablature$Shapes", name := "seek", desc := "(LTablature$Instrument;III)V" } : Jvm.MethodName)) ∈ xWA := wd2 113 rfl rfl
theorem w_232 : (Jvm.Cond.methodLink "Tablature" (313 : Nat) ({ cls := "Tablature$Shapes", name := "seek", desc := "(LTablature$Instrument;III)V" } : Jvm.MethodName)) ∈ xWA := wd2 111 rfl rfl
theorem s_Tab_313 : xVi "Tablature" 313 6 m_Shapes_seek 4 := ⟨ok_Shapes_seek, w_232, w_230, w_231, TX7, 8, rfl⟩
theorem w_233 : (Jvm.Cond.methodLink "Tablature" (321 : Nat) ({ cls := "java/lang/IndexOutOfBoundsException", name := "<init>", desc := "(Ljava/lang/String;)V" } : Jvm.MethodName)) ∈ xWA := wd1 73 rfl rfl
theorem s_Tab_321 : (Jvm.Cond.methodLink "Tablature" (321 : Nat) ({ cls := "java/lang/IndexOutOfBoundsException", name := "<init>", desc := "(Ljava/lang/String;)V" } : Jvm.MethodName)) ∈ xWA := w_233
theorem w_234 : (Jvm.Cond.initialized "java/lang/Integer") ∈ xWA := wd1 19 rfl rfl
theorem w_235 : (Jvm.Cond.code ({ cls := "java/lang/Integer", name := "bitCount", desc := "(I)I" } : Jvm.MethodName) prog_17_method_49_code (1 : Nat) (Option.some Jvm.ClassFile.FieldType.int)) ∈ xWA := wd2 8 rfl rfl
theorem ok_Integer_bitCount : xOk "" m_Integer_bitCount 1 := ⟨w_235, w_234, ⟨by decide +kernel, by decide +kernel⟩, by decide +kernel⟩
theorem w_236 : (Jvm.Cond.static ({ cls := "java/lang/Integer", name := "bitCount", desc := "(I)I" } : Jvm.MethodName)) ∈ xWA := wd2 7 rfl rfl
theorem w_237 : (Jvm.Cond.methodLink "Tablature" (334 : Nat) ({ cls := "java/lang/Integer", name := "bitCount", desc := "(I)I" } : Jvm.MethodName)) ∈ xWA := wd2 99 rfl rfl
theorem s_Tab_334 : xS "Tablature" 334 m_Integer_bitCount 1 := ⟨ok_Integer_bitCount, w_237, w_236⟩
theorem w_238 : (Jvm.Cond.methodLink "Tablature$Chord" (3 : Nat) ({ cls := "java/lang/Object", name := "<init>", desc := "()V" } : Jvm.MethodName)) ∈ xWA := wd3 21 rfl rfl
theorem s_Chord_3 : (Jvm.Cond.methodLink "Tablature$Chord" (3 : Nat) ({ cls := "java/lang/Object", name := "<init>", desc := "()V" } : Jvm.MethodName)) ∈ xWA := w_238
theorem w_239 : (Jvm.Cond.fieldLink "Tablature$Chord" (9 : Nat) "Tablature$Chord" "pitches" "[I") ∈ xWA := wd3 22 rfl rfl
theorem p_Chord_9 : xP "Tablature$Chord" 9 0 0 (.array .int) true := ⟨RX0, TX0, 4, tyX0, rfl, fun w hw => xWA_in (in_RX0 w hw).1 (in_RX0 w hw).2, by decide, w_239, tyX0_ok, nmX0, rfl, by decide +kernel, Or.inr rfl⟩
theorem w_240 : (Jvm.Cond.fieldLink "Tablature$Chord" (15 : Nat) "Tablature$Chord" "size" "I") ∈ xWA := wd3 24 rfl rfl
theorem p_Chord_15 : xP "Tablature$Chord" 15 0 1 .int false := ⟨RX0, TX0, 4, tyX0, rfl, fun w hw => xWA_in (in_RX0 w hw).1 (in_RX0 w hw).2, by decide, w_240, tyX0_ok, nmX0, rfl, by decide +kernel, Or.inl rfl⟩
theorem w_241 : (Jvm.Cond.fieldLink "Tablature$Chord" (19 : Nat) "Tablature$Chord" "length" "I") ∈ xWA := wd3 27 rfl rfl
theorem p_Chord_19 : xP "Tablature$Chord" 19 0 2 .int false := ⟨RX0, TX0, 4, tyX0, rfl, fun w hw => xWA_in (in_RX0 w hw).1 (in_RX0 w hw).2, by decide, w_241, tyX0_ok, nmX0, rfl, by decide +kernel, Or.inl rfl⟩
theorem w_242 : (Jvm.Cond.fieldLink "Tablature$Chord" (22 : Nat) "Tablature$Chord" "fixedCode" "I") ∈ xWA := wd3 30 rfl rfl
theorem p_Chord_22 : xP "Tablature$Chord" 22 0 3 .int false := ⟨RX0, TX0, 4, tyX0, rfl, fun w hw => xWA_in (in_RX0 w hw).1 (in_RX0 w hw).2, by decide, w_242, tyX0_ok, nmX0, rfl, by decide +kernel, Or.inl rfl⟩
theorem f_Chord_15 : xF "Tablature$Chord" 15 0 1 := ⟨RX0, TX0, 4, rfl, fun w hw => xWA_in (in_RX0 w hw).1 (in_RX0 w hw).2, by decide, w_240⟩
theorem f_Chord_9 : xF "Tablature$Chord" 9 0 0 := ⟨RX0, TX0, 4, rfl, fun w hw => xWA_in (in_RX0 w hw).1 (in_RX0 w hw).2, by decide, w_239⟩
theorem w_243 : (Jvm.Cond.methodLink "Tablature$Chord" (25 : Nat) ({ cls := "java/lang/Math", name := "min", desc := "(II)I" } : Jvm.MethodName)) ∈ xWA := wd2 30 rfl rfl
theorem s_Chord_25 : (Jvm.Cond.methodLink "Tablature$Chord" (25 : Nat) ({ cls := "java/lang/Math", name := "min", desc := "(II)I" } : Jvm.MethodName)) ∈ xWA := w_243
theorem w_244 : (Jvm.Cond.methodLink "Tablature$Chord" (31 : Nat) ({ cls := "java/lang/Math", name := "max", desc := "(II)I" } : Jvm.MethodName)) ∈ xWA := wd2 35 rfl rfl
theorem s_Chord_31 : (Jvm.Cond.methodLink "Tablature$Chord" (31 : Nat) ({ cls := "java/lang/Math", name := "max", desc := "(II)I" } : Jvm.MethodName)) ∈ xWA := w_244
theorem w_245 : (Jvm.Cond.constant "Tablature$GripCode" (11 : Nat) (1118481 : Int32)) ∈ xWA := wd2 2 rfl rfl
theorem k_Code_11 : (Jvm.Cond.constant "Tablature$GripCode" (11 : Nat) (1118481 : Int32)) ∈ xWA := w_245
theorem w_246 : (Jvm.Cond.methodLink "Tablature$Grips" (3 : Nat) ({ cls := "java/lang/Object", name := "<init>", desc := "()V" } : Jvm.MethodName)) ∈ xWA := wd3 102 rfl rfl
theorem s_Grips_3 : (Jvm.Cond.methodLink "Tablature$Grips" (3 : Nat) ({ cls := "java/lang/Object", name := "<init>", desc := "()V" } : Jvm.MethodName)) ∈ xWA := w_246
theorem w_247 : (Jvm.Cond.fieldLink "Tablature$Grips" (9 : Nat) "Tablature$Grips" "codes" "[I") ∈ xWA := wd3 103 rfl rfl
theorem p_Grips_9 : xP "Tablature$Grips" 9 1 0 (.array .int) true := ⟨RX2, TX2, 4, tyX2, rfl, fun w hw => xWA_in (in_RX2 w hw).1 (in_RX2 w hw).2, by decide, w_247, tyX2_ok, nmX2, rfl, by decide +kernel, Or.inr rfl⟩
theorem w_248 : (Jvm.Cond.fieldLink "Tablature$Grips" (15 : Nat) "Tablature$Grips" "efforts" "[I") ∈ xWA := wd3 106 rfl rfl
theorem p_Grips_15 : xP "Tablature$Grips" 15 1 1 (.array .int) true := ⟨RX2, TX2, 4, tyX2, rfl, fun w hw => xWA_in (in_RX2 w hw).1 (in_RX2 w hw).2, by decide, w_248, tyX2_ok, nmX2, rfl, by decide +kernel, Or.inr rfl⟩
theorem w_249 : (Jvm.Cond.fieldLink "Tablature$Grips" (18 : Nat) "Tablature$Grips" "lows" "[I") ∈ xWA := wd3 109 rfl rfl
theorem p_Grips_18 : xP "Tablature$Grips" 18 1 2 (.array .int) true := ⟨RX2, TX2, 4, tyX2, rfl, fun w hw => xWA_in (in_RX2 w hw).1 (in_RX2 w hw).2, by decide, w_249, tyX2_ok, nmX2, rfl, by decide +kernel, Or.inr rfl⟩
theorem w_250 : (Jvm.Cond.fieldLink "Tablature$Grips" (21 : Nat) "Tablature$Grips" "count" "I") ∈ xWA := wd3 111 rfl rfl
theorem p_Grips_21 : xP "Tablature$Grips" 21 1 3 .int false := ⟨RX2, TX2, 4, tyX2, rfl, fun w hw => xWA_in (in_RX2 w hw).1 (in_RX2 w hw).2, by decide, w_250, tyX2_ok, nmX2, rfl, by decide +kernel, Or.inl rfl⟩
theorem f_Grips_21 : xF "Tablature$Grips" 21 1 3 := ⟨RX2, TX2, 4, rfl, fun w hw => xWA_in (in_RX2 w hw).1 (in_RX2 w hw).2, by decide, w_250⟩
theorem f_Grips_9 : xF "Tablature$Grips" 9 1 0 := ⟨RX2, TX2, 4, rfl, fun w hw => xWA_in (in_RX2 w hw).1 (in_RX2 w hw).2, by decide, w_247⟩
theorem f_Grips_15 : xF "Tablature$Grips" 15 1 1 := ⟨RX2, TX2, 4, rfl, fun w hw => xWA_in (in_RX2 w hw).1 (in_RX2 w hw).2, by decide, w_248⟩
theorem w_251 : (Jvm.Cond.methodLink "Tablature$Grips" (25 : Nat) ({ cls := "java/lang/Math", name := "min", desc := "(II)I" } : Jvm.MethodName)) ∈ xWA := wd1 197 rfl rfl
theorem s_Grips_25 : (Jvm.Cond.methodLink "Tablature$Grips" (25 : Nat) ({ cls := "java/lang/Math", name := "min", desc := "(II)I" } : Jvm.MethodName)) ∈ xWA := w_251
theorem f_Grips_18 : xF "Tablature$Grips" 18 1 2 := ⟨RX2, TX2, 4, rfl, fun w hw => xWA_in (in_RX2 w hw).1 (in_RX2 w hw).2, by decide, w_249⟩
theorem w_252 : (Jvm.Cond.methodLink "Tablature$Hand" (3 : Nat) ({ cls := "java/lang/Object", name := "<init>", desc := "()V" } : Jvm.MethodName)) ∈ xWA := wd3 66 rfl rfl
theorem s_Hand_3 : (Jvm.Cond.methodLink "Tablature$Hand" (3 : Nat) ({ cls := "java/lang/Object", name := "<init>", desc := "()V" } : Jvm.MethodName)) ∈ xWA := w_252
theorem w_253 : (Jvm.Cond.fieldLink "Tablature$Hand" (9 : Nat) "Tablature$Hand" "low" "I") ∈ xWA := wd3 67 rfl rfl
theorem p_Hand_9 : xP "Tablature$Hand" 9 2 0 .int false := ⟨RX3, TX3, 8, tyX3, rfl, fun w hw => xWA_in (in_RX3 w hw).1 (in_RX3 w hw).2, by decide, w_253, tyX3_ok, nmX3, rfl, by decide +kernel, Or.inl rfl⟩
theorem w_254 : (Jvm.Cond.fieldLink "Tablature$Hand" (15 : Nat) "Tablature$Hand" "high" "I") ∈ xWA := wd3 70 rfl rfl
theorem p_Hand_15 : xP "Tablature$Hand" 15 2 1 .int false := ⟨RX3, TX3, 8, tyX3, rfl, fun w hw => xWA_in (in_RX3 w hw).1 (in_RX3 w hw).2, by decide, w_254, tyX3_ok, nmX3, rfl, by decide +kernel, Or.inl rfl⟩
theorem w_255 : (Jvm.Cond.fieldLink "Tablature$Hand" (18 : Nat) "Tablature$Hand" "sounding" "I") ∈ xWA := wd3 72 rfl rfl
theorem p_Hand_18 : xP "Tablature$Hand" 18 2 2 .int false := ⟨RX3, TX3, 8, tyX3, rfl, fun w hw => xWA_in (in_RX3 w hw).1 (in_RX3 w hw).2, by decide, w_255, tyX3_ok, nmX3, rfl, by decide +kernel, Or.inl rfl⟩
theorem w_256 : (Jvm.Cond.fieldLink "Tablature$Hand" (21 : Nat) "Tablature$Hand" "barre" "Z") ∈ xWA := wd3 75 rfl rfl
theorem p_Hand_21 : xP "Tablature$Hand" 21 2 3 .boolean false := ⟨RX3, TX3, 8, tyX3, rfl, fun w hw => xWA_in (in_RX3 w hw).1 (in_RX3 w hw).2, by decide, w_256, tyX3_ok, nmX3, rfl, by decide +kernel, Or.inl rfl⟩
theorem w_257 : (Jvm.Cond.fieldLink "Tablature$Hand" (25 : Nat) "Tablature$Hand" "frets" "[I") ∈ xWA := wd3 77 rfl rfl
theorem p_Hand_25 : xP "Tablature$Hand" 25 2 4 (.array .int) true := ⟨RX3, TX3, 8, tyX3, rfl, fun w hw => xWA_in (in_RX3 w hw).1 (in_RX3 w hw).2, by decide, w_257, tyX3_ok, nmX3, rfl, by decide +kernel, Or.inr rfl⟩
theorem w_258 : (Jvm.Cond.fieldLink "Tablature$Hand" (29 : Nat) "Tablature$Hand" "pressed" "I") ∈ xWA := wd3 78 rfl rfl
theorem p_Hand_29 : xP "Tablature$Hand" 29 2 5 .int false := ⟨RX3, TX3, 8, tyX3, rfl, fun w hw => xWA_in (in_RX3 w hw).1 (in_RX3 w hw).2, by decide, w_258, tyX3_ok, nmX3, rfl, by decide +kernel, Or.inl rfl⟩
theorem w_259 : (Jvm.Cond.fieldLink "Tablature$Hand" (32 : Nat) "Tablature$Hand" "pressedAtLow" "I") ∈ xWA := wd3 79 rfl rfl
theorem p_Hand_32 : xP "Tablature$Hand" 32 2 6 .int false := ⟨RX3, TX3, 8, tyX3, rfl, fun w hw => xWA_in (in_RX3 w hw).1 (in_RX3 w hw).2, by decide, w_259, tyX3_ok, nmX3, rfl, by decide +kernel, Or.inl rfl⟩
theorem w_260 : (Jvm.Cond.fieldLink "Tablature$Hand" (35 : Nat) "Tablature$Hand" "skipped" "I") ∈ xWA := wd3 80 rfl rfl
theorem p_Hand_35 : xP "Tablature$Hand" 35 2 7 .int false := ⟨RX3, TX3, 8, tyX3, rfl, fun w hw => xWA_in (in_RX3 w hw).1 (in_RX3 w hw).2, by decide, w_260, tyX3_ok, nmX3, rfl, by decide +kernel, Or.inl rfl⟩
theorem f_Hand_25 : xF "Tablature$Hand" 25 2 4 := ⟨RX3, TX3, 8, rfl, fun w hw => xWA_in (in_RX3 w hw).1 (in_RX3 w hw).2, by decide, w_257⟩
theorem w_261 : (Jvm.Cond.methodLink "Tablature$Hand" (38 : Nat) ({ cls := "Tablature$GripCode", name := "fretAt", desc := "(II)I" } : Jvm.MethodName)) ∈ xWA := wd1 165 rfl rfl
theorem s_Hand_38 : xS "Tablature$Hand" 38 m_Code_fretAt 2 := ⟨ok_Code_fretAt, w_261, w_114⟩
theorem w_262 : (Jvm.Cond.code ({ cls := "Tablature$Hand", name := "countSounding", desc := "()V" } : Jvm.MethodName) prog_5_method_3_code (3 : Nat) (Option.none : Option Jvm.ClassFile.FieldType)) ∈ xWA := wd1 172 rfl rfl
theorem ok_Hand_countSounding : xOk "" m_Hand_countSounding 0 := ⟨w_262, w_31, ⟨by decide +kernel, by decide +kernel⟩, by decide +kernel⟩
theorem w_263 : (Jvm.Cond.instanceMethod ({ cls := "Tablature$Hand", name := "countSounding", desc := "()V" } : Jvm.MethodName)) ∈ xWA := wd1 170 rfl rfl
theorem sel_6 : Cond.selects m_Hand_countSounding.1.cls m_Hand_countSounding.1 m_Hand_countSounding.1 ∈ xWA := xWA_in (List.mem_append_left _ (List.mem_of_getElem? (i := 6) (by decide +kernel))) rfl
theorem w_264 : (Jvm.Cond.methodLink "Tablature$Hand" (44 : Nat) ({ cls := "Tablature$Hand", name := "countSounding", desc := "()V" } : Jvm.MethodName)) ∈ xWA := wd1 168 rfl rfl
theorem s_Hand_44 : xVi "Tablature$Hand" 44 2 m_Hand_countSounding 0 := ⟨ok_Hand_countSounding, w_264, w_263, sel_6, TX3, 8, rfl⟩
theorem w_265 : (Jvm.Cond.code ({ cls := "Tablature$Hand", name := "countPressed", desc := "()V" } : Jvm.MethodName) prog_5_method_4_code (3 : Nat) (Option.none : Option Jvm.ClassFile.FieldType)) ∈ xWA := wd1 176 rfl rfl
theorem ok_Hand_countPressed : xOk "" m_Hand_countPressed 0 := ⟨w_265, w_31, ⟨by decide +kernel, by decide +kernel⟩, by decide +kernel⟩
theorem w_266 : (Jvm.Cond.instanceMethod ({ cls := "Tablature$Hand", name := "countPressed", desc := "()V" } : Jvm.MethodName)) ∈ xWA := wd1 175 rfl rfl
theorem sel_7 : Cond.selects m_Hand_countPressed.1.cls m_Hand_countPressed.1 m_Hand_countPressed.1 ∈ xWA := xWA_in (List.mem_append_left _ (List.mem_of_getElem? (i := 7) (by decide +kernel))) rfl
theorem w_267 : (Jvm.Cond.methodLink "Tablature$Hand" (47 : Nat) ({ cls := "Tablature$Hand", name := "countPressed", desc := "()V" } : Jvm.MethodName)) ∈ xWA := wd1 173 rfl rfl
theorem s_Hand_47 : xVi "Tablature$Hand" 47 2 m_Hand_countPressed 0 := ⟨ok_Hand_countPressed, w_267, w_266, sel_7, TX3, 8, rfl⟩
theorem w_268 : (Jvm.Cond.code ({ cls := "Tablature$Hand", name := "findBarre", desc := "()V" } : Jvm.MethodName) prog_5_method_5_code (5 : Nat) (Option.none : Option Jvm.ClassFile.FieldType)) ∈ xWA := wd1 180 rfl rfl
theorem ok_Hand_findBarre : xOk "" m_Hand_findBarre 0 := ⟨w_268, w_31, ⟨by decide +kernel, by decide +kernel⟩, by decide +kernel⟩
theorem w_269 : (Jvm.Cond.instanceMethod ({ cls := "Tablature$Hand", name := "findBarre", desc := "()V" } : Jvm.MethodName)) ∈ xWA := wd1 179 rfl rfl
theorem sel_8 : Cond.selects m_Hand_findBarre.1.cls m_Hand_findBarre.1 m_Hand_findBarre.1 ∈ xWA := xWA_in (List.mem_append_left _ (List.mem_of_getElem? (i := 8) (by decide +kernel))) rfl
theorem w_270 : (Jvm.Cond.methodLink "Tablature$Hand" (50 : Nat) ({ cls := "Tablature$Hand", name := "findBarre", desc := "()V" } : Jvm.MethodName)) ∈ xWA := wd1 177 rfl rfl
theorem s_Hand_50 : xVi "Tablature$Hand" 50 2 m_Hand_findBarre 0 := ⟨ok_Hand_findBarre, w_270, w_269, sel_8, TX3, 8, rfl⟩
theorem f_Hand_35 : xF "Tablature$Hand" 35 2 7 := ⟨RX3, TX3, 8, rfl, fun w hw => xWA_in (in_RX3 w hw).1 (in_RX3 w hw).2, by decide, w_260⟩
theorem f_Hand_18 : xF "Tablature$Hand" 18 2 2 := ⟨RX3, TX3, 8, rfl, fun w hw => xWA_in (in_RX3 w hw).1 (in_RX3 w hw).2, by decide, w_255⟩
theorem f_Hand_29 : xF "Tablature$Hand" 29 2 5 := ⟨RX3, TX3, 8, rfl, fun w hw => xWA_in (in_RX3 w hw).1 (in_RX3 w hw).2, by decide, w_258⟩
theorem f_Hand_9 : xF "Tablature$Hand" 9 2 0 := ⟨RX3, TX3, 8, rfl, fun w hw => xWA_in (in_RX3 w hw).1 (in_RX3 w hw).2, by decide, w_253⟩
theorem f_Hand_15 : xF "Tablature$Hand" 15 2 1 := ⟨RX3, TX3, 8, rfl, fun w hw => xWA_in (in_RX3 w hw).1 (in_RX3 w hw).2, by decide, w_254⟩
theorem f_Hand_32 : xF "Tablature$Hand" 32 2 6 := ⟨RX3, TX3, 8, rfl, fun w hw => xWA_in (in_RX3 w hw).1 (in_RX3 w hw).2, by decide, w_259⟩
theorem f_Hand_21 : xF "Tablature$Hand" 21 2 3 := ⟨RX3, TX3, 8, rfl, fun w hw => xWA_in (in_RX3 w hw).1 (in_RX3 w hw).2, by decide, w_256⟩
theorem w_271 : (Jvm.Cond.methodLink "Tablature$Hand" (53 : Nat) ({ cls := "Tablature$Hand", name := "fingerCount", desc := "()I" } : Jvm.MethodName)) ∈ xWA := wd1 185 rfl rfl
theorem s_Hand_53 : xVi "Tablature$Hand" 53 2 m_Hand_fingerCount 0 := ⟨ok_Hand_fingerCount, w_271, w_216, w_217, TX3, 8, rfl⟩
theorem w_272 : (Jvm.Cond.methodLink "Tablature$Instrument" (3 : Nat) ({ cls := "java/lang/Object", name := "<init>", desc := "()V" } : Jvm.MethodName)) ∈ xWA := wd2 222 rfl rfl
theorem s_Instr_3 : (Jvm.Cond.methodLink "Tablature$Instrument" (3 : Nat) ({ cls := "java/lang/Object", name := "<init>", desc := "()V" } : Jvm.MethodName)) ∈ xWA := w_272
theorem w_273 : (Jvm.Cond.fieldLink "Tablature$Instrument" (9 : Nat) "Tablature$Instrument" "open" "[I") ∈ xWA := wd2 223 rfl rfl
theorem p_Instr_9 : xP "Tablature$Instrument" 9 3 0 (.array .int) true := ⟨RX4, TX4, 5, tyX4, rfl, fun w hw => xWA_in (in_RX4 w hw).1 (in_RX4 w hw).2, by decide, w_273, tyX4_ok, nmX4, rfl, by decide +kernel, Or.inr rfl⟩
theorem w_274 : (Jvm.Cond.fieldLink "Tablature$Instrument" (15 : Nat) "Tablature$Instrument" "slack" "[Z") ∈ xWA := wd2 225 rfl rfl
theorem p_Instr_15 : xP "Tablature$Instrument" 15 3 1 (.array .boolean) true := ⟨RX4, TX4, 5, tyX4, rfl, fun w hw => xWA_in (in_RX4 w hw).1 (in_RX4 w hw).2, by decide, w_274, tyX4_ok, nmX4, rfl, by decide +kernel, Or.inr rfl⟩
theorem w_275 : (Jvm.Cond.fieldLink "Tablature$Instrument" (19 : Nat) "Tablature$Instrument" "count" "I") ∈ xWA := wd2 227 rfl rfl
theorem p_Instr_19 : xP "Tablature$Instrument" 19 3 2 .int false := ⟨RX4, TX4, 5, tyX4, rfl, fun w hw => xWA_in (in_RX4 w hw).1 (in_RX4 w hw).2, by decide, w_275, tyX4_ok, nmX4, rfl, by decide +kernel, Or.inl rfl⟩
theorem w_276 : (Jvm.Cond.fieldLink "Tablature$Instrument" (23 : Nat) "Tablature$Instrument" "capo" "I") ∈ xWA := wd2 230 rfl rfl
theorem p_Instr_23 : xP "Tablature$Instrument" 23 3 3 .int false := ⟨RX4, TX4, 5, tyX4, rfl, fun w hw => xWA_in (in_RX4 w hw).1 (in_RX4 w hw).2, by decide, w_276, tyX4_ok, nmX4, rfl, by decide +kernel, Or.inl rfl⟩
theorem w_277 : (Jvm.Cond.fieldLink "Tablature$Instrument" (26 : Nat) "Tablature$Instrument" "reach" "I") ∈ xWA := wd2 232 rfl rfl
theorem p_Instr_26 : xP "Tablature$Instrument" 26 3 4 .int false := ⟨RX4, TX4, 5, tyX4, rfl, fun w hw => xWA_in (in_RX4 w hw).1 (in_RX4 w hw).2, by decide, w_277, tyX4_ok, nmX4, rfl, by decide +kernel, Or.inl rfl⟩
theorem f_Instr_19 : xF "Tablature$Instrument" 19 3 2 := ⟨RX4, TX4, 5, rfl, fun w hw => xWA_in (in_RX4 w hw).1 (in_RX4 w hw).2, by decide, w_275⟩
theorem f_Instr_9 : xF "Tablature$Instrument" 9 3 0 := ⟨RX4, TX4, 5, rfl, fun w hw => xWA_in (in_RX4 w hw).1 (in_RX4 w hw).2, by decide, w_273⟩
theorem f_Instr_15 : xF "Tablature$Instrument" 15 3 1 := ⟨RX4, TX4, 5, rfl, fun w hw => xWA_in (in_RX4 w hw).1 (in_RX4 w hw).2, by decide, w_274⟩
theorem f_Instr_23 : xF "Tablature$Instrument" 23 3 3 := ⟨RX4, TX4, 5, rfl, fun w hw => xWA_in (in_RX4 w hw).1 (in_RX4 w hw).2, by decide, w_276⟩
theorem f_Instr_26 : xF "Tablature$Instrument" 26 3 4 := ⟨RX4, TX4, 5, rfl, fun w hw => xWA_in (in_RX4 w hw).1 (in_RX4 w hw).2, by decide, w_277⟩
theorem w_278 : (Jvm.Cond.code ({ cls := "Tablature$Instrument", name := "isUsed", desc := "(I)Z" } : Jvm.MethodName) prog_6_method_5_code (2 : Nat) (Option.some Jvm.ClassFile.FieldType.boolean)) ∈ xWA := wd1 205 rfl rfl
theorem ok_Instr_isUsed : xOk "" m_Instr_isUsed 1 := ⟨w_278, w_3, ⟨by decide +kernel, by decide +kernel⟩, by decide +kernel⟩
theorem w_279 : (Jvm.Cond.instanceMethod ({ cls := "Tablature$Instrument", name := "isUsed", desc := "(I)Z" } : Jvm.MethodName)) ∈ xWA := wd1 203 rfl rfl
theorem w_280 : (Jvm.Cond.selects "Tablature$Instrument" ({ cls := "Tablature$Instrument", name := "isUsed", desc := "(I)Z" } : Jvm.MethodName) ({ cls := "Tablature$Instrument", name := "isUsed", desc := "(I)Z" } : Jvm.MethodName)) ∈ xWA := wd1 204 rfl rfl
theorem w_281 : (Jvm.Cond.methodLink "Tablature$Instrument" (29 : Nat) ({ cls := "Tablature$Instrument", name := "isUsed", desc := "(I)Z" } : Jvm.MethodName)) ∈ xWA := wd1 202 rfl rfl
theorem s_Instr_29 : xVi "Tablature$Instrument" 29 3 m_Instr_isUsed 1 := ⟨ok_Instr_isUsed, w_281, w_279, w_280, TX4, 5, rfl⟩
theorem w_282 : (Jvm.Cond.code ({ cls := "Tablature$Instrument", name := "lastFret", desc := "()I" } : Jvm.MethodName) prog_6_method_6_code (1 : Nat) (Option.some Jvm.ClassFile.FieldType.int)) ∈ xWA := wd1 209 rfl rfl
theorem ok_Instr_lastFret : xOk "" m_Instr_lastFret 0 := ⟨w_282, w_3, ⟨by decide +kernel, by decide +kernel⟩, by decide +kernel⟩
theorem w_283 : (Jvm.Cond.instanceMethod ({ cls := "Tablature$Instrument", name := "lastFret", desc := "()I" } : Jvm.MethodName)) ∈ xWA := wd1 207 rfl rfl
theorem w_284 : (Jvm.Cond.selects "Tablature$Instrument" ({ cls := "Tablature$Instrument", name := "lastFret", desc := "()I" } : Jvm.MethodName) ({ cls := "Tablature$Instrument", name := "lastFret", desc := "()I" } : Jvm.MethodName)) ∈ xWA := wd1 208 rfl rfl
theorem w_285 : (Jvm.Cond.methodLink "Tablature$Instrument" (33 : Nat) ({ cls := "Tablature$Instrument", name := "lastFret", desc := "()I" } : Jvm.MethodName)) ∈ xWA := wd1 206 rfl rfl
theorem s_Instr_33 : xVi "Tablature$Instrument" 33 3 m_Instr_lastFret 0 := ⟨ok_Instr_lastFret, w_285, w_283, w_284, TX4, 5, rfl⟩
theorem w_286 : (Jvm.Cond.methodLink "Tablature$Piece" (3 : Nat) ({ cls := "java/lang/Object", name := "<init>", desc := "()V" } : Jvm.MethodName)) ∈ xWA := wd3 14 rfl rfl
theorem s_Piece_3 : (Jvm.Cond.methodLink "Tablature$Piece" (3 : Nat) ({ cls := "java/lang/Object", name := "<init>", desc := "()V" } : Jvm.MethodName)) ∈ xWA := w_286
theorem w_287 : (Jvm.Cond.classLink "Tablature$Piece" (9 : Nat) "Tablature$Chord") ∈ xWA := wd3 15 rfl rfl
theorem a_Piece_9 : Cond.classLink "Tablature$Piece" 9 "Tablature$Chord" ∈ xWA := w_287
theorem w_288 : (Jvm.Cond.fieldLink "Tablature$Piece" (11 : Nat) "Tablature$Piece" "chords" "[LTablature$Chord;") ∈ xWA := wd3 42 rfl rfl
theorem p_Piece_11 : xP "Tablature$Piece" 11 4 0 (.array (.object "Tablature$Chord")) true := ⟨RX5, TX5, 2, tyX5, rfl, fun w hw => xWA_in (in_RX5 w hw).1 (in_RX5 w hw).2, by decide, w_288, tyX5_ok, nmX5, rfl, by decide +kernel, Or.inr rfl⟩
theorem w_289 : (Jvm.Cond.fieldLink "Tablature$Piece" (17 : Nat) "Tablature$Piece" "count" "I") ∈ xWA := wd3 45 rfl rfl
theorem p_Piece_17 : xP "Tablature$Piece" 17 4 1 .int false := ⟨RX5, TX5, 2, tyX5, rfl, fun w hw => xWA_in (in_RX5 w hw).1 (in_RX5 w hw).2, by decide, w_289, tyX5_ok, nmX5, rfl, by decide +kernel, Or.inl rfl⟩
theorem f_Piece_11 : xF "Tablature$Piece" 11 4 0 := ⟨RX5, TX5, 2, rfl, fun w hw => xWA_in (in_RX5 w hw).1 (in_RX5 w hw).2, by decide, w_288⟩
theorem w_290 : (Jvm.Cond.instantiable "Tablature$Chord" (4 : Nat)) ∈ xWA := wd3 17 rfl rfl
theorem n_Piece_9 : xNw "Tablature$Piece" 9 0 4 [.null, vi 0, vi 0, vi 0] := ⟨RX0, TX0, tyX0, rfl, fun w hw => xWA_in (in_RX0 w hw).1 (in_RX0 w hw).2, tyX0_ok, w_287, w_290, w_81, by decide +kernel⟩
theorem w_291 : (Jvm.Cond.code ({ cls := "Tablature$Chord", name := "<init>", desc := "()V" } : Jvm.MethodName) prog_2_method_1_code (1 : Nat) (Option.none : Option Jvm.ClassFile.FieldType)) ∈ xWA := wd3 20 rfl rfl
theorem ok_Chord_init : xOk "" m_Chord_init 0 := ⟨w_291, w_81, ⟨by decide +kernel, by decide +kernel⟩, by decide +kernel⟩
theorem w_292 : (Jvm.Cond.instanceMethod ({ cls := "Tablature$Chord", name := "<init>", desc := "()V" } : Jvm.MethodName)) ∈ xWA := wd3 19 rfl rfl
theorem s_Piece_21 : xIN "Tablature$Piece" 21 "Tablature" m_Chord_init 0 := ⟨ok_Chord_init, by decide +kernel, w_292, rfl, rfl⟩
theorem f_Piece_17 : xF "Tablature$Piece" 17 4 1 := ⟨RX5, TX5, 2, rfl, fun w hw => xWA_in (in_RX5 w hw).1 (in_RX5 w hw).2, by decide, w_289⟩
theorem w_293 : (Jvm.Cond.methodLink "Tablature$Piece" (22 : Nat) ({ cls := "java/lang/Math", name := "min", desc := "(II)I" } : Jvm.MethodName)) ∈ xWA := wd4 75 rfl rfl
theorem s_Piece_22 : (Jvm.Cond.methodLink "Tablature$Piece" (22 : Nat) ({ cls := "java/lang/Math", name := "min", desc := "(II)I" } : Jvm.MethodName)) ∈ xWA := w_293
theorem w_294 : (Jvm.Cond.code ({ cls := "Tablature$Chord", name := "clear", desc := "(I)V" } : Jvm.MethodName) prog_2_method_2_code (2 : Nat) (Option.none : Option Jvm.ClassFile.FieldType)) ∈ xWA := wd4 79 rfl rfl
theorem ok_Chord_clear : xOk "" m_Chord_clear 1 := ⟨w_294, w_81, ⟨by decide +kernel, by decide +kernel⟩, by decide +kernel⟩
theorem w_295 : (Jvm.Cond.instanceMethod ({ cls := "Tablature$Chord", name := "clear", desc := "(I)V" } : Jvm.MethodName)) ∈ xWA := wd4 77 rfl rfl
theorem w_296 : (Jvm.Cond.selects "Tablature$Chord" ({ cls := "Tablature$Chord", name := "clear", desc := "(I)V" } : Jvm.MethodName) ({ cls := "Tablature$Chord", name := "clear", desc := "(I)V" } : Jvm.MethodName)) ∈ xWA := wd4 78 rfl rfl
theorem w_297 : (Jvm.Cond.methodLink "Tablature$Piece" (28 : Nat) ({ cls := "Tablature$Chord", name := "clear", desc := "(I)V" } : Jvm.MethodName)) ∈ xWA := wd4 76 rfl rfl
theorem s_Piece_28 : xVi "Tablature$Piece" 28 0 m_Chord_clear 1 := ⟨ok_Chord_clear, w_297, w_295, w_296, TX0, 4, rfl⟩
theorem w_298 : (Jvm.Cond.methodLink "Tablature$Planner" (3 : Nat) ({ cls := "java/lang/Object", name := "<init>", desc := "()V" } : Jvm.MethodName)) ∈ xWA := wd3 57 rfl rfl
theorem s_Plan_3 : (Jvm.Cond.methodLink "Tablature$Planner" (3 : Nat) ({ cls := "java/lang/Object", name := "<init>", desc := "()V" } : Jvm.MethodName)) ∈ xWA := w_298
theorem w_299 : (Jvm.Cond.classLink "Tablature$Planner" (9 : Nat) "Tablature$Grips") ∈ xWA := wd3 58 rfl rfl
theorem a_Plan_9 : Cond.classLink "Tablature$Planner" 9 "Tablature$Grips" ∈ xWA := w_299
theorem w_300 : (Jvm.Cond.fieldLink "Tablature$Planner" (11 : Nat) "Tablature$Planner" "grips" "[LTablature$Grips;") ∈ xWA := wd3 123 rfl rfl
theorem p_Plan_11 : xP "Tablature$Planner" 11 5 0 (.array (.object "Tablature$Grips")) true := ⟨RX6, TX6, 8, tyX6, rfl, fun w hw => xWA_in (in_RX6 w hw).1 (in_RX6 w hw).2, by decide, w_300, tyX6_ok, nmX6, rfl, by decide +kernel, Or.inr rfl⟩
theorem w_301 : (Jvm.Cond.fieldLink "Tablature$Planner" (17 : Nat) "Tablature$Planner" "fixed" "[I") ∈ xWA := wd3 125 rfl rfl
theorem p_Plan_17 : xP "Tablature$Planner" 17 5 1 (.array .int) true := ⟨RX6, TX6, 8, tyX6, rfl, fun w hw => xWA_in (in_RX6 w hw).1 (in_RX6 w hw).2, by decide, w_301, tyX6_ok, nmX6, rfl, by decide +kernel, Or.inr rfl⟩
theorem w_302 : (Jvm.Cond.fieldLink "Tablature$Planner" (21 : Nat) "Tablature$Planner" "choice" "[I") ∈ xWA := wd3 127 rfl rfl
theorem p_Plan_21 : xP "Tablature$Planner" 21 5 2 (.array .int) true := ⟨RX6, TX6, 8, tyX6, rfl, fun w hw => xWA_in (in_RX6 w hw).1 (in_RX6 w hw).2, by decide, w_302, tyX6_ok, nmX6, rfl, by decide +kernel, Or.inr rfl⟩
theorem w_303 : (Jvm.Cond.fieldLink "Tablature$Planner" (24 : Nat) "Tablature$Planner" "total" "I") ∈ xWA := wd3 129 rfl rfl
theorem p_Plan_24 : xP "Tablature$Planner" 24 5 3 .int false := ⟨RX6, TX6, 8, tyX6, rfl, fun w hw => xWA_in (in_RX6 w hw).1 (in_RX6 w hw).2, by decide, w_303, tyX6_ok, nmX6, rfl, by decide +kernel, Or.inl rfl⟩
theorem w_304 : (Jvm.Cond.fieldLink "Tablature$Planner" (28 : Nat) "Tablature$Planner" "lengths" "[I") ∈ xWA := wd3 131 rfl rfl
theorem p_Plan_28 : xP "Tablature$Planner" 28 5 4 (.array .int) true := ⟨RX6, TX6, 8, tyX6, rfl, fun w hw => xWA_in (in_RX6 w hw).1 (in_RX6 w hw).2, by decide, w_304, tyX6_ok, nmX6, rfl, by decide +kernel, Or.inr rfl⟩
theorem w_305 : (Jvm.Cond.classLink "Tablature$Planner" (31 : Nat) "[[I") ∈ xWA := wd3 60 rfl rfl
theorem a_Plan_31 : Cond.classLink "Tablature$Planner" 31 "[[I" ∈ xWA := w_305
theorem w_306 : (Jvm.Cond.fieldLink "Tablature$Planner" (33 : Nat) "Tablature$Planner" "rest" "[[I") ∈ xWA := wd3 132 rfl rfl
theorem p_Plan_33 : xP "Tablature$Planner" 33 5 5 (.array (.array .int)) true := ⟨RX6, TX6, 8, tyX6, rfl, fun w hw => xWA_in (in_RX6 w hw).1 (in_RX6 w hw).2, by decide, w_306, tyX6_ok, nmX6, rfl, by decide +kernel, Or.inr rfl⟩
theorem w_307 : (Jvm.Cond.classLink "Tablature$Planner" (36 : Nat) "Tablature$Hand") ∈ xWA := wd3 62 rfl rfl
theorem n_Plan_36 : xNw "Tablature$Planner" 36 2 8 [vi 0, vi 0, vi 0, vi 0, .null, vi 0, vi 0, vi 0] := ⟨RX3, TX3, tyX3, rfl, fun w hw => xWA_in (in_RX3 w hw).1 (in_RX3 w hw).2, tyX3_ok, w_307, w_30, w_31, by decide +kernel⟩
theorem s_Plan_38 : xIN "Tablature$Planner" 38 "Tablature" m_Hand_init 0 := ⟨ok_Hand_init, by decide +kernel, w_33, rfl, rfl⟩
theorem w_308 : (Jvm.Cond.fieldLink "Tablature$Planner" (39 : Nat) "Tablature$Planner" "hand" "LTablature$Hand;") ∈ xWA := wd3 133 rfl rfl
theorem p_Plan_39 : xP "Tablature$Planner" 39 5 6 (.object "Tablature$Hand") true := ⟨RX6, TX6, 8, tyX6, rfl, fun w hw => xWA_in (in_RX6 w hw).1 (in_RX6 w hw).2, by decide, w_308, tyX6_ok, nmX6, rfl, by decide +kernel, Or.inr rfl⟩
theorem w_309 : (Jvm.Cond.fieldLink "Tablature$Planner" (43 : Nat) "Tablature$Planner" "count" "I") ∈ xWA := wd3 134 rfl rfl
theorem p_Plan_43 : xP "Tablature$Planner" 43 5 7 .int false := ⟨RX6, TX6, 8, tyX6, rfl, fun w hw => xWA_in (in_RX6 w hw).1 (in_RX6 w hw).2, by decide, w_309, tyX6_ok, nmX6, rfl, by decide +kernel, Or.inl rfl⟩
theorem f_Plan_11 : xF "Tablature$Planner" 11 5 0 := ⟨RX6, TX6, 8, rfl, fun w hw => xWA_in (in_RX6 w hw).1 (in_RX6 w hw).2, by decide, w_300⟩
theorem w_310 : (Jvm.Cond.instantiable "Tablature$Grips" (4 : Nat)) ∈ xWA := wd3 98 rfl rfl
theorem n_Plan_9 : xNw "Tablature$Planner" 9 1 4 [.null, .null, .null, vi 0] := ⟨RX2, TX2, tyX2, rfl, fun w hw => xWA_in (in_RX2 w hw).1 (in_RX2 w hw).2, tyX2_ok, w_299, w_310, w_177, by decide +kernel⟩
theorem w_311 : (Jvm.Cond.code ({ cls := "Tablature$Grips", name := "<init>", desc := "()V" } : Jvm.MethodName) prog_4_method_1_code (1 : Nat) (Option.none : Option Jvm.ClassFile.FieldType)) ∈ xWA := wd3 101 rfl rfl
theorem ok_Grips_init : xOk "" m_Grips_init 0 := ⟨w_311, w_177, ⟨by decide +kernel, by decide +kernel⟩, by decide +kernel⟩
theorem w_312 : (Jvm.Cond.instanceMethod ({ cls := "Tablature$Grips", name := "<init>", desc := "()V" } : Jvm.MethodName)) ∈ xWA := wd3 100 rfl rfl
theorem s_Plan_46 : xIN "Tablature$Planner" 46 "Tablature" m_Grips_init 0 := ⟨ok_Grips_init, by decide +kernel, w_312, rfl, rfl⟩
theorem w_313 : (Jvm.Cond.fieldLink "Tablature$Planner" (47 : Nat) "Tablature$Piece" "count" "I") ∈ xWA := wd3 46 rfl rfl
theorem f_Plan_47 : xF "Tablature$Planner" 47 4 1 := ⟨RX5, TX5, 2, rfl, fun w hw => xWA_in (in_RX5 w hw).1 (in_RX5 w hw).2, by decide, w_313⟩
theorem w_314 : (Jvm.Cond.methodLink "Tablature$Planner" (50 : Nat) ({ cls := "java/lang/Math", name := "min", desc := "(II)I" } : Jvm.MethodName)) ∈ xWA := wd1 155 rfl rfl
theorem s_Plan_50 : (Jvm.Cond.methodLink "Tablature$Planner" (50 : Nat) ({ cls := "java/lang/Math", name := "min", desc := "(II)I" } : Jvm.MethodName)) ∈ xWA := w_314
theorem f_Plan_43 : xF "Tablature$Planner" 43 5 7 := ⟨RX6, TX6, 8, rfl, fun w hw => xWA_in (in_RX6 w hw).1 (in_RX6 w hw).2, by decide, w_309⟩
theorem w_315 : (Jvm.Cond.fieldLink "Tablature$Planner" (56 : Nat) "Tablature$Piece" "chords" "[LTablature$Chord;") ∈ xWA := wd3 43 rfl rfl
theorem f_Plan_56 : xF "Tablature$Planner" 56 4 0 := ⟨RX5, TX5, 2, rfl, fun w hw => xWA_in (in_RX5 w hw).1 (in_RX5 w hw).2, by decide, w_315⟩
theorem w_316 : (Jvm.Cond.fieldLink "Tablature$Planner" (60 : Nat) "Tablature$Grips" "count" "I") ∈ xWA := wd3 112 rfl rfl
theorem p_Plan_60 : xP "Tablature$Planner" 60 1 3 .int false := ⟨RX2, TX2, 4, tyX2, rfl, fun w hw => xWA_in (in_RX2 w hw).1 (in_RX2 w hw).2, by decide, w_316, tyX2_ok, nmX2, rfl, by decide +kernel, Or.inl rfl⟩
theorem f_Plan_39 : xF "Tablature$Planner" 39 5 6 := ⟨RX6, TX6, 8, rfl, fun w hw => xWA_in (in_RX6 w hw).1 (in_RX6 w hw).2, by decide, w_308⟩
theorem w_317 : (Jvm.Cond.code ({ cls := "Tablature$Planner", name := "place", desc := "(LTablature$Grips;LTablature$Hand;LTablature$Instrument;LTablature$Chord;II)V" } : Jvm.MethodName) prog_8_method_3_code (8 : Nat) (Option.none : Option Jvm.ClassFile.FieldType)) ∈ xWA := wd1 160 rfl rfl
theorem ok_Plan_place : xOk "" m_Plan_place 6 := ⟨w_317, w_17, ⟨by decide +kernel, by decide +kernel⟩, by decide +kernel⟩
theorem w_318 : (Jvm.Cond.static ({ cls := "Tablature$Planner", name := "place", desc := "(LTablature$Grips;LTablature$Hand;LTablature$Instrument;LTablature$Chord;II)V" } : Jvm.MethodName)) ∈ xWA := wd1 159 rfl rfl
theorem w_319 : (Jvm.Cond.methodLink "Tablature$Planner" (63 : Nat) ({ cls := "Tablature$Planner", name := "place", desc := "(LTablature$Grips;LTablature$Hand;LTablature$Instrument;LTablature$Chord;II)V" } : Jvm.MethodName)) ∈ xWA := wd1 158 rfl rfl
theorem s_Plan_63 : xS "Tablature$Planner" 63 m_Plan_place 6 := ⟨ok_Plan_place, w_319, w_318⟩
theorem f_Plan_17 : xF "Tablature$Planner" 17 5 1 := ⟨RX6, TX6, 8, rfl, fun w hw => xWA_in (in_RX6 w hw).1 (in_RX6 w hw).2, by decide, w_301⟩
theorem w_320 : (Jvm.Cond.fieldLink "Tablature$Planner" (67 : Nat) "Tablature$Chord" "fixedCode" "I") ∈ xWA := wd3 31 rfl rfl
theorem f_Plan_67 : xF "Tablature$Planner" 67 0 3 := ⟨RX0, TX0, 4, rfl, fun w hw => xWA_in (in_RX0 w hw).1 (in_RX0 w hw).2, by decide, w_320⟩
theorem w_321 : (Jvm.Cond.code ({ cls := "Tablature$Grips", name := "numberOf", desc := "(I)I" } : Jvm.MethodName) prog_4_method_3_code (3 : Nat) (Option.some Jvm.ClassFile.FieldType.int)) ∈ xWA := wd1 217 rfl rfl
theorem ok_Grips_numberOf : xOk "" m_Grips_numberOf 1 := ⟨w_321, w_177, ⟨by decide +kernel, by decide +kernel⟩, by decide +kernel⟩
theorem w_322 : (Jvm.Cond.instanceMethod ({ cls := "Tablature$Grips", name := "numberOf", desc := "(I)I" } : Jvm.MethodName)) ∈ xWA := wd1 215 rfl rfl
theorem w_323 : (Jvm.Cond.selects "Tablature$Grips" ({ cls := "Tablature$Grips", name := "numberOf", desc := "(I)I" } : Jvm.MethodName) ({ cls := "Tablature$Grips", name := "numberOf", desc := "(I)I" } : Jvm.MethodName)) ∈ xWA := wd1 216 rfl rfl
theorem w_324 : (Jvm.Cond.methodLink "Tablature$Planner" (72 : Nat) ({ cls := "Tablature$Grips", name := "numberOf", desc := "(I)I" } : Jvm.MethodName)) ∈ xWA := wd1 214 rfl rfl
theorem s_Plan_72 : xVi "Tablature$Planner" 72 1 m_Grips_numberOf 1 := ⟨ok_Grips_numberOf, w_324, w_322, w_323, TX2, 4, rfl⟩
theorem f_Plan_28 : xF "Tablature$Planner" 28 5 4 := ⟨RX6, TX6, 8, rfl, fun w hw => xWA_in (in_RX6 w hw).1 (in_RX6 w hw).2, by decide, w_304⟩
theorem w_325 : (Jvm.Cond.fieldLink "Tablature$Planner" (76 : Nat) "Tablature$Chord" "length" "I") ∈ xWA := wd3 28 rfl rfl
theorem f_Plan_76 : xF "Tablature$Planner" 76 0 2 := ⟨RX0, TX0, 4, rfl, fun w hw => xWA_in (in_RX0 w hw).1 (in_RX0 w hw).2, by decide, w_325⟩
theorem w_326 : (Jvm.Cond.fieldLink "Tablature$Planner" (79 : Nat) "Tablature$Chord" "size" "I") ∈ xWA := wd3 25 rfl rfl
theorem f_Plan_79 : xF "Tablature$Planner" 79 0 1 := ⟨RX0, TX0, 4, rfl, fun w hw => xWA_in (in_RX0 w hw).1 (in_RX0 w hw).2, by decide, w_326⟩
theorem w_327 : (Jvm.Cond.methodLink "Tablature$Planner" (82 : Nat) ({ cls := "Tablature$Hand", name := "hold", desc := "(I)V" } : Jvm.MethodName)) ∈ xWA := wd1 161 rfl rfl
theorem s_Plan_82 : xVi "Tablature$Planner" 82 2 m_Hand_hold 1 := ⟨ok_Hand_hold, w_327, w_106, w_107, TX3, 8, rfl⟩
theorem w_328 : (Jvm.Cond.fieldLink "Tablature$Planner" (86 : Nat) "Tablature$Instrument" "reach" "I") ∈ xWA := wd2 233 rfl rfl
theorem f_Plan_86 : xF "Tablature$Planner" 86 3 4 := ⟨RX4, TX4, 5, rfl, fun w hw => xWA_in (in_RX4 w hw).1 (in_RX4 w hw).2, by decide, w_328⟩
theorem w_329 : (Jvm.Cond.code ({ cls := "Tablature$Hand", name := "isPlayable", desc := "(I)Z" } : Jvm.MethodName) prog_5_method_7_code (2 : Nat) (Option.some Jvm.ClassFile.FieldType.boolean)) ∈ xWA := wd1 184 rfl rfl
theorem ok_Hand_isPlayable : xOk "" m_Hand_isPlayable 1 := ⟨w_329, w_31, ⟨by decide +kernel, by decide +kernel⟩, by decide +kernel⟩
theorem w_330 : (Jvm.Cond.instanceMethod ({ cls := "Tablature$Hand", name := "isPlayable", desc := "(I)Z" } : Jvm.MethodName)) ∈ xWA := wd1 182 rfl rfl
theorem w_331 : (Jvm.Cond.selects "Tablature$Hand" ({ cls := "Tablature$Hand", name := "isPlayable", desc := "(I)Z" } : Jvm.MethodName) ({ cls := "Tablature$Hand", name := "isPlayable", desc := "(I)Z" } : Jvm.MethodName)) ∈ xWA := wd1 183 rfl rfl
theorem w_332 : (Jvm.Cond.methodLink "Tablature$Planner" (91 : Nat) ({ cls := "Tablature$Hand", name := "isPlayable", desc := "(I)Z" } : Jvm.MethodName)) ∈ xWA := wd1 181 rfl rfl
theorem s_Plan_91 : xVi "Tablature$Planner" 91 2 m_Hand_isPlayable 1 := ⟨ok_Hand_isPlayable, w_332, w_330, w_331, TX3, 8, rfl⟩
theorem w_333 : (Jvm.Cond.methodLink "Tablature$Planner" (95 : Nat) ({ cls := "Tablature$Hand", name := "effort", desc := "()I" } : Jvm.MethodName)) ∈ xWA := wd1 189 rfl rfl
theorem s_Plan_95 : xVi "Tablature$Planner" 95 2 m_Hand_effort 0 := ⟨ok_Hand_effort, w_333, w_210, w_211, TX3, 8, rfl⟩
theorem w_334 : (Jvm.Cond.fieldLink "Tablature$Planner" (99 : Nat) "Tablature$Hand" "low" "I") ∈ xWA := wd3 68 rfl rfl
theorem f_Plan_99 : xF "Tablature$Planner" 99 2 0 := ⟨RX3, TX3, 8, rfl, fun w hw => xWA_in (in_RX3 w hw).1 (in_RX3 w hw).2, by decide, w_334⟩
theorem w_335 : (Jvm.Cond.code ({ cls := "Tablature$Grips", name := "insert", desc := "(III)V" } : Jvm.MethodName) prog_4_method_4_code (6 : Nat) (Option.none : Option Jvm.ClassFile.FieldType)) ∈ xWA := wd1 196 rfl rfl
theorem ok_Grips_insert : xOk "" m_Grips_insert 3 := ⟨w_335, w_177, ⟨by decide +kernel, by decide +kernel⟩, by decide +kernel⟩
theorem w_336 : (Jvm.Cond.instanceMethod ({ cls := "Tablature$Grips", name := "insert", desc := "(III)V" } : Jvm.MethodName)) ∈ xWA := wd1 194 rfl rfl
theorem w_337 : (Jvm.Cond.selects "Tablature$Grips" ({ cls := "Tablature$Grips", name := "insert", desc := "(III)V" } : Jvm.MethodName) ({ cls := "Tablature$Grips", name := "insert", desc := "(III)V" } : Jvm.MethodName)) ∈ xWA := wd1 195 rfl rfl
theorem w_338 : (Jvm.Cond.methodLink "Tablature$Planner" (102 : Nat) ({ cls := "Tablature$Grips", name := "insert", desc := "(III)V" } : Jvm.MethodName)) ∈ xWA := wd1 193 rfl rfl
theorem s_Plan_102 : xVi "Tablature$Planner" 102 1 m_Grips_insert 3 := ⟨ok_Grips_insert, w_338, w_336, w_337, TX2, 4, rfl⟩
theorem w_339 : (Jvm.Cond.fieldLink "Tablature$Planner" (106 : Nat) "Tablature$Instrument" "count" "I") ∈ xWA := wd2 229 rfl rfl
theorem f_Plan_106 : xF "Tablature$Planner" 106 3 2 := ⟨RX4, TX4, 5, rfl, fun w hw => xWA_in (in_RX4 w hw).1 (in_RX4 w hw).2, by decide, w_339⟩
theorem w_340 : (Jvm.Cond.fieldLink "Tablature$Planner" (107 : Nat) "Tablature$Chord" "pitches" "[I") ∈ xWA := wd3 23 rfl rfl
theorem f_Plan_107 : xF "Tablature$Planner" 107 0 0 := ⟨RX0, TX0, 4, rfl, fun w hw => xWA_in (in_RX0 w hw).1 (in_RX0 w hw).2, by decide, w_340⟩
theorem w_341 : (Jvm.Cond.code ({ cls := "Tablature$Instrument", name := "fretFor", desc := "(II)I" } : Jvm.MethodName) prog_6_method_8_code (4 : Nat) (Option.some Jvm.ClassFile.FieldType.int)) ∈ xWA := wd1 201 rfl rfl
theorem ok_Instr_fretFor : xOk "" m_Instr_fretFor 2 := ⟨w_341, w_3, ⟨by decide +kernel, by decide +kernel⟩, by decide +kernel⟩
theorem w_342 : (Jvm.Cond.instanceMethod ({ cls := "Tablature$Instrument", name := "fretFor", desc := "(II)I" } : Jvm.MethodName)) ∈ xWA := wd1 199 rfl rfl
theorem w_343 : (Jvm.Cond.selects "Tablature$Instrument" ({ cls := "Tablature$Instrument", name := "fretFor", desc := "(II)I" } : Jvm.MethodName) ({ cls := "Tablature$Instrument", name := "fretFor", desc := "(II)I" } : Jvm.MethodName)) ∈ xWA := wd1 200 rfl rfl
theorem w_344 : (Jvm.Cond.methodLink "Tablature$Planner" (110 : Nat) ({ cls := "Tablature$Instrument", name := "fretFor", desc := "(II)I" } : Jvm.MethodName)) ∈ xWA := wd1 198 rfl rfl
theorem s_Plan_110 : xVi "Tablature$Planner" 110 3 m_Instr_fretFor 2 := ⟨ok_Instr_fretFor, w_344, w_342, w_343, TX4, 5, rfl⟩
theorem w_345 : (Jvm.Cond.methodLink "Tablature$Planner" (113 : Nat) ({ cls := "Tablature$GripCode", name := "fretAt", desc := "(II)I" } : Jvm.MethodName)) ∈ xWA := wd1 210 rfl rfl
theorem s_Plan_113 : xS "Tablature$Planner" 113 m_Code_fretAt 2 := ⟨ok_Code_fretAt, w_345, w_114⟩
theorem w_346 : (Jvm.Cond.code ({ cls := "Tablature$GripCode", name := "with", desc := "(III)I" } : Jvm.MethodName) prog_3_method_3_code (3 : Nat) (Option.some Jvm.ClassFile.FieldType.int)) ∈ xWA := wd1 213 rfl rfl
theorem ok_Code_with : xOk "" m_Code_with 3 := ⟨w_346, w_112, ⟨by decide +kernel, by decide +kernel⟩, by decide +kernel⟩
theorem w_347 : (Jvm.Cond.static ({ cls := "Tablature$GripCode", name := "with", desc := "(III)I" } : Jvm.MethodName)) ∈ xWA := wd1 212 rfl rfl
theorem w_348 : (Jvm.Cond.methodLink "Tablature$Planner" (116 : Nat) ({ cls := "Tablature$GripCode", name := "with", desc := "(III)I" } : Jvm.MethodName)) ∈ xWA := wd1 211 rfl rfl
theorem s_Plan_116 : xS "Tablature$Planner" 116 m_Code_with 3 := ⟨ok_Code_with, w_348, w_347⟩
theorem f_Plan_21 : xF "Tablature$Planner" 21 5 2 := ⟨RX6, TX6, 8, rfl, fun w hw => xWA_in (in_RX6 w hw).1 (in_RX6 w hw).2, by decide, w_302⟩
theorem w_349 : (Jvm.Cond.methodLink "Tablature$Planner" (120 : Nat) ({ cls := "Tablature$Planner", name := "griplessCount", desc := "()I" } : Jvm.MethodName)) ∈ xWA := wd1 222 rfl rfl
theorem s_Plan_120 : xVi "Tablature$Planner" 120 5 m_Plan_griplessCount 0 := ⟨ok_Plan_griplessCount, w_349, w_187, w_188, TX6, 8, rfl⟩
theorem f_Plan_60 : xF "Tablature$Planner" 60 1 3 := ⟨RX2, TX2, 4, rfl, fun w hw => xWA_in (in_RX2 w hw).1 (in_RX2 w hw).2, by decide, w_316⟩
theorem w_350 : (Jvm.Cond.code ({ cls := "Tablature$Planner", name := "bestAt", desc := "(II)I" } : Jvm.MethodName) prog_8_method_5_code (7 : Nat) (Option.some Jvm.ClassFile.FieldType.int)) ∈ xWA := wd1 230 rfl rfl
theorem ok_Plan_bestAt : xOk "" m_Plan_bestAt 2 := ⟨w_350, w_17, ⟨by decide +kernel, by decide +kernel⟩, by decide +kernel⟩
theorem w_351 : (Jvm.Cond.instanceMethod ({ cls := "Tablature$Planner", name := "bestAt", desc := "(II)I" } : Jvm.MethodName)) ∈ xWA := wd1 228 rfl rfl
theorem sel_9 : Cond.selects m_Plan_bestAt.1.cls m_Plan_bestAt.1 m_Plan_bestAt.1 ∈ xWA := xWA_in (List.mem_append_left _ (List.mem_of_getElem? (i := 9) (by decide +kernel))) rfl
theorem w_352 : (Jvm.Cond.methodLink "Tablature$Planner" (123 : Nat) ({ cls := "Tablature$Planner", name := "bestAt", desc := "(II)I" } : Jvm.MethodName)) ∈ xWA := wd1 226 rfl rfl
theorem s_Plan_123 : xVi "Tablature$Planner" 123 5 m_Plan_bestAt 2 := ⟨ok_Plan_bestAt, w_352, w_351, sel_9, TX6, 8, rfl⟩
theorem f_Plan_33 : xF "Tablature$Planner" 33 5 5 := ⟨RX6, TX6, 8, rfl, fun w hw => xWA_in (in_RX6 w hw).1 (in_RX6 w hw).2, by decide, w_306⟩
theorem w_353 : (Jvm.Cond.methodLink "Tablature$Planner" (126 : Nat) ({ cls := "Tablature$Planner", name := "moveCost", desc := "(III)I" } : Jvm.MethodName)) ∈ xWA := wd1 231 rfl rfl
theorem s_Plan_126 : xVi "Tablature$Planner" 126 5 m_Plan_moveCost 3 := ⟨ok_Plan_moveCost, w_353, w_121, w_122, TX6, 8, rfl⟩
theorem w_354 : (Jvm.Cond.fieldLink "Tablature$Planner" (129 : Nat) "Tablature$Grips" "efforts" "[I") ∈ xWA := wd3 107 rfl rfl
theorem f_Plan_129 : xF "Tablature$Planner" 129 1 1 := ⟨RX2, TX2, 4, rfl, fun w hw => xWA_in (in_RX2 w hw).1 (in_RX2 w hw).2, by decide, w_354⟩
theorem w_355 : (Jvm.Cond.methodLink "Tablature$Planner" (132 : Nat) ({ cls := "Tablature$Grips", name := "has", desc := "(I)Z" } : Jvm.MethodName)) ∈ xWA := wd1 235 rfl rfl
theorem s_Plan_132 : xVi "Tablature$Planner" 132 1 m_Grips_has 1 := ⟨ok_Grips_has, w_355, w_179, w_180, TX2, 4, rfl⟩
theorem w_356 : (Jvm.Cond.fieldLink "Tablature$Planner" (135 : Nat) "Tablature$Grips" "lows" "[I") ∈ xWA := wd3 110 rfl rfl
theorem f_Plan_135 : xF "Tablature$Planner" 135 1 2 := ⟨RX2, TX2, 4, rfl, fun w hw => xWA_in (in_RX2 w hw).1 (in_RX2 w hw).2, by decide, w_356⟩
theorem w_357 : (Jvm.Cond.fieldLink "Tablature$Planner" (138 : Nat) "Tablature$Grips" "codes" "[I") ∈ xWA := wd3 104 rfl rfl
theorem f_Plan_138 : xF "Tablature$Planner" 138 1 0 := ⟨RX2, TX2, 4, rfl, fun w hw => xWA_in (in_RX2 w hw).1 (in_RX2 w hw).2, by decide, w_357⟩
theorem w_358 : (Jvm.Cond.code ({ cls := "Tablature$GripCode", name := "newlyPressed", desc := "(II)I" } : Jvm.MethodName) prog_3_method_4_code (5 : Nat) (Option.some Jvm.ClassFile.FieldType.int)) ∈ xWA := wd2 1 rfl rfl
theorem ok_Code_newlyPressed : xOk "" m_Code_newlyPressed 2 := ⟨w_358, w_112, ⟨by decide +kernel, by decide +kernel⟩, by decide +kernel⟩
theorem w_359 : (Jvm.Cond.static ({ cls := "Tablature$GripCode", name := "newlyPressed", desc := "(II)I" } : Jvm.MethodName)) ∈ xWA := wd2 0 rfl rfl
theorem w_360 : (Jvm.Cond.methodLink "Tablature$Planner" (141 : Nat) ({ cls := "Tablature$GripCode", name := "newlyPressed", desc := "(II)I" } : Jvm.MethodName)) ∈ xWA := wd1 239 rfl rfl
theorem s_Plan_141 : xS "Tablature$Planner" 141 m_Code_newlyPressed 2 := ⟨ok_Code_newlyPressed, w_360, w_359⟩
theorem w_361 : (Jvm.Cond.methodLink "Tablature$Planner" (144 : Nat) ({ cls := "java/lang/Math", name := "abs", desc := "(I)I" } : Jvm.MethodName)) ∈ xWA := wd2 3 rfl rfl
theorem s_Plan_144 : (Jvm.Cond.methodLink "Tablature$Planner" (144 : Nat) ({ cls := "java/lang/Math", name := "abs", desc := "(I)I" } : Jvm.MethodName)) ∈ xWA := w_361
theorem w_362 : (Jvm.Cond.methodLink "Tablature$Planner" (147 : Nat) ({ cls := "java/lang/Integer", name := "bitCount", desc := "(I)I" } : Jvm.MethodName)) ∈ xWA := wd2 6 rfl rfl
theorem s_Plan_147 : xS "Tablature$Planner" 147 m_Integer_bitCount 1 := ⟨ok_Integer_bitCount, w_362, w_236⟩
theorem f_Plan_24 : xF "Tablature$Planner" 24 5 3 := ⟨RX6, TX6, 8, rfl, fun w hw => xWA_in (in_RX6 w hw).1 (in_RX6 w hw).2, by decide, w_303⟩
theorem w_363 : (Jvm.Cond.methodLink "Tablature$Shapes" (3 : Nat) ({ cls := "java/lang/Object", name := "<init>", desc := "()V" } : Jvm.MethodName)) ∈ xWA := wd3 156 rfl rfl
theorem s_Shapes_3 : (Jvm.Cond.methodLink "Tablature$Shapes" (3 : Nat) ({ cls := "java/lang/Object", name := "<init>", desc := "()V" } : Jvm.MethodName)) ∈ xWA := w_363
theorem w_364 : (Jvm.Cond.fieldLink "Tablature$Shapes" (9 : Nat) "Tablature$Shapes" "count" "I") ∈ xWA := wd3 159 rfl rfl
theorem p_Shapes_9 : xP "Tablature$Shapes" 9 6 0 .int false := ⟨RX7, TX7, 8, tyX7, rfl, fun w hw => xWA_in (in_RX7 w hw).1 (in_RX7 w hw).2, by decide, w_364, tyX7_ok, nmX7, rfl, by decide +kernel, Or.inl rfl⟩
theorem w_365 : (Jvm.Cond.fieldLink "Tablature$Shapes" (15 : Nat) "Tablature$Shapes" "bestEffort" "I") ∈ xWA := wd3 161 rfl rfl
theorem p_Shapes_15 : xP "Tablature$Shapes" 15 6 1 .int false := ⟨RX7, TX7, 8, tyX7, rfl, fun w hw => xWA_in (in_RX7 w hw).1 (in_RX7 w hw).2, by decide, w_365, tyX7_ok, nmX7, rfl, by decide +kernel, Or.inl rfl⟩
theorem w_366 : (Jvm.Cond.fieldLink "Tablature$Shapes" (18 : Nat) "Tablature$Shapes" "bestSounding" "I") ∈ xWA := wd3 163 rfl rfl
theorem p_Shapes_18 : xP "Tablature$Shapes" 18 6 2 .int false := ⟨RX7, TX7, 8, tyX7, rfl, fun w hw => xWA_in (in_RX7 w hw).1 (in_RX7 w hw).2, by decide, w_366, tyX7_ok, nmX7, rfl, by decide +kernel, Or.inl rfl⟩
theorem w_367 : (Jvm.Cond.fieldLink "Tablature$Shapes" (23 : Nat) "Tablature$Shapes" "bestCode" "I") ∈ xWA := wd3 164 rfl rfl
theorem p_Shapes_23 : xP "Tablature$Shapes" 23 6 3 .int false := ⟨RX7, TX7, 8, tyX7, rfl, fun w hw => xWA_in (in_RX7 w hw).1 (in_RX7 w hw).2, by decide, w_367, tyX7_ok, nmX7, rfl, by decide +kernel, Or.inl rfl⟩
theorem w_368 : (Jvm.Cond.fieldLink "Tablature$Shapes" (26 : Nat) "Tablature$Shapes" "classes" "I") ∈ xWA := wd3 165 rfl rfl
theorem p_Shapes_26 : xP "Tablature$Shapes" 26 6 4 .int false := ⟨RX7, TX7, 8, tyX7, rfl, fun w hw => xWA_in (in_RX7 w hw).1 (in_RX7 w hw).2, by decide, w_368, tyX7_ok, nmX7, rfl, by decide +kernel, Or.inl rfl⟩
theorem w_369 : (Jvm.Cond.fieldLink "Tablature$Shapes" (29 : Nat) "Tablature$Shapes" "bass" "I") ∈ xWA := wd3 166 rfl rfl
theorem p_Shapes_29 : xP "Tablature$Shapes" 29 6 5 .int false := ⟨RX7, TX7, 8, tyX7, rfl, fun w hw => xWA_in (in_RX7 w hw).1 (in_RX7 w hw).2, by decide, w_369, tyX7_ok, nmX7, rfl, by decide +kernel, Or.inl rfl⟩
theorem w_370 : (Jvm.Cond.fieldLink "Tablature$Shapes" (32 : Nat) "Tablature$Shapes" "fromFret" "I") ∈ xWA := wd3 167 rfl rfl
theorem p_Shapes_32 : xP "Tablature$Shapes" 32 6 6 .int false := ⟨RX7, TX7, 8, tyX7, rfl, fun w hw => xWA_in (in_RX7 w hw).1 (in_RX7 w hw).2, by decide, w_370, tyX7_ok, nmX7, rfl, by decide +kernel, Or.inl rfl⟩
theorem w_371 : (Jvm.Cond.classLink "Tablature$Shapes" (35 : Nat) "Tablature$Hand") ∈ xWA := wd3 157 rfl rfl
theorem n_Shapes_35 : xNw "Tablature$Shapes" 35 2 8 [vi 0, vi 0, vi 0, vi 0, .null, vi 0, vi 0, vi 0] := ⟨RX3, TX3, tyX3, rfl, fun w hw => xWA_in (in_RX3 w hw).1 (in_RX3 w hw).2, tyX3_ok, w_371, w_30, w_31, by decide +kernel⟩
theorem s_Shapes_37 : xIN "Tablature$Shapes" 37 "Tablature" m_Hand_init 0 := ⟨ok_Hand_init, by decide +kernel, w_33, rfl, rfl⟩
theorem w_372 : (Jvm.Cond.fieldLink "Tablature$Shapes" (38 : Nat) "Tablature$Shapes" "hand" "LTablature$Hand;") ∈ xWA := wd3 168 rfl rfl
theorem p_Shapes_38 : xP "Tablature$Shapes" 38 6 7 (.object "Tablature$Hand") true := ⟨RX7, TX7, 8, tyX7, rfl, fun w hw => xWA_in (in_RX7 w hw).1 (in_RX7 w hw).2, by decide, w_372, tyX7_ok, nmX7, rfl, by decide +kernel, Or.inr rfl⟩
theorem f_Shapes_26 : xF "Tablature$Shapes" 26 6 4 := ⟨RX7, TX7, 8, rfl, fun w hw => xWA_in (in_RX7 w hw).1 (in_RX7 w hw).2, by decide, w_368⟩
theorem f_Shapes_29 : xF "Tablature$Shapes" 29 6 5 := ⟨RX7, TX7, 8, rfl, fun w hw => xWA_in (in_RX7 w hw).1 (in_RX7 w hw).2, by decide, w_369⟩
theorem f_Shapes_32 : xF "Tablature$Shapes" 32 6 6 := ⟨RX7, TX7, 8, rfl, fun w hw => xWA_in (in_RX7 w hw).1 (in_RX7 w hw).2, by decide, w_370⟩
theorem w_373 : (Jvm.Cond.code ({ cls := "Tablature$Shapes", name := "place", desc := "(LTablature$Shapes;LTablature$Instrument;IIII)V" } : Jvm.MethodName) prog_9_method_6_code (12 : Nat) (Option.none : Option Jvm.ClassFile.FieldType)) ∈ xWA := wd2 117 rfl rfl
theorem ok_Shapes_place : xOk "" m_Shapes_place 6 := ⟨w_373, w_25, ⟨by decide +kernel, by decide +kernel⟩, by decide +kernel⟩
theorem w_374 : (Jvm.Cond.static ({ cls := "Tablature$Shapes", name := "place", desc := "(LTablature$Shapes;LTablature$Instrument;IIII)V" } : Jvm.MethodName)) ∈ xWA := wd2 116 rfl rfl
theorem w_375 : (Jvm.Cond.methodLink "Tablature$Shapes" (42 : Nat) ({ cls := "Tablature$Shapes", name := "place", desc := "(LTablature$Shapes;LTablature$Instrument;IIII)V" } : Jvm.MethodName)) ∈ xWA := wd2 115 rfl rfl
theorem s_Shapes_42 : xS "Tablature$Shapes" 42 m_Shapes_place 6 := ⟨ok_Shapes_place, w_375, w_374⟩
theorem f_Shapes_23 : xF "Tablature$Shapes" 23 6 3 := ⟨RX7, TX7, 8, rfl, fun w hw => xWA_in (in_RX7 w hw).1 (in_RX7 w hw).2, by decide, w_367⟩
theorem w_376 : (Jvm.Cond.methodLink "Tablature$Shapes" (46 : Nat) ({ cls := "Tablature$GripCode", name := "fretAt", desc := "(II)I" } : Jvm.MethodName)) ∈ xWA := wd2 150 rfl rfl
theorem s_Shapes_46 : xS "Tablature$Shapes" 46 m_Code_fretAt 2 := ⟨ok_Code_fretAt, w_376, w_114⟩
theorem w_377 : (Jvm.Cond.fieldLink "Tablature$Shapes" (50 : Nat) "Tablature$Instrument" "reach" "I") ∈ xWA := wd2 235 rfl rfl
theorem f_Shapes_50 : xF "Tablature$Shapes" 50 3 4 := ⟨RX4, TX4, 5, rfl, fun w hw => xWA_in (in_RX4 w hw).1 (in_RX4 w hw).2, by decide, w_377⟩
theorem w_378 : (Jvm.Cond.code ({ cls := "Tablature$Shapes", name := "offer", desc := "(II)V" } : Jvm.MethodName) prog_9_method_7_code (3 : Nat) (Option.none : Option Jvm.ClassFile.FieldType)) ∈ xWA := wd2 122 rfl rfl
theorem ok_Shapes_offer : xOk "" m_Shapes_offer 2 := ⟨w_378, w_25, ⟨by decide +kernel, by decide +kernel⟩, by decide +kernel⟩
theorem w_379 : (Jvm.Cond.instanceMethod ({ cls := "Tablature$Shapes", name := "offer", desc := "(II)V" } : Jvm.MethodName)) ∈ xWA := wd2 120 rfl rfl
theorem sel_14 : Cond.selects m_Shapes_offer.1.cls m_Shapes_offer.1 m_Shapes_offer.1 ∈ xWA := xWA_in (List.mem_append_left _ (List.mem_of_getElem? (i := 14) (by decide +kernel))) rfl
theorem w_380 : (Jvm.Cond.methodLink "Tablature$Shapes" (55 : Nat) ({ cls := "Tablature$Shapes", name := "offer", desc := "(II)V" } : Jvm.MethodName)) ∈ xWA := wd2 118 rfl rfl
theorem s_Shapes_55 : xVi "Tablature$Shapes" 55 6 m_Shapes_offer 2 := ⟨ok_Shapes_offer, w_380, w_379, sel_14, TX7, 8, rfl⟩
theorem w_381 : (Jvm.Cond.methodLink "Tablature$Shapes" (59 : Nat) ({ cls := "Tablature$Instrument", name := "isUsed", desc := "(I)Z" } : Jvm.MethodName)) ∈ xWA := wd2 130 rfl rfl
theorem s_Shapes_59 : xVi "Tablature$Shapes" 59 3 m_Instr_isUsed 1 := ⟨ok_Instr_isUsed, w_381, w_279, w_280, TX4, 5, rfl⟩
theorem w_382 : (Jvm.Cond.methodLink "Tablature$Shapes" (63 : Nat) ({ cls := "Tablature$Instrument", name := "lastFret", desc := "()I" } : Jvm.MethodName)) ∈ xWA := wd2 131 rfl rfl
theorem s_Shapes_63 : xVi "Tablature$Shapes" 63 3 m_Instr_lastFret 0 := ⟨ok_Instr_lastFret, w_382, w_283, w_284, TX4, 5, rfl⟩
theorem w_383 : (Jvm.Cond.methodLink "Tablature$Shapes" (67 : Nat) ({ cls := "java/lang/Math", name := "min", desc := "(II)I" } : Jvm.MethodName)) ∈ xWA := wd2 132 rfl rfl
theorem s_Shapes_67 : (Jvm.Cond.methodLink "Tablature$Shapes" (67 : Nat) ({ cls := "java/lang/Math", name := "min", desc := "(II)I" } : Jvm.MethodName)) ∈ xWA := w_383
theorem w_384 : (Jvm.Cond.code ({ cls := "Tablature$Instrument", name := "pitchOf", desc := "(II)I" } : Jvm.MethodName) prog_6_method_7_code (3 : Nat) (Option.some Jvm.ClassFile.FieldType.int)) ∈ xWA := wd2 136 rfl rfl
theorem ok_Instr_pitchOf : xOk "" m_Instr_pitchOf 2 := ⟨w_384, w_3, ⟨by decide +kernel, by decide +kernel⟩, by decide +kernel⟩
theorem w_385 : (Jvm.Cond.instanceMethod ({ cls := "Tablature$Instrument", name := "pitchOf", desc := "(II)I" } : Jvm.MethodName)) ∈ xWA := wd2 134 rfl rfl
theorem w_386 : (Jvm.Cond.selects "Tablature$Instrument" ({ cls := "Tablature$Instrument", name := "pitchOf", desc := "(II)I" } : Jvm.MethodName) ({ cls := "Tablature$Instrument", name := "pitchOf", desc := "(II)I" } : Jvm.MethodName)) ∈ xWA := wd2 135 rfl rfl
theorem w_387 : (Jvm.Cond.methodLink "Tablature$Shapes" (72 : Nat) ({ cls := "Tablature$Instrument", name := "pitchOf", desc := "(II)I" } : Jvm.MethodName)) ∈ xWA := wd2 133 rfl rfl
theorem s_Shapes_72 : xVi "Tablature$Shapes" 72 3 m_Instr_pitchOf 2 := ⟨ok_Instr_pitchOf, w_387, w_385, w_386, TX4, 5, rfl⟩
theorem w_388 : (Jvm.Cond.methodLink "Tablature$Shapes" (75 : Nat) ({ cls := "Tablature$GripCode", name := "with", desc := "(III)I" } : Jvm.MethodName)) ∈ xWA := wd2 137 rfl rfl
theorem s_Shapes_75 : xS "Tablature$Shapes" 75 m_Code_with 3 := ⟨ok_Code_with, w_388, w_347⟩
theorem f_Shapes_38 : xF "Tablature$Shapes" 38 6 7 := ⟨RX7, TX7, 8, rfl, fun w hw => xWA_in (in_RX7 w hw).1 (in_RX7 w hw).2, by decide, w_372⟩
theorem w_389 : (Jvm.Cond.methodLink "Tablature$Shapes" (79 : Nat) ({ cls := "Tablature$Hand", name := "hold", desc := "(I)V" } : Jvm.MethodName)) ∈ xWA := wd2 123 rfl rfl
theorem s_Shapes_79 : xVi "Tablature$Shapes" 79 2 m_Hand_hold 1 := ⟨ok_Hand_hold, w_389, w_106, w_107, TX3, 8, rfl⟩
theorem w_390 : (Jvm.Cond.methodLink "Tablature$Shapes" (83 : Nat) ({ cls := "Tablature$Hand", name := "isPlayable", desc := "(I)Z" } : Jvm.MethodName)) ∈ xWA := wd2 124 rfl rfl
theorem s_Shapes_83 : xVi "Tablature$Shapes" 83 2 m_Hand_isPlayable 1 := ⟨ok_Hand_isPlayable, w_390, w_330, w_331, TX3, 8, rfl⟩
theorem f_Shapes_9 : xF "Tablature$Shapes" 9 6 0 := ⟨RX7, TX7, 8, rfl, fun w hw => xWA_in (in_RX7 w hw).1 (in_RX7 w hw).2, by decide, w_364⟩
theorem f_Shapes_15 : xF "Tablature$Shapes" 15 6 1 := ⟨RX7, TX7, 8, rfl, fun w hw => xWA_in (in_RX7 w hw).1 (in_RX7 w hw).2, by decide, w_365⟩
theorem w_391 : (Jvm.Cond.methodLink "Tablature$Shapes" (86 : Nat) ({ cls := "Tablature$Hand", name := "effort", desc := "()I" } : Jvm.MethodName)) ∈ xWA := wd2 125 rfl rfl
theorem s_Shapes_86 : xVi "Tablature$Shapes" 86 2 m_Hand_effort 0 := ⟨ok_Hand_effort, w_391, w_210, w_211, TX3, 8, rfl⟩
theorem w_392 : (Jvm.Cond.code ({ cls := "Tablature$Shapes", name := "isBetter", desc := "(II)Z" } : Jvm.MethodName) prog_9_method_8_code (3 : Nat) (Option.some Jvm.ClassFile.FieldType.boolean)) ∈ xWA := wd2 129 rfl rfl
theorem ok_Shapes_isBetter : xOk "" m_Shapes_isBetter 2 := ⟨w_392, w_25, ⟨by decide +kernel, by decide +kernel⟩, by decide +kernel⟩
theorem w_393 : (Jvm.Cond.instanceMethod ({ cls := "Tablature$Shapes", name := "isBetter", desc := "(II)Z" } : Jvm.MethodName)) ∈ xWA := wd2 128 rfl rfl
theorem sel_15 : Cond.selects m_Shapes_isBetter.1.cls m_Shapes_isBetter.1 m_Shapes_isBetter.1 ∈ xWA := xWA_in (List.mem_append_left _ (List.mem_of_getElem? (i := 15) (by decide +kernel))) rfl
theorem w_394 : (Jvm.Cond.methodLink "Tablature$Shapes" (89 : Nat) ({ cls := "Tablature$Shapes", name := "isBetter", desc := "(II)Z" } : Jvm.MethodName)) ∈ xWA := wd2 126 rfl rfl
theorem s_Shapes_89 : xVi "Tablature$Shapes" 89 6 m_Shapes_isBetter 2 := ⟨ok_Shapes_isBetter, w_394, w_393, sel_15, TX7, 8, rfl⟩
theorem w_395 : (Jvm.Cond.fieldLink "Tablature$Shapes" (93 : Nat) "Tablature$Hand" "sounding" "I") ∈ xWA := wd3 73 rfl rfl
theorem f_Shapes_93 : xF "Tablature$Shapes" 93 2 2 := ⟨RX3, TX3, 8, rfl, fun w hw => xWA_in (in_RX3 w hw).1 (in_RX3 w hw).2, by decide, w_395⟩
theorem f_Shapes_18 : xF "Tablature$Shapes" 18 6 2 := ⟨RX7, TX7, 8, rfl, fun w hw => xWA_in (in_RX7 w hw).1 (in_RX7 w hw).2, by decide, w_366⟩
theorem w_396 : (Jvm.Cond.constant "TablatureLaw" (7 : Nat) (2147483647 : Int32)) ∈ xWA := wd4 23 rfl rfl
theorem k_Law_7 : (Jvm.Cond.constant "TablatureLaw" (7 : Nat) (2147483647 : Int32)) ∈ xWA := w_396
theorem w_397 : (Jvm.Cond.constant "TablatureLaw" (8 : Nat) (790386105 : Int32)) ∈ xWA := wd4 19 rfl rfl
theorem k_Law_8 : (Jvm.Cond.constant "TablatureLaw" (8 : Nat) (790386105 : Int32)) ∈ xWA := w_397
theorem w_398 : (Jvm.Cond.classLink "TablatureLaw" (9 : Nat) "TablatureLaw$Neck") ∈ xWA := wd2 206 rfl rfl
theorem w_399 : (Jvm.Cond.instantiable "TablatureLaw$Neck" (11 : Nat)) ∈ xWA := wd2 207 rfl rfl
theorem w_400 : (Jvm.Cond.initialized "TablatureLaw$Neck") ∈ xWA := wd1 1 rfl rfl
theorem n_Law_9 : xNw "TablatureLaw" 9 8 11 [.null, .null, vi 0, .null, .null, vi 0, vi 0, .null, .null, .null, .null] := ⟨RX9, TX9, tyX9, rfl, fun w hw => xWA_in (in_RX9 w hw).1 (in_RX9 w hw).2, tyX9_ok, w_398, w_399, w_400, by decide +kernel⟩
theorem w_401 : (Jvm.Cond.code ({ cls := "TablatureLaw$Neck", name := "<init>", desc := "([II)V" } : Jvm.MethodName) prog_11_method_1_code (3 : Nat) (Option.none : Option Jvm.ClassFile.FieldType)) ∈ xWA := wd2 210 rfl rfl
theorem ok_Neck_init : xOk "" m_Neck_init 2 := ⟨w_401, w_400, ⟨by decide +kernel, by decide +kernel⟩, by decide +kernel⟩
theorem w_402 : (Jvm.Cond.instanceMethod ({ cls := "TablatureLaw$Neck", name := "<init>", desc := "([II)V" } : Jvm.MethodName)) ∈ xWA := wd2 209 rfl rfl
theorem w_403 : (Jvm.Cond.methodLink "TablatureLaw" (11 : Nat) ({ cls := "TablatureLaw$Neck", name := "<init>", desc := "([II)V" } : Jvm.MethodName)) ∈ xWA := wd2 208 rfl rfl
theorem s_Law_11 : xIn "TablatureLaw" 11 m_Neck_init 2 := ⟨ok_Neck_init, w_403, w_402, rfl, rfl⟩
theorem w_404 : (Jvm.Cond.fieldLink "TablatureLaw" (14 : Nat) "TablatureLaw$Neck" "m" "LTablature;") ∈ xWA := wd3 215 rfl rfl
theorem f_Law_14 : xF "TablatureLaw" 14 8 0 := ⟨RX9, TX9, 11, rfl, fun w hw => xWA_in (in_RX9 w hw).1 (in_RX9 w hw).2, by decide, w_404⟩
theorem w_405 : (Jvm.Cond.code ({ cls := "TablatureLaw$Neck", name := "draw", desc := "(I)I" } : Jvm.MethodName) prog_11_method_2_code (3 : Nat) (Option.some Jvm.ClassFile.FieldType.int)) ∈ xWA := wd4 15 rfl rfl
theorem ok_Neck_draw : xOk "" m_Neck_draw 1 := ⟨w_405, w_400, ⟨by decide +kernel, by decide +kernel⟩, by decide +kernel⟩
theorem w_406 : (Jvm.Cond.instanceMethod ({ cls := "TablatureLaw$Neck", name := "draw", desc := "(I)I" } : Jvm.MethodName)) ∈ xWA := wd4 13 rfl rfl
theorem w_407 : (Jvm.Cond.selects "TablatureLaw$Neck" ({ cls := "TablatureLaw$Neck", name := "draw", desc := "(I)I" } : Jvm.MethodName) ({ cls := "TablatureLaw$Neck", name := "draw", desc := "(I)I" } : Jvm.MethodName)) ∈ xWA := wd4 14 rfl rfl
theorem w_408 : (Jvm.Cond.methodLink "TablatureLaw" (18 : Nat) ({ cls := "TablatureLaw$Neck", name := "draw", desc := "(I)I" } : Jvm.MethodName)) ∈ xWA := wd4 12 rfl rfl
theorem s_Law_18 : xVi "TablatureLaw" 18 8 m_Neck_draw 1 := ⟨ok_Neck_draw, w_408, w_406, w_407, TX9, 11, rfl⟩
theorem w_409 : (Jvm.Cond.code ({ cls := "TablatureLaw$Neck", name := "found", desc := "(II)Z" } : Jvm.MethodName) prog_11_method_25_code (4 : Nat) (Option.some Jvm.ClassFile.FieldType.boolean)) ∈ xWA := wd4 139 rfl rfl
theorem ok_Neck_found : xOk "" m_Neck_found 2 := ⟨w_409, w_400, ⟨by decide +kernel, by decide +kernel⟩, by decide +kernel⟩
theorem w_410 : (Jvm.Cond.instanceMethod ({ cls := "TablatureLaw$Neck", name := "found", desc := "(II)Z" } : Jvm.MethodName)) ∈ xWA := wd4 137 rfl rfl
theorem w_411 : (Jvm.Cond.selects "TablatureLaw$Neck" ({ cls := "TablatureLaw$Neck", name := "found", desc := "(II)Z" } : Jvm.MethodName) ({ cls := "TablatureLaw$Neck", name := "found", desc := "(II)Z" } : Jvm.MethodName)) ∈ xWA := wd4 138 rfl rfl
theorem w_412 : (Jvm.Cond.methodLink "TablatureLaw" (22 : Nat) ({ cls := "TablatureLaw$Neck", name := "found", desc := "(II)Z" } : Jvm.MethodName)) ∈ xWA := wd4 136 rfl rfl
theorem s_Law_22 : xVi "TablatureLaw" 22 8 m_Neck_found 2 := ⟨ok_Neck_found, w_412, w_410, w_411, TX9, 11, rfl⟩
theorem w_413 : (Jvm.Cond.code ({ cls := "TablatureLaw$Neck", name := "change", desc := "()Z" } : Jvm.MethodName) prog_11_method_8_code (5 : Nat) (Option.some Jvm.ClassFile.FieldType.boolean)) ∈ xWA := wd4 87 rfl rfl
theorem ok_Neck_change : xOk "" m_Neck_change 0 := ⟨w_413, w_400, ⟨by decide +kernel, by decide +kernel⟩, by decide +kernel⟩
theorem w_414 : (Jvm.Cond.instanceMethod ({ cls := "TablatureLaw$Neck", name := "change", desc := "()Z" } : Jvm.MethodName)) ∈ xWA := wd4 85 rfl rfl
theorem w_415 : (Jvm.Cond.selects "TablatureLaw$Neck" ({ cls := "TablatureLaw$Neck", name := "change", desc := "()Z" } : Jvm.MethodName) ({ cls := "TablatureLaw$Neck", name := "change", desc := "()Z" } : Jvm.MethodName)) ∈ xWA := wd4 86 rfl rfl
theorem w_416 : (Jvm.Cond.methodLink "TablatureLaw" (26 : Nat) ({ cls := "TablatureLaw$Neck", name := "change", desc := "()Z" } : Jvm.MethodName)) ∈ xWA := wd4 84 rfl rfl
theorem s_Law_26 : xVi "TablatureLaw" 26 8 m_Neck_change 0 := ⟨ok_Neck_change, w_416, w_414, w_415, TX9, 11, rfl⟩
theorem w_417 : (Jvm.Cond.code ({ cls := "TablatureLaw$Neck", name := "fix", desc := "()Z" } : Jvm.MethodName) prog_11_method_20_code (4 : Nat) (Option.some Jvm.ClassFile.FieldType.boolean)) ∈ xWA := wd4 102 rfl rfl
theorem ok_Neck_fix : xOk "" m_Neck_fix 0 := ⟨w_417, w_400, ⟨by decide +kernel, by decide +kernel⟩, by decide +kernel⟩
theorem w_418 : (Jvm.Cond.instanceMethod ({ cls := "TablatureLaw$Neck", name := "fix", desc := "()Z" } : Jvm.MethodName)) ∈ xWA := wd4 100 rfl rfl
theorem w_419 : (Jvm.Cond.selects "TablatureLaw$Neck" ({ cls := "TablatureLaw$Neck", name := "fix", desc := "()Z" } : Jvm.MethodName) ({ cls := "TablatureLaw$Neck", name := "fix", desc := "()Z" } : Jvm.MethodName)) ∈ xWA := wd4 101 rfl rfl
theorem w_420 : (Jvm.Cond.methodLink "TablatureLaw" (30 : Nat) ({ cls := "TablatureLaw$Neck", name := "fix", desc := "()Z" } : Jvm.MethodName)) ∈ xWA := wd4 99 rfl rfl
theorem s_Law_30 : xVi "TablatureLaw" 30 8 m_Neck_fix 0 := ⟨ok_Neck_fix, w_420, w_418, w_419, TX9, 11, rfl⟩
theorem w_421 : (Jvm.Cond.code ({ cls := "TablatureLaw$Neck", name := "chord", desc := "()Z" } : Jvm.MethodName) prog_11_method_6_code (6 : Nat) (Option.some Jvm.ClassFile.FieldType.boolean)) ∈ xWA := wd4 27 rfl rfl
theorem ok_Neck_chord : xOk "" m_Neck_chord 0 := ⟨w_421, w_400, ⟨by decide +kernel, by decide +kernel⟩, by decide +kernel⟩
theorem w_422 : (Jvm.Cond.instanceMethod ({ cls := "TablatureLaw$Neck", name := "chord", desc := "()Z" } : Jvm.MethodName)) ∈ xWA := wd4 25 rfl rfl
theorem w_423 : (Jvm.Cond.selects "TablatureLaw$Neck" ({ cls := "TablatureLaw$Neck", name := "chord", desc := "()Z" } : Jvm.MethodName) ({ cls := "TablatureLaw$Neck", name := "chord", desc := "()Z" } : Jvm.MethodName)) ∈ xWA := wd4 26 rfl rfl
theorem w_424 : (Jvm.Cond.methodLink "TablatureLaw" (33 : Nat) ({ cls := "TablatureLaw$Neck", name := "chord", desc := "()Z" } : Jvm.MethodName)) ∈ xWA := wd4 24 rfl rfl
theorem s_Law_33 : xVi "TablatureLaw" 33 8 m_Neck_chord 0 := ⟨ok_Neck_chord, w_424, w_422, w_423, TX9, 11, rfl⟩
theorem w_425 : (Jvm.Cond.code ({ cls := "Tablature", name := "digest", desc := "()J" } : Jvm.MethodName) prog_1_method_28_code (4 : Nat) (Option.some Jvm.ClassFile.FieldType.long)) ∈ xWA := wd2 186 rfl rfl
theorem ok_Tab_digest : xOk "" m_Tab_digest 0 := ⟨w_425, w_36, ⟨by decide +kernel, by decide +kernel⟩, by decide +kernel⟩
theorem w_426 : (Jvm.Cond.instanceMethod ({ cls := "Tablature", name := "digest", desc := "()J" } : Jvm.MethodName)) ∈ xWA := wd2 184 rfl rfl
theorem w_427 : (Jvm.Cond.selects "Tablature" ({ cls := "Tablature", name := "digest", desc := "()J" } : Jvm.MethodName) ({ cls := "Tablature", name := "digest", desc := "()J" } : Jvm.MethodName)) ∈ xWA := wd2 185 rfl rfl
theorem w_428 : (Jvm.Cond.methodLink "TablatureLaw" (36 : Nat) ({ cls := "Tablature", name := "digest", desc := "()J" } : Jvm.MethodName)) ∈ xWA := wd2 183 rfl rfl
theorem s_Law_36 : xVi "TablatureLaw" 36 7 m_Tab_digest 0 := ⟨ok_Tab_digest, w_428, w_426, w_427, TX8, 8, rfl⟩
theorem w_429 : (Jvm.Cond.code ({ cls := "Tablature", name := "many", desc := "(I)I" } : Jvm.MethodName) prog_1_method_19_code (2 : Nat) (Option.some Jvm.ClassFile.FieldType.int)) ∈ xWA := wd2 78 rfl rfl
theorem ok_Tab_many : xOk "" m_Tab_many 1 := ⟨w_429, w_36, ⟨by decide +kernel, by decide +kernel⟩, by decide +kernel⟩
theorem w_430 : (Jvm.Cond.instanceMethod ({ cls := "Tablature", name := "many", desc := "(I)I" } : Jvm.MethodName)) ∈ xWA := wd2 76 rfl rfl
theorem w_431 : (Jvm.Cond.selects "Tablature" ({ cls := "Tablature", name := "many", desc := "(I)I" } : Jvm.MethodName) ({ cls := "Tablature", name := "many", desc := "(I)I" } : Jvm.MethodName)) ∈ xWA := wd2 77 rfl rfl
theorem w_432 : (Jvm.Cond.methodLink "TablatureLaw" (42 : Nat) ({ cls := "Tablature", name := "many", desc := "(I)I" } : Jvm.MethodName)) ∈ xWA := wd2 75 rfl rfl
theorem s_Law_42 : xVi "TablatureLaw" 42 7 m_Tab_many 1 := ⟨ok_Tab_many, w_432, w_430, w_431, TX8, 8, rfl⟩
theorem w_433 : (Jvm.Cond.code ({ cls := "Tablature", name := "total", desc := "()I" } : Jvm.MethodName) prog_1_method_17_code (1 : Nat) (Option.some Jvm.ClassFile.FieldType.int)) ∈ xWA := wd2 74 rfl rfl
theorem ok_Tab_total : xOk "" m_Tab_total 0 := ⟨w_433, w_36, ⟨by decide +kernel, by decide +kernel⟩, by decide +kernel⟩
theorem w_434 : (Jvm.Cond.instanceMethod ({ cls := "Tablature", name := "total", desc := "()I" } : Jvm.MethodName)) ∈ xWA := wd2 72 rfl rfl
theorem w_435 : (Jvm.Cond.selects "Tablature" ({ cls := "Tablature", name := "total", desc := "()I" } : Jvm.MethodName) ({ cls := "Tablature", name := "total", desc := "()I" } : Jvm.MethodName)) ∈ xWA := wd2 73 rfl rfl
theorem w_436 : (Jvm.Cond.methodLink "TablatureLaw" (45 : Nat) ({ cls := "Tablature", name := "total", desc := "()I" } : Jvm.MethodName)) ∈ xWA := wd2 71 rfl rfl
theorem s_Law_45 : xVi "TablatureLaw" 45 7 m_Tab_total 0 := ⟨ok_Tab_total, w_436, w_434, w_435, TX8, 8, rfl⟩
theorem w_437 : (Jvm.Cond.code ({ cls := "Tablature", name := "ofChord", desc := "(II)I" } : Jvm.MethodName) prog_1_method_11_code (3 : Nat) (Option.some Jvm.ClassFile.FieldType.int)) ∈ xWA := wd2 17 rfl rfl
theorem ok_Tab_ofChord : xOk "" m_Tab_ofChord 2 := ⟨w_437, w_36, ⟨by decide +kernel, by decide +kernel⟩, by decide +kernel⟩
theorem w_438 : (Jvm.Cond.instanceMethod ({ cls := "Tablature", name := "ofChord", desc := "(II)I" } : Jvm.MethodName)) ∈ xWA := wd2 15 rfl rfl
theorem w_439 : (Jvm.Cond.selects "Tablature" ({ cls := "Tablature", name := "ofChord", desc := "(II)I" } : Jvm.MethodName) ({ cls := "Tablature", name := "ofChord", desc := "(II)I" } : Jvm.MethodName)) ∈ xWA := wd2 16 rfl rfl
theorem w_440 : (Jvm.Cond.methodLink "TablatureLaw" (49 : Nat) ({ cls := "Tablature", name := "ofChord", desc := "(II)I" } : Jvm.MethodName)) ∈ xWA := wd2 14 rfl rfl
theorem s_Law_49 : xVi "TablatureLaw" 49 7 m_Tab_ofChord 2 := ⟨ok_Tab_ofChord, w_440, w_438, w_439, TX8, 8, rfl⟩
theorem w_441 : (Jvm.Cond.code ({ cls := "Tablature", name := "plan", desc := "(I)I" } : Jvm.MethodName) prog_1_method_16_code (2 : Nat) (Option.some Jvm.ClassFile.FieldType.int)) ∈ xWA := wd2 70 rfl rfl
theorem ok_Tab_plan : xOk "" m_Tab_plan 1 := ⟨w_441, w_36, ⟨by decide +kernel, by decide +kernel⟩, by decide +kernel⟩
theorem w_442 : (Jvm.Cond.instanceMethod ({ cls := "Tablature", name := "plan", desc := "(I)I" } : Jvm.MethodName)) ∈ xWA := wd2 68 rfl rfl
theorem w_443 : (Jvm.Cond.selects "Tablature" ({ cls := "Tablature", name := "plan", desc := "(I)I" } : Jvm.MethodName) ({ cls := "Tablature", name := "plan", desc := "(I)I" } : Jvm.MethodName)) ∈ xWA := wd2 69 rfl rfl
theorem w_444 : (Jvm.Cond.methodLink "TablatureLaw" (53 : Nat) ({ cls := "Tablature", name := "plan", desc := "(I)I" } : Jvm.MethodName)) ∈ xWA := wd2 67 rfl rfl
theorem s_Law_53 : xVi "TablatureLaw" 53 7 m_Tab_plan 1 := ⟨ok_Tab_plan, w_444, w_442, w_443, TX8, 8, rfl⟩
theorem w_445 : (Jvm.Cond.code ({ cls := "Tablature", name := "ofGrip", desc := "(III)I" } : Jvm.MethodName) prog_1_method_12_code (5 : Nat) (Option.some Jvm.ClassFile.FieldType.int)) ∈ xWA := wd2 41 rfl rfl
theorem ok_Tab_ofGrip : xOk "" m_Tab_ofGrip 3 := ⟨w_445, w_36, ⟨by decide +kernel, by decide +kernel⟩, by decide +kernel⟩
theorem w_446 : (Jvm.Cond.instanceMethod ({ cls := "Tablature", name := "ofGrip", desc := "(III)I" } : Jvm.MethodName)) ∈ xWA := wd2 39 rfl rfl
theorem w_447 : (Jvm.Cond.selects "Tablature" ({ cls := "Tablature", name := "ofGrip", desc := "(III)I" } : Jvm.MethodName) ({ cls := "Tablature", name := "ofGrip", desc := "(III)I" } : Jvm.MethodName)) ∈ xWA := wd2 40 rfl rfl
theorem w_448 : (Jvm.Cond.methodLink "TablatureLaw" (56 : Nat) ({ cls := "Tablature", name := "ofGrip", desc := "(III)I" } : Jvm.MethodName)) ∈ xWA := wd2 38 rfl rfl
theorem s_Law_56 : xVi "TablatureLaw" 56 7 m_Tab_ofGrip 3 := ⟨ok_Tab_ofGrip, w_448, w_446, w_447, TX8, 8, rfl⟩
theorem w_449 : (Jvm.Cond.code ({ cls := "Tablature", name := "move", desc := "(III)I" } : Jvm.MethodName) prog_1_method_15_code (4 : Nat) (Option.some Jvm.ClassFile.FieldType.int)) ∈ xWA := wd2 65 rfl rfl
theorem ok_Tab_move : xOk "" m_Tab_move 3 := ⟨w_449, w_36, ⟨by decide +kernel, by decide +kernel⟩, by decide +kernel⟩
theorem w_450 : (Jvm.Cond.instanceMethod ({ cls := "Tablature", name := "move", desc := "(III)I" } : Jvm.MethodName)) ∈ xWA := wd2 63 rfl rfl
theorem w_451 : (Jvm.Cond.selects "Tablature" ({ cls := "Tablature", name := "move", desc := "(III)I" } : Jvm.MethodName) ({ cls := "Tablature", name := "move", desc := "(III)I" } : Jvm.MethodName)) ∈ xWA := wd2 64 rfl rfl
theorem w_452 : (Jvm.Cond.methodLink "TablatureLaw" (60 : Nat) ({ cls := "Tablature", name := "move", desc := "(III)I" } : Jvm.MethodName)) ∈ xWA := wd2 62 rfl rfl
theorem s_Law_60 : xVi "TablatureLaw" 60 7 m_Tab_move 3 := ⟨ok_Tab_move, w_452, w_450, w_451, TX8, 8, rfl⟩
theorem w_453 : (Jvm.Cond.code ({ cls := "Tablature", name := "fret", desc := "(III)I" } : Jvm.MethodName) prog_1_method_13_code (5 : Nat) (Option.some Jvm.ClassFile.FieldType.int)) ∈ xWA := wd2 52 rfl rfl
theorem ok_Tab_fret : xOk "" m_Tab_fret 3 := ⟨w_453, w_36, ⟨by decide +kernel, by decide +kernel⟩, by decide +kernel⟩
theorem w_454 : (Jvm.Cond.instanceMethod ({ cls := "Tablature", name := "fret", desc := "(III)I" } : Jvm.MethodName)) ∈ xWA := wd2 50 rfl rfl
theorem w_455 : (Jvm.Cond.selects "Tablature" ({ cls := "Tablature", name := "fret", desc := "(III)I" } : Jvm.MethodName) ({ cls := "Tablature", name := "fret", desc := "(III)I" } : Jvm.MethodName)) ∈ xWA := wd2 51 rfl rfl
theorem w_456 : (Jvm.Cond.methodLink "TablatureLaw" (63 : Nat) ({ cls := "Tablature", name := "fret", desc := "(III)I" } : Jvm.MethodName)) ∈ xWA := wd2 49 rfl rfl
theorem s_Law_63 : xVi "TablatureLaw" 63 7 m_Tab_fret 3 := ⟨ok_Tab_fret, w_456, w_454, w_455, TX8, 8, rfl⟩
theorem w_457 : (Jvm.Cond.code ({ cls := "Tablature", name := "finger", desc := "(III)I" } : Jvm.MethodName) prog_1_method_14_code (5 : Nat) (Option.some Jvm.ClassFile.FieldType.int)) ∈ xWA := wd2 57 rfl rfl
theorem ok_Tab_finger : xOk "" m_Tab_finger 3 := ⟨w_457, w_36, ⟨by decide +kernel, by decide +kernel⟩, by decide +kernel⟩
theorem w_458 : (Jvm.Cond.instanceMethod ({ cls := "Tablature", name := "finger", desc := "(III)I" } : Jvm.MethodName)) ∈ xWA := wd2 55 rfl rfl
theorem w_459 : (Jvm.Cond.selects "Tablature" ({ cls := "Tablature", name := "finger", desc := "(III)I" } : Jvm.MethodName) ({ cls := "Tablature", name := "finger", desc := "(III)I" } : Jvm.MethodName)) ∈ xWA := wd2 56 rfl rfl
theorem w_460 : (Jvm.Cond.methodLink "TablatureLaw" (66 : Nat) ({ cls := "Tablature", name := "finger", desc := "(III)I" } : Jvm.MethodName)) ∈ xWA := wd2 54 rfl rfl
theorem s_Law_66 : xVi "TablatureLaw" 66 7 m_Tab_finger 3 := ⟨ok_Tab_finger, w_460, w_458, w_459, TX8, 8, rfl⟩
theorem w_461 : (Jvm.Cond.methodLink "TablatureLaw" (69 : Nat) ({ cls := "java/lang/Math", name := "max", desc := "(II)I" } : Jvm.MethodName)) ∈ xWA := wd4 154 rfl rfl
theorem s_Law_69 : (Jvm.Cond.methodLink "TablatureLaw" (69 : Nat) ({ cls := "java/lang/Math", name := "max", desc := "(II)I" } : Jvm.MethodName)) ∈ xWA := w_461
theorem w_462 : (Jvm.Cond.fieldLink "TablatureLaw" (74 : Nat) "TablatureLaw$Neck" "isSlack" "[Z") ∈ xWA := wd3 221 rfl rfl
theorem f_Law_74 : xF "TablatureLaw" 74 8 4 := ⟨RX9, TX9, 11, rfl, fun w hw => xWA_in (in_RX9 w hw).1 (in_RX9 w hw).2, by decide, w_462⟩
theorem w_463 : (Jvm.Cond.methodLink "TablatureLaw" (78 : Nat) ({ cls := "Tablature", name := "bestCapo", desc := "()I" } : Jvm.MethodName)) ∈ xWA := wd2 171 rfl rfl
theorem s_Law_78 : xVi "TablatureLaw" 78 7 m_Tab_bestCapo 0 := ⟨ok_Tab_bestCapo, w_463, w_169, w_170, TX8, 8, rfl⟩
theorem w_464 : (Jvm.Cond.code ({ cls := "Tablature", name := "totalWith", desc := "(II)I" } : Jvm.MethodName) prog_1_method_24_code (3 : Nat) (Option.some Jvm.ClassFile.FieldType.int)) ∈ xWA := wd2 154 rfl rfl
theorem ok_Tab_totalWith : xOk "" m_Tab_totalWith 2 := ⟨w_464, w_36, ⟨by decide +kernel, by decide +kernel⟩, by decide +kernel⟩
theorem w_465 : (Jvm.Cond.instanceMethod ({ cls := "Tablature", name := "totalWith", desc := "(II)I" } : Jvm.MethodName)) ∈ xWA := wd2 152 rfl rfl
theorem w_466 : (Jvm.Cond.selects "Tablature" ({ cls := "Tablature", name := "totalWith", desc := "(II)I" } : Jvm.MethodName) ({ cls := "Tablature", name := "totalWith", desc := "(II)I" } : Jvm.MethodName)) ∈ xWA := wd2 153 rfl rfl
theorem w_467 : (Jvm.Cond.methodLink "TablatureLaw" (81 : Nat) ({ cls := "Tablature", name := "totalWith", desc := "(II)I" } : Jvm.MethodName)) ∈ xWA := wd2 151 rfl rfl
theorem s_Law_81 : xVi "TablatureLaw" 81 7 m_Tab_totalWith 2 := ⟨ok_Tab_totalWith, w_467, w_465, w_466, TX8, 8, rfl⟩
theorem w_468 : (Jvm.Cond.code ({ cls := "Tablature", name := "shapes", desc := "(III)I" } : Jvm.MethodName) prog_1_method_21_code (4 : Nat) (Option.some Jvm.ClassFile.FieldType.int)) ∈ xWA := wd2 95 rfl rfl
theorem ok_Tab_shapes : xOk "" m_Tab_shapes 3 := ⟨w_468, w_36, ⟨by decide +kernel, by decide +kernel⟩, by decide +kernel⟩
theorem w_469 : (Jvm.Cond.instanceMethod ({ cls := "Tablature", name := "shapes", desc := "(III)I" } : Jvm.MethodName)) ∈ xWA := wd2 93 rfl rfl
theorem w_470 : (Jvm.Cond.selects "Tablature" ({ cls := "Tablature", name := "shapes", desc := "(III)I" } : Jvm.MethodName) ({ cls := "Tablature", name := "shapes", desc := "(III)I" } : Jvm.MethodName)) ∈ xWA := wd2 94 rfl rfl
theorem w_471 : (Jvm.Cond.methodLink "TablatureLaw" (84 : Nat) ({ cls := "Tablature", name := "shapes", desc := "(III)I" } : Jvm.MethodName)) ∈ xWA := wd2 92 rfl rfl
theorem s_Law_84 : xVi "TablatureLaw" 84 7 m_Tab_shapes 3 := ⟨ok_Tab_shapes, w_471, w_469, w_470, TX8, 8, rfl⟩
theorem w_472 : (Jvm.Cond.code ({ cls := "Tablature", name := "shapeEffort", desc := "(III)I" } : Jvm.MethodName) prog_1_method_22_code (4 : Nat) (Option.some Jvm.ClassFile.FieldType.int)) ∈ xWA := wd2 141 rfl rfl
theorem ok_Tab_shapeEffort : xOk "" m_Tab_shapeEffort 3 := ⟨w_472, w_36, ⟨by decide +kernel, by decide +kernel⟩, by decide +kernel⟩
theorem w_473 : (Jvm.Cond.instanceMethod ({ cls := "Tablature", name := "shapeEffort", desc := "(III)I" } : Jvm.MethodName)) ∈ xWA := wd2 139 rfl rfl
theorem w_474 : (Jvm.Cond.selects "Tablature" ({ cls := "Tablature", name := "shapeEffort", desc := "(III)I" } : Jvm.MethodName) ({ cls := "Tablature", name := "shapeEffort", desc := "(III)I" } : Jvm.MethodName)) ∈ xWA := wd2 140 rfl rfl
theorem w_475 : (Jvm.Cond.methodLink "TablatureLaw" (87 : Nat) ({ cls := "Tablature", name := "shapeEffort", desc := "(III)I" } : Jvm.MethodName)) ∈ xWA := wd2 138 rfl rfl
theorem s_Law_87 : xVi "TablatureLaw" 87 7 m_Tab_shapeEffort 3 := ⟨ok_Tab_shapeEffort, w_475, w_473, w_474, TX8, 8, rfl⟩
theorem w_476 : (Jvm.Cond.code ({ cls := "Tablature", name := "shapeFret", desc := "(IIII)I" } : Jvm.MethodName) prog_1_method_23_code (5 : Nat) (Option.some Jvm.ClassFile.FieldType.int)) ∈ xWA := wd2 145 rfl rfl
theorem ok_Tab_shapeFret : xOk "" m_Tab_shapeFret 4 := ⟨w_476, w_36, ⟨by decide +kernel, by decide +kernel⟩, by decide +kernel⟩
theorem w_477 : (Jvm.Cond.instanceMethod ({ cls := "Tablature", name := "shapeFret", desc := "(IIII)I" } : Jvm.MethodName)) ∈ xWA := wd2 143 rfl rfl
theorem w_478 : (Jvm.Cond.selects "Tablature" ({ cls := "Tablature", name := "shapeFret", desc := "(IIII)I" } : Jvm.MethodName) ({ cls := "Tablature", name := "shapeFret", desc := "(IIII)I" } : Jvm.MethodName)) ∈ xWA := wd2 144 rfl rfl
theorem w_479 : (Jvm.Cond.methodLink "TablatureLaw" (90 : Nat) ({ cls := "Tablature", name := "shapeFret", desc := "(IIII)I" } : Jvm.MethodName)) ∈ xWA := wd2 142 rfl rfl
theorem s_Law_90 : xVi "TablatureLaw" 90 7 m_Tab_shapeFret 4 := ⟨ok_Tab_shapeFret, w_479, w_477, w_478, TX8, 8, rfl⟩
theorem w_480 : (Jvm.Cond.fieldLink "TablatureLaw" (94 : Nat) "TablatureLaw$Neck" "open" "[I") ∈ xWA := wd3 219 rfl rfl
theorem f_Law_94 : xF "TablatureLaw" 94 8 3 := ⟨RX9, TX9, 11, rfl, fun w hw => xWA_in (in_RX9 w hw).1 (in_RX9 w hw).2, by decide, w_480⟩
theorem w_481 : (Jvm.Cond.methodLink "TablatureLaw" (98 : Nat) ({ cls := "java/lang/Math", name := "min", desc := "(II)I" } : Jvm.MethodName)) ∈ xWA := wd4 155 rfl rfl
theorem s_Law_98 : (Jvm.Cond.methodLink "TablatureLaw" (98 : Nat) ({ cls := "java/lang/Math", name := "min", desc := "(II)I" } : Jvm.MethodName)) ∈ xWA := w_481
theorem w_482 : (Jvm.Cond.code ({ cls := "Tablature", name := "tune", desc := "(II)I" } : Jvm.MethodName) prog_1_method_3_code (4 : Nat) (Option.some Jvm.ClassFile.FieldType.int)) ∈ xWA := wd1 23 rfl rfl
theorem ok_Tab_tune : xOk "" m_Tab_tune 2 := ⟨w_482, w_36, ⟨by decide +kernel, by decide +kernel⟩, by decide +kernel⟩
theorem w_483 : (Jvm.Cond.instanceMethod ({ cls := "Tablature", name := "tune", desc := "(II)I" } : Jvm.MethodName)) ∈ xWA := wd1 21 rfl rfl
theorem w_484 : (Jvm.Cond.selects "Tablature" ({ cls := "Tablature", name := "tune", desc := "(II)I" } : Jvm.MethodName) ({ cls := "Tablature", name := "tune", desc := "(II)I" } : Jvm.MethodName)) ∈ xWA := wd1 22 rfl rfl
theorem w_485 : (Jvm.Cond.methodLink "TablatureLaw" (101 : Nat) ({ cls := "Tablature", name := "tune", desc := "(II)I" } : Jvm.MethodName)) ∈ xWA := wd1 20 rfl rfl
theorem s_Law_101 : xVi "TablatureLaw" 101 7 m_Tab_tune 2 := ⟨ok_Tab_tune, w_485, w_483, w_484, TX8, 8, rfl⟩
theorem w_486 : (Jvm.Cond.methodLink "TablatureLaw" (104 : Nat) ({ cls := "Tablature", name := "totalWithout", desc := "(I)I" } : Jvm.MethodName)) ∈ xWA := wd2 175 rfl rfl
theorem s_Law_104 : xVi "TablatureLaw" 104 7 m_Tab_totalWithout 1 := ⟨ok_Tab_totalWithout, w_486, w_173, w_174, TX8, 8, rfl⟩
theorem w_487 : (Jvm.Cond.code ({ cls := "Tablature", name := "slacken", desc := "(IZ)I" } : Jvm.MethodName) prog_1_method_4_code (3 : Nat) (Option.some Jvm.ClassFile.FieldType.int)) ∈ xWA := wd1 129 rfl rfl
theorem ok_Tab_slacken : xOk "" m_Tab_slacken 2 := ⟨w_487, w_36, ⟨by decide +kernel, by decide +kernel⟩, by decide +kernel⟩
theorem w_488 : (Jvm.Cond.instanceMethod ({ cls := "Tablature", name := "slacken", desc := "(IZ)I" } : Jvm.MethodName)) ∈ xWA := wd1 127 rfl rfl
theorem w_489 : (Jvm.Cond.selects "Tablature" ({ cls := "Tablature", name := "slacken", desc := "(IZ)I" } : Jvm.MethodName) ({ cls := "Tablature", name := "slacken", desc := "(IZ)I" } : Jvm.MethodName)) ∈ xWA := wd1 128 rfl rfl
theorem w_490 : (Jvm.Cond.methodLink "TablatureLaw" (107 : Nat) ({ cls := "Tablature", name := "slacken", desc := "(IZ)I" } : Jvm.MethodName)) ∈ xWA := wd1 126 rfl rfl
theorem s_Law_107 : xVi "TablatureLaw" 107 7 m_Tab_slacken 2 := ⟨ok_Tab_slacken, w_490, w_488, w_489, TX8, 8, rfl⟩
theorem w_491 : (Jvm.Cond.fieldLink "TablatureLaw" (111 : Nat) "TablatureLaw$Neck" "fixed" "[[I") ∈ xWA := wd3 227 rfl rfl
theorem f_Law_111 : xF "TablatureLaw" 111 8 9 := ⟨RX9, TX9, 11, rfl, fun w hw => xWA_in (in_RX9 w hw).1 (in_RX9 w hw).2, by decide, w_491⟩
theorem w_492 : (Jvm.Cond.code ({ cls := "Tablature", name := "totalFixed", desc := "(II)I" } : Jvm.MethodName) prog_1_method_27_code (3 : Nat) (Option.some Jvm.ClassFile.FieldType.int)) ∈ xWA := wd2 182 rfl rfl
theorem ok_Tab_totalFixed : xOk "" m_Tab_totalFixed 2 := ⟨w_492, w_36, ⟨by decide +kernel, by decide +kernel⟩, by decide +kernel⟩
theorem w_493 : (Jvm.Cond.instanceMethod ({ cls := "Tablature", name := "totalFixed", desc := "(II)I" } : Jvm.MethodName)) ∈ xWA := wd2 180 rfl rfl
theorem w_494 : (Jvm.Cond.selects "Tablature" ({ cls := "Tablature", name := "totalFixed", desc := "(II)I" } : Jvm.MethodName) ({ cls := "Tablature", name := "totalFixed", desc := "(II)I" } : Jvm.MethodName)) ∈ xWA := wd2 181 rfl rfl
theorem w_495 : (Jvm.Cond.methodLink "TablatureLaw" (115 : Nat) ({ cls := "Tablature", name := "totalFixed", desc := "(II)I" } : Jvm.MethodName)) ∈ xWA := wd2 179 rfl rfl
theorem s_Law_115 : xVi "TablatureLaw" 115 7 m_Tab_totalFixed 2 := ⟨ok_Tab_totalFixed, w_495, w_493, w_494, TX8, 8, rfl⟩
theorem w_496 : (Jvm.Cond.code ({ cls := "Tablature", name := "fix", desc := "(II)I" } : Jvm.MethodName) prog_1_method_10_code (6 : Nat) (Option.some Jvm.ClassFile.FieldType.int)) ∈ xWA := wd1 137 rfl rfl
theorem ok_Tab_fix : xOk "" m_Tab_fix 2 := ⟨w_496, w_36, ⟨by decide +kernel, by decide +kernel⟩, by decide +kernel⟩
theorem w_497 : (Jvm.Cond.instanceMethod ({ cls := "Tablature", name := "fix", desc := "(II)I" } : Jvm.MethodName)) ∈ xWA := wd1 135 rfl rfl
theorem w_498 : (Jvm.Cond.selects "Tablature" ({ cls := "Tablature", name := "fix", desc := "(II)I" } : Jvm.MethodName) ({ cls := "Tablature", name := "fix", desc := "(II)I" } : Jvm.MethodName)) ∈ xWA := wd1 136 rfl rfl
theorem w_499 : (Jvm.Cond.methodLink "TablatureLaw" (118 : Nat) ({ cls := "Tablature", name := "fix", desc := "(II)I" } : Jvm.MethodName)) ∈ xWA := wd1 134 rfl rfl
theorem s_Law_118 : xVi "TablatureLaw" 118 7 m_Tab_fix 2 := ⟨ok_Tab_fix, w_499, w_497, w_498, TX8, 8, rfl⟩
theorem w_500 : (Jvm.Cond.methodLink "TablatureLaw$Neck" (1 : Nat) ({ cls := "java/lang/Object", name := "<init>", desc := "()V" } : Jvm.MethodName)) ∈ xWA := wd2 211 rfl rfl
theorem s_Neck_1 : (Jvm.Cond.methodLink "TablatureLaw$Neck" (1 : Nat) ({ cls := "java/lang/Object", name := "<init>", desc := "()V" } : Jvm.MethodName)) ∈ xWA := w_500
theorem w_501 : (Jvm.Cond.classLink "TablatureLaw$Neck" (7 : Nat) "Tablature") ∈ xWA := wd2 212 rfl rfl
theorem w_502 : (Jvm.Cond.instantiable "Tablature" (8 : Nat)) ∈ xWA := wd1 27 rfl rfl
theorem n_Neck_7 : xNw "TablatureLaw$Neck" 7 7 8 [.null, .null, .null, .null, .null, .null, .null, vi 0] := ⟨RX8, TX8, tyX8, rfl, fun w hw => xWA_in (in_RX8 w hw).1 (in_RX8 w hw).2, tyX8_ok, w_501, w_502, w_36, by decide +kernel⟩
theorem w_503 : (Jvm.Cond.code ({ cls := "Tablature", name := "<init>", desc := "()V" } : Jvm.MethodName) prog_1_method_1_code (1 : Nat) (Option.none : Option Jvm.ClassFile.FieldType)) ∈ xWA := wd2 215 rfl rfl
theorem ok_Tab_init : xOk "" m_Tab_init 0 := ⟨w_503, w_36, ⟨by decide +kernel, by decide +kernel⟩, by decide +kernel⟩
theorem w_504 : (Jvm.Cond.instanceMethod ({ cls := "Tablature", name := "<init>", desc := "()V" } : Jvm.MethodName)) ∈ xWA := wd2 214 rfl rfl
theorem w_505 : (Jvm.Cond.methodLink "TablatureLaw$Neck" (9 : Nat) ({ cls := "Tablature", name := "<init>", desc := "()V" } : Jvm.MethodName)) ∈ xWA := wd2 213 rfl rfl
theorem s_Neck_9 : xIn "TablatureLaw$Neck" 9 m_Tab_init 0 := ⟨ok_Tab_init, w_505, w_504, rfl, rfl⟩
theorem w_506 : (Jvm.Cond.fieldLink "TablatureLaw$Neck" (10 : Nat) "TablatureLaw$Neck" "m" "LTablature;") ∈ xWA := wd3 214 rfl rfl
theorem p_Neck_10 : xP "TablatureLaw$Neck" 10 8 0 (.object "Tablature") true := ⟨RX9, TX9, 11, tyX9, rfl, fun w hw => xWA_in (in_RX9 w hw).1 (in_RX9 w hw).2, by decide, w_506, tyX9_ok, nmX9, rfl, by decide +kernel, Or.inr rfl⟩
theorem w_507 : (Jvm.Cond.fieldLink "TablatureLaw$Neck" (16 : Nat) "TablatureLaw$Neck" "open" "[I") ∈ xWA := wd3 218 rfl rfl
theorem p_Neck_16 : xP "TablatureLaw$Neck" 16 8 3 (.array .int) false := ⟨RX9, TX9, 11, tyX9, rfl, fun w hw => xWA_in (in_RX9 w hw).1 (in_RX9 w hw).2, by decide, w_507, tyX9_ok, nmX9, rfl, by decide +kernel, Or.inl rfl⟩
theorem w_508 : (Jvm.Cond.fieldLink "TablatureLaw$Neck" (20 : Nat) "TablatureLaw$Neck" "isSlack" "[Z") ∈ xWA := wd3 220 rfl rfl
theorem p_Neck_20 : xP "TablatureLaw$Neck" 20 8 4 (.array .boolean) false := ⟨RX9, TX9, 11, tyX9, rfl, fun w hw => xWA_in (in_RX9 w hw).1 (in_RX9 w hw).2, by decide, w_508, tyX9_ok, nmX9, rfl, by decide +kernel, Or.inl rfl⟩
theorem w_509 : (Jvm.Cond.fieldLink "TablatureLaw$Neck" (24 : Nat) "TablatureLaw$Neck" "reach" "I") ∈ xWA := wd3 223 rfl rfl
theorem p_Neck_24 : xP "TablatureLaw$Neck" 24 8 6 .int false := ⟨RX9, TX9, 11, tyX9, rfl, fun w hw => xWA_in (in_RX9 w hw).1 (in_RX9 w hw).2, by decide, w_509, tyX9_ok, nmX9, rfl, by decide +kernel, Or.inl rfl⟩
theorem w_510 : (Jvm.Cond.classLink "TablatureLaw$Neck" (28 : Nat) "[I") ∈ xWA := wd3 213 rfl rfl
theorem a_Neck_28 : Cond.classLink "TablatureLaw$Neck" 28 "[I" ∈ xWA := w_510
theorem w_511 : (Jvm.Cond.fieldLink "TablatureLaw$Neck" (29 : Nat) "TablatureLaw$Neck" "chords" "[[I") ∈ xWA := wd3 224 rfl rfl
theorem p_Neck_29 : xP "TablatureLaw$Neck" 29 8 7 (.array (.array .int)) false := ⟨RX9, TX9, 11, tyX9, rfl, fun w hw => xWA_in (in_RX9 w hw).1 (in_RX9 w hw).2, by decide, w_511, tyX9_ok, nmX9, rfl, by decide +kernel, Or.inl rfl⟩
theorem w_512 : (Jvm.Cond.fieldLink "TablatureLaw$Neck" (33 : Nat) "TablatureLaw$Neck" "lengths" "[I") ∈ xWA := wd3 225 rfl rfl
theorem p_Neck_33 : xP "TablatureLaw$Neck" 33 8 8 (.array .int) false := ⟨RX9, TX9, 11, tyX9, rfl, fun w hw => xWA_in (in_RX9 w hw).1 (in_RX9 w hw).2, by decide, w_512, tyX9_ok, nmX9, rfl, by decide +kernel, Or.inl rfl⟩
theorem w_513 : (Jvm.Cond.fieldLink "TablatureLaw$Neck" (36 : Nat) "TablatureLaw$Neck" "fixed" "[[I") ∈ xWA := wd3 226 rfl rfl
theorem p_Neck_36 : xP "TablatureLaw$Neck" 36 8 9 (.array (.array .int)) false := ⟨RX9, TX9, 11, tyX9, rfl, fun w hw => xWA_in (in_RX9 w hw).1 (in_RX9 w hw).2, by decide, w_513, tyX9_ok, nmX9, rfl, by decide +kernel, Or.inl rfl⟩
theorem w_514 : (Jvm.Cond.fieldLink "TablatureLaw$Neck" (39 : Nat) "TablatureLaw$Neck" "found" "[[I") ∈ xWA := wd3 228 rfl rfl
theorem p_Neck_39 : xP "TablatureLaw$Neck" 39 8 10 (.array (.array .int)) false := ⟨RX9, TX9, 11, tyX9, rfl, fun w hw => xWA_in (in_RX9 w hw).1 (in_RX9 w hw).2, by decide, w_514, tyX9_ok, nmX9, rfl, by decide +kernel, Or.inl rfl⟩
theorem w_515 : (Jvm.Cond.fieldLink "TablatureLaw$Neck" (42 : Nat) "TablatureLaw$Neck" "s" "[I") ∈ xWA := wd3 216 rfl rfl
theorem p_Neck_42 : xP "TablatureLaw$Neck" 42 8 1 (.array .int) true := ⟨RX9, TX9, 11, tyX9, rfl, fun w hw => xWA_in (in_RX9 w hw).1 (in_RX9 w hw).2, by decide, w_515, tyX9_ok, nmX9, rfl, by decide +kernel, Or.inr rfl⟩
theorem w_516 : (Jvm.Cond.fieldLink "TablatureLaw$Neck" (45 : Nat) "TablatureLaw$Neck" "draws" "I") ∈ xWA := wd3 217 rfl rfl
theorem p_Neck_45 : xP "TablatureLaw$Neck" 45 8 2 .int false := ⟨RX9, TX9, 11, tyX9, rfl, fun w hw => xWA_in (in_RX9 w hw).1 (in_RX9 w hw).2, by decide, w_516, tyX9_ok, nmX9, rfl, by decide +kernel, Or.inl rfl⟩
theorem f_Neck_42 : xF "TablatureLaw$Neck" 42 8 1 := ⟨RX9, TX9, 11, rfl, fun w hw => xWA_in (in_RX9 w hw).1 (in_RX9 w hw).2, by decide, w_515⟩
theorem f_Neck_45 : xF "TablatureLaw$Neck" 45 8 2 := ⟨RX9, TX9, 11, rfl, fun w hw => xWA_in (in_RX9 w hw).1 (in_RX9 w hw).2, by decide, w_516⟩
theorem w_517 : (Jvm.Cond.initialized "TablatureLaw") ∈ xWA := wd1 0 rfl rfl
theorem w_518 : (Jvm.Cond.code ({ cls := "TablatureLaw", name := "cell", desc := "([II)I" } : Jvm.MethodName) method_3_code (2 : Nat) (Option.some Jvm.ClassFile.FieldType.int)) ∈ xWA := wd4 18 rfl rfl
theorem ok_Law_cell : xOk "" m_Law_cell 2 := ⟨w_518, w_517, ⟨by decide +kernel, by decide +kernel⟩, by decide +kernel⟩
theorem w_519 : (Jvm.Cond.static ({ cls := "TablatureLaw", name := "cell", desc := "([II)I" } : Jvm.MethodName)) ∈ xWA := wd4 17 rfl rfl
theorem s_Neck_48 : xSN "TablatureLaw$Neck" 48 "TablatureLaw" m_Law_cell 2 := ⟨ok_Law_cell, by decide +kernel, w_519⟩
theorem w_520 : (Jvm.Cond.code ({ cls := "TablatureLaw", name := "below", desc := "(II)I" } : Jvm.MethodName) method_2_code (2 : Nat) (Option.some Jvm.ClassFile.FieldType.int)) ∈ xWA := wd4 22 rfl rfl
theorem ok_Law_below : xOk "" m_Law_below 2 := ⟨w_520, w_517, ⟨by decide +kernel, by decide +kernel⟩, by decide +kernel⟩
theorem w_521 : (Jvm.Cond.static ({ cls := "TablatureLaw", name := "below", desc := "(II)I" } : Jvm.MethodName)) ∈ xWA := wd4 21 rfl rfl
theorem s_Neck_54 : xSN "TablatureLaw$Neck" 54 "TablatureLaw" m_Law_below 2 := ⟨ok_Law_below, by decide +kernel, w_521⟩
theorem w_522 : (Jvm.Cond.methodLink "TablatureLaw$Neck" (58 : Nat) ({ cls := "java/lang/System", name := "arraycopy", desc := "(Ljava/lang/Object;ILjava/lang/Object;II)V" } : Jvm.MethodName)) ∈ xWA := wd4 33 rfl rfl
theorem s_Neck_58 : (Jvm.Cond.methodLink "TablatureLaw$Neck" (58 : Nat) ({ cls := "java/lang/System", name := "arraycopy", desc := "(Ljava/lang/Object;ILjava/lang/Object;II)V" } : Jvm.MethodName)) ∈ xWA := w_522
theorem f_Neck_16 : xF "TablatureLaw$Neck" 16 8 3 := ⟨RX9, TX9, 11, rfl, fun w hw => xWA_in (in_RX9 w hw).1 (in_RX9 w hw).2, by decide, w_507⟩
theorem w_523 : (Jvm.Cond.methodLink "TablatureLaw$Neck" (64 : Nat) ({ cls := "TablatureLaw$Neck", name := "draw", desc := "(I)I" } : Jvm.MethodName)) ∈ xWA := wd4 28 rfl rfl
theorem s_Neck_64 : xVi "TablatureLaw$Neck" 64 8 m_Neck_draw 1 := ⟨ok_Neck_draw, w_523, w_406, w_407, TX9, 11, rfl⟩
theorem w_524 : (Jvm.Cond.methodLink "TablatureLaw$Neck" (68 : Nat) ({ cls := "java/lang/Math", name := "min", desc := "(II)I" } : Jvm.MethodName)) ∈ xWA := wd4 29 rfl rfl
theorem s_Neck_68 : (Jvm.Cond.methodLink "TablatureLaw$Neck" (68 : Nat) ({ cls := "java/lang/Math", name := "min", desc := "(II)I" } : Jvm.MethodName)) ∈ xWA := w_524
theorem w_525 : (Jvm.Cond.code ({ cls := "TablatureLaw$Neck", name := "plus", desc := "([II)[I" } : Jvm.MethodName) prog_11_method_3_code (3 : Nat) (Option.some (Jvm.ClassFile.FieldType.array Jvm.ClassFile.FieldType.int))) ∈ xWA := wd4 32 rfl rfl
theorem ok_Neck_plus : xOk "" m_Neck_plus 2 := ⟨w_525, w_400, ⟨by decide +kernel, by decide +kernel⟩, by decide +kernel⟩
theorem w_526 : (Jvm.Cond.static ({ cls := "TablatureLaw$Neck", name := "plus", desc := "([II)[I" } : Jvm.MethodName)) ∈ xWA := wd4 31 rfl rfl
theorem w_527 : (Jvm.Cond.methodLink "TablatureLaw$Neck" (73 : Nat) ({ cls := "TablatureLaw$Neck", name := "plus", desc := "([II)[I" } : Jvm.MethodName)) ∈ xWA := wd4 30 rfl rfl
theorem s_Neck_73 : xS "TablatureLaw$Neck" 73 m_Neck_plus 2 := ⟨ok_Neck_plus, w_527, w_526⟩
theorem f_Neck_36 : xF "TablatureLaw$Neck" 36 8 9 := ⟨RX9, TX9, 11, rfl, fun w hw => xWA_in (in_RX9 w hw).1 (in_RX9 w hw).2, by decide, w_513⟩
theorem f_Neck_10 : xF "TablatureLaw$Neck" 10 8 0 := ⟨RX9, TX9, 11, rfl, fun w hw => xWA_in (in_RX9 w hw).1 (in_RX9 w hw).2, by decide, w_506⟩
theorem w_528 : (Jvm.Cond.code ({ cls := "Tablature", name := "string", desc := "(I)I" } : Jvm.MethodName) prog_1_method_2_code (3 : Nat) (Option.some Jvm.ClassFile.FieldType.int)) ∈ xWA := wd4 147 rfl rfl
theorem ok_Tab_string : xOk "" m_Tab_string 1 := ⟨w_528, w_36, ⟨by decide +kernel, by decide +kernel⟩, by decide +kernel⟩
theorem w_529 : (Jvm.Cond.instanceMethod ({ cls := "Tablature", name := "string", desc := "(I)I" } : Jvm.MethodName)) ∈ xWA := wd4 145 rfl rfl
theorem w_530 : (Jvm.Cond.selects "Tablature" ({ cls := "Tablature", name := "string", desc := "(I)I" } : Jvm.MethodName) ({ cls := "Tablature", name := "string", desc := "(I)I" } : Jvm.MethodName)) ∈ xWA := wd4 146 rfl rfl
theorem w_531 : (Jvm.Cond.methodLink "TablatureLaw$Neck" (77 : Nat) ({ cls := "Tablature", name := "string", desc := "(I)I" } : Jvm.MethodName)) ∈ xWA := wd4 144 rfl rfl
theorem s_Neck_77 : xVi "TablatureLaw$Neck" 77 7 m_Tab_string 1 := ⟨ok_Tab_string, w_531, w_529, w_530, TX8, 8, rfl⟩
theorem f_Neck_29 : xF "TablatureLaw$Neck" 29 8 7 := ⟨RX9, TX9, 11, rfl, fun w hw => xWA_in (in_RX9 w hw).1 (in_RX9 w hw).2, by decide, w_511⟩
theorem w_532 : (Jvm.Cond.fieldLink "TablatureLaw$Neck" (80 : Nat) "TablatureLaw$Neck" "capo" "I") ∈ xWA := wd3 222 rfl rfl
theorem f_Neck_80 : xF "TablatureLaw$Neck" 80 8 5 := ⟨RX9, TX9, 11, rfl, fun w hw => xWA_in (in_RX9 w hw).1 (in_RX9 w hw).2, by decide, w_532⟩
theorem w_533 : (Jvm.Cond.code ({ cls := "TablatureLaw$Neck", name := "with", desc := "([[I[II)[[I" } : Jvm.MethodName) prog_11_method_4_code (4 : Nat) (Option.some (Jvm.ClassFile.FieldType.array (Jvm.ClassFile.FieldType.array Jvm.ClassFile.FieldType.int)))) ∈ xWA := wd4 38 rfl rfl
theorem ok_Neck_with : xOk "" m_Neck_with 3 := ⟨w_533, w_400, ⟨by decide +kernel, by decide +kernel⟩, by decide +kernel⟩
theorem w_534 : (Jvm.Cond.static ({ cls := "TablatureLaw$Neck", name := "with", desc := "([[I[II)[[I" } : Jvm.MethodName)) ∈ xWA := wd4 37 rfl rfl
theorem w_535 : (Jvm.Cond.methodLink "TablatureLaw$Neck" (83 : Nat) ({ cls := "TablatureLaw$Neck", name := "with", desc := "([[I[II)[[I" } : Jvm.MethodName)) ∈ xWA := wd4 36 rfl rfl
theorem s_Neck_83 : xS "TablatureLaw$Neck" 83 m_Neck_with 3 := ⟨ok_Neck_with, w_535, w_534⟩
theorem f_Neck_33 : xF "TablatureLaw$Neck" 33 8 8 := ⟨RX9, TX9, 11, rfl, fun w hw => xWA_in (in_RX9 w hw).1 (in_RX9 w hw).2, by decide, w_512⟩
theorem w_536 : (Jvm.Cond.code ({ cls := "Tablature", name := "chord", desc := "(IIIII)I" } : Jvm.MethodName) prog_1_method_8_code (7 : Nat) (Option.some Jvm.ClassFile.FieldType.int)) ∈ xWA := wd4 42 rfl rfl
theorem ok_Tab_chord : xOk "" m_Tab_chord 5 := ⟨w_536, w_36, ⟨by decide +kernel, by decide +kernel⟩, by decide +kernel⟩
theorem w_537 : (Jvm.Cond.instanceMethod ({ cls := "Tablature", name := "chord", desc := "(IIIII)I" } : Jvm.MethodName)) ∈ xWA := wd4 40 rfl rfl
theorem w_538 : (Jvm.Cond.selects "Tablature" ({ cls := "Tablature", name := "chord", desc := "(IIIII)I" } : Jvm.MethodName) ({ cls := "Tablature", name := "chord", desc := "(IIIII)I" } : Jvm.MethodName)) ∈ xWA := wd4 41 rfl rfl
theorem w_539 : (Jvm.Cond.methodLink "TablatureLaw$Neck" (87 : Nat) ({ cls := "Tablature", name := "chord", desc := "(IIIII)I" } : Jvm.MethodName)) ∈ xWA := wd4 39 rfl rfl
theorem s_Neck_87 : xVi "TablatureLaw$Neck" 87 7 m_Tab_chord 5 := ⟨ok_Tab_chord, w_539, w_537, w_538, TX8, 8, rfl⟩
theorem p_Neck_80 : xP "TablatureLaw$Neck" 80 8 5 .int false := ⟨RX9, TX9, 11, tyX9, rfl, fun w hw => xWA_in (in_RX9 w hw).1 (in_RX9 w hw).2, by decide, w_532, tyX9_ok, nmX9, rfl, by decide +kernel, Or.inl rfl⟩
theorem w_540 : (Jvm.Cond.code ({ cls := "Tablature", name := "capo", desc := "(I)I" } : Jvm.MethodName) prog_1_method_5_code (3 : Nat) (Option.some Jvm.ClassFile.FieldType.int)) ∈ xWA := wd4 91 rfl rfl
theorem ok_Tab_capo : xOk "" m_Tab_capo 1 := ⟨w_540, w_36, ⟨by decide +kernel, by decide +kernel⟩, by decide +kernel⟩
theorem w_541 : (Jvm.Cond.instanceMethod ({ cls := "Tablature", name := "capo", desc := "(I)I" } : Jvm.MethodName)) ∈ xWA := wd4 89 rfl rfl
theorem w_542 : (Jvm.Cond.selects "Tablature" ({ cls := "Tablature", name := "capo", desc := "(I)I" } : Jvm.MethodName) ({ cls := "Tablature", name := "capo", desc := "(I)I" } : Jvm.MethodName)) ∈ xWA := wd4 90 rfl rfl
theorem w_543 : (Jvm.Cond.methodLink "TablatureLaw$Neck" (94 : Nat) ({ cls := "Tablature", name := "capo", desc := "(I)I" } : Jvm.MethodName)) ∈ xWA := wd4 88 rfl rfl
theorem s_Neck_94 : xVi "TablatureLaw$Neck" 94 7 m_Tab_capo 1 := ⟨ok_Tab_capo, w_543, w_541, w_542, TX8, 8, rfl⟩
theorem f_Neck_24 : xF "TablatureLaw$Neck" 24 8 6 := ⟨RX9, TX9, 11, rfl, fun w hw => xWA_in (in_RX9 w hw).1 (in_RX9 w hw).2, by decide, w_509⟩
theorem w_544 : (Jvm.Cond.code ({ cls := "Tablature", name := "reach", desc := "(I)I" } : Jvm.MethodName) prog_1_method_6_code (3 : Nat) (Option.some Jvm.ClassFile.FieldType.int)) ∈ xWA := wd4 95 rfl rfl
theorem ok_Tab_reach : xOk "" m_Tab_reach 1 := ⟨w_544, w_36, ⟨by decide +kernel, by decide +kernel⟩, by decide +kernel⟩
theorem w_545 : (Jvm.Cond.instanceMethod ({ cls := "Tablature", name := "reach", desc := "(I)I" } : Jvm.MethodName)) ∈ xWA := wd4 93 rfl rfl
theorem w_546 : (Jvm.Cond.selects "Tablature" ({ cls := "Tablature", name := "reach", desc := "(I)I" } : Jvm.MethodName) ({ cls := "Tablature", name := "reach", desc := "(I)I" } : Jvm.MethodName)) ∈ xWA := wd4 94 rfl rfl
theorem w_547 : (Jvm.Cond.methodLink "TablatureLaw$Neck" (96 : Nat) ({ cls := "Tablature", name := "reach", desc := "(I)I" } : Jvm.MethodName)) ∈ xWA := wd4 92 rfl rfl
theorem s_Neck_96 : xVi "TablatureLaw$Neck" 96 7 m_Tab_reach 1 := ⟨ok_Tab_reach, w_547, w_545, w_546, TX8, 8, rfl⟩
theorem f_Neck_20 : xF "TablatureLaw$Neck" 20 8 4 := ⟨RX9, TX9, 11, rfl, fun w hw => xWA_in (in_RX9 w hw).1 (in_RX9 w hw).2, by decide, w_508⟩
theorem w_548 : (Jvm.Cond.methodLink "TablatureLaw$Neck" (98 : Nat) ({ cls := "Tablature", name := "slacken", desc := "(IZ)I" } : Jvm.MethodName)) ∈ xWA := wd4 96 rfl rfl
theorem s_Neck_98 : xVi "TablatureLaw$Neck" 98 7 m_Tab_slacken 2 := ⟨ok_Tab_slacken, w_548, w_488, w_489, TX8, 8, rfl⟩
theorem w_549 : (Jvm.Cond.methodLink "TablatureLaw$Neck" (102 : Nat) ({ cls := "java/lang/Math", name := "max", desc := "(II)I" } : Jvm.MethodName)) ∈ xWA := wd4 97 rfl rfl
theorem s_Neck_102 : (Jvm.Cond.methodLink "TablatureLaw$Neck" (102 : Nat) ({ cls := "java/lang/Math", name := "max", desc := "(II)I" } : Jvm.MethodName)) ∈ xWA := w_549
theorem w_550 : (Jvm.Cond.methodLink "TablatureLaw$Neck" (105 : Nat) ({ cls := "Tablature", name := "tune", desc := "(II)I" } : Jvm.MethodName)) ∈ xWA := wd4 98 rfl rfl
theorem s_Neck_105 : xVi "TablatureLaw$Neck" 105 7 m_Tab_tune 2 := ⟨ok_Tab_tune, w_550, w_483, w_484, TX8, 8, rfl⟩
theorem w_551 : (Jvm.Cond.code ({ cls := "TablatureLaw$Neck", name := "low", desc := "([I)I" } : Jvm.MethodName) prog_11_method_9_code (6 : Nat) (Option.some Jvm.ClassFile.FieldType.int)) ∈ xWA := wd4 116 rfl rfl
theorem ok_Neck_low : xOk "" m_Neck_low 1 := ⟨w_551, w_400, ⟨by decide +kernel, by decide +kernel⟩, by decide +kernel⟩
theorem w_552 : (Jvm.Cond.static ({ cls := "TablatureLaw$Neck", name := "low", desc := "([I)I" } : Jvm.MethodName)) ∈ xWA := wd4 115 rfl rfl
theorem w_553 : (Jvm.Cond.methodLink "TablatureLaw$Neck" (108 : Nat) ({ cls := "TablatureLaw$Neck", name := "low", desc := "([I)I" } : Jvm.MethodName)) ∈ xWA := wd4 114 rfl rfl
theorem s_Neck_108 : xS "TablatureLaw$Neck" 108 m_Neck_low 1 := ⟨ok_Neck_low, w_553, w_552⟩
theorem w_554 : (Jvm.Cond.code ({ cls := "TablatureLaw$Neck", name := "hasBarre", desc := "([I)Z" } : Jvm.MethodName) prog_11_method_11_code (6 : Nat) (Option.some Jvm.ClassFile.FieldType.boolean)) ∈ xWA := wd4 125 rfl rfl
theorem ok_Neck_hasBarre : xOk "" m_Neck_hasBarre 1 := ⟨w_554, w_400, ⟨by decide +kernel, by decide +kernel⟩, by decide +kernel⟩
theorem w_555 : (Jvm.Cond.static ({ cls := "TablatureLaw$Neck", name := "hasBarre", desc := "([I)Z" } : Jvm.MethodName)) ∈ xWA := wd4 124 rfl rfl
theorem w_556 : (Jvm.Cond.methodLink "TablatureLaw$Neck" (112 : Nat) ({ cls := "TablatureLaw$Neck", name := "hasBarre", desc := "([I)Z" } : Jvm.MethodName)) ∈ xWA := wd4 123 rfl rfl
theorem s_Neck_112 : xS "TablatureLaw$Neck" 112 m_Neck_hasBarre 1 := ⟨ok_Neck_hasBarre, w_556, w_555⟩
theorem w_557 : (Jvm.Cond.code ({ cls := "TablatureLaw$Neck", name := "fingers", desc := "([I)[I" } : Jvm.MethodName) prog_11_method_12_code (6 : Nat) (Option.some (Jvm.ClassFile.FieldType.array Jvm.ClassFile.FieldType.int))) ∈ xWA := wd4 122 rfl rfl
theorem ok_Neck_fingers : xOk "" m_Neck_fingers 1 := ⟨w_557, w_400, ⟨by decide +kernel, by decide +kernel⟩, by decide +kernel⟩
theorem w_558 : (Jvm.Cond.static ({ cls := "TablatureLaw$Neck", name := "fingers", desc := "([I)[I" } : Jvm.MethodName)) ∈ xWA := wd4 121 rfl rfl
theorem w_559 : (Jvm.Cond.methodLink "TablatureLaw$Neck" (116 : Nat) ({ cls := "TablatureLaw$Neck", name := "fingers", desc := "([I)[I" } : Jvm.MethodName)) ∈ xWA := wd4 120 rfl rfl
theorem s_Neck_116 : xS "TablatureLaw$Neck" 116 m_Neck_fingers 1 := ⟨ok_Neck_fingers, w_559, w_558⟩
theorem w_560 : (Jvm.Cond.code ({ cls := "TablatureLaw$Neck", name := "sounds", desc := "([I)I" } : Jvm.MethodName) prog_11_method_14_code (6 : Nat) (Option.some Jvm.ClassFile.FieldType.int)) ∈ xWA := wd4 131 rfl rfl
theorem ok_Neck_sounds : xOk "" m_Neck_sounds 1 := ⟨w_560, w_400, ⟨by decide +kernel, by decide +kernel⟩, by decide +kernel⟩
theorem w_561 : (Jvm.Cond.static ({ cls := "TablatureLaw$Neck", name := "sounds", desc := "([I)I" } : Jvm.MethodName)) ∈ xWA := wd4 130 rfl rfl
theorem w_562 : (Jvm.Cond.methodLink "TablatureLaw$Neck" (120 : Nat) ({ cls := "TablatureLaw$Neck", name := "sounds", desc := "([I)I" } : Jvm.MethodName)) ∈ xWA := wd4 129 rfl rfl
theorem s_Neck_120 : xS "TablatureLaw$Neck" 120 m_Neck_sounds 1 := ⟨ok_Neck_sounds, w_562, w_561⟩
theorem w_563 : (Jvm.Cond.code ({ cls := "TablatureLaw$Neck", name := "high", desc := "([I)I" } : Jvm.MethodName) prog_11_method_10_code (6 : Nat) (Option.some Jvm.ClassFile.FieldType.int)) ∈ xWA := wd4 113 rfl rfl
theorem ok_Neck_high : xOk "" m_Neck_high 1 := ⟨w_563, w_400, ⟨by decide +kernel, by decide +kernel⟩, by decide +kernel⟩
theorem w_564 : (Jvm.Cond.static ({ cls := "TablatureLaw$Neck", name := "high", desc := "([I)I" } : Jvm.MethodName)) ∈ xWA := wd4 112 rfl rfl
theorem w_565 : (Jvm.Cond.methodLink "TablatureLaw$Neck" (123 : Nat) ({ cls := "TablatureLaw$Neck", name := "high", desc := "([I)I" } : Jvm.MethodName)) ∈ xWA := wd4 111 rfl rfl
theorem s_Neck_123 : xS "TablatureLaw$Neck" 123 m_Neck_high 1 := ⟨ok_Neck_high, w_565, w_564⟩
theorem w_566 : (Jvm.Cond.code ({ cls := "TablatureLaw$Neck", name := "count", desc := "([I)I" } : Jvm.MethodName) prog_11_method_13_code (6 : Nat) (Option.some Jvm.ClassFile.FieldType.int)) ∈ xWA := wd4 119 rfl rfl
theorem ok_Neck_count : xOk "" m_Neck_count 1 := ⟨w_566, w_400, ⟨by decide +kernel, by decide +kernel⟩, by decide +kernel⟩
theorem w_567 : (Jvm.Cond.static ({ cls := "TablatureLaw$Neck", name := "count", desc := "([I)I" } : Jvm.MethodName)) ∈ xWA := wd4 118 rfl rfl
theorem w_568 : (Jvm.Cond.methodLink "TablatureLaw$Neck" (126 : Nat) ({ cls := "TablatureLaw$Neck", name := "count", desc := "([I)I" } : Jvm.MethodName)) ∈ xWA := wd4 117 rfl rfl
theorem s_Neck_126 : xS "TablatureLaw$Neck" 126 m_Neck_count 1 := ⟨ok_Neck_count, w_568, w_567⟩
theorem f_Neck_39 : xF "TablatureLaw$Neck" 39 8 10 := ⟨RX9, TX9, 11, rfl, fun w hw => xWA_in (in_RX9 w hw).1 (in_RX9 w hw).2, by decide, w_514⟩
theorem w_569 : (Jvm.Cond.code ({ cls := "TablatureLaw$Neck", name := "effort", desc := "([I)I" } : Jvm.MethodName) prog_11_method_15_code (4 : Nat) (Option.some Jvm.ClassFile.FieldType.int)) ∈ xWA := wd4 128 rfl rfl
theorem ok_Neck_effort : xOk "" m_Neck_effort 1 := ⟨w_569, w_400, ⟨by decide +kernel, by decide +kernel⟩, by decide +kernel⟩
theorem w_570 : (Jvm.Cond.static ({ cls := "TablatureLaw$Neck", name := "effort", desc := "([I)I" } : Jvm.MethodName)) ∈ xWA := wd4 127 rfl rfl
theorem w_571 : (Jvm.Cond.methodLink "TablatureLaw$Neck" (129 : Nat) ({ cls := "TablatureLaw$Neck", name := "effort", desc := "([I)I" } : Jvm.MethodName)) ∈ xWA := wd4 126 rfl rfl
theorem s_Neck_129 : xS "TablatureLaw$Neck" 129 m_Neck_effort 1 := ⟨ok_Neck_effort, w_571, w_570⟩
theorem w_572 : (Jvm.Cond.code ({ cls := "TablatureLaw$Neck", name := "isSmaller", desc := "([I[I)Z" } : Jvm.MethodName) prog_11_method_16_code (3 : Nat) (Option.some Jvm.ClassFile.FieldType.boolean)) ∈ xWA := wd4 134 rfl rfl
theorem ok_Neck_isSmaller : xOk "" m_Neck_isSmaller 2 := ⟨w_572, w_400, ⟨by decide +kernel, by decide +kernel⟩, by decide +kernel⟩
theorem w_573 : (Jvm.Cond.static ({ cls := "TablatureLaw$Neck", name := "isSmaller", desc := "([I[I)Z" } : Jvm.MethodName)) ∈ xWA := wd4 133 rfl rfl
theorem w_574 : (Jvm.Cond.methodLink "TablatureLaw$Neck" (132 : Nat) ({ cls := "TablatureLaw$Neck", name := "isSmaller", desc := "([I[I)Z" } : Jvm.MethodName)) ∈ xWA := wd4 132 rfl rfl
theorem s_Neck_132 : xS "TablatureLaw$Neck" 132 m_Neck_isSmaller 2 := ⟨ok_Neck_isSmaller, w_574, w_573⟩
theorem w_575 : (Jvm.Cond.code ({ cls := "TablatureLaw$Neck", name := "go", desc := "([I[III)V" } : Jvm.MethodName) prog_11_method_17_code (7 : Nat) (Option.none : Option Jvm.ClassFile.FieldType)) ∈ xWA := wd4 110 rfl rfl
theorem ok_Neck_go : xOk "" m_Neck_go 4 := ⟨w_575, w_400, ⟨by decide +kernel, by decide +kernel⟩, by decide +kernel⟩
theorem w_576 : (Jvm.Cond.instanceMethod ({ cls := "TablatureLaw$Neck", name := "go", desc := "([I[III)V" } : Jvm.MethodName)) ∈ xWA := wd4 109 rfl rfl
theorem sel_19 : Cond.selects m_Neck_go.1.cls m_Neck_go.1 m_Neck_go.1 ∈ xWA := xWA_in (List.mem_append_left _ (List.mem_of_getElem? (i := 19) (by decide +kernel))) rfl
theorem w_577 : (Jvm.Cond.methodLink "TablatureLaw$Neck" (136 : Nat) ({ cls := "TablatureLaw$Neck", name := "go", desc := "([I[III)V" } : Jvm.MethodName)) ∈ xWA := wd4 107 rfl rfl
theorem s_Neck_136 : xVi "TablatureLaw$Neck" 136 8 m_Neck_go 4 := ⟨ok_Neck_go, w_577, w_576, sel_19, TX9, 11, rfl⟩
theorem w_578 : (Jvm.Cond.code ({ cls := "TablatureLaw$Neck", name := "grips", desc := "(I)[[I" } : Jvm.MethodName) prog_11_method_18_code (3 : Nat) (Option.some (Jvm.ClassFile.FieldType.array (Jvm.ClassFile.FieldType.array Jvm.ClassFile.FieldType.int)))) ∈ xWA := wd4 106 rfl rfl
theorem ok_Neck_grips : xOk "" m_Neck_grips 1 := ⟨w_578, w_400, ⟨by decide +kernel, by decide +kernel⟩, by decide +kernel⟩
theorem w_579 : (Jvm.Cond.instanceMethod ({ cls := "TablatureLaw$Neck", name := "grips", desc := "(I)[[I" } : Jvm.MethodName)) ∈ xWA := wd4 104 rfl rfl
theorem w_580 : (Jvm.Cond.selects "TablatureLaw$Neck" ({ cls := "TablatureLaw$Neck", name := "grips", desc := "(I)[[I" } : Jvm.MethodName) ({ cls := "TablatureLaw$Neck", name := "grips", desc := "(I)[[I" } : Jvm.MethodName)) ∈ xWA := wd4 105 rfl rfl
theorem w_581 : (Jvm.Cond.methodLink "TablatureLaw$Neck" (140 : Nat) ({ cls := "TablatureLaw$Neck", name := "grips", desc := "(I)[[I" } : Jvm.MethodName)) ∈ xWA := wd4 103 rfl rfl
theorem s_Neck_140 : xVi "TablatureLaw$Neck" 140 8 m_Neck_grips 1 := ⟨ok_Neck_grips, w_581, w_579, w_580, TX9, 11, rfl⟩
theorem w_582 : (Jvm.Cond.methodLink "TablatureLaw$Neck" (144 : Nat) ({ cls := "Tablature", name := "fix", desc := "(II)I" } : Jvm.MethodName)) ∈ xWA := wd4 135 rfl rfl
theorem s_Neck_144 : xVi "TablatureLaw$Neck" 144 7 m_Tab_fix 2 := ⟨ok_Tab_fix, w_582, w_497, w_498, TX8, 8, rfl⟩
theorem w_583 : (Jvm.Cond.code ({ cls := "TablatureLaw$Neck", name := "string", desc := "()Z" } : Jvm.MethodName) prog_11_method_5_code (3 : Nat) (Option.some Jvm.ClassFile.FieldType.boolean)) ∈ xWA := wd4 143 rfl rfl
theorem ok_Neck_string : xOk "" m_Neck_string 0 := ⟨w_583, w_400, ⟨by decide +kernel, by decide +kernel⟩, by decide +kernel⟩
theorem w_584 : (Jvm.Cond.instanceMethod ({ cls := "TablatureLaw$Neck", name := "string", desc := "()Z" } : Jvm.MethodName)) ∈ xWA := wd4 141 rfl rfl
theorem w_585 : (Jvm.Cond.selects "TablatureLaw$Neck" ({ cls := "TablatureLaw$Neck", name := "string", desc := "()Z" } : Jvm.MethodName) ({ cls := "TablatureLaw$Neck", name := "string", desc := "()Z" } : Jvm.MethodName)) ∈ xWA := wd4 142 rfl rfl
theorem w_586 : (Jvm.Cond.methodLink "TablatureLaw$Neck" (166 : Nat) ({ cls := "TablatureLaw$Neck", name := "string", desc := "()Z" } : Jvm.MethodName)) ∈ xWA := wd4 140 rfl rfl
theorem s_Neck_166 : xVi "TablatureLaw$Neck" 166 8 m_Neck_string 0 := ⟨ok_Neck_string, w_586, w_584, w_585, TX9, 11, rfl⟩
theorem w_587 : (Jvm.Cond.methodLink "TablatureLaw$Neck" (169 : Nat) ({ cls := "TablatureLaw$Neck", name := "chord", desc := "()Z" } : Jvm.MethodName)) ∈ xWA := wd4 153 rfl rfl
theorem s_Neck_169 : xVi "TablatureLaw$Neck" 169 8 m_Neck_chord 0 := ⟨ok_Neck_chord, w_587, w_422, w_423, TX9, 11, rfl⟩
theorem w_588 : (Jvm.Cond.constant "java/lang/Integer" (265 : Nat) (1431655765 : Int32)) ∈ xWA := wd2 9 rfl rfl
theorem k_Integer_265 : (Jvm.Cond.constant "java/lang/Integer" (265 : Nat) (1431655765 : Int32)) ∈ xWA := w_588
theorem w_589 : (Jvm.Cond.constant "java/lang/Integer" (266 : Nat) (858993459 : Int32)) ∈ xWA := wd2 10 rfl rfl
theorem k_Integer_266 : (Jvm.Cond.constant "java/lang/Integer" (266 : Nat) (858993459 : Int32)) ∈ xWA := w_589
theorem w_590 : (Jvm.Cond.constant "java/lang/Integer" (267 : Nat) (252645135 : Int32)) ∈ xWA := wd2 11 rfl rfl
theorem k_Integer_267 : (Jvm.Cond.constant "java/lang/Integer" (267 : Nat) (252645135 : Int32)) ∈ xWA := w_590
theorem w_591 : (Jvm.Cond.instanceMethod ({ cls := "java/lang/Object", name := "<init>", desc := "()V" } : Jvm.MethodName)) ∈ xWA := wd1 55 rfl rfl
theorem o_inst : (Jvm.Cond.instanceMethod ({ cls := "java/lang/Object", name := "<init>", desc := "()V" } : Jvm.MethodName)) ∈ xWA := w_591
theorem w_592 : (Jvm.Cond.code ({ cls := "java/lang/Object", name := "<init>", desc := "()V" } : Jvm.MethodName) object_method_1_code (1 : Nat) (Option.none : Option Jvm.ClassFile.FieldType)) ∈ xWA := wd1 56 rfl rfl
theorem o_code : (Jvm.Cond.code ({ cls := "java/lang/Object", name := "<init>", desc := "()V" } : Jvm.MethodName) object_method_1_code (1 : Nat) (Option.none : Option Jvm.ClassFile.FieldType)) ∈ xWA := w_592
theorem w_593 : (Jvm.Cond.initialized "java/lang/Math") ∈ xWA := wd1 10 rfl rfl
theorem i_Math : (Jvm.Cond.initialized "java/lang/Math") ∈ xWA := w_593
theorem w_594 : (Jvm.Cond.initialized "java/lang/System") ∈ xWA := wd1 11 rfl rfl
theorem i_System : (Jvm.Cond.initialized "java/lang/System") ∈ xWA := w_594
theorem w_595 : (Jvm.Cond.static ({ cls := "java/lang/Math", name := "min", desc := "(II)I" } : Jvm.MethodName)) ∈ xWA := wd1 156 rfl rfl
theorem static_Math_min : (Jvm.Cond.static ({ cls := "java/lang/Math", name := "min", desc := "(II)I" } : Jvm.MethodName)) ∈ xWA := w_595
theorem w_596 : (Jvm.Cond.code ({ cls := "java/lang/Math", name := "min", desc := "(II)I" } : Jvm.MethodName) prog_18_method_69_code (2 : Nat) (Option.some Jvm.ClassFile.FieldType.int)) ∈ xWA := wd1 157 rfl rfl
theorem code_Math_min : (Jvm.Cond.code ({ cls := "java/lang/Math", name := "min", desc := "(II)I" } : Jvm.MethodName) prog_18_method_69_code (2 : Nat) (Option.some Jvm.ClassFile.FieldType.int)) ∈ xWA := w_596
theorem w_597 : (Jvm.Cond.static ({ cls := "java/lang/Math", name := "abs", desc := "(I)I" } : Jvm.MethodName)) ∈ xWA := wd2 4 rfl rfl
theorem static_Math_abs : (Jvm.Cond.static ({ cls := "java/lang/Math", name := "abs", desc := "(I)I" } : Jvm.MethodName)) ∈ xWA := w_597
theorem w_598 : (Jvm.Cond.code ({ cls := "java/lang/Math", name := "abs", desc := "(I)I" } : Jvm.MethodName) prog_18_method_59_code (1 : Nat) (Option.some Jvm.ClassFile.FieldType.int)) ∈ xWA := wd2 5 rfl rfl
theorem code_Math_abs : (Jvm.Cond.code ({ cls := "java/lang/Math", name := "abs", desc := "(I)I" } : Jvm.MethodName) prog_18_method_59_code (1 : Nat) (Option.some Jvm.ClassFile.FieldType.int)) ∈ xWA := w_598
theorem w_599 : (Jvm.Cond.static ({ cls := "java/lang/Math", name := "max", desc := "(II)I" } : Jvm.MethodName)) ∈ xWA := wd2 36 rfl rfl
theorem static_Math_max : (Jvm.Cond.static ({ cls := "java/lang/Math", name := "max", desc := "(II)I" } : Jvm.MethodName)) ∈ xWA := w_599
theorem w_600 : (Jvm.Cond.code ({ cls := "java/lang/Math", name := "max", desc := "(II)I" } : Jvm.MethodName) prog_18_method_65_code (2 : Nat) (Option.some Jvm.ClassFile.FieldType.int)) ∈ xWA := wd2 37 rfl rfl
theorem code_Math_max : (Jvm.Cond.code ({ cls := "java/lang/Math", name := "max", desc := "(II)I" } : Jvm.MethodName) prog_18_method_65_code (2 : Nat) (Option.some Jvm.ClassFile.FieldType.int)) ∈ xWA := w_600
theorem w_601 : (Jvm.Cond.static ({ cls := "java/lang/System", name := "arraycopy", desc := "(Ljava/lang/Object;ILjava/lang/Object;II)V" } : Jvm.MethodName)) ∈ xWA := wd4 34 rfl rfl
theorem static_System_arraycopy : (Jvm.Cond.static ({ cls := "java/lang/System", name := "arraycopy", desc := "(Ljava/lang/Object;ILjava/lang/Object;II)V" } : Jvm.MethodName)) ∈ xWA := w_601
theorem w_602 : (Jvm.Cond.native ({ cls := "java/lang/System", name := "arraycopy", desc := "(Ljava/lang/Object;ILjava/lang/Object;II)V" } : Jvm.MethodName)) ∈ xWA := wd4 35 rfl rfl
theorem native_System_arraycopy : (Jvm.Cond.native ({ cls := "java/lang/System", name := "arraycopy", desc := "(Ljava/lang/Object;ILjava/lang/Object;II)V" } : Jvm.MethodName)) ∈ xWA := w_602
-- (Jvm.Cond.arrayClass Jvm.ClassFile.FieldType.byte)
theorem arrayClass_byte : (Jvm.Cond.arrayClass Jvm.ClassFile.FieldType.byte) ∈ xWA := wd1 98 rfl rfl
-- (Jvm.Cond.arrayClass Jvm.ClassFile.FieldType.int)
theorem arrayClass_int : (Jvm.Cond.arrayClass Jvm.ClassFile.FieldType.int) ∈ xWA := wd3 7 rfl rfl
-- (Jvm.Cond.arrayClass Jvm.ClassFile.FieldType.boolean)
theorem arrayClass_boolean : (Jvm.Cond.arrayClass Jvm.ClassFile.FieldType.boolean) ∈ xWA := wd3 8 rfl rfl
