theorem wd1 {w : Cond} (i : Nat) (h : tables_1_1[i]? = some w) (g : goodWord w = true) : w ∈ xWA := xWA_in (List.mem_append_right _ (show w ∈ tables_1 from List.mem_append_left _ (List.mem_of_getElem? h))) g
theorem wd2 {w : Cond} (i : Nat) (h : tables_1_2[i]? = some w) (g : goodWord w = true) : w ∈ xWA := xWA_in (List.mem_append_right _ (show w ∈ tables_1 from List.mem_append_right _ (List.mem_append_left _ (List.mem_of_getElem? h)))) g
theorem wd3 {w : Cond} (i : Nat) (h : tables_1_3[i]? = some w) (g : goodWord w = true) : w ∈ xWA := xWA_in (List.mem_append_right _ (show w ∈ tables_1 from List.mem_append_right _ (List.mem_append_right _ (List.mem_append_left _ (List.mem_of_getElem? h))))) g
theorem wd4 {w : Cond} (i : Nat) (h : tables_1_4[i]? = some w) (g : goodWord w = true) : w ∈ xWA := xWA_in (List.mem_append_right _ (show w ∈ tables_1 from List.mem_append_right _ (List.mem_append_right _ (List.mem_append_right _ (List.mem_append_left _ (List.mem_of_getElem? h)))))) g
theorem wd5 {w : Cond} (i : Nat) (h : tables_1_5[i]? = some w) (g : goodWord w = true) : w ∈ xWA := xWA_in (List.mem_append_right _ (show w ∈ tables_1 from List.mem_append_right _ (List.mem_append_right _ (List.mem_append_right _ (List.mem_append_right _ (List.mem_of_getElem? h)))))) g
-- methods
abbrev m_Tab_init : xM := (⟨"Tablature", "<init>", "()V"⟩, prog_1_method_1_code, 1, none)
abbrev m_Instr_init : xM := (⟨"Tablature$Instrument", "<init>", "()V"⟩, prog_6_method_1_code, 1, none)
abbrev m_Piece_init : xM := (⟨"Tablature$Piece", "<init>", "()V"⟩, prog_7_method_1_code, 2, none)
abbrev m_Chord_init : xM := (⟨"Tablature$Chord", "<init>", "()V"⟩, prog_2_method_1_code, 1, none)
abbrev m_Plan_init : xM := (⟨"Tablature$Planner", "<init>", "()V"⟩, prog_8_method_1_code, 2, none)
abbrev m_Hand_init : xM := (⟨"Tablature$Hand", "<init>", "()V"⟩, prog_5_method_1_code, 1, none)
abbrev m_Grips_init : xM := (⟨"Tablature$Grips", "<init>", "()V"⟩, prog_4_method_1_code, 1, none)
abbrev m_Shapes_init : xM := (⟨"Tablature$Shapes", "<init>", "()V"⟩, prog_9_method_1_code, 1, none)
abbrev m_Tab_total : xM := (⟨"Tablature", "total", "()I"⟩, prog_1_method_17_code, 1, (some Jvm.ClassFile.FieldType.int))
abbrev m_Tab_refreshPlan : xM := (⟨"Tablature", "refreshPlan", "()V"⟩, prog_1_method_37_code, 1, none)
abbrev m_Plan_read : xM := (⟨"Tablature$Planner", "read", "(LTablature$Instrument;LTablature$Piece;)V"⟩, prog_8_method_2_code, 5, none)
abbrev m_Math_min : xM := (⟨"java/lang/Math", "min", "(II)I"⟩, prog_17_method_69_code, 2, (some Jvm.ClassFile.FieldType.int))
abbrev m_Plan_place : xM := (⟨"Tablature$Planner", "place", "(LTablature$Grips;LTablature$Hand;LTablature$Instrument;LTablature$Chord;II)V"⟩, prog_8_method_3_code, 8, none)
abbrev m_Hand_hold : xM := (⟨"Tablature$Hand", "hold", "(I)V"⟩, prog_5_method_2_code, 3, none)
abbrev m_Code_fretAt : xM := (⟨"Tablature$GripCode", "fretAt", "(II)I"⟩, prog_3_method_2_code, 2, (some Jvm.ClassFile.FieldType.int))
abbrev m_Hand_countSounding : xM := (⟨"Tablature$Hand", "countSounding", "()V"⟩, prog_5_method_3_code, 3, none)
abbrev m_Hand_countPressed : xM := (⟨"Tablature$Hand", "countPressed", "()V"⟩, prog_5_method_4_code, 3, none)
abbrev m_Hand_findBarre : xM := (⟨"Tablature$Hand", "findBarre", "()V"⟩, prog_5_method_5_code, 5, none)
abbrev m_Hand_isPlayable : xM := (⟨"Tablature$Hand", "isPlayable", "(I)Z"⟩, prog_5_method_7_code, 2, (some Jvm.ClassFile.FieldType.boolean))
abbrev m_Hand_fingerCount : xM := (⟨"Tablature$Hand", "fingerCount", "()I"⟩, prog_5_method_6_code, 1, (some Jvm.ClassFile.FieldType.int))
abbrev m_Hand_effort : xM := (⟨"Tablature$Hand", "effort", "()I"⟩, prog_5_method_8_code, 1, (some Jvm.ClassFile.FieldType.int))
abbrev m_Grips_insert : xM := (⟨"Tablature$Grips", "insert", "(III)V"⟩, prog_4_method_4_code, 6, none)
abbrev m_Instr_fretFor : xM := (⟨"Tablature$Instrument", "fretFor", "(II)I"⟩, prog_6_method_8_code, 4, (some Jvm.ClassFile.FieldType.int))
abbrev m_Instr_isUsed : xM := (⟨"Tablature$Instrument", "isUsed", "(I)Z"⟩, prog_6_method_5_code, 2, (some Jvm.ClassFile.FieldType.boolean))
abbrev m_Instr_lastFret : xM := (⟨"Tablature$Instrument", "lastFret", "()I"⟩, prog_6_method_6_code, 1, (some Jvm.ClassFile.FieldType.int))
abbrev m_Code_with : xM := (⟨"Tablature$GripCode", "with", "(III)I"⟩, prog_3_method_3_code, 3, (some Jvm.ClassFile.FieldType.int))
abbrev m_Grips_numberOf : xM := (⟨"Tablature$Grips", "numberOf", "(I)I"⟩, prog_4_method_3_code, 3, (some Jvm.ClassFile.FieldType.int))
abbrev m_Plan_solve : xM := (⟨"Tablature$Planner", "solve", "()V"⟩, prog_8_method_4_code, 5, none)
abbrev m_Plan_griplessCount : xM := (⟨"Tablature$Planner", "griplessCount", "()I"⟩, prog_8_method_9_code, 3, (some Jvm.ClassFile.FieldType.int))
abbrev m_Plan_bestAt : xM := (⟨"Tablature$Planner", "bestAt", "(II)I"⟩, prog_8_method_5_code, 7, (some Jvm.ClassFile.FieldType.int))
abbrev m_Plan_moveCost : xM := (⟨"Tablature$Planner", "moveCost", "(III)I"⟩, prog_8_method_6_code, 8, (some Jvm.ClassFile.FieldType.int))
abbrev m_Grips_has : xM := (⟨"Tablature$Grips", "has", "(I)Z"⟩, prog_4_method_2_code, 2, (some Jvm.ClassFile.FieldType.boolean))
abbrev m_Code_newlyPressed : xM := (⟨"Tablature$GripCode", "newlyPressed", "(II)I"⟩, prog_3_method_4_code, 5, (some Jvm.ClassFile.FieldType.int))
abbrev m_Math_abs : xM := (⟨"java/lang/Math", "abs", "(I)I"⟩, prog_17_method_59_code, 1, (some Jvm.ClassFile.FieldType.int))
abbrev m_Integer_bitCount : xM := (⟨"java/lang/Integer", "bitCount", "(I)I"⟩, prog_16_method_49_code, 1, (some Jvm.ClassFile.FieldType.int))
abbrev m_Tab_hardest : xM := (⟨"Tablature", "hardest", "()I"⟩, prog_1_method_18_code, 1, (some Jvm.ClassFile.FieldType.int))
abbrev m_Plan_hardestMove : xM := (⟨"Tablature$Planner", "hardestMove", "()I"⟩, prog_8_method_7_code, 5, (some Jvm.ClassFile.FieldType.int))
abbrev m_Tab_meanEffort : xM := (⟨"Tablature", "meanEffort", "()D"⟩, prog_1_method_20_code, 2, (some Jvm.ClassFile.FieldType.double))
abbrev m_Piece_sumOfLengths : xM := (⟨"Tablature$Piece", "sumOfLengths", "()I"⟩, prog_7_method_4_code, 3, (some Jvm.ClassFile.FieldType.int))
abbrev m_Tab_bestCapo : xM := (⟨"Tablature", "bestCapo", "()I"⟩, prog_1_method_25_code, 5, (some Jvm.ClassFile.FieldType.int))
abbrev m_Tab_totalUnder : xM := (⟨"Tablature", "totalUnder", "(II)I"⟩, prog_1_method_35_code, 3, (some Jvm.ClassFile.FieldType.int))
abbrev m_Instr_copy : xM := (⟨"Tablature$Instrument", "copy", "(LTablature$Instrument;)V"⟩, prog_6_method_3_code, 3, none)
abbrev m_Tab_digest : xM := (⟨"Tablature", "digest", "()J"⟩, prog_1_method_28_code, 4, (some Jvm.ClassFile.FieldType.long))
abbrev m_Tab_askWhole : xM := (⟨"Tablature", "askWhole", "(I)I"⟩, prog_1_method_32_code, 2, (some Jvm.ClassFile.FieldType.int))
abbrev m_Instr_slackCount : xM := (⟨"Tablature$Instrument", "slackCount", "()I"⟩, prog_6_method_4_code, 3, (some Jvm.ClassFile.FieldType.int))
abbrev m_Plan_fixedCount : xM := (⟨"Tablature$Planner", "fixedCount", "()I"⟩, prog_8_method_10_code, 3, (some Jvm.ClassFile.FieldType.int))
abbrev m_Plan_sumOfMoves : xM := (⟨"Tablature$Planner", "sumOfMoves", "()I"⟩, prog_8_method_8_code, 3, (some Jvm.ClassFile.FieldType.int))
abbrev m_Tab_mix : xM := (⟨"Tablature", "mix", "(JI)J"⟩, prog_1_method_31_code, 3, (some Jvm.ClassFile.FieldType.long))
abbrev m_Tab_mixChord : xM := (⟨"Tablature", "mixChord", "(JI)J"⟩, prog_1_method_29_code, 7, (some Jvm.ClassFile.FieldType.long))
abbrev m_Tab_askChord : xM := (⟨"Tablature", "askChord", "(II)I"⟩, prog_1_method_33_code, 4, (some Jvm.ClassFile.FieldType.int))
abbrev m_Chord_lowest : xM := (⟨"Tablature$Chord", "lowest", "()I"⟩, prog_2_method_4_code, 3, (some Jvm.ClassFile.FieldType.int))
abbrev m_Chord_highest : xM := (⟨"Tablature$Chord", "highest", "()I"⟩, prog_2_method_5_code, 3, (some Jvm.ClassFile.FieldType.int))
abbrev m_Math_max : xM := (⟨"java/lang/Math", "max", "(II)I"⟩, prog_17_method_65_code, 2, (some Jvm.ClassFile.FieldType.int))
abbrev m_Tab_mixGrip : xM := (⟨"Tablature", "mixGrip", "(JI)J"⟩, prog_1_method_30_code, 7, (some Jvm.ClassFile.FieldType.long))
abbrev m_Tab_askHand : xM := (⟨"Tablature", "askHand", "(I)I"⟩, prog_1_method_34_code, 2, (some Jvm.ClassFile.FieldType.int))
abbrev m_Hand_fingerOn : xM := (⟨"Tablature$Hand", "fingerOn", "(I)I"⟩, prog_5_method_9_code, 6, (some Jvm.ClassFile.FieldType.int))
abbrev m_Tab_totalWithout : xM := (⟨"Tablature", "totalWithout", "(I)I"⟩, prog_1_method_26_code, 2, (some Jvm.ClassFile.FieldType.int))
abbrev m_Tab_needString : xM := (⟨"Tablature", "needString", "(I)V"⟩, prog_1_method_39_code, 2, none)
abbrev m_Tab_freshVoicing : xM := (⟨"Tablature", "freshVoicing", "(III)LTablature$Shapes;"⟩, prog_1_method_38_code, 4, (some (Jvm.ClassFile.FieldType.object "Tablature$Shapes")))
abbrev m_Shapes_isOf : xM := (⟨"Tablature$Shapes", "isOf", "(III)Z"⟩, prog_9_method_3_code, 4, (some Jvm.ClassFile.FieldType.boolean))
abbrev m_Shapes_seek : xM := (⟨"Tablature$Shapes", "seek", "(LTablature$Instrument;III)V"⟩, prog_9_method_4_code, 5, none)
abbrev m_Shapes_place : xM := (⟨"Tablature$Shapes", "place", "(LTablature$Shapes;LTablature$Instrument;IIII)V"⟩, prog_9_method_6_code, 12, none)
abbrev m_Shapes_offer : xM := (⟨"Tablature$Shapes", "offer", "(II)V"⟩, prog_9_method_7_code, 3, none)
abbrev m_Shapes_isBetter : xM := (⟨"Tablature$Shapes", "isBetter", "(II)Z"⟩, prog_9_method_8_code, 3, (some Jvm.ClassFile.FieldType.boolean))
abbrev m_Instr_pitchOf : xM := (⟨"Tablature$Instrument", "pitchOf", "(II)I"⟩, prog_6_method_7_code, 3, (some Jvm.ClassFile.FieldType.int))
abbrev m_Tab_string : xM := (⟨"Tablature", "string", "(I)I"⟩, prog_1_method_2_code, 3, (some Jvm.ClassFile.FieldType.int))
abbrev m_Tab_needOpen : xM := (⟨"Tablature", "needOpen", "(I)V"⟩, prog_1_method_43_code, 1, none)
abbrev m_Instr_draw : xM := (⟨"Tablature$Instrument", "draw", "(I)I"⟩, prog_6_method_2_code, 2, (some Jvm.ClassFile.FieldType.int))
abbrev m_Tab_instrumentChanged : xM := (⟨"Tablature", "instrumentChanged", "()V"⟩, prog_1_method_36_code, 1, none)
abbrev m_Shapes_forget : xM := (⟨"Tablature$Shapes", "forget", "()V"⟩, prog_9_method_2_code, 1, none)
abbrev m_Tab_tune : xM := (⟨"Tablature", "tune", "(II)I"⟩, prog_1_method_3_code, 4, (some Jvm.ClassFile.FieldType.int))
abbrev m_Tab_slacken : xM := (⟨"Tablature", "slacken", "(IZ)I"⟩, prog_1_method_4_code, 3, (some Jvm.ClassFile.FieldType.int))
abbrev m_Tab_capo : xM := (⟨"Tablature", "capo", "(I)I"⟩, prog_1_method_5_code, 3, (some Jvm.ClassFile.FieldType.int))
abbrev m_Tab_needCapo : xM := (⟨"Tablature", "needCapo", "(I)V"⟩, prog_1_method_44_code, 1, none)
abbrev m_Tab_reach : xM := (⟨"Tablature", "reach", "(I)I"⟩, prog_1_method_6_code, 3, (some Jvm.ClassFile.FieldType.int))
abbrev m_Tab_needReach : xM := (⟨"Tablature", "needReach", "(I)V"⟩, prog_1_method_45_code, 1, none)
abbrev m_Tab_fretOf : xM := (⟨"Tablature", "fretOf", "(II)I"⟩, prog_1_method_7_code, 3, (some Jvm.ClassFile.FieldType.int))
abbrev m_Tab_isPitch : xM := (⟨"Tablature", "isPitch", "(I)Z"⟩, prog_1_method_47_code, 1, (some Jvm.ClassFile.FieldType.boolean))
abbrev m_Tab_chord : xM := (⟨"Tablature", "chord", "(IIIII)I"⟩, prog_1_method_8_code, 7, (some Jvm.ClassFile.FieldType.int))
abbrev m_Tab_isPitchOrNone : xM := (⟨"Tablature", "isPitchOrNone", "(I)Z"⟩, prog_1_method_48_code, 1, (some Jvm.ClassFile.FieldType.boolean))
abbrev m_Tab_hasTwice : xM := (⟨"Tablature", "hasTwice", "(IIII)Z"⟩, prog_1_method_49_code, 4, (some Jvm.ClassFile.FieldType.boolean))
abbrev m_Piece_append : xM := (⟨"Tablature$Piece", "append", "(I)LTablature$Chord;"⟩, prog_7_method_2_code, 3, (some (Jvm.ClassFile.FieldType.object "Tablature$Chord")))
abbrev m_Chord_clear : xM := (⟨"Tablature$Chord", "clear", "(I)V"⟩, prog_2_method_2_code, 2, none)
abbrev m_Chord_add : xM := (⟨"Tablature$Chord", "add", "(I)V"⟩, prog_2_method_3_code, 2, none)
abbrev m_Tab_strike : xM := (⟨"Tablature", "strike", "(I)I"⟩, prog_1_method_9_code, 2, (some Jvm.ClassFile.FieldType.int))
abbrev m_Tab_needChord : xM := (⟨"Tablature", "needChord", "(I)V"⟩, prog_1_method_40_code, 2, none)
abbrev m_Piece_remove : xM := (⟨"Tablature$Piece", "remove", "(I)V"⟩, prog_7_method_3_code, 4, none)
abbrev m_Tab_fix : xM := (⟨"Tablature", "fix", "(II)I"⟩, prog_1_method_10_code, 6, (some Jvm.ClassFile.FieldType.int))
abbrev m_Tab_needGrip : xM := (⟨"Tablature", "needGrip", "(II)LTablature$Grips;"⟩, prog_1_method_41_code, 3, (some (Jvm.ClassFile.FieldType.object "Tablature$Grips")))
abbrev m_Tab_ofChord : xM := (⟨"Tablature", "ofChord", "(II)I"⟩, prog_1_method_11_code, 3, (some Jvm.ClassFile.FieldType.int))
abbrev m_Tab_needQuestion : xM := (⟨"Tablature", "needQuestion", "(II)V"⟩, prog_1_method_42_code, 2, none)
abbrev m_Tab_ofGrip : xM := (⟨"Tablature", "ofGrip", "(III)I"⟩, prog_1_method_12_code, 5, (some Jvm.ClassFile.FieldType.int))
abbrev m_Tab_fret : xM := (⟨"Tablature", "fret", "(III)I"⟩, prog_1_method_13_code, 5, (some Jvm.ClassFile.FieldType.int))
abbrev m_Tab_finger : xM := (⟨"Tablature", "finger", "(III)I"⟩, prog_1_method_14_code, 5, (some Jvm.ClassFile.FieldType.int))
abbrev m_Tab_move : xM := (⟨"Tablature", "move", "(III)I"⟩, prog_1_method_15_code, 4, (some Jvm.ClassFile.FieldType.int))
abbrev m_Tab_plan : xM := (⟨"Tablature", "plan", "(I)I"⟩, prog_1_method_16_code, 2, (some Jvm.ClassFile.FieldType.int))
abbrev m_Tab_many : xM := (⟨"Tablature", "many", "(I)I"⟩, prog_1_method_19_code, 2, (some Jvm.ClassFile.FieldType.int))
abbrev m_Tab_shapes : xM := (⟨"Tablature", "shapes", "(III)I"⟩, prog_1_method_21_code, 4, (some Jvm.ClassFile.FieldType.int))
abbrev m_Tab_needVoicing : xM := (⟨"Tablature", "needVoicing", "(III)V"⟩, prog_1_method_46_code, 3, none)
abbrev m_Tab_shapeEffort : xM := (⟨"Tablature", "shapeEffort", "(III)I"⟩, prog_1_method_22_code, 4, (some Jvm.ClassFile.FieldType.int))
abbrev m_Tab_shapeFret : xM := (⟨"Tablature", "shapeFret", "(IIII)I"⟩, prog_1_method_23_code, 5, (some Jvm.ClassFile.FieldType.int))
abbrev m_Shapes_bestFret : xM := (⟨"Tablature$Shapes", "bestFret", "(I)I"⟩, prog_9_method_5_code, 2, (some Jvm.ClassFile.FieldType.int))
abbrev m_Tab_totalWith : xM := (⟨"Tablature", "totalWith", "(II)I"⟩, prog_1_method_24_code, 3, (some Jvm.ClassFile.FieldType.int))
abbrev m_Tab_totalFixed : xM := (⟨"Tablature", "totalFixed", "(II)I"⟩, prog_1_method_27_code, 3, (some Jvm.ClassFile.FieldType.int))
abbrev m_Model_init : xM := (⟨"TablatureModel", "<init>", "()V"⟩, prog_11_method_1_code, 1, none)
abbrev m_Model_thrown : xM := (⟨"TablatureModel", "thrown", "()I"⟩, prog_11_method_2_code, 1, (some Jvm.ClassFile.FieldType.int))
abbrev m_Model_string : xM := (⟨"TablatureModel", "string", "(I)I"⟩, prog_11_method_7_code, 2, (some Jvm.ClassFile.FieldType.int))
abbrev m_Model_isIn : xM := (⟨"TablatureModel", "isIn", "(III)Z"⟩, prog_11_method_4_code, 3, (some Jvm.ClassFile.FieldType.boolean))
abbrev m_Model_no : xM := (⟨"TablatureModel", "no", "(I)I"⟩, prog_11_method_3_code, 2, (some Jvm.ClassFile.FieldType.int))
abbrev m_Model_tune : xM := (⟨"TablatureModel", "tune", "(II)I"⟩, prog_11_method_8_code, 4, (some Jvm.ClassFile.FieldType.int))
abbrev m_Model_isString : xM := (⟨"TablatureModel", "isString", "(I)Z"⟩, prog_11_method_5_code, 2, (some Jvm.ClassFile.FieldType.boolean))
abbrev m_Model_slacken : xM := (⟨"TablatureModel", "slacken", "(IZ)I"⟩, prog_11_method_10_code, 3, (some Jvm.ClassFile.FieldType.int))
abbrev m_Model_slack : xM := (⟨"TablatureModel", "slack", "()I"⟩, prog_11_method_9_code, 3, (some Jvm.ClassFile.FieldType.int))
abbrev m_Model_capo : xM := (⟨"TablatureModel", "capo", "(I)I"⟩, prog_11_method_11_code, 3, (some Jvm.ClassFile.FieldType.int))
abbrev m_Model_reach : xM := (⟨"TablatureModel", "reach", "(I)I"⟩, prog_11_method_12_code, 3, (some Jvm.ClassFile.FieldType.int))
abbrev m_Model_fretOf : xM := (⟨"TablatureModel", "fretOf", "(II)I"⟩, prog_11_method_14_code, 3, (some Jvm.ClassFile.FieldType.int))
abbrev m_Model_fretNow : xM := (⟨"TablatureModel", "fretNow", "(II)I"⟩, prog_11_method_13_code, 4, (some Jvm.ClassFile.FieldType.int))
abbrev m_Model_chord : xM := (⟨"TablatureModel", "chord", "(IIIII)I"⟩, prog_11_method_15_code, 15, (some Jvm.ClassFile.FieldType.int))
abbrev m_Model_strike : xM := (⟨"TablatureModel", "strike", "(I)I"⟩, prog_11_method_16_code, 3, (some Jvm.ClassFile.FieldType.int))
abbrev m_Model_isChord : xM := (⟨"TablatureModel", "isChord", "(I)Z"⟩, prog_11_method_6_code, 2, (some Jvm.ClassFile.FieldType.boolean))
abbrev m_Model_fix : xM := (⟨"TablatureModel", "fix", "(II)I"⟩, prog_11_method_33_code, 4, (some Jvm.ClassFile.FieldType.int))
abbrev m_Model_grips : xM := (⟨"TablatureModel", "grips", "(I)[[I"⟩, prog_11_method_31_code, 3, (some (Jvm.ClassFile.FieldType.array (Jvm.ClassFile.FieldType.array Jvm.ClassFile.FieldType.int))))
abbrev m_Model_silent : xM := (⟨"TablatureModel", "silent", "()[I"⟩, prog_11_method_30_code, 3, (some (Jvm.ClassFile.FieldType.array Jvm.ClassFile.FieldType.int)))
abbrev m_Model_go : xM := (⟨"TablatureModel", "go", "([II[I)V"⟩, prog_11_method_29_code, 5, none)
abbrev m_Model_isPlayable : xM := (⟨"TablatureModel", "isPlayable", "([I)Z"⟩, prog_11_method_25_code, 2, (some Jvm.ClassFile.FieldType.boolean))
abbrev m_Model_high : xM := (⟨"TablatureModel", "high", "([I)I"⟩, prog_11_method_18_code, 6, (some Jvm.ClassFile.FieldType.int))
abbrev m_Model_low : xM := (⟨"TablatureModel", "low", "([I)I"⟩, prog_11_method_17_code, 6, (some Jvm.ClassFile.FieldType.int))
abbrev m_Model_fingers : xM := (⟨"TablatureModel", "fingers", "([I)I"⟩, prog_11_method_21_code, 3, (some Jvm.ClassFile.FieldType.int))
abbrev m_Model_fingerNow : xM := (⟨"TablatureModel", "fingerNow", "([II)I"⟩, prog_11_method_20_code, 7, (some Jvm.ClassFile.FieldType.int))
abbrev m_Model_hasBarre : xM := (⟨"TablatureModel", "hasBarre", "([I)Z"⟩, prog_11_method_19_code, 5, (some Jvm.ClassFile.FieldType.boolean))
abbrev m_Model_put : xM := (⟨"TablatureModel", "put", "([I)V"⟩, prog_11_method_28_code, 5, none)
abbrev m_Model_effort : xM := (⟨"TablatureModel", "effort", "([I)I"⟩, prog_11_method_24_code, 1, (some Jvm.ClassFile.FieldType.int))
abbrev m_Model_gaps : xM := (⟨"TablatureModel", "gaps", "([I)I"⟩, prog_11_method_23_code, 8, (some Jvm.ClassFile.FieldType.int))
abbrev m_Model_sounding : xM := (⟨"TablatureModel", "sounding", "([I)I"⟩, prog_11_method_22_code, 6, (some Jvm.ClassFile.FieldType.int))
abbrev m_Model_isSmaller : xM := (⟨"TablatureModel", "isSmaller", "([I[I)Z"⟩, prog_11_method_26_code, 3, (some Jvm.ClassFile.FieldType.boolean))
abbrev m_Model_copy : xM := (⟨"TablatureModel", "copy", "([I)[I"⟩, prog_11_method_27_code, 2, (some (Jvm.ClassFile.FieldType.array Jvm.ClassFile.FieldType.int)))
abbrev m_Model_ofChord : xM := (⟨"TablatureModel", "ofChord", "(II)I"⟩, prog_11_method_35_code, 3, (some Jvm.ClassFile.FieldType.int))
abbrev m_Model_ofChordNow : xM := (⟨"TablatureModel", "ofChordNow", "(II)I"⟩, prog_11_method_34_code, 9, (some Jvm.ClassFile.FieldType.int))
abbrev m_Model_fixedNow : xM := (⟨"TablatureModel", "fixedNow", "(I[[I)I"⟩, prog_11_method_32_code, 6, (some Jvm.ClassFile.FieldType.int))
abbrev m_Model_ofGrip : xM := (⟨"TablatureModel", "ofGrip", "(III)I"⟩, prog_11_method_37_code, 5, (some Jvm.ClassFile.FieldType.int))
abbrev m_Model_ofGripNow : xM := (⟨"TablatureModel", "ofGripNow", "([II)I"⟩, prog_11_method_36_code, 2, (some Jvm.ClassFile.FieldType.int))
abbrev m_Model_fret : xM := (⟨"TablatureModel", "fret", "(III)I"⟩, prog_11_method_39_code, 4, (some Jvm.ClassFile.FieldType.int))
abbrev m_Model_onString : xM := (⟨"TablatureModel", "onString", "(IIIZ)I"⟩, prog_11_method_38_code, 6, (some Jvm.ClassFile.FieldType.int))
abbrev m_Model_finger : xM := (⟨"TablatureModel", "finger", "(III)I"⟩, prog_11_method_40_code, 4, (some Jvm.ClassFile.FieldType.int))
abbrev m_Model_move : xM := (⟨"TablatureModel", "move", "(III)I"⟩, prog_11_method_42_code, 6, (some Jvm.ClassFile.FieldType.int))
abbrev m_Model_moveNow : xM := (⟨"TablatureModel", "moveNow", "(I[I[I)I"⟩, prog_11_method_41_code, 6, (some Jvm.ClassFile.FieldType.int))
abbrev m_Model_plan : xM := (⟨"TablatureModel", "plan", "(I)I"⟩, prog_11_method_46_code, 3, (some Jvm.ClassFile.FieldType.int))
abbrev m_Model_all : xM := (⟨"TablatureModel", "all", "()[[[I"⟩, prog_11_method_43_code, 3, (some (Jvm.ClassFile.FieldType.array (Jvm.ClassFile.FieldType.array (Jvm.ClassFile.FieldType.array Jvm.ClassFile.FieldType.int)))))
abbrev m_Model_planNow : xM := (⟨"TablatureModel", "planNow", "([[[I)[I"⟩, prog_11_method_44_code, 9, (some (Jvm.ClassFile.FieldType.array Jvm.ClassFile.FieldType.int)))
abbrev m_Model_total : xM := (⟨"TablatureModel", "total", "()I"⟩, prog_11_method_47_code, 1, (some Jvm.ClassFile.FieldType.int))
abbrev m_Model_totalNow : xM := (⟨"TablatureModel", "totalNow", "()I"⟩, prog_11_method_45_code, 2, (some Jvm.ClassFile.FieldType.int))
abbrev m_Model_hardest : xM := (⟨"TablatureModel", "hardest", "()I"⟩, prog_11_method_49_code, 2, (some Jvm.ClassFile.FieldType.int))
abbrev m_Model_hardestNow : xM := (⟨"TablatureModel", "hardestNow", "([[[I[I)I"⟩, prog_11_method_48_code, 7, (some Jvm.ClassFile.FieldType.int))
abbrev m_Model_many : xM := (⟨"TablatureModel", "many", "(I)I"⟩, prog_11_method_51_code, 3, (some Jvm.ClassFile.FieldType.int))
abbrev m_Model_manyNow : xM := (⟨"TablatureModel", "manyNow", "(I[[[I[I)I"⟩, prog_11_method_50_code, 9, (some Jvm.ClassFile.FieldType.int))
abbrev m_Model_meanEffort : xM := (⟨"TablatureModel", "meanEffort", "()D"⟩, prog_11_method_52_code, 4, (some Jvm.ClassFile.FieldType.double))
abbrev m_Model_shapes : xM := (⟨"TablatureModel", "shapes", "(III)I"⟩, prog_11_method_58_code, 4, (some Jvm.ClassFile.FieldType.int))
abbrev m_Model_isVoicing : xM := (⟨"TablatureModel", "isVoicing", "(III)Z"⟩, prog_11_method_53_code, 5, (some Jvm.ClassFile.FieldType.boolean))
abbrev m_Model_look : xM := (⟨"TablatureModel", "look", "(III)V"⟩, prog_11_method_57_code, 4, none)
abbrev m_Model_goOn : xM := (⟨"TablatureModel", "goOn", "(IIII[III)V"⟩, prog_11_method_55_code, 10, none)
abbrev m_Model_isBetter : xM := (⟨"TablatureModel", "isBetter", "([I)Z"⟩, prog_11_method_56_code, 2, (some Jvm.ClassFile.FieldType.boolean))
abbrev m_Model_pitchOf : xM := (⟨"TablatureModel", "pitchOf", "(II)I"⟩, prog_11_method_54_code, 3, (some Jvm.ClassFile.FieldType.int))
abbrev m_Model_shapeEffort : xM := (⟨"TablatureModel", "shapeEffort", "(III)I"⟩, prog_11_method_59_code, 4, (some Jvm.ClassFile.FieldType.int))
abbrev m_Model_shapeFret : xM := (⟨"TablatureModel", "shapeFret", "(IIII)I"⟩, prog_11_method_60_code, 5, (some Jvm.ClassFile.FieldType.int))
abbrev m_Model_totalWith : xM := (⟨"TablatureModel", "totalWith", "(II)I"⟩, prog_11_method_62_code, 3, (some Jvm.ClassFile.FieldType.int))
abbrev m_Model_totalBy : xM := (⟨"TablatureModel", "totalBy", "(II)I"⟩, prog_11_method_61_code, 6, (some Jvm.ClassFile.FieldType.int))
abbrev m_Model_bestCapo : xM := (⟨"TablatureModel", "bestCapo", "()I"⟩, prog_11_method_64_code, 1, (some Jvm.ClassFile.FieldType.int))
abbrev m_Model_bestCapoNow : xM := (⟨"TablatureModel", "bestCapoNow", "()I"⟩, prog_11_method_63_code, 5, (some Jvm.ClassFile.FieldType.int))
abbrev m_Model_totalWithout : xM := (⟨"TablatureModel", "totalWithout", "(I)I"⟩, prog_11_method_66_code, 2, (some Jvm.ClassFile.FieldType.int))
abbrev m_Model_withoutNow : xM := (⟨"TablatureModel", "withoutNow", "(I)I"⟩, prog_11_method_65_code, 4, (some Jvm.ClassFile.FieldType.int))
abbrev m_Model_totalFixed : xM := (⟨"TablatureModel", "totalFixed", "(II)I"⟩, prog_11_method_67_code, 7, (some Jvm.ClassFile.FieldType.int))
abbrev m_Model_digest : xM := (⟨"TablatureModel", "digest", "()J"⟩, prog_11_method_68_code, 7, (some Jvm.ClassFile.FieldType.long))
-- classes
set_option maxRecDepth 100000 in
theorem in_RX0 : ∀ w ∈ u_ws RX0 TX0 4, w ∈ lw_tbl ∧ goodWord w = true := by decide +kernel
set_option maxRecDepth 100000 in
theorem in_RX2 : ∀ w ∈ u_ws RX2 TX2 4, w ∈ lw_tbl ∧ goodWord w = true := by decide +kernel
set_option maxRecDepth 100000 in
theorem in_RX3 : ∀ w ∈ u_ws RX3 TX3 8, w ∈ lw_tbl ∧ goodWord w = true := by decide +kernel
set_option maxRecDepth 100000 in
theorem in_RX4 : ∀ w ∈ u_ws RX4 TX4 5, w ∈ lw_tbl ∧ goodWord w = true := by decide +kernel
set_option maxRecDepth 100000 in
theorem in_RX5 : ∀ w ∈ u_ws RX5 TX5 2, w ∈ lw_tbl ∧ goodWord w = true := by decide +kernel
set_option maxRecDepth 100000 in
theorem in_RX6 : ∀ w ∈ u_ws RX6 TX6 8, w ∈ lw_tbl ∧ goodWord w = true := by decide +kernel
set_option maxRecDepth 100000 in
theorem in_RX7 : ∀ w ∈ u_ws RX7 TX7 8, w ∈ lw_tbl ∧ goodWord w = true := by decide +kernel
set_option maxRecDepth 100000 in
theorem in_RX8 : ∀ w ∈ u_ws RX8 TX8 8, w ∈ lw_tbl ∧ goodWord w = true := by decide +kernel
set_option maxRecDepth 100000 in
theorem in_RX9 : ∀ w ∈ u_ws RX9 TX9 16, w ∈ lw_tbl ∧ goodWord w = true := by decide +kernel
-- accesses and calls
theorem w_0 : (Jvm.Cond.methodLink "Tablature" (1 : Nat) ({ cls := "java/lang/Object", name := "<init>", desc := "()V" } : Jvm.MethodName)) ∈ xWA := wd1 25 rfl rfl
theorem s_Tab_1 : (Jvm.Cond.methodLink "Tablature" (1 : Nat) ({ cls := "java/lang/Object", name := "<init>", desc := "()V" } : Jvm.MethodName)) ∈ xWA := w_0
theorem w_1 : (Jvm.Cond.classLink "Tablature" (7 : Nat) "Tablature$Instrument") ∈ xWA := wd1 28 rfl rfl
theorem w_2 : (Jvm.Cond.instantiable "Tablature$Instrument" (5 : Nat)) ∈ xWA := wd1 29 rfl rfl
theorem w_3 : (Jvm.Cond.initialized "Tablature$Instrument") ∈ xWA := wd1 2 rfl rfl
theorem n_Tab_7 : xNw "Tablature" 7 3 5 [.null, .null, vi 0, vi 0, vi 0] := ⟨RX4, TX4, tyX4, rfl, fun w hw => xWA_in (in_RX4 w hw).1 (in_RX4 w hw).2, tyX4_ok, w_1, w_2, w_3, by decide +kernel⟩
theorem w_4 : (Jvm.Cond.code ({ cls := "Tablature$Instrument", name := "<init>", desc := "()V" } : Jvm.MethodName) prog_6_method_1_code (1 : Nat) (Option.none : Option Jvm.ClassFile.FieldType)) ∈ xWA := wd1 32 rfl rfl
theorem ok_Instr_init : xOk "" m_Instr_init 0 := ⟨w_4, w_3, ⟨by decide +kernel, by decide +kernel⟩, by decide +kernel⟩
theorem w_5 : (Jvm.Cond.instanceMethod ({ cls := "Tablature$Instrument", name := "<init>", desc := "()V" } : Jvm.MethodName)) ∈ xWA := wd1 31 rfl rfl
theorem s_Tab_9 : xIN "Tablature" 9 "Tablature" m_Instr_init 0 := ⟨ok_Instr_init, by decide +kernel, w_5, rfl, rfl⟩
theorem w_6 : (Jvm.Cond.fieldLink "Tablature" (10 : Nat) "Tablature" "instrument" "LTablature$Instrument;") ∈ xWA := wd2 3 rfl rfl
theorem p_Tab_10 : xP "Tablature" 10 7 0 (.object "Tablature$Instrument") true := ⟨RX8, TX8, 8, tyX8, rfl, fun w hw => xWA_in (in_RX8 w hw).1 (in_RX8 w hw).2, by decide, w_6, tyX8_ok, nmX8, rfl, by decide +kernel, Or.inr rfl⟩
theorem w_7 : (Jvm.Cond.fieldLink "Tablature" (16 : Nat) "Tablature" "trialInstrument" "LTablature$Instrument;") ∈ xWA := wd2 4 rfl rfl
theorem p_Tab_16 : xP "Tablature" 16 7 1 (.object "Tablature$Instrument") true := ⟨RX8, TX8, 8, tyX8, rfl, fun w hw => xWA_in (in_RX8 w hw).1 (in_RX8 w hw).2, by decide, w_7, tyX8_ok, nmX8, rfl, by decide +kernel, Or.inr rfl⟩
theorem w_8 : (Jvm.Cond.classLink "Tablature" (19 : Nat) "Tablature$Piece") ∈ xWA := wd1 60 rfl rfl
theorem w_9 : (Jvm.Cond.instantiable "Tablature$Piece" (2 : Nat)) ∈ xWA := wd1 61 rfl rfl
theorem w_10 : (Jvm.Cond.initialized "Tablature$Piece") ∈ xWA := wd1 3 rfl rfl
theorem n_Tab_19 : xNw "Tablature" 19 4 2 [.null, vi 0] := ⟨RX5, TX5, tyX5, rfl, fun w hw => xWA_in (in_RX5 w hw).1 (in_RX5 w hw).2, tyX5_ok, w_8, w_9, w_10, by decide +kernel⟩
theorem w_11 : (Jvm.Cond.code ({ cls := "Tablature$Piece", name := "<init>", desc := "()V" } : Jvm.MethodName) prog_7_method_1_code (2 : Nat) (Option.none : Option Jvm.ClassFile.FieldType)) ∈ xWA := wd1 64 rfl rfl
theorem ok_Piece_init : xOk "" m_Piece_init 0 := ⟨w_11, w_10, ⟨by decide +kernel, by decide +kernel⟩, by decide +kernel⟩
theorem w_12 : (Jvm.Cond.instanceMethod ({ cls := "Tablature$Piece", name := "<init>", desc := "()V" } : Jvm.MethodName)) ∈ xWA := wd1 63 rfl rfl
theorem w_13 : (Jvm.Cond.methodLink "Tablature" (21 : Nat) ({ cls := "Tablature$Piece", name := "<init>", desc := "()V" } : Jvm.MethodName)) ∈ xWA := wd1 62 rfl rfl
theorem s_Tab_21 : xIn "Tablature" 21 m_Piece_init 0 := ⟨ok_Piece_init, w_13, w_12, rfl, rfl⟩
theorem w_14 : (Jvm.Cond.fieldLink "Tablature" (22 : Nat) "Tablature" "piece" "LTablature$Piece;") ∈ xWA := wd2 5 rfl rfl
theorem p_Tab_22 : xP "Tablature" 22 7 2 (.object "Tablature$Piece") true := ⟨RX8, TX8, 8, tyX8, rfl, fun w hw => xWA_in (in_RX8 w hw).1 (in_RX8 w hw).2, by decide, w_14, tyX8_ok, nmX8, rfl, by decide +kernel, Or.inr rfl⟩
theorem w_15 : (Jvm.Cond.classLink "Tablature" (26 : Nat) "Tablature$Planner") ∈ xWA := wd1 105 rfl rfl
theorem w_16 : (Jvm.Cond.instantiable "Tablature$Planner" (8 : Nat)) ∈ xWA := wd1 106 rfl rfl
theorem w_17 : (Jvm.Cond.initialized "Tablature$Planner") ∈ xWA := wd1 5 rfl rfl
theorem n_Tab_26 : xNw "Tablature" 26 5 8 [.null, .null, .null, vi 0, .null, .null, .null, vi 0] := ⟨RX6, TX6, tyX6, rfl, fun w hw => xWA_in (in_RX6 w hw).1 (in_RX6 w hw).2, tyX6_ok, w_15, w_16, w_17, by decide +kernel⟩
theorem w_18 : (Jvm.Cond.code ({ cls := "Tablature$Planner", name := "<init>", desc := "()V" } : Jvm.MethodName) prog_8_method_1_code (2 : Nat) (Option.none : Option Jvm.ClassFile.FieldType)) ∈ xWA := wd1 109 rfl rfl
theorem ok_Plan_init : xOk "" m_Plan_init 0 := ⟨w_18, w_17, ⟨by decide +kernel, by decide +kernel⟩, by decide +kernel⟩
theorem w_19 : (Jvm.Cond.instanceMethod ({ cls := "Tablature$Planner", name := "<init>", desc := "()V" } : Jvm.MethodName)) ∈ xWA := wd1 108 rfl rfl
theorem w_20 : (Jvm.Cond.methodLink "Tablature" (28 : Nat) ({ cls := "Tablature$Planner", name := "<init>", desc := "()V" } : Jvm.MethodName)) ∈ xWA := wd1 107 rfl rfl
theorem s_Tab_28 : xIn "Tablature" 28 m_Plan_init 0 := ⟨ok_Plan_init, w_20, w_19, rfl, rfl⟩
theorem w_21 : (Jvm.Cond.fieldLink "Tablature" (29 : Nat) "Tablature" "planner" "LTablature$Planner;") ∈ xWA := wd2 6 rfl rfl
theorem p_Tab_29 : xP "Tablature" 29 7 3 (.object "Tablature$Planner") true := ⟨RX8, TX8, 8, tyX8, rfl, fun w hw => xWA_in (in_RX8 w hw).1 (in_RX8 w hw).2, by decide, w_21, tyX8_ok, nmX8, rfl, by decide +kernel, Or.inr rfl⟩
theorem w_22 : (Jvm.Cond.fieldLink "Tablature" (33 : Nat) "Tablature" "trialPlanner" "LTablature$Planner;") ∈ xWA := wd2 7 rfl rfl
theorem p_Tab_33 : xP "Tablature" 33 7 4 (.object "Tablature$Planner") true := ⟨RX8, TX8, 8, tyX8, rfl, fun w hw => xWA_in (in_RX8 w hw).1 (in_RX8 w hw).2, by decide, w_22, tyX8_ok, nmX8, rfl, by decide +kernel, Or.inr rfl⟩
theorem w_23 : (Jvm.Cond.classLink "Tablature" (36 : Nat) "Tablature$Shapes") ∈ xWA := wd1 206 rfl rfl
theorem w_24 : (Jvm.Cond.instantiable "Tablature$Shapes" (8 : Nat)) ∈ xWA := wd1 207 rfl rfl
theorem w_25 : (Jvm.Cond.initialized "Tablature$Shapes") ∈ xWA := wd1 8 rfl rfl
theorem n_Tab_36 : xNw "Tablature" 36 6 8 [vi 0, vi 0, vi 0, vi 0, vi 0, vi 0, vi 0, .null] := ⟨RX7, TX7, tyX7, rfl, fun w hw => xWA_in (in_RX7 w hw).1 (in_RX7 w hw).2, tyX7_ok, w_23, w_24, w_25, by decide +kernel⟩
theorem w_26 : (Jvm.Cond.code ({ cls := "Tablature$Shapes", name := "<init>", desc := "()V" } : Jvm.MethodName) prog_9_method_1_code (1 : Nat) (Option.none : Option Jvm.ClassFile.FieldType)) ∈ xWA := wd1 210 rfl rfl
theorem ok_Shapes_init : xOk "" m_Shapes_init 0 := ⟨w_26, w_25, ⟨by decide +kernel, by decide +kernel⟩, by decide +kernel⟩
theorem w_27 : (Jvm.Cond.instanceMethod ({ cls := "Tablature$Shapes", name := "<init>", desc := "()V" } : Jvm.MethodName)) ∈ xWA := wd1 209 rfl rfl
theorem s_Tab_38 : xIN "Tablature" 38 "Tablature" m_Shapes_init 0 := ⟨ok_Shapes_init, by decide +kernel, w_27, rfl, rfl⟩
theorem w_28 : (Jvm.Cond.fieldLink "Tablature" (39 : Nat) "Tablature" "voicing" "LTablature$Shapes;") ∈ xWA := wd2 8 rfl rfl
theorem p_Tab_39 : xP "Tablature" 39 7 5 (.object "Tablature$Shapes") true := ⟨RX8, TX8, 8, tyX8, rfl, fun w hw => xWA_in (in_RX8 w hw).1 (in_RX8 w hw).2, by decide, w_28, tyX8_ok, nmX8, rfl, by decide +kernel, Or.inr rfl⟩
theorem w_29 : (Jvm.Cond.classLink "Tablature" (43 : Nat) "Tablature$Hand") ∈ xWA := wd2 1 rfl rfl
theorem w_30 : (Jvm.Cond.instantiable "Tablature$Hand" (8 : Nat)) ∈ xWA := wd1 116 rfl rfl
theorem w_31 : (Jvm.Cond.initialized "Tablature$Hand") ∈ xWA := wd1 6 rfl rfl
theorem n_Tab_43 : xNw "Tablature" 43 2 8 [vi 0, vi 0, vi 0, vi 0, .null, vi 0, vi 0, vi 0] := ⟨RX3, TX3, tyX3, rfl, fun w hw => xWA_in (in_RX3 w hw).1 (in_RX3 w hw).2, tyX3_ok, w_29, w_30, w_31, by decide +kernel⟩
theorem w_32 : (Jvm.Cond.code ({ cls := "Tablature$Hand", name := "<init>", desc := "()V" } : Jvm.MethodName) prog_5_method_1_code (1 : Nat) (Option.none : Option Jvm.ClassFile.FieldType)) ∈ xWA := wd1 119 rfl rfl
theorem ok_Hand_init : xOk "" m_Hand_init 0 := ⟨w_32, w_31, ⟨by decide +kernel, by decide +kernel⟩, by decide +kernel⟩
theorem w_33 : (Jvm.Cond.instanceMethod ({ cls := "Tablature$Hand", name := "<init>", desc := "()V" } : Jvm.MethodName)) ∈ xWA := wd1 118 rfl rfl
theorem s_Tab_45 : xIN "Tablature" 45 "Tablature" m_Hand_init 0 := ⟨ok_Hand_init, by decide +kernel, w_33, rfl, rfl⟩
theorem w_34 : (Jvm.Cond.fieldLink "Tablature" (46 : Nat) "Tablature" "hand" "LTablature$Hand;") ∈ xWA := wd2 9 rfl rfl
theorem p_Tab_46 : xP "Tablature" 46 7 6 (.object "Tablature$Hand") true := ⟨RX8, TX8, 8, tyX8, rfl, fun w hw => xWA_in (in_RX8 w hw).1 (in_RX8 w hw).2, by decide, w_34, tyX8_ok, nmX8, rfl, by decide +kernel, Or.inr rfl⟩
theorem w_35 : (Jvm.Cond.fieldLink "Tablature" (50 : Nat) "Tablature" "planIsStale" "Z") ∈ xWA := wd2 10 rfl rfl
theorem p_Tab_50 : xP "Tablature" 50 7 7 .boolean false := ⟨RX8, TX8, 8, tyX8, rfl, fun w hw => xWA_in (in_RX8 w hw).1 (in_RX8 w hw).2, by decide, w_35, tyX8_ok, nmX8, rfl, by decide +kernel, Or.inl rfl⟩
theorem w_36 : (Jvm.Cond.initialized "Tablature") ∈ xWA := wd1 1 rfl rfl
theorem w_37 : (Jvm.Cond.code ({ cls := "Tablature", name := "needOpen", desc := "(I)V" } : Jvm.MethodName) prog_1_method_43_code (1 : Nat) (Option.none : Option Jvm.ClassFile.FieldType)) ∈ xWA := wd3 108 rfl rfl
theorem ok_Tab_needOpen : xOk "" m_Tab_needOpen 1 := ⟨w_37, w_36, ⟨by decide +kernel, by decide +kernel⟩, by decide +kernel⟩
theorem w_38 : (Jvm.Cond.static ({ cls := "Tablature", name := "needOpen", desc := "(I)V" } : Jvm.MethodName)) ∈ xWA := wd3 107 rfl rfl
theorem w_39 : (Jvm.Cond.methodLink "Tablature" (54 : Nat) ({ cls := "Tablature", name := "needOpen", desc := "(I)V" } : Jvm.MethodName)) ∈ xWA := wd3 106 rfl rfl
theorem s_Tab_54 : xS "Tablature" 54 m_Tab_needOpen 1 := ⟨ok_Tab_needOpen, w_39, w_38⟩
theorem f_Tab_10 : xF "Tablature" 10 7 0 := ⟨RX8, TX8, 8, rfl, fun w hw => xWA_in (in_RX8 w hw).1 (in_RX8 w hw).2, by decide, w_6⟩
theorem w_40 : (Jvm.Cond.fieldLink "Tablature" (58 : Nat) "Tablature$Instrument" "count" "I") ∈ xWA := wd1 39 rfl rfl
theorem f_Tab_58 : xF "Tablature" 58 3 2 := ⟨RX4, TX4, 5, rfl, fun w hw => xWA_in (in_RX4 w hw).1 (in_RX4 w hw).2, by decide, w_40⟩
theorem w_41 : (Jvm.Cond.methodLink "Tablature" (66 : Nat) ({ cls := "java/lang/IllegalStateException", name := "<init>", desc := "(Ljava/lang/String;)V" } : Jvm.MethodName)) ∈ xWA := wd3 135 rfl rfl
theorem s_Tab_66 : (Jvm.Cond.methodLink "Tablature" (66 : Nat) ({ cls := "java/lang/IllegalStateException", name := "<init>", desc := "(Ljava/lang/String;)V" } : Jvm.MethodName)) ∈ xWA := w_41
theorem w_42 : (Jvm.Cond.code ({ cls := "Tablature$Instrument", name := "draw", desc := "(I)I" } : Jvm.MethodName) prog_6_method_2_code (2 : Nat) (Option.some Jvm.ClassFile.FieldType.int)) ∈ xWA := wd3 144 rfl rfl
theorem ok_Instr_draw : xOk "" m_Instr_draw 1 := ⟨w_42, w_3, ⟨by decide +kernel, by decide +kernel⟩, by decide +kernel⟩
theorem w_43 : (Jvm.Cond.instanceMethod ({ cls := "Tablature$Instrument", name := "draw", desc := "(I)I" } : Jvm.MethodName)) ∈ xWA := wd3 142 rfl rfl
theorem w_44 : (Jvm.Cond.selects "Tablature$Instrument" ({ cls := "Tablature$Instrument", name := "draw", desc := "(I)I" } : Jvm.MethodName) ({ cls := "Tablature$Instrument", name := "draw", desc := "(I)I" } : Jvm.MethodName)) ∈ xWA := wd3 143 rfl rfl
theorem w_45 : (Jvm.Cond.methodLink "Tablature" (69 : Nat) ({ cls := "Tablature$Instrument", name := "draw", desc := "(I)I" } : Jvm.MethodName)) ∈ xWA := wd3 141 rfl rfl
theorem s_Tab_69 : xVi "Tablature" 69 3 m_Instr_draw 1 := ⟨ok_Instr_draw, w_45, w_43, w_44, TX4, 5, rfl⟩
theorem w_46 : (Jvm.Cond.code ({ cls := "Tablature", name := "instrumentChanged", desc := "()V" } : Jvm.MethodName) prog_1_method_36_code (1 : Nat) (Option.none : Option Jvm.ClassFile.FieldType)) ∈ xWA := wd3 148 rfl rfl
theorem ok_Tab_instrumentChanged : xOk "" m_Tab_instrumentChanged 0 := ⟨w_46, w_36, ⟨by decide +kernel, by decide +kernel⟩, by decide +kernel⟩
theorem w_47 : (Jvm.Cond.instanceMethod ({ cls := "Tablature", name := "instrumentChanged", desc := "()V" } : Jvm.MethodName)) ∈ xWA := wd3 147 rfl rfl
theorem sel_16 : Cond.selects m_Tab_instrumentChanged.1.cls m_Tab_instrumentChanged.1 m_Tab_instrumentChanged.1 ∈ xWA := xWA_in (List.mem_append_left _ (List.mem_of_getElem? (i := 16) (by decide +kernel))) rfl
theorem w_48 : (Jvm.Cond.methodLink "Tablature" (73 : Nat) ({ cls := "Tablature", name := "instrumentChanged", desc := "()V" } : Jvm.MethodName)) ∈ xWA := wd3 145 rfl rfl
theorem s_Tab_73 : xVi "Tablature" 73 7 m_Tab_instrumentChanged 0 := ⟨ok_Tab_instrumentChanged, w_48, w_47, sel_16, TX8, 8, rfl⟩
theorem w_49 : (Jvm.Cond.code ({ cls := "Tablature", name := "needString", desc := "(I)V" } : Jvm.MethodName) prog_1_method_39_code (2 : Nat) (Option.none : Option Jvm.ClassFile.FieldType)) ∈ xWA := wd2 234 rfl rfl
theorem ok_Tab_needString : xOk "" m_Tab_needString 1 := ⟨w_49, w_36, ⟨by decide +kernel, by decide +kernel⟩, by decide +kernel⟩
theorem w_50 : (Jvm.Cond.instanceMethod ({ cls := "Tablature", name := "needString", desc := "(I)V" } : Jvm.MethodName)) ∈ xWA := wd2 233 rfl rfl
theorem sel_11 : Cond.selects m_Tab_needString.1.cls m_Tab_needString.1 m_Tab_needString.1 ∈ xWA := xWA_in (List.mem_append_left _ (List.mem_of_getElem? (i := 11) (by decide +kernel))) rfl
theorem w_51 : (Jvm.Cond.methodLink "Tablature" (76 : Nat) ({ cls := "Tablature", name := "needString", desc := "(I)V" } : Jvm.MethodName)) ∈ xWA := wd2 231 rfl rfl
theorem s_Tab_76 : xVi "Tablature" 76 7 m_Tab_needString 1 := ⟨ok_Tab_needString, w_51, w_50, sel_11, TX8, 8, rfl⟩
theorem w_52 : (Jvm.Cond.fieldLink "Tablature" (79 : Nat) "Tablature$Instrument" "open" "[I") ∈ xWA := wd1 35 rfl rfl
theorem f_Tab_79 : xF "Tablature" 79 3 0 := ⟨RX4, TX4, 5, rfl, fun w hw => xWA_in (in_RX4 w hw).1 (in_RX4 w hw).2, by decide, w_52⟩
theorem w_53 : (Jvm.Cond.fieldLink "Tablature" (83 : Nat) "Tablature$Instrument" "slack" "[Z") ∈ xWA := wd1 37 rfl rfl
theorem f_Tab_83 : xF "Tablature" 83 3 1 := ⟨RX4, TX4, 5, rfl, fun w hw => xWA_in (in_RX4 w hw).1 (in_RX4 w hw).2, by decide, w_53⟩
theorem w_54 : (Jvm.Cond.code ({ cls := "Tablature$Instrument", name := "slackCount", desc := "()I" } : Jvm.MethodName) prog_6_method_4_code (3 : Nat) (Option.some Jvm.ClassFile.FieldType.int)) ∈ xWA := wd2 175 rfl rfl
theorem ok_Instr_slackCount : xOk "" m_Instr_slackCount 0 := ⟨w_54, w_3, ⟨by decide +kernel, by decide +kernel⟩, by decide +kernel⟩
theorem w_55 : (Jvm.Cond.instanceMethod ({ cls := "Tablature$Instrument", name := "slackCount", desc := "()I" } : Jvm.MethodName)) ∈ xWA := wd2 173 rfl rfl
theorem w_56 : (Jvm.Cond.selects "Tablature$Instrument" ({ cls := "Tablature$Instrument", name := "slackCount", desc := "()I" } : Jvm.MethodName) ({ cls := "Tablature$Instrument", name := "slackCount", desc := "()I" } : Jvm.MethodName)) ∈ xWA := wd2 174 rfl rfl
theorem w_57 : (Jvm.Cond.methodLink "Tablature" (87 : Nat) ({ cls := "Tablature$Instrument", name := "slackCount", desc := "()I" } : Jvm.MethodName)) ∈ xWA := wd2 172 rfl rfl
theorem s_Tab_87 : xVi "Tablature" 87 3 m_Instr_slackCount 0 := ⟨ok_Instr_slackCount, w_57, w_55, w_56, TX4, 5, rfl⟩
theorem w_58 : (Jvm.Cond.code ({ cls := "Tablature", name := "needCapo", desc := "(I)V" } : Jvm.MethodName) prog_1_method_44_code (1 : Nat) (Option.none : Option Jvm.ClassFile.FieldType)) ∈ xWA := wd3 177 rfl rfl
theorem ok_Tab_needCapo : xOk "" m_Tab_needCapo 1 := ⟨w_58, w_36, ⟨by decide +kernel, by decide +kernel⟩, by decide +kernel⟩
theorem w_59 : (Jvm.Cond.static ({ cls := "Tablature", name := "needCapo", desc := "(I)V" } : Jvm.MethodName)) ∈ xWA := wd3 176 rfl rfl
theorem w_60 : (Jvm.Cond.methodLink "Tablature" (91 : Nat) ({ cls := "Tablature", name := "needCapo", desc := "(I)V" } : Jvm.MethodName)) ∈ xWA := wd3 175 rfl rfl
theorem s_Tab_91 : xS "Tablature" 91 m_Tab_needCapo 1 := ⟨ok_Tab_needCapo, w_60, w_59⟩
theorem w_61 : (Jvm.Cond.fieldLink "Tablature" (94 : Nat) "Tablature$Instrument" "capo" "I") ∈ xWA := wd1 42 rfl rfl
theorem f_Tab_94 : xF "Tablature" 94 3 3 := ⟨RX4, TX4, 5, rfl, fun w hw => xWA_in (in_RX4 w hw).1 (in_RX4 w hw).2, by decide, w_61⟩
theorem p_Tab_94 : xP "Tablature" 94 3 3 .int false := ⟨RX4, TX4, 5, tyX4, rfl, fun w hw => xWA_in (in_RX4 w hw).1 (in_RX4 w hw).2, by decide, w_61, tyX4_ok, nmX4, rfl, by decide +kernel, Or.inl rfl⟩
theorem w_62 : (Jvm.Cond.code ({ cls := "Tablature", name := "needReach", desc := "(I)V" } : Jvm.MethodName) prog_1_method_45_code (1 : Nat) (Option.none : Option Jvm.ClassFile.FieldType)) ∈ xWA := wd3 188 rfl rfl
theorem ok_Tab_needReach : xOk "" m_Tab_needReach 1 := ⟨w_62, w_36, ⟨by decide +kernel, by decide +kernel⟩, by decide +kernel⟩
theorem w_63 : (Jvm.Cond.static ({ cls := "Tablature", name := "needReach", desc := "(I)V" } : Jvm.MethodName)) ∈ xWA := wd3 187 rfl rfl
theorem w_64 : (Jvm.Cond.methodLink "Tablature" (97 : Nat) ({ cls := "Tablature", name := "needReach", desc := "(I)V" } : Jvm.MethodName)) ∈ xWA := wd3 186 rfl rfl
theorem s_Tab_97 : xS "Tablature" 97 m_Tab_needReach 1 := ⟨ok_Tab_needReach, w_64, w_63⟩
theorem w_65 : (Jvm.Cond.fieldLink "Tablature" (100 : Nat) "Tablature$Instrument" "reach" "I") ∈ xWA := wd1 45 rfl rfl
theorem f_Tab_100 : xF "Tablature" 100 3 4 := ⟨RX4, TX4, 5, rfl, fun w hw => xWA_in (in_RX4 w hw).1 (in_RX4 w hw).2, by decide, w_65⟩
theorem p_Tab_100 : xP "Tablature" 100 3 4 .int false := ⟨RX4, TX4, 5, tyX4, rfl, fun w hw => xWA_in (in_RX4 w hw).1 (in_RX4 w hw).2, by decide, w_65, tyX4_ok, nmX4, rfl, by decide +kernel, Or.inl rfl⟩
theorem w_66 : (Jvm.Cond.code ({ cls := "Tablature", name := "isPitch", desc := "(I)Z" } : Jvm.MethodName) prog_1_method_47_code (1 : Nat) (Option.some Jvm.ClassFile.FieldType.boolean)) ∈ xWA := wd3 199 rfl rfl
theorem ok_Tab_isPitch : xOk "" m_Tab_isPitch 1 := ⟨w_66, w_36, ⟨by decide +kernel, by decide +kernel⟩, by decide +kernel⟩
theorem w_67 : (Jvm.Cond.static ({ cls := "Tablature", name := "isPitch", desc := "(I)Z" } : Jvm.MethodName)) ∈ xWA := wd3 198 rfl rfl
theorem w_68 : (Jvm.Cond.methodLink "Tablature" (103 : Nat) ({ cls := "Tablature", name := "isPitch", desc := "(I)Z" } : Jvm.MethodName)) ∈ xWA := wd3 197 rfl rfl
theorem s_Tab_103 : xS "Tablature" 103 m_Tab_isPitch 1 := ⟨ok_Tab_isPitch, w_68, w_67⟩
theorem w_69 : (Jvm.Cond.methodLink "Tablature" (111 : Nat) ({ cls := "java/lang/IllegalArgumentException", name := "<init>", desc := "(Ljava/lang/String;)V" } : Jvm.MethodName)) ∈ xWA := wd3 119 rfl rfl
theorem s_Tab_111 : (Jvm.Cond.methodLink "Tablature" (111 : Nat) ({ cls := "java/lang/IllegalArgumentException", name := "<init>", desc := "(Ljava/lang/String;)V" } : Jvm.MethodName)) ∈ xWA := w_69
theorem w_70 : (Jvm.Cond.code ({ cls := "Tablature$Instrument", name := "fretFor", desc := "(II)I" } : Jvm.MethodName) prog_6_method_8_code (4 : Nat) (Option.some Jvm.ClassFile.FieldType.int)) ∈ xWA := wd2 85 rfl rfl
theorem ok_Instr_fretFor : xOk "" m_Instr_fretFor 2 := ⟨w_70, w_3, ⟨by decide +kernel, by decide +kernel⟩, by decide +kernel⟩
theorem w_71 : (Jvm.Cond.instanceMethod ({ cls := "Tablature$Instrument", name := "fretFor", desc := "(II)I" } : Jvm.MethodName)) ∈ xWA := wd2 83 rfl rfl
theorem w_72 : (Jvm.Cond.selects "Tablature$Instrument" ({ cls := "Tablature$Instrument", name := "fretFor", desc := "(II)I" } : Jvm.MethodName) ({ cls := "Tablature$Instrument", name := "fretFor", desc := "(II)I" } : Jvm.MethodName)) ∈ xWA := wd2 84 rfl rfl
theorem w_73 : (Jvm.Cond.methodLink "Tablature" (112 : Nat) ({ cls := "Tablature$Instrument", name := "fretFor", desc := "(II)I" } : Jvm.MethodName)) ∈ xWA := wd3 201 rfl rfl
theorem s_Tab_112 : xVi "Tablature" 112 3 m_Instr_fretFor 2 := ⟨ok_Instr_fretFor, w_73, w_71, w_72, TX4, 5, rfl⟩
theorem w_74 : (Jvm.Cond.code ({ cls := "Tablature", name := "isPitchOrNone", desc := "(I)Z" } : Jvm.MethodName) prog_1_method_48_code (1 : Nat) (Option.some Jvm.ClassFile.FieldType.boolean)) ∈ xWA := wd3 211 rfl rfl
theorem ok_Tab_isPitchOrNone : xOk "" m_Tab_isPitchOrNone 1 := ⟨w_74, w_36, ⟨by decide +kernel, by decide +kernel⟩, by decide +kernel⟩
theorem w_75 : (Jvm.Cond.static ({ cls := "Tablature", name := "isPitchOrNone", desc := "(I)Z" } : Jvm.MethodName)) ∈ xWA := wd3 210 rfl rfl
theorem w_76 : (Jvm.Cond.methodLink "Tablature" (116 : Nat) ({ cls := "Tablature", name := "isPitchOrNone", desc := "(I)Z" } : Jvm.MethodName)) ∈ xWA := wd3 209 rfl rfl
theorem s_Tab_116 : xS "Tablature" 116 m_Tab_isPitchOrNone 1 := ⟨ok_Tab_isPitchOrNone, w_76, w_75⟩
theorem w_77 : (Jvm.Cond.code ({ cls := "Tablature", name := "hasTwice", desc := "(IIII)Z" } : Jvm.MethodName) prog_1_method_49_code (4 : Nat) (Option.some Jvm.ClassFile.FieldType.boolean)) ∈ xWA := wd3 214 rfl rfl
theorem ok_Tab_hasTwice : xOk "" m_Tab_hasTwice 4 := ⟨w_77, w_36, ⟨by decide +kernel, by decide +kernel⟩, by decide +kernel⟩
theorem w_78 : (Jvm.Cond.static ({ cls := "Tablature", name := "hasTwice", desc := "(IIII)Z" } : Jvm.MethodName)) ∈ xWA := wd3 213 rfl rfl
theorem w_79 : (Jvm.Cond.methodLink "Tablature" (119 : Nat) ({ cls := "Tablature", name := "hasTwice", desc := "(IIII)Z" } : Jvm.MethodName)) ∈ xWA := wd3 212 rfl rfl
theorem s_Tab_119 : xS "Tablature" 119 m_Tab_hasTwice 4 := ⟨ok_Tab_hasTwice, w_79, w_78⟩
theorem f_Tab_22 : xF "Tablature" 22 7 2 := ⟨RX8, TX8, 8, rfl, fun w hw => xWA_in (in_RX8 w hw).1 (in_RX8 w hw).2, by decide, w_14⟩
theorem w_80 : (Jvm.Cond.fieldLink "Tablature" (127 : Nat) "Tablature$Piece" "count" "I") ∈ xWA := wd1 99 rfl rfl
theorem f_Tab_127 : xF "Tablature" 127 4 1 := ⟨RX5, TX5, 2, rfl, fun w hw => xWA_in (in_RX5 w hw).1 (in_RX5 w hw).2, by decide, w_80⟩
theorem w_81 : (Jvm.Cond.code ({ cls := "Tablature$Piece", name := "append", desc := "(I)LTablature$Chord;" } : Jvm.MethodName) prog_7_method_2_code (3 : Nat) (Option.some (Jvm.ClassFile.FieldType.object "Tablature$Chord"))) ∈ xWA := wd3 221 rfl rfl
theorem ok_Piece_append : xOk "" m_Piece_append 1 := ⟨w_81, w_10, ⟨by decide +kernel, by decide +kernel⟩, by decide +kernel⟩
theorem w_82 : (Jvm.Cond.instanceMethod ({ cls := "Tablature$Piece", name := "append", desc := "(I)LTablature$Chord;" } : Jvm.MethodName)) ∈ xWA := wd3 219 rfl rfl
theorem w_83 : (Jvm.Cond.selects "Tablature$Piece" ({ cls := "Tablature$Piece", name := "append", desc := "(I)LTablature$Chord;" } : Jvm.MethodName) ({ cls := "Tablature$Piece", name := "append", desc := "(I)LTablature$Chord;" } : Jvm.MethodName)) ∈ xWA := wd3 220 rfl rfl
theorem w_84 : (Jvm.Cond.methodLink "Tablature" (130 : Nat) ({ cls := "Tablature$Piece", name := "append", desc := "(I)LTablature$Chord;" } : Jvm.MethodName)) ∈ xWA := wd3 218 rfl rfl
theorem s_Tab_130 : xVi "Tablature" 130 4 m_Piece_append 1 := ⟨ok_Piece_append, w_84, w_82, w_83, TX5, 2, rfl⟩
theorem w_85 : (Jvm.Cond.initialized "Tablature$Chord") ∈ xWA := wd1 4 rfl rfl
theorem w_86 : (Jvm.Cond.code ({ cls := "Tablature$Chord", name := "add", desc := "(I)V" } : Jvm.MethodName) prog_2_method_3_code (2 : Nat) (Option.none : Option Jvm.ClassFile.FieldType)) ∈ xWA := wd3 230 rfl rfl
theorem ok_Chord_add : xOk "" m_Chord_add 1 := ⟨w_86, w_85, ⟨by decide +kernel, by decide +kernel⟩, by decide +kernel⟩
theorem w_87 : (Jvm.Cond.instanceMethod ({ cls := "Tablature$Chord", name := "add", desc := "(I)V" } : Jvm.MethodName)) ∈ xWA := wd3 228 rfl rfl
theorem w_88 : (Jvm.Cond.selects "Tablature$Chord" ({ cls := "Tablature$Chord", name := "add", desc := "(I)V" } : Jvm.MethodName) ({ cls := "Tablature$Chord", name := "add", desc := "(I)V" } : Jvm.MethodName)) ∈ xWA := wd3 229 rfl rfl
theorem w_89 : (Jvm.Cond.methodLink "Tablature" (134 : Nat) ({ cls := "Tablature$Chord", name := "add", desc := "(I)V" } : Jvm.MethodName)) ∈ xWA := wd3 227 rfl rfl
theorem s_Tab_134 : xVi "Tablature" 134 0 m_Chord_add 1 := ⟨ok_Chord_add, w_89, w_87, w_88, TX0, 4, rfl⟩
theorem w_90 : (Jvm.Cond.code ({ cls := "Tablature", name := "needChord", desc := "(I)V" } : Jvm.MethodName) prog_1_method_40_code (2 : Nat) (Option.none : Option Jvm.ClassFile.FieldType)) ∈ xWA := wd4 1 rfl rfl
theorem ok_Tab_needChord : xOk "" m_Tab_needChord 1 := ⟨w_90, w_36, ⟨by decide +kernel, by decide +kernel⟩, by decide +kernel⟩
theorem w_91 : (Jvm.Cond.instanceMethod ({ cls := "Tablature", name := "needChord", desc := "(I)V" } : Jvm.MethodName)) ∈ xWA := wd4 0 rfl rfl
theorem sel_17 : Cond.selects m_Tab_needChord.1.cls m_Tab_needChord.1 m_Tab_needChord.1 ∈ xWA := xWA_in (List.mem_append_left _ (List.mem_of_getElem? (i := 17) (by decide +kernel))) rfl
theorem w_92 : (Jvm.Cond.methodLink "Tablature" (139 : Nat) ({ cls := "Tablature", name := "needChord", desc := "(I)V" } : Jvm.MethodName)) ∈ xWA := wd3 238 rfl rfl
theorem s_Tab_139 : xVi "Tablature" 139 7 m_Tab_needChord 1 := ⟨ok_Tab_needChord, w_92, w_91, sel_17, TX8, 8, rfl⟩
theorem w_93 : (Jvm.Cond.code ({ cls := "Tablature$Piece", name := "remove", desc := "(I)V" } : Jvm.MethodName) prog_7_method_3_code (4 : Nat) (Option.none : Option Jvm.ClassFile.FieldType)) ∈ xWA := wd4 6 rfl rfl
theorem ok_Piece_remove : xOk "" m_Piece_remove 1 := ⟨w_93, w_10, ⟨by decide +kernel, by decide +kernel⟩, by decide +kernel⟩
theorem w_94 : (Jvm.Cond.instanceMethod ({ cls := "Tablature$Piece", name := "remove", desc := "(I)V" } : Jvm.MethodName)) ∈ xWA := wd4 4 rfl rfl
theorem w_95 : (Jvm.Cond.selects "Tablature$Piece" ({ cls := "Tablature$Piece", name := "remove", desc := "(I)V" } : Jvm.MethodName) ({ cls := "Tablature$Piece", name := "remove", desc := "(I)V" } : Jvm.MethodName)) ∈ xWA := wd4 5 rfl rfl
theorem w_96 : (Jvm.Cond.methodLink "Tablature" (142 : Nat) ({ cls := "Tablature$Piece", name := "remove", desc := "(I)V" } : Jvm.MethodName)) ∈ xWA := wd4 3 rfl rfl
theorem s_Tab_142 : xVi "Tablature" 142 4 m_Piece_remove 1 := ⟨ok_Piece_remove, w_96, w_94, w_95, TX5, 2, rfl⟩
theorem w_97 : (Jvm.Cond.code ({ cls := "Tablature", name := "needGrip", desc := "(II)LTablature$Grips;" } : Jvm.MethodName) prog_1_method_41_code (3 : Nat) (Option.some (Jvm.ClassFile.FieldType.object "Tablature$Grips"))) ∈ xWA := wd4 17 rfl rfl
theorem ok_Tab_needGrip : xOk "" m_Tab_needGrip 2 := ⟨w_97, w_36, ⟨by decide +kernel, by decide +kernel⟩, by decide +kernel⟩
theorem w_98 : (Jvm.Cond.instanceMethod ({ cls := "Tablature", name := "needGrip", desc := "(II)LTablature$Grips;" } : Jvm.MethodName)) ∈ xWA := wd4 16 rfl rfl
theorem sel_18 : Cond.selects m_Tab_needGrip.1.cls m_Tab_needGrip.1 m_Tab_needGrip.1 ∈ xWA := xWA_in (List.mem_append_left _ (List.mem_of_getElem? (i := 18) (by decide +kernel))) rfl
theorem w_99 : (Jvm.Cond.methodLink "Tablature" (145 : Nat) ({ cls := "Tablature", name := "needGrip", desc := "(II)LTablature$Grips;" } : Jvm.MethodName)) ∈ xWA := wd4 14 rfl rfl
theorem s_Tab_145 : xVi "Tablature" 145 7 m_Tab_needGrip 2 := ⟨ok_Tab_needGrip, w_99, w_98, sel_18, TX8, 8, rfl⟩
theorem w_100 : (Jvm.Cond.fieldLink "Tablature" (149 : Nat) "Tablature$Grips" "codes" "[I") ∈ xWA := wd1 159 rfl rfl
theorem f_Tab_149 : xF "Tablature" 149 1 0 := ⟨RX2, TX2, 4, rfl, fun w hw => xWA_in (in_RX2 w hw).1 (in_RX2 w hw).2, by decide, w_100⟩
theorem w_101 : (Jvm.Cond.fieldLink "Tablature" (154 : Nat) "Tablature$Grips" "efforts" "[I") ∈ xWA := wd1 162 rfl rfl
theorem f_Tab_154 : xF "Tablature" 154 1 1 := ⟨RX2, TX2, 4, rfl, fun w hw => xWA_in (in_RX2 w hw).1 (in_RX2 w hw).2, by decide, w_101⟩
theorem w_102 : (Jvm.Cond.fieldLink "Tablature" (157 : Nat) "Tablature$Piece" "chords" "[LTablature$Chord;") ∈ xWA := wd1 96 rfl rfl
theorem f_Tab_157 : xF "Tablature" 157 4 0 := ⟨RX5, TX5, 2, rfl, fun w hw => xWA_in (in_RX5 w hw).1 (in_RX5 w hw).2, by decide, w_102⟩
theorem w_103 : (Jvm.Cond.fieldLink "Tablature" (161 : Nat) "Tablature$Chord" "fixedCode" "I") ∈ xWA := wd1 84 rfl rfl
theorem p_Tab_161 : xP "Tablature" 161 0 3 .int false := ⟨RX0, TX0, 4, tyX0, rfl, fun w hw => xWA_in (in_RX0 w hw).1 (in_RX0 w hw).2, by decide, w_103, tyX0_ok, nmX0, rfl, by decide +kernel, Or.inl rfl⟩
theorem w_104 : (Jvm.Cond.code ({ cls := "Tablature", name := "needQuestion", desc := "(II)V" } : Jvm.MethodName) prog_1_method_42_code (2 : Nat) (Option.none : Option Jvm.ClassFile.FieldType)) ∈ xWA := wd4 28 rfl rfl
theorem ok_Tab_needQuestion : xOk "" m_Tab_needQuestion 2 := ⟨w_104, w_36, ⟨by decide +kernel, by decide +kernel⟩, by decide +kernel⟩
theorem w_105 : (Jvm.Cond.static ({ cls := "Tablature", name := "needQuestion", desc := "(II)V" } : Jvm.MethodName)) ∈ xWA := wd4 27 rfl rfl
theorem w_106 : (Jvm.Cond.methodLink "Tablature" (164 : Nat) ({ cls := "Tablature", name := "needQuestion", desc := "(II)V" } : Jvm.MethodName)) ∈ xWA := wd4 26 rfl rfl
theorem s_Tab_164 : xS "Tablature" 164 m_Tab_needQuestion 2 := ⟨ok_Tab_needQuestion, w_106, w_105⟩
theorem w_107 : (Jvm.Cond.code ({ cls := "Tablature", name := "refreshPlan", desc := "()V" } : Jvm.MethodName) prog_1_method_37_code (1 : Nat) (Option.none : Option Jvm.ClassFile.FieldType)) ∈ xWA := wd2 35 rfl rfl
theorem ok_Tab_refreshPlan : xOk "" m_Tab_refreshPlan 0 := ⟨w_107, w_36, ⟨by decide +kernel, by decide +kernel⟩, by decide +kernel⟩
theorem w_108 : (Jvm.Cond.instanceMethod ({ cls := "Tablature", name := "refreshPlan", desc := "()V" } : Jvm.MethodName)) ∈ xWA := wd2 34 rfl rfl
theorem sel_0 : Cond.selects m_Tab_refreshPlan.1.cls m_Tab_refreshPlan.1 m_Tab_refreshPlan.1 ∈ xWA := xWA_in (List.mem_append_left _ (List.mem_of_getElem? (i := 0) (by decide +kernel))) rfl
theorem w_109 : (Jvm.Cond.methodLink "Tablature" (168 : Nat) ({ cls := "Tablature", name := "refreshPlan", desc := "()V" } : Jvm.MethodName)) ∈ xWA := wd2 32 rfl rfl
theorem s_Tab_168 : xVi "Tablature" 168 7 m_Tab_refreshPlan 0 := ⟨ok_Tab_refreshPlan, w_109, w_108, sel_0, TX8, 8, rfl⟩
theorem w_110 : (Jvm.Cond.code ({ cls := "Tablature", name := "askChord", desc := "(II)I" } : Jvm.MethodName) prog_1_method_33_code (4 : Nat) (Option.some Jvm.ClassFile.FieldType.int)) ∈ xWA := wd2 196 rfl rfl
theorem ok_Tab_askChord : xOk "" m_Tab_askChord 2 := ⟨w_110, w_36, ⟨by decide +kernel, by decide +kernel⟩, by decide +kernel⟩
theorem w_111 : (Jvm.Cond.instanceMethod ({ cls := "Tablature", name := "askChord", desc := "(II)I" } : Jvm.MethodName)) ∈ xWA := wd2 195 rfl rfl
theorem sel_8 : Cond.selects m_Tab_askChord.1.cls m_Tab_askChord.1 m_Tab_askChord.1 ∈ xWA := xWA_in (List.mem_append_left _ (List.mem_of_getElem? (i := 8) (by decide +kernel))) rfl
theorem w_112 : (Jvm.Cond.methodLink "Tablature" (171 : Nat) ({ cls := "Tablature", name := "askChord", desc := "(II)I" } : Jvm.MethodName)) ∈ xWA := wd2 193 rfl rfl
theorem s_Tab_171 : xVi "Tablature" 171 7 m_Tab_askChord 2 := ⟨ok_Tab_askChord, w_112, w_111, sel_8, TX8, 8, rfl⟩
theorem f_Tab_46 : xF "Tablature" 46 7 6 := ⟨RX8, TX8, 8, rfl, fun w hw => xWA_in (in_RX8 w hw).1 (in_RX8 w hw).2, by decide, w_34⟩
theorem w_113 : (Jvm.Cond.code ({ cls := "Tablature$Hand", name := "hold", desc := "(I)V" } : Jvm.MethodName) prog_5_method_2_code (3 : Nat) (Option.none : Option Jvm.ClassFile.FieldType)) ∈ xWA := wd2 49 rfl rfl
theorem ok_Hand_hold : xOk "" m_Hand_hold 1 := ⟨w_113, w_31, ⟨by decide +kernel, by decide +kernel⟩, by decide +kernel⟩
theorem w_114 : (Jvm.Cond.instanceMethod ({ cls := "Tablature$Hand", name := "hold", desc := "(I)V" } : Jvm.MethodName)) ∈ xWA := wd2 47 rfl rfl
theorem w_115 : (Jvm.Cond.selects "Tablature$Hand" ({ cls := "Tablature$Hand", name := "hold", desc := "(I)V" } : Jvm.MethodName) ({ cls := "Tablature$Hand", name := "hold", desc := "(I)V" } : Jvm.MethodName)) ∈ xWA := wd2 48 rfl rfl
theorem w_116 : (Jvm.Cond.methodLink "Tablature" (174 : Nat) ({ cls := "Tablature$Hand", name := "hold", desc := "(I)V" } : Jvm.MethodName)) ∈ xWA := wd2 214 rfl rfl
theorem s_Tab_174 : xVi "Tablature" 174 2 m_Hand_hold 1 := ⟨ok_Hand_hold, w_116, w_114, w_115, TX3, 8, rfl⟩
theorem w_117 : (Jvm.Cond.code ({ cls := "Tablature", name := "askHand", desc := "(I)I" } : Jvm.MethodName) prog_1_method_34_code (2 : Nat) (Option.some Jvm.ClassFile.FieldType.int)) ∈ xWA := wd2 218 rfl rfl
theorem ok_Tab_askHand : xOk "" m_Tab_askHand 1 := ⟨w_117, w_36, ⟨by decide +kernel, by decide +kernel⟩, by decide +kernel⟩
theorem w_118 : (Jvm.Cond.instanceMethod ({ cls := "Tablature", name := "askHand", desc := "(I)I" } : Jvm.MethodName)) ∈ xWA := wd2 217 rfl rfl
theorem sel_10 : Cond.selects m_Tab_askHand.1.cls m_Tab_askHand.1 m_Tab_askHand.1 ∈ xWA := xWA_in (List.mem_append_left _ (List.mem_of_getElem? (i := 10) (by decide +kernel))) rfl
theorem w_119 : (Jvm.Cond.methodLink "Tablature" (177 : Nat) ({ cls := "Tablature", name := "askHand", desc := "(I)I" } : Jvm.MethodName)) ∈ xWA := wd2 215 rfl rfl
theorem s_Tab_177 : xVi "Tablature" 177 7 m_Tab_askHand 1 := ⟨ok_Tab_askHand, w_119, w_118, sel_10, TX8, 8, rfl⟩
theorem w_120 : (Jvm.Cond.initialized "Tablature$GripCode") ∈ xWA := wd1 17 rfl rfl
theorem w_121 : (Jvm.Cond.code ({ cls := "Tablature$GripCode", name := "fretAt", desc := "(II)I" } : Jvm.MethodName) prog_3_method_2_code (2 : Nat) (Option.some Jvm.ClassFile.FieldType.int)) ∈ xWA := wd2 52 rfl rfl
theorem ok_Code_fretAt : xOk "" m_Code_fretAt 2 := ⟨w_121, w_120, ⟨by decide +kernel, by decide +kernel⟩, by decide +kernel⟩
theorem w_122 : (Jvm.Cond.static ({ cls := "Tablature$GripCode", name := "fretAt", desc := "(II)I" } : Jvm.MethodName)) ∈ xWA := wd2 51 rfl rfl
theorem w_123 : (Jvm.Cond.methodLink "Tablature" (180 : Nat) ({ cls := "Tablature$GripCode", name := "fretAt", desc := "(II)I" } : Jvm.MethodName)) ∈ xWA := wd2 221 rfl rfl
theorem s_Tab_180 : xS "Tablature" 180 m_Code_fretAt 2 := ⟨ok_Code_fretAt, w_123, w_122⟩
theorem w_124 : (Jvm.Cond.code ({ cls := "Tablature$Hand", name := "fingerOn", desc := "(I)I" } : Jvm.MethodName) prog_5_method_9_code (6 : Nat) (Option.some Jvm.ClassFile.FieldType.int)) ∈ xWA := wd2 225 rfl rfl
theorem ok_Hand_fingerOn : xOk "" m_Hand_fingerOn 1 := ⟨w_124, w_31, ⟨by decide +kernel, by decide +kernel⟩, by decide +kernel⟩
theorem w_125 : (Jvm.Cond.instanceMethod ({ cls := "Tablature$Hand", name := "fingerOn", desc := "(I)I" } : Jvm.MethodName)) ∈ xWA := wd2 223 rfl rfl
theorem w_126 : (Jvm.Cond.selects "Tablature$Hand" ({ cls := "Tablature$Hand", name := "fingerOn", desc := "(I)I" } : Jvm.MethodName) ({ cls := "Tablature$Hand", name := "fingerOn", desc := "(I)I" } : Jvm.MethodName)) ∈ xWA := wd2 224 rfl rfl
theorem w_127 : (Jvm.Cond.methodLink "Tablature" (185 : Nat) ({ cls := "Tablature$Hand", name := "fingerOn", desc := "(I)I" } : Jvm.MethodName)) ∈ xWA := wd2 222 rfl rfl
theorem s_Tab_185 : xVi "Tablature" 185 2 m_Hand_fingerOn 1 := ⟨ok_Hand_fingerOn, w_127, w_125, w_126, TX3, 8, rfl⟩
theorem f_Tab_29 : xF "Tablature" 29 7 3 := ⟨RX8, TX8, 8, rfl, fun w hw => xWA_in (in_RX8 w hw).1 (in_RX8 w hw).2, by decide, w_21⟩
theorem w_128 : (Jvm.Cond.code ({ cls := "Tablature$Planner", name := "moveCost", desc := "(III)I" } : Jvm.MethodName) prog_8_method_6_code (8 : Nat) (Option.some Jvm.ClassFile.FieldType.int)) ∈ xWA := wd2 117 rfl rfl
theorem ok_Plan_moveCost : xOk "" m_Plan_moveCost 3 := ⟨w_128, w_17, ⟨by decide +kernel, by decide +kernel⟩, by decide +kernel⟩
theorem w_129 : (Jvm.Cond.instanceMethod ({ cls := "Tablature$Planner", name := "moveCost", desc := "(III)I" } : Jvm.MethodName)) ∈ xWA := wd2 115 rfl rfl
theorem w_130 : (Jvm.Cond.selects "Tablature$Planner" ({ cls := "Tablature$Planner", name := "moveCost", desc := "(III)I" } : Jvm.MethodName) ({ cls := "Tablature$Planner", name := "moveCost", desc := "(III)I" } : Jvm.MethodName)) ∈ xWA := wd2 116 rfl rfl
theorem w_131 : (Jvm.Cond.methodLink "Tablature" (188 : Nat) ({ cls := "Tablature$Planner", name := "moveCost", desc := "(III)I" } : Jvm.MethodName)) ∈ xWA := wd4 58 rfl rfl
theorem s_Tab_188 : xVi "Tablature" 188 5 m_Plan_moveCost 3 := ⟨ok_Plan_moveCost, w_131, w_129, w_130, TX6, 8, rfl⟩
theorem w_132 : (Jvm.Cond.fieldLink "Tablature" (192 : Nat) "Tablature$Planner" "choice" "[I") ∈ xWA := wd1 182 rfl rfl
theorem f_Tab_192 : xF "Tablature" 192 5 2 := ⟨RX6, TX6, 8, rfl, fun w hw => xWA_in (in_RX6 w hw).1 (in_RX6 w hw).2, by decide, w_132⟩
theorem w_133 : (Jvm.Cond.fieldLink "Tablature" (195 : Nat) "Tablature$Planner" "total" "I") ∈ xWA := wd1 184 rfl rfl
theorem f_Tab_195 : xF "Tablature" 195 5 3 := ⟨RX6, TX6, 8, rfl, fun w hw => xWA_in (in_RX6 w hw).1 (in_RX6 w hw).2, by decide, w_133⟩
theorem w_134 : (Jvm.Cond.code ({ cls := "Tablature$Planner", name := "hardestMove", desc := "()I" } : Jvm.MethodName) prog_8_method_7_code (5 : Nat) (Option.some Jvm.ClassFile.FieldType.int)) ∈ xWA := wd2 142 rfl rfl
theorem ok_Plan_hardestMove : xOk "" m_Plan_hardestMove 0 := ⟨w_134, w_17, ⟨by decide +kernel, by decide +kernel⟩, by decide +kernel⟩
theorem w_135 : (Jvm.Cond.instanceMethod ({ cls := "Tablature$Planner", name := "hardestMove", desc := "()I" } : Jvm.MethodName)) ∈ xWA := wd2 140 rfl rfl
theorem w_136 : (Jvm.Cond.selects "Tablature$Planner" ({ cls := "Tablature$Planner", name := "hardestMove", desc := "()I" } : Jvm.MethodName) ({ cls := "Tablature$Planner", name := "hardestMove", desc := "()I" } : Jvm.MethodName)) ∈ xWA := wd2 141 rfl rfl
theorem w_137 : (Jvm.Cond.methodLink "Tablature" (198 : Nat) ({ cls := "Tablature$Planner", name := "hardestMove", desc := "()I" } : Jvm.MethodName)) ∈ xWA := wd2 139 rfl rfl
theorem s_Tab_198 : xVi "Tablature" 198 5 m_Plan_hardestMove 0 := ⟨ok_Plan_hardestMove, w_137, w_135, w_136, TX6, 8, rfl⟩
theorem w_138 : (Jvm.Cond.code ({ cls := "Tablature", name := "askWhole", desc := "(I)I" } : Jvm.MethodName) prog_1_method_32_code (2 : Nat) (Option.some Jvm.ClassFile.FieldType.int)) ∈ xWA := wd2 171 rfl rfl
theorem ok_Tab_askWhole : xOk "" m_Tab_askWhole 1 := ⟨w_138, w_36, ⟨by decide +kernel, by decide +kernel⟩, by decide +kernel⟩
theorem w_139 : (Jvm.Cond.instanceMethod ({ cls := "Tablature", name := "askWhole", desc := "(I)I" } : Jvm.MethodName)) ∈ xWA := wd2 170 rfl rfl
theorem sel_6 : Cond.selects m_Tab_askWhole.1.cls m_Tab_askWhole.1 m_Tab_askWhole.1 ∈ xWA := xWA_in (List.mem_append_left _ (List.mem_of_getElem? (i := 6) (by decide +kernel))) rfl
theorem w_140 : (Jvm.Cond.methodLink "Tablature" (201 : Nat) ({ cls := "Tablature", name := "askWhole", desc := "(I)I" } : Jvm.MethodName)) ∈ xWA := wd2 168 rfl rfl
theorem s_Tab_201 : xVi "Tablature" 201 7 m_Tab_askWhole 1 := ⟨ok_Tab_askWhole, w_140, w_139, sel_6, TX8, 8, rfl⟩
theorem w_141 : (Jvm.Cond.code ({ cls := "Tablature$Piece", name := "sumOfLengths", desc := "()I" } : Jvm.MethodName) prog_7_method_4_code (3 : Nat) (Option.some Jvm.ClassFile.FieldType.int)) ∈ xWA := wd2 150 rfl rfl
theorem ok_Piece_sumOfLengths : xOk "" m_Piece_sumOfLengths 0 := ⟨w_141, w_10, ⟨by decide +kernel, by decide +kernel⟩, by decide +kernel⟩
theorem w_142 : (Jvm.Cond.instanceMethod ({ cls := "Tablature$Piece", name := "sumOfLengths", desc := "()I" } : Jvm.MethodName)) ∈ xWA := wd2 148 rfl rfl
theorem w_143 : (Jvm.Cond.selects "Tablature$Piece" ({ cls := "Tablature$Piece", name := "sumOfLengths", desc := "()I" } : Jvm.MethodName) ({ cls := "Tablature$Piece", name := "sumOfLengths", desc := "()I" } : Jvm.MethodName)) ∈ xWA := wd2 149 rfl rfl
theorem w_144 : (Jvm.Cond.methodLink "Tablature" (204 : Nat) ({ cls := "Tablature$Piece", name := "sumOfLengths", desc := "()I" } : Jvm.MethodName)) ∈ xWA := wd2 147 rfl rfl
theorem s_Tab_204 : xVi "Tablature" 204 4 m_Piece_sumOfLengths 0 := ⟨ok_Piece_sumOfLengths, w_144, w_142, w_143, TX5, 2, rfl⟩
theorem w_145 : (Jvm.Cond.code ({ cls := "Tablature", name := "needVoicing", desc := "(III)V" } : Jvm.MethodName) prog_1_method_46_code (3 : Nat) (Option.none : Option Jvm.ClassFile.FieldType)) ∈ xWA := wd4 82 rfl rfl
theorem ok_Tab_needVoicing : xOk "" m_Tab_needVoicing 3 := ⟨w_145, w_36, ⟨by decide +kernel, by decide +kernel⟩, by decide +kernel⟩
theorem w_146 : (Jvm.Cond.static ({ cls := "Tablature", name := "needVoicing", desc := "(III)V" } : Jvm.MethodName)) ∈ xWA := wd4 81 rfl rfl
theorem w_147 : (Jvm.Cond.methodLink "Tablature" (207 : Nat) ({ cls := "Tablature", name := "needVoicing", desc := "(III)V" } : Jvm.MethodName)) ∈ xWA := wd4 80 rfl rfl
theorem s_Tab_207 : xS "Tablature" 207 m_Tab_needVoicing 3 := ⟨ok_Tab_needVoicing, w_147, w_146⟩
theorem w_148 : (Jvm.Cond.code ({ cls := "Tablature", name := "freshVoicing", desc := "(III)LTablature$Shapes;" } : Jvm.MethodName) prog_1_method_38_code (4 : Nat) (Option.some (Jvm.ClassFile.FieldType.object "Tablature$Shapes"))) ∈ xWA := wd3 66 rfl rfl
theorem ok_Tab_freshVoicing : xOk "" m_Tab_freshVoicing 3 := ⟨w_148, w_36, ⟨by decide +kernel, by decide +kernel⟩, by decide +kernel⟩
theorem w_149 : (Jvm.Cond.instanceMethod ({ cls := "Tablature", name := "freshVoicing", desc := "(III)LTablature$Shapes;" } : Jvm.MethodName)) ∈ xWA := wd3 65 rfl rfl
theorem sel_13 : Cond.selects m_Tab_freshVoicing.1.cls m_Tab_freshVoicing.1 m_Tab_freshVoicing.1 ∈ xWA := xWA_in (List.mem_append_left _ (List.mem_of_getElem? (i := 13) (by decide +kernel))) rfl
theorem w_150 : (Jvm.Cond.methodLink "Tablature" (211 : Nat) ({ cls := "Tablature", name := "freshVoicing", desc := "(III)LTablature$Shapes;" } : Jvm.MethodName)) ∈ xWA := wd3 63 rfl rfl
theorem s_Tab_211 : xVi "Tablature" 211 7 m_Tab_freshVoicing 3 := ⟨ok_Tab_freshVoicing, w_150, w_149, sel_13, TX8, 8, rfl⟩
theorem w_151 : (Jvm.Cond.fieldLink "Tablature" (215 : Nat) "Tablature$Shapes" "count" "I") ∈ xWA := wd1 215 rfl rfl
theorem f_Tab_215 : xF "Tablature" 215 6 0 := ⟨RX7, TX7, 8, rfl, fun w hw => xWA_in (in_RX7 w hw).1 (in_RX7 w hw).2, by decide, w_151⟩
theorem w_152 : (Jvm.Cond.fieldLink "Tablature" (216 : Nat) "Tablature$Shapes" "bestEffort" "I") ∈ xWA := wd1 217 rfl rfl
theorem f_Tab_216 : xF "Tablature" 216 6 1 := ⟨RX7, TX7, 8, rfl, fun w hw => xWA_in (in_RX7 w hw).1 (in_RX7 w hw).2, by decide, w_152⟩
theorem w_153 : (Jvm.Cond.code ({ cls := "Tablature$Shapes", name := "bestFret", desc := "(I)I" } : Jvm.MethodName) prog_9_method_5_code (2 : Nat) (Option.some Jvm.ClassFile.FieldType.int)) ∈ xWA := wd4 104 rfl rfl
theorem ok_Shapes_bestFret : xOk "" m_Shapes_bestFret 1 := ⟨w_153, w_25, ⟨by decide +kernel, by decide +kernel⟩, by decide +kernel⟩
theorem w_154 : (Jvm.Cond.instanceMethod ({ cls := "Tablature$Shapes", name := "bestFret", desc := "(I)I" } : Jvm.MethodName)) ∈ xWA := wd4 102 rfl rfl
theorem w_155 : (Jvm.Cond.selects "Tablature$Shapes" ({ cls := "Tablature$Shapes", name := "bestFret", desc := "(I)I" } : Jvm.MethodName) ({ cls := "Tablature$Shapes", name := "bestFret", desc := "(I)I" } : Jvm.MethodName)) ∈ xWA := wd4 103 rfl rfl
theorem w_156 : (Jvm.Cond.methodLink "Tablature" (219 : Nat) ({ cls := "Tablature$Shapes", name := "bestFret", desc := "(I)I" } : Jvm.MethodName)) ∈ xWA := wd4 101 rfl rfl
theorem s_Tab_219 : xVi "Tablature" 219 6 m_Shapes_bestFret 1 := ⟨ok_Shapes_bestFret, w_156, w_154, w_155, TX7, 8, rfl⟩
theorem w_157 : (Jvm.Cond.code ({ cls := "Tablature", name := "totalUnder", desc := "(II)I" } : Jvm.MethodName) prog_1_method_35_code (3 : Nat) (Option.some Jvm.ClassFile.FieldType.int)) ∈ xWA := wd2 158 rfl rfl
theorem ok_Tab_totalUnder : xOk "" m_Tab_totalUnder 2 := ⟨w_157, w_36, ⟨by decide +kernel, by decide +kernel⟩, by decide +kernel⟩
theorem w_158 : (Jvm.Cond.instanceMethod ({ cls := "Tablature", name := "totalUnder", desc := "(II)I" } : Jvm.MethodName)) ∈ xWA := wd2 157 rfl rfl
theorem sel_5 : Cond.selects m_Tab_totalUnder.1.cls m_Tab_totalUnder.1 m_Tab_totalUnder.1 ∈ xWA := xWA_in (List.mem_append_left _ (List.mem_of_getElem? (i := 5) (by decide +kernel))) rfl
theorem w_159 : (Jvm.Cond.methodLink "Tablature" (222 : Nat) ({ cls := "Tablature", name := "totalUnder", desc := "(II)I" } : Jvm.MethodName)) ∈ xWA := wd2 155 rfl rfl
theorem s_Tab_222 : xVi "Tablature" 222 7 m_Tab_totalUnder 2 := ⟨ok_Tab_totalUnder, w_159, w_158, sel_5, TX8, 8, rfl⟩
theorem f_Tab_16 : xF "Tablature" 16 7 1 := ⟨RX8, TX8, 8, rfl, fun w hw => xWA_in (in_RX8 w hw).1 (in_RX8 w hw).2, by decide, w_7⟩
theorem w_160 : (Jvm.Cond.code ({ cls := "Tablature$Instrument", name := "copy", desc := "(LTablature$Instrument;)V" } : Jvm.MethodName) prog_6_method_3_code (3 : Nat) (Option.none : Option Jvm.ClassFile.FieldType)) ∈ xWA := wd2 162 rfl rfl
theorem ok_Instr_copy : xOk "" m_Instr_copy 1 := ⟨w_160, w_3, ⟨by decide +kernel, by decide +kernel⟩, by decide +kernel⟩
theorem w_161 : (Jvm.Cond.instanceMethod ({ cls := "Tablature$Instrument", name := "copy", desc := "(LTablature$Instrument;)V" } : Jvm.MethodName)) ∈ xWA := wd2 160 rfl rfl
theorem w_162 : (Jvm.Cond.selects "Tablature$Instrument" ({ cls := "Tablature$Instrument", name := "copy", desc := "(LTablature$Instrument;)V" } : Jvm.MethodName) ({ cls := "Tablature$Instrument", name := "copy", desc := "(LTablature$Instrument;)V" } : Jvm.MethodName)) ∈ xWA := wd2 161 rfl rfl
theorem w_163 : (Jvm.Cond.methodLink "Tablature" (225 : Nat) ({ cls := "Tablature$Instrument", name := "copy", desc := "(LTablature$Instrument;)V" } : Jvm.MethodName)) ∈ xWA := wd2 159 rfl rfl
theorem s_Tab_225 : xVi "Tablature" 225 3 m_Instr_copy 1 := ⟨ok_Instr_copy, w_163, w_161, w_162, TX4, 5, rfl⟩
theorem f_Tab_33 : xF "Tablature" 33 7 4 := ⟨RX8, TX8, 8, rfl, fun w hw => xWA_in (in_RX8 w hw).1 (in_RX8 w hw).2, by decide, w_22⟩
theorem w_164 : (Jvm.Cond.code ({ cls := "Tablature$Planner", name := "read", desc := "(LTablature$Instrument;LTablature$Piece;)V" } : Jvm.MethodName) prog_8_method_2_code (5 : Nat) (Option.none : Option Jvm.ClassFile.FieldType)) ∈ xWA := wd2 39 rfl rfl
theorem ok_Plan_read : xOk "" m_Plan_read 2 := ⟨w_164, w_17, ⟨by decide +kernel, by decide +kernel⟩, by decide +kernel⟩
theorem w_165 : (Jvm.Cond.instanceMethod ({ cls := "Tablature$Planner", name := "read", desc := "(LTablature$Instrument;LTablature$Piece;)V" } : Jvm.MethodName)) ∈ xWA := wd2 37 rfl rfl
theorem w_166 : (Jvm.Cond.selects "Tablature$Planner" ({ cls := "Tablature$Planner", name := "read", desc := "(LTablature$Instrument;LTablature$Piece;)V" } : Jvm.MethodName) ({ cls := "Tablature$Planner", name := "read", desc := "(LTablature$Instrument;LTablature$Piece;)V" } : Jvm.MethodName)) ∈ xWA := wd2 38 rfl rfl
theorem w_167 : (Jvm.Cond.methodLink "Tablature" (229 : Nat) ({ cls := "Tablature$Planner", name := "read", desc := "(LTablature$Instrument;LTablature$Piece;)V" } : Jvm.MethodName)) ∈ xWA := wd2 36 rfl rfl
theorem s_Tab_229 : xVi "Tablature" 229 5 m_Plan_read 2 := ⟨ok_Plan_read, w_167, w_165, w_166, TX6, 8, rfl⟩
theorem w_168 : (Jvm.Cond.code ({ cls := "Tablature$Planner", name := "solve", desc := "()V" } : Jvm.MethodName) prog_8_method_4_code (5 : Nat) (Option.none : Option Jvm.ClassFile.FieldType)) ∈ xWA := wd2 105 rfl rfl
theorem ok_Plan_solve : xOk "" m_Plan_solve 0 := ⟨w_168, w_17, ⟨by decide +kernel, by decide +kernel⟩, by decide +kernel⟩
theorem w_169 : (Jvm.Cond.instanceMethod ({ cls := "Tablature$Planner", name := "solve", desc := "()V" } : Jvm.MethodName)) ∈ xWA := wd2 103 rfl rfl
theorem w_170 : (Jvm.Cond.selects "Tablature$Planner" ({ cls := "Tablature$Planner", name := "solve", desc := "()V" } : Jvm.MethodName) ({ cls := "Tablature$Planner", name := "solve", desc := "()V" } : Jvm.MethodName)) ∈ xWA := wd2 104 rfl rfl
theorem w_171 : (Jvm.Cond.methodLink "Tablature" (233 : Nat) ({ cls := "Tablature$Planner", name := "solve", desc := "()V" } : Jvm.MethodName)) ∈ xWA := wd2 102 rfl rfl
theorem s_Tab_233 : xVi "Tablature" 233 5 m_Plan_solve 0 := ⟨ok_Plan_solve, w_171, w_169, w_170, TX6, 8, rfl⟩
theorem w_172 : (Jvm.Cond.fieldLink "Tablature" (236 : Nat) "Tablature$Planner" "fixed" "[I") ∈ xWA := wd1 180 rfl rfl
theorem f_Tab_236 : xF "Tablature" 236 5 1 := ⟨RX6, TX6, 8, rfl, fun w hw => xWA_in (in_RX6 w hw).1 (in_RX6 w hw).2, by decide, w_172⟩
theorem w_173 : (Jvm.Cond.constantLong "Tablature" (239 : Nat) (58104 : Int64)) ∈ xWA := wd2 167 rfl rfl
theorem k_Tab_239 : (Jvm.Cond.constantLong "Tablature" (239 : Nat) (58104 : Int64)) ∈ xWA := w_173
theorem w_174 : (Jvm.Cond.code ({ cls := "Tablature", name := "mix", desc := "(JI)J" } : Jvm.MethodName) prog_1_method_31_code (3 : Nat) (Option.some Jvm.ClassFile.FieldType.long)) ∈ xWA := wd2 187 rfl rfl
theorem ok_Tab_mix : xOk "" m_Tab_mix 2 := ⟨w_174, w_36, ⟨by decide +kernel, by decide +kernel⟩, by decide +kernel⟩
theorem w_175 : (Jvm.Cond.static ({ cls := "Tablature", name := "mix", desc := "(JI)J" } : Jvm.MethodName)) ∈ xWA := wd2 186 rfl rfl
theorem w_176 : (Jvm.Cond.methodLink "Tablature" (241 : Nat) ({ cls := "Tablature", name := "mix", desc := "(JI)J" } : Jvm.MethodName)) ∈ xWA := wd2 185 rfl rfl
theorem s_Tab_241 : xS "Tablature" 241 m_Tab_mix 2 := ⟨ok_Tab_mix, w_176, w_175⟩
theorem w_177 : (Jvm.Cond.code ({ cls := "Tablature", name := "mixChord", desc := "(JI)J" } : Jvm.MethodName) prog_1_method_29_code (7 : Nat) (Option.some Jvm.ClassFile.FieldType.long)) ∈ xWA := wd2 192 rfl rfl
theorem ok_Tab_mixChord : xOk "" m_Tab_mixChord 2 := ⟨w_177, w_36, ⟨by decide +kernel, by decide +kernel⟩, by decide +kernel⟩
theorem w_178 : (Jvm.Cond.instanceMethod ({ cls := "Tablature", name := "mixChord", desc := "(JI)J" } : Jvm.MethodName)) ∈ xWA := wd2 191 rfl rfl
theorem sel_7 : Cond.selects m_Tab_mixChord.1.cls m_Tab_mixChord.1 m_Tab_mixChord.1 ∈ xWA := xWA_in (List.mem_append_left _ (List.mem_of_getElem? (i := 7) (by decide +kernel))) rfl
theorem w_179 : (Jvm.Cond.methodLink "Tablature" (245 : Nat) ({ cls := "Tablature", name := "mixChord", desc := "(JI)J" } : Jvm.MethodName)) ∈ xWA := wd2 189 rfl rfl
theorem s_Tab_245 : xVi "Tablature" 245 7 m_Tab_mixChord 2 := ⟨ok_Tab_mixChord, w_179, w_178, sel_7, TX8, 8, rfl⟩
theorem w_180 : (Jvm.Cond.code ({ cls := "Tablature", name := "bestCapo", desc := "()I" } : Jvm.MethodName) prog_1_method_25_code (5 : Nat) (Option.some Jvm.ClassFile.FieldType.int)) ∈ xWA := wd2 154 rfl rfl
theorem ok_Tab_bestCapo : xOk "" m_Tab_bestCapo 0 := ⟨w_180, w_36, ⟨by decide +kernel, by decide +kernel⟩, by decide +kernel⟩
theorem w_181 : (Jvm.Cond.instanceMethod ({ cls := "Tablature", name := "bestCapo", desc := "()I" } : Jvm.MethodName)) ∈ xWA := wd2 152 rfl rfl
theorem w_182 : (Jvm.Cond.selects "Tablature" ({ cls := "Tablature", name := "bestCapo", desc := "()I" } : Jvm.MethodName) ({ cls := "Tablature", name := "bestCapo", desc := "()I" } : Jvm.MethodName)) ∈ xWA := wd2 153 rfl rfl
theorem w_183 : (Jvm.Cond.methodLink "Tablature" (248 : Nat) ({ cls := "Tablature", name := "bestCapo", desc := "()I" } : Jvm.MethodName)) ∈ xWA := wd2 226 rfl rfl
theorem s_Tab_248 : xVi "Tablature" 248 7 m_Tab_bestCapo 0 := ⟨ok_Tab_bestCapo, w_183, w_181, w_182, TX8, 8, rfl⟩
theorem w_184 : (Jvm.Cond.code ({ cls := "Tablature", name := "totalWithout", desc := "(I)I" } : Jvm.MethodName) prog_1_method_26_code (2 : Nat) (Option.some Jvm.ClassFile.FieldType.int)) ∈ xWA := wd2 230 rfl rfl
theorem ok_Tab_totalWithout : xOk "" m_Tab_totalWithout 1 := ⟨w_184, w_36, ⟨by decide +kernel, by decide +kernel⟩, by decide +kernel⟩
theorem w_185 : (Jvm.Cond.instanceMethod ({ cls := "Tablature", name := "totalWithout", desc := "(I)I" } : Jvm.MethodName)) ∈ xWA := wd2 228 rfl rfl
theorem w_186 : (Jvm.Cond.selects "Tablature" ({ cls := "Tablature", name := "totalWithout", desc := "(I)I" } : Jvm.MethodName) ({ cls := "Tablature", name := "totalWithout", desc := "(I)I" } : Jvm.MethodName)) ∈ xWA := wd2 229 rfl rfl
theorem w_187 : (Jvm.Cond.methodLink "Tablature" (251 : Nat) ({ cls := "Tablature", name := "totalWithout", desc := "(I)I" } : Jvm.MethodName)) ∈ xWA := wd2 227 rfl rfl
theorem s_Tab_251 : xVi "Tablature" 251 7 m_Tab_totalWithout 1 := ⟨ok_Tab_totalWithout, w_187, w_185, w_186, TX8, 8, rfl⟩
theorem w_188 : (Jvm.Cond.fieldLink "Tablature" (254 : Nat) "Tablature$Planner" "grips" "[LTablature$Grips;") ∈ xWA := wd1 178 rfl rfl
theorem f_Tab_254 : xF "Tablature" 254 5 0 := ⟨RX6, TX6, 8, rfl, fun w hw => xWA_in (in_RX6 w hw).1 (in_RX6 w hw).2, by decide, w_188⟩
theorem w_189 : (Jvm.Cond.initialized "Tablature$Grips") ∈ xWA := wd1 7 rfl rfl
theorem w_190 : (Jvm.Cond.code ({ cls := "Tablature$Grips", name := "has", desc := "(I)Z" } : Jvm.MethodName) prog_4_method_2_code (2 : Nat) (Option.some Jvm.ClassFile.FieldType.boolean)) ∈ xWA := wd2 121 rfl rfl
theorem ok_Grips_has : xOk "" m_Grips_has 1 := ⟨w_190, w_189, ⟨by decide +kernel, by decide +kernel⟩, by decide +kernel⟩
theorem w_191 : (Jvm.Cond.instanceMethod ({ cls := "Tablature$Grips", name := "has", desc := "(I)Z" } : Jvm.MethodName)) ∈ xWA := wd2 119 rfl rfl
theorem w_192 : (Jvm.Cond.selects "Tablature$Grips" ({ cls := "Tablature$Grips", name := "has", desc := "(I)Z" } : Jvm.MethodName) ({ cls := "Tablature$Grips", name := "has", desc := "(I)Z" } : Jvm.MethodName)) ∈ xWA := wd2 120 rfl rfl
theorem w_193 : (Jvm.Cond.methodLink "Tablature" (258 : Nat) ({ cls := "Tablature$Grips", name := "has", desc := "(I)Z" } : Jvm.MethodName)) ∈ xWA := wd2 209 rfl rfl
theorem s_Tab_258 : xVi "Tablature" 258 1 m_Grips_has 1 := ⟨ok_Grips_has, w_193, w_191, w_192, TX2, 4, rfl⟩
theorem w_194 : (Jvm.Cond.code ({ cls := "Tablature", name := "mixGrip", desc := "(JI)J" } : Jvm.MethodName) prog_1_method_30_code (7 : Nat) (Option.some Jvm.ClassFile.FieldType.long)) ∈ xWA := wd2 213 rfl rfl
theorem ok_Tab_mixGrip : xOk "" m_Tab_mixGrip 2 := ⟨w_194, w_36, ⟨by decide +kernel, by decide +kernel⟩, by decide +kernel⟩
theorem w_195 : (Jvm.Cond.instanceMethod ({ cls := "Tablature", name := "mixGrip", desc := "(JI)J" } : Jvm.MethodName)) ∈ xWA := wd2 212 rfl rfl
theorem sel_9 : Cond.selects m_Tab_mixGrip.1.cls m_Tab_mixGrip.1 m_Tab_mixGrip.1 ∈ xWA := xWA_in (List.mem_append_left _ (List.mem_of_getElem? (i := 9) (by decide +kernel))) rfl
theorem w_196 : (Jvm.Cond.methodLink "Tablature" (261 : Nat) ({ cls := "Tablature", name := "mixGrip", desc := "(JI)J" } : Jvm.MethodName)) ∈ xWA := wd2 210 rfl rfl
theorem s_Tab_261 : xVi "Tablature" 261 7 m_Tab_mixGrip 2 := ⟨ok_Tab_mixGrip, w_196, w_195, sel_9, TX8, 8, rfl⟩
theorem w_197 : (Jvm.Cond.constantLong "Tablature" (264 : Nat) (31 : Int64)) ∈ xWA := wd2 188 rfl rfl
theorem k_Tab_264 : (Jvm.Cond.constantLong "Tablature" (264 : Nat) (31 : Int64)) ∈ xWA := w_197
theorem w_198 : (Jvm.Cond.code ({ cls := "Tablature$Planner", name := "griplessCount", desc := "()I" } : Jvm.MethodName) prog_8_method_9_code (3 : Nat) (Option.some Jvm.ClassFile.FieldType.int)) ∈ xWA := wd2 109 rfl rfl
theorem ok_Plan_griplessCount : xOk "" m_Plan_griplessCount 0 := ⟨w_198, w_17, ⟨by decide +kernel, by decide +kernel⟩, by decide +kernel⟩
theorem w_199 : (Jvm.Cond.instanceMethod ({ cls := "Tablature$Planner", name := "griplessCount", desc := "()I" } : Jvm.MethodName)) ∈ xWA := wd2 107 rfl rfl
theorem w_200 : (Jvm.Cond.selects "Tablature$Planner" ({ cls := "Tablature$Planner", name := "griplessCount", desc := "()I" } : Jvm.MethodName) ({ cls := "Tablature$Planner", name := "griplessCount", desc := "()I" } : Jvm.MethodName)) ∈ xWA := wd2 108 rfl rfl
theorem w_201 : (Jvm.Cond.methodLink "Tablature" (266 : Nat) ({ cls := "Tablature$Planner", name := "griplessCount", desc := "()I" } : Jvm.MethodName)) ∈ xWA := wd2 176 rfl rfl
theorem s_Tab_266 : xVi "Tablature" 266 5 m_Plan_griplessCount 0 := ⟨ok_Plan_griplessCount, w_201, w_199, w_200, TX6, 8, rfl⟩
theorem w_202 : (Jvm.Cond.code ({ cls := "Tablature$Planner", name := "fixedCount", desc := "()I" } : Jvm.MethodName) prog_8_method_10_code (3 : Nat) (Option.some Jvm.ClassFile.FieldType.int)) ∈ xWA := wd2 180 rfl rfl
theorem ok_Plan_fixedCount : xOk "" m_Plan_fixedCount 0 := ⟨w_202, w_17, ⟨by decide +kernel, by decide +kernel⟩, by decide +kernel⟩
theorem w_203 : (Jvm.Cond.instanceMethod ({ cls := "Tablature$Planner", name := "fixedCount", desc := "()I" } : Jvm.MethodName)) ∈ xWA := wd2 178 rfl rfl
theorem w_204 : (Jvm.Cond.selects "Tablature$Planner" ({ cls := "Tablature$Planner", name := "fixedCount", desc := "()I" } : Jvm.MethodName) ({ cls := "Tablature$Planner", name := "fixedCount", desc := "()I" } : Jvm.MethodName)) ∈ xWA := wd2 179 rfl rfl
theorem w_205 : (Jvm.Cond.methodLink "Tablature" (269 : Nat) ({ cls := "Tablature$Planner", name := "fixedCount", desc := "()I" } : Jvm.MethodName)) ∈ xWA := wd2 177 rfl rfl
theorem s_Tab_269 : xVi "Tablature" 269 5 m_Plan_fixedCount 0 := ⟨ok_Plan_fixedCount, w_205, w_203, w_204, TX6, 8, rfl⟩
theorem w_206 : (Jvm.Cond.code ({ cls := "Tablature$Planner", name := "sumOfMoves", desc := "()I" } : Jvm.MethodName) prog_8_method_8_code (3 : Nat) (Option.some Jvm.ClassFile.FieldType.int)) ∈ xWA := wd2 184 rfl rfl
theorem ok_Plan_sumOfMoves : xOk "" m_Plan_sumOfMoves 0 := ⟨w_206, w_17, ⟨by decide +kernel, by decide +kernel⟩, by decide +kernel⟩
theorem w_207 : (Jvm.Cond.instanceMethod ({ cls := "Tablature$Planner", name := "sumOfMoves", desc := "()I" } : Jvm.MethodName)) ∈ xWA := wd2 182 rfl rfl
theorem w_208 : (Jvm.Cond.selects "Tablature$Planner" ({ cls := "Tablature$Planner", name := "sumOfMoves", desc := "()I" } : Jvm.MethodName) ({ cls := "Tablature$Planner", name := "sumOfMoves", desc := "()I" } : Jvm.MethodName)) ∈ xWA := wd2 183 rfl rfl
theorem w_209 : (Jvm.Cond.methodLink "Tablature" (272 : Nat) ({ cls := "Tablature$Planner", name := "sumOfMoves", desc := "()I" } : Jvm.MethodName)) ∈ xWA := wd2 181 rfl rfl
theorem s_Tab_272 : xVi "Tablature" 272 5 m_Plan_sumOfMoves 0 := ⟨ok_Plan_sumOfMoves, w_209, w_207, w_208, TX6, 8, rfl⟩
theorem w_210 : (Jvm.Cond.fieldLink "Tablature" (275 : Nat) "Tablature$Chord" "size" "I") ∈ xWA := wd1 77 rfl rfl
theorem f_Tab_275 : xF "Tablature" 275 0 1 := ⟨RX0, TX0, 4, rfl, fun w hw => xWA_in (in_RX0 w hw).1 (in_RX0 w hw).2, by decide, w_210⟩
theorem w_211 : (Jvm.Cond.code ({ cls := "Tablature$Chord", name := "lowest", desc := "()I" } : Jvm.MethodName) prog_2_method_4_code (3 : Nat) (Option.some Jvm.ClassFile.FieldType.int)) ∈ xWA := wd2 200 rfl rfl
theorem ok_Chord_lowest : xOk "" m_Chord_lowest 0 := ⟨w_211, w_85, ⟨by decide +kernel, by decide +kernel⟩, by decide +kernel⟩
theorem w_212 : (Jvm.Cond.instanceMethod ({ cls := "Tablature$Chord", name := "lowest", desc := "()I" } : Jvm.MethodName)) ∈ xWA := wd2 198 rfl rfl
theorem w_213 : (Jvm.Cond.selects "Tablature$Chord" ({ cls := "Tablature$Chord", name := "lowest", desc := "()I" } : Jvm.MethodName) ({ cls := "Tablature$Chord", name := "lowest", desc := "()I" } : Jvm.MethodName)) ∈ xWA := wd2 199 rfl rfl
theorem w_214 : (Jvm.Cond.methodLink "Tablature" (278 : Nat) ({ cls := "Tablature$Chord", name := "lowest", desc := "()I" } : Jvm.MethodName)) ∈ xWA := wd2 197 rfl rfl
theorem s_Tab_278 : xVi "Tablature" 278 0 m_Chord_lowest 0 := ⟨ok_Chord_lowest, w_214, w_212, w_213, TX0, 4, rfl⟩
theorem w_215 : (Jvm.Cond.code ({ cls := "Tablature$Chord", name := "highest", desc := "()I" } : Jvm.MethodName) prog_2_method_5_code (3 : Nat) (Option.some Jvm.ClassFile.FieldType.int)) ∈ xWA := wd2 205 rfl rfl
theorem ok_Chord_highest : xOk "" m_Chord_highest 0 := ⟨w_215, w_85, ⟨by decide +kernel, by decide +kernel⟩, by decide +kernel⟩
theorem w_216 : (Jvm.Cond.instanceMethod ({ cls := "Tablature$Chord", name := "highest", desc := "()I" } : Jvm.MethodName)) ∈ xWA := wd2 203 rfl rfl
theorem w_217 : (Jvm.Cond.selects "Tablature$Chord" ({ cls := "Tablature$Chord", name := "highest", desc := "()I" } : Jvm.MethodName) ({ cls := "Tablature$Chord", name := "highest", desc := "()I" } : Jvm.MethodName)) ∈ xWA := wd2 204 rfl rfl
theorem w_218 : (Jvm.Cond.methodLink "Tablature" (281 : Nat) ({ cls := "Tablature$Chord", name := "highest", desc := "()I" } : Jvm.MethodName)) ∈ xWA := wd2 202 rfl rfl
theorem s_Tab_281 : xVi "Tablature" 281 0 m_Chord_highest 0 := ⟨ok_Chord_highest, w_218, w_216, w_217, TX0, 4, rfl⟩
theorem w_219 : (Jvm.Cond.fieldLink "Tablature" (284 : Nat) "Tablature$Chord" "length" "I") ∈ xWA := wd1 81 rfl rfl
theorem f_Tab_284 : xF "Tablature" 284 0 2 := ⟨RX0, TX0, 4, rfl, fun w hw => xWA_in (in_RX0 w hw).1 (in_RX0 w hw).2, by decide, w_219⟩
theorem w_220 : (Jvm.Cond.fieldLink "Tablature" (287 : Nat) "Tablature$Grips" "count" "I") ∈ xWA := wd1 167 rfl rfl
theorem f_Tab_287 : xF "Tablature" 287 1 3 := ⟨RX2, TX2, 4, rfl, fun w hw => xWA_in (in_RX2 w hw).1 (in_RX2 w hw).2, by decide, w_220⟩
theorem w_221 : (Jvm.Cond.code ({ cls := "Tablature$Hand", name := "effort", desc := "()I" } : Jvm.MethodName) prog_5_method_8_code (1 : Nat) (Option.some Jvm.ClassFile.FieldType.int)) ∈ xWA := wd2 76 rfl rfl
theorem ok_Hand_effort : xOk "" m_Hand_effort 0 := ⟨w_221, w_31, ⟨by decide +kernel, by decide +kernel⟩, by decide +kernel⟩
theorem w_222 : (Jvm.Cond.instanceMethod ({ cls := "Tablature$Hand", name := "effort", desc := "()I" } : Jvm.MethodName)) ∈ xWA := wd2 74 rfl rfl
theorem w_223 : (Jvm.Cond.selects "Tablature$Hand" ({ cls := "Tablature$Hand", name := "effort", desc := "()I" } : Jvm.MethodName) ({ cls := "Tablature$Hand", name := "effort", desc := "()I" } : Jvm.MethodName)) ∈ xWA := wd2 75 rfl rfl
theorem w_224 : (Jvm.Cond.methodLink "Tablature" (288 : Nat) ({ cls := "Tablature$Hand", name := "effort", desc := "()I" } : Jvm.MethodName)) ∈ xWA := wd2 219 rfl rfl
theorem s_Tab_288 : xVi "Tablature" 288 2 m_Hand_effort 0 := ⟨ok_Hand_effort, w_224, w_222, w_223, TX3, 8, rfl⟩
theorem w_225 : (Jvm.Cond.fieldLink "Tablature" (291 : Nat) "Tablature$Hand" "low" "I") ∈ xWA := wd1 123 rfl rfl
theorem f_Tab_291 : xF "Tablature" 291 2 0 := ⟨RX3, TX3, 8, rfl, fun w hw => xWA_in (in_RX3 w hw).1 (in_RX3 w hw).2, by decide, w_225⟩
theorem w_226 : (Jvm.Cond.fieldLink "Tablature" (294 : Nat) "Tablature$Hand" "high" "I") ∈ xWA := wd1 125 rfl rfl
theorem f_Tab_294 : xF "Tablature" 294 2 1 := ⟨RX3, TX3, 8, rfl, fun w hw => xWA_in (in_RX3 w hw).1 (in_RX3 w hw).2, by decide, w_226⟩
theorem w_227 : (Jvm.Cond.code ({ cls := "Tablature$Hand", name := "fingerCount", desc := "()I" } : Jvm.MethodName) prog_5_method_6_code (1 : Nat) (Option.some Jvm.ClassFile.FieldType.int)) ∈ xWA := wd2 72 rfl rfl
theorem ok_Hand_fingerCount : xOk "" m_Hand_fingerCount 0 := ⟨w_227, w_31, ⟨by decide +kernel, by decide +kernel⟩, by decide +kernel⟩
theorem w_228 : (Jvm.Cond.instanceMethod ({ cls := "Tablature$Hand", name := "fingerCount", desc := "()I" } : Jvm.MethodName)) ∈ xWA := wd2 70 rfl rfl
theorem w_229 : (Jvm.Cond.selects "Tablature$Hand" ({ cls := "Tablature$Hand", name := "fingerCount", desc := "()I" } : Jvm.MethodName) ({ cls := "Tablature$Hand", name := "fingerCount", desc := "()I" } : Jvm.MethodName)) ∈ xWA := wd2 71 rfl rfl
theorem w_230 : (Jvm.Cond.methodLink "Tablature" (297 : Nat) ({ cls := "Tablature$Hand", name := "fingerCount", desc := "()I" } : Jvm.MethodName)) ∈ xWA := wd2 220 rfl rfl
theorem s_Tab_297 : xVi "Tablature" 297 2 m_Hand_fingerCount 0 := ⟨ok_Hand_fingerCount, w_230, w_228, w_229, TX3, 8, rfl⟩
theorem w_231 : (Jvm.Cond.fieldLink "Tablature" (300 : Nat) "Tablature$Hand" "barre" "Z") ∈ xWA := wd1 130 rfl rfl
theorem f_Tab_300 : xF "Tablature" 300 2 3 := ⟨RX3, TX3, 8, rfl, fun w hw => xWA_in (in_RX3 w hw).1 (in_RX3 w hw).2, by decide, w_231⟩
theorem w_232 : (Jvm.Cond.fieldLink "Tablature" (303 : Nat) "Tablature$Hand" "sounding" "I") ∈ xWA := wd1 128 rfl rfl
theorem f_Tab_303 : xF "Tablature" 303 2 2 := ⟨RX3, TX3, 8, rfl, fun w hw => xWA_in (in_RX3 w hw).1 (in_RX3 w hw).2, by decide, w_232⟩
theorem f_Tab_39 : xF "Tablature" 39 7 5 := ⟨RX8, TX8, 8, rfl, fun w hw => xWA_in (in_RX8 w hw).1 (in_RX8 w hw).2, by decide, w_28⟩
theorem w_233 : (Jvm.Cond.code ({ cls := "Tablature$Shapes", name := "forget", desc := "()V" } : Jvm.MethodName) prog_9_method_2_code (1 : Nat) (Option.none : Option Jvm.ClassFile.FieldType)) ∈ xWA := wd3 152 rfl rfl
theorem ok_Shapes_forget : xOk "" m_Shapes_forget 0 := ⟨w_233, w_25, ⟨by decide +kernel, by decide +kernel⟩, by decide +kernel⟩
theorem w_234 : (Jvm.Cond.instanceMethod ({ cls := "Tablature$Shapes", name := "forget", desc := "()V" } : Jvm.MethodName)) ∈ xWA := wd3 150 rfl rfl
theorem w_235 : (Jvm.Cond.selects "Tablature$Shapes" ({ cls := "Tablature$Shapes", name := "forget", desc := "()V" } : Jvm.MethodName) ({ cls := "Tablature$Shapes", name := "forget", desc := "()V" } : Jvm.MethodName)) ∈ xWA := wd3 151 rfl rfl
theorem w_236 : (Jvm.Cond.methodLink "Tablature" (306 : Nat) ({ cls := "Tablature$Shapes", name := "forget", desc := "()V" } : Jvm.MethodName)) ∈ xWA := wd3 149 rfl rfl
theorem s_Tab_306 : xVi "Tablature" 306 6 m_Shapes_forget 0 := ⟨ok_Shapes_forget, w_236, w_234, w_235, TX7, 8, rfl⟩
theorem f_Tab_50 : xF "Tablature" 50 7 7 := ⟨RX8, TX8, 8, rfl, fun w hw => xWA_in (in_RX8 w hw).1 (in_RX8 w hw).2, by decide, w_35⟩
theorem w_237 : (Jvm.Cond.code ({ cls := "Tablature$Shapes", name := "isOf", desc := "(III)Z" } : Jvm.MethodName) prog_9_method_3_code (4 : Nat) (Option.some Jvm.ClassFile.FieldType.boolean)) ∈ xWA := wd3 70 rfl rfl
theorem ok_Shapes_isOf : xOk "" m_Shapes_isOf 3 := ⟨w_237, w_25, ⟨by decide +kernel, by decide +kernel⟩, by decide +kernel⟩
theorem w_238 : (Jvm.Cond.instanceMethod ({ cls := "Tablature$Shapes", name := "isOf", desc := "(III)Z" } : Jvm.MethodName)) ∈ xWA := wd3 68 rfl rfl
theorem w_239 : (Jvm.Cond.selects "Tablature$Shapes" ({ cls := "Tablature$Shapes", name := "isOf", desc := "(III)Z" } : Jvm.MethodName) ({ cls := "Tablature$Shapes", name := "isOf", desc := "(III)Z" } : Jvm.MethodName)) ∈ xWA := wd3 69 rfl rfl
theorem w_240 : (Jvm.Cond.methodLink "Tablature" (309 : Nat) ({ cls := "Tablature$Shapes", name := "isOf", desc := "(III)Z" } : Jvm.MethodName)) ∈ xWA := wd3 67 rfl rfl
theorem s_Tab_309 : xVi "Tablature" 309 6 m_Shapes_isOf 3 := ⟨ok_Shapes_isOf, w_240, w_238, w_239, TX7, 8, rfl⟩
theorem w_241 : (Jvm.Cond.code ({ cls := "Tablature$Shapes", name := "seek", desc := "(LTablature$Instrument;III)V" } : Jvm.MethodName) prog_9_method_4_code (5 : Nat) (Option.none : Option Jvm.ClassFile.FieldType)) ∈ xWA := wd3 74 rfl rfl
theorem ok_Shapes_seek : xOk "" m_Shapes_seek 4 := ⟨w_241, w_25, ⟨by decide +kernel, by decide +kernel⟩, by decide +kernel⟩
theorem w_242 : (Jvm.Cond.instanceMethod ({ cls := "Tablature$Shapes", name := "seek", desc := "(LTablature$Instrument;III)V" } : Jvm.MethodName)) ∈ xWA := wd3 72 rfl rfl
theorem w_243 : (Jvm.Cond.selects "Tablature$Shapes" ({ cls := "Tablature$Shapes", name := "seek", desc := "(LTablature$Instrument;III)V" } : Jvm.MethodName) ({ cls := "Tablature$Shapes", name := "seek", desc := "(LTablature$Instrument;III)V" } : Jvm.MethodName)) ∈ xWA := wd3 73 rfl rfl
theorem w_244 : (Jvm.Cond.methodLink "Tablature" (313 : Nat) ({ cls := "Tablature$Shapes", name := "seek", desc := "(LTablature$Instrument;III)V" } : Jvm.MethodName)) ∈ xWA := wd3 71 rfl rfl
theorem s_Tab_313 : xVi "Tablature" 313 6 m_Shapes_seek 4 := ⟨ok_Shapes_seek, w_244, w_242, w_243, TX7, 8, rfl⟩
theorem w_245 : (Jvm.Cond.methodLink "Tablature" (321 : Nat) ({ cls := "java/lang/IndexOutOfBoundsException", name := "<init>", desc := "(Ljava/lang/String;)V" } : Jvm.MethodName)) ∈ xWA := wd3 37 rfl rfl
theorem s_Tab_321 : (Jvm.Cond.methodLink "Tablature" (321 : Nat) ({ cls := "java/lang/IndexOutOfBoundsException", name := "<init>", desc := "(Ljava/lang/String;)V" } : Jvm.MethodName)) ∈ xWA := w_245
theorem w_246 : (Jvm.Cond.initialized "java/lang/Integer") ∈ xWA := wd1 18 rfl rfl
theorem w_247 : (Jvm.Cond.code ({ cls := "java/lang/Integer", name := "bitCount", desc := "(I)I" } : Jvm.MethodName) prog_16_method_49_code (1 : Nat) (Option.some Jvm.ClassFile.FieldType.int)) ∈ xWA := wd2 131 rfl rfl
theorem ok_Integer_bitCount : xOk "" m_Integer_bitCount 1 := ⟨w_247, w_246, ⟨by decide +kernel, by decide +kernel⟩, by decide +kernel⟩
theorem w_248 : (Jvm.Cond.static ({ cls := "java/lang/Integer", name := "bitCount", desc := "(I)I" } : Jvm.MethodName)) ∈ xWA := wd2 130 rfl rfl
theorem w_249 : (Jvm.Cond.methodLink "Tablature" (334 : Nat) ({ cls := "java/lang/Integer", name := "bitCount", desc := "(I)I" } : Jvm.MethodName)) ∈ xWA := wd4 83 rfl rfl
theorem s_Tab_334 : xS "Tablature" 334 m_Integer_bitCount 1 := ⟨ok_Integer_bitCount, w_249, w_248⟩
theorem w_250 : (Jvm.Cond.methodLink "TablatureModel" (1 : Nat) ({ cls := "java/lang/Object", name := "<init>", desc := "()V" } : Jvm.MethodName)) ∈ xWA := wd4 129 rfl rfl
theorem s_Model_1 : (Jvm.Cond.methodLink "TablatureModel" (1 : Nat) ({ cls := "java/lang/Object", name := "<init>", desc := "()V" } : Jvm.MethodName)) ∈ xWA := w_250
theorem w_251 : (Jvm.Cond.fieldLink "TablatureModel" (9 : Nat) "TablatureModel" "open" "[I") ∈ xWA := wd4 133 rfl rfl
theorem p_Model_9 : xP "TablatureModel" 9 8 2 (.array .int) true := ⟨RX9, TX9, 16, tyX9, rfl, fun w hw => xWA_in (in_RX9 w hw).1 (in_RX9 w hw).2, by decide, w_251, tyX9_ok, nmX9, rfl, by decide +kernel, Or.inr rfl⟩
theorem w_252 : (Jvm.Cond.fieldLink "TablatureModel" (13 : Nat) "TablatureModel" "isSlack" "[Z") ∈ xWA := wd4 134 rfl rfl
theorem p_Model_13 : xP "TablatureModel" 13 8 3 (.array .boolean) true := ⟨RX9, TX9, 16, tyX9, rfl, fun w hw => xWA_in (in_RX9 w hw).1 (in_RX9 w hw).2, by decide, w_252, tyX9_ok, nmX9, rfl, by decide +kernel, Or.inr rfl⟩
theorem w_253 : (Jvm.Cond.fieldLink "TablatureModel" (17 : Nat) "TablatureModel" "reach" "I") ∈ xWA := wd4 136 rfl rfl
theorem p_Model_17 : xP "TablatureModel" 17 8 5 .int false := ⟨RX9, TX9, 16, tyX9, rfl, fun w hw => xWA_in (in_RX9 w hw).1 (in_RX9 w hw).2, by decide, w_253, tyX9_ok, nmX9, rfl, by decide +kernel, Or.inl rfl⟩
theorem w_254 : (Jvm.Cond.classLink "TablatureModel" (21 : Nat) "[I") ∈ xWA := wd4 130 rfl rfl
theorem a_Model_21 : Cond.classLink "TablatureModel" 21 "[I" ∈ xWA := w_254
theorem w_255 : (Jvm.Cond.fieldLink "TablatureModel" (22 : Nat) "TablatureModel" "pitches" "[[I") ∈ xWA := wd4 138 rfl rfl
theorem p_Model_22 : xP "TablatureModel" 22 8 7 (.array (.array .int)) true := ⟨RX9, TX9, 16, tyX9, rfl, fun w hw => xWA_in (in_RX9 w hw).1 (in_RX9 w hw).2, by decide, w_255, tyX9_ok, nmX9, rfl, by decide +kernel, Or.inr rfl⟩
theorem w_256 : (Jvm.Cond.fieldLink "TablatureModel" (26 : Nat) "TablatureModel" "length" "[I") ∈ xWA := wd4 139 rfl rfl
theorem p_Model_26 : xP "TablatureModel" 26 8 8 (.array .int) true := ⟨RX9, TX9, 16, tyX9, rfl, fun w hw => xWA_in (in_RX9 w hw).1 (in_RX9 w hw).2, by decide, w_256, tyX9_ok, nmX9, rfl, by decide +kernel, Or.inr rfl⟩
theorem w_257 : (Jvm.Cond.fieldLink "TablatureModel" (29 : Nat) "TablatureModel" "isFixed" "[Z") ∈ xWA := wd4 140 rfl rfl
theorem p_Model_29 : xP "TablatureModel" 29 8 9 (.array .boolean) true := ⟨RX9, TX9, 16, tyX9, rfl, fun w hw => xWA_in (in_RX9 w hw).1 (in_RX9 w hw).2, by decide, w_257, tyX9_ok, nmX9, rfl, by decide +kernel, Or.inr rfl⟩
theorem w_258 : (Jvm.Cond.fieldLink "TablatureModel" (32 : Nat) "TablatureModel" "fixed" "[[I") ∈ xWA := wd4 141 rfl rfl
theorem p_Model_32 : xP "TablatureModel" 32 8 10 (.array (.array .int)) true := ⟨RX9, TX9, 16, tyX9, rfl, fun w hw => xWA_in (in_RX9 w hw).1 (in_RX9 w hw).2, by decide, w_258, tyX9_ok, nmX9, rfl, by decide +kernel, Or.inr rfl⟩
theorem w_259 : (Jvm.Cond.fieldLink "TablatureModel" (35 : Nat) "TablatureModel" "found" "[[I") ∈ xWA := wd4 142 rfl rfl
theorem p_Model_35 : xP "TablatureModel" 35 8 11 (.array (.array .int)) false := ⟨RX9, TX9, 16, tyX9, rfl, fun w hw => xWA_in (in_RX9 w hw).1 (in_RX9 w hw).2, by decide, w_259, tyX9_ok, nmX9, rfl, by decide +kernel, Or.inl rfl⟩
theorem w_260 : (Jvm.Cond.fieldLink "TablatureModel" (38 : Nat) "TablatureModel" "efforts" "[I") ∈ xWA := wd4 143 rfl rfl
theorem p_Model_38 : xP "TablatureModel" 38 8 12 (.array .int) true := ⟨RX9, TX9, 16, tyX9, rfl, fun w hw => xWA_in (in_RX9 w hw).1 (in_RX9 w hw).2, by decide, w_260, tyX9_ok, nmX9, rfl, by decide +kernel, Or.inr rfl⟩
theorem w_261 : (Jvm.Cond.fieldLink "TablatureModel" (41 : Nat) "TablatureModel" "best" "[I") ∈ xWA := wd4 146 rfl rfl
theorem p_Model_41 : xP "TablatureModel" 41 8 15 (.array .int) false := ⟨RX9, TX9, 16, tyX9, rfl, fun w hw => xWA_in (in_RX9 w hw).1 (in_RX9 w hw).2, by decide, w_261, tyX9_ok, nmX9, rfl, by decide +kernel, Or.inl rfl⟩
theorem w_262 : (Jvm.Cond.fieldLink "TablatureModel" (44 : Nat) "TablatureModel" "thrown" "I") ∈ xWA := wd4 131 rfl rfl
theorem f_Model_44 : xF "TablatureModel" 44 8 0 := ⟨RX9, TX9, 16, rfl, fun w hw => xWA_in (in_RX9 w hw).1 (in_RX9 w hw).2, by decide, w_262⟩
theorem p_Model_44 : xP "TablatureModel" 44 8 0 .int false := ⟨RX9, TX9, 16, tyX9, rfl, fun w hw => xWA_in (in_RX9 w hw).1 (in_RX9 w hw).2, by decide, w_262, tyX9_ok, nmX9, rfl, by decide +kernel, Or.inl rfl⟩
theorem w_263 : (Jvm.Cond.fieldLink "TablatureModel" (47 : Nat) "TablatureModel" "strings" "I") ∈ xWA := wd4 132 rfl rfl
theorem f_Model_47 : xF "TablatureModel" 47 8 1 := ⟨RX9, TX9, 16, rfl, fun w hw => xWA_in (in_RX9 w hw).1 (in_RX9 w hw).2, by decide, w_263⟩
theorem w_264 : (Jvm.Cond.initialized "TablatureModel") ∈ xWA := wd1 9 rfl rfl
theorem w_265 : (Jvm.Cond.code ({ cls := "TablatureModel", name := "isIn", desc := "(III)Z" } : Jvm.MethodName) prog_11_method_4_code (3 : Nat) (Option.some Jvm.ClassFile.FieldType.boolean)) ∈ xWA := wd4 190 rfl rfl
theorem ok_Model_isIn : xOk "" m_Model_isIn 3 := ⟨w_265, w_264, ⟨by decide +kernel, by decide +kernel⟩, by decide +kernel⟩
theorem w_266 : (Jvm.Cond.static ({ cls := "TablatureModel", name := "isIn", desc := "(III)Z" } : Jvm.MethodName)) ∈ xWA := wd4 189 rfl rfl
theorem w_267 : (Jvm.Cond.methodLink "TablatureModel" (50 : Nat) ({ cls := "TablatureModel", name := "isIn", desc := "(III)Z" } : Jvm.MethodName)) ∈ xWA := wd4 188 rfl rfl
theorem s_Model_50 : xS "TablatureModel" 50 m_Model_isIn 3 := ⟨ok_Model_isIn, w_267, w_266⟩
theorem w_268 : (Jvm.Cond.fieldLink "TablatureModel" (54 : Nat) "TablatureModel" "chords" "I") ∈ xWA := wd4 137 rfl rfl
theorem f_Model_54 : xF "TablatureModel" 54 8 6 := ⟨RX9, TX9, 16, rfl, fun w hw => xWA_in (in_RX9 w hw).1 (in_RX9 w hw).2, by decide, w_268⟩
theorem w_269 : (Jvm.Cond.code ({ cls := "TablatureModel", name := "no", desc := "(I)I" } : Jvm.MethodName) prog_11_method_3_code (2 : Nat) (Option.some Jvm.ClassFile.FieldType.int)) ∈ xWA := wd4 194 rfl rfl
theorem ok_Model_no : xOk "" m_Model_no 1 := ⟨w_269, w_264, ⟨by decide +kernel, by decide +kernel⟩, by decide +kernel⟩
theorem w_270 : (Jvm.Cond.instanceMethod ({ cls := "TablatureModel", name := "no", desc := "(I)I" } : Jvm.MethodName)) ∈ xWA := wd4 193 rfl rfl
theorem sel_19 : Cond.selects m_Model_no.1.cls m_Model_no.1 m_Model_no.1 ∈ xWA := xWA_in (List.mem_append_left _ (List.mem_of_getElem? (i := 19) (by decide +kernel))) rfl
theorem w_271 : (Jvm.Cond.methodLink "TablatureModel" (57 : Nat) ({ cls := "TablatureModel", name := "no", desc := "(I)I" } : Jvm.MethodName)) ∈ xWA := wd4 191 rfl rfl
theorem s_Model_57 : xVi "TablatureModel" 57 8 m_Model_no 1 := ⟨ok_Model_no, w_271, w_270, sel_19, TX9, 16, rfl⟩
theorem f_Model_9 : xF "TablatureModel" 9 8 2 := ⟨RX9, TX9, 16, rfl, fun w hw => xWA_in (in_RX9 w hw).1 (in_RX9 w hw).2, by decide, w_251⟩
theorem p_Model_47 : xP "TablatureModel" 47 8 1 .int false := ⟨RX9, TX9, 16, tyX9, rfl, fun w hw => xWA_in (in_RX9 w hw).1 (in_RX9 w hw).2, by decide, w_263, tyX9_ok, nmX9, rfl, by decide +kernel, Or.inl rfl⟩
theorem w_272 : (Jvm.Cond.code ({ cls := "TablatureModel", name := "isString", desc := "(I)Z" } : Jvm.MethodName) prog_11_method_5_code (2 : Nat) (Option.some Jvm.ClassFile.FieldType.boolean)) ∈ xWA := wd4 202 rfl rfl
theorem ok_Model_isString : xOk "" m_Model_isString 1 := ⟨w_272, w_264, ⟨by decide +kernel, by decide +kernel⟩, by decide +kernel⟩
theorem w_273 : (Jvm.Cond.instanceMethod ({ cls := "TablatureModel", name := "isString", desc := "(I)Z" } : Jvm.MethodName)) ∈ xWA := wd4 201 rfl rfl
theorem sel_20 : Cond.selects m_Model_isString.1.cls m_Model_isString.1 m_Model_isString.1 ∈ xWA := xWA_in (List.mem_append_left _ (List.mem_of_getElem? (i := 20) (by decide +kernel))) rfl
theorem w_274 : (Jvm.Cond.methodLink "TablatureModel" (61 : Nat) ({ cls := "TablatureModel", name := "isString", desc := "(I)Z" } : Jvm.MethodName)) ∈ xWA := wd4 199 rfl rfl
theorem s_Model_61 : xVi "TablatureModel" 61 8 m_Model_isString 1 := ⟨ok_Model_isString, w_274, w_273, sel_20, TX9, 16, rfl⟩
theorem f_Model_13 : xF "TablatureModel" 13 8 3 := ⟨RX9, TX9, 16, rfl, fun w hw => xWA_in (in_RX9 w hw).1 (in_RX9 w hw).2, by decide, w_252⟩
theorem w_275 : (Jvm.Cond.code ({ cls := "TablatureModel", name := "slack", desc := "()I" } : Jvm.MethodName) prog_11_method_9_code (3 : Nat) (Option.some Jvm.ClassFile.FieldType.int)) ∈ xWA := wd4 210 rfl rfl
theorem ok_Model_slack : xOk "" m_Model_slack 0 := ⟨w_275, w_264, ⟨by decide +kernel, by decide +kernel⟩, by decide +kernel⟩
theorem w_276 : (Jvm.Cond.instanceMethod ({ cls := "TablatureModel", name := "slack", desc := "()I" } : Jvm.MethodName)) ∈ xWA := wd4 209 rfl rfl
theorem sel_21 : Cond.selects m_Model_slack.1.cls m_Model_slack.1 m_Model_slack.1 ∈ xWA := xWA_in (List.mem_append_left _ (List.mem_of_getElem? (i := 21) (by decide +kernel))) rfl
theorem w_277 : (Jvm.Cond.methodLink "TablatureModel" (65 : Nat) ({ cls := "TablatureModel", name := "slack", desc := "()I" } : Jvm.MethodName)) ∈ xWA := wd4 207 rfl rfl
theorem s_Model_65 : xVi "TablatureModel" 65 8 m_Model_slack 0 := ⟨ok_Model_slack, w_277, w_276, sel_21, TX9, 16, rfl⟩
theorem w_278 : (Jvm.Cond.fieldLink "TablatureModel" (69 : Nat) "TablatureModel" "capo" "I") ∈ xWA := wd4 135 rfl rfl
theorem f_Model_69 : xF "TablatureModel" 69 8 4 := ⟨RX9, TX9, 16, rfl, fun w hw => xWA_in (in_RX9 w hw).1 (in_RX9 w hw).2, by decide, w_278⟩
theorem p_Model_69 : xP "TablatureModel" 69 8 4 .int false := ⟨RX9, TX9, 16, tyX9, rfl, fun w hw => xWA_in (in_RX9 w hw).1 (in_RX9 w hw).2, by decide, w_278, tyX9_ok, nmX9, rfl, by decide +kernel, Or.inl rfl⟩
theorem f_Model_17 : xF "TablatureModel" 17 8 5 := ⟨RX9, TX9, 16, rfl, fun w hw => xWA_in (in_RX9 w hw).1 (in_RX9 w hw).2, by decide, w_253⟩
theorem w_279 : (Jvm.Cond.code ({ cls := "TablatureModel", name := "fretNow", desc := "(II)I" } : Jvm.MethodName) prog_11_method_13_code (4 : Nat) (Option.some Jvm.ClassFile.FieldType.int)) ∈ xWA := wd4 226 rfl rfl
theorem ok_Model_fretNow : xOk "" m_Model_fretNow 2 := ⟨w_279, w_264, ⟨by decide +kernel, by decide +kernel⟩, by decide +kernel⟩
theorem w_280 : (Jvm.Cond.instanceMethod ({ cls := "TablatureModel", name := "fretNow", desc := "(II)I" } : Jvm.MethodName)) ∈ xWA := wd4 225 rfl rfl
theorem sel_22 : Cond.selects m_Model_fretNow.1.cls m_Model_fretNow.1 m_Model_fretNow.1 ∈ xWA := xWA_in (List.mem_append_left _ (List.mem_of_getElem? (i := 22) (by decide +kernel))) rfl
theorem w_281 : (Jvm.Cond.methodLink "TablatureModel" (72 : Nat) ({ cls := "TablatureModel", name := "fretNow", desc := "(II)I" } : Jvm.MethodName)) ∈ xWA := wd4 223 rfl rfl
theorem s_Model_72 : xVi "TablatureModel" 72 8 m_Model_fretNow 2 := ⟨ok_Model_fretNow, w_281, w_280, sel_22, TX9, 16, rfl⟩
theorem f_Model_22 : xF "TablatureModel" 22 8 7 := ⟨RX9, TX9, 16, rfl, fun w hw => xWA_in (in_RX9 w hw).1 (in_RX9 w hw).2, by decide, w_255⟩
theorem f_Model_26 : xF "TablatureModel" 26 8 8 := ⟨RX9, TX9, 16, rfl, fun w hw => xWA_in (in_RX9 w hw).1 (in_RX9 w hw).2, by decide, w_256⟩
theorem f_Model_29 : xF "TablatureModel" 29 8 9 := ⟨RX9, TX9, 16, rfl, fun w hw => xWA_in (in_RX9 w hw).1 (in_RX9 w hw).2, by decide, w_257⟩
theorem p_Model_54 : xP "TablatureModel" 54 8 6 .int false := ⟨RX9, TX9, 16, tyX9, rfl, fun w hw => xWA_in (in_RX9 w hw).1 (in_RX9 w hw).2, by decide, w_268, tyX9_ok, nmX9, rfl, by decide +kernel, Or.inl rfl⟩
theorem w_282 : (Jvm.Cond.code ({ cls := "TablatureModel", name := "isChord", desc := "(I)Z" } : Jvm.MethodName) prog_11_method_6_code (2 : Nat) (Option.some Jvm.ClassFile.FieldType.boolean)) ∈ xWA := wd4 238 rfl rfl
theorem ok_Model_isChord : xOk "" m_Model_isChord 1 := ⟨w_282, w_264, ⟨by decide +kernel, by decide +kernel⟩, by decide +kernel⟩
theorem w_283 : (Jvm.Cond.instanceMethod ({ cls := "TablatureModel", name := "isChord", desc := "(I)Z" } : Jvm.MethodName)) ∈ xWA := wd4 237 rfl rfl
theorem sel_23 : Cond.selects m_Model_isChord.1.cls m_Model_isChord.1 m_Model_isChord.1 ∈ xWA := xWA_in (List.mem_append_left _ (List.mem_of_getElem? (i := 23) (by decide +kernel))) rfl
theorem w_284 : (Jvm.Cond.methodLink "TablatureModel" (76 : Nat) ({ cls := "TablatureModel", name := "isChord", desc := "(I)Z" } : Jvm.MethodName)) ∈ xWA := wd4 235 rfl rfl
theorem s_Model_76 : xVi "TablatureModel" 76 8 m_Model_isChord 1 := ⟨ok_Model_isChord, w_284, w_283, sel_23, TX9, 16, rfl⟩
theorem f_Model_32 : xF "TablatureModel" 32 8 10 := ⟨RX9, TX9, 16, rfl, fun w hw => xWA_in (in_RX9 w hw).1 (in_RX9 w hw).2, by decide, w_258⟩
theorem w_285 : (Jvm.Cond.methodLink "TablatureModel" (79 : Nat) ({ cls := "java/lang/Math", name := "max", desc := "(II)I" } : Jvm.MethodName)) ∈ xWA := wd5 22 rfl rfl
theorem s_Model_79 : (Jvm.Cond.methodLink "TablatureModel" (79 : Nat) ({ cls := "java/lang/Math", name := "max", desc := "(II)I" } : Jvm.MethodName)) ∈ xWA := w_285
theorem w_286 : (Jvm.Cond.code ({ cls := "TablatureModel", name := "low", desc := "([I)I" } : Jvm.MethodName) prog_11_method_17_code (6 : Nat) (Option.some Jvm.ClassFile.FieldType.int)) ∈ xWA := wd5 25 rfl rfl
theorem ok_Model_low : xOk "" m_Model_low 1 := ⟨w_286, w_264, ⟨by decide +kernel, by decide +kernel⟩, by decide +kernel⟩
theorem w_287 : (Jvm.Cond.static ({ cls := "TablatureModel", name := "low", desc := "([I)I" } : Jvm.MethodName)) ∈ xWA := wd5 24 rfl rfl
theorem w_288 : (Jvm.Cond.methodLink "TablatureModel" (84 : Nat) ({ cls := "TablatureModel", name := "low", desc := "([I)I" } : Jvm.MethodName)) ∈ xWA := wd5 23 rfl rfl
theorem s_Model_84 : xS "TablatureModel" 84 m_Model_low 1 := ⟨ok_Model_low, w_288, w_287⟩
theorem w_289 : (Jvm.Cond.code ({ cls := "TablatureModel", name := "hasBarre", desc := "([I)Z" } : Jvm.MethodName) prog_11_method_19_code (5 : Nat) (Option.some Jvm.ClassFile.FieldType.boolean)) ∈ xWA := wd5 34 rfl rfl
theorem ok_Model_hasBarre : xOk "" m_Model_hasBarre 1 := ⟨w_289, w_264, ⟨by decide +kernel, by decide +kernel⟩, by decide +kernel⟩
theorem w_290 : (Jvm.Cond.static ({ cls := "TablatureModel", name := "hasBarre", desc := "([I)Z" } : Jvm.MethodName)) ∈ xWA := wd5 33 rfl rfl
theorem w_291 : (Jvm.Cond.methodLink "TablatureModel" (88 : Nat) ({ cls := "TablatureModel", name := "hasBarre", desc := "([I)Z" } : Jvm.MethodName)) ∈ xWA := wd5 32 rfl rfl
theorem s_Model_88 : xS "TablatureModel" 88 m_Model_hasBarre 1 := ⟨ok_Model_hasBarre, w_291, w_290⟩
theorem w_292 : (Jvm.Cond.code ({ cls := "TablatureModel", name := "fingerNow", desc := "([II)I" } : Jvm.MethodName) prog_11_method_20_code (7 : Nat) (Option.some Jvm.ClassFile.FieldType.int)) ∈ xWA := wd5 31 rfl rfl
theorem ok_Model_fingerNow : xOk "" m_Model_fingerNow 2 := ⟨w_292, w_264, ⟨by decide +kernel, by decide +kernel⟩, by decide +kernel⟩
theorem w_293 : (Jvm.Cond.static ({ cls := "TablatureModel", name := "fingerNow", desc := "([II)I" } : Jvm.MethodName)) ∈ xWA := wd5 30 rfl rfl
theorem w_294 : (Jvm.Cond.methodLink "TablatureModel" (92 : Nat) ({ cls := "TablatureModel", name := "fingerNow", desc := "([II)I" } : Jvm.MethodName)) ∈ xWA := wd5 29 rfl rfl
theorem s_Model_92 : xS "TablatureModel" 92 m_Model_fingerNow 2 := ⟨ok_Model_fingerNow, w_294, w_293⟩
theorem w_295 : (Jvm.Cond.code ({ cls := "TablatureModel", name := "sounding", desc := "([I)I" } : Jvm.MethodName) prog_11_method_22_code (6 : Nat) (Option.some Jvm.ClassFile.FieldType.int)) ∈ xWA := wd5 47 rfl rfl
theorem ok_Model_sounding : xOk "" m_Model_sounding 1 := ⟨w_295, w_264, ⟨by decide +kernel, by decide +kernel⟩, by decide +kernel⟩
theorem w_296 : (Jvm.Cond.static ({ cls := "TablatureModel", name := "sounding", desc := "([I)I" } : Jvm.MethodName)) ∈ xWA := wd5 46 rfl rfl
theorem w_297 : (Jvm.Cond.methodLink "TablatureModel" (96 : Nat) ({ cls := "TablatureModel", name := "sounding", desc := "([I)I" } : Jvm.MethodName)) ∈ xWA := wd5 45 rfl rfl
theorem s_Model_96 : xS "TablatureModel" 96 m_Model_sounding 1 := ⟨ok_Model_sounding, w_297, w_296⟩
theorem w_298 : (Jvm.Cond.code ({ cls := "TablatureModel", name := "high", desc := "([I)I" } : Jvm.MethodName) prog_11_method_18_code (6 : Nat) (Option.some Jvm.ClassFile.FieldType.int)) ∈ xWA := wd5 21 rfl rfl
theorem ok_Model_high : xOk "" m_Model_high 1 := ⟨w_298, w_264, ⟨by decide +kernel, by decide +kernel⟩, by decide +kernel⟩
theorem w_299 : (Jvm.Cond.static ({ cls := "TablatureModel", name := "high", desc := "([I)I" } : Jvm.MethodName)) ∈ xWA := wd5 20 rfl rfl
theorem w_300 : (Jvm.Cond.methodLink "TablatureModel" (99 : Nat) ({ cls := "TablatureModel", name := "high", desc := "([I)I" } : Jvm.MethodName)) ∈ xWA := wd5 19 rfl rfl
theorem s_Model_99 : xS "TablatureModel" 99 m_Model_high 1 := ⟨ok_Model_high, w_300, w_299⟩
theorem w_301 : (Jvm.Cond.code ({ cls := "TablatureModel", name := "fingers", desc := "([I)I" } : Jvm.MethodName) prog_11_method_21_code (3 : Nat) (Option.some Jvm.ClassFile.FieldType.int)) ∈ xWA := wd5 28 rfl rfl
theorem ok_Model_fingers : xOk "" m_Model_fingers 1 := ⟨w_301, w_264, ⟨by decide +kernel, by decide +kernel⟩, by decide +kernel⟩
theorem w_302 : (Jvm.Cond.static ({ cls := "TablatureModel", name := "fingers", desc := "([I)I" } : Jvm.MethodName)) ∈ xWA := wd5 27 rfl rfl
theorem w_303 : (Jvm.Cond.methodLink "TablatureModel" (102 : Nat) ({ cls := "TablatureModel", name := "fingers", desc := "([I)I" } : Jvm.MethodName)) ∈ xWA := wd5 26 rfl rfl
theorem s_Model_102 : xS "TablatureModel" 102 m_Model_fingers 1 := ⟨ok_Model_fingers, w_303, w_302⟩
theorem w_304 : (Jvm.Cond.code ({ cls := "TablatureModel", name := "gaps", desc := "([I)I" } : Jvm.MethodName) prog_11_method_23_code (8 : Nat) (Option.some Jvm.ClassFile.FieldType.int)) ∈ xWA := wd5 44 rfl rfl
theorem ok_Model_gaps : xOk "" m_Model_gaps 1 := ⟨w_304, w_264, ⟨by decide +kernel, by decide +kernel⟩, by decide +kernel⟩
theorem w_305 : (Jvm.Cond.static ({ cls := "TablatureModel", name := "gaps", desc := "([I)I" } : Jvm.MethodName)) ∈ xWA := wd5 43 rfl rfl
theorem w_306 : (Jvm.Cond.methodLink "TablatureModel" (105 : Nat) ({ cls := "TablatureModel", name := "gaps", desc := "([I)I" } : Jvm.MethodName)) ∈ xWA := wd5 42 rfl rfl
theorem s_Model_105 : xS "TablatureModel" 105 m_Model_gaps 1 := ⟨ok_Model_gaps, w_306, w_305⟩
theorem w_307 : (Jvm.Cond.methodLink "TablatureModel" (108 : Nat) ({ cls := "java/lang/System", name := "arraycopy", desc := "(Ljava/lang/Object;ILjava/lang/Object;II)V" } : Jvm.MethodName)) ∈ xWA := wd5 55 rfl rfl
theorem s_Model_108 : (Jvm.Cond.methodLink "TablatureModel" (108 : Nat) ({ cls := "java/lang/System", name := "arraycopy", desc := "(Ljava/lang/Object;ILjava/lang/Object;II)V" } : Jvm.MethodName)) ∈ xWA := w_307
theorem w_308 : (Jvm.Cond.code ({ cls := "TablatureModel", name := "effort", desc := "([I)I" } : Jvm.MethodName) prog_11_method_24_code (1 : Nat) (Option.some Jvm.ClassFile.FieldType.int)) ∈ xWA := wd5 41 rfl rfl
theorem ok_Model_effort : xOk "" m_Model_effort 1 := ⟨w_308, w_264, ⟨by decide +kernel, by decide +kernel⟩, by decide +kernel⟩
theorem w_309 : (Jvm.Cond.static ({ cls := "TablatureModel", name := "effort", desc := "([I)I" } : Jvm.MethodName)) ∈ xWA := wd5 40 rfl rfl
theorem w_310 : (Jvm.Cond.methodLink "TablatureModel" (114 : Nat) ({ cls := "TablatureModel", name := "effort", desc := "([I)I" } : Jvm.MethodName)) ∈ xWA := wd5 39 rfl rfl
theorem s_Model_114 : xS "TablatureModel" 114 m_Model_effort 1 := ⟨ok_Model_effort, w_310, w_309⟩
theorem w_311 : (Jvm.Cond.fieldLink "TablatureModel" (117 : Nat) "TablatureModel" "many" "I") ∈ xWA := wd4 144 rfl rfl
theorem f_Model_117 : xF "TablatureModel" 117 8 13 := ⟨RX9, TX9, 16, rfl, fun w hw => xWA_in (in_RX9 w hw).1 (in_RX9 w hw).2, by decide, w_311⟩
theorem f_Model_38 : xF "TablatureModel" 38 8 12 := ⟨RX9, TX9, 16, rfl, fun w hw => xWA_in (in_RX9 w hw).1 (in_RX9 w hw).2, by decide, w_260⟩
theorem f_Model_35 : xF "TablatureModel" 35 8 11 := ⟨RX9, TX9, 16, rfl, fun w hw => xWA_in (in_RX9 w hw).1 (in_RX9 w hw).2, by decide, w_259⟩
theorem w_312 : (Jvm.Cond.code ({ cls := "TablatureModel", name := "isSmaller", desc := "([I[I)Z" } : Jvm.MethodName) prog_11_method_26_code (3 : Nat) (Option.some Jvm.ClassFile.FieldType.boolean)) ∈ xWA := wd5 50 rfl rfl
theorem ok_Model_isSmaller : xOk "" m_Model_isSmaller 2 := ⟨w_312, w_264, ⟨by decide +kernel, by decide +kernel⟩, by decide +kernel⟩
theorem w_313 : (Jvm.Cond.static ({ cls := "TablatureModel", name := "isSmaller", desc := "([I[I)Z" } : Jvm.MethodName)) ∈ xWA := wd5 49 rfl rfl
theorem w_314 : (Jvm.Cond.methodLink "TablatureModel" (120 : Nat) ({ cls := "TablatureModel", name := "isSmaller", desc := "([I[I)Z" } : Jvm.MethodName)) ∈ xWA := wd5 48 rfl rfl
theorem s_Model_120 : xS "TablatureModel" 120 m_Model_isSmaller 2 := ⟨ok_Model_isSmaller, w_314, w_313⟩
theorem w_315 : (Jvm.Cond.methodLink "TablatureModel" (124 : Nat) ({ cls := "java/lang/Math", name := "min", desc := "(II)I" } : Jvm.MethodName)) ∈ xWA := wd5 51 rfl rfl
theorem s_Model_124 : (Jvm.Cond.methodLink "TablatureModel" (124 : Nat) ({ cls := "java/lang/Math", name := "min", desc := "(II)I" } : Jvm.MethodName)) ∈ xWA := w_315
theorem p_Model_117 : xP "TablatureModel" 117 8 13 .int false := ⟨RX9, TX9, 16, tyX9, rfl, fun w hw => xWA_in (in_RX9 w hw).1 (in_RX9 w hw).2, by decide, w_311, tyX9_ok, nmX9, rfl, by decide +kernel, Or.inl rfl⟩
theorem w_316 : (Jvm.Cond.code ({ cls := "TablatureModel", name := "copy", desc := "([I)[I" } : Jvm.MethodName) prog_11_method_27_code (2 : Nat) (Option.some (Jvm.ClassFile.FieldType.array Jvm.ClassFile.FieldType.int))) ∈ xWA := wd5 54 rfl rfl
theorem ok_Model_copy : xOk "" m_Model_copy 1 := ⟨w_316, w_264, ⟨by decide +kernel, by decide +kernel⟩, by decide +kernel⟩
theorem w_317 : (Jvm.Cond.static ({ cls := "TablatureModel", name := "copy", desc := "([I)[I" } : Jvm.MethodName)) ∈ xWA := wd5 53 rfl rfl
theorem w_318 : (Jvm.Cond.methodLink "TablatureModel" (127 : Nat) ({ cls := "TablatureModel", name := "copy", desc := "([I)[I" } : Jvm.MethodName)) ∈ xWA := wd5 52 rfl rfl
theorem s_Model_127 : xS "TablatureModel" 127 m_Model_copy 1 := ⟨ok_Model_copy, w_318, w_317⟩
theorem w_319 : (Jvm.Cond.code ({ cls := "TablatureModel", name := "isPlayable", desc := "([I)Z" } : Jvm.MethodName) prog_11_method_25_code (2 : Nat) (Option.some Jvm.ClassFile.FieldType.boolean)) ∈ xWA := wd5 18 rfl rfl
theorem ok_Model_isPlayable : xOk "" m_Model_isPlayable 1 := ⟨w_319, w_264, ⟨by decide +kernel, by decide +kernel⟩, by decide +kernel⟩
theorem w_320 : (Jvm.Cond.instanceMethod ({ cls := "TablatureModel", name := "isPlayable", desc := "([I)Z" } : Jvm.MethodName)) ∈ xWA := wd5 17 rfl rfl
theorem sel_27 : Cond.selects m_Model_isPlayable.1.cls m_Model_isPlayable.1 m_Model_isPlayable.1 ∈ xWA := xWA_in (List.mem_append_left _ (List.mem_of_getElem? (i := 27) (by decide +kernel))) rfl
theorem w_321 : (Jvm.Cond.methodLink "TablatureModel" (131 : Nat) ({ cls := "TablatureModel", name := "isPlayable", desc := "([I)Z" } : Jvm.MethodName)) ∈ xWA := wd5 15 rfl rfl
theorem s_Model_131 : xVi "TablatureModel" 131 8 m_Model_isPlayable 1 := ⟨ok_Model_isPlayable, w_321, w_320, sel_27, TX9, 16, rfl⟩
theorem w_322 : (Jvm.Cond.code ({ cls := "TablatureModel", name := "put", desc := "([I)V" } : Jvm.MethodName) prog_11_method_28_code (5 : Nat) (Option.none : Option Jvm.ClassFile.FieldType)) ∈ xWA := wd5 38 rfl rfl
theorem ok_Model_put : xOk "" m_Model_put 1 := ⟨w_322, w_264, ⟨by decide +kernel, by decide +kernel⟩, by decide +kernel⟩
theorem w_323 : (Jvm.Cond.instanceMethod ({ cls := "TablatureModel", name := "put", desc := "([I)V" } : Jvm.MethodName)) ∈ xWA := wd5 37 rfl rfl
theorem sel_28 : Cond.selects m_Model_put.1.cls m_Model_put.1 m_Model_put.1 ∈ xWA := xWA_in (List.mem_append_left _ (List.mem_of_getElem? (i := 28) (by decide +kernel))) rfl
theorem w_324 : (Jvm.Cond.methodLink "TablatureModel" (134 : Nat) ({ cls := "TablatureModel", name := "put", desc := "([I)V" } : Jvm.MethodName)) ∈ xWA := wd5 35 rfl rfl
theorem s_Model_134 : xVi "TablatureModel" 134 8 m_Model_put 1 := ⟨ok_Model_put, w_324, w_323, sel_28, TX9, 16, rfl⟩
theorem w_325 : (Jvm.Cond.code ({ cls := "TablatureModel", name := "go", desc := "([II[I)V" } : Jvm.MethodName) prog_11_method_29_code (5 : Nat) (Option.none : Option Jvm.ClassFile.FieldType)) ∈ xWA := wd5 14 rfl rfl
theorem ok_Model_go : xOk "" m_Model_go 3 := ⟨w_325, w_264, ⟨by decide +kernel, by decide +kernel⟩, by decide +kernel⟩
theorem w_326 : (Jvm.Cond.instanceMethod ({ cls := "TablatureModel", name := "go", desc := "([II[I)V" } : Jvm.MethodName)) ∈ xWA := wd5 13 rfl rfl
theorem sel_26 : Cond.selects m_Model_go.1.cls m_Model_go.1 m_Model_go.1 ∈ xWA := xWA_in (List.mem_append_left _ (List.mem_of_getElem? (i := 26) (by decide +kernel))) rfl
theorem w_327 : (Jvm.Cond.methodLink "TablatureModel" (138 : Nat) ({ cls := "TablatureModel", name := "go", desc := "([II[I)V" } : Jvm.MethodName)) ∈ xWA := wd5 11 rfl rfl
theorem s_Model_138 : xVi "TablatureModel" 138 8 m_Model_go 3 := ⟨ok_Model_go, w_327, w_326, sel_26, TX9, 16, rfl⟩
theorem w_328 : (Jvm.Cond.code ({ cls := "TablatureModel", name := "silent", desc := "()[I" } : Jvm.MethodName) prog_11_method_30_code (3 : Nat) (Option.some (Jvm.ClassFile.FieldType.array Jvm.ClassFile.FieldType.int))) ∈ xWA := wd5 10 rfl rfl
theorem ok_Model_silent : xOk "" m_Model_silent 0 := ⟨w_328, w_264, ⟨by decide +kernel, by decide +kernel⟩, by decide +kernel⟩
theorem w_329 : (Jvm.Cond.instanceMethod ({ cls := "TablatureModel", name := "silent", desc := "()[I" } : Jvm.MethodName)) ∈ xWA := wd5 9 rfl rfl
theorem sel_25 : Cond.selects m_Model_silent.1.cls m_Model_silent.1 m_Model_silent.1 ∈ xWA := xWA_in (List.mem_append_left _ (List.mem_of_getElem? (i := 25) (by decide +kernel))) rfl
theorem w_330 : (Jvm.Cond.methodLink "TablatureModel" (142 : Nat) ({ cls := "TablatureModel", name := "silent", desc := "()[I" } : Jvm.MethodName)) ∈ xWA := wd5 7 rfl rfl
theorem s_Model_142 : xVi "TablatureModel" 142 8 m_Model_silent 0 := ⟨ok_Model_silent, w_330, w_329, sel_25, TX9, 16, rfl⟩
theorem w_331 : (Jvm.Cond.code ({ cls := "TablatureModel", name := "grips", desc := "(I)[[I" } : Jvm.MethodName) prog_11_method_31_code (3 : Nat) (Option.some (Jvm.ClassFile.FieldType.array (Jvm.ClassFile.FieldType.array Jvm.ClassFile.FieldType.int)))) ∈ xWA := wd5 6 rfl rfl
theorem ok_Model_grips : xOk "" m_Model_grips 1 := ⟨w_331, w_264, ⟨by decide +kernel, by decide +kernel⟩, by decide +kernel⟩
theorem w_332 : (Jvm.Cond.instanceMethod ({ cls := "TablatureModel", name := "grips", desc := "(I)[[I" } : Jvm.MethodName)) ∈ xWA := wd5 5 rfl rfl
theorem sel_24 : Cond.selects m_Model_grips.1.cls m_Model_grips.1 m_Model_grips.1 ∈ xWA := xWA_in (List.mem_append_left _ (List.mem_of_getElem? (i := 24) (by decide +kernel))) rfl
theorem w_333 : (Jvm.Cond.methodLink "TablatureModel" (146 : Nat) ({ cls := "TablatureModel", name := "grips", desc := "(I)[[I" } : Jvm.MethodName)) ∈ xWA := wd5 3 rfl rfl
theorem s_Model_146 : xVi "TablatureModel" 146 8 m_Model_grips 1 := ⟨ok_Model_grips, w_333, w_332, sel_24, TX9, 16, rfl⟩
theorem w_334 : (Jvm.Cond.code ({ cls := "TablatureModel", name := "fixedNow", desc := "(I[[I)I" } : Jvm.MethodName) prog_11_method_32_code (6 : Nat) (Option.some Jvm.ClassFile.FieldType.int)) ∈ xWA := wd5 69 rfl rfl
theorem ok_Model_fixedNow : xOk "" m_Model_fixedNow 2 := ⟨w_334, w_264, ⟨by decide +kernel, by decide +kernel⟩, by decide +kernel⟩
theorem w_335 : (Jvm.Cond.instanceMethod ({ cls := "TablatureModel", name := "fixedNow", desc := "(I[[I)I" } : Jvm.MethodName)) ∈ xWA := wd5 68 rfl rfl
theorem sel_30 : Cond.selects m_Model_fixedNow.1.cls m_Model_fixedNow.1 m_Model_fixedNow.1 ∈ xWA := xWA_in (List.mem_append_left _ (List.mem_of_getElem? (i := 30) (by decide +kernel))) rfl
theorem w_336 : (Jvm.Cond.methodLink "TablatureModel" (150 : Nat) ({ cls := "TablatureModel", name := "fixedNow", desc := "(I[[I)I" } : Jvm.MethodName)) ∈ xWA := wd5 66 rfl rfl
theorem s_Model_150 : xVi "TablatureModel" 150 8 m_Model_fixedNow 2 := ⟨ok_Model_fixedNow, w_336, w_335, sel_30, TX9, 16, rfl⟩
theorem w_337 : (Jvm.Cond.code ({ cls := "TablatureModel", name := "ofChordNow", desc := "(II)I" } : Jvm.MethodName) prog_11_method_34_code (9 : Nat) (Option.some Jvm.ClassFile.FieldType.int)) ∈ xWA := wd5 65 rfl rfl
theorem ok_Model_ofChordNow : xOk "" m_Model_ofChordNow 2 := ⟨w_337, w_264, ⟨by decide +kernel, by decide +kernel⟩, by decide +kernel⟩
theorem w_338 : (Jvm.Cond.instanceMethod ({ cls := "TablatureModel", name := "ofChordNow", desc := "(II)I" } : Jvm.MethodName)) ∈ xWA := wd5 64 rfl rfl
theorem sel_29 : Cond.selects m_Model_ofChordNow.1.cls m_Model_ofChordNow.1 m_Model_ofChordNow.1 ∈ xWA := xWA_in (List.mem_append_left _ (List.mem_of_getElem? (i := 29) (by decide +kernel))) rfl
theorem w_339 : (Jvm.Cond.methodLink "TablatureModel" (154 : Nat) ({ cls := "TablatureModel", name := "ofChordNow", desc := "(II)I" } : Jvm.MethodName)) ∈ xWA := wd5 62 rfl rfl
theorem s_Model_154 : xVi "TablatureModel" 154 8 m_Model_ofChordNow 2 := ⟨ok_Model_ofChordNow, w_339, w_338, sel_29, TX9, 16, rfl⟩
theorem w_340 : (Jvm.Cond.code ({ cls := "TablatureModel", name := "ofGripNow", desc := "([II)I" } : Jvm.MethodName) prog_11_method_36_code (2 : Nat) (Option.some Jvm.ClassFile.FieldType.int)) ∈ xWA := wd5 76 rfl rfl
theorem ok_Model_ofGripNow : xOk "" m_Model_ofGripNow 2 := ⟨w_340, w_264, ⟨by decide +kernel, by decide +kernel⟩, by decide +kernel⟩
theorem w_341 : (Jvm.Cond.static ({ cls := "TablatureModel", name := "ofGripNow", desc := "([II)I" } : Jvm.MethodName)) ∈ xWA := wd5 75 rfl rfl
theorem w_342 : (Jvm.Cond.methodLink "TablatureModel" (157 : Nat) ({ cls := "TablatureModel", name := "ofGripNow", desc := "([II)I" } : Jvm.MethodName)) ∈ xWA := wd5 74 rfl rfl
theorem s_Model_157 : xS "TablatureModel" 157 m_Model_ofGripNow 2 := ⟨ok_Model_ofGripNow, w_342, w_341⟩
theorem w_343 : (Jvm.Cond.code ({ cls := "TablatureModel", name := "onString", desc := "(IIIZ)I" } : Jvm.MethodName) prog_11_method_38_code (6 : Nat) (Option.some Jvm.ClassFile.FieldType.int)) ∈ xWA := wd5 84 rfl rfl
theorem ok_Model_onString : xOk "" m_Model_onString 4 := ⟨w_343, w_264, ⟨by decide +kernel, by decide +kernel⟩, by decide +kernel⟩
theorem w_344 : (Jvm.Cond.instanceMethod ({ cls := "TablatureModel", name := "onString", desc := "(IIIZ)I" } : Jvm.MethodName)) ∈ xWA := wd5 83 rfl rfl
theorem sel_31 : Cond.selects m_Model_onString.1.cls m_Model_onString.1 m_Model_onString.1 ∈ xWA := xWA_in (List.mem_append_left _ (List.mem_of_getElem? (i := 31) (by decide +kernel))) rfl
theorem w_345 : (Jvm.Cond.methodLink "TablatureModel" (160 : Nat) ({ cls := "TablatureModel", name := "onString", desc := "(IIIZ)I" } : Jvm.MethodName)) ∈ xWA := wd5 81 rfl rfl
theorem s_Model_160 : xVi "TablatureModel" 160 8 m_Model_onString 4 := ⟨ok_Model_onString, w_345, w_344, sel_31, TX9, 16, rfl⟩
theorem w_346 : (Jvm.Cond.methodLink "TablatureModel" (164 : Nat) ({ cls := "java/lang/Math", name := "abs", desc := "(I)I" } : Jvm.MethodName)) ∈ xWA := wd5 97 rfl rfl
theorem s_Model_164 : (Jvm.Cond.methodLink "TablatureModel" (164 : Nat) ({ cls := "java/lang/Math", name := "abs", desc := "(I)I" } : Jvm.MethodName)) ∈ xWA := w_346
theorem w_347 : (Jvm.Cond.code ({ cls := "TablatureModel", name := "moveNow", desc := "(I[I[I)I" } : Jvm.MethodName) prog_11_method_41_code (6 : Nat) (Option.some Jvm.ClassFile.FieldType.int)) ∈ xWA := wd5 96 rfl rfl
theorem ok_Model_moveNow : xOk "" m_Model_moveNow 3 := ⟨w_347, w_264, ⟨by decide +kernel, by decide +kernel⟩, by decide +kernel⟩
theorem w_348 : (Jvm.Cond.instanceMethod ({ cls := "TablatureModel", name := "moveNow", desc := "(I[I[I)I" } : Jvm.MethodName)) ∈ xWA := wd5 95 rfl rfl
theorem sel_32 : Cond.selects m_Model_moveNow.1.cls m_Model_moveNow.1 m_Model_moveNow.1 ∈ xWA := xWA_in (List.mem_append_left _ (List.mem_of_getElem? (i := 32) (by decide +kernel))) rfl
theorem w_349 : (Jvm.Cond.methodLink "TablatureModel" (167 : Nat) ({ cls := "TablatureModel", name := "moveNow", desc := "(I[I[I)I" } : Jvm.MethodName)) ∈ xWA := wd5 93 rfl rfl
theorem s_Model_167 : xVi "TablatureModel" 167 8 m_Model_moveNow 3 := ⟨ok_Model_moveNow, w_349, w_348, sel_32, TX9, 16, rfl⟩
theorem w_350 : (Jvm.Cond.classLink "TablatureModel" (171 : Nat) "[[I") ∈ xWA := wd5 106 rfl rfl
theorem a_Model_171 : Cond.classLink "TablatureModel" 171 "[[I" ∈ xWA := w_350
theorem w_351 : (Jvm.Cond.code ({ cls := "TablatureModel", name := "all", desc := "()[[[I" } : Jvm.MethodName) prog_11_method_43_code (3 : Nat) (Option.some (Jvm.ClassFile.FieldType.array (Jvm.ClassFile.FieldType.array (Jvm.ClassFile.FieldType.array Jvm.ClassFile.FieldType.int))))) ∈ xWA := wd5 105 rfl rfl
theorem ok_Model_all : xOk "" m_Model_all 0 := ⟨w_351, w_264, ⟨by decide +kernel, by decide +kernel⟩, by decide +kernel⟩
theorem w_352 : (Jvm.Cond.instanceMethod ({ cls := "TablatureModel", name := "all", desc := "()[[[I" } : Jvm.MethodName)) ∈ xWA := wd5 104 rfl rfl
theorem sel_33 : Cond.selects m_Model_all.1.cls m_Model_all.1 m_Model_all.1 ∈ xWA := xWA_in (List.mem_append_left _ (List.mem_of_getElem? (i := 33) (by decide +kernel))) rfl
theorem w_353 : (Jvm.Cond.methodLink "TablatureModel" (172 : Nat) ({ cls := "TablatureModel", name := "all", desc := "()[[[I" } : Jvm.MethodName)) ∈ xWA := wd5 102 rfl rfl
theorem s_Model_172 : xVi "TablatureModel" 172 8 m_Model_all 0 := ⟨ok_Model_all, w_353, w_352, sel_33, TX9, 16, rfl⟩
theorem w_354 : (Jvm.Cond.code ({ cls := "TablatureModel", name := "planNow", desc := "([[[I)[I" } : Jvm.MethodName) prog_11_method_44_code (9 : Nat) (Option.some (Jvm.ClassFile.FieldType.array Jvm.ClassFile.FieldType.int))) ∈ xWA := wd5 111 rfl rfl
theorem ok_Model_planNow : xOk "" m_Model_planNow 1 := ⟨w_354, w_264, ⟨by decide +kernel, by decide +kernel⟩, by decide +kernel⟩
theorem w_355 : (Jvm.Cond.instanceMethod ({ cls := "TablatureModel", name := "planNow", desc := "([[[I)[I" } : Jvm.MethodName)) ∈ xWA := wd5 110 rfl rfl
theorem sel_34 : Cond.selects m_Model_planNow.1.cls m_Model_planNow.1 m_Model_planNow.1 ∈ xWA := xWA_in (List.mem_append_left _ (List.mem_of_getElem? (i := 34) (by decide +kernel))) rfl
theorem w_356 : (Jvm.Cond.methodLink "TablatureModel" (176 : Nat) ({ cls := "TablatureModel", name := "planNow", desc := "([[[I)[I" } : Jvm.MethodName)) ∈ xWA := wd5 108 rfl rfl
theorem s_Model_176 : xVi "TablatureModel" 176 8 m_Model_planNow 1 := ⟨ok_Model_planNow, w_356, w_355, sel_34, TX9, 16, rfl⟩
theorem w_357 : (Jvm.Cond.code ({ cls := "TablatureModel", name := "totalNow", desc := "()I" } : Jvm.MethodName) prog_11_method_45_code (2 : Nat) (Option.some Jvm.ClassFile.FieldType.int)) ∈ xWA := wd5 119 rfl rfl
theorem ok_Model_totalNow : xOk "" m_Model_totalNow 0 := ⟨w_357, w_264, ⟨by decide +kernel, by decide +kernel⟩, by decide +kernel⟩
theorem w_358 : (Jvm.Cond.instanceMethod ({ cls := "TablatureModel", name := "totalNow", desc := "()I" } : Jvm.MethodName)) ∈ xWA := wd5 118 rfl rfl
theorem sel_35 : Cond.selects m_Model_totalNow.1.cls m_Model_totalNow.1 m_Model_totalNow.1 ∈ xWA := xWA_in (List.mem_append_left _ (List.mem_of_getElem? (i := 35) (by decide +kernel))) rfl
theorem w_359 : (Jvm.Cond.methodLink "TablatureModel" (180 : Nat) ({ cls := "TablatureModel", name := "totalNow", desc := "()I" } : Jvm.MethodName)) ∈ xWA := wd5 116 rfl rfl
theorem s_Model_180 : xVi "TablatureModel" 180 8 m_Model_totalNow 0 := ⟨ok_Model_totalNow, w_359, w_358, sel_35, TX9, 16, rfl⟩
theorem w_360 : (Jvm.Cond.code ({ cls := "TablatureModel", name := "hardestNow", desc := "([[[I[I)I" } : Jvm.MethodName) prog_11_method_48_code (7 : Nat) (Option.some Jvm.ClassFile.FieldType.int)) ∈ xWA := wd5 127 rfl rfl
theorem ok_Model_hardestNow : xOk "" m_Model_hardestNow 2 := ⟨w_360, w_264, ⟨by decide +kernel, by decide +kernel⟩, by decide +kernel⟩
theorem w_361 : (Jvm.Cond.instanceMethod ({ cls := "TablatureModel", name := "hardestNow", desc := "([[[I[I)I" } : Jvm.MethodName)) ∈ xWA := wd5 126 rfl rfl
theorem sel_36 : Cond.selects m_Model_hardestNow.1.cls m_Model_hardestNow.1 m_Model_hardestNow.1 ∈ xWA := xWA_in (List.mem_append_left _ (List.mem_of_getElem? (i := 36) (by decide +kernel))) rfl
theorem w_362 : (Jvm.Cond.methodLink "TablatureModel" (183 : Nat) ({ cls := "TablatureModel", name := "hardestNow", desc := "([[[I[I)I" } : Jvm.MethodName)) ∈ xWA := wd5 124 rfl rfl
theorem s_Model_183 : xVi "TablatureModel" 183 8 m_Model_hardestNow 2 := ⟨ok_Model_hardestNow, w_362, w_361, sel_36, TX9, 16, rfl⟩
theorem w_363 : (Jvm.Cond.code ({ cls := "TablatureModel", name := "manyNow", desc := "(I[[[I[I)I" } : Jvm.MethodName) prog_11_method_50_code (9 : Nat) (Option.some Jvm.ClassFile.FieldType.int)) ∈ xWA := wd5 135 rfl rfl
theorem ok_Model_manyNow : xOk "" m_Model_manyNow 3 := ⟨w_363, w_264, ⟨by decide +kernel, by decide +kernel⟩, by decide +kernel⟩
theorem w_364 : (Jvm.Cond.instanceMethod ({ cls := "TablatureModel", name := "manyNow", desc := "(I[[[I[I)I" } : Jvm.MethodName)) ∈ xWA := wd5 134 rfl rfl
theorem sel_37 : Cond.selects m_Model_manyNow.1.cls m_Model_manyNow.1 m_Model_manyNow.1 ∈ xWA := xWA_in (List.mem_append_left _ (List.mem_of_getElem? (i := 37) (by decide +kernel))) rfl
theorem w_365 : (Jvm.Cond.methodLink "TablatureModel" (187 : Nat) ({ cls := "TablatureModel", name := "manyNow", desc := "(I[[[I[I)I" } : Jvm.MethodName)) ∈ xWA := wd5 132 rfl rfl
theorem s_Model_187 : xVi "TablatureModel" 187 8 m_Model_manyNow 3 := ⟨ok_Model_manyNow, w_365, w_364, sel_37, TX9, 16, rfl⟩
theorem w_366 : (Jvm.Cond.fieldLink "TablatureModel" (191 : Nat) "TablatureModel" "shapes" "I") ∈ xWA := wd4 145 rfl rfl
theorem f_Model_191 : xF "TablatureModel" 191 8 14 := ⟨RX9, TX9, 16, rfl, fun w hw => xWA_in (in_RX9 w hw).1 (in_RX9 w hw).2, by decide, w_366⟩
theorem p_Model_191 : xP "TablatureModel" 191 8 14 .int false := ⟨RX9, TX9, 16, tyX9, rfl, fun w hw => xWA_in (in_RX9 w hw).1 (in_RX9 w hw).2, by decide, w_366, tyX9_ok, nmX9, rfl, by decide +kernel, Or.inl rfl⟩
theorem f_Model_41 : xF "TablatureModel" 41 8 15 := ⟨RX9, TX9, 16, rfl, fun w hw => xWA_in (in_RX9 w hw).1 (in_RX9 w hw).2, by decide, w_261⟩
theorem w_367 : (Jvm.Cond.code ({ cls := "TablatureModel", name := "isBetter", desc := "([I)Z" } : Jvm.MethodName) prog_11_method_56_code (2 : Nat) (Option.some Jvm.ClassFile.FieldType.boolean)) ∈ xWA := wd5 158 rfl rfl
theorem ok_Model_isBetter : xOk "" m_Model_isBetter 1 := ⟨w_367, w_264, ⟨by decide +kernel, by decide +kernel⟩, by decide +kernel⟩
theorem w_368 : (Jvm.Cond.instanceMethod ({ cls := "TablatureModel", name := "isBetter", desc := "([I)Z" } : Jvm.MethodName)) ∈ xWA := wd5 157 rfl rfl
theorem sel_40 : Cond.selects m_Model_isBetter.1.cls m_Model_isBetter.1 m_Model_isBetter.1 ∈ xWA := xWA_in (List.mem_append_left _ (List.mem_of_getElem? (i := 40) (by decide +kernel))) rfl
theorem w_369 : (Jvm.Cond.methodLink "TablatureModel" (194 : Nat) ({ cls := "TablatureModel", name := "isBetter", desc := "([I)Z" } : Jvm.MethodName)) ∈ xWA := wd5 155 rfl rfl
theorem s_Model_194 : xVi "TablatureModel" 194 8 m_Model_isBetter 1 := ⟨ok_Model_isBetter, w_369, w_368, sel_40, TX9, 16, rfl⟩
theorem w_370 : (Jvm.Cond.code ({ cls := "TablatureModel", name := "goOn", desc := "(IIII[III)V" } : Jvm.MethodName) prog_11_method_55_code (10 : Nat) (Option.none : Option Jvm.ClassFile.FieldType)) ∈ xWA := wd5 154 rfl rfl
theorem ok_Model_goOn : xOk "" m_Model_goOn 7 := ⟨w_370, w_264, ⟨by decide +kernel, by decide +kernel⟩, by decide +kernel⟩
theorem w_371 : (Jvm.Cond.instanceMethod ({ cls := "TablatureModel", name := "goOn", desc := "(IIII[III)V" } : Jvm.MethodName)) ∈ xWA := wd5 153 rfl rfl
theorem sel_39 : Cond.selects m_Model_goOn.1.cls m_Model_goOn.1 m_Model_goOn.1 ∈ xWA := xWA_in (List.mem_append_left _ (List.mem_of_getElem? (i := 39) (by decide +kernel))) rfl
theorem w_372 : (Jvm.Cond.methodLink "TablatureModel" (197 : Nat) ({ cls := "TablatureModel", name := "goOn", desc := "(IIII[III)V" } : Jvm.MethodName)) ∈ xWA := wd5 151 rfl rfl
theorem s_Model_197 : xVi "TablatureModel" 197 8 m_Model_goOn 7 := ⟨ok_Model_goOn, w_372, w_371, sel_39, TX9, 16, rfl⟩
theorem w_373 : (Jvm.Cond.code ({ cls := "TablatureModel", name := "pitchOf", desc := "(II)I" } : Jvm.MethodName) prog_11_method_54_code (3 : Nat) (Option.some Jvm.ClassFile.FieldType.int)) ∈ xWA := wd5 162 rfl rfl
theorem ok_Model_pitchOf : xOk "" m_Model_pitchOf 2 := ⟨w_373, w_264, ⟨by decide +kernel, by decide +kernel⟩, by decide +kernel⟩
theorem w_374 : (Jvm.Cond.instanceMethod ({ cls := "TablatureModel", name := "pitchOf", desc := "(II)I" } : Jvm.MethodName)) ∈ xWA := wd5 161 rfl rfl
theorem sel_41 : Cond.selects m_Model_pitchOf.1.cls m_Model_pitchOf.1 m_Model_pitchOf.1 ∈ xWA := xWA_in (List.mem_append_left _ (List.mem_of_getElem? (i := 41) (by decide +kernel))) rfl
theorem w_375 : (Jvm.Cond.methodLink "TablatureModel" (201 : Nat) ({ cls := "TablatureModel", name := "pitchOf", desc := "(II)I" } : Jvm.MethodName)) ∈ xWA := wd5 159 rfl rfl
theorem s_Model_201 : xVi "TablatureModel" 201 8 m_Model_pitchOf 2 := ⟨ok_Model_pitchOf, w_375, w_374, sel_41, TX9, 16, rfl⟩
theorem w_376 : (Jvm.Cond.code ({ cls := "TablatureModel", name := "isVoicing", desc := "(III)Z" } : Jvm.MethodName) prog_11_method_53_code (5 : Nat) (Option.some Jvm.ClassFile.FieldType.boolean)) ∈ xWA := wd5 146 rfl rfl
theorem ok_Model_isVoicing : xOk "" m_Model_isVoicing 3 := ⟨w_376, w_264, ⟨by decide +kernel, by decide +kernel⟩, by decide +kernel⟩
theorem w_377 : (Jvm.Cond.static ({ cls := "TablatureModel", name := "isVoicing", desc := "(III)Z" } : Jvm.MethodName)) ∈ xWA := wd5 145 rfl rfl
theorem w_378 : (Jvm.Cond.methodLink "TablatureModel" (204 : Nat) ({ cls := "TablatureModel", name := "isVoicing", desc := "(III)Z" } : Jvm.MethodName)) ∈ xWA := wd5 144 rfl rfl
theorem s_Model_204 : xS "TablatureModel" 204 m_Model_isVoicing 3 := ⟨ok_Model_isVoicing, w_378, w_377⟩
theorem w_379 : (Jvm.Cond.code ({ cls := "TablatureModel", name := "look", desc := "(III)V" } : Jvm.MethodName) prog_11_method_57_code (4 : Nat) (Option.none : Option Jvm.ClassFile.FieldType)) ∈ xWA := wd5 150 rfl rfl
theorem ok_Model_look : xOk "" m_Model_look 3 := ⟨w_379, w_264, ⟨by decide +kernel, by decide +kernel⟩, by decide +kernel⟩
theorem w_380 : (Jvm.Cond.instanceMethod ({ cls := "TablatureModel", name := "look", desc := "(III)V" } : Jvm.MethodName)) ∈ xWA := wd5 149 rfl rfl
theorem sel_38 : Cond.selects m_Model_look.1.cls m_Model_look.1 m_Model_look.1 ∈ xWA := xWA_in (List.mem_append_left _ (List.mem_of_getElem? (i := 38) (by decide +kernel))) rfl
theorem w_381 : (Jvm.Cond.methodLink "TablatureModel" (207 : Nat) ({ cls := "TablatureModel", name := "look", desc := "(III)V" } : Jvm.MethodName)) ∈ xWA := wd5 147 rfl rfl
theorem s_Model_207 : xVi "TablatureModel" 207 8 m_Model_look 3 := ⟨ok_Model_look, w_381, w_380, sel_38, TX9, 16, rfl⟩
theorem w_382 : (Jvm.Cond.code ({ cls := "TablatureModel", name := "totalBy", desc := "(II)I" } : Jvm.MethodName) prog_11_method_61_code (6 : Nat) (Option.some Jvm.ClassFile.FieldType.int)) ∈ xWA := wd5 178 rfl rfl
theorem ok_Model_totalBy : xOk "" m_Model_totalBy 2 := ⟨w_382, w_264, ⟨by decide +kernel, by decide +kernel⟩, by decide +kernel⟩
theorem w_383 : (Jvm.Cond.instanceMethod ({ cls := "TablatureModel", name := "totalBy", desc := "(II)I" } : Jvm.MethodName)) ∈ xWA := wd5 177 rfl rfl
theorem sel_42 : Cond.selects m_Model_totalBy.1.cls m_Model_totalBy.1 m_Model_totalBy.1 ∈ xWA := xWA_in (List.mem_append_left _ (List.mem_of_getElem? (i := 42) (by decide +kernel))) rfl
theorem w_384 : (Jvm.Cond.methodLink "TablatureModel" (211 : Nat) ({ cls := "TablatureModel", name := "totalBy", desc := "(II)I" } : Jvm.MethodName)) ∈ xWA := wd5 175 rfl rfl
theorem s_Model_211 : xVi "TablatureModel" 211 8 m_Model_totalBy 2 := ⟨ok_Model_totalBy, w_384, w_383, sel_42, TX9, 16, rfl⟩
theorem w_385 : (Jvm.Cond.code ({ cls := "TablatureModel", name := "bestCapoNow", desc := "()I" } : Jvm.MethodName) prog_11_method_63_code (5 : Nat) (Option.some Jvm.ClassFile.FieldType.int)) ∈ xWA := wd5 186 rfl rfl
theorem ok_Model_bestCapoNow : xOk "" m_Model_bestCapoNow 0 := ⟨w_385, w_264, ⟨by decide +kernel, by decide +kernel⟩, by decide +kernel⟩
theorem w_386 : (Jvm.Cond.instanceMethod ({ cls := "TablatureModel", name := "bestCapoNow", desc := "()I" } : Jvm.MethodName)) ∈ xWA := wd5 185 rfl rfl
theorem sel_43 : Cond.selects m_Model_bestCapoNow.1.cls m_Model_bestCapoNow.1 m_Model_bestCapoNow.1 ∈ xWA := xWA_in (List.mem_append_left _ (List.mem_of_getElem? (i := 43) (by decide +kernel))) rfl
theorem w_387 : (Jvm.Cond.methodLink "TablatureModel" (214 : Nat) ({ cls := "TablatureModel", name := "bestCapoNow", desc := "()I" } : Jvm.MethodName)) ∈ xWA := wd5 183 rfl rfl
theorem s_Model_214 : xVi "TablatureModel" 214 8 m_Model_bestCapoNow 0 := ⟨ok_Model_bestCapoNow, w_387, w_386, sel_43, TX9, 16, rfl⟩
theorem w_388 : (Jvm.Cond.code ({ cls := "TablatureModel", name := "withoutNow", desc := "(I)I" } : Jvm.MethodName) prog_11_method_65_code (4 : Nat) (Option.some Jvm.ClassFile.FieldType.int)) ∈ xWA := wd5 194 rfl rfl
theorem ok_Model_withoutNow : xOk "" m_Model_withoutNow 1 := ⟨w_388, w_264, ⟨by decide +kernel, by decide +kernel⟩, by decide +kernel⟩
theorem w_389 : (Jvm.Cond.instanceMethod ({ cls := "TablatureModel", name := "withoutNow", desc := "(I)I" } : Jvm.MethodName)) ∈ xWA := wd5 193 rfl rfl
theorem sel_44 : Cond.selects m_Model_withoutNow.1.cls m_Model_withoutNow.1 m_Model_withoutNow.1 ∈ xWA := xWA_in (List.mem_append_left _ (List.mem_of_getElem? (i := 44) (by decide +kernel))) rfl
theorem w_390 : (Jvm.Cond.methodLink "TablatureModel" (217 : Nat) ({ cls := "TablatureModel", name := "withoutNow", desc := "(I)I" } : Jvm.MethodName)) ∈ xWA := wd5 191 rfl rfl
theorem s_Model_217 : xVi "TablatureModel" 217 8 m_Model_withoutNow 1 := ⟨ok_Model_withoutNow, w_390, w_389, sel_44, TX9, 16, rfl⟩
theorem w_391 : (Jvm.Cond.constantLong "TablatureModel" (220 : Nat) (58104 : Int64)) ∈ xWA := wd5 203 rfl rfl
theorem k_Model_220 : (Jvm.Cond.constantLong "TablatureModel" (220 : Nat) (58104 : Int64)) ∈ xWA := w_391
theorem w_392 : (Jvm.Cond.constantLong "TablatureModel" (222 : Nat) (31 : Int64)) ∈ xWA := wd5 204 rfl rfl
theorem k_Model_222 : (Jvm.Cond.constantLong "TablatureModel" (222 : Nat) (31 : Int64)) ∈ xWA := w_392
theorem w_393 : (Jvm.Cond.methodLink "Tablature$Chord" (3 : Nat) ({ cls := "java/lang/Object", name := "<init>", desc := "()V" } : Jvm.MethodName)) ∈ xWA := wd1 72 rfl rfl
theorem s_Chord_3 : (Jvm.Cond.methodLink "Tablature$Chord" (3 : Nat) ({ cls := "java/lang/Object", name := "<init>", desc := "()V" } : Jvm.MethodName)) ∈ xWA := w_393
theorem w_394 : (Jvm.Cond.fieldLink "Tablature$Chord" (9 : Nat) "Tablature$Chord" "pitches" "[I") ∈ xWA := wd1 73 rfl rfl
theorem p_Chord_9 : xP "Tablature$Chord" 9 0 0 (.array .int) true := ⟨RX0, TX0, 4, tyX0, rfl, fun w hw => xWA_in (in_RX0 w hw).1 (in_RX0 w hw).2, by decide, w_394, tyX0_ok, nmX0, rfl, by decide +kernel, Or.inr rfl⟩
theorem w_395 : (Jvm.Cond.fieldLink "Tablature$Chord" (15 : Nat) "Tablature$Chord" "size" "I") ∈ xWA := wd1 75 rfl rfl
theorem p_Chord_15 : xP "Tablature$Chord" 15 0 1 .int false := ⟨RX0, TX0, 4, tyX0, rfl, fun w hw => xWA_in (in_RX0 w hw).1 (in_RX0 w hw).2, by decide, w_395, tyX0_ok, nmX0, rfl, by decide +kernel, Or.inl rfl⟩
theorem w_396 : (Jvm.Cond.fieldLink "Tablature$Chord" (19 : Nat) "Tablature$Chord" "length" "I") ∈ xWA := wd1 78 rfl rfl
theorem p_Chord_19 : xP "Tablature$Chord" 19 0 2 .int false := ⟨RX0, TX0, 4, tyX0, rfl, fun w hw => xWA_in (in_RX0 w hw).1 (in_RX0 w hw).2, by decide, w_396, tyX0_ok, nmX0, rfl, by decide +kernel, Or.inl rfl⟩
theorem w_397 : (Jvm.Cond.fieldLink "Tablature$Chord" (22 : Nat) "Tablature$Chord" "fixedCode" "I") ∈ xWA := wd1 82 rfl rfl
theorem p_Chord_22 : xP "Tablature$Chord" 22 0 3 .int false := ⟨RX0, TX0, 4, tyX0, rfl, fun w hw => xWA_in (in_RX0 w hw).1 (in_RX0 w hw).2, by decide, w_397, tyX0_ok, nmX0, rfl, by decide +kernel, Or.inl rfl⟩
theorem f_Chord_15 : xF "Tablature$Chord" 15 0 1 := ⟨RX0, TX0, 4, rfl, fun w hw => xWA_in (in_RX0 w hw).1 (in_RX0 w hw).2, by decide, w_395⟩
theorem f_Chord_9 : xF "Tablature$Chord" 9 0 0 := ⟨RX0, TX0, 4, rfl, fun w hw => xWA_in (in_RX0 w hw).1 (in_RX0 w hw).2, by decide, w_394⟩
theorem w_398 : (Jvm.Cond.methodLink "Tablature$Chord" (25 : Nat) ({ cls := "java/lang/Math", name := "min", desc := "(II)I" } : Jvm.MethodName)) ∈ xWA := wd2 201 rfl rfl
theorem s_Chord_25 : (Jvm.Cond.methodLink "Tablature$Chord" (25 : Nat) ({ cls := "java/lang/Math", name := "min", desc := "(II)I" } : Jvm.MethodName)) ∈ xWA := w_398
theorem w_399 : (Jvm.Cond.methodLink "Tablature$Chord" (31 : Nat) ({ cls := "java/lang/Math", name := "max", desc := "(II)I" } : Jvm.MethodName)) ∈ xWA := wd2 206 rfl rfl
theorem s_Chord_31 : (Jvm.Cond.methodLink "Tablature$Chord" (31 : Nat) ({ cls := "java/lang/Math", name := "max", desc := "(II)I" } : Jvm.MethodName)) ∈ xWA := w_399
theorem w_400 : (Jvm.Cond.constant "Tablature$GripCode" (11 : Nat) (1118481 : Int32)) ∈ xWA := wd2 125 rfl rfl
theorem k_Code_11 : (Jvm.Cond.constant "Tablature$GripCode" (11 : Nat) (1118481 : Int32)) ∈ xWA := w_400
theorem w_401 : (Jvm.Cond.methodLink "Tablature$Grips" (3 : Nat) ({ cls := "java/lang/Object", name := "<init>", desc := "()V" } : Jvm.MethodName)) ∈ xWA := wd1 156 rfl rfl
theorem s_Grips_3 : (Jvm.Cond.methodLink "Tablature$Grips" (3 : Nat) ({ cls := "java/lang/Object", name := "<init>", desc := "()V" } : Jvm.MethodName)) ∈ xWA := w_401
theorem w_402 : (Jvm.Cond.fieldLink "Tablature$Grips" (9 : Nat) "Tablature$Grips" "codes" "[I") ∈ xWA := wd1 157 rfl rfl
theorem p_Grips_9 : xP "Tablature$Grips" 9 1 0 (.array .int) true := ⟨RX2, TX2, 4, tyX2, rfl, fun w hw => xWA_in (in_RX2 w hw).1 (in_RX2 w hw).2, by decide, w_402, tyX2_ok, nmX2, rfl, by decide +kernel, Or.inr rfl⟩
theorem w_403 : (Jvm.Cond.fieldLink "Tablature$Grips" (15 : Nat) "Tablature$Grips" "efforts" "[I") ∈ xWA := wd1 160 rfl rfl
theorem p_Grips_15 : xP "Tablature$Grips" 15 1 1 (.array .int) true := ⟨RX2, TX2, 4, tyX2, rfl, fun w hw => xWA_in (in_RX2 w hw).1 (in_RX2 w hw).2, by decide, w_403, tyX2_ok, nmX2, rfl, by decide +kernel, Or.inr rfl⟩
theorem w_404 : (Jvm.Cond.fieldLink "Tablature$Grips" (18 : Nat) "Tablature$Grips" "lows" "[I") ∈ xWA := wd1 163 rfl rfl
theorem p_Grips_18 : xP "Tablature$Grips" 18 1 2 (.array .int) true := ⟨RX2, TX2, 4, tyX2, rfl, fun w hw => xWA_in (in_RX2 w hw).1 (in_RX2 w hw).2, by decide, w_404, tyX2_ok, nmX2, rfl, by decide +kernel, Or.inr rfl⟩
theorem w_405 : (Jvm.Cond.fieldLink "Tablature$Grips" (21 : Nat) "Tablature$Grips" "count" "I") ∈ xWA := wd1 165 rfl rfl
theorem p_Grips_21 : xP "Tablature$Grips" 21 1 3 .int false := ⟨RX2, TX2, 4, tyX2, rfl, fun w hw => xWA_in (in_RX2 w hw).1 (in_RX2 w hw).2, by decide, w_405, tyX2_ok, nmX2, rfl, by decide +kernel, Or.inl rfl⟩
theorem f_Grips_21 : xF "Tablature$Grips" 21 1 3 := ⟨RX2, TX2, 4, rfl, fun w hw => xWA_in (in_RX2 w hw).1 (in_RX2 w hw).2, by decide, w_405⟩
theorem f_Grips_9 : xF "Tablature$Grips" 9 1 0 := ⟨RX2, TX2, 4, rfl, fun w hw => xWA_in (in_RX2 w hw).1 (in_RX2 w hw).2, by decide, w_402⟩
theorem f_Grips_15 : xF "Tablature$Grips" 15 1 1 := ⟨RX2, TX2, 4, rfl, fun w hw => xWA_in (in_RX2 w hw).1 (in_RX2 w hw).2, by decide, w_403⟩
theorem w_406 : (Jvm.Cond.methodLink "Tablature$Grips" (25 : Nat) ({ cls := "java/lang/Math", name := "min", desc := "(II)I" } : Jvm.MethodName)) ∈ xWA := wd2 81 rfl rfl
theorem s_Grips_25 : (Jvm.Cond.methodLink "Tablature$Grips" (25 : Nat) ({ cls := "java/lang/Math", name := "min", desc := "(II)I" } : Jvm.MethodName)) ∈ xWA := w_406
theorem f_Grips_18 : xF "Tablature$Grips" 18 1 2 := ⟨RX2, TX2, 4, rfl, fun w hw => xWA_in (in_RX2 w hw).1 (in_RX2 w hw).2, by decide, w_404⟩
theorem w_407 : (Jvm.Cond.methodLink "Tablature$Hand" (3 : Nat) ({ cls := "java/lang/Object", name := "<init>", desc := "()V" } : Jvm.MethodName)) ∈ xWA := wd1 120 rfl rfl
theorem s_Hand_3 : (Jvm.Cond.methodLink "Tablature$Hand" (3 : Nat) ({ cls := "java/lang/Object", name := "<init>", desc := "()V" } : Jvm.MethodName)) ∈ xWA := w_407
theorem w_408 : (Jvm.Cond.fieldLink "Tablature$Hand" (9 : Nat) "Tablature$Hand" "low" "I") ∈ xWA := wd1 121 rfl rfl
theorem p_Hand_9 : xP "Tablature$Hand" 9 2 0 .int false := ⟨RX3, TX3, 8, tyX3, rfl, fun w hw => xWA_in (in_RX3 w hw).1 (in_RX3 w hw).2, by decide, w_408, tyX3_ok, nmX3, rfl, by decide +kernel, Or.inl rfl⟩
theorem w_409 : (Jvm.Cond.fieldLink "Tablature$Hand" (15 : Nat) "Tablature$Hand" "high" "I") ∈ xWA := wd1 124 rfl rfl
theorem p_Hand_15 : xP "Tablature$Hand" 15 2 1 .int false := ⟨RX3, TX3, 8, tyX3, rfl, fun w hw => xWA_in (in_RX3 w hw).1 (in_RX3 w hw).2, by decide, w_409, tyX3_ok, nmX3, rfl, by decide +kernel, Or.inl rfl⟩
theorem w_410 : (Jvm.Cond.fieldLink "Tablature$Hand" (18 : Nat) "Tablature$Hand" "sounding" "I") ∈ xWA := wd1 126 rfl rfl
theorem p_Hand_18 : xP "Tablature$Hand" 18 2 2 .int false := ⟨RX3, TX3, 8, tyX3, rfl, fun w hw => xWA_in (in_RX3 w hw).1 (in_RX3 w hw).2, by decide, w_410, tyX3_ok, nmX3, rfl, by decide +kernel, Or.inl rfl⟩
theorem w_411 : (Jvm.Cond.fieldLink "Tablature$Hand" (21 : Nat) "Tablature$Hand" "barre" "Z") ∈ xWA := wd1 129 rfl rfl
theorem p_Hand_21 : xP "Tablature$Hand" 21 2 3 .boolean false := ⟨RX3, TX3, 8, tyX3, rfl, fun w hw => xWA_in (in_RX3 w hw).1 (in_RX3 w hw).2, by decide, w_411, tyX3_ok, nmX3, rfl, by decide +kernel, Or.inl rfl⟩
theorem w_412 : (Jvm.Cond.fieldLink "Tablature$Hand" (25 : Nat) "Tablature$Hand" "frets" "[I") ∈ xWA := wd1 131 rfl rfl
theorem p_Hand_25 : xP "Tablature$Hand" 25 2 4 (.array .int) true := ⟨RX3, TX3, 8, tyX3, rfl, fun w hw => xWA_in (in_RX3 w hw).1 (in_RX3 w hw).2, by decide, w_412, tyX3_ok, nmX3, rfl, by decide +kernel, Or.inr rfl⟩
theorem w_413 : (Jvm.Cond.fieldLink "Tablature$Hand" (29 : Nat) "Tablature$Hand" "pressed" "I") ∈ xWA := wd1 132 rfl rfl
theorem p_Hand_29 : xP "Tablature$Hand" 29 2 5 .int false := ⟨RX3, TX3, 8, tyX3, rfl, fun w hw => xWA_in (in_RX3 w hw).1 (in_RX3 w hw).2, by decide, w_413, tyX3_ok, nmX3, rfl, by decide +kernel, Or.inl rfl⟩
theorem w_414 : (Jvm.Cond.fieldLink "Tablature$Hand" (32 : Nat) "Tablature$Hand" "pressedAtLow" "I") ∈ xWA := wd1 133 rfl rfl
theorem p_Hand_32 : xP "Tablature$Hand" 32 2 6 .int false := ⟨RX3, TX3, 8, tyX3, rfl, fun w hw => xWA_in (in_RX3 w hw).1 (in_RX3 w hw).2, by decide, w_414, tyX3_ok, nmX3, rfl, by decide +kernel, Or.inl rfl⟩
theorem w_415 : (Jvm.Cond.fieldLink "Tablature$Hand" (35 : Nat) "Tablature$Hand" "skipped" "I") ∈ xWA := wd1 134 rfl rfl
theorem p_Hand_35 : xP "Tablature$Hand" 35 2 7 .int false := ⟨RX3, TX3, 8, tyX3, rfl, fun w hw => xWA_in (in_RX3 w hw).1 (in_RX3 w hw).2, by decide, w_415, tyX3_ok, nmX3, rfl, by decide +kernel, Or.inl rfl⟩
theorem f_Hand_25 : xF "Tablature$Hand" 25 2 4 := ⟨RX3, TX3, 8, rfl, fun w hw => xWA_in (in_RX3 w hw).1 (in_RX3 w hw).2, by decide, w_412⟩
theorem w_416 : (Jvm.Cond.methodLink "Tablature$Hand" (38 : Nat) ({ cls := "Tablature$GripCode", name := "fretAt", desc := "(II)I" } : Jvm.MethodName)) ∈ xWA := wd2 50 rfl rfl
theorem s_Hand_38 : xS "Tablature$Hand" 38 m_Code_fretAt 2 := ⟨ok_Code_fretAt, w_416, w_122⟩
theorem w_417 : (Jvm.Cond.code ({ cls := "Tablature$Hand", name := "countSounding", desc := "()V" } : Jvm.MethodName) prog_5_method_3_code (3 : Nat) (Option.none : Option Jvm.ClassFile.FieldType)) ∈ xWA := wd2 56 rfl rfl
theorem ok_Hand_countSounding : xOk "" m_Hand_countSounding 0 := ⟨w_417, w_31, ⟨by decide +kernel, by decide +kernel⟩, by decide +kernel⟩
theorem w_418 : (Jvm.Cond.instanceMethod ({ cls := "Tablature$Hand", name := "countSounding", desc := "()V" } : Jvm.MethodName)) ∈ xWA := wd2 55 rfl rfl
theorem sel_1 : Cond.selects m_Hand_countSounding.1.cls m_Hand_countSounding.1 m_Hand_countSounding.1 ∈ xWA := xWA_in (List.mem_append_left _ (List.mem_of_getElem? (i := 1) (by decide +kernel))) rfl
theorem w_419 : (Jvm.Cond.methodLink "Tablature$Hand" (44 : Nat) ({ cls := "Tablature$Hand", name := "countSounding", desc := "()V" } : Jvm.MethodName)) ∈ xWA := wd2 53 rfl rfl
theorem s_Hand_44 : xVi "Tablature$Hand" 44 2 m_Hand_countSounding 0 := ⟨ok_Hand_countSounding, w_419, w_418, sel_1, TX3, 8, rfl⟩
theorem w_420 : (Jvm.Cond.code ({ cls := "Tablature$Hand", name := "countPressed", desc := "()V" } : Jvm.MethodName) prog_5_method_4_code (3 : Nat) (Option.none : Option Jvm.ClassFile.FieldType)) ∈ xWA := wd2 60 rfl rfl
theorem ok_Hand_countPressed : xOk "" m_Hand_countPressed 0 := ⟨w_420, w_31, ⟨by decide +kernel, by decide +kernel⟩, by decide +kernel⟩
theorem w_421 : (Jvm.Cond.instanceMethod ({ cls := "Tablature$Hand", name := "countPressed", desc := "()V" } : Jvm.MethodName)) ∈ xWA := wd2 59 rfl rfl
theorem sel_2 : Cond.selects m_Hand_countPressed.1.cls m_Hand_countPressed.1 m_Hand_countPressed.1 ∈ xWA := xWA_in (List.mem_append_left _ (List.mem_of_getElem? (i := 2) (by decide +kernel))) rfl
theorem w_422 : (Jvm.Cond.methodLink "Tablature$Hand" (47 : Nat) ({ cls := "Tablature$Hand", name := "countPressed", desc := "()V" } : Jvm.MethodName)) ∈ xWA := wd2 57 rfl rfl
theorem s_Hand_47 : xVi "Tablature$Hand" 47 2 m_Hand_countPressed 0 := ⟨ok_Hand_countPressed, w_422, w_421, sel_2, TX3, 8, rfl⟩
theorem w_423 : (Jvm.Cond.code ({ cls := "Tablature$Hand", name := "findBarre", desc := "()V" } : Jvm.MethodName) prog_5_method_5_code (5 : Nat) (Option.none : Option Jvm.ClassFile.FieldType)) ∈ xWA := wd2 64 rfl rfl
theorem ok_Hand_findBarre : xOk "" m_Hand_findBarre 0 := ⟨w_423, w_31, ⟨by decide +kernel, by decide +kernel⟩, by decide +kernel⟩
theorem w_424 : (Jvm.Cond.instanceMethod ({ cls := "Tablature$Hand", name := "findBarre", desc := "()V" } : Jvm.MethodName)) ∈ xWA := wd2 63 rfl rfl
theorem sel_3 : Cond.selects m_Hand_findBarre.1.cls m_Hand_findBarre.1 m_Hand_findBarre.1 ∈ xWA := xWA_in (List.mem_append_left _ (List.mem_of_getElem? (i := 3) (by decide +kernel))) rfl
theorem w_425 : (Jvm.Cond.methodLink "Tablature$Hand" (50 : Nat) ({ cls := "Tablature$Hand", name := "findBarre", desc := "()V" } : Jvm.MethodName)) ∈ xWA := wd2 61 rfl rfl
theorem s_Hand_50 : xVi "Tablature$Hand" 50 2 m_Hand_findBarre 0 := ⟨ok_Hand_findBarre, w_425, w_424, sel_3, TX3, 8, rfl⟩
theorem f_Hand_35 : xF "Tablature$Hand" 35 2 7 := ⟨RX3, TX3, 8, rfl, fun w hw => xWA_in (in_RX3 w hw).1 (in_RX3 w hw).2, by decide, w_415⟩
theorem f_Hand_18 : xF "Tablature$Hand" 18 2 2 := ⟨RX3, TX3, 8, rfl, fun w hw => xWA_in (in_RX3 w hw).1 (in_RX3 w hw).2, by decide, w_410⟩
theorem f_Hand_29 : xF "Tablature$Hand" 29 2 5 := ⟨RX3, TX3, 8, rfl, fun w hw => xWA_in (in_RX3 w hw).1 (in_RX3 w hw).2, by decide, w_413⟩
theorem f_Hand_9 : xF "Tablature$Hand" 9 2 0 := ⟨RX3, TX3, 8, rfl, fun w hw => xWA_in (in_RX3 w hw).1 (in_RX3 w hw).2, by decide, w_408⟩
theorem f_Hand_15 : xF "Tablature$Hand" 15 2 1 := ⟨RX3, TX3, 8, rfl, fun w hw => xWA_in (in_RX3 w hw).1 (in_RX3 w hw).2, by decide, w_409⟩
theorem f_Hand_32 : xF "Tablature$Hand" 32 2 6 := ⟨RX3, TX3, 8, rfl, fun w hw => xWA_in (in_RX3 w hw).1 (in_RX3 w hw).2, by decide, w_414⟩
theorem f_Hand_21 : xF "Tablature$Hand" 21 2 3 := ⟨RX3, TX3, 8, rfl, fun w hw => xWA_in (in_RX3 w hw).1 (in_RX3 w hw).2, by decide, w_411⟩
theorem w_426 : (Jvm.Cond.methodLink "Tablature$Hand" (53 : Nat) ({ cls := "Tablature$Hand", name := "fingerCount", desc := "()I" } : Jvm.MethodName)) ∈ xWA := wd2 69 rfl rfl
theorem s_Hand_53 : xVi "Tablature$Hand" 53 2 m_Hand_fingerCount 0 := ⟨ok_Hand_fingerCount, w_426, w_228, w_229, TX3, 8, rfl⟩
theorem w_427 : (Jvm.Cond.methodLink "Tablature$Instrument" (3 : Nat) ({ cls := "java/lang/Object", name := "<init>", desc := "()V" } : Jvm.MethodName)) ∈ xWA := wd1 33 rfl rfl
theorem s_Instr_3 : (Jvm.Cond.methodLink "Tablature$Instrument" (3 : Nat) ({ cls := "java/lang/Object", name := "<init>", desc := "()V" } : Jvm.MethodName)) ∈ xWA := w_427
theorem w_428 : (Jvm.Cond.fieldLink "Tablature$Instrument" (9 : Nat) "Tablature$Instrument" "open" "[I") ∈ xWA := wd1 34 rfl rfl
theorem p_Instr_9 : xP "Tablature$Instrument" 9 3 0 (.array .int) true := ⟨RX4, TX4, 5, tyX4, rfl, fun w hw => xWA_in (in_RX4 w hw).1 (in_RX4 w hw).2, by decide, w_428, tyX4_ok, nmX4, rfl, by decide +kernel, Or.inr rfl⟩
theorem w_429 : (Jvm.Cond.fieldLink "Tablature$Instrument" (15 : Nat) "Tablature$Instrument" "slack" "[Z") ∈ xWA := wd1 36 rfl rfl
theorem p_Instr_15 : xP "Tablature$Instrument" 15 3 1 (.array .boolean) true := ⟨RX4, TX4, 5, tyX4, rfl, fun w hw => xWA_in (in_RX4 w hw).1 (in_RX4 w hw).2, by decide, w_429, tyX4_ok, nmX4, rfl, by decide +kernel, Or.inr rfl⟩
theorem w_430 : (Jvm.Cond.fieldLink "Tablature$Instrument" (19 : Nat) "Tablature$Instrument" "count" "I") ∈ xWA := wd1 38 rfl rfl
theorem p_Instr_19 : xP "Tablature$Instrument" 19 3 2 .int false := ⟨RX4, TX4, 5, tyX4, rfl, fun w hw => xWA_in (in_RX4 w hw).1 (in_RX4 w hw).2, by decide, w_430, tyX4_ok, nmX4, rfl, by decide +kernel, Or.inl rfl⟩
theorem w_431 : (Jvm.Cond.fieldLink "Tablature$Instrument" (23 : Nat) "Tablature$Instrument" "capo" "I") ∈ xWA := wd1 41 rfl rfl
theorem p_Instr_23 : xP "Tablature$Instrument" 23 3 3 .int false := ⟨RX4, TX4, 5, tyX4, rfl, fun w hw => xWA_in (in_RX4 w hw).1 (in_RX4 w hw).2, by decide, w_431, tyX4_ok, nmX4, rfl, by decide +kernel, Or.inl rfl⟩
theorem w_432 : (Jvm.Cond.fieldLink "Tablature$Instrument" (26 : Nat) "Tablature$Instrument" "reach" "I") ∈ xWA := wd1 43 rfl rfl
theorem p_Instr_26 : xP "Tablature$Instrument" 26 3 4 .int false := ⟨RX4, TX4, 5, tyX4, rfl, fun w hw => xWA_in (in_RX4 w hw).1 (in_RX4 w hw).2, by decide, w_432, tyX4_ok, nmX4, rfl, by decide +kernel, Or.inl rfl⟩
theorem f_Instr_19 : xF "Tablature$Instrument" 19 3 2 := ⟨RX4, TX4, 5, rfl, fun w hw => xWA_in (in_RX4 w hw).1 (in_RX4 w hw).2, by decide, w_430⟩
theorem f_Instr_9 : xF "Tablature$Instrument" 9 3 0 := ⟨RX4, TX4, 5, rfl, fun w hw => xWA_in (in_RX4 w hw).1 (in_RX4 w hw).2, by decide, w_428⟩
theorem f_Instr_15 : xF "Tablature$Instrument" 15 3 1 := ⟨RX4, TX4, 5, rfl, fun w hw => xWA_in (in_RX4 w hw).1 (in_RX4 w hw).2, by decide, w_429⟩
theorem f_Instr_23 : xF "Tablature$Instrument" 23 3 3 := ⟨RX4, TX4, 5, rfl, fun w hw => xWA_in (in_RX4 w hw).1 (in_RX4 w hw).2, by decide, w_431⟩
theorem f_Instr_26 : xF "Tablature$Instrument" 26 3 4 := ⟨RX4, TX4, 5, rfl, fun w hw => xWA_in (in_RX4 w hw).1 (in_RX4 w hw).2, by decide, w_432⟩
theorem w_433 : (Jvm.Cond.code ({ cls := "Tablature$Instrument", name := "isUsed", desc := "(I)Z" } : Jvm.MethodName) prog_6_method_5_code (2 : Nat) (Option.some Jvm.ClassFile.FieldType.boolean)) ∈ xWA := wd2 89 rfl rfl
theorem ok_Instr_isUsed : xOk "" m_Instr_isUsed 1 := ⟨w_433, w_3, ⟨by decide +kernel, by decide +kernel⟩, by decide +kernel⟩
theorem w_434 : (Jvm.Cond.instanceMethod ({ cls := "Tablature$Instrument", name := "isUsed", desc := "(I)Z" } : Jvm.MethodName)) ∈ xWA := wd2 87 rfl rfl
theorem w_435 : (Jvm.Cond.selects "Tablature$Instrument" ({ cls := "Tablature$Instrument", name := "isUsed", desc := "(I)Z" } : Jvm.MethodName) ({ cls := "Tablature$Instrument", name := "isUsed", desc := "(I)Z" } : Jvm.MethodName)) ∈ xWA := wd2 88 rfl rfl
theorem w_436 : (Jvm.Cond.methodLink "Tablature$Instrument" (29 : Nat) ({ cls := "Tablature$Instrument", name := "isUsed", desc := "(I)Z" } : Jvm.MethodName)) ∈ xWA := wd2 86 rfl rfl
theorem s_Instr_29 : xVi "Tablature$Instrument" 29 3 m_Instr_isUsed 1 := ⟨ok_Instr_isUsed, w_436, w_434, w_435, TX4, 5, rfl⟩
theorem w_437 : (Jvm.Cond.code ({ cls := "Tablature$Instrument", name := "lastFret", desc := "()I" } : Jvm.MethodName) prog_6_method_6_code (1 : Nat) (Option.some Jvm.ClassFile.FieldType.int)) ∈ xWA := wd2 93 rfl rfl
theorem ok_Instr_lastFret : xOk "" m_Instr_lastFret 0 := ⟨w_437, w_3, ⟨by decide +kernel, by decide +kernel⟩, by decide +kernel⟩
theorem w_438 : (Jvm.Cond.instanceMethod ({ cls := "Tablature$Instrument", name := "lastFret", desc := "()I" } : Jvm.MethodName)) ∈ xWA := wd2 91 rfl rfl
theorem w_439 : (Jvm.Cond.selects "Tablature$Instrument" ({ cls := "Tablature$Instrument", name := "lastFret", desc := "()I" } : Jvm.MethodName) ({ cls := "Tablature$Instrument", name := "lastFret", desc := "()I" } : Jvm.MethodName)) ∈ xWA := wd2 92 rfl rfl
theorem w_440 : (Jvm.Cond.methodLink "Tablature$Instrument" (33 : Nat) ({ cls := "Tablature$Instrument", name := "lastFret", desc := "()I" } : Jvm.MethodName)) ∈ xWA := wd2 90 rfl rfl
theorem s_Instr_33 : xVi "Tablature$Instrument" 33 3 m_Instr_lastFret 0 := ⟨ok_Instr_lastFret, w_440, w_438, w_439, TX4, 5, rfl⟩
theorem w_441 : (Jvm.Cond.methodLink "Tablature$Piece" (3 : Nat) ({ cls := "java/lang/Object", name := "<init>", desc := "()V" } : Jvm.MethodName)) ∈ xWA := wd1 65 rfl rfl
theorem s_Piece_3 : (Jvm.Cond.methodLink "Tablature$Piece" (3 : Nat) ({ cls := "java/lang/Object", name := "<init>", desc := "()V" } : Jvm.MethodName)) ∈ xWA := w_441
theorem w_442 : (Jvm.Cond.classLink "Tablature$Piece" (9 : Nat) "Tablature$Chord") ∈ xWA := wd1 66 rfl rfl
theorem a_Piece_9 : Cond.classLink "Tablature$Piece" 9 "Tablature$Chord" ∈ xWA := w_442
theorem w_443 : (Jvm.Cond.fieldLink "Tablature$Piece" (11 : Nat) "Tablature$Piece" "chords" "[LTablature$Chord;") ∈ xWA := wd1 94 rfl rfl
theorem p_Piece_11 : xP "Tablature$Piece" 11 4 0 (.array (.object "Tablature$Chord")) true := ⟨RX5, TX5, 2, tyX5, rfl, fun w hw => xWA_in (in_RX5 w hw).1 (in_RX5 w hw).2, by decide, w_443, tyX5_ok, nmX5, rfl, by decide +kernel, Or.inr rfl⟩
theorem w_444 : (Jvm.Cond.fieldLink "Tablature$Piece" (17 : Nat) "Tablature$Piece" "count" "I") ∈ xWA := wd1 97 rfl rfl
theorem p_Piece_17 : xP "Tablature$Piece" 17 4 1 .int false := ⟨RX5, TX5, 2, tyX5, rfl, fun w hw => xWA_in (in_RX5 w hw).1 (in_RX5 w hw).2, by decide, w_444, tyX5_ok, nmX5, rfl, by decide +kernel, Or.inl rfl⟩
theorem f_Piece_11 : xF "Tablature$Piece" 11 4 0 := ⟨RX5, TX5, 2, rfl, fun w hw => xWA_in (in_RX5 w hw).1 (in_RX5 w hw).2, by decide, w_443⟩
theorem w_445 : (Jvm.Cond.instantiable "Tablature$Chord" (4 : Nat)) ∈ xWA := wd1 68 rfl rfl
theorem n_Piece_9 : xNw "Tablature$Piece" 9 0 4 [.null, vi 0, vi 0, vi 0] := ⟨RX0, TX0, tyX0, rfl, fun w hw => xWA_in (in_RX0 w hw).1 (in_RX0 w hw).2, tyX0_ok, w_442, w_445, w_85, by decide +kernel⟩
theorem w_446 : (Jvm.Cond.code ({ cls := "Tablature$Chord", name := "<init>", desc := "()V" } : Jvm.MethodName) prog_2_method_1_code (1 : Nat) (Option.none : Option Jvm.ClassFile.FieldType)) ∈ xWA := wd1 71 rfl rfl
theorem ok_Chord_init : xOk "" m_Chord_init 0 := ⟨w_446, w_85, ⟨by decide +kernel, by decide +kernel⟩, by decide +kernel⟩
theorem w_447 : (Jvm.Cond.instanceMethod ({ cls := "Tablature$Chord", name := "<init>", desc := "()V" } : Jvm.MethodName)) ∈ xWA := wd1 70 rfl rfl
theorem s_Piece_21 : xIN "Tablature$Piece" 21 "Tablature" m_Chord_init 0 := ⟨ok_Chord_init, by decide +kernel, w_447, rfl, rfl⟩
theorem f_Piece_17 : xF "Tablature$Piece" 17 4 1 := ⟨RX5, TX5, 2, rfl, fun w hw => xWA_in (in_RX5 w hw).1 (in_RX5 w hw).2, by decide, w_444⟩
theorem w_448 : (Jvm.Cond.methodLink "Tablature$Piece" (22 : Nat) ({ cls := "java/lang/Math", name := "min", desc := "(II)I" } : Jvm.MethodName)) ∈ xWA := wd3 222 rfl rfl
theorem s_Piece_22 : (Jvm.Cond.methodLink "Tablature$Piece" (22 : Nat) ({ cls := "java/lang/Math", name := "min", desc := "(II)I" } : Jvm.MethodName)) ∈ xWA := w_448
theorem w_449 : (Jvm.Cond.code ({ cls := "Tablature$Chord", name := "clear", desc := "(I)V" } : Jvm.MethodName) prog_2_method_2_code (2 : Nat) (Option.none : Option Jvm.ClassFile.FieldType)) ∈ xWA := wd3 226 rfl rfl
theorem ok_Chord_clear : xOk "" m_Chord_clear 1 := ⟨w_449, w_85, ⟨by decide +kernel, by decide +kernel⟩, by decide +kernel⟩
theorem w_450 : (Jvm.Cond.instanceMethod ({ cls := "Tablature$Chord", name := "clear", desc := "(I)V" } : Jvm.MethodName)) ∈ xWA := wd3 224 rfl rfl
theorem w_451 : (Jvm.Cond.selects "Tablature$Chord" ({ cls := "Tablature$Chord", name := "clear", desc := "(I)V" } : Jvm.MethodName) ({ cls := "Tablature$Chord", name := "clear", desc := "(I)V" } : Jvm.MethodName)) ∈ xWA := wd3 225 rfl rfl
theorem w_452 : (Jvm.Cond.methodLink "Tablature$Piece" (28 : Nat) ({ cls := "Tablature$Chord", name := "clear", desc := "(I)V" } : Jvm.MethodName)) ∈ xWA := wd3 223 rfl rfl
theorem s_Piece_28 : xVi "Tablature$Piece" 28 0 m_Chord_clear 1 := ⟨ok_Chord_clear, w_452, w_450, w_451, TX0, 4, rfl⟩
theorem w_453 : (Jvm.Cond.fieldLink "Tablature$Piece" (32 : Nat) "Tablature$Chord" "length" "I") ∈ xWA := wd1 80 rfl rfl
theorem f_Piece_32 : xF "Tablature$Piece" 32 0 2 := ⟨RX0, TX0, 4, rfl, fun w hw => xWA_in (in_RX0 w hw).1 (in_RX0 w hw).2, by decide, w_453⟩
theorem w_454 : (Jvm.Cond.methodLink "Tablature$Planner" (3 : Nat) ({ cls := "java/lang/Object", name := "<init>", desc := "()V" } : Jvm.MethodName)) ∈ xWA := wd1 110 rfl rfl
theorem s_Plan_3 : (Jvm.Cond.methodLink "Tablature$Planner" (3 : Nat) ({ cls := "java/lang/Object", name := "<init>", desc := "()V" } : Jvm.MethodName)) ∈ xWA := w_454
theorem w_455 : (Jvm.Cond.classLink "Tablature$Planner" (9 : Nat) "Tablature$Grips") ∈ xWA := wd1 111 rfl rfl
theorem a_Plan_9 : Cond.classLink "Tablature$Planner" 9 "Tablature$Grips" ∈ xWA := w_455
theorem w_456 : (Jvm.Cond.fieldLink "Tablature$Planner" (11 : Nat) "Tablature$Planner" "grips" "[LTablature$Grips;") ∈ xWA := wd1 177 rfl rfl
theorem p_Plan_11 : xP "Tablature$Planner" 11 5 0 (.array (.object "Tablature$Grips")) true := ⟨RX6, TX6, 8, tyX6, rfl, fun w hw => xWA_in (in_RX6 w hw).1 (in_RX6 w hw).2, by decide, w_456, tyX6_ok, nmX6, rfl, by decide +kernel, Or.inr rfl⟩
theorem w_457 : (Jvm.Cond.fieldLink "Tablature$Planner" (17 : Nat) "Tablature$Planner" "fixed" "[I") ∈ xWA := wd1 179 rfl rfl
theorem p_Plan_17 : xP "Tablature$Planner" 17 5 1 (.array .int) true := ⟨RX6, TX6, 8, tyX6, rfl, fun w hw => xWA_in (in_RX6 w hw).1 (in_RX6 w hw).2, by decide, w_457, tyX6_ok, nmX6, rfl, by decide +kernel, Or.inr rfl⟩
theorem w_458 : (Jvm.Cond.fieldLink "Tablature$Planner" (21 : Nat) "Tablature$Planner" "choice" "[I") ∈ xWA := wd1 181 rfl rfl
theorem p_Plan_21 : xP "Tablature$Planner" 21 5 2 (.array .int) true := ⟨RX6, TX6, 8, tyX6, rfl, fun w hw => xWA_in (in_RX6 w hw).1 (in_RX6 w hw).2, by decide, w_458, tyX6_ok, nmX6, rfl, by decide +kernel, Or.inr rfl⟩
theorem w_459 : (Jvm.Cond.fieldLink "Tablature$Planner" (24 : Nat) "Tablature$Planner" "total" "I") ∈ xWA := wd1 183 rfl rfl
theorem p_Plan_24 : xP "Tablature$Planner" 24 5 3 .int false := ⟨RX6, TX6, 8, tyX6, rfl, fun w hw => xWA_in (in_RX6 w hw).1 (in_RX6 w hw).2, by decide, w_459, tyX6_ok, nmX6, rfl, by decide +kernel, Or.inl rfl⟩
theorem w_460 : (Jvm.Cond.fieldLink "Tablature$Planner" (28 : Nat) "Tablature$Planner" "lengths" "[I") ∈ xWA := wd1 185 rfl rfl
theorem p_Plan_28 : xP "Tablature$Planner" 28 5 4 (.array .int) true := ⟨RX6, TX6, 8, tyX6, rfl, fun w hw => xWA_in (in_RX6 w hw).1 (in_RX6 w hw).2, by decide, w_460, tyX6_ok, nmX6, rfl, by decide +kernel, Or.inr rfl⟩
theorem w_461 : (Jvm.Cond.classLink "Tablature$Planner" (31 : Nat) "[[I") ∈ xWA := wd1 113 rfl rfl
theorem a_Plan_31 : Cond.classLink "Tablature$Planner" 31 "[[I" ∈ xWA := w_461
theorem w_462 : (Jvm.Cond.fieldLink "Tablature$Planner" (33 : Nat) "Tablature$Planner" "rest" "[[I") ∈ xWA := wd1 186 rfl rfl
theorem p_Plan_33 : xP "Tablature$Planner" 33 5 5 (.array (.array .int)) true := ⟨RX6, TX6, 8, tyX6, rfl, fun w hw => xWA_in (in_RX6 w hw).1 (in_RX6 w hw).2, by decide, w_462, tyX6_ok, nmX6, rfl, by decide +kernel, Or.inr rfl⟩
theorem w_463 : (Jvm.Cond.classLink "Tablature$Planner" (36 : Nat) "Tablature$Hand") ∈ xWA := wd1 115 rfl rfl
theorem n_Plan_36 : xNw "Tablature$Planner" 36 2 8 [vi 0, vi 0, vi 0, vi 0, .null, vi 0, vi 0, vi 0] := ⟨RX3, TX3, tyX3, rfl, fun w hw => xWA_in (in_RX3 w hw).1 (in_RX3 w hw).2, tyX3_ok, w_463, w_30, w_31, by decide +kernel⟩
theorem s_Plan_38 : xIN "Tablature$Planner" 38 "Tablature" m_Hand_init 0 := ⟨ok_Hand_init, by decide +kernel, w_33, rfl, rfl⟩
theorem w_464 : (Jvm.Cond.fieldLink "Tablature$Planner" (39 : Nat) "Tablature$Planner" "hand" "LTablature$Hand;") ∈ xWA := wd1 187 rfl rfl
theorem p_Plan_39 : xP "Tablature$Planner" 39 5 6 (.object "Tablature$Hand") true := ⟨RX6, TX6, 8, tyX6, rfl, fun w hw => xWA_in (in_RX6 w hw).1 (in_RX6 w hw).2, by decide, w_464, tyX6_ok, nmX6, rfl, by decide +kernel, Or.inr rfl⟩
theorem w_465 : (Jvm.Cond.fieldLink "Tablature$Planner" (43 : Nat) "Tablature$Planner" "count" "I") ∈ xWA := wd1 188 rfl rfl
theorem p_Plan_43 : xP "Tablature$Planner" 43 5 7 .int false := ⟨RX6, TX6, 8, tyX6, rfl, fun w hw => xWA_in (in_RX6 w hw).1 (in_RX6 w hw).2, by decide, w_465, tyX6_ok, nmX6, rfl, by decide +kernel, Or.inl rfl⟩
theorem f_Plan_11 : xF "Tablature$Planner" 11 5 0 := ⟨RX6, TX6, 8, rfl, fun w hw => xWA_in (in_RX6 w hw).1 (in_RX6 w hw).2, by decide, w_456⟩
theorem w_466 : (Jvm.Cond.instantiable "Tablature$Grips" (4 : Nat)) ∈ xWA := wd1 152 rfl rfl
theorem n_Plan_9 : xNw "Tablature$Planner" 9 1 4 [.null, .null, .null, vi 0] := ⟨RX2, TX2, tyX2, rfl, fun w hw => xWA_in (in_RX2 w hw).1 (in_RX2 w hw).2, tyX2_ok, w_455, w_466, w_189, by decide +kernel⟩
theorem w_467 : (Jvm.Cond.code ({ cls := "Tablature$Grips", name := "<init>", desc := "()V" } : Jvm.MethodName) prog_4_method_1_code (1 : Nat) (Option.none : Option Jvm.ClassFile.FieldType)) ∈ xWA := wd1 155 rfl rfl
theorem ok_Grips_init : xOk "" m_Grips_init 0 := ⟨w_467, w_189, ⟨by decide +kernel, by decide +kernel⟩, by decide +kernel⟩
theorem w_468 : (Jvm.Cond.instanceMethod ({ cls := "Tablature$Grips", name := "<init>", desc := "()V" } : Jvm.MethodName)) ∈ xWA := wd1 154 rfl rfl
theorem s_Plan_46 : xIN "Tablature$Planner" 46 "Tablature" m_Grips_init 0 := ⟨ok_Grips_init, by decide +kernel, w_468, rfl, rfl⟩
theorem w_469 : (Jvm.Cond.fieldLink "Tablature$Planner" (47 : Nat) "Tablature$Piece" "count" "I") ∈ xWA := wd1 98 rfl rfl
theorem f_Plan_47 : xF "Tablature$Planner" 47 4 1 := ⟨RX5, TX5, 2, rfl, fun w hw => xWA_in (in_RX5 w hw).1 (in_RX5 w hw).2, by decide, w_469⟩
theorem w_470 : (Jvm.Cond.methodLink "Tablature$Planner" (50 : Nat) ({ cls := "java/lang/Math", name := "min", desc := "(II)I" } : Jvm.MethodName)) ∈ xWA := wd2 40 rfl rfl
theorem s_Plan_50 : (Jvm.Cond.methodLink "Tablature$Planner" (50 : Nat) ({ cls := "java/lang/Math", name := "min", desc := "(II)I" } : Jvm.MethodName)) ∈ xWA := w_470
theorem f_Plan_43 : xF "Tablature$Planner" 43 5 7 := ⟨RX6, TX6, 8, rfl, fun w hw => xWA_in (in_RX6 w hw).1 (in_RX6 w hw).2, by decide, w_465⟩
theorem w_471 : (Jvm.Cond.fieldLink "Tablature$Planner" (56 : Nat) "Tablature$Piece" "chords" "[LTablature$Chord;") ∈ xWA := wd1 95 rfl rfl
theorem f_Plan_56 : xF "Tablature$Planner" 56 4 0 := ⟨RX5, TX5, 2, rfl, fun w hw => xWA_in (in_RX5 w hw).1 (in_RX5 w hw).2, by decide, w_471⟩
theorem w_472 : (Jvm.Cond.fieldLink "Tablature$Planner" (60 : Nat) "Tablature$Grips" "count" "I") ∈ xWA := wd1 166 rfl rfl
theorem p_Plan_60 : xP "Tablature$Planner" 60 1 3 .int false := ⟨RX2, TX2, 4, tyX2, rfl, fun w hw => xWA_in (in_RX2 w hw).1 (in_RX2 w hw).2, by decide, w_472, tyX2_ok, nmX2, rfl, by decide +kernel, Or.inl rfl⟩
theorem f_Plan_39 : xF "Tablature$Planner" 39 5 6 := ⟨RX6, TX6, 8, rfl, fun w hw => xWA_in (in_RX6 w hw).1 (in_RX6 w hw).2, by decide, w_464⟩
theorem w_473 : (Jvm.Cond.code ({ cls := "Tablature$Planner", name := "place", desc := "(LTablature$Grips;LTablature$Hand;LTablature$Instrument;LTablature$Chord;II)V" } : Jvm.MethodName) prog_8_method_3_code (8 : Nat) (Option.none : Option Jvm.ClassFile.FieldType)) ∈ xWA := wd2 45 rfl rfl
theorem ok_Plan_place : xOk "" m_Plan_place 6 := ⟨w_473, w_17, ⟨by decide +kernel, by decide +kernel⟩, by decide +kernel⟩
theorem w_474 : (Jvm.Cond.static ({ cls := "Tablature$Planner", name := "place", desc := "(LTablature$Grips;LTablature$Hand;LTablature$Instrument;LTablature$Chord;II)V" } : Jvm.MethodName)) ∈ xWA := wd2 44 rfl rfl
theorem w_475 : (Jvm.Cond.methodLink "Tablature$Planner" (63 : Nat) ({ cls := "Tablature$Planner", name := "place", desc := "(LTablature$Grips;LTablature$Hand;LTablature$Instrument;LTablature$Chord;II)V" } : Jvm.MethodName)) ∈ xWA := wd2 43 rfl rfl
theorem s_Plan_63 : xS "Tablature$Planner" 63 m_Plan_place 6 := ⟨ok_Plan_place, w_475, w_474⟩
theorem f_Plan_17 : xF "Tablature$Planner" 17 5 1 := ⟨RX6, TX6, 8, rfl, fun w hw => xWA_in (in_RX6 w hw).1 (in_RX6 w hw).2, by decide, w_457⟩
theorem w_476 : (Jvm.Cond.fieldLink "Tablature$Planner" (67 : Nat) "Tablature$Chord" "fixedCode" "I") ∈ xWA := wd1 83 rfl rfl
theorem f_Plan_67 : xF "Tablature$Planner" 67 0 3 := ⟨RX0, TX0, 4, rfl, fun w hw => xWA_in (in_RX0 w hw).1 (in_RX0 w hw).2, by decide, w_476⟩
theorem w_477 : (Jvm.Cond.code ({ cls := "Tablature$Grips", name := "numberOf", desc := "(I)I" } : Jvm.MethodName) prog_4_method_3_code (3 : Nat) (Option.some Jvm.ClassFile.FieldType.int)) ∈ xWA := wd2 101 rfl rfl
theorem ok_Grips_numberOf : xOk "" m_Grips_numberOf 1 := ⟨w_477, w_189, ⟨by decide +kernel, by decide +kernel⟩, by decide +kernel⟩
theorem w_478 : (Jvm.Cond.instanceMethod ({ cls := "Tablature$Grips", name := "numberOf", desc := "(I)I" } : Jvm.MethodName)) ∈ xWA := wd2 99 rfl rfl
theorem w_479 : (Jvm.Cond.selects "Tablature$Grips" ({ cls := "Tablature$Grips", name := "numberOf", desc := "(I)I" } : Jvm.MethodName) ({ cls := "Tablature$Grips", name := "numberOf", desc := "(I)I" } : Jvm.MethodName)) ∈ xWA := wd2 100 rfl rfl
theorem w_480 : (Jvm.Cond.methodLink "Tablature$Planner" (72 : Nat) ({ cls := "Tablature$Grips", name := "numberOf", desc := "(I)I" } : Jvm.MethodName)) ∈ xWA := wd2 98 rfl rfl
theorem s_Plan_72 : xVi "Tablature$Planner" 72 1 m_Grips_numberOf 1 := ⟨ok_Grips_numberOf, w_480, w_478, w_479, TX2, 4, rfl⟩
theorem f_Plan_28 : xF "Tablature$Planner" 28 5 4 := ⟨RX6, TX6, 8, rfl, fun w hw => xWA_in (in_RX6 w hw).1 (in_RX6 w hw).2, by decide, w_460⟩
theorem w_481 : (Jvm.Cond.fieldLink "Tablature$Planner" (76 : Nat) "Tablature$Chord" "length" "I") ∈ xWA := wd1 79 rfl rfl
theorem f_Plan_76 : xF "Tablature$Planner" 76 0 2 := ⟨RX0, TX0, 4, rfl, fun w hw => xWA_in (in_RX0 w hw).1 (in_RX0 w hw).2, by decide, w_481⟩
theorem w_482 : (Jvm.Cond.fieldLink "Tablature$Planner" (79 : Nat) "Tablature$Chord" "size" "I") ∈ xWA := wd1 76 rfl rfl
theorem f_Plan_79 : xF "Tablature$Planner" 79 0 1 := ⟨RX0, TX0, 4, rfl, fun w hw => xWA_in (in_RX0 w hw).1 (in_RX0 w hw).2, by decide, w_482⟩
theorem w_483 : (Jvm.Cond.methodLink "Tablature$Planner" (82 : Nat) ({ cls := "Tablature$Hand", name := "hold", desc := "(I)V" } : Jvm.MethodName)) ∈ xWA := wd2 46 rfl rfl
theorem s_Plan_82 : xVi "Tablature$Planner" 82 2 m_Hand_hold 1 := ⟨ok_Hand_hold, w_483, w_114, w_115, TX3, 8, rfl⟩
theorem w_484 : (Jvm.Cond.fieldLink "Tablature$Planner" (86 : Nat) "Tablature$Instrument" "reach" "I") ∈ xWA := wd1 44 rfl rfl
theorem f_Plan_86 : xF "Tablature$Planner" 86 3 4 := ⟨RX4, TX4, 5, rfl, fun w hw => xWA_in (in_RX4 w hw).1 (in_RX4 w hw).2, by decide, w_484⟩
theorem w_485 : (Jvm.Cond.code ({ cls := "Tablature$Hand", name := "isPlayable", desc := "(I)Z" } : Jvm.MethodName) prog_5_method_7_code (2 : Nat) (Option.some Jvm.ClassFile.FieldType.boolean)) ∈ xWA := wd2 68 rfl rfl
theorem ok_Hand_isPlayable : xOk "" m_Hand_isPlayable 1 := ⟨w_485, w_31, ⟨by decide +kernel, by decide +kernel⟩, by decide +kernel⟩
theorem w_486 : (Jvm.Cond.instanceMethod ({ cls := "Tablature$Hand", name := "isPlayable", desc := "(I)Z" } : Jvm.MethodName)) ∈ xWA := wd2 66 rfl rfl
theorem w_487 : (Jvm.Cond.selects "Tablature$Hand" ({ cls := "Tablature$Hand", name := "isPlayable", desc := "(I)Z" } : Jvm.MethodName) ({ cls := "Tablature$Hand", name := "isPlayable", desc := "(I)Z" } : Jvm.MethodName)) ∈ xWA := wd2 67 rfl rfl
theorem w_488 : (Jvm.Cond.methodLink "Tablature$Planner" (91 : Nat) ({ cls := "Tablature$Hand", name := "isPlayable", desc := "(I)Z" } : Jvm.MethodName)) ∈ xWA := wd2 65 rfl rfl
theorem s_Plan_91 : xVi "Tablature$Planner" 91 2 m_Hand_isPlayable 1 := ⟨ok_Hand_isPlayable, w_488, w_486, w_487, TX3, 8, rfl⟩
theorem w_489 : (Jvm.Cond.methodLink "Tablature$Planner" (95 : Nat) ({ cls := "Tablature$Hand", name := "effort", desc := "()I" } : Jvm.MethodName)) ∈ xWA := wd2 73 rfl rfl
theorem s_Plan_95 : xVi "Tablature$Planner" 95 2 m_Hand_effort 0 := ⟨ok_Hand_effort, w_489, w_222, w_223, TX3, 8, rfl⟩
theorem w_490 : (Jvm.Cond.fieldLink "Tablature$Planner" (99 : Nat) "Tablature$Hand" "low" "I") ∈ xWA := wd1 122 rfl rfl
theorem f_Plan_99 : xF "Tablature$Planner" 99 2 0 := ⟨RX3, TX3, 8, rfl, fun w hw => xWA_in (in_RX3 w hw).1 (in_RX3 w hw).2, by decide, w_490⟩
theorem w_491 : (Jvm.Cond.code ({ cls := "Tablature$Grips", name := "insert", desc := "(III)V" } : Jvm.MethodName) prog_4_method_4_code (6 : Nat) (Option.none : Option Jvm.ClassFile.FieldType)) ∈ xWA := wd2 80 rfl rfl
theorem ok_Grips_insert : xOk "" m_Grips_insert 3 := ⟨w_491, w_189, ⟨by decide +kernel, by decide +kernel⟩, by decide +kernel⟩
theorem w_492 : (Jvm.Cond.instanceMethod ({ cls := "Tablature$Grips", name := "insert", desc := "(III)V" } : Jvm.MethodName)) ∈ xWA := wd2 78 rfl rfl
theorem w_493 : (Jvm.Cond.selects "Tablature$Grips" ({ cls := "Tablature$Grips", name := "insert", desc := "(III)V" } : Jvm.MethodName) ({ cls := "Tablature$Grips", name := "insert", desc := "(III)V" } : Jvm.MethodName)) ∈ xWA := wd2 79 rfl rfl
theorem w_494 : (Jvm.Cond.methodLink "Tablature$Planner" (102 : Nat) ({ cls := "Tablature$Grips", name := "insert", desc := "(III)V" } : Jvm.MethodName)) ∈ xWA := wd2 77 rfl rfl
theorem s_Plan_102 : xVi "Tablature$Planner" 102 1 m_Grips_insert 3 := ⟨ok_Grips_insert, w_494, w_492, w_493, TX2, 4, rfl⟩
theorem w_495 : (Jvm.Cond.fieldLink "Tablature$Planner" (106 : Nat) "Tablature$Instrument" "count" "I") ∈ xWA := wd1 40 rfl rfl
theorem f_Plan_106 : xF "Tablature$Planner" 106 3 2 := ⟨RX4, TX4, 5, rfl, fun w hw => xWA_in (in_RX4 w hw).1 (in_RX4 w hw).2, by decide, w_495⟩
theorem w_496 : (Jvm.Cond.fieldLink "Tablature$Planner" (107 : Nat) "Tablature$Chord" "pitches" "[I") ∈ xWA := wd1 74 rfl rfl
theorem f_Plan_107 : xF "Tablature$Planner" 107 0 0 := ⟨RX0, TX0, 4, rfl, fun w hw => xWA_in (in_RX0 w hw).1 (in_RX0 w hw).2, by decide, w_496⟩
theorem w_497 : (Jvm.Cond.methodLink "Tablature$Planner" (110 : Nat) ({ cls := "Tablature$Instrument", name := "fretFor", desc := "(II)I" } : Jvm.MethodName)) ∈ xWA := wd2 82 rfl rfl
theorem s_Plan_110 : xVi "Tablature$Planner" 110 3 m_Instr_fretFor 2 := ⟨ok_Instr_fretFor, w_497, w_71, w_72, TX4, 5, rfl⟩
theorem w_498 : (Jvm.Cond.methodLink "Tablature$Planner" (113 : Nat) ({ cls := "Tablature$GripCode", name := "fretAt", desc := "(II)I" } : Jvm.MethodName)) ∈ xWA := wd2 94 rfl rfl
theorem s_Plan_113 : xS "Tablature$Planner" 113 m_Code_fretAt 2 := ⟨ok_Code_fretAt, w_498, w_122⟩
theorem w_499 : (Jvm.Cond.code ({ cls := "Tablature$GripCode", name := "with", desc := "(III)I" } : Jvm.MethodName) prog_3_method_3_code (3 : Nat) (Option.some Jvm.ClassFile.FieldType.int)) ∈ xWA := wd2 97 rfl rfl
theorem ok_Code_with : xOk "" m_Code_with 3 := ⟨w_499, w_120, ⟨by decide +kernel, by decide +kernel⟩, by decide +kernel⟩
theorem w_500 : (Jvm.Cond.static ({ cls := "Tablature$GripCode", name := "with", desc := "(III)I" } : Jvm.MethodName)) ∈ xWA := wd2 96 rfl rfl
theorem w_501 : (Jvm.Cond.methodLink "Tablature$Planner" (116 : Nat) ({ cls := "Tablature$GripCode", name := "with", desc := "(III)I" } : Jvm.MethodName)) ∈ xWA := wd2 95 rfl rfl
theorem s_Plan_116 : xS "Tablature$Planner" 116 m_Code_with 3 := ⟨ok_Code_with, w_501, w_500⟩
theorem f_Plan_21 : xF "Tablature$Planner" 21 5 2 := ⟨RX6, TX6, 8, rfl, fun w hw => xWA_in (in_RX6 w hw).1 (in_RX6 w hw).2, by decide, w_458⟩
theorem w_502 : (Jvm.Cond.methodLink "Tablature$Planner" (120 : Nat) ({ cls := "Tablature$Planner", name := "griplessCount", desc := "()I" } : Jvm.MethodName)) ∈ xWA := wd2 106 rfl rfl
theorem s_Plan_120 : xVi "Tablature$Planner" 120 5 m_Plan_griplessCount 0 := ⟨ok_Plan_griplessCount, w_502, w_199, w_200, TX6, 8, rfl⟩
theorem f_Plan_60 : xF "Tablature$Planner" 60 1 3 := ⟨RX2, TX2, 4, rfl, fun w hw => xWA_in (in_RX2 w hw).1 (in_RX2 w hw).2, by decide, w_472⟩
theorem w_503 : (Jvm.Cond.code ({ cls := "Tablature$Planner", name := "bestAt", desc := "(II)I" } : Jvm.MethodName) prog_8_method_5_code (7 : Nat) (Option.some Jvm.ClassFile.FieldType.int)) ∈ xWA := wd2 113 rfl rfl
theorem ok_Plan_bestAt : xOk "" m_Plan_bestAt 2 := ⟨w_503, w_17, ⟨by decide +kernel, by decide +kernel⟩, by decide +kernel⟩
theorem w_504 : (Jvm.Cond.instanceMethod ({ cls := "Tablature$Planner", name := "bestAt", desc := "(II)I" } : Jvm.MethodName)) ∈ xWA := wd2 112 rfl rfl
theorem sel_4 : Cond.selects m_Plan_bestAt.1.cls m_Plan_bestAt.1 m_Plan_bestAt.1 ∈ xWA := xWA_in (List.mem_append_left _ (List.mem_of_getElem? (i := 4) (by decide +kernel))) rfl
theorem w_505 : (Jvm.Cond.methodLink "Tablature$Planner" (123 : Nat) ({ cls := "Tablature$Planner", name := "bestAt", desc := "(II)I" } : Jvm.MethodName)) ∈ xWA := wd2 110 rfl rfl
theorem s_Plan_123 : xVi "Tablature$Planner" 123 5 m_Plan_bestAt 2 := ⟨ok_Plan_bestAt, w_505, w_504, sel_4, TX6, 8, rfl⟩
theorem f_Plan_33 : xF "Tablature$Planner" 33 5 5 := ⟨RX6, TX6, 8, rfl, fun w hw => xWA_in (in_RX6 w hw).1 (in_RX6 w hw).2, by decide, w_462⟩
theorem w_506 : (Jvm.Cond.methodLink "Tablature$Planner" (126 : Nat) ({ cls := "Tablature$Planner", name := "moveCost", desc := "(III)I" } : Jvm.MethodName)) ∈ xWA := wd2 114 rfl rfl
theorem s_Plan_126 : xVi "Tablature$Planner" 126 5 m_Plan_moveCost 3 := ⟨ok_Plan_moveCost, w_506, w_129, w_130, TX6, 8, rfl⟩
theorem w_507 : (Jvm.Cond.fieldLink "Tablature$Planner" (129 : Nat) "Tablature$Grips" "efforts" "[I") ∈ xWA := wd1 161 rfl rfl
theorem f_Plan_129 : xF "Tablature$Planner" 129 1 1 := ⟨RX2, TX2, 4, rfl, fun w hw => xWA_in (in_RX2 w hw).1 (in_RX2 w hw).2, by decide, w_507⟩
theorem w_508 : (Jvm.Cond.methodLink "Tablature$Planner" (132 : Nat) ({ cls := "Tablature$Grips", name := "has", desc := "(I)Z" } : Jvm.MethodName)) ∈ xWA := wd2 118 rfl rfl
theorem s_Plan_132 : xVi "Tablature$Planner" 132 1 m_Grips_has 1 := ⟨ok_Grips_has, w_508, w_191, w_192, TX2, 4, rfl⟩
theorem w_509 : (Jvm.Cond.fieldLink "Tablature$Planner" (135 : Nat) "Tablature$Grips" "lows" "[I") ∈ xWA := wd1 164 rfl rfl
theorem f_Plan_135 : xF "Tablature$Planner" 135 1 2 := ⟨RX2, TX2, 4, rfl, fun w hw => xWA_in (in_RX2 w hw).1 (in_RX2 w hw).2, by decide, w_509⟩
theorem w_510 : (Jvm.Cond.fieldLink "Tablature$Planner" (138 : Nat) "Tablature$Grips" "codes" "[I") ∈ xWA := wd1 158 rfl rfl
theorem f_Plan_138 : xF "Tablature$Planner" 138 1 0 := ⟨RX2, TX2, 4, rfl, fun w hw => xWA_in (in_RX2 w hw).1 (in_RX2 w hw).2, by decide, w_510⟩
theorem w_511 : (Jvm.Cond.code ({ cls := "Tablature$GripCode", name := "newlyPressed", desc := "(II)I" } : Jvm.MethodName) prog_3_method_4_code (5 : Nat) (Option.some Jvm.ClassFile.FieldType.int)) ∈ xWA := wd2 124 rfl rfl
theorem ok_Code_newlyPressed : xOk "" m_Code_newlyPressed 2 := ⟨w_511, w_120, ⟨by decide +kernel, by decide +kernel⟩, by decide +kernel⟩
theorem w_512 : (Jvm.Cond.static ({ cls := "Tablature$GripCode", name := "newlyPressed", desc := "(II)I" } : Jvm.MethodName)) ∈ xWA := wd2 123 rfl rfl
theorem w_513 : (Jvm.Cond.methodLink "Tablature$Planner" (141 : Nat) ({ cls := "Tablature$GripCode", name := "newlyPressed", desc := "(II)I" } : Jvm.MethodName)) ∈ xWA := wd2 122 rfl rfl
theorem s_Plan_141 : xS "Tablature$Planner" 141 m_Code_newlyPressed 2 := ⟨ok_Code_newlyPressed, w_513, w_512⟩
theorem w_514 : (Jvm.Cond.methodLink "Tablature$Planner" (144 : Nat) ({ cls := "java/lang/Math", name := "abs", desc := "(I)I" } : Jvm.MethodName)) ∈ xWA := wd2 126 rfl rfl
theorem s_Plan_144 : (Jvm.Cond.methodLink "Tablature$Planner" (144 : Nat) ({ cls := "java/lang/Math", name := "abs", desc := "(I)I" } : Jvm.MethodName)) ∈ xWA := w_514
theorem w_515 : (Jvm.Cond.methodLink "Tablature$Planner" (147 : Nat) ({ cls := "java/lang/Integer", name := "bitCount", desc := "(I)I" } : Jvm.MethodName)) ∈ xWA := wd2 129 rfl rfl
theorem s_Plan_147 : xS "Tablature$Planner" 147 m_Integer_bitCount 1 := ⟨ok_Integer_bitCount, w_515, w_248⟩
theorem f_Plan_24 : xF "Tablature$Planner" 24 5 3 := ⟨RX6, TX6, 8, rfl, fun w hw => xWA_in (in_RX6 w hw).1 (in_RX6 w hw).2, by decide, w_459⟩
theorem w_516 : (Jvm.Cond.methodLink "Tablature$Shapes" (3 : Nat) ({ cls := "java/lang/Object", name := "<init>", desc := "()V" } : Jvm.MethodName)) ∈ xWA := wd1 211 rfl rfl
theorem s_Shapes_3 : (Jvm.Cond.methodLink "Tablature$Shapes" (3 : Nat) ({ cls := "java/lang/Object", name := "<init>", desc := "()V" } : Jvm.MethodName)) ∈ xWA := w_516
theorem w_517 : (Jvm.Cond.fieldLink "Tablature$Shapes" (9 : Nat) "Tablature$Shapes" "count" "I") ∈ xWA := wd1 214 rfl rfl
theorem p_Shapes_9 : xP "Tablature$Shapes" 9 6 0 .int false := ⟨RX7, TX7, 8, tyX7, rfl, fun w hw => xWA_in (in_RX7 w hw).1 (in_RX7 w hw).2, by decide, w_517, tyX7_ok, nmX7, rfl, by decide +kernel, Or.inl rfl⟩
theorem w_518 : (Jvm.Cond.fieldLink "Tablature$Shapes" (15 : Nat) "Tablature$Shapes" "bestEffort" "I") ∈ xWA := wd1 216 rfl rfl
theorem p_Shapes_15 : xP "Tablature$Shapes" 15 6 1 .int false := ⟨RX7, TX7, 8, tyX7, rfl, fun w hw => xWA_in (in_RX7 w hw).1 (in_RX7 w hw).2, by decide, w_518, tyX7_ok, nmX7, rfl, by decide +kernel, Or.inl rfl⟩
theorem w_519 : (Jvm.Cond.fieldLink "Tablature$Shapes" (18 : Nat) "Tablature$Shapes" "bestSounding" "I") ∈ xWA := wd1 218 rfl rfl
theorem p_Shapes_18 : xP "Tablature$Shapes" 18 6 2 .int false := ⟨RX7, TX7, 8, tyX7, rfl, fun w hw => xWA_in (in_RX7 w hw).1 (in_RX7 w hw).2, by decide, w_519, tyX7_ok, nmX7, rfl, by decide +kernel, Or.inl rfl⟩
theorem w_520 : (Jvm.Cond.fieldLink "Tablature$Shapes" (23 : Nat) "Tablature$Shapes" "bestCode" "I") ∈ xWA := wd1 219 rfl rfl
theorem p_Shapes_23 : xP "Tablature$Shapes" 23 6 3 .int false := ⟨RX7, TX7, 8, tyX7, rfl, fun w hw => xWA_in (in_RX7 w hw).1 (in_RX7 w hw).2, by decide, w_520, tyX7_ok, nmX7, rfl, by decide +kernel, Or.inl rfl⟩
theorem w_521 : (Jvm.Cond.fieldLink "Tablature$Shapes" (26 : Nat) "Tablature$Shapes" "classes" "I") ∈ xWA := wd1 220 rfl rfl
theorem p_Shapes_26 : xP "Tablature$Shapes" 26 6 4 .int false := ⟨RX7, TX7, 8, tyX7, rfl, fun w hw => xWA_in (in_RX7 w hw).1 (in_RX7 w hw).2, by decide, w_521, tyX7_ok, nmX7, rfl, by decide +kernel, Or.inl rfl⟩
theorem w_522 : (Jvm.Cond.fieldLink "Tablature$Shapes" (29 : Nat) "Tablature$Shapes" "bass" "I") ∈ xWA := wd1 221 rfl rfl
theorem p_Shapes_29 : xP "Tablature$Shapes" 29 6 5 .int false := ⟨RX7, TX7, 8, tyX7, rfl, fun w hw => xWA_in (in_RX7 w hw).1 (in_RX7 w hw).2, by decide, w_522, tyX7_ok, nmX7, rfl, by decide +kernel, Or.inl rfl⟩
theorem w_523 : (Jvm.Cond.fieldLink "Tablature$Shapes" (32 : Nat) "Tablature$Shapes" "fromFret" "I") ∈ xWA := wd1 222 rfl rfl
theorem p_Shapes_32 : xP "Tablature$Shapes" 32 6 6 .int false := ⟨RX7, TX7, 8, tyX7, rfl, fun w hw => xWA_in (in_RX7 w hw).1 (in_RX7 w hw).2, by decide, w_523, tyX7_ok, nmX7, rfl, by decide +kernel, Or.inl rfl⟩
theorem w_524 : (Jvm.Cond.classLink "Tablature$Shapes" (35 : Nat) "Tablature$Hand") ∈ xWA := wd1 212 rfl rfl
theorem n_Shapes_35 : xNw "Tablature$Shapes" 35 2 8 [vi 0, vi 0, vi 0, vi 0, .null, vi 0, vi 0, vi 0] := ⟨RX3, TX3, tyX3, rfl, fun w hw => xWA_in (in_RX3 w hw).1 (in_RX3 w hw).2, tyX3_ok, w_524, w_30, w_31, by decide +kernel⟩
theorem s_Shapes_37 : xIN "Tablature$Shapes" 37 "Tablature" m_Hand_init 0 := ⟨ok_Hand_init, by decide +kernel, w_33, rfl, rfl⟩
theorem w_525 : (Jvm.Cond.fieldLink "Tablature$Shapes" (38 : Nat) "Tablature$Shapes" "hand" "LTablature$Hand;") ∈ xWA := wd1 223 rfl rfl
theorem p_Shapes_38 : xP "Tablature$Shapes" 38 6 7 (.object "Tablature$Hand") true := ⟨RX7, TX7, 8, tyX7, rfl, fun w hw => xWA_in (in_RX7 w hw).1 (in_RX7 w hw).2, by decide, w_525, tyX7_ok, nmX7, rfl, by decide +kernel, Or.inr rfl⟩
theorem f_Shapes_26 : xF "Tablature$Shapes" 26 6 4 := ⟨RX7, TX7, 8, rfl, fun w hw => xWA_in (in_RX7 w hw).1 (in_RX7 w hw).2, by decide, w_521⟩
theorem f_Shapes_29 : xF "Tablature$Shapes" 29 6 5 := ⟨RX7, TX7, 8, rfl, fun w hw => xWA_in (in_RX7 w hw).1 (in_RX7 w hw).2, by decide, w_522⟩
theorem f_Shapes_32 : xF "Tablature$Shapes" 32 6 6 := ⟨RX7, TX7, 8, rfl, fun w hw => xWA_in (in_RX7 w hw).1 (in_RX7 w hw).2, by decide, w_523⟩
theorem w_526 : (Jvm.Cond.code ({ cls := "Tablature$Shapes", name := "place", desc := "(LTablature$Shapes;LTablature$Instrument;IIII)V" } : Jvm.MethodName) prog_9_method_6_code (12 : Nat) (Option.none : Option Jvm.ClassFile.FieldType)) ∈ xWA := wd3 77 rfl rfl
theorem ok_Shapes_place : xOk "" m_Shapes_place 6 := ⟨w_526, w_25, ⟨by decide +kernel, by decide +kernel⟩, by decide +kernel⟩
theorem w_527 : (Jvm.Cond.static ({ cls := "Tablature$Shapes", name := "place", desc := "(LTablature$Shapes;LTablature$Instrument;IIII)V" } : Jvm.MethodName)) ∈ xWA := wd3 76 rfl rfl
theorem w_528 : (Jvm.Cond.methodLink "Tablature$Shapes" (42 : Nat) ({ cls := "Tablature$Shapes", name := "place", desc := "(LTablature$Shapes;LTablature$Instrument;IIII)V" } : Jvm.MethodName)) ∈ xWA := wd3 75 rfl rfl
theorem s_Shapes_42 : xS "Tablature$Shapes" 42 m_Shapes_place 6 := ⟨ok_Shapes_place, w_528, w_527⟩
theorem f_Shapes_23 : xF "Tablature$Shapes" 23 6 3 := ⟨RX7, TX7, 8, rfl, fun w hw => xWA_in (in_RX7 w hw).1 (in_RX7 w hw).2, by decide, w_520⟩
theorem w_529 : (Jvm.Cond.methodLink "Tablature$Shapes" (46 : Nat) ({ cls := "Tablature$GripCode", name := "fretAt", desc := "(II)I" } : Jvm.MethodName)) ∈ xWA := wd4 105 rfl rfl
theorem s_Shapes_46 : xS "Tablature$Shapes" 46 m_Code_fretAt 2 := ⟨ok_Code_fretAt, w_529, w_122⟩
theorem w_530 : (Jvm.Cond.fieldLink "Tablature$Shapes" (50 : Nat) "Tablature$Instrument" "reach" "I") ∈ xWA := wd1 46 rfl rfl
theorem f_Shapes_50 : xF "Tablature$Shapes" 50 3 4 := ⟨RX4, TX4, 5, rfl, fun w hw => xWA_in (in_RX4 w hw).1 (in_RX4 w hw).2, by decide, w_530⟩
theorem w_531 : (Jvm.Cond.code ({ cls := "Tablature$Shapes", name := "offer", desc := "(II)V" } : Jvm.MethodName) prog_9_method_7_code (3 : Nat) (Option.none : Option Jvm.ClassFile.FieldType)) ∈ xWA := wd3 81 rfl rfl
theorem ok_Shapes_offer : xOk "" m_Shapes_offer 2 := ⟨w_531, w_25, ⟨by decide +kernel, by decide +kernel⟩, by decide +kernel⟩
theorem w_532 : (Jvm.Cond.instanceMethod ({ cls := "Tablature$Shapes", name := "offer", desc := "(II)V" } : Jvm.MethodName)) ∈ xWA := wd3 80 rfl rfl
theorem sel_14 : Cond.selects m_Shapes_offer.1.cls m_Shapes_offer.1 m_Shapes_offer.1 ∈ xWA := xWA_in (List.mem_append_left _ (List.mem_of_getElem? (i := 14) (by decide +kernel))) rfl
theorem w_533 : (Jvm.Cond.methodLink "Tablature$Shapes" (55 : Nat) ({ cls := "Tablature$Shapes", name := "offer", desc := "(II)V" } : Jvm.MethodName)) ∈ xWA := wd3 78 rfl rfl
theorem s_Shapes_55 : xVi "Tablature$Shapes" 55 6 m_Shapes_offer 2 := ⟨ok_Shapes_offer, w_533, w_532, sel_14, TX7, 8, rfl⟩
theorem w_534 : (Jvm.Cond.methodLink "Tablature$Shapes" (59 : Nat) ({ cls := "Tablature$Instrument", name := "isUsed", desc := "(I)Z" } : Jvm.MethodName)) ∈ xWA := wd3 89 rfl rfl
theorem s_Shapes_59 : xVi "Tablature$Shapes" 59 3 m_Instr_isUsed 1 := ⟨ok_Instr_isUsed, w_534, w_434, w_435, TX4, 5, rfl⟩
theorem w_535 : (Jvm.Cond.methodLink "Tablature$Shapes" (63 : Nat) ({ cls := "Tablature$Instrument", name := "lastFret", desc := "()I" } : Jvm.MethodName)) ∈ xWA := wd3 90 rfl rfl
theorem s_Shapes_63 : xVi "Tablature$Shapes" 63 3 m_Instr_lastFret 0 := ⟨ok_Instr_lastFret, w_535, w_438, w_439, TX4, 5, rfl⟩
theorem w_536 : (Jvm.Cond.methodLink "Tablature$Shapes" (67 : Nat) ({ cls := "java/lang/Math", name := "min", desc := "(II)I" } : Jvm.MethodName)) ∈ xWA := wd3 91 rfl rfl
theorem s_Shapes_67 : (Jvm.Cond.methodLink "Tablature$Shapes" (67 : Nat) ({ cls := "java/lang/Math", name := "min", desc := "(II)I" } : Jvm.MethodName)) ∈ xWA := w_536
theorem w_537 : (Jvm.Cond.code ({ cls := "Tablature$Instrument", name := "pitchOf", desc := "(II)I" } : Jvm.MethodName) prog_6_method_7_code (3 : Nat) (Option.some Jvm.ClassFile.FieldType.int)) ∈ xWA := wd3 95 rfl rfl
theorem ok_Instr_pitchOf : xOk "" m_Instr_pitchOf 2 := ⟨w_537, w_3, ⟨by decide +kernel, by decide +kernel⟩, by decide +kernel⟩
theorem w_538 : (Jvm.Cond.instanceMethod ({ cls := "Tablature$Instrument", name := "pitchOf", desc := "(II)I" } : Jvm.MethodName)) ∈ xWA := wd3 93 rfl rfl
theorem w_539 : (Jvm.Cond.selects "Tablature$Instrument" ({ cls := "Tablature$Instrument", name := "pitchOf", desc := "(II)I" } : Jvm.MethodName) ({ cls := "Tablature$Instrument", name := "pitchOf", desc := "(II)I" } : Jvm.MethodName)) ∈ xWA := wd3 94 rfl rfl
theorem w_540 : (Jvm.Cond.methodLink "Tablature$Shapes" (72 : Nat) ({ cls := "Tablature$Instrument", name := "pitchOf", desc := "(II)I" } : Jvm.MethodName)) ∈ xWA := wd3 92 rfl rfl
theorem s_Shapes_72 : xVi "Tablature$Shapes" 72 3 m_Instr_pitchOf 2 := ⟨ok_Instr_pitchOf, w_540, w_538, w_539, TX4, 5, rfl⟩
theorem w_541 : (Jvm.Cond.methodLink "Tablature$Shapes" (75 : Nat) ({ cls := "Tablature$GripCode", name := "with", desc := "(III)I" } : Jvm.MethodName)) ∈ xWA := wd3 96 rfl rfl
theorem s_Shapes_75 : xS "Tablature$Shapes" 75 m_Code_with 3 := ⟨ok_Code_with, w_541, w_500⟩
theorem f_Shapes_38 : xF "Tablature$Shapes" 38 6 7 := ⟨RX7, TX7, 8, rfl, fun w hw => xWA_in (in_RX7 w hw).1 (in_RX7 w hw).2, by decide, w_525⟩
theorem w_542 : (Jvm.Cond.methodLink "Tablature$Shapes" (79 : Nat) ({ cls := "Tablature$Hand", name := "hold", desc := "(I)V" } : Jvm.MethodName)) ∈ xWA := wd3 82 rfl rfl
theorem s_Shapes_79 : xVi "Tablature$Shapes" 79 2 m_Hand_hold 1 := ⟨ok_Hand_hold, w_542, w_114, w_115, TX3, 8, rfl⟩
theorem w_543 : (Jvm.Cond.methodLink "Tablature$Shapes" (83 : Nat) ({ cls := "Tablature$Hand", name := "isPlayable", desc := "(I)Z" } : Jvm.MethodName)) ∈ xWA := wd3 83 rfl rfl
theorem s_Shapes_83 : xVi "Tablature$Shapes" 83 2 m_Hand_isPlayable 1 := ⟨ok_Hand_isPlayable, w_543, w_486, w_487, TX3, 8, rfl⟩
theorem f_Shapes_9 : xF "Tablature$Shapes" 9 6 0 := ⟨RX7, TX7, 8, rfl, fun w hw => xWA_in (in_RX7 w hw).1 (in_RX7 w hw).2, by decide, w_517⟩
theorem f_Shapes_15 : xF "Tablature$Shapes" 15 6 1 := ⟨RX7, TX7, 8, rfl, fun w hw => xWA_in (in_RX7 w hw).1 (in_RX7 w hw).2, by decide, w_518⟩
theorem w_544 : (Jvm.Cond.methodLink "Tablature$Shapes" (86 : Nat) ({ cls := "Tablature$Hand", name := "effort", desc := "()I" } : Jvm.MethodName)) ∈ xWA := wd3 84 rfl rfl
theorem s_Shapes_86 : xVi "Tablature$Shapes" 86 2 m_Hand_effort 0 := ⟨ok_Hand_effort, w_544, w_222, w_223, TX3, 8, rfl⟩
theorem w_545 : (Jvm.Cond.code ({ cls := "Tablature$Shapes", name := "isBetter", desc := "(II)Z" } : Jvm.MethodName) prog_9_method_8_code (3 : Nat) (Option.some Jvm.ClassFile.FieldType.boolean)) ∈ xWA := wd3 88 rfl rfl
theorem ok_Shapes_isBetter : xOk "" m_Shapes_isBetter 2 := ⟨w_545, w_25, ⟨by decide +kernel, by decide +kernel⟩, by decide +kernel⟩
theorem w_546 : (Jvm.Cond.instanceMethod ({ cls := "Tablature$Shapes", name := "isBetter", desc := "(II)Z" } : Jvm.MethodName)) ∈ xWA := wd3 87 rfl rfl
theorem sel_15 : Cond.selects m_Shapes_isBetter.1.cls m_Shapes_isBetter.1 m_Shapes_isBetter.1 ∈ xWA := xWA_in (List.mem_append_left _ (List.mem_of_getElem? (i := 15) (by decide +kernel))) rfl
theorem w_547 : (Jvm.Cond.methodLink "Tablature$Shapes" (89 : Nat) ({ cls := "Tablature$Shapes", name := "isBetter", desc := "(II)Z" } : Jvm.MethodName)) ∈ xWA := wd3 85 rfl rfl
theorem s_Shapes_89 : xVi "Tablature$Shapes" 89 6 m_Shapes_isBetter 2 := ⟨ok_Shapes_isBetter, w_547, w_546, sel_15, TX7, 8, rfl⟩
theorem w_548 : (Jvm.Cond.fieldLink "Tablature$Shapes" (93 : Nat) "Tablature$Hand" "sounding" "I") ∈ xWA := wd1 127 rfl rfl
theorem f_Shapes_93 : xF "Tablature$Shapes" 93 2 2 := ⟨RX3, TX3, 8, rfl, fun w hw => xWA_in (in_RX3 w hw).1 (in_RX3 w hw).2, by decide, w_548⟩
theorem f_Shapes_18 : xF "Tablature$Shapes" 18 6 2 := ⟨RX7, TX7, 8, rfl, fun w hw => xWA_in (in_RX7 w hw).1 (in_RX7 w hw).2, by decide, w_519⟩
theorem w_549 : (Jvm.Cond.code ({ cls := "Tablature", name := "string", desc := "(I)I" } : Jvm.MethodName) prog_1_method_2_code (3 : Nat) (Option.some Jvm.ClassFile.FieldType.int)) ∈ xWA := wd3 105 rfl rfl
theorem ok_Tab_string : xOk "" m_Tab_string 1 := ⟨w_549, w_36, ⟨by decide +kernel, by decide +kernel⟩, by decide +kernel⟩
theorem w_550 : (Jvm.Cond.instanceMethod ({ cls := "Tablature", name := "string", desc := "(I)I" } : Jvm.MethodName)) ∈ xWA := wd3 103 rfl rfl
theorem w_551 : (Jvm.Cond.selects "Tablature" ({ cls := "Tablature", name := "string", desc := "(I)I" } : Jvm.MethodName) ({ cls := "Tablature", name := "string", desc := "(I)I" } : Jvm.MethodName)) ∈ xWA := wd3 104 rfl rfl
theorem w_552 : (Jvm.Cond.methodLink "TablatureLaw" (7 : Nat) ({ cls := "Tablature", name := "string", desc := "(I)I" } : Jvm.MethodName)) ∈ xWA := wd3 102 rfl rfl
theorem s_Law_7 : xVi "TablatureLaw" 7 7 m_Tab_string 1 := ⟨ok_Tab_string, w_552, w_550, w_551, TX8, 8, rfl⟩
theorem w_553 : (Jvm.Cond.code ({ cls := "Tablature", name := "tune", desc := "(II)I" } : Jvm.MethodName) prog_1_method_3_code (4 : Nat) (Option.some Jvm.ClassFile.FieldType.int)) ∈ xWA := wd3 160 rfl rfl
theorem ok_Tab_tune : xOk "" m_Tab_tune 2 := ⟨w_553, w_36, ⟨by decide +kernel, by decide +kernel⟩, by decide +kernel⟩
theorem w_554 : (Jvm.Cond.instanceMethod ({ cls := "Tablature", name := "tune", desc := "(II)I" } : Jvm.MethodName)) ∈ xWA := wd3 158 rfl rfl
theorem w_555 : (Jvm.Cond.selects "Tablature" ({ cls := "Tablature", name := "tune", desc := "(II)I" } : Jvm.MethodName) ({ cls := "Tablature", name := "tune", desc := "(II)I" } : Jvm.MethodName)) ∈ xWA := wd3 159 rfl rfl
theorem w_556 : (Jvm.Cond.methodLink "TablatureLaw" (17 : Nat) ({ cls := "Tablature", name := "tune", desc := "(II)I" } : Jvm.MethodName)) ∈ xWA := wd3 157 rfl rfl
theorem s_Law_17 : xVi "TablatureLaw" 17 7 m_Tab_tune 2 := ⟨ok_Tab_tune, w_556, w_554, w_555, TX8, 8, rfl⟩
theorem w_557 : (Jvm.Cond.code ({ cls := "Tablature", name := "slacken", desc := "(IZ)I" } : Jvm.MethodName) prog_1_method_4_code (3 : Nat) (Option.some Jvm.ClassFile.FieldType.int)) ∈ xWA := wd3 167 rfl rfl
theorem ok_Tab_slacken : xOk "" m_Tab_slacken 2 := ⟨w_557, w_36, ⟨by decide +kernel, by decide +kernel⟩, by decide +kernel⟩
theorem w_558 : (Jvm.Cond.instanceMethod ({ cls := "Tablature", name := "slacken", desc := "(IZ)I" } : Jvm.MethodName)) ∈ xWA := wd3 165 rfl rfl
theorem w_559 : (Jvm.Cond.selects "Tablature" ({ cls := "Tablature", name := "slacken", desc := "(IZ)I" } : Jvm.MethodName) ({ cls := "Tablature", name := "slacken", desc := "(IZ)I" } : Jvm.MethodName)) ∈ xWA := wd3 166 rfl rfl
theorem w_560 : (Jvm.Cond.methodLink "TablatureLaw" (23 : Nat) ({ cls := "Tablature", name := "slacken", desc := "(IZ)I" } : Jvm.MethodName)) ∈ xWA := wd3 164 rfl rfl
theorem s_Law_23 : xVi "TablatureLaw" 23 7 m_Tab_slacken 2 := ⟨ok_Tab_slacken, w_560, w_558, w_559, TX8, 8, rfl⟩
theorem w_561 : (Jvm.Cond.code ({ cls := "Tablature", name := "capo", desc := "(I)I" } : Jvm.MethodName) prog_1_method_5_code (3 : Nat) (Option.some Jvm.ClassFile.FieldType.int)) ∈ xWA := wd3 174 rfl rfl
theorem ok_Tab_capo : xOk "" m_Tab_capo 1 := ⟨w_561, w_36, ⟨by decide +kernel, by decide +kernel⟩, by decide +kernel⟩
theorem w_562 : (Jvm.Cond.instanceMethod ({ cls := "Tablature", name := "capo", desc := "(I)I" } : Jvm.MethodName)) ∈ xWA := wd3 172 rfl rfl
theorem w_563 : (Jvm.Cond.selects "Tablature" ({ cls := "Tablature", name := "capo", desc := "(I)I" } : Jvm.MethodName) ({ cls := "Tablature", name := "capo", desc := "(I)I" } : Jvm.MethodName)) ∈ xWA := wd3 173 rfl rfl
theorem w_564 : (Jvm.Cond.methodLink "TablatureLaw" (27 : Nat) ({ cls := "Tablature", name := "capo", desc := "(I)I" } : Jvm.MethodName)) ∈ xWA := wd3 171 rfl rfl
theorem s_Law_27 : xVi "TablatureLaw" 27 7 m_Tab_capo 1 := ⟨ok_Tab_capo, w_564, w_562, w_563, TX8, 8, rfl⟩
theorem w_565 : (Jvm.Cond.code ({ cls := "Tablature", name := "reach", desc := "(I)I" } : Jvm.MethodName) prog_1_method_6_code (3 : Nat) (Option.some Jvm.ClassFile.FieldType.int)) ∈ xWA := wd3 185 rfl rfl
theorem ok_Tab_reach : xOk "" m_Tab_reach 1 := ⟨w_565, w_36, ⟨by decide +kernel, by decide +kernel⟩, by decide +kernel⟩
theorem w_566 : (Jvm.Cond.instanceMethod ({ cls := "Tablature", name := "reach", desc := "(I)I" } : Jvm.MethodName)) ∈ xWA := wd3 183 rfl rfl
theorem w_567 : (Jvm.Cond.selects "Tablature" ({ cls := "Tablature", name := "reach", desc := "(I)I" } : Jvm.MethodName) ({ cls := "Tablature", name := "reach", desc := "(I)I" } : Jvm.MethodName)) ∈ xWA := wd3 184 rfl rfl
theorem w_568 : (Jvm.Cond.methodLink "TablatureLaw" (30 : Nat) ({ cls := "Tablature", name := "reach", desc := "(I)I" } : Jvm.MethodName)) ∈ xWA := wd3 182 rfl rfl
theorem s_Law_30 : xVi "TablatureLaw" 30 7 m_Tab_reach 1 := ⟨ok_Tab_reach, w_568, w_566, w_567, TX8, 8, rfl⟩
theorem w_569 : (Jvm.Cond.code ({ cls := "Tablature", name := "fretOf", desc := "(II)I" } : Jvm.MethodName) prog_1_method_7_code (3 : Nat) (Option.some Jvm.ClassFile.FieldType.int)) ∈ xWA := wd3 196 rfl rfl
theorem ok_Tab_fretOf : xOk "" m_Tab_fretOf 2 := ⟨w_569, w_36, ⟨by decide +kernel, by decide +kernel⟩, by decide +kernel⟩
theorem w_570 : (Jvm.Cond.instanceMethod ({ cls := "Tablature", name := "fretOf", desc := "(II)I" } : Jvm.MethodName)) ∈ xWA := wd3 194 rfl rfl
theorem w_571 : (Jvm.Cond.selects "Tablature" ({ cls := "Tablature", name := "fretOf", desc := "(II)I" } : Jvm.MethodName) ({ cls := "Tablature", name := "fretOf", desc := "(II)I" } : Jvm.MethodName)) ∈ xWA := wd3 195 rfl rfl
theorem w_572 : (Jvm.Cond.methodLink "TablatureLaw" (33 : Nat) ({ cls := "Tablature", name := "fretOf", desc := "(II)I" } : Jvm.MethodName)) ∈ xWA := wd3 193 rfl rfl
theorem s_Law_33 : xVi "TablatureLaw" 33 7 m_Tab_fretOf 2 := ⟨ok_Tab_fretOf, w_572, w_570, w_571, TX8, 8, rfl⟩
theorem w_573 : (Jvm.Cond.code ({ cls := "Tablature", name := "chord", desc := "(IIIII)I" } : Jvm.MethodName) prog_1_method_8_code (7 : Nat) (Option.some Jvm.ClassFile.FieldType.int)) ∈ xWA := wd3 208 rfl rfl
theorem ok_Tab_chord : xOk "" m_Tab_chord 5 := ⟨w_573, w_36, ⟨by decide +kernel, by decide +kernel⟩, by decide +kernel⟩
theorem w_574 : (Jvm.Cond.instanceMethod ({ cls := "Tablature", name := "chord", desc := "(IIIII)I" } : Jvm.MethodName)) ∈ xWA := wd3 206 rfl rfl
theorem w_575 : (Jvm.Cond.selects "Tablature" ({ cls := "Tablature", name := "chord", desc := "(IIIII)I" } : Jvm.MethodName) ({ cls := "Tablature", name := "chord", desc := "(IIIII)I" } : Jvm.MethodName)) ∈ xWA := wd3 207 rfl rfl
theorem w_576 : (Jvm.Cond.methodLink "TablatureLaw" (36 : Nat) ({ cls := "Tablature", name := "chord", desc := "(IIIII)I" } : Jvm.MethodName)) ∈ xWA := wd3 205 rfl rfl
theorem s_Law_36 : xVi "TablatureLaw" 36 7 m_Tab_chord 5 := ⟨ok_Tab_chord, w_576, w_574, w_575, TX8, 8, rfl⟩
theorem w_577 : (Jvm.Cond.code ({ cls := "Tablature", name := "strike", desc := "(I)I" } : Jvm.MethodName) prog_1_method_9_code (2 : Nat) (Option.some Jvm.ClassFile.FieldType.int)) ∈ xWA := wd3 237 rfl rfl
theorem ok_Tab_strike : xOk "" m_Tab_strike 1 := ⟨w_577, w_36, ⟨by decide +kernel, by decide +kernel⟩, by decide +kernel⟩
theorem w_578 : (Jvm.Cond.instanceMethod ({ cls := "Tablature", name := "strike", desc := "(I)I" } : Jvm.MethodName)) ∈ xWA := wd3 235 rfl rfl
theorem w_579 : (Jvm.Cond.selects "Tablature" ({ cls := "Tablature", name := "strike", desc := "(I)I" } : Jvm.MethodName) ({ cls := "Tablature", name := "strike", desc := "(I)I" } : Jvm.MethodName)) ∈ xWA := wd3 236 rfl rfl
theorem w_580 : (Jvm.Cond.methodLink "TablatureLaw" (40 : Nat) ({ cls := "Tablature", name := "strike", desc := "(I)I" } : Jvm.MethodName)) ∈ xWA := wd3 234 rfl rfl
theorem s_Law_40 : xVi "TablatureLaw" 40 7 m_Tab_strike 1 := ⟨ok_Tab_strike, w_580, w_578, w_579, TX8, 8, rfl⟩
theorem w_581 : (Jvm.Cond.code ({ cls := "Tablature", name := "fix", desc := "(II)I" } : Jvm.MethodName) prog_1_method_10_code (6 : Nat) (Option.some Jvm.ClassFile.FieldType.int)) ∈ xWA := wd4 13 rfl rfl
theorem ok_Tab_fix : xOk "" m_Tab_fix 2 := ⟨w_581, w_36, ⟨by decide +kernel, by decide +kernel⟩, by decide +kernel⟩
theorem w_582 : (Jvm.Cond.instanceMethod ({ cls := "Tablature", name := "fix", desc := "(II)I" } : Jvm.MethodName)) ∈ xWA := wd4 11 rfl rfl
theorem w_583 : (Jvm.Cond.selects "Tablature" ({ cls := "Tablature", name := "fix", desc := "(II)I" } : Jvm.MethodName) ({ cls := "Tablature", name := "fix", desc := "(II)I" } : Jvm.MethodName)) ∈ xWA := wd4 12 rfl rfl
theorem w_584 : (Jvm.Cond.methodLink "TablatureLaw" (43 : Nat) ({ cls := "Tablature", name := "fix", desc := "(II)I" } : Jvm.MethodName)) ∈ xWA := wd4 10 rfl rfl
theorem s_Law_43 : xVi "TablatureLaw" 43 7 m_Tab_fix 2 := ⟨ok_Tab_fix, w_584, w_582, w_583, TX8, 8, rfl⟩
theorem w_585 : (Jvm.Cond.code ({ cls := "Tablature", name := "ofChord", desc := "(II)I" } : Jvm.MethodName) prog_1_method_11_code (3 : Nat) (Option.some Jvm.ClassFile.FieldType.int)) ∈ xWA := wd4 25 rfl rfl
theorem ok_Tab_ofChord : xOk "" m_Tab_ofChord 2 := ⟨w_585, w_36, ⟨by decide +kernel, by decide +kernel⟩, by decide +kernel⟩
theorem w_586 : (Jvm.Cond.instanceMethod ({ cls := "Tablature", name := "ofChord", desc := "(II)I" } : Jvm.MethodName)) ∈ xWA := wd4 23 rfl rfl
theorem w_587 : (Jvm.Cond.selects "Tablature" ({ cls := "Tablature", name := "ofChord", desc := "(II)I" } : Jvm.MethodName) ({ cls := "Tablature", name := "ofChord", desc := "(II)I" } : Jvm.MethodName)) ∈ xWA := wd4 24 rfl rfl
theorem w_588 : (Jvm.Cond.methodLink "TablatureLaw" (46 : Nat) ({ cls := "Tablature", name := "ofChord", desc := "(II)I" } : Jvm.MethodName)) ∈ xWA := wd4 22 rfl rfl
theorem s_Law_46 : xVi "TablatureLaw" 46 7 m_Tab_ofChord 2 := ⟨ok_Tab_ofChord, w_588, w_586, w_587, TX8, 8, rfl⟩
theorem w_589 : (Jvm.Cond.code ({ cls := "Tablature", name := "ofGrip", desc := "(III)I" } : Jvm.MethodName) prog_1_method_12_code (5 : Nat) (Option.some Jvm.ClassFile.FieldType.int)) ∈ xWA := wd4 36 rfl rfl
theorem ok_Tab_ofGrip : xOk "" m_Tab_ofGrip 3 := ⟨w_589, w_36, ⟨by decide +kernel, by decide +kernel⟩, by decide +kernel⟩
theorem w_590 : (Jvm.Cond.instanceMethod ({ cls := "Tablature", name := "ofGrip", desc := "(III)I" } : Jvm.MethodName)) ∈ xWA := wd4 34 rfl rfl
theorem w_591 : (Jvm.Cond.selects "Tablature" ({ cls := "Tablature", name := "ofGrip", desc := "(III)I" } : Jvm.MethodName) ({ cls := "Tablature", name := "ofGrip", desc := "(III)I" } : Jvm.MethodName)) ∈ xWA := wd4 35 rfl rfl
theorem w_592 : (Jvm.Cond.methodLink "TablatureLaw" (49 : Nat) ({ cls := "Tablature", name := "ofGrip", desc := "(III)I" } : Jvm.MethodName)) ∈ xWA := wd4 33 rfl rfl
theorem s_Law_49 : xVi "TablatureLaw" 49 7 m_Tab_ofGrip 3 := ⟨ok_Tab_ofGrip, w_592, w_590, w_591, TX8, 8, rfl⟩
theorem w_593 : (Jvm.Cond.code ({ cls := "Tablature", name := "fret", desc := "(III)I" } : Jvm.MethodName) prog_1_method_13_code (5 : Nat) (Option.some Jvm.ClassFile.FieldType.int)) ∈ xWA := wd4 43 rfl rfl
theorem ok_Tab_fret : xOk "" m_Tab_fret 3 := ⟨w_593, w_36, ⟨by decide +kernel, by decide +kernel⟩, by decide +kernel⟩
theorem w_594 : (Jvm.Cond.instanceMethod ({ cls := "Tablature", name := "fret", desc := "(III)I" } : Jvm.MethodName)) ∈ xWA := wd4 41 rfl rfl
theorem w_595 : (Jvm.Cond.selects "Tablature" ({ cls := "Tablature", name := "fret", desc := "(III)I" } : Jvm.MethodName) ({ cls := "Tablature", name := "fret", desc := "(III)I" } : Jvm.MethodName)) ∈ xWA := wd4 42 rfl rfl
theorem w_596 : (Jvm.Cond.methodLink "TablatureLaw" (53 : Nat) ({ cls := "Tablature", name := "fret", desc := "(III)I" } : Jvm.MethodName)) ∈ xWA := wd4 40 rfl rfl
theorem s_Law_53 : xVi "TablatureLaw" 53 7 m_Tab_fret 3 := ⟨ok_Tab_fret, w_596, w_594, w_595, TX8, 8, rfl⟩
theorem w_597 : (Jvm.Cond.code ({ cls := "Tablature", name := "finger", desc := "(III)I" } : Jvm.MethodName) prog_1_method_14_code (5 : Nat) (Option.some Jvm.ClassFile.FieldType.int)) ∈ xWA := wd4 50 rfl rfl
theorem ok_Tab_finger : xOk "" m_Tab_finger 3 := ⟨w_597, w_36, ⟨by decide +kernel, by decide +kernel⟩, by decide +kernel⟩
theorem w_598 : (Jvm.Cond.instanceMethod ({ cls := "Tablature", name := "finger", desc := "(III)I" } : Jvm.MethodName)) ∈ xWA := wd4 48 rfl rfl
theorem w_599 : (Jvm.Cond.selects "Tablature" ({ cls := "Tablature", name := "finger", desc := "(III)I" } : Jvm.MethodName) ({ cls := "Tablature", name := "finger", desc := "(III)I" } : Jvm.MethodName)) ∈ xWA := wd4 49 rfl rfl
theorem w_600 : (Jvm.Cond.methodLink "TablatureLaw" (56 : Nat) ({ cls := "Tablature", name := "finger", desc := "(III)I" } : Jvm.MethodName)) ∈ xWA := wd4 47 rfl rfl
theorem s_Law_56 : xVi "TablatureLaw" 56 7 m_Tab_finger 3 := ⟨ok_Tab_finger, w_600, w_598, w_599, TX8, 8, rfl⟩
theorem w_601 : (Jvm.Cond.code ({ cls := "Tablature", name := "move", desc := "(III)I" } : Jvm.MethodName) prog_1_method_15_code (4 : Nat) (Option.some Jvm.ClassFile.FieldType.int)) ∈ xWA := wd4 57 rfl rfl
theorem ok_Tab_move : xOk "" m_Tab_move 3 := ⟨w_601, w_36, ⟨by decide +kernel, by decide +kernel⟩, by decide +kernel⟩
theorem w_602 : (Jvm.Cond.instanceMethod ({ cls := "Tablature", name := "move", desc := "(III)I" } : Jvm.MethodName)) ∈ xWA := wd4 55 rfl rfl
theorem w_603 : (Jvm.Cond.selects "Tablature" ({ cls := "Tablature", name := "move", desc := "(III)I" } : Jvm.MethodName) ({ cls := "Tablature", name := "move", desc := "(III)I" } : Jvm.MethodName)) ∈ xWA := wd4 56 rfl rfl
theorem w_604 : (Jvm.Cond.methodLink "TablatureLaw" (59 : Nat) ({ cls := "Tablature", name := "move", desc := "(III)I" } : Jvm.MethodName)) ∈ xWA := wd4 54 rfl rfl
theorem s_Law_59 : xVi "TablatureLaw" 59 7 m_Tab_move 3 := ⟨ok_Tab_move, w_604, w_602, w_603, TX8, 8, rfl⟩
theorem w_605 : (Jvm.Cond.code ({ cls := "Tablature", name := "plan", desc := "(I)I" } : Jvm.MethodName) prog_1_method_16_code (2 : Nat) (Option.some Jvm.ClassFile.FieldType.int)) ∈ xWA := wd4 65 rfl rfl
theorem ok_Tab_plan : xOk "" m_Tab_plan 1 := ⟨w_605, w_36, ⟨by decide +kernel, by decide +kernel⟩, by decide +kernel⟩
theorem w_606 : (Jvm.Cond.instanceMethod ({ cls := "Tablature", name := "plan", desc := "(I)I" } : Jvm.MethodName)) ∈ xWA := wd4 63 rfl rfl
theorem w_607 : (Jvm.Cond.selects "Tablature" ({ cls := "Tablature", name := "plan", desc := "(I)I" } : Jvm.MethodName) ({ cls := "Tablature", name := "plan", desc := "(I)I" } : Jvm.MethodName)) ∈ xWA := wd4 64 rfl rfl
theorem w_608 : (Jvm.Cond.methodLink "TablatureLaw" (62 : Nat) ({ cls := "Tablature", name := "plan", desc := "(I)I" } : Jvm.MethodName)) ∈ xWA := wd4 62 rfl rfl
theorem s_Law_62 : xVi "TablatureLaw" 62 7 m_Tab_plan 1 := ⟨ok_Tab_plan, w_608, w_606, w_607, TX8, 8, rfl⟩
theorem w_609 : (Jvm.Cond.code ({ cls := "Tablature", name := "many", desc := "(I)I" } : Jvm.MethodName) prog_1_method_19_code (2 : Nat) (Option.some Jvm.ClassFile.FieldType.int)) ∈ xWA := wd4 72 rfl rfl
theorem ok_Tab_many : xOk "" m_Tab_many 1 := ⟨w_609, w_36, ⟨by decide +kernel, by decide +kernel⟩, by decide +kernel⟩
theorem w_610 : (Jvm.Cond.instanceMethod ({ cls := "Tablature", name := "many", desc := "(I)I" } : Jvm.MethodName)) ∈ xWA := wd4 70 rfl rfl
theorem w_611 : (Jvm.Cond.selects "Tablature" ({ cls := "Tablature", name := "many", desc := "(I)I" } : Jvm.MethodName) ({ cls := "Tablature", name := "many", desc := "(I)I" } : Jvm.MethodName)) ∈ xWA := wd4 71 rfl rfl
theorem w_612 : (Jvm.Cond.methodLink "TablatureLaw" (65 : Nat) ({ cls := "Tablature", name := "many", desc := "(I)I" } : Jvm.MethodName)) ∈ xWA := wd4 69 rfl rfl
theorem s_Law_65 : xVi "TablatureLaw" 65 7 m_Tab_many 1 := ⟨ok_Tab_many, w_612, w_610, w_611, TX8, 8, rfl⟩
theorem w_613 : (Jvm.Cond.code ({ cls := "Tablature", name := "shapes", desc := "(III)I" } : Jvm.MethodName) prog_1_method_21_code (4 : Nat) (Option.some Jvm.ClassFile.FieldType.int)) ∈ xWA := wd4 79 rfl rfl
theorem ok_Tab_shapes : xOk "" m_Tab_shapes 3 := ⟨w_613, w_36, ⟨by decide +kernel, by decide +kernel⟩, by decide +kernel⟩
theorem w_614 : (Jvm.Cond.instanceMethod ({ cls := "Tablature", name := "shapes", desc := "(III)I" } : Jvm.MethodName)) ∈ xWA := wd4 77 rfl rfl
theorem w_615 : (Jvm.Cond.selects "Tablature" ({ cls := "Tablature", name := "shapes", desc := "(III)I" } : Jvm.MethodName) ({ cls := "Tablature", name := "shapes", desc := "(III)I" } : Jvm.MethodName)) ∈ xWA := wd4 78 rfl rfl
theorem w_616 : (Jvm.Cond.methodLink "TablatureLaw" (68 : Nat) ({ cls := "Tablature", name := "shapes", desc := "(III)I" } : Jvm.MethodName)) ∈ xWA := wd4 76 rfl rfl
theorem s_Law_68 : xVi "TablatureLaw" 68 7 m_Tab_shapes 3 := ⟨ok_Tab_shapes, w_616, w_614, w_615, TX8, 8, rfl⟩
theorem w_617 : (Jvm.Cond.code ({ cls := "Tablature", name := "shapeEffort", desc := "(III)I" } : Jvm.MethodName) prog_1_method_22_code (4 : Nat) (Option.some Jvm.ClassFile.FieldType.int)) ∈ xWA := wd4 93 rfl rfl
theorem ok_Tab_shapeEffort : xOk "" m_Tab_shapeEffort 3 := ⟨w_617, w_36, ⟨by decide +kernel, by decide +kernel⟩, by decide +kernel⟩
theorem w_618 : (Jvm.Cond.instanceMethod ({ cls := "Tablature", name := "shapeEffort", desc := "(III)I" } : Jvm.MethodName)) ∈ xWA := wd4 91 rfl rfl
theorem w_619 : (Jvm.Cond.selects "Tablature" ({ cls := "Tablature", name := "shapeEffort", desc := "(III)I" } : Jvm.MethodName) ({ cls := "Tablature", name := "shapeEffort", desc := "(III)I" } : Jvm.MethodName)) ∈ xWA := wd4 92 rfl rfl
theorem w_620 : (Jvm.Cond.methodLink "TablatureLaw" (71 : Nat) ({ cls := "Tablature", name := "shapeEffort", desc := "(III)I" } : Jvm.MethodName)) ∈ xWA := wd4 90 rfl rfl
theorem s_Law_71 : xVi "TablatureLaw" 71 7 m_Tab_shapeEffort 3 := ⟨ok_Tab_shapeEffort, w_620, w_618, w_619, TX8, 8, rfl⟩
theorem w_621 : (Jvm.Cond.code ({ cls := "Tablature", name := "shapeFret", desc := "(IIII)I" } : Jvm.MethodName) prog_1_method_23_code (5 : Nat) (Option.some Jvm.ClassFile.FieldType.int)) ∈ xWA := wd4 100 rfl rfl
theorem ok_Tab_shapeFret : xOk "" m_Tab_shapeFret 4 := ⟨w_621, w_36, ⟨by decide +kernel, by decide +kernel⟩, by decide +kernel⟩
theorem w_622 : (Jvm.Cond.instanceMethod ({ cls := "Tablature", name := "shapeFret", desc := "(IIII)I" } : Jvm.MethodName)) ∈ xWA := wd4 98 rfl rfl
theorem w_623 : (Jvm.Cond.selects "Tablature" ({ cls := "Tablature", name := "shapeFret", desc := "(IIII)I" } : Jvm.MethodName) ({ cls := "Tablature", name := "shapeFret", desc := "(IIII)I" } : Jvm.MethodName)) ∈ xWA := wd4 99 rfl rfl
theorem w_624 : (Jvm.Cond.methodLink "TablatureLaw" (74 : Nat) ({ cls := "Tablature", name := "shapeFret", desc := "(IIII)I" } : Jvm.MethodName)) ∈ xWA := wd4 97 rfl rfl
theorem s_Law_74 : xVi "TablatureLaw" 74 7 m_Tab_shapeFret 4 := ⟨ok_Tab_shapeFret, w_624, w_622, w_623, TX8, 8, rfl⟩
theorem w_625 : (Jvm.Cond.code ({ cls := "Tablature", name := "totalWith", desc := "(II)I" } : Jvm.MethodName) prog_1_method_24_code (3 : Nat) (Option.some Jvm.ClassFile.FieldType.int)) ∈ xWA := wd4 112 rfl rfl
theorem ok_Tab_totalWith : xOk "" m_Tab_totalWith 2 := ⟨w_625, w_36, ⟨by decide +kernel, by decide +kernel⟩, by decide +kernel⟩
theorem w_626 : (Jvm.Cond.instanceMethod ({ cls := "Tablature", name := "totalWith", desc := "(II)I" } : Jvm.MethodName)) ∈ xWA := wd4 110 rfl rfl
theorem w_627 : (Jvm.Cond.selects "Tablature" ({ cls := "Tablature", name := "totalWith", desc := "(II)I" } : Jvm.MethodName) ({ cls := "Tablature", name := "totalWith", desc := "(II)I" } : Jvm.MethodName)) ∈ xWA := wd4 111 rfl rfl
theorem w_628 : (Jvm.Cond.methodLink "TablatureLaw" (78 : Nat) ({ cls := "Tablature", name := "totalWith", desc := "(II)I" } : Jvm.MethodName)) ∈ xWA := wd4 109 rfl rfl
theorem s_Law_78 : xVi "TablatureLaw" 78 7 m_Tab_totalWith 2 := ⟨ok_Tab_totalWith, w_628, w_626, w_627, TX8, 8, rfl⟩
theorem w_629 : (Jvm.Cond.methodLink "TablatureLaw" (81 : Nat) ({ cls := "Tablature", name := "totalWithout", desc := "(I)I" } : Jvm.MethodName)) ∈ xWA := wd4 116 rfl rfl
theorem s_Law_81 : xVi "TablatureLaw" 81 7 m_Tab_totalWithout 1 := ⟨ok_Tab_totalWithout, w_629, w_185, w_186, TX8, 8, rfl⟩
theorem w_630 : (Jvm.Cond.code ({ cls := "Tablature", name := "totalFixed", desc := "(II)I" } : Jvm.MethodName) prog_1_method_27_code (3 : Nat) (Option.some Jvm.ClassFile.FieldType.int)) ∈ xWA := wd4 123 rfl rfl
theorem ok_Tab_totalFixed : xOk "" m_Tab_totalFixed 2 := ⟨w_630, w_36, ⟨by decide +kernel, by decide +kernel⟩, by decide +kernel⟩
theorem w_631 : (Jvm.Cond.instanceMethod ({ cls := "Tablature", name := "totalFixed", desc := "(II)I" } : Jvm.MethodName)) ∈ xWA := wd4 121 rfl rfl
theorem w_632 : (Jvm.Cond.selects "Tablature" ({ cls := "Tablature", name := "totalFixed", desc := "(II)I" } : Jvm.MethodName) ({ cls := "Tablature", name := "totalFixed", desc := "(II)I" } : Jvm.MethodName)) ∈ xWA := wd4 122 rfl rfl
theorem w_633 : (Jvm.Cond.methodLink "TablatureLaw" (84 : Nat) ({ cls := "Tablature", name := "totalFixed", desc := "(II)I" } : Jvm.MethodName)) ∈ xWA := wd4 120 rfl rfl
theorem s_Law_84 : xVi "TablatureLaw" 84 7 m_Tab_totalFixed 2 := ⟨ok_Tab_totalFixed, w_633, w_631, w_632, TX8, 8, rfl⟩
theorem w_634 : (Jvm.Cond.classLink "TablatureLaw" (8 : Nat) "Tablature") ∈ xWA := wd1 20 rfl rfl
theorem w_635 : (Jvm.Cond.instantiable "Tablature" (8 : Nat)) ∈ xWA := wd1 21 rfl rfl
theorem n_Law_8 : xNw "TablatureLaw" 8 7 8 [.null, .null, .null, .null, .null, .null, .null, vi 0] := ⟨RX8, TX8, tyX8, rfl, fun w hw => xWA_in (in_RX8 w hw).1 (in_RX8 w hw).2, tyX8_ok, w_634, w_635, w_36, by decide +kernel⟩
theorem w_636 : (Jvm.Cond.code ({ cls := "Tablature", name := "<init>", desc := "()V" } : Jvm.MethodName) prog_1_method_1_code (1 : Nat) (Option.none : Option Jvm.ClassFile.FieldType)) ∈ xWA := wd1 24 rfl rfl
theorem ok_Tab_init : xOk "" m_Tab_init 0 := ⟨w_636, w_36, ⟨by decide +kernel, by decide +kernel⟩, by decide +kernel⟩
theorem w_637 : (Jvm.Cond.instanceMethod ({ cls := "Tablature", name := "<init>", desc := "()V" } : Jvm.MethodName)) ∈ xWA := wd1 23 rfl rfl
theorem w_638 : (Jvm.Cond.methodLink "TablatureLaw" (87 : Nat) ({ cls := "Tablature", name := "<init>", desc := "()V" } : Jvm.MethodName)) ∈ xWA := wd1 22 rfl rfl
theorem s_Law_87 : xIn "TablatureLaw" 87 m_Tab_init 0 := ⟨ok_Tab_init, w_638, w_637, rfl, rfl⟩
theorem w_639 : (Jvm.Cond.classLink "TablatureLaw" (88 : Nat) "TablatureModel") ∈ xWA := wd4 124 rfl rfl
theorem w_640 : (Jvm.Cond.instantiable "TablatureModel" (16 : Nat)) ∈ xWA := wd4 125 rfl rfl
theorem n_Law_88 : xNw "TablatureLaw" 88 8 16 [vi 0, vi 0, .null, .null, vi 0, vi 0, vi 0, .null, .null, .null, .null, .null, .null, vi 0, vi 0, .null] := ⟨RX9, TX9, tyX9, rfl, fun w hw => xWA_in (in_RX9 w hw).1 (in_RX9 w hw).2, tyX9_ok, w_639, w_640, w_264, by decide +kernel⟩
theorem w_641 : (Jvm.Cond.code ({ cls := "TablatureModel", name := "<init>", desc := "()V" } : Jvm.MethodName) prog_11_method_1_code (1 : Nat) (Option.none : Option Jvm.ClassFile.FieldType)) ∈ xWA := wd4 128 rfl rfl
theorem ok_Model_init : xOk "" m_Model_init 0 := ⟨w_641, w_264, ⟨by decide +kernel, by decide +kernel⟩, by decide +kernel⟩
theorem w_642 : (Jvm.Cond.instanceMethod ({ cls := "TablatureModel", name := "<init>", desc := "()V" } : Jvm.MethodName)) ∈ xWA := wd4 127 rfl rfl
theorem w_643 : (Jvm.Cond.methodLink "TablatureLaw" (90 : Nat) ({ cls := "TablatureModel", name := "<init>", desc := "()V" } : Jvm.MethodName)) ∈ xWA := wd4 126 rfl rfl
theorem s_Law_90 : xIn "TablatureLaw" 90 m_Model_init 0 := ⟨ok_Model_init, w_643, w_642, rfl, rfl⟩
theorem w_644 : (Jvm.Cond.methodLink "TablatureLaw" (91 : Nat) ({ cls := "TablatureLaw", name := "string", desc := "(LTablature;I[J)I" } : Jvm.MethodName)) ∈ xWA := wd3 97 rfl rfl
theorem s_Law_91 : (Jvm.Cond.methodLink "TablatureLaw" (91 : Nat) ({ cls := "TablatureLaw", name := "string", desc := "(LTablature;I[J)I" } : Jvm.MethodName)) ∈ xWA := w_644
theorem w_645 : (Jvm.Cond.code ({ cls := "TablatureModel", name := "string", desc := "(I)I" } : Jvm.MethodName) prog_11_method_7_code (2 : Nat) (Option.some Jvm.ClassFile.FieldType.int)) ∈ xWA := wd4 187 rfl rfl
theorem ok_Model_string : xOk "" m_Model_string 1 := ⟨w_645, w_264, ⟨by decide +kernel, by decide +kernel⟩, by decide +kernel⟩
theorem w_646 : (Jvm.Cond.instanceMethod ({ cls := "TablatureModel", name := "string", desc := "(I)I" } : Jvm.MethodName)) ∈ xWA := wd4 185 rfl rfl
theorem w_647 : (Jvm.Cond.selects "TablatureModel" ({ cls := "TablatureModel", name := "string", desc := "(I)I" } : Jvm.MethodName) ({ cls := "TablatureModel", name := "string", desc := "(I)I" } : Jvm.MethodName)) ∈ xWA := wd4 186 rfl rfl
theorem w_648 : (Jvm.Cond.methodLink "TablatureLaw" (96 : Nat) ({ cls := "TablatureModel", name := "string", desc := "(I)I" } : Jvm.MethodName)) ∈ xWA := wd4 184 rfl rfl
theorem s_Law_96 : xVi "TablatureLaw" 96 8 m_Model_string 1 := ⟨ok_Model_string, w_648, w_646, w_647, TX9, 16, rfl⟩
theorem w_649 : (Jvm.Cond.code ({ cls := "TablatureModel", name := "thrown", desc := "()I" } : Jvm.MethodName) prog_11_method_2_code (1 : Nat) (Option.some Jvm.ClassFile.FieldType.int)) ∈ xWA := wd4 183 rfl rfl
theorem ok_Model_thrown : xOk "" m_Model_thrown 0 := ⟨w_649, w_264, ⟨by decide +kernel, by decide +kernel⟩, by decide +kernel⟩
theorem w_650 : (Jvm.Cond.instanceMethod ({ cls := "TablatureModel", name := "thrown", desc := "()I" } : Jvm.MethodName)) ∈ xWA := wd4 181 rfl rfl
theorem w_651 : (Jvm.Cond.selects "TablatureModel" ({ cls := "TablatureModel", name := "thrown", desc := "()I" } : Jvm.MethodName) ({ cls := "TablatureModel", name := "thrown", desc := "()I" } : Jvm.MethodName)) ∈ xWA := wd4 182 rfl rfl
theorem w_652 : (Jvm.Cond.methodLink "TablatureLaw" (97 : Nat) ({ cls := "TablatureModel", name := "thrown", desc := "()I" } : Jvm.MethodName)) ∈ xWA := wd4 180 rfl rfl
theorem s_Law_97 : xVi "TablatureLaw" 97 8 m_Model_thrown 0 := ⟨ok_Model_thrown, w_652, w_650, w_651, TX9, 16, rfl⟩
theorem w_653 : (Jvm.Cond.methodLink "TablatureLaw" (101 : Nat) ({ cls := "TablatureLaw", name := "tune", desc := "(LTablature;II[J)I" } : Jvm.MethodName)) ∈ xWA := wd3 153 rfl rfl
theorem s_Law_101 : (Jvm.Cond.methodLink "TablatureLaw" (101 : Nat) ({ cls := "TablatureLaw", name := "tune", desc := "(LTablature;II[J)I" } : Jvm.MethodName)) ∈ xWA := w_653
theorem w_654 : (Jvm.Cond.code ({ cls := "TablatureModel", name := "tune", desc := "(II)I" } : Jvm.MethodName) prog_11_method_8_code (4 : Nat) (Option.some Jvm.ClassFile.FieldType.int)) ∈ xWA := wd4 198 rfl rfl
theorem ok_Model_tune : xOk "" m_Model_tune 2 := ⟨w_654, w_264, ⟨by decide +kernel, by decide +kernel⟩, by decide +kernel⟩
theorem w_655 : (Jvm.Cond.instanceMethod ({ cls := "TablatureModel", name := "tune", desc := "(II)I" } : Jvm.MethodName)) ∈ xWA := wd4 196 rfl rfl
theorem w_656 : (Jvm.Cond.selects "TablatureModel" ({ cls := "TablatureModel", name := "tune", desc := "(II)I" } : Jvm.MethodName) ({ cls := "TablatureModel", name := "tune", desc := "(II)I" } : Jvm.MethodName)) ∈ xWA := wd4 197 rfl rfl
theorem w_657 : (Jvm.Cond.methodLink "TablatureLaw" (104 : Nat) ({ cls := "TablatureModel", name := "tune", desc := "(II)I" } : Jvm.MethodName)) ∈ xWA := wd4 195 rfl rfl
theorem s_Law_104 : xVi "TablatureLaw" 104 8 m_Model_tune 2 := ⟨ok_Model_tune, w_657, w_655, w_656, TX9, 16, rfl⟩
theorem w_658 : (Jvm.Cond.methodLink "TablatureLaw" (105 : Nat) ({ cls := "TablatureLaw", name := "slacken", desc := "(LTablature;IZ[J)I" } : Jvm.MethodName)) ∈ xWA := wd3 161 rfl rfl
theorem s_Law_105 : (Jvm.Cond.methodLink "TablatureLaw" (105 : Nat) ({ cls := "TablatureLaw", name := "slacken", desc := "(LTablature;IZ[J)I" } : Jvm.MethodName)) ∈ xWA := w_658
theorem w_659 : (Jvm.Cond.code ({ cls := "TablatureModel", name := "slacken", desc := "(IZ)I" } : Jvm.MethodName) prog_11_method_10_code (3 : Nat) (Option.some Jvm.ClassFile.FieldType.int)) ∈ xWA := wd4 206 rfl rfl
theorem ok_Model_slacken : xOk "" m_Model_slacken 2 := ⟨w_659, w_264, ⟨by decide +kernel, by decide +kernel⟩, by decide +kernel⟩
theorem w_660 : (Jvm.Cond.instanceMethod ({ cls := "TablatureModel", name := "slacken", desc := "(IZ)I" } : Jvm.MethodName)) ∈ xWA := wd4 204 rfl rfl
theorem w_661 : (Jvm.Cond.selects "TablatureModel" ({ cls := "TablatureModel", name := "slacken", desc := "(IZ)I" } : Jvm.MethodName) ({ cls := "TablatureModel", name := "slacken", desc := "(IZ)I" } : Jvm.MethodName)) ∈ xWA := wd4 205 rfl rfl
theorem w_662 : (Jvm.Cond.methodLink "TablatureLaw" (108 : Nat) ({ cls := "TablatureModel", name := "slacken", desc := "(IZ)I" } : Jvm.MethodName)) ∈ xWA := wd4 203 rfl rfl
theorem s_Law_108 : xVi "TablatureLaw" 108 8 m_Model_slacken 2 := ⟨ok_Model_slacken, w_662, w_660, w_661, TX9, 16, rfl⟩
theorem w_663 : (Jvm.Cond.methodLink "TablatureLaw" (109 : Nat) ({ cls := "TablatureLaw", name := "capo", desc := "(LTablature;I[J)I" } : Jvm.MethodName)) ∈ xWA := wd3 168 rfl rfl
theorem s_Law_109 : (Jvm.Cond.methodLink "TablatureLaw" (109 : Nat) ({ cls := "TablatureLaw", name := "capo", desc := "(LTablature;I[J)I" } : Jvm.MethodName)) ∈ xWA := w_663
theorem w_664 : (Jvm.Cond.code ({ cls := "TablatureModel", name := "capo", desc := "(I)I" } : Jvm.MethodName) prog_11_method_11_code (3 : Nat) (Option.some Jvm.ClassFile.FieldType.int)) ∈ xWA := wd4 214 rfl rfl
theorem ok_Model_capo : xOk "" m_Model_capo 1 := ⟨w_664, w_264, ⟨by decide +kernel, by decide +kernel⟩, by decide +kernel⟩
theorem w_665 : (Jvm.Cond.instanceMethod ({ cls := "TablatureModel", name := "capo", desc := "(I)I" } : Jvm.MethodName)) ∈ xWA := wd4 212 rfl rfl
theorem w_666 : (Jvm.Cond.selects "TablatureModel" ({ cls := "TablatureModel", name := "capo", desc := "(I)I" } : Jvm.MethodName) ({ cls := "TablatureModel", name := "capo", desc := "(I)I" } : Jvm.MethodName)) ∈ xWA := wd4 213 rfl rfl
theorem w_667 : (Jvm.Cond.methodLink "TablatureLaw" (111 : Nat) ({ cls := "TablatureModel", name := "capo", desc := "(I)I" } : Jvm.MethodName)) ∈ xWA := wd4 211 rfl rfl
theorem s_Law_111 : xVi "TablatureLaw" 111 8 m_Model_capo 1 := ⟨ok_Model_capo, w_667, w_665, w_666, TX9, 16, rfl⟩
theorem w_668 : (Jvm.Cond.methodLink "TablatureLaw" (112 : Nat) ({ cls := "TablatureLaw", name := "reach", desc := "(LTablature;I[J)I" } : Jvm.MethodName)) ∈ xWA := wd3 179 rfl rfl
theorem s_Law_112 : (Jvm.Cond.methodLink "TablatureLaw" (112 : Nat) ({ cls := "TablatureLaw", name := "reach", desc := "(LTablature;I[J)I" } : Jvm.MethodName)) ∈ xWA := w_668
theorem w_669 : (Jvm.Cond.code ({ cls := "TablatureModel", name := "reach", desc := "(I)I" } : Jvm.MethodName) prog_11_method_12_code (3 : Nat) (Option.some Jvm.ClassFile.FieldType.int)) ∈ xWA := wd4 218 rfl rfl
theorem ok_Model_reach : xOk "" m_Model_reach 1 := ⟨w_669, w_264, ⟨by decide +kernel, by decide +kernel⟩, by decide +kernel⟩
theorem w_670 : (Jvm.Cond.instanceMethod ({ cls := "TablatureModel", name := "reach", desc := "(I)I" } : Jvm.MethodName)) ∈ xWA := wd4 216 rfl rfl
theorem w_671 : (Jvm.Cond.selects "TablatureModel" ({ cls := "TablatureModel", name := "reach", desc := "(I)I" } : Jvm.MethodName) ({ cls := "TablatureModel", name := "reach", desc := "(I)I" } : Jvm.MethodName)) ∈ xWA := wd4 217 rfl rfl
theorem w_672 : (Jvm.Cond.methodLink "TablatureLaw" (114 : Nat) ({ cls := "TablatureModel", name := "reach", desc := "(I)I" } : Jvm.MethodName)) ∈ xWA := wd4 215 rfl rfl
theorem s_Law_114 : xVi "TablatureLaw" 114 8 m_Model_reach 1 := ⟨ok_Model_reach, w_672, w_670, w_671, TX9, 16, rfl⟩
theorem w_673 : (Jvm.Cond.methodLink "TablatureLaw" (115 : Nat) ({ cls := "TablatureLaw", name := "fretOf", desc := "(LTablature;II[J)I" } : Jvm.MethodName)) ∈ xWA := wd3 190 rfl rfl
theorem s_Law_115 : (Jvm.Cond.methodLink "TablatureLaw" (115 : Nat) ({ cls := "TablatureLaw", name := "fretOf", desc := "(LTablature;II[J)I" } : Jvm.MethodName)) ∈ xWA := w_673
theorem w_674 : (Jvm.Cond.code ({ cls := "TablatureModel", name := "fretOf", desc := "(II)I" } : Jvm.MethodName) prog_11_method_14_code (3 : Nat) (Option.some Jvm.ClassFile.FieldType.int)) ∈ xWA := wd4 222 rfl rfl
theorem ok_Model_fretOf : xOk "" m_Model_fretOf 2 := ⟨w_674, w_264, ⟨by decide +kernel, by decide +kernel⟩, by decide +kernel⟩
theorem w_675 : (Jvm.Cond.instanceMethod ({ cls := "TablatureModel", name := "fretOf", desc := "(II)I" } : Jvm.MethodName)) ∈ xWA := wd4 220 rfl rfl
theorem w_676 : (Jvm.Cond.selects "TablatureModel" ({ cls := "TablatureModel", name := "fretOf", desc := "(II)I" } : Jvm.MethodName) ({ cls := "TablatureModel", name := "fretOf", desc := "(II)I" } : Jvm.MethodName)) ∈ xWA := wd4 221 rfl rfl
theorem w_677 : (Jvm.Cond.methodLink "TablatureLaw" (117 : Nat) ({ cls := "TablatureModel", name := "fretOf", desc := "(II)I" } : Jvm.MethodName)) ∈ xWA := wd4 219 rfl rfl
theorem s_Law_117 : xVi "TablatureLaw" 117 8 m_Model_fretOf 2 := ⟨ok_Model_fretOf, w_677, w_675, w_676, TX9, 16, rfl⟩
theorem w_678 : (Jvm.Cond.methodLink "TablatureLaw" (118 : Nat) ({ cls := "TablatureLaw", name := "chord", desc := "(LTablature;IIIII[J)I" } : Jvm.MethodName)) ∈ xWA := wd3 202 rfl rfl
theorem s_Law_118 : (Jvm.Cond.methodLink "TablatureLaw" (118 : Nat) ({ cls := "TablatureLaw", name := "chord", desc := "(LTablature;IIIII[J)I" } : Jvm.MethodName)) ∈ xWA := w_678
theorem w_679 : (Jvm.Cond.code ({ cls := "TablatureModel", name := "chord", desc := "(IIIII)I" } : Jvm.MethodName) prog_11_method_15_code (15 : Nat) (Option.some Jvm.ClassFile.FieldType.int)) ∈ xWA := wd4 230 rfl rfl
theorem ok_Model_chord : xOk "" m_Model_chord 5 := ⟨w_679, w_264, ⟨by decide +kernel, by decide +kernel⟩, by decide +kernel⟩
theorem w_680 : (Jvm.Cond.instanceMethod ({ cls := "TablatureModel", name := "chord", desc := "(IIIII)I" } : Jvm.MethodName)) ∈ xWA := wd4 228 rfl rfl
theorem w_681 : (Jvm.Cond.selects "TablatureModel" ({ cls := "TablatureModel", name := "chord", desc := "(IIIII)I" } : Jvm.MethodName) ({ cls := "TablatureModel", name := "chord", desc := "(IIIII)I" } : Jvm.MethodName)) ∈ xWA := wd4 229 rfl rfl
theorem w_682 : (Jvm.Cond.methodLink "TablatureLaw" (121 : Nat) ({ cls := "TablatureModel", name := "chord", desc := "(IIIII)I" } : Jvm.MethodName)) ∈ xWA := wd4 227 rfl rfl
theorem s_Law_121 : xVi "TablatureLaw" 121 8 m_Model_chord 5 := ⟨ok_Model_chord, w_682, w_680, w_681, TX9, 16, rfl⟩
theorem w_683 : (Jvm.Cond.methodLink "TablatureLaw" (122 : Nat) ({ cls := "TablatureLaw", name := "strike", desc := "(LTablature;I[J)I" } : Jvm.MethodName)) ∈ xWA := wd3 231 rfl rfl
theorem s_Law_122 : (Jvm.Cond.methodLink "TablatureLaw" (122 : Nat) ({ cls := "TablatureLaw", name := "strike", desc := "(LTablature;I[J)I" } : Jvm.MethodName)) ∈ xWA := w_683
theorem w_684 : (Jvm.Cond.code ({ cls := "TablatureModel", name := "strike", desc := "(I)I" } : Jvm.MethodName) prog_11_method_16_code (3 : Nat) (Option.some Jvm.ClassFile.FieldType.int)) ∈ xWA := wd4 234 rfl rfl
theorem ok_Model_strike : xOk "" m_Model_strike 1 := ⟨w_684, w_264, ⟨by decide +kernel, by decide +kernel⟩, by decide +kernel⟩
theorem w_685 : (Jvm.Cond.instanceMethod ({ cls := "TablatureModel", name := "strike", desc := "(I)I" } : Jvm.MethodName)) ∈ xWA := wd4 232 rfl rfl
theorem w_686 : (Jvm.Cond.selects "TablatureModel" ({ cls := "TablatureModel", name := "strike", desc := "(I)I" } : Jvm.MethodName) ({ cls := "TablatureModel", name := "strike", desc := "(I)I" } : Jvm.MethodName)) ∈ xWA := wd4 233 rfl rfl
theorem w_687 : (Jvm.Cond.methodLink "TablatureLaw" (124 : Nat) ({ cls := "TablatureModel", name := "strike", desc := "(I)I" } : Jvm.MethodName)) ∈ xWA := wd4 231 rfl rfl
theorem s_Law_124 : xVi "TablatureLaw" 124 8 m_Model_strike 1 := ⟨ok_Model_strike, w_687, w_685, w_686, TX9, 16, rfl⟩
theorem w_688 : (Jvm.Cond.methodLink "TablatureLaw" (125 : Nat) ({ cls := "TablatureLaw", name := "fix", desc := "(LTablature;II[J)I" } : Jvm.MethodName)) ∈ xWA := wd4 7 rfl rfl
theorem s_Law_125 : (Jvm.Cond.methodLink "TablatureLaw" (125 : Nat) ({ cls := "TablatureLaw", name := "fix", desc := "(LTablature;II[J)I" } : Jvm.MethodName)) ∈ xWA := w_688
theorem w_689 : (Jvm.Cond.code ({ cls := "TablatureModel", name := "fix", desc := "(II)I" } : Jvm.MethodName) prog_11_method_33_code (4 : Nat) (Option.some Jvm.ClassFile.FieldType.int)) ∈ xWA := wd5 2 rfl rfl
theorem ok_Model_fix : xOk "" m_Model_fix 2 := ⟨w_689, w_264, ⟨by decide +kernel, by decide +kernel⟩, by decide +kernel⟩
theorem w_690 : (Jvm.Cond.instanceMethod ({ cls := "TablatureModel", name := "fix", desc := "(II)I" } : Jvm.MethodName)) ∈ xWA := wd5 0 rfl rfl
theorem w_691 : (Jvm.Cond.selects "TablatureModel" ({ cls := "TablatureModel", name := "fix", desc := "(II)I" } : Jvm.MethodName) ({ cls := "TablatureModel", name := "fix", desc := "(II)I" } : Jvm.MethodName)) ∈ xWA := wd5 1 rfl rfl
theorem w_692 : (Jvm.Cond.methodLink "TablatureLaw" (127 : Nat) ({ cls := "TablatureModel", name := "fix", desc := "(II)I" } : Jvm.MethodName)) ∈ xWA := wd4 239 rfl rfl
theorem s_Law_127 : xVi "TablatureLaw" 127 8 m_Model_fix 2 := ⟨ok_Model_fix, w_692, w_690, w_691, TX9, 16, rfl⟩
theorem w_693 : (Jvm.Cond.methodLink "TablatureLaw" (128 : Nat) ({ cls := "TablatureLaw", name := "ofChord", desc := "(LTablature;II[J)I" } : Jvm.MethodName)) ∈ xWA := wd4 19 rfl rfl
theorem s_Law_128 : (Jvm.Cond.methodLink "TablatureLaw" (128 : Nat) ({ cls := "TablatureLaw", name := "ofChord", desc := "(LTablature;II[J)I" } : Jvm.MethodName)) ∈ xWA := w_693
theorem w_694 : (Jvm.Cond.code ({ cls := "TablatureModel", name := "ofChord", desc := "(II)I" } : Jvm.MethodName) prog_11_method_35_code (3 : Nat) (Option.some Jvm.ClassFile.FieldType.int)) ∈ xWA := wd5 61 rfl rfl
theorem ok_Model_ofChord : xOk "" m_Model_ofChord 2 := ⟨w_694, w_264, ⟨by decide +kernel, by decide +kernel⟩, by decide +kernel⟩
theorem w_695 : (Jvm.Cond.instanceMethod ({ cls := "TablatureModel", name := "ofChord", desc := "(II)I" } : Jvm.MethodName)) ∈ xWA := wd5 59 rfl rfl
theorem w_696 : (Jvm.Cond.selects "TablatureModel" ({ cls := "TablatureModel", name := "ofChord", desc := "(II)I" } : Jvm.MethodName) ({ cls := "TablatureModel", name := "ofChord", desc := "(II)I" } : Jvm.MethodName)) ∈ xWA := wd5 60 rfl rfl
theorem w_697 : (Jvm.Cond.methodLink "TablatureLaw" (130 : Nat) ({ cls := "TablatureModel", name := "ofChord", desc := "(II)I" } : Jvm.MethodName)) ∈ xWA := wd5 58 rfl rfl
theorem s_Law_130 : xVi "TablatureLaw" 130 8 m_Model_ofChord 2 := ⟨ok_Model_ofChord, w_697, w_695, w_696, TX9, 16, rfl⟩
theorem w_698 : (Jvm.Cond.methodLink "TablatureLaw" (131 : Nat) ({ cls := "TablatureLaw", name := "ofGrip", desc := "(LTablature;III[J)I" } : Jvm.MethodName)) ∈ xWA := wd4 30 rfl rfl
theorem s_Law_131 : (Jvm.Cond.methodLink "TablatureLaw" (131 : Nat) ({ cls := "TablatureLaw", name := "ofGrip", desc := "(LTablature;III[J)I" } : Jvm.MethodName)) ∈ xWA := w_698
theorem w_699 : (Jvm.Cond.code ({ cls := "TablatureModel", name := "ofGrip", desc := "(III)I" } : Jvm.MethodName) prog_11_method_37_code (5 : Nat) (Option.some Jvm.ClassFile.FieldType.int)) ∈ xWA := wd5 73 rfl rfl
theorem ok_Model_ofGrip : xOk "" m_Model_ofGrip 3 := ⟨w_699, w_264, ⟨by decide +kernel, by decide +kernel⟩, by decide +kernel⟩
theorem w_700 : (Jvm.Cond.instanceMethod ({ cls := "TablatureModel", name := "ofGrip", desc := "(III)I" } : Jvm.MethodName)) ∈ xWA := wd5 71 rfl rfl
theorem w_701 : (Jvm.Cond.selects "TablatureModel" ({ cls := "TablatureModel", name := "ofGrip", desc := "(III)I" } : Jvm.MethodName) ({ cls := "TablatureModel", name := "ofGrip", desc := "(III)I" } : Jvm.MethodName)) ∈ xWA := wd5 72 rfl rfl
theorem w_702 : (Jvm.Cond.methodLink "TablatureLaw" (134 : Nat) ({ cls := "TablatureModel", name := "ofGrip", desc := "(III)I" } : Jvm.MethodName)) ∈ xWA := wd5 70 rfl rfl
theorem s_Law_134 : xVi "TablatureLaw" 134 8 m_Model_ofGrip 3 := ⟨ok_Model_ofGrip, w_702, w_700, w_701, TX9, 16, rfl⟩
theorem w_703 : (Jvm.Cond.methodLink "TablatureLaw" (135 : Nat) ({ cls := "TablatureLaw", name := "fret", desc := "(LTablature;III[J)I" } : Jvm.MethodName)) ∈ xWA := wd4 37 rfl rfl
theorem s_Law_135 : (Jvm.Cond.methodLink "TablatureLaw" (135 : Nat) ({ cls := "TablatureLaw", name := "fret", desc := "(LTablature;III[J)I" } : Jvm.MethodName)) ∈ xWA := w_703
theorem w_704 : (Jvm.Cond.code ({ cls := "TablatureModel", name := "fret", desc := "(III)I" } : Jvm.MethodName) prog_11_method_39_code (4 : Nat) (Option.some Jvm.ClassFile.FieldType.int)) ∈ xWA := wd5 80 rfl rfl
theorem ok_Model_fret : xOk "" m_Model_fret 3 := ⟨w_704, w_264, ⟨by decide +kernel, by decide +kernel⟩, by decide +kernel⟩
theorem w_705 : (Jvm.Cond.instanceMethod ({ cls := "TablatureModel", name := "fret", desc := "(III)I" } : Jvm.MethodName)) ∈ xWA := wd5 78 rfl rfl
theorem w_706 : (Jvm.Cond.selects "TablatureModel" ({ cls := "TablatureModel", name := "fret", desc := "(III)I" } : Jvm.MethodName) ({ cls := "TablatureModel", name := "fret", desc := "(III)I" } : Jvm.MethodName)) ∈ xWA := wd5 79 rfl rfl
theorem w_707 : (Jvm.Cond.methodLink "TablatureLaw" (137 : Nat) ({ cls := "TablatureModel", name := "fret", desc := "(III)I" } : Jvm.MethodName)) ∈ xWA := wd5 77 rfl rfl
theorem s_Law_137 : xVi "TablatureLaw" 137 8 m_Model_fret 3 := ⟨ok_Model_fret, w_707, w_705, w_706, TX9, 16, rfl⟩
theorem w_708 : (Jvm.Cond.methodLink "TablatureLaw" (138 : Nat) ({ cls := "TablatureLaw", name := "finger", desc := "(LTablature;III[J)I" } : Jvm.MethodName)) ∈ xWA := wd4 44 rfl rfl
theorem s_Law_138 : (Jvm.Cond.methodLink "TablatureLaw" (138 : Nat) ({ cls := "TablatureLaw", name := "finger", desc := "(LTablature;III[J)I" } : Jvm.MethodName)) ∈ xWA := w_708
theorem w_709 : (Jvm.Cond.code ({ cls := "TablatureModel", name := "finger", desc := "(III)I" } : Jvm.MethodName) prog_11_method_40_code (4 : Nat) (Option.some Jvm.ClassFile.FieldType.int)) ∈ xWA := wd5 88 rfl rfl
theorem ok_Model_finger : xOk "" m_Model_finger 3 := ⟨w_709, w_264, ⟨by decide +kernel, by decide +kernel⟩, by decide +kernel⟩
theorem w_710 : (Jvm.Cond.instanceMethod ({ cls := "TablatureModel", name := "finger", desc := "(III)I" } : Jvm.MethodName)) ∈ xWA := wd5 86 rfl rfl
theorem w_711 : (Jvm.Cond.selects "TablatureModel" ({ cls := "TablatureModel", name := "finger", desc := "(III)I" } : Jvm.MethodName) ({ cls := "TablatureModel", name := "finger", desc := "(III)I" } : Jvm.MethodName)) ∈ xWA := wd5 87 rfl rfl
theorem w_712 : (Jvm.Cond.methodLink "TablatureLaw" (140 : Nat) ({ cls := "TablatureModel", name := "finger", desc := "(III)I" } : Jvm.MethodName)) ∈ xWA := wd5 85 rfl rfl
theorem s_Law_140 : xVi "TablatureLaw" 140 8 m_Model_finger 3 := ⟨ok_Model_finger, w_712, w_710, w_711, TX9, 16, rfl⟩
theorem w_713 : (Jvm.Cond.methodLink "TablatureLaw" (141 : Nat) ({ cls := "TablatureLaw", name := "move", desc := "(LTablature;III[J)I" } : Jvm.MethodName)) ∈ xWA := wd4 51 rfl rfl
theorem s_Law_141 : (Jvm.Cond.methodLink "TablatureLaw" (141 : Nat) ({ cls := "TablatureLaw", name := "move", desc := "(LTablature;III[J)I" } : Jvm.MethodName)) ∈ xWA := w_713
theorem w_714 : (Jvm.Cond.code ({ cls := "TablatureModel", name := "move", desc := "(III)I" } : Jvm.MethodName) prog_11_method_42_code (6 : Nat) (Option.some Jvm.ClassFile.FieldType.int)) ∈ xWA := wd5 92 rfl rfl
theorem ok_Model_move : xOk "" m_Model_move 3 := ⟨w_714, w_264, ⟨by decide +kernel, by decide +kernel⟩, by decide +kernel⟩
theorem w_715 : (Jvm.Cond.instanceMethod ({ cls := "TablatureModel", name := "move", desc := "(III)I" } : Jvm.MethodName)) ∈ xWA := wd5 90 rfl rfl
theorem w_716 : (Jvm.Cond.selects "TablatureModel" ({ cls := "TablatureModel", name := "move", desc := "(III)I" } : Jvm.MethodName) ({ cls := "TablatureModel", name := "move", desc := "(III)I" } : Jvm.MethodName)) ∈ xWA := wd5 91 rfl rfl
theorem w_717 : (Jvm.Cond.methodLink "TablatureLaw" (143 : Nat) ({ cls := "TablatureModel", name := "move", desc := "(III)I" } : Jvm.MethodName)) ∈ xWA := wd5 89 rfl rfl
theorem s_Law_143 : xVi "TablatureLaw" 143 8 m_Model_move 3 := ⟨ok_Model_move, w_717, w_715, w_716, TX9, 16, rfl⟩
theorem w_718 : (Jvm.Cond.methodLink "TablatureLaw" (144 : Nat) ({ cls := "TablatureLaw", name := "plan", desc := "(LTablature;I[J)I" } : Jvm.MethodName)) ∈ xWA := wd4 59 rfl rfl
theorem s_Law_144 : (Jvm.Cond.methodLink "TablatureLaw" (144 : Nat) ({ cls := "TablatureLaw", name := "plan", desc := "(LTablature;I[J)I" } : Jvm.MethodName)) ∈ xWA := w_718
theorem w_719 : (Jvm.Cond.code ({ cls := "TablatureModel", name := "plan", desc := "(I)I" } : Jvm.MethodName) prog_11_method_46_code (3 : Nat) (Option.some Jvm.ClassFile.FieldType.int)) ∈ xWA := wd5 101 rfl rfl
theorem ok_Model_plan : xOk "" m_Model_plan 1 := ⟨w_719, w_264, ⟨by decide +kernel, by decide +kernel⟩, by decide +kernel⟩
theorem w_720 : (Jvm.Cond.instanceMethod ({ cls := "TablatureModel", name := "plan", desc := "(I)I" } : Jvm.MethodName)) ∈ xWA := wd5 99 rfl rfl
theorem w_721 : (Jvm.Cond.selects "TablatureModel" ({ cls := "TablatureModel", name := "plan", desc := "(I)I" } : Jvm.MethodName) ({ cls := "TablatureModel", name := "plan", desc := "(I)I" } : Jvm.MethodName)) ∈ xWA := wd5 100 rfl rfl
theorem w_722 : (Jvm.Cond.methodLink "TablatureLaw" (146 : Nat) ({ cls := "TablatureModel", name := "plan", desc := "(I)I" } : Jvm.MethodName)) ∈ xWA := wd5 98 rfl rfl
theorem s_Law_146 : xVi "TablatureLaw" 146 8 m_Model_plan 1 := ⟨ok_Model_plan, w_722, w_720, w_721, TX9, 16, rfl⟩
theorem w_723 : (Jvm.Cond.code ({ cls := "Tablature", name := "total", desc := "()I" } : Jvm.MethodName) prog_1_method_17_code (1 : Nat) (Option.some Jvm.ClassFile.FieldType.int)) ∈ xWA := wd2 31 rfl rfl
theorem ok_Tab_total : xOk "" m_Tab_total 0 := ⟨w_723, w_36, ⟨by decide +kernel, by decide +kernel⟩, by decide +kernel⟩
theorem w_724 : (Jvm.Cond.instanceMethod ({ cls := "Tablature", name := "total", desc := "()I" } : Jvm.MethodName)) ∈ xWA := wd2 29 rfl rfl
theorem w_725 : (Jvm.Cond.selects "Tablature" ({ cls := "Tablature", name := "total", desc := "()I" } : Jvm.MethodName) ({ cls := "Tablature", name := "total", desc := "()I" } : Jvm.MethodName)) ∈ xWA := wd2 30 rfl rfl
theorem w_726 : (Jvm.Cond.methodLink "TablatureLaw" (147 : Nat) ({ cls := "Tablature", name := "total", desc := "()I" } : Jvm.MethodName)) ∈ xWA := wd2 28 rfl rfl
theorem s_Law_147 : xVi "TablatureLaw" 147 7 m_Tab_total 0 := ⟨ok_Tab_total, w_726, w_724, w_725, TX8, 8, rfl⟩
theorem w_727 : (Jvm.Cond.code ({ cls := "TablatureModel", name := "total", desc := "()I" } : Jvm.MethodName) prog_11_method_47_code (1 : Nat) (Option.some Jvm.ClassFile.FieldType.int)) ∈ xWA := wd5 115 rfl rfl
theorem ok_Model_total : xOk "" m_Model_total 0 := ⟨w_727, w_264, ⟨by decide +kernel, by decide +kernel⟩, by decide +kernel⟩
theorem w_728 : (Jvm.Cond.instanceMethod ({ cls := "TablatureModel", name := "total", desc := "()I" } : Jvm.MethodName)) ∈ xWA := wd5 113 rfl rfl
theorem w_729 : (Jvm.Cond.selects "TablatureModel" ({ cls := "TablatureModel", name := "total", desc := "()I" } : Jvm.MethodName) ({ cls := "TablatureModel", name := "total", desc := "()I" } : Jvm.MethodName)) ∈ xWA := wd5 114 rfl rfl
theorem w_730 : (Jvm.Cond.methodLink "TablatureLaw" (150 : Nat) ({ cls := "TablatureModel", name := "total", desc := "()I" } : Jvm.MethodName)) ∈ xWA := wd5 112 rfl rfl
theorem s_Law_150 : xVi "TablatureLaw" 150 8 m_Model_total 0 := ⟨ok_Model_total, w_730, w_728, w_729, TX9, 16, rfl⟩
theorem w_731 : (Jvm.Cond.code ({ cls := "Tablature", name := "hardest", desc := "()I" } : Jvm.MethodName) prog_1_method_18_code (1 : Nat) (Option.some Jvm.ClassFile.FieldType.int)) ∈ xWA := wd2 138 rfl rfl
theorem ok_Tab_hardest : xOk "" m_Tab_hardest 0 := ⟨w_731, w_36, ⟨by decide +kernel, by decide +kernel⟩, by decide +kernel⟩
theorem w_732 : (Jvm.Cond.instanceMethod ({ cls := "Tablature", name := "hardest", desc := "()I" } : Jvm.MethodName)) ∈ xWA := wd2 136 rfl rfl
theorem w_733 : (Jvm.Cond.selects "Tablature" ({ cls := "Tablature", name := "hardest", desc := "()I" } : Jvm.MethodName) ({ cls := "Tablature", name := "hardest", desc := "()I" } : Jvm.MethodName)) ∈ xWA := wd2 137 rfl rfl
theorem w_734 : (Jvm.Cond.methodLink "TablatureLaw" (151 : Nat) ({ cls := "Tablature", name := "hardest", desc := "()I" } : Jvm.MethodName)) ∈ xWA := wd2 135 rfl rfl
theorem s_Law_151 : xVi "TablatureLaw" 151 7 m_Tab_hardest 0 := ⟨ok_Tab_hardest, w_734, w_732, w_733, TX8, 8, rfl⟩
theorem w_735 : (Jvm.Cond.code ({ cls := "TablatureModel", name := "hardest", desc := "()I" } : Jvm.MethodName) prog_11_method_49_code (2 : Nat) (Option.some Jvm.ClassFile.FieldType.int)) ∈ xWA := wd5 123 rfl rfl
theorem ok_Model_hardest : xOk "" m_Model_hardest 0 := ⟨w_735, w_264, ⟨by decide +kernel, by decide +kernel⟩, by decide +kernel⟩
theorem w_736 : (Jvm.Cond.instanceMethod ({ cls := "TablatureModel", name := "hardest", desc := "()I" } : Jvm.MethodName)) ∈ xWA := wd5 121 rfl rfl
theorem w_737 : (Jvm.Cond.selects "TablatureModel" ({ cls := "TablatureModel", name := "hardest", desc := "()I" } : Jvm.MethodName) ({ cls := "TablatureModel", name := "hardest", desc := "()I" } : Jvm.MethodName)) ∈ xWA := wd5 122 rfl rfl
theorem w_738 : (Jvm.Cond.methodLink "TablatureLaw" (154 : Nat) ({ cls := "TablatureModel", name := "hardest", desc := "()I" } : Jvm.MethodName)) ∈ xWA := wd5 120 rfl rfl
theorem s_Law_154 : xVi "TablatureLaw" 154 8 m_Model_hardest 0 := ⟨ok_Model_hardest, w_738, w_736, w_737, TX9, 16, rfl⟩
theorem w_739 : (Jvm.Cond.methodLink "TablatureLaw" (155 : Nat) ({ cls := "TablatureLaw", name := "many", desc := "(LTablature;I[J)I" } : Jvm.MethodName)) ∈ xWA := wd4 66 rfl rfl
theorem s_Law_155 : (Jvm.Cond.methodLink "TablatureLaw" (155 : Nat) ({ cls := "TablatureLaw", name := "many", desc := "(LTablature;I[J)I" } : Jvm.MethodName)) ∈ xWA := w_739
theorem w_740 : (Jvm.Cond.code ({ cls := "TablatureModel", name := "many", desc := "(I)I" } : Jvm.MethodName) prog_11_method_51_code (3 : Nat) (Option.some Jvm.ClassFile.FieldType.int)) ∈ xWA := wd5 131 rfl rfl
theorem ok_Model_many : xOk "" m_Model_many 1 := ⟨w_740, w_264, ⟨by decide +kernel, by decide +kernel⟩, by decide +kernel⟩
theorem w_741 : (Jvm.Cond.instanceMethod ({ cls := "TablatureModel", name := "many", desc := "(I)I" } : Jvm.MethodName)) ∈ xWA := wd5 129 rfl rfl
theorem w_742 : (Jvm.Cond.selects "TablatureModel" ({ cls := "TablatureModel", name := "many", desc := "(I)I" } : Jvm.MethodName) ({ cls := "TablatureModel", name := "many", desc := "(I)I" } : Jvm.MethodName)) ∈ xWA := wd5 130 rfl rfl
theorem w_743 : (Jvm.Cond.methodLink "TablatureLaw" (157 : Nat) ({ cls := "TablatureModel", name := "many", desc := "(I)I" } : Jvm.MethodName)) ∈ xWA := wd5 128 rfl rfl
theorem s_Law_157 : xVi "TablatureLaw" 157 8 m_Model_many 1 := ⟨ok_Model_many, w_743, w_741, w_742, TX9, 16, rfl⟩
theorem w_744 : (Jvm.Cond.code ({ cls := "Tablature", name := "meanEffort", desc := "()D" } : Jvm.MethodName) prog_1_method_20_code (2 : Nat) (Option.some Jvm.ClassFile.FieldType.double)) ∈ xWA := wd2 146 rfl rfl
theorem ok_Tab_meanEffort : xOk "" m_Tab_meanEffort 0 := ⟨w_744, w_36, ⟨by decide +kernel, by decide +kernel⟩, by decide +kernel⟩
theorem w_745 : (Jvm.Cond.instanceMethod ({ cls := "Tablature", name := "meanEffort", desc := "()D" } : Jvm.MethodName)) ∈ xWA := wd2 144 rfl rfl
theorem w_746 : (Jvm.Cond.selects "Tablature" ({ cls := "Tablature", name := "meanEffort", desc := "()D" } : Jvm.MethodName) ({ cls := "Tablature", name := "meanEffort", desc := "()D" } : Jvm.MethodName)) ∈ xWA := wd2 145 rfl rfl
theorem w_747 : (Jvm.Cond.methodLink "TablatureLaw" (158 : Nat) ({ cls := "Tablature", name := "meanEffort", desc := "()D" } : Jvm.MethodName)) ∈ xWA := wd2 143 rfl rfl
theorem s_Law_158 : xVi "TablatureLaw" 158 7 m_Tab_meanEffort 0 := ⟨ok_Tab_meanEffort, w_747, w_745, w_746, TX8, 8, rfl⟩
theorem w_748 : (Jvm.Cond.code ({ cls := "TablatureModel", name := "meanEffort", desc := "()D" } : Jvm.MethodName) prog_11_method_52_code (4 : Nat) (Option.some Jvm.ClassFile.FieldType.double)) ∈ xWA := wd5 139 rfl rfl
theorem ok_Model_meanEffort : xOk "" m_Model_meanEffort 0 := ⟨w_748, w_264, ⟨by decide +kernel, by decide +kernel⟩, by decide +kernel⟩
theorem w_749 : (Jvm.Cond.instanceMethod ({ cls := "TablatureModel", name := "meanEffort", desc := "()D" } : Jvm.MethodName)) ∈ xWA := wd5 137 rfl rfl
theorem w_750 : (Jvm.Cond.selects "TablatureModel" ({ cls := "TablatureModel", name := "meanEffort", desc := "()D" } : Jvm.MethodName) ({ cls := "TablatureModel", name := "meanEffort", desc := "()D" } : Jvm.MethodName)) ∈ xWA := wd5 138 rfl rfl
theorem w_751 : (Jvm.Cond.methodLink "TablatureLaw" (162 : Nat) ({ cls := "TablatureModel", name := "meanEffort", desc := "()D" } : Jvm.MethodName)) ∈ xWA := wd5 136 rfl rfl
theorem s_Law_162 : xVi "TablatureLaw" 162 8 m_Model_meanEffort 0 := ⟨ok_Model_meanEffort, w_751, w_749, w_750, TX9, 16, rfl⟩
theorem w_752 : (Jvm.Cond.methodLink "TablatureLaw" (163 : Nat) ({ cls := "TablatureLaw", name := "shapes", desc := "(LTablature;III[J)I" } : Jvm.MethodName)) ∈ xWA := wd4 73 rfl rfl
theorem s_Law_163 : (Jvm.Cond.methodLink "TablatureLaw" (163 : Nat) ({ cls := "TablatureLaw", name := "shapes", desc := "(LTablature;III[J)I" } : Jvm.MethodName)) ∈ xWA := w_752
theorem w_753 : (Jvm.Cond.code ({ cls := "TablatureModel", name := "shapes", desc := "(III)I" } : Jvm.MethodName) prog_11_method_58_code (4 : Nat) (Option.some Jvm.ClassFile.FieldType.int)) ∈ xWA := wd5 143 rfl rfl
theorem ok_Model_shapes : xOk "" m_Model_shapes 3 := ⟨w_753, w_264, ⟨by decide +kernel, by decide +kernel⟩, by decide +kernel⟩
theorem w_754 : (Jvm.Cond.instanceMethod ({ cls := "TablatureModel", name := "shapes", desc := "(III)I" } : Jvm.MethodName)) ∈ xWA := wd5 141 rfl rfl
theorem w_755 : (Jvm.Cond.selects "TablatureModel" ({ cls := "TablatureModel", name := "shapes", desc := "(III)I" } : Jvm.MethodName) ({ cls := "TablatureModel", name := "shapes", desc := "(III)I" } : Jvm.MethodName)) ∈ xWA := wd5 142 rfl rfl
theorem w_756 : (Jvm.Cond.methodLink "TablatureLaw" (165 : Nat) ({ cls := "TablatureModel", name := "shapes", desc := "(III)I" } : Jvm.MethodName)) ∈ xWA := wd5 140 rfl rfl
theorem s_Law_165 : xVi "TablatureLaw" 165 8 m_Model_shapes 3 := ⟨ok_Model_shapes, w_756, w_754, w_755, TX9, 16, rfl⟩
theorem w_757 : (Jvm.Cond.methodLink "TablatureLaw" (166 : Nat) ({ cls := "TablatureLaw", name := "shapeEffort", desc := "(LTablature;III[J)I" } : Jvm.MethodName)) ∈ xWA := wd4 87 rfl rfl
theorem s_Law_166 : (Jvm.Cond.methodLink "TablatureLaw" (166 : Nat) ({ cls := "TablatureLaw", name := "shapeEffort", desc := "(LTablature;III[J)I" } : Jvm.MethodName)) ∈ xWA := w_757
theorem w_758 : (Jvm.Cond.code ({ cls := "TablatureModel", name := "shapeEffort", desc := "(III)I" } : Jvm.MethodName) prog_11_method_59_code (4 : Nat) (Option.some Jvm.ClassFile.FieldType.int)) ∈ xWA := wd5 166 rfl rfl
theorem ok_Model_shapeEffort : xOk "" m_Model_shapeEffort 3 := ⟨w_758, w_264, ⟨by decide +kernel, by decide +kernel⟩, by decide +kernel⟩
theorem w_759 : (Jvm.Cond.instanceMethod ({ cls := "TablatureModel", name := "shapeEffort", desc := "(III)I" } : Jvm.MethodName)) ∈ xWA := wd5 164 rfl rfl
theorem w_760 : (Jvm.Cond.selects "TablatureModel" ({ cls := "TablatureModel", name := "shapeEffort", desc := "(III)I" } : Jvm.MethodName) ({ cls := "TablatureModel", name := "shapeEffort", desc := "(III)I" } : Jvm.MethodName)) ∈ xWA := wd5 165 rfl rfl
theorem w_761 : (Jvm.Cond.methodLink "TablatureLaw" (168 : Nat) ({ cls := "TablatureModel", name := "shapeEffort", desc := "(III)I" } : Jvm.MethodName)) ∈ xWA := wd5 163 rfl rfl
theorem s_Law_168 : xVi "TablatureLaw" 168 8 m_Model_shapeEffort 3 := ⟨ok_Model_shapeEffort, w_761, w_759, w_760, TX9, 16, rfl⟩
theorem w_762 : (Jvm.Cond.methodLink "TablatureLaw" (169 : Nat) ({ cls := "TablatureLaw", name := "shapeFret", desc := "(LTablature;IIII[J)I" } : Jvm.MethodName)) ∈ xWA := wd4 94 rfl rfl
theorem s_Law_169 : (Jvm.Cond.methodLink "TablatureLaw" (169 : Nat) ({ cls := "TablatureLaw", name := "shapeFret", desc := "(LTablature;IIII[J)I" } : Jvm.MethodName)) ∈ xWA := w_762
theorem w_763 : (Jvm.Cond.code ({ cls := "TablatureModel", name := "shapeFret", desc := "(IIII)I" } : Jvm.MethodName) prog_11_method_60_code (5 : Nat) (Option.some Jvm.ClassFile.FieldType.int)) ∈ xWA := wd5 170 rfl rfl
theorem ok_Model_shapeFret : xOk "" m_Model_shapeFret 4 := ⟨w_763, w_264, ⟨by decide +kernel, by decide +kernel⟩, by decide +kernel⟩
theorem w_764 : (Jvm.Cond.instanceMethod ({ cls := "TablatureModel", name := "shapeFret", desc := "(IIII)I" } : Jvm.MethodName)) ∈ xWA := wd5 168 rfl rfl
theorem w_765 : (Jvm.Cond.selects "TablatureModel" ({ cls := "TablatureModel", name := "shapeFret", desc := "(IIII)I" } : Jvm.MethodName) ({ cls := "TablatureModel", name := "shapeFret", desc := "(IIII)I" } : Jvm.MethodName)) ∈ xWA := wd5 169 rfl rfl
theorem w_766 : (Jvm.Cond.methodLink "TablatureLaw" (172 : Nat) ({ cls := "TablatureModel", name := "shapeFret", desc := "(IIII)I" } : Jvm.MethodName)) ∈ xWA := wd5 167 rfl rfl
theorem s_Law_172 : xVi "TablatureLaw" 172 8 m_Model_shapeFret 4 := ⟨ok_Model_shapeFret, w_766, w_764, w_765, TX9, 16, rfl⟩
theorem w_767 : (Jvm.Cond.methodLink "TablatureLaw" (173 : Nat) ({ cls := "TablatureLaw", name := "totalWith", desc := "(LTablature;II[J)I" } : Jvm.MethodName)) ∈ xWA := wd4 106 rfl rfl
theorem s_Law_173 : (Jvm.Cond.methodLink "TablatureLaw" (173 : Nat) ({ cls := "TablatureLaw", name := "totalWith", desc := "(LTablature;II[J)I" } : Jvm.MethodName)) ∈ xWA := w_767
theorem w_768 : (Jvm.Cond.code ({ cls := "TablatureModel", name := "totalWith", desc := "(II)I" } : Jvm.MethodName) prog_11_method_62_code (3 : Nat) (Option.some Jvm.ClassFile.FieldType.int)) ∈ xWA := wd5 174 rfl rfl
theorem ok_Model_totalWith : xOk "" m_Model_totalWith 2 := ⟨w_768, w_264, ⟨by decide +kernel, by decide +kernel⟩, by decide +kernel⟩
theorem w_769 : (Jvm.Cond.instanceMethod ({ cls := "TablatureModel", name := "totalWith", desc := "(II)I" } : Jvm.MethodName)) ∈ xWA := wd5 172 rfl rfl
theorem w_770 : (Jvm.Cond.selects "TablatureModel" ({ cls := "TablatureModel", name := "totalWith", desc := "(II)I" } : Jvm.MethodName) ({ cls := "TablatureModel", name := "totalWith", desc := "(II)I" } : Jvm.MethodName)) ∈ xWA := wd5 173 rfl rfl
theorem w_771 : (Jvm.Cond.methodLink "TablatureLaw" (175 : Nat) ({ cls := "TablatureModel", name := "totalWith", desc := "(II)I" } : Jvm.MethodName)) ∈ xWA := wd5 171 rfl rfl
theorem s_Law_175 : xVi "TablatureLaw" 175 8 m_Model_totalWith 2 := ⟨ok_Model_totalWith, w_771, w_769, w_770, TX9, 16, rfl⟩
theorem w_772 : (Jvm.Cond.methodLink "TablatureLaw" (176 : Nat) ({ cls := "Tablature", name := "bestCapo", desc := "()I" } : Jvm.MethodName)) ∈ xWA := wd2 151 rfl rfl
theorem s_Law_176 : xVi "TablatureLaw" 176 7 m_Tab_bestCapo 0 := ⟨ok_Tab_bestCapo, w_772, w_181, w_182, TX8, 8, rfl⟩
theorem w_773 : (Jvm.Cond.code ({ cls := "TablatureModel", name := "bestCapo", desc := "()I" } : Jvm.MethodName) prog_11_method_64_code (1 : Nat) (Option.some Jvm.ClassFile.FieldType.int)) ∈ xWA := wd5 182 rfl rfl
theorem ok_Model_bestCapo : xOk "" m_Model_bestCapo 0 := ⟨w_773, w_264, ⟨by decide +kernel, by decide +kernel⟩, by decide +kernel⟩
theorem w_774 : (Jvm.Cond.instanceMethod ({ cls := "TablatureModel", name := "bestCapo", desc := "()I" } : Jvm.MethodName)) ∈ xWA := wd5 180 rfl rfl
theorem w_775 : (Jvm.Cond.selects "TablatureModel" ({ cls := "TablatureModel", name := "bestCapo", desc := "()I" } : Jvm.MethodName) ({ cls := "TablatureModel", name := "bestCapo", desc := "()I" } : Jvm.MethodName)) ∈ xWA := wd5 181 rfl rfl
theorem w_776 : (Jvm.Cond.methodLink "TablatureLaw" (179 : Nat) ({ cls := "TablatureModel", name := "bestCapo", desc := "()I" } : Jvm.MethodName)) ∈ xWA := wd5 179 rfl rfl
theorem s_Law_179 : xVi "TablatureLaw" 179 8 m_Model_bestCapo 0 := ⟨ok_Model_bestCapo, w_776, w_774, w_775, TX9, 16, rfl⟩
theorem w_777 : (Jvm.Cond.methodLink "TablatureLaw" (180 : Nat) ({ cls := "TablatureLaw", name := "totalWithout", desc := "(LTablature;I[J)I" } : Jvm.MethodName)) ∈ xWA := wd4 113 rfl rfl
theorem s_Law_180 : (Jvm.Cond.methodLink "TablatureLaw" (180 : Nat) ({ cls := "TablatureLaw", name := "totalWithout", desc := "(LTablature;I[J)I" } : Jvm.MethodName)) ∈ xWA := w_777
theorem w_778 : (Jvm.Cond.code ({ cls := "TablatureModel", name := "totalWithout", desc := "(I)I" } : Jvm.MethodName) prog_11_method_66_code (2 : Nat) (Option.some Jvm.ClassFile.FieldType.int)) ∈ xWA := wd5 190 rfl rfl
theorem ok_Model_totalWithout : xOk "" m_Model_totalWithout 1 := ⟨w_778, w_264, ⟨by decide +kernel, by decide +kernel⟩, by decide +kernel⟩
theorem w_779 : (Jvm.Cond.instanceMethod ({ cls := "TablatureModel", name := "totalWithout", desc := "(I)I" } : Jvm.MethodName)) ∈ xWA := wd5 188 rfl rfl
theorem w_780 : (Jvm.Cond.selects "TablatureModel" ({ cls := "TablatureModel", name := "totalWithout", desc := "(I)I" } : Jvm.MethodName) ({ cls := "TablatureModel", name := "totalWithout", desc := "(I)I" } : Jvm.MethodName)) ∈ xWA := wd5 189 rfl rfl
theorem w_781 : (Jvm.Cond.methodLink "TablatureLaw" (182 : Nat) ({ cls := "TablatureModel", name := "totalWithout", desc := "(I)I" } : Jvm.MethodName)) ∈ xWA := wd5 187 rfl rfl
theorem s_Law_182 : xVi "TablatureLaw" 182 8 m_Model_totalWithout 1 := ⟨ok_Model_totalWithout, w_781, w_779, w_780, TX9, 16, rfl⟩
theorem w_782 : (Jvm.Cond.methodLink "TablatureLaw" (183 : Nat) ({ cls := "TablatureLaw", name := "totalFixed", desc := "(LTablature;II[J)I" } : Jvm.MethodName)) ∈ xWA := wd4 117 rfl rfl
theorem s_Law_183 : (Jvm.Cond.methodLink "TablatureLaw" (183 : Nat) ({ cls := "TablatureLaw", name := "totalFixed", desc := "(LTablature;II[J)I" } : Jvm.MethodName)) ∈ xWA := w_782
theorem w_783 : (Jvm.Cond.code ({ cls := "TablatureModel", name := "totalFixed", desc := "(II)I" } : Jvm.MethodName) prog_11_method_67_code (7 : Nat) (Option.some Jvm.ClassFile.FieldType.int)) ∈ xWA := wd5 198 rfl rfl
theorem ok_Model_totalFixed : xOk "" m_Model_totalFixed 2 := ⟨w_783, w_264, ⟨by decide +kernel, by decide +kernel⟩, by decide +kernel⟩
theorem w_784 : (Jvm.Cond.instanceMethod ({ cls := "TablatureModel", name := "totalFixed", desc := "(II)I" } : Jvm.MethodName)) ∈ xWA := wd5 196 rfl rfl
theorem w_785 : (Jvm.Cond.selects "TablatureModel" ({ cls := "TablatureModel", name := "totalFixed", desc := "(II)I" } : Jvm.MethodName) ({ cls := "TablatureModel", name := "totalFixed", desc := "(II)I" } : Jvm.MethodName)) ∈ xWA := wd5 197 rfl rfl
theorem w_786 : (Jvm.Cond.methodLink "TablatureLaw" (185 : Nat) ({ cls := "TablatureModel", name := "totalFixed", desc := "(II)I" } : Jvm.MethodName)) ∈ xWA := wd5 195 rfl rfl
theorem s_Law_185 : xVi "TablatureLaw" 185 8 m_Model_totalFixed 2 := ⟨ok_Model_totalFixed, w_786, w_784, w_785, TX9, 16, rfl⟩
theorem w_787 : (Jvm.Cond.code ({ cls := "Tablature", name := "digest", desc := "()J" } : Jvm.MethodName) prog_1_method_28_code (4 : Nat) (Option.some Jvm.ClassFile.FieldType.long)) ∈ xWA := wd2 166 rfl rfl
theorem ok_Tab_digest : xOk "" m_Tab_digest 0 := ⟨w_787, w_36, ⟨by decide +kernel, by decide +kernel⟩, by decide +kernel⟩
theorem w_788 : (Jvm.Cond.instanceMethod ({ cls := "Tablature", name := "digest", desc := "()J" } : Jvm.MethodName)) ∈ xWA := wd2 164 rfl rfl
theorem w_789 : (Jvm.Cond.selects "Tablature" ({ cls := "Tablature", name := "digest", desc := "()J" } : Jvm.MethodName) ({ cls := "Tablature", name := "digest", desc := "()J" } : Jvm.MethodName)) ∈ xWA := wd2 165 rfl rfl
theorem w_790 : (Jvm.Cond.methodLink "TablatureLaw" (186 : Nat) ({ cls := "Tablature", name := "digest", desc := "()J" } : Jvm.MethodName)) ∈ xWA := wd2 163 rfl rfl
theorem s_Law_186 : xVi "TablatureLaw" 186 7 m_Tab_digest 0 := ⟨ok_Tab_digest, w_790, w_788, w_789, TX8, 8, rfl⟩
theorem w_791 : (Jvm.Cond.code ({ cls := "TablatureModel", name := "digest", desc := "()J" } : Jvm.MethodName) prog_11_method_68_code (7 : Nat) (Option.some Jvm.ClassFile.FieldType.long)) ∈ xWA := wd5 202 rfl rfl
theorem ok_Model_digest : xOk "" m_Model_digest 0 := ⟨w_791, w_264, ⟨by decide +kernel, by decide +kernel⟩, by decide +kernel⟩
theorem w_792 : (Jvm.Cond.instanceMethod ({ cls := "TablatureModel", name := "digest", desc := "()J" } : Jvm.MethodName)) ∈ xWA := wd5 200 rfl rfl
theorem w_793 : (Jvm.Cond.selects "TablatureModel" ({ cls := "TablatureModel", name := "digest", desc := "()J" } : Jvm.MethodName) ({ cls := "TablatureModel", name := "digest", desc := "()J" } : Jvm.MethodName)) ∈ xWA := wd5 201 rfl rfl
theorem w_794 : (Jvm.Cond.methodLink "TablatureLaw" (190 : Nat) ({ cls := "TablatureModel", name := "digest", desc := "()J" } : Jvm.MethodName)) ∈ xWA := wd5 199 rfl rfl
theorem s_Law_190 : xVi "TablatureLaw" 190 8 m_Model_digest 0 := ⟨ok_Model_digest, w_794, w_792, w_793, TX9, 16, rfl⟩
theorem w_795 : (Jvm.Cond.constant "java/lang/Integer" (265 : Nat) (1431655765 : Int32)) ∈ xWA := wd2 132 rfl rfl
theorem k_Integer_265 : (Jvm.Cond.constant "java/lang/Integer" (265 : Nat) (1431655765 : Int32)) ∈ xWA := w_795
theorem w_796 : (Jvm.Cond.constant "java/lang/Integer" (266 : Nat) (858993459 : Int32)) ∈ xWA := wd2 133 rfl rfl
theorem k_Integer_266 : (Jvm.Cond.constant "java/lang/Integer" (266 : Nat) (858993459 : Int32)) ∈ xWA := w_796
theorem w_797 : (Jvm.Cond.constant "java/lang/Integer" (267 : Nat) (252645135 : Int32)) ∈ xWA := wd2 134 rfl rfl
theorem k_Integer_267 : (Jvm.Cond.constant "java/lang/Integer" (267 : Nat) (252645135 : Int32)) ∈ xWA := w_797
theorem w_798 : (Jvm.Cond.instanceMethod ({ cls := "java/lang/Object", name := "<init>", desc := "()V" } : Jvm.MethodName)) ∈ xWA := wd1 26 rfl rfl
theorem o_inst : (Jvm.Cond.instanceMethod ({ cls := "java/lang/Object", name := "<init>", desc := "()V" } : Jvm.MethodName)) ∈ xWA := w_798
theorem w_799 : (Jvm.Cond.code ({ cls := "java/lang/Object", name := "<init>", desc := "()V" } : Jvm.MethodName) object_method_1_code (1 : Nat) (Option.none : Option Jvm.ClassFile.FieldType)) ∈ xWA := wd1 27 rfl rfl
theorem o_code : (Jvm.Cond.code ({ cls := "java/lang/Object", name := "<init>", desc := "()V" } : Jvm.MethodName) object_method_1_code (1 : Nat) (Option.none : Option Jvm.ClassFile.FieldType)) ∈ xWA := w_799
theorem w_800 : (Jvm.Cond.initialized "java/lang/Math") ∈ xWA := wd1 16 rfl rfl
theorem i_Math : (Jvm.Cond.initialized "java/lang/Math") ∈ xWA := w_800
theorem w_801 : (Jvm.Cond.initialized "java/lang/System") ∈ xWA := wd1 19 rfl rfl
theorem i_System : (Jvm.Cond.initialized "java/lang/System") ∈ xWA := w_801
theorem w_802 : (Jvm.Cond.static ({ cls := "java/lang/Math", name := "min", desc := "(II)I" } : Jvm.MethodName)) ∈ xWA := wd2 41 rfl rfl
theorem static_Math_min : (Jvm.Cond.static ({ cls := "java/lang/Math", name := "min", desc := "(II)I" } : Jvm.MethodName)) ∈ xWA := w_802
theorem w_803 : (Jvm.Cond.code ({ cls := "java/lang/Math", name := "min", desc := "(II)I" } : Jvm.MethodName) prog_17_method_69_code (2 : Nat) (Option.some Jvm.ClassFile.FieldType.int)) ∈ xWA := wd2 42 rfl rfl
theorem code_Math_min : (Jvm.Cond.code ({ cls := "java/lang/Math", name := "min", desc := "(II)I" } : Jvm.MethodName) prog_17_method_69_code (2 : Nat) (Option.some Jvm.ClassFile.FieldType.int)) ∈ xWA := w_803
theorem w_804 : (Jvm.Cond.static ({ cls := "java/lang/Math", name := "abs", desc := "(I)I" } : Jvm.MethodName)) ∈ xWA := wd2 127 rfl rfl
theorem static_Math_abs : (Jvm.Cond.static ({ cls := "java/lang/Math", name := "abs", desc := "(I)I" } : Jvm.MethodName)) ∈ xWA := w_804
theorem w_805 : (Jvm.Cond.code ({ cls := "java/lang/Math", name := "abs", desc := "(I)I" } : Jvm.MethodName) prog_17_method_59_code (1 : Nat) (Option.some Jvm.ClassFile.FieldType.int)) ∈ xWA := wd2 128 rfl rfl
theorem code_Math_abs : (Jvm.Cond.code ({ cls := "java/lang/Math", name := "abs", desc := "(I)I" } : Jvm.MethodName) prog_17_method_59_code (1 : Nat) (Option.some Jvm.ClassFile.FieldType.int)) ∈ xWA := w_805
theorem w_806 : (Jvm.Cond.static ({ cls := "java/lang/Math", name := "max", desc := "(II)I" } : Jvm.MethodName)) ∈ xWA := wd2 207 rfl rfl
theorem static_Math_max : (Jvm.Cond.static ({ cls := "java/lang/Math", name := "max", desc := "(II)I" } : Jvm.MethodName)) ∈ xWA := w_806
theorem w_807 : (Jvm.Cond.code ({ cls := "java/lang/Math", name := "max", desc := "(II)I" } : Jvm.MethodName) prog_17_method_65_code (2 : Nat) (Option.some Jvm.ClassFile.FieldType.int)) ∈ xWA := wd2 208 rfl rfl
theorem code_Math_max : (Jvm.Cond.code ({ cls := "java/lang/Math", name := "max", desc := "(II)I" } : Jvm.MethodName) prog_17_method_65_code (2 : Nat) (Option.some Jvm.ClassFile.FieldType.int)) ∈ xWA := w_807
theorem w_808 : (Jvm.Cond.static ({ cls := "java/lang/System", name := "arraycopy", desc := "(Ljava/lang/Object;ILjava/lang/Object;II)V" } : Jvm.MethodName)) ∈ xWA := wd5 56 rfl rfl
theorem static_System_arraycopy : (Jvm.Cond.static ({ cls := "java/lang/System", name := "arraycopy", desc := "(Ljava/lang/Object;ILjava/lang/Object;II)V" } : Jvm.MethodName)) ∈ xWA := w_808
theorem w_809 : (Jvm.Cond.native ({ cls := "java/lang/System", name := "arraycopy", desc := "(Ljava/lang/Object;ILjava/lang/Object;II)V" } : Jvm.MethodName)) ∈ xWA := wd5 57 rfl rfl
theorem native_System_arraycopy : (Jvm.Cond.native ({ cls := "java/lang/System", name := "arraycopy", desc := "(Ljava/lang/Object;ILjava/lang/Object;II)V" } : Jvm.MethodName)) ∈ xWA := w_809
-- (Jvm.Cond.arrayClass Jvm.ClassFile.FieldType.int)
theorem arrayClass_int : (Jvm.Cond.arrayClass Jvm.ClassFile.FieldType.int) ∈ xWA := wd1 58 rfl rfl
-- (Jvm.Cond.arrayClass Jvm.ClassFile.FieldType.boolean)
theorem arrayClass_boolean : (Jvm.Cond.arrayClass Jvm.ClassFile.FieldType.boolean) ∈ xWA := wd1 59 rfl rfl
-- (Jvm.Cond.arrayClass Jvm.ClassFile.FieldType.byte)
theorem arrayClass_byte : (Jvm.Cond.arrayClass Jvm.ClassFile.FieldType.byte) ∈ xWA := wd3 62 rfl rfl
-- (Jvm.Cond.arrayClass Jvm.ClassFile.FieldType.long)
theorem arrayClass_long : (Jvm.Cond.arrayClass Jvm.ClassFile.FieldType.long) ∈ xWA := wd5 205 rfl rfl
