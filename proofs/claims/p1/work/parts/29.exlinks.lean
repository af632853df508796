theorem wk_107 : (Jvm.Cond.classLink "Tablature" (107 : Nat) "java/lang/IllegalArgumentException") ∈ xWA := wd3 109 rfl rfl
theorem wi_IllegalArgumentException : (Jvm.Cond.initialized "java/lang/IllegalArgumentException") ∈ xWA := wd1 13 rfl rfl
set_option maxRecDepth 100000 in
theorem wt0_111 : ∀ w ∈ (vx_atS "Tablature" 111 "java/lang/IllegalArgumentException" ["java/lang/RuntimeException", "java/lang/Exception"]).filter goodWord, w ∈ lw_tbl := by decide +kernel
theorem wt_111 : ∀ w ∈ (vx_atS "Tablature" 111 "java/lang/IllegalArgumentException" ["java/lang/RuntimeException", "java/lang/Exception"]).filter goodWord, w ∈ xWA := fun w hw => xWA_in (wt0_111 w hw) (List.mem_filter.mp hw).2
set_option maxRecDepth 100000 in
theorem wu_111 : ∀ w ∈ (vx_atS "Tablature" 111 "java/lang/IllegalArgumentException" ["java/lang/RuntimeException", "java/lang/Exception"]).filter (fun w => !goodWord w), w ∈ xNG "java/lang/IllegalArgumentException" := by decide +kernel
theorem wk_317 : (Jvm.Cond.classLink "Tablature" (317 : Nat) "java/lang/IndexOutOfBoundsException") ∈ xWA := wd2 235 rfl rfl
theorem wi_IndexOutOfBoundsException : (Jvm.Cond.initialized "java/lang/IndexOutOfBoundsException") ∈ xWA := wd1 15 rfl rfl
set_option maxRecDepth 100000 in
theorem wt0_321 : ∀ w ∈ (vx_atS "Tablature" 321 "java/lang/IndexOutOfBoundsException" ["java/lang/RuntimeException", "java/lang/Exception"]).filter goodWord, w ∈ lw_tbl := by decide +kernel
theorem wt_321 : ∀ w ∈ (vx_atS "Tablature" 321 "java/lang/IndexOutOfBoundsException" ["java/lang/RuntimeException", "java/lang/Exception"]).filter goodWord, w ∈ xWA := fun w hw => xWA_in (wt0_321 w hw) (List.mem_filter.mp hw).2
set_option maxRecDepth 100000 in
theorem wu_321 : ∀ w ∈ (vx_atS "Tablature" 321 "java/lang/IndexOutOfBoundsException" ["java/lang/RuntimeException", "java/lang/Exception"]).filter (fun w => !goodWord w), w ∈ xNG "java/lang/IndexOutOfBoundsException" := by decide +kernel
abbrev m_Law_string : xM := (⟨"TablatureLaw", "string", "(LTablature;I[J)I"⟩, method_3_code, 4, (some .int))
abbrev hh_string : List (Nat × Nat × Nat × Nat) := [(0, 9, 12, 13), (0, 9, 15, 15)]
theorem wl_Law_13 : (Jvm.Cond.classLink "TablatureLaw" (13 : Nat) "java/lang/IllegalArgumentException") ∈ xWA := wd3 100 rfl rfl
theorem wl_Law_15 : (Jvm.Cond.classLink "TablatureLaw" (15 : Nat) "java/lang/IllegalStateException") ∈ xWA := wd3 101 rfl rfl
theorem sh_91 : xSH "TablatureLaw" 91 m_Law_string hh_string 3 := ⟨⟨wd3 99 rfl rfl, wd1 0 rfl rfl, ⟨by decide +kernel, by decide +kernel⟩, by decide +kernel⟩, wd3 97 rfl rfl, wd3 98 rfl rfl⟩
abbrev m_Law_tune : xM := (⟨"TablatureLaw", "tune", "(LTablature;II[J)I"⟩, method_4_code, 5, (some .int))
abbrev hh_tune : List (Nat × Nat × Nat × Nat) := [(0, 10, 13, 21), (0, 10, 17, 13)]
theorem wl_Law_21 : (Jvm.Cond.classLink "TablatureLaw" (21 : Nat) "java/lang/IndexOutOfBoundsException") ∈ xWA := wd3 156 rfl rfl
theorem sh_101 : xSH "TablatureLaw" 101 m_Law_tune hh_tune 4 := ⟨⟨wd3 155 rfl rfl, wd1 0 rfl rfl, ⟨by decide +kernel, by decide +kernel⟩, by decide +kernel⟩, wd3 153 rfl rfl, wd3 154 rfl rfl⟩
abbrev m_Law_slacken : xM := (⟨"TablatureLaw", "slacken", "(LTablature;IZ[J)I"⟩, method_5_code, 5, (some .int))
abbrev hh_slacken : List (Nat × Nat × Nat × Nat) := [(0, 10, 13, 21)]
theorem sh_105 : xSH "TablatureLaw" 105 m_Law_slacken hh_slacken 4 := ⟨⟨wd3 163 rfl rfl, wd1 0 rfl rfl, ⟨by decide +kernel, by decide +kernel⟩, by decide +kernel⟩, wd3 161 rfl rfl, wd3 162 rfl rfl⟩
abbrev m_Law_capo : xM := (⟨"TablatureLaw", "capo", "(LTablature;I[J)I"⟩, method_6_code, 4, (some .int))
abbrev hh_capo : List (Nat × Nat × Nat × Nat) := [(0, 9, 12, 13)]
theorem sh_109 : xSH "TablatureLaw" 109 m_Law_capo hh_capo 3 := ⟨⟨wd3 170 rfl rfl, wd1 0 rfl rfl, ⟨by decide +kernel, by decide +kernel⟩, by decide +kernel⟩, wd3 168 rfl rfl, wd3 169 rfl rfl⟩
abbrev m_Law_reach : xM := (⟨"TablatureLaw", "reach", "(LTablature;I[J)I"⟩, method_7_code, 4, (some .int))
abbrev hh_reach : List (Nat × Nat × Nat × Nat) := [(0, 9, 12, 13)]
theorem sh_112 : xSH "TablatureLaw" 112 m_Law_reach hh_reach 3 := ⟨⟨wd3 181 rfl rfl, wd1 0 rfl rfl, ⟨by decide +kernel, by decide +kernel⟩, by decide +kernel⟩, wd3 179 rfl rfl, wd3 180 rfl rfl⟩
abbrev m_Law_fretOf : xM := (⟨"TablatureLaw", "fretOf", "(LTablature;II[J)I"⟩, method_8_code, 5, (some .int))
abbrev hh_fretOf : List (Nat × Nat × Nat × Nat) := [(0, 10, 13, 21), (0, 10, 17, 13)]
theorem sh_115 : xSH "TablatureLaw" 115 m_Law_fretOf hh_fretOf 4 := ⟨⟨wd3 192 rfl rfl, wd1 0 rfl rfl, ⟨by decide +kernel, by decide +kernel⟩, by decide +kernel⟩, wd3 190 rfl rfl, wd3 191 rfl rfl⟩
abbrev m_Law_chord : xM := (⟨"TablatureLaw", "chord", "(LTablature;IIIII[J)I"⟩, method_9_code, 8, (some .int))
abbrev hh_chord : List (Nat × Nat × Nat × Nat) := [(0, 16, 19, 13), (0, 16, 23, 15)]
theorem sh_118 : xSH "TablatureLaw" 118 m_Law_chord hh_chord 7 := ⟨⟨wd3 204 rfl rfl, wd1 0 rfl rfl, ⟨by decide +kernel, by decide +kernel⟩, by decide +kernel⟩, wd3 202 rfl rfl, wd3 203 rfl rfl⟩
abbrev m_Law_strike : xM := (⟨"TablatureLaw", "strike", "(LTablature;I[J)I"⟩, method_10_code, 4, (some .int))
abbrev hh_strike : List (Nat × Nat × Nat × Nat) := [(0, 9, 12, 21)]
theorem sh_122 : xSH "TablatureLaw" 122 m_Law_strike hh_strike 3 := ⟨⟨wd3 233 rfl rfl, wd1 0 rfl rfl, ⟨by decide +kernel, by decide +kernel⟩, by decide +kernel⟩, wd3 231 rfl rfl, wd3 232 rfl rfl⟩
abbrev m_Law_fix : xM := (⟨"TablatureLaw", "fix", "(LTablature;II[J)I"⟩, method_11_code, 5, (some .int))
abbrev hh_fix : List (Nat × Nat × Nat × Nat) := [(0, 10, 13, 21)]
theorem sh_125 : xSH "TablatureLaw" 125 m_Law_fix hh_fix 4 := ⟨⟨wd4 9 rfl rfl, wd1 0 rfl rfl, ⟨by decide +kernel, by decide +kernel⟩, by decide +kernel⟩, wd4 7 rfl rfl, wd4 8 rfl rfl⟩
abbrev m_Law_ofChord : xM := (⟨"TablatureLaw", "ofChord", "(LTablature;II[J)I"⟩, method_12_code, 5, (some .int))
abbrev hh_ofChord : List (Nat × Nat × Nat × Nat) := [(0, 10, 13, 21), (0, 10, 17, 13)]
theorem sh_128 : xSH "TablatureLaw" 128 m_Law_ofChord hh_ofChord 4 := ⟨⟨wd4 21 rfl rfl, wd1 0 rfl rfl, ⟨by decide +kernel, by decide +kernel⟩, by decide +kernel⟩, wd4 19 rfl rfl, wd4 20 rfl rfl⟩
abbrev m_Law_ofGrip : xM := (⟨"TablatureLaw", "ofGrip", "(LTablature;III[J)I"⟩, method_13_code, 6, (some .int))
abbrev hh_ofGrip : List (Nat × Nat × Nat × Nat) := [(0, 12, 15, 21), (0, 12, 19, 13)]
theorem sh_131 : xSH "TablatureLaw" 131 m_Law_ofGrip hh_ofGrip 5 := ⟨⟨wd4 32 rfl rfl, wd1 0 rfl rfl, ⟨by decide +kernel, by decide +kernel⟩, by decide +kernel⟩, wd4 30 rfl rfl, wd4 31 rfl rfl⟩
abbrev m_Law_fret : xM := (⟨"TablatureLaw", "fret", "(LTablature;III[J)I"⟩, method_14_code, 6, (some .int))
abbrev hh_fret : List (Nat × Nat × Nat × Nat) := [(0, 12, 15, 21)]
theorem sh_135 : xSH "TablatureLaw" 135 m_Law_fret hh_fret 5 := ⟨⟨wd4 39 rfl rfl, wd1 0 rfl rfl, ⟨by decide +kernel, by decide +kernel⟩, by decide +kernel⟩, wd4 37 rfl rfl, wd4 38 rfl rfl⟩
abbrev m_Law_finger : xM := (⟨"TablatureLaw", "finger", "(LTablature;III[J)I"⟩, method_15_code, 6, (some .int))
abbrev hh_finger : List (Nat × Nat × Nat × Nat) := [(0, 12, 15, 21)]
theorem sh_138 : xSH "TablatureLaw" 138 m_Law_finger hh_finger 5 := ⟨⟨wd4 46 rfl rfl, wd1 0 rfl rfl, ⟨by decide +kernel, by decide +kernel⟩, by decide +kernel⟩, wd4 44 rfl rfl, wd4 45 rfl rfl⟩
abbrev m_Law_move : xM := (⟨"TablatureLaw", "move", "(LTablature;III[J)I"⟩, method_16_code, 6, (some .int))
abbrev hh_move : List (Nat × Nat × Nat × Nat) := [(0, 12, 15, 21)]
theorem sh_141 : xSH "TablatureLaw" 141 m_Law_move hh_move 5 := ⟨⟨wd4 53 rfl rfl, wd1 0 rfl rfl, ⟨by decide +kernel, by decide +kernel⟩, by decide +kernel⟩, wd4 51 rfl rfl, wd4 52 rfl rfl⟩
abbrev m_Law_plan : xM := (⟨"TablatureLaw", "plan", "(LTablature;I[J)I"⟩, method_17_code, 4, (some .int))
abbrev hh_plan : List (Nat × Nat × Nat × Nat) := [(0, 9, 12, 21)]
theorem sh_144 : xSH "TablatureLaw" 144 m_Law_plan hh_plan 3 := ⟨⟨wd4 61 rfl rfl, wd1 0 rfl rfl, ⟨by decide +kernel, by decide +kernel⟩, by decide +kernel⟩, wd4 59 rfl rfl, wd4 60 rfl rfl⟩
abbrev m_Law_many : xM := (⟨"TablatureLaw", "many", "(LTablature;I[J)I"⟩, method_18_code, 4, (some .int))
abbrev hh_many : List (Nat × Nat × Nat × Nat) := [(0, 9, 12, 13)]
theorem sh_155 : xSH "TablatureLaw" 155 m_Law_many hh_many 3 := ⟨⟨wd4 68 rfl rfl, wd1 0 rfl rfl, ⟨by decide +kernel, by decide +kernel⟩, by decide +kernel⟩, wd4 66 rfl rfl, wd4 67 rfl rfl⟩
abbrev m_Law_shapes : xM := (⟨"TablatureLaw", "shapes", "(LTablature;III[J)I"⟩, method_19_code, 6, (some .int))
abbrev hh_shapes : List (Nat × Nat × Nat × Nat) := [(0, 12, 15, 13)]
theorem sh_163 : xSH "TablatureLaw" 163 m_Law_shapes hh_shapes 5 := ⟨⟨wd4 75 rfl rfl, wd1 0 rfl rfl, ⟨by decide +kernel, by decide +kernel⟩, by decide +kernel⟩, wd4 73 rfl rfl, wd4 74 rfl rfl⟩
abbrev m_Law_shapeEffort : xM := (⟨"TablatureLaw", "shapeEffort", "(LTablature;III[J)I"⟩, method_20_code, 6, (some .int))
abbrev hh_shapeEffort : List (Nat × Nat × Nat × Nat) := [(0, 12, 15, 13)]
theorem sh_166 : xSH "TablatureLaw" 166 m_Law_shapeEffort hh_shapeEffort 5 := ⟨⟨wd4 89 rfl rfl, wd1 0 rfl rfl, ⟨by decide +kernel, by decide +kernel⟩, by decide +kernel⟩, wd4 87 rfl rfl, wd4 88 rfl rfl⟩
abbrev m_Law_shapeFret : xM := (⟨"TablatureLaw", "shapeFret", "(LTablature;IIII[J)I"⟩, method_21_code, 7, (some .int))
abbrev hh_shapeFret : List (Nat × Nat × Nat × Nat) := [(0, 14, 17, 21), (0, 14, 21, 13)]
theorem sh_169 : xSH "TablatureLaw" 169 m_Law_shapeFret hh_shapeFret 6 := ⟨⟨wd4 96 rfl rfl, wd1 0 rfl rfl, ⟨by decide +kernel, by decide +kernel⟩, by decide +kernel⟩, wd4 94 rfl rfl, wd4 95 rfl rfl⟩
abbrev m_Law_totalWith : xM := (⟨"TablatureLaw", "totalWith", "(LTablature;II[J)I"⟩, method_22_code, 5, (some .int))
abbrev hh_totalWith : List (Nat × Nat × Nat × Nat) := [(0, 10, 13, 13)]
theorem sh_173 : xSH "TablatureLaw" 173 m_Law_totalWith hh_totalWith 4 := ⟨⟨wd4 108 rfl rfl, wd1 0 rfl rfl, ⟨by decide +kernel, by decide +kernel⟩, by decide +kernel⟩, wd4 106 rfl rfl, wd4 107 rfl rfl⟩
abbrev m_Law_totalWithout : xM := (⟨"TablatureLaw", "totalWithout", "(LTablature;I[J)I"⟩, method_23_code, 4, (some .int))
abbrev hh_totalWithout : List (Nat × Nat × Nat × Nat) := [(0, 9, 12, 21)]
theorem sh_180 : xSH "TablatureLaw" 180 m_Law_totalWithout hh_totalWithout 3 := ⟨⟨wd4 115 rfl rfl, wd1 0 rfl rfl, ⟨by decide +kernel, by decide +kernel⟩, by decide +kernel⟩, wd4 113 rfl rfl, wd4 114 rfl rfl⟩
abbrev m_Law_totalFixed : xM := (⟨"TablatureLaw", "totalFixed", "(LTablature;II[J)I"⟩, method_24_code, 5, (some .int))
abbrev hh_totalFixed : List (Nat × Nat × Nat × Nat) := [(0, 10, 13, 21)]
theorem sh_183 : xSH "TablatureLaw" 183 m_Law_totalFixed hh_totalFixed 4 := ⟨⟨wd4 119 rfl rfl, wd1 0 rfl rfl, ⟨by decide +kernel, by decide +kernel⟩, by decide +kernel⟩, wd4 117 rfl rfl, wd4 118 rfl rfl⟩
