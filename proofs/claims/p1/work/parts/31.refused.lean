/-! What is refused: by each method of the class, on any object. -/
set_option maxRecDepth 100000 in
set_option maxHeartbeats 4000000 in
theorem c_needString_no {G : xG} {h : PH} {ad : Nat → Nat} (hj : ∀ i j, i < 300 → j < 300 → ad i = ad j → i = j) {fq : Bool} {Q : Ins} {P : Pie} (T : TabR G h ad fq Q P) {v : Int} (hv : bd v) (hs : ¬ (0 ≤ v ∧ v < (Q.n : Int)))  : Tn G m_Tab_needString 6 1 6 [.ref (ad 0), vi v] h "java/lang/IndexOutOfBoundsException" := by
  refine Tn_of (by decide) (Nat.le_of_ble_eq_true rfl) (fun K C hR ET => ?_)
  obtain ⟨st, hst, h0, hPA, hPF⟩ := id T.1
  have IV1 := T.2.2.2.2.2.2.2.1
  have CV1 := T.2.2.2.2.2.2.2.2
  have IVn := IV1.1
  have CVm := CV1.1
  show X G K 2 0 [some (.ref (ad 0)), some (vi v)] [] h 0 0
  refine x_iload_n C dX8_needString_0 rfl rfl ?_
  refine x_if_lt C (tgt := 15) dX8_needString_1 (by decide) hv (fun c1 => ?_) (fun c1 => ?_)
  · skip
    exact x_thrW C ET (text := "no such string") (by decide +kernel) wk_317 wi_IndexOutOfBoundsException ws_319 wt_321 wu_321 (by decide) (Nat.le_of_ble_eq_true rfl) hR (by omega) (by omega) (by omega) dX8_needString_15 dX8_needString_18 dX8_needString_19 dX8_needString_22 dX8_needString_25
  · skip
    refine x_iload_n C dX8_needString_4 rfl rfl ?_
    refine x_aload_n C dX8_needString_5 rfl rfl ?_
    refine x_get C f_Tab_10 h0 rfl dX8_needString_6 ?_
    refine x_get C f_Tab_58 T.2.1.1 rfl dX8_needString_9 ?_
    refine x_icmp_lt C (tgt := 26) dX8_needString_12 (by decide) hv ⟨by omega, by omega⟩ (fun c12 => ?_) (fun c12 => ?_)
    · skip
      exfalso; omega
    · skip
      exact x_thrW C ET (text := "no such string") (by decide +kernel) wk_317 wi_IndexOutOfBoundsException ws_319 wt_321 wu_321 (by decide) (Nat.le_of_ble_eq_true rfl) hR (by omega) (by omega) (by omega) dX8_needString_15 dX8_needString_18 dX8_needString_19 dX8_needString_22 dX8_needString_25

set_option maxRecDepth 100000 in
set_option maxHeartbeats 4000000 in
theorem c_needChord_no {G : xG} {h : PH} {ad : Nat → Nat} (hj : ∀ i j, i < 300 → j < 300 → ad i = ad j → i = j) {fq : Bool} {Q : Ins} {P : Pie} (T : TabR G h ad fq Q P) {v : Int} (hv : bd v) (hs : ¬ (0 ≤ v ∧ v < (P.m : Int)))  : Tn G m_Tab_needChord 6 1 6 [.ref (ad 0), vi v] h "java/lang/IndexOutOfBoundsException" := by
  refine Tn_of (by decide) (Nat.le_of_ble_eq_true rfl) (fun K C hR ET => ?_)
  obtain ⟨st, hst, h0, hPA, hPF⟩ := id T.1
  have IV1 := T.2.2.2.2.2.2.2.1
  have CV1 := T.2.2.2.2.2.2.2.2
  have IVn := IV1.1
  have CVm := CV1.1
  show X G K 2 0 [some (.ref (ad 0)), some (vi v)] [] h 0 0
  refine x_iload_n C dX8_needChord_0 rfl rfl ?_
  refine x_if_lt C (tgt := 15) dX8_needChord_1 (by decide) hv (fun c1 => ?_) (fun c1 => ?_)
  · skip
    exact x_thrW C ET (text := "no such chord") (by decide +kernel) wk_317 wi_IndexOutOfBoundsException ws_322 wt_321 wu_321 (by decide) (Nat.le_of_ble_eq_true rfl) hR (by omega) (by omega) (by omega) dX8_needChord_15 dX8_needChord_18 dX8_needChord_19 dX8_needChord_22 dX8_needChord_25
  · skip
    refine x_iload_n C dX8_needChord_4 rfl rfl ?_
    refine x_aload_n C dX8_needChord_5 rfl rfl ?_
    refine x_get C f_Tab_22 h0 rfl dX8_needChord_6 ?_
    refine x_get C f_Tab_127 T.2.2.2.1.1 rfl dX8_needChord_9 ?_
    refine x_icmp_lt C (tgt := 26) dX8_needChord_12 (by decide) hv ⟨by omega, by omega⟩ (fun c12 => ?_) (fun c12 => ?_)
    · skip
      exfalso; omega
    · skip
      exact x_thrW C ET (text := "no such chord") (by decide +kernel) wk_317 wi_IndexOutOfBoundsException ws_322 wt_321 wu_321 (by decide) (Nat.le_of_ble_eq_true rfl) hR (by omega) (by omega) (by omega) dX8_needChord_15 dX8_needChord_18 dX8_needChord_19 dX8_needChord_22 dX8_needChord_25

set_option maxRecDepth 100000 in
set_option maxHeartbeats 4000000 in
theorem c_needOpen_no {G : xG} {h : PH} {v : Int} (hv : bd v) (hs : ¬ (0 ≤ v ∧ v ≤ 60))  : Tn G m_Tab_needOpen 6 1 6 [vi v] h "java/lang/IllegalArgumentException" := by
  refine Tn_of (by decide) (Nat.le_of_ble_eq_true rfl) (fun K C hR ET => ?_)
  show X G K 1 0 [some (vi v)] [] h 0 0
  refine x_iload_n C dX8_needOpen_0 rfl rfl ?_
  refine x_if_lt C (tgt := 10) dX8_needOpen_1 (by decide) hv (fun c1 => ?_) (fun c1 => ?_)
  · skip
    exact x_thrW C ET (text := "no such open pitch") (by decide +kernel) wk_107 wi_IllegalArgumentException ws_328 wt_111 wu_111 (by decide) (Nat.le_of_ble_eq_true rfl) hR (by omega) (by omega) (by omega) dX8_needOpen_10 dX8_needOpen_13 dX8_needOpen_14 dX8_needOpen_17 dX8_needOpen_20
  · skip
    refine x_iload_n C dX8_needOpen_4 rfl rfl ?_
    refine x_bipush C (z := 60) dX8_needOpen_5 (by decide) ?_
    refine x_icmp_le C (tgt := 21) dX8_needOpen_7 (by decide) hv (by decide) (fun c7 => ?_) (fun c7 => ?_)
    · skip
      exfalso; omega
    · skip
      exact x_thrW C ET (text := "no such open pitch") (by decide +kernel) wk_107 wi_IllegalArgumentException ws_328 wt_111 wu_111 (by decide) (Nat.le_of_ble_eq_true rfl) hR (by omega) (by omega) (by omega) dX8_needOpen_10 dX8_needOpen_13 dX8_needOpen_14 dX8_needOpen_17 dX8_needOpen_20

set_option maxRecDepth 100000 in
set_option maxHeartbeats 4000000 in
theorem c_needCapo_no {G : xG} {h : PH} {v : Int} (hv : bd v) (hs : ¬ (0 ≤ v ∧ v ≤ 7))  : Tn G m_Tab_needCapo 6 1 6 [vi v] h "java/lang/IllegalArgumentException" := by
  refine Tn_of (by decide) (Nat.le_of_ble_eq_true rfl) (fun K C hR ET => ?_)
  show X G K 1 0 [some (vi v)] [] h 0 0
  refine x_iload_n C dX8_needCapo_0 rfl rfl ?_
  refine x_if_lt C (tgt := 10) dX8_needCapo_1 (by decide) hv (fun c1 => ?_) (fun c1 => ?_)
  · skip
    exact x_thrW C ET (text := "no such capo") (by decide +kernel) wk_107 wi_IllegalArgumentException ws_330 wt_111 wu_111 (by decide) (Nat.le_of_ble_eq_true rfl) hR (by omega) (by omega) (by omega) dX8_needCapo_10 dX8_needCapo_13 dX8_needCapo_14 dX8_needCapo_17 dX8_needCapo_20
  · skip
    refine x_iload_n C dX8_needCapo_4 rfl rfl ?_
    refine x_bipush C (z := 7) dX8_needCapo_5 (by decide) ?_
    refine x_icmp_le C (tgt := 21) dX8_needCapo_7 (by decide) hv (by decide) (fun c7 => ?_) (fun c7 => ?_)
    · skip
      exfalso; omega
    · skip
      exact x_thrW C ET (text := "no such capo") (by decide +kernel) wk_107 wi_IllegalArgumentException ws_330 wt_111 wu_111 (by decide) (Nat.le_of_ble_eq_true rfl) hR (by omega) (by omega) (by omega) dX8_needCapo_10 dX8_needCapo_13 dX8_needCapo_14 dX8_needCapo_17 dX8_needCapo_20

set_option maxRecDepth 100000 in
set_option maxHeartbeats 4000000 in
theorem c_needReach_no {G : xG} {h : PH} {v : Int} (hv : bd v) (hs : ¬ (1 ≤ v ∧ v ≤ 6))  : Tn G m_Tab_needReach 6 1 6 [vi v] h "java/lang/IllegalArgumentException" := by
  refine Tn_of (by decide) (Nat.le_of_ble_eq_true rfl) (fun K C hR ET => ?_)
  show X G K 1 0 [some (vi v)] [] h 0 0
  refine x_iload_n C dX8_needReach_0 rfl rfl ?_
  refine x_iconst C dX8_needReach_1 ?_
  refine x_icmp_lt C (tgt := 11) dX8_needReach_2 (by decide) hv (by decide) (fun c2 => ?_) (fun c2 => ?_)
  · skip
    exact x_thrW C ET (text := "no such reach") (by decide +kernel) wk_107 wi_IllegalArgumentException ws_332 wt_111 wu_111 (by decide) (Nat.le_of_ble_eq_true rfl) hR (by omega) (by omega) (by omega) dX8_needReach_11 dX8_needReach_14 dX8_needReach_15 dX8_needReach_18 dX8_needReach_21
  · skip
    refine x_iload_n C dX8_needReach_5 rfl rfl ?_
    refine x_bipush C (z := 6) dX8_needReach_6 (by decide) ?_
    refine x_icmp_le C (tgt := 22) dX8_needReach_8 (by decide) hv (by decide) (fun c8 => ?_) (fun c8 => ?_)
    · skip
      exfalso; omega
    · skip
      exact x_thrW C ET (text := "no such reach") (by decide +kernel) wk_107 wi_IllegalArgumentException ws_332 wt_111 wu_111 (by decide) (Nat.le_of_ble_eq_true rfl) hR (by omega) (by omega) (by omega) dX8_needReach_11 dX8_needReach_14 dX8_needReach_15 dX8_needReach_18 dX8_needReach_21

set_option maxRecDepth 100000 in
set_option maxHeartbeats 4000000 in
theorem c_needQuestion_no {G : xG} {h : PH} {v m : Int} (hv : bd v) (hm : bd m) (hs : ¬ (0 ≤ v ∧ v ≤ m))  : Tn G m_Tab_needQuestion 6 1 6 [vi v, vi m] h "java/lang/IllegalArgumentException" := by
  refine Tn_of (by decide) (Nat.le_of_ble_eq_true rfl) (fun K C hR ET => ?_)
  show X G K 2 0 [some (vi v), some (vi m)] [] h 0 0
  refine x_iload_n C dX8_needQuestion_0 rfl rfl ?_
  refine x_if_lt C (tgt := 9) dX8_needQuestion_1 (by decide) hv (fun c1 => ?_) (fun c1 => ?_)
  · skip
    exact x_thrW C ET (text := "no such question") (by decide +kernel) wk_107 wi_IllegalArgumentException ws_326 wt_111 wu_111 (by decide) (Nat.le_of_ble_eq_true rfl) hR (by omega) (by omega) (by omega) dX8_needQuestion_9 dX8_needQuestion_12 dX8_needQuestion_13 dX8_needQuestion_16 dX8_needQuestion_19
  · skip
    refine x_iload_n C dX8_needQuestion_4 rfl rfl ?_
    refine x_iload_n C dX8_needQuestion_5 rfl rfl ?_
    refine x_icmp_le C (tgt := 20) dX8_needQuestion_6 (by decide) hv hm (fun c6 => ?_) (fun c6 => ?_)
    · skip
      exfalso; omega
    · skip
      exact x_thrW C ET (text := "no such question") (by decide +kernel) wk_107 wi_IllegalArgumentException ws_326 wt_111 wu_111 (by decide) (Nat.le_of_ble_eq_true rfl) hR (by omega) (by omega) (by omega) dX8_needQuestion_9 dX8_needQuestion_12 dX8_needQuestion_13 dX8_needQuestion_16 dX8_needQuestion_19

set_option maxRecDepth 100000 in
set_option maxHeartbeats 4000000 in
theorem c_tune_no {G : xG} {h : PH} {ad : Nat → Nat} (hj : ∀ i j, i < 300 → j < 300 → ad i = ad j → i = j) {fq : Bool} {Q : Ins} {P : Pie} (T : TabR G h ad fq Q P) {v : Int} (hv : bd v) (hs : ¬ (0 ≤ v ∧ v < (Q.n : Int))) {w1 : Int} : Tn G m_Tab_tune 7 1 6 [.ref (ad 0), vi v, vi w1] h "java/lang/IndexOutOfBoundsException" := by
  refine Tn_of (by decide) (Nat.le_of_ble_eq_true rfl) (fun K C hR ET => ?_)
  obtain ⟨st, hst, h0, hPA, hPF⟩ := id T.1
  have IV1 := T.2.2.2.2.2.2.2.1
  have CV1 := T.2.2.2.2.2.2.2.2
  have IVn := IV1.1
  have CVm := CV1.1
  show X G K 4 0 [some (.ref (ad 0)), some (vi v), some (vi w1), none] [] h 0 0
  refine x_aload_n C dX8_tune_0 rfl rfl ?_
  refine x_iload_n C dX8_tune_1 rfl rfl ?_
  exact xt_invV C ET s_Tab_76 (st := []) (c_needString_no hj T hv hs) h0 rfl rfl (Nat.le_of_ble_eq_true rfl) (xRm_of hR (by omega) (by decide) (by omega) (by omega)) dX8_tune_2 (by omega) (by omega)

set_option maxRecDepth 100000 in
set_option maxHeartbeats 4000000 in
theorem c_slacken_no {G : xG} {h : PH} {ad : Nat → Nat} (hj : ∀ i j, i < 300 → j < 300 → ad i = ad j → i = j) {fq : Bool} {Q : Ins} {P : Pie} (T : TabR G h ad fq Q P) {v : Int} (hv : bd v) (hs : ¬ (0 ≤ v ∧ v < (Q.n : Int))) {w1 : Int} : Tn G m_Tab_slacken 7 1 6 [.ref (ad 0), vi v, vi w1] h "java/lang/IndexOutOfBoundsException" := by
  refine Tn_of (by decide) (Nat.le_of_ble_eq_true rfl) (fun K C hR ET => ?_)
  obtain ⟨st, hst, h0, hPA, hPF⟩ := id T.1
  have IV1 := T.2.2.2.2.2.2.2.1
  have CV1 := T.2.2.2.2.2.2.2.2
  have IVn := IV1.1
  have CVm := CV1.1
  show X G K 3 0 [some (.ref (ad 0)), some (vi v), some (vi w1)] [] h 0 0
  refine x_aload_n C dX8_slacken_0 rfl rfl ?_
  refine x_iload_n C dX8_slacken_1 rfl rfl ?_
  exact xt_invV C ET s_Tab_76 (st := []) (c_needString_no hj T hv hs) h0 rfl rfl (Nat.le_of_ble_eq_true rfl) (xRm_of hR (by omega) (by decide) (by omega) (by omega)) dX8_slacken_2 (by omega) (by omega)

set_option maxRecDepth 100000 in
set_option maxHeartbeats 4000000 in
theorem c_fretOf_no {G : xG} {h : PH} {ad : Nat → Nat} (hj : ∀ i j, i < 300 → j < 300 → ad i = ad j → i = j) {fq : Bool} {Q : Ins} {P : Pie} (T : TabR G h ad fq Q P) {v : Int} (hv : bd v) (hs : ¬ (0 ≤ v ∧ v < (Q.n : Int))) {w1 : Int} : Tn G m_Tab_fretOf 7 1 6 [.ref (ad 0), vi v, vi w1] h "java/lang/IndexOutOfBoundsException" := by
  refine Tn_of (by decide) (Nat.le_of_ble_eq_true rfl) (fun K C hR ET => ?_)
  obtain ⟨st, hst, h0, hPA, hPF⟩ := id T.1
  have IV1 := T.2.2.2.2.2.2.2.1
  have CV1 := T.2.2.2.2.2.2.2.2
  have IVn := IV1.1
  have CVm := CV1.1
  show X G K 3 0 [some (.ref (ad 0)), some (vi v), some (vi w1)] [] h 0 0
  refine x_aload_n C dX8_fretOf_0 rfl rfl ?_
  refine x_iload_n C dX8_fretOf_1 rfl rfl ?_
  exact xt_invV C ET s_Tab_76 (st := []) (c_needString_no hj T hv hs) h0 rfl rfl (Nat.le_of_ble_eq_true rfl) (xRm_of hR (by omega) (by decide) (by omega) (by omega)) dX8_fretOf_2 (by omega) (by omega)

set_option maxRecDepth 100000 in
set_option maxHeartbeats 4000000 in
theorem c_totalWithout_no {G : xG} {h : PH} {ad : Nat → Nat} (hj : ∀ i j, i < 300 → j < 300 → ad i = ad j → i = j) {fq : Bool} {Q : Ins} {P : Pie} (T : TabR G h ad fq Q P) {v : Int} (hv : bd v) (hs : ¬ (0 ≤ v ∧ v < (Q.n : Int)))  : Tn G m_Tab_totalWithout 7 1 6 [.ref (ad 0), vi v] h "java/lang/IndexOutOfBoundsException" := by
  refine Tn_of (by decide) (Nat.le_of_ble_eq_true rfl) (fun K C hR ET => ?_)
  obtain ⟨st, hst, h0, hPA, hPF⟩ := id T.1
  have IV1 := T.2.2.2.2.2.2.2.1
  have CV1 := T.2.2.2.2.2.2.2.2
  have IVn := IV1.1
  have CVm := CV1.1
  show X G K 2 0 [some (.ref (ad 0)), some (vi v)] [] h 0 0
  refine x_aload_n C dX8_totalWithout_0 rfl rfl ?_
  refine x_iload_n C dX8_totalWithout_1 rfl rfl ?_
  exact xt_invV C ET s_Tab_76 (st := []) (c_needString_no hj T hv hs) h0 rfl rfl (Nat.le_of_ble_eq_true rfl) (xRm_of hR (by omega) (by decide) (by omega) (by omega)) dX8_totalWithout_2 (by omega) (by omega)

set_option maxRecDepth 100000 in
set_option maxHeartbeats 4000000 in
theorem c_shapeFret_no {G : xG} {h : PH} {ad : Nat → Nat} (hj : ∀ i j, i < 300 → j < 300 → ad i = ad j → i = j) {fq : Bool} {Q : Ins} {P : Pie} (T : TabR G h ad fq Q P) {v : Int} (hv : bd v) (hs : ¬ (0 ≤ v ∧ v < (Q.n : Int))) {w1 : Int} {w2 : Int} {w3 : Int} : Tn G m_Tab_shapeFret 7 1 6 [.ref (ad 0), vi w1, vi w2, vi w3, vi v] h "java/lang/IndexOutOfBoundsException" := by
  refine Tn_of (by decide) (Nat.le_of_ble_eq_true rfl) (fun K C hR ET => ?_)
  obtain ⟨st, hst, h0, hPA, hPF⟩ := id T.1
  have IV1 := T.2.2.2.2.2.2.2.1
  have CV1 := T.2.2.2.2.2.2.2.2
  have IVn := IV1.1
  have CVm := CV1.1
  show X G K 5 0 [some (.ref (ad 0)), some (vi w1), some (vi w2), some (vi w3), some (vi v)] [] h 0 0
  refine x_aload_n C dX8_shapeFret_0 rfl rfl ?_
  refine x_iload C dX8_shapeFret_1 rfl ?_
  exact xt_invV C ET s_Tab_76 (st := []) (c_needString_no hj T hv hs) h0 rfl rfl (Nat.le_of_ble_eq_true rfl) (xRm_of hR (by omega) (by decide) (by omega) (by omega)) dX8_shapeFret_3 (by omega) (by omega)

set_option maxRecDepth 100000 in
set_option maxHeartbeats 4000000 in
theorem c_strike_no {G : xG} {h : PH} {ad : Nat → Nat} (hj : ∀ i j, i < 300 → j < 300 → ad i = ad j → i = j) {fq : Bool} {Q : Ins} {P : Pie} (T : TabR G h ad fq Q P) {v : Int} (hv : bd v) (hs : ¬ (0 ≤ v ∧ v < (P.m : Int)))  : Tn G m_Tab_strike 7 1 6 [.ref (ad 0), vi v] h "java/lang/IndexOutOfBoundsException" := by
  refine Tn_of (by decide) (Nat.le_of_ble_eq_true rfl) (fun K C hR ET => ?_)
  obtain ⟨st, hst, h0, hPA, hPF⟩ := id T.1
  have IV1 := T.2.2.2.2.2.2.2.1
  have CV1 := T.2.2.2.2.2.2.2.2
  have IVn := IV1.1
  have CVm := CV1.1
  show X G K 2 0 [some (.ref (ad 0)), some (vi v)] [] h 0 0
  refine x_aload_n C dX8_strike_0 rfl rfl ?_
  refine x_iload_n C dX8_strike_1 rfl rfl ?_
  exact xt_invV C ET s_Tab_139 (st := []) (c_needChord_no hj T hv hs) h0 rfl rfl (Nat.le_of_ble_eq_true rfl) (xRm_of hR (by omega) (by decide) (by omega) (by omega)) dX8_strike_2 (by omega) (by omega)

set_option maxRecDepth 100000 in
set_option maxHeartbeats 4000000 in
theorem c_fix_no {G : xG} {h : PH} {ad : Nat → Nat} (hj : ∀ i j, i < 300 → j < 300 → ad i = ad j → i = j) {fq : Bool} {Q : Ins} {P : Pie} (T : TabR G h ad fq Q P) {v : Int} (hv : bd v) (hs : ¬ (0 ≤ v ∧ v < (P.m : Int))) {w1 : Int} : Tn G m_Tab_fix 7 1 6 [.ref (ad 0), vi v, vi w1] h "java/lang/IndexOutOfBoundsException" := by
  refine Tn_of (by decide) (Nat.le_of_ble_eq_true rfl) (fun K C hR ET => ?_)
  obtain ⟨st, hst, h0, hPA, hPF⟩ := id T.1
  have IV1 := T.2.2.2.2.2.2.2.1
  have CV1 := T.2.2.2.2.2.2.2.2
  have IVn := IV1.1
  have CVm := CV1.1
  show X G K 6 0 [some (.ref (ad 0)), some (vi v), some (vi w1), none, none, none] [] h 0 0
  refine x_aload_n C dX8_fix_0 rfl rfl ?_
  refine x_iload_n C dX8_fix_1 rfl rfl ?_
  exact xt_invV C ET s_Tab_139 (st := []) (c_needChord_no hj T hv hs) h0 rfl rfl (Nat.le_of_ble_eq_true rfl) (xRm_of hR (by omega) (by decide) (by omega) (by omega)) dX8_fix_2 (by omega) (by omega)

set_option maxRecDepth 100000 in
set_option maxHeartbeats 4000000 in
theorem c_ofChord_no {G : xG} {h : PH} {ad : Nat → Nat} (hj : ∀ i j, i < 300 → j < 300 → ad i = ad j → i = j) {fq : Bool} {Q : Ins} {P : Pie} (T : TabR G h ad fq Q P) {v : Int} (hv : bd v) (hs : ¬ (0 ≤ v ∧ v < (P.m : Int))) {w1 : Int} : Tn G m_Tab_ofChord 7 1 6 [.ref (ad 0), vi v, vi w1] h "java/lang/IndexOutOfBoundsException" := by
  refine Tn_of (by decide) (Nat.le_of_ble_eq_true rfl) (fun K C hR ET => ?_)
  obtain ⟨st, hst, h0, hPA, hPF⟩ := id T.1
  have IV1 := T.2.2.2.2.2.2.2.1
  have CV1 := T.2.2.2.2.2.2.2.2
  have IVn := IV1.1
  have CVm := CV1.1
  show X G K 3 0 [some (.ref (ad 0)), some (vi v), some (vi w1)] [] h 0 0
  refine x_aload_n C dX8_ofChord_0 rfl rfl ?_
  refine x_iload_n C dX8_ofChord_1 rfl rfl ?_
  exact xt_invV C ET s_Tab_139 (st := []) (c_needChord_no hj T hv hs) h0 rfl rfl (Nat.le_of_ble_eq_true rfl) (xRm_of hR (by omega) (by decide) (by omega) (by omega)) dX8_ofChord_2 (by omega) (by omega)

set_option maxRecDepth 100000 in
set_option maxHeartbeats 4000000 in
theorem c_plan_no {G : xG} {h : PH} {ad : Nat → Nat} (hj : ∀ i j, i < 300 → j < 300 → ad i = ad j → i = j) {fq : Bool} {Q : Ins} {P : Pie} (T : TabR G h ad fq Q P) {v : Int} (hv : bd v) (hs : ¬ (0 ≤ v ∧ v < (P.m : Int)))  : Tn G m_Tab_plan 7 1 6 [.ref (ad 0), vi v] h "java/lang/IndexOutOfBoundsException" := by
  refine Tn_of (by decide) (Nat.le_of_ble_eq_true rfl) (fun K C hR ET => ?_)
  obtain ⟨st, hst, h0, hPA, hPF⟩ := id T.1
  have IV1 := T.2.2.2.2.2.2.2.1
  have CV1 := T.2.2.2.2.2.2.2.2
  have IVn := IV1.1
  have CVm := CV1.1
  show X G K 2 0 [some (.ref (ad 0)), some (vi v)] [] h 0 0
  refine x_aload_n C dX8_plan_0 rfl rfl ?_
  refine x_iload_n C dX8_plan_1 rfl rfl ?_
  exact xt_invV C ET s_Tab_139 (st := []) (c_needChord_no hj T hv hs) h0 rfl rfl (Nat.le_of_ble_eq_true rfl) (xRm_of hR (by omega) (by decide) (by omega) (by omega)) dX8_plan_2 (by omega) (by omega)

set_option maxRecDepth 100000 in
set_option maxHeartbeats 4000000 in
theorem c_needGrip_no {G : xG} {h : PH} {ad : Nat → Nat} (hj : ∀ i j, i < 300 → j < 300 → ad i = ad j → i = j) {fq : Bool} {Q : Ins} {P : Pie} (T : TabR G h ad fq Q P) {v : Int} (hv : bd v) (hs : ¬ (0 ≤ v ∧ v < (P.m : Int))) {w1 : Int} : Tn G m_Tab_needGrip 7 1 6 [.ref (ad 0), vi v, vi w1] h "java/lang/IndexOutOfBoundsException" := by
  refine Tn_of (by decide) (Nat.le_of_ble_eq_true rfl) (fun K C hR ET => ?_)
  obtain ⟨st, hst, h0, hPA, hPF⟩ := id T.1
  have IV1 := T.2.2.2.2.2.2.2.1
  have CV1 := T.2.2.2.2.2.2.2.2
  have IVn := IV1.1
  have CVm := CV1.1
  show X G K 3 0 [some (.ref (ad 0)), some (vi v), some (vi w1)] [] h 0 0
  refine x_aload_n C dX8_needGrip_0 rfl rfl ?_
  refine x_iload_n C dX8_needGrip_1 rfl rfl ?_
  exact xt_invV C ET s_Tab_139 (st := []) (c_needChord_no hj T hv hs) h0 rfl rfl (Nat.le_of_ble_eq_true rfl) (xRm_of hR (by omega) (by decide) (by omega) (by omega)) dX8_needGrip_2 (by omega) (by omega)

set_option maxRecDepth 100000 in
set_option maxHeartbeats 4000000 in
theorem c_ofGrip_no {G : xG} {h : PH} {ad : Nat → Nat} (hj : ∀ i j, i < 300 → j < 300 → ad i = ad j → i = j) {fq : Bool} {Q : Ins} {P : Pie} (T : TabR G h ad fq Q P) {v : Int} (hv : bd v) (hs : ¬ (0 ≤ v ∧ v < (P.m : Int))) {w1 : Int} {w2 : Int} : Tn G m_Tab_ofGrip 8 1 6 [.ref (ad 0), vi v, vi w1, vi w2] h "java/lang/IndexOutOfBoundsException" := by
  refine Tn_of (by decide) (Nat.le_of_ble_eq_true rfl) (fun K C hR ET => ?_)
  obtain ⟨st, hst, h0, hPA, hPF⟩ := id T.1
  have IV1 := T.2.2.2.2.2.2.2.1
  have CV1 := T.2.2.2.2.2.2.2.2
  have IVn := IV1.1
  have CVm := CV1.1
  show X G K 5 0 [some (.ref (ad 0)), some (vi v), some (vi w1), some (vi w2), none] [] h 0 0
  refine x_aload_n C dX8_ofGrip_0 rfl rfl ?_
  refine x_iload_n C dX8_ofGrip_1 rfl rfl ?_
  refine x_iload_n C dX8_ofGrip_2 rfl rfl ?_
  exact xt_invV C ET s_Tab_145 (st := []) (c_needGrip_no hj T hv hs) h0 rfl rfl (Nat.le_of_ble_eq_true rfl) (xRm_of hR (by omega) (by decide) (by omega) (by omega)) dX8_ofGrip_3 (by omega) (by omega)

set_option maxRecDepth 100000 in
set_option maxHeartbeats 4000000 in
theorem c_fret_no {G : xG} {h : PH} {ad : Nat → Nat} (hj : ∀ i j, i < 300 → j < 300 → ad i = ad j → i = j) {fq : Bool} {Q : Ins} {P : Pie} (T : TabR G h ad fq Q P) {v : Int} (hv : bd v) (hs : ¬ (0 ≤ v ∧ v < (P.m : Int))) {w1 : Int} {w2 : Int} : Tn G m_Tab_fret 8 1 6 [.ref (ad 0), vi v, vi w1, vi w2] h "java/lang/IndexOutOfBoundsException" := by
  refine Tn_of (by decide) (Nat.le_of_ble_eq_true rfl) (fun K C hR ET => ?_)
  obtain ⟨st, hst, h0, hPA, hPF⟩ := id T.1
  have IV1 := T.2.2.2.2.2.2.2.1
  have CV1 := T.2.2.2.2.2.2.2.2
  have IVn := IV1.1
  have CVm := CV1.1
  show X G K 5 0 [some (.ref (ad 0)), some (vi v), some (vi w1), some (vi w2), none] [] h 0 0
  refine x_aload_n C dX8_fret_0 rfl rfl ?_
  refine x_iload_n C dX8_fret_1 rfl rfl ?_
  refine x_iload_n C dX8_fret_2 rfl rfl ?_
  exact xt_invV C ET s_Tab_145 (st := []) (c_needGrip_no hj T hv hs) h0 rfl rfl (Nat.le_of_ble_eq_true rfl) (xRm_of hR (by omega) (by decide) (by omega) (by omega)) dX8_fret_3 (by omega) (by omega)

set_option maxRecDepth 100000 in
set_option maxHeartbeats 4000000 in
theorem c_finger_no {G : xG} {h : PH} {ad : Nat → Nat} (hj : ∀ i j, i < 300 → j < 300 → ad i = ad j → i = j) {fq : Bool} {Q : Ins} {P : Pie} (T : TabR G h ad fq Q P) {v : Int} (hv : bd v) (hs : ¬ (0 ≤ v ∧ v < (P.m : Int))) {w1 : Int} {w2 : Int} : Tn G m_Tab_finger 8 1 6 [.ref (ad 0), vi v, vi w1, vi w2] h "java/lang/IndexOutOfBoundsException" := by
  refine Tn_of (by decide) (Nat.le_of_ble_eq_true rfl) (fun K C hR ET => ?_)
  obtain ⟨st, hst, h0, hPA, hPF⟩ := id T.1
  have IV1 := T.2.2.2.2.2.2.2.1
  have CV1 := T.2.2.2.2.2.2.2.2
  have IVn := IV1.1
  have CVm := CV1.1
  show X G K 5 0 [some (.ref (ad 0)), some (vi v), some (vi w1), some (vi w2), none] [] h 0 0
  refine x_aload_n C dX8_finger_0 rfl rfl ?_
  refine x_iload_n C dX8_finger_1 rfl rfl ?_
  refine x_iload_n C dX8_finger_2 rfl rfl ?_
  exact xt_invV C ET s_Tab_145 (st := []) (c_needGrip_no hj T hv hs) h0 rfl rfl (Nat.le_of_ble_eq_true rfl) (xRm_of hR (by omega) (by decide) (by omega) (by omega)) dX8_finger_3 (by omega) (by omega)

set_option maxRecDepth 100000 in
set_option maxHeartbeats 4000000 in
theorem c_move_no {G : xG} {h : PH} {ad : Nat → Nat} (hj : ∀ i j, i < 300 → j < 300 → ad i = ad j → i = j) {fq : Bool} {Q : Ins} {P : Pie} (T : TabR G h ad fq Q P) {v : Int} (hv : bd v) (hs : ¬ (0 ≤ v ∧ v < (P.m : Int))) {w1 : Int} {w2 : Int} : Tn G m_Tab_move 8 1 6 [.ref (ad 0), vi v, vi w1, vi w2] h "java/lang/IndexOutOfBoundsException" := by
  refine Tn_of (by decide) (Nat.le_of_ble_eq_true rfl) (fun K C hR ET => ?_)
  obtain ⟨st, hst, h0, hPA, hPF⟩ := id T.1
  have IV1 := T.2.2.2.2.2.2.2.1
  have CV1 := T.2.2.2.2.2.2.2.2
  have IVn := IV1.1
  have CVm := CV1.1
  show X G K 4 0 [some (.ref (ad 0)), some (vi v), some (vi w1), some (vi w2)] [] h 0 0
  refine x_aload_n C dX8_move_0 rfl rfl ?_
  refine x_iload_n C dX8_move_1 rfl rfl ?_
  refine x_iload_n C dX8_move_2 rfl rfl ?_
  exact xt_invV C ET s_Tab_145 (st := []) (c_needGrip_no hj T hv hs) h0 rfl rfl (Nat.le_of_ble_eq_true rfl) (xRm_of hR (by omega) (by decide) (by omega) (by omega)) dX8_move_3 (by omega) (by omega)

set_option maxRecDepth 100000 in
set_option maxHeartbeats 4000000 in
theorem c_totalFixed_no {G : xG} {h : PH} {ad : Nat → Nat} (hj : ∀ i j, i < 300 → j < 300 → ad i = ad j → i = j) {fq : Bool} {Q : Ins} {P : Pie} (T : TabR G h ad fq Q P) {v : Int} (hv : bd v) (hs : ¬ (0 ≤ v ∧ v < (P.m : Int))) {w1 : Int} : Tn G m_Tab_totalFixed 8 1 6 [.ref (ad 0), vi v, vi w1] h "java/lang/IndexOutOfBoundsException" := by
  refine Tn_of (by decide) (Nat.le_of_ble_eq_true rfl) (fun K C hR ET => ?_)
  obtain ⟨st, hst, h0, hPA, hPF⟩ := id T.1
  have IV1 := T.2.2.2.2.2.2.2.1
  have CV1 := T.2.2.2.2.2.2.2.2
  have IVn := IV1.1
  have CVm := CV1.1
  show X G K 3 0 [some (.ref (ad 0)), some (vi v), some (vi w1)] [] h 0 0
  refine x_aload_n C dX8_totalFixed_0 rfl rfl ?_
  refine x_iload_n C dX8_totalFixed_1 rfl rfl ?_
  refine x_iload_n C dX8_totalFixed_2 rfl rfl ?_
  exact xt_invV C ET s_Tab_145 (st := []) (c_needGrip_no hj T hv hs) h0 rfl rfl (Nat.le_of_ble_eq_true rfl) (xRm_of hR (by omega) (by decide) (by omega) (by omega)) dX8_totalFixed_3 (by omega) (by omega)

set_option maxRecDepth 100000 in
set_option maxHeartbeats 4000000 in
theorem c_string_no {G : xG} {h : PH} {ad : Nat → Nat} (hj : ∀ i j, i < 300 → j < 300 → ad i = ad j → i = j) {fq : Bool} {Q : Ins} {P : Pie} (T : TabR G h ad fq Q P) {v : Int} (hv : bd v) (hs : ¬ (0 ≤ v ∧ v ≤ 60))  : Tn G m_Tab_string 7 1 6 [.ref (ad 0), vi v] h "java/lang/IllegalArgumentException" := by
  refine Tn_of (by decide) (Nat.le_of_ble_eq_true rfl) (fun K C hR ET => ?_)
  obtain ⟨st, hst, h0, hPA, hPF⟩ := id T.1
  have IV1 := T.2.2.2.2.2.2.2.1
  have CV1 := T.2.2.2.2.2.2.2.2
  have IVn := IV1.1
  have CVm := CV1.1
  show X G K 3 0 [some (.ref (ad 0)), some (vi v), none] [] h 0 0
  refine x_iload_n C dX8_string_0 rfl rfl ?_
  exact xt_invS C ET s_Tab_54 (st := []) (c_needOpen_no hv hs) rfl rfl (Nat.le_of_ble_eq_true rfl) (xRm_of hR (by omega) (by decide) (by omega) (by omega)) dX8_string_1 (by omega) (by omega)

set_option maxRecDepth 100000 in
set_option maxHeartbeats 4000000 in
theorem c_capo_no {G : xG} {h : PH} {ad : Nat → Nat} (hj : ∀ i j, i < 300 → j < 300 → ad i = ad j → i = j) {fq : Bool} {Q : Ins} {P : Pie} (T : TabR G h ad fq Q P) {v : Int} (hv : bd v) (hs : ¬ (0 ≤ v ∧ v ≤ 7))  : Tn G m_Tab_capo 7 1 6 [.ref (ad 0), vi v] h "java/lang/IllegalArgumentException" := by
  refine Tn_of (by decide) (Nat.le_of_ble_eq_true rfl) (fun K C hR ET => ?_)
  obtain ⟨st, hst, h0, hPA, hPF⟩ := id T.1
  have IV1 := T.2.2.2.2.2.2.2.1
  have CV1 := T.2.2.2.2.2.2.2.2
  have IVn := IV1.1
  have CVm := CV1.1
  show X G K 3 0 [some (.ref (ad 0)), some (vi v), none] [] h 0 0
  refine x_iload_n C dX8_capo_0 rfl rfl ?_
  exact xt_invS C ET s_Tab_91 (st := []) (c_needCapo_no hv hs) rfl rfl (Nat.le_of_ble_eq_true rfl) (xRm_of hR (by omega) (by decide) (by omega) (by omega)) dX8_capo_1 (by omega) (by omega)

set_option maxRecDepth 100000 in
set_option maxHeartbeats 4000000 in
theorem c_reach_no {G : xG} {h : PH} {ad : Nat → Nat} (hj : ∀ i j, i < 300 → j < 300 → ad i = ad j → i = j) {fq : Bool} {Q : Ins} {P : Pie} (T : TabR G h ad fq Q P) {v : Int} (hv : bd v) (hs : ¬ (1 ≤ v ∧ v ≤ 6))  : Tn G m_Tab_reach 7 1 6 [.ref (ad 0), vi v] h "java/lang/IllegalArgumentException" := by
  refine Tn_of (by decide) (Nat.le_of_ble_eq_true rfl) (fun K C hR ET => ?_)
  obtain ⟨st, hst, h0, hPA, hPF⟩ := id T.1
  have IV1 := T.2.2.2.2.2.2.2.1
  have CV1 := T.2.2.2.2.2.2.2.2
  have IVn := IV1.1
  have CVm := CV1.1
  show X G K 3 0 [some (.ref (ad 0)), some (vi v), none] [] h 0 0
  refine x_iload_n C dX8_reach_0 rfl rfl ?_
  exact xt_invS C ET s_Tab_97 (st := []) (c_needReach_no hv hs) rfl rfl (Nat.le_of_ble_eq_true rfl) (xRm_of hR (by omega) (by decide) (by omega) (by omega)) dX8_reach_1 (by omega) (by omega)

set_option maxRecDepth 100000 in
set_option maxHeartbeats 4000000 in
theorem c_many_no {G : xG} {h : PH} {ad : Nat → Nat} (hj : ∀ i j, i < 300 → j < 300 → ad i = ad j → i = j) {fq : Bool} {Q : Ins} {P : Pie} (T : TabR G h ad fq Q P) {v : Int} (hv : bd v) (hs : ¬ (0 ≤ v ∧ v ≤ 7))  : Tn G m_Tab_many 7 1 6 [.ref (ad 0), vi v] h "java/lang/IllegalArgumentException" := by
  refine Tn_of (by decide) (Nat.le_of_ble_eq_true rfl) (fun K C hR ET => ?_)
  obtain ⟨st, hst, h0, hPA, hPF⟩ := id T.1
  have IV1 := T.2.2.2.2.2.2.2.1
  have CV1 := T.2.2.2.2.2.2.2.2
  have IVn := IV1.1
  have CVm := CV1.1
  show X G K 2 0 [some (.ref (ad 0)), some (vi v)] [] h 0 0
  refine x_iload_n C dX8_many_0 rfl rfl ?_
  refine x_bipush C (z := 7) dX8_many_1 (by decide) ?_
  exact xt_invS C ET s_Tab_164 (st := []) (c_needQuestion_no hv (by decide) hs) rfl rfl (Nat.le_of_ble_eq_true rfl) (xRm_of hR (by omega) (by decide) (by omega) (by omega)) dX8_many_3 (by omega) (by omega)

set_option maxRecDepth 100000 in
set_option maxHeartbeats 4000000 in
theorem c_totalWith_no1 {G : xG} {h : PH} {ad : Nat → Nat} (hj : ∀ i j, i < 300 → j < 300 → ad i = ad j → i = j) {fq : Bool} {Q : Ins} {P : Pie} (T : TabR G h ad fq Q P) {v w : Int} (hv : bd v) (hs : ¬ (0 ≤ v ∧ v ≤ 7))  : Tn G m_Tab_totalWith 7 1 6 [.ref (ad 0), vi v, vi w] h "java/lang/IllegalArgumentException" := by
  refine Tn_of (by decide) (Nat.le_of_ble_eq_true rfl) (fun K C hR ET => ?_)
  obtain ⟨st, hst, h0, hPA, hPF⟩ := id T.1
  have IV1 := T.2.2.2.2.2.2.2.1
  have CV1 := T.2.2.2.2.2.2.2.2
  have IVn := IV1.1
  have CVm := CV1.1
  show X G K 3 0 [some (.ref (ad 0)), some (vi v), some (vi w)] [] h 0 0
  refine x_iload_n C dX8_totalWith_0 rfl rfl ?_
  exact xt_invS C ET s_Tab_91 (st := []) (c_needCapo_no hv hs) rfl rfl (Nat.le_of_ble_eq_true rfl) (xRm_of hR (by omega) (by decide) (by omega) (by omega)) dX8_totalWith_1 (by omega) (by omega)

set_option maxRecDepth 100000 in
set_option maxHeartbeats 4000000 in
theorem c_totalWith_no2 {G : xG} {h : PH} {ad : Nat → Nat} (hj : ∀ i j, i < 300 → j < 300 → ad i = ad j → i = j) {fq : Bool} {Q : Ins} {P : Pie} (T : TabR G h ad fq Q P) {v w : Int} (hv : 0 ≤ v ∧ v ≤ 7) (hw : bd w) (hs : ¬ (1 ≤ w ∧ w ≤ 6))  : Tn G m_Tab_totalWith 7 1 6 [.ref (ad 0), vi v, vi w] h "java/lang/IllegalArgumentException" := by
  refine Tn_of (by decide) (Nat.le_of_ble_eq_true rfl) (fun K C hR ET => ?_)
  obtain ⟨st, hst, h0, hPA, hPF⟩ := id T.1
  have IV1 := T.2.2.2.2.2.2.2.1
  have CV1 := T.2.2.2.2.2.2.2.2
  have IVn := IV1.1
  have CVm := CV1.1
  show X G K 3 0 [some (.ref (ad 0)), some (vi v), some (vi w)] [] h 0 0
  refine x_iload_n C dX8_totalWith_0 rfl rfl ?_
  refine x_invS C s_Tab_91 (st := []) (c_needCapo hv) rfl rfl (Nat.le_of_ble_eq_true rfl) (xRm_of hR (by omega) (by decide) (by omega) (by omega)) dX8_totalWith_1 (fun r9 h9 hq => ?_)
  obtain ⟨rfl, e9⟩ := hq
  have e9 := e9.symm
  subst e9
  refine x_iload_n C dX8_totalWith_4 rfl rfl ?_
  exact xt_invS C ET s_Tab_97 (st := []) (c_needReach_no hw hs) rfl rfl (Nat.le_of_ble_eq_true rfl) (xRm_of hR (by omega) (by decide) (by omega) (by omega)) dX8_totalWith_5 (by omega) (by omega)

set_option maxRecDepth 100000 in
theorem pk_bci : ∀ n, n < 4096 → bci n = pk n 12 := by decide +kernel

set_option maxRecDepth 100000 in
set_option maxHeartbeats 4000000 in
theorem c_needVoicing_no {G : xG} {h : PH} {v w1 w2 : Int} (hv : bd v) (hw1 : bd w1) (hw2 : bd w2) (hi : isV v w1 w2 = false)  : Tn G m_Tab_needVoicing 6 1 6 [vi v, vi w1, vi w2] h "java/lang/IllegalArgumentException" := by
  refine Tn_of (by decide) (Nat.le_of_ble_eq_true rfl) (fun K C hR ET => ?_)
  have hi9 := of_decide_eq_false hi
  show X G K 3 0 [some (vi v), some (vi w1), some (vi w2)] [] h 0 0
  refine x_iload_n C dX8_needVoicing_0 rfl rfl ?_
  refine x_iconst C dX8_needVoicing_1 ?_
  refine x_icmp_lt C (tgt := 20) dX8_needVoicing_2 (by decide) hv (by decide) (fun c2 => ?_) (fun c2 => ?_)
  · skip
    exact x_thrW C ET (text := "no such set of classes") (by decide +kernel) wk_107 wi_IllegalArgumentException ws_339 wt_111 wu_111 (by decide) (Nat.le_of_ble_eq_true rfl) hR (by omega) (by omega) (by omega) dX8_needVoicing_20 dX8_needVoicing_23 dX8_needVoicing_24 dX8_needVoicing_27 dX8_needVoicing_30
  · skip
    refine x_iload_n C dX8_needVoicing_5 rfl rfl ?_
    refine x_sipush C (z := 4095) dX8_needVoicing_6 (by decide) ?_
    refine x_icmp_gt C (tgt := 20) dX8_needVoicing_9 (by decide) hv (by decide) (fun c9 => ?_) (fun c9 => ?_)
    · skip
      exact x_thrW C ET (text := "no such set of classes") (by decide +kernel) wk_107 wi_IllegalArgumentException ws_339 wt_111 wu_111 (by decide) (Nat.le_of_ble_eq_true rfl) hR (by omega) (by omega) (by omega) dX8_needVoicing_20 dX8_needVoicing_23 dX8_needVoicing_24 dX8_needVoicing_27 dX8_needVoicing_30
    · skip
      refine x_iload_n C dX8_needVoicing_12 rfl rfl ?_
      refine x_invS C s_Tab_334 (st := []) (c_bitCount (I v)) rfl rfl (Nat.le_of_ble_eq_true rfl) (xRm_of hR (by omega) (by decide) (by omega) (by omega)) dX8_needVoicing_13 (fun r9 h9 hq => ?_)
      obtain ⟨rfl, e9⟩ := hq
      have e9 := e9.symm
      subst e9
      have hpk := pk_bci v.toNat (by omega)
      rw [show I v = I ((v.toNat : Nat) : Int) from congrArg I (by omega)]
      rw [(bci_rg v.toNat).2.2]
      refine x_iconst C dX8_needVoicing_16 ?_
      refine x_icmp_le C (tgt := 31) dX8_needVoicing_17 (by decide) ⟨by have := (bci_rg v.toNat); omega, by have := (bci_rg v.toNat); omega⟩ (by decide) (fun c17 => ?_) (fun c17 => ?_)
      · skip
        refine x_iload_n C dX8_needVoicing_31 rfl rfl ?_
        refine x_if_lt C (tgt := 49) dX8_needVoicing_32 (by decide) hw1 (fun c32 => ?_) (fun c32 => ?_)
        · skip
          exact x_thrW C ET (text := "no such bass") (by decide +kernel) wk_107 wi_IllegalArgumentException ws_341 wt_111 wu_111 (by decide) (Nat.le_of_ble_eq_true rfl) hR (by omega) (by omega) (by omega) dX8_needVoicing_49 dX8_needVoicing_52 dX8_needVoicing_53 dX8_needVoicing_56 dX8_needVoicing_59
        · skip
          refine x_iload_n C dX8_needVoicing_35 rfl rfl ?_
          refine x_bipush C (z := 12) dX8_needVoicing_36 (by decide) ?_
          refine x_icmp_ge C (tgt := 49) dX8_needVoicing_38 (by decide) hw1 (by decide) (fun c38 => ?_) (fun c38 => ?_)
          · skip
            exact x_thrW C ET (text := "no such bass") (by decide +kernel) wk_107 wi_IllegalArgumentException ws_341 wt_111 wu_111 (by decide) (Nat.le_of_ble_eq_true rfl) hR (by omega) (by omega) (by omega) dX8_needVoicing_49 dX8_needVoicing_52 dX8_needVoicing_53 dX8_needVoicing_56 dX8_needVoicing_59
          · skip
            refine x_iload_n C dX8_needVoicing_41 rfl rfl ?_
            refine x_iload_n C dX8_needVoicing_42 rfl rfl ?_
            refine x_ishr C (c := ((v.toNat / 2 ^ w1.toNat : Nat) : Int)) dX8_needVoicing_43 (by rw [show v = ((v.toNat : Nat) : Int) by omega]; rw [show I w1 = I ((w1.toNat : Nat) : Int) from congrArg I (by omega)]; exact sh_r (by omega) (by omega)) ?_
            refine x_iconst C dX8_needVoicing_44 ?_
            refine x_iand C (c := ((v.toNat / 2 ^ w1.toNat % 2 : Nat) : Int)) dX8_needVoicing_45 (by rw [show (1 : Int) = ((1 : Nat) : Int) from rfl, I_and]; exact congrArg (fun n : Nat => I (n : Int)) (Nat.and_two_pow_sub_one_eq_mod _ 1)) ?_
            have hm2 : v.toNat / 2 ^ w1.toNat % 2 < 2 := Nat.mod_lt _ (by decide)
            refine x_if_ne C (tgt := 60) dX8_needVoicing_46 (by decide) (by have : v.toNat / 2 ^ w1.toNat % 2 < 2 := Nat.mod_lt _ (by decide); exact ⟨by omega, by omega⟩) (fun c46 => ?_) (fun c46 => ?_)
            · skip
              refine x_iload_n C dX8_needVoicing_60 rfl rfl ?_
              refine x_iconst C dX8_needVoicing_61 ?_
              refine x_icmp_lt C (tgt := 71) dX8_needVoicing_62 (by decide) hw2 (by decide) (fun c62 => ?_) (fun c62 => ?_)
              · skip
                exact x_thrW C ET (text := "no such fret") (by decide +kernel) wk_107 wi_IllegalArgumentException ws_343 wt_111 wu_111 (by decide) (Nat.le_of_ble_eq_true rfl) hR (by omega) (by omega) (by omega) dX8_needVoicing_71 dX8_needVoicing_74 dX8_needVoicing_75 dX8_needVoicing_78 dX8_needVoicing_81
              · skip
                refine x_iload_n C dX8_needVoicing_65 rfl rfl ?_
                refine x_bipush C (z := 9) dX8_needVoicing_66 (by decide) ?_
                refine x_icmp_le C (tgt := 82) dX8_needVoicing_68 (by decide) hw2 (by decide) (fun c68 => ?_) (fun c68 => ?_)
                · skip
                  exfalso
                  apply hi9
                  omega
                · skip
                  exact x_thrW C ET (text := "no such fret") (by decide +kernel) wk_107 wi_IllegalArgumentException ws_343 wt_111 wu_111 (by decide) (Nat.le_of_ble_eq_true rfl) hR (by omega) (by omega) (by omega) dX8_needVoicing_71 dX8_needVoicing_74 dX8_needVoicing_75 dX8_needVoicing_78 dX8_needVoicing_81
            · skip
              exact x_thrW C ET (text := "no such bass") (by decide +kernel) wk_107 wi_IllegalArgumentException ws_341 wt_111 wu_111 (by decide) (Nat.le_of_ble_eq_true rfl) hR (by omega) (by omega) (by omega) dX8_needVoicing_49 dX8_needVoicing_52 dX8_needVoicing_53 dX8_needVoicing_56 dX8_needVoicing_59
      · skip
        exact x_thrW C ET (text := "no such set of classes") (by decide +kernel) wk_107 wi_IllegalArgumentException ws_339 wt_111 wu_111 (by decide) (Nat.le_of_ble_eq_true rfl) hR (by omega) (by omega) (by omega) dX8_needVoicing_20 dX8_needVoicing_23 dX8_needVoicing_24 dX8_needVoicing_27 dX8_needVoicing_30

set_option maxRecDepth 100000 in
set_option maxHeartbeats 4000000 in
theorem c_shapes_no {G : xG} {h : PH} {ad : Nat → Nat} (hj : ∀ i j, i < 300 → j < 300 → ad i = ad j → i = j) {fq : Bool} {Q : Ins} {P : Pie} (T : TabR G h ad fq Q P) {v w1 w2 : Int} (hv : bd v) (hw1 : bd w1) (hw2 : bd w2) (hi : isV v w1 w2 = false)  : Tn G m_Tab_shapes 7 1 6 [.ref (ad 0), vi v, vi w1, vi w2] h "java/lang/IllegalArgumentException" := by
  refine Tn_of (by decide) (Nat.le_of_ble_eq_true rfl) (fun K C hR ET => ?_)
  obtain ⟨st, hst, h0, hPA, hPF⟩ := id T.1
  have IV1 := T.2.2.2.2.2.2.2.1
  have CV1 := T.2.2.2.2.2.2.2.2
  have IVn := IV1.1
  have CVm := CV1.1
  show X G K 4 0 [some (.ref (ad 0)), some (vi v), some (vi w1), some (vi w2)] [] h 0 0
  refine x_iload_n C dX8_shapes_0 rfl rfl ?_
  refine x_iload_n C dX8_shapes_1 rfl rfl ?_
  refine x_iload_n C dX8_shapes_2 rfl rfl ?_
  exact xt_invS C ET s_Tab_207 (st := []) (c_needVoicing_no hv hw1 hw2 hi) rfl rfl (Nat.le_of_ble_eq_true rfl) (xRm_of hR (by omega) (by decide) (by omega) (by omega)) dX8_shapes_3 (by omega) (by omega)

set_option maxRecDepth 100000 in
set_option maxHeartbeats 4000000 in
theorem c_shapeEffort_no {G : xG} {h : PH} {ad : Nat → Nat} (hj : ∀ i j, i < 300 → j < 300 → ad i = ad j → i = j) {fq : Bool} {Q : Ins} {P : Pie} (T : TabR G h ad fq Q P) {v w1 w2 : Int} (hv : bd v) (hw1 : bd w1) (hw2 : bd w2) (hi : isV v w1 w2 = false)  : Tn G m_Tab_shapeEffort 7 1 6 [.ref (ad 0), vi v, vi w1, vi w2] h "java/lang/IllegalArgumentException" := by
  refine Tn_of (by decide) (Nat.le_of_ble_eq_true rfl) (fun K C hR ET => ?_)
  obtain ⟨st, hst, h0, hPA, hPF⟩ := id T.1
  have IV1 := T.2.2.2.2.2.2.2.1
  have CV1 := T.2.2.2.2.2.2.2.2
  have IVn := IV1.1
  have CVm := CV1.1
  show X G K 4 0 [some (.ref (ad 0)), some (vi v), some (vi w1), some (vi w2)] [] h 0 0
  refine x_iload_n C dX8_shapeEffort_0 rfl rfl ?_
  refine x_iload_n C dX8_shapeEffort_1 rfl rfl ?_
  refine x_iload_n C dX8_shapeEffort_2 rfl rfl ?_
  exact xt_invS C ET s_Tab_207 (st := []) (c_needVoicing_no hv hw1 hw2 hi) rfl rfl (Nat.le_of_ble_eq_true rfl) (xRm_of hR (by omega) (by decide) (by omega) (by omega)) dX8_shapeEffort_3 (by omega) (by omega)

/-- a chord that is written -/
def chOK (a b c d l : Int) : Prop := (0 ≤ a ∧ a ≤ 80) ∧ (-1 ≤ b ∧ b ≤ 80) ∧ (-1 ≤ c ∧ c ≤ 80) ∧ (-1 ≤ d ∧ d ≤ 80) ∧ twice a b c d = false ∧ 1 ≤ l ∧ l ≤ 8

set_option maxRecDepth 100000 in
set_option maxHeartbeats 4000000 in
theorem c_chord_no {G : xG} {h : PH} {ad : Nat → Nat} (hj : ∀ i j, i < 300 → j < 300 → ad i = ad j → i = j) {fq : Bool} {Q : Ins} {P : Pie} (T : TabR G h ad fq Q P) {a b c d l : Int} (ha : bd a) (hb : bd b) (hc : bd c) (hd9 : bd d) (hl : bd l) (hn : ¬ chOK a b c d l) (hm : P.m < 12)  : Tn G m_Tab_chord 6 1 6 [.ref (ad 0), vi a, vi b, vi c, vi d, vi l] h "java/lang/IllegalArgumentException" := by
  refine Tn_of (by decide) (Nat.le_of_ble_eq_true rfl) (fun K C hR ET => ?_)
  obtain ⟨st, hst, h0, hPA, hPF⟩ := id T.1
  have IV1 := T.2.2.2.2.2.2.2.1
  have CV1 := T.2.2.2.2.2.2.2.2
  have IVn := IV1.1
  have CVm := CV1.1
  show X G K 7 0 [some (.ref (ad 0)), some (vi a), some (vi b), some (vi c), some (vi d), some (vi l), none] [] h 0 0
  refine x_iload_n C dX8_chord_0 rfl rfl ?_
  refine x_invS C s_Tab_103 (st := []) (c_isPitch ha) rfl rfl (Nat.le_of_ble_eq_true rfl) (xRm_of hR (by omega) (by decide) (by omega) (by omega)) dX8_chord_1 (fun r9 h9 hq => ?_)
  obtain ⟨rfl, e9⟩ := hq
  have e9 := e9.symm
  subst e9
  refine x_ifeqB C (tgt := 29) dX8_chord_4 (by decide) (fun c4 => ?_) (fun c4 => ?_)
  · skip
    exact x_thrN C ET (text := "no such pitch") (by decide +kernel) wk_107 wi_IllegalArgumentException ws_109 wt_111 wu_111 (by decide) (Nat.le_of_ble_eq_true rfl) hR (by omega) (by omega) (by omega) dX8_chord_29 dX8_chord_32 dX8_chord_33 dX8_chord_35 dX8_chord_38
  · skip
    refine x_iload_n C dX8_chord_7 rfl rfl ?_
    refine x_invS C s_Tab_116 (st := []) (c_isPitchOrNone hb) rfl rfl (Nat.le_of_ble_eq_true rfl) (xRm_of hR (by omega) (by decide) (by omega) (by omega)) dX8_chord_8 (fun r9 h9 hq => ?_)
    obtain ⟨rfl, e9⟩ := hq
    have e9 := e9.symm
    subst e9
    refine x_ifeqB C (tgt := 29) dX8_chord_11 (by decide) (fun c11 => ?_) (fun c11 => ?_)
    · skip
      exact x_thrN C ET (text := "no such pitch") (by decide +kernel) wk_107 wi_IllegalArgumentException ws_109 wt_111 wu_111 (by decide) (Nat.le_of_ble_eq_true rfl) hR (by omega) (by omega) (by omega) dX8_chord_29 dX8_chord_32 dX8_chord_33 dX8_chord_35 dX8_chord_38
    · skip
      refine x_iload_n C dX8_chord_14 rfl rfl ?_
      refine x_invS C s_Tab_116 (st := []) (c_isPitchOrNone hc) rfl rfl (Nat.le_of_ble_eq_true rfl) (xRm_of hR (by omega) (by decide) (by omega) (by omega)) dX8_chord_15 (fun r9 h9 hq => ?_)
      obtain ⟨rfl, e9⟩ := hq
      have e9 := e9.symm
      subst e9
      refine x_ifeqB C (tgt := 29) dX8_chord_18 (by decide) (fun c18 => ?_) (fun c18 => ?_)
      · skip
        exact x_thrN C ET (text := "no such pitch") (by decide +kernel) wk_107 wi_IllegalArgumentException ws_109 wt_111 wu_111 (by decide) (Nat.le_of_ble_eq_true rfl) hR (by omega) (by omega) (by omega) dX8_chord_29 dX8_chord_32 dX8_chord_33 dX8_chord_35 dX8_chord_38
      · skip
        refine x_iload C dX8_chord_21 rfl ?_
        refine x_invS C s_Tab_116 (st := []) (c_isPitchOrNone hd9) rfl rfl (Nat.le_of_ble_eq_true rfl) (xRm_of hR (by omega) (by decide) (by omega) (by omega)) dX8_chord_23 (fun r9 h9 hq => ?_)
        obtain ⟨rfl, e9⟩ := hq
        have e9 := e9.symm
        subst e9
        refine x_ifneB C (tgt := 39) dX8_chord_26 (by decide) (fun c26 => ?_) (fun c26 => ?_)
        · skip
          refine x_iload_n C dX8_chord_39 rfl rfl ?_
          refine x_iload_n C dX8_chord_40 rfl rfl ?_
          refine x_iload_n C dX8_chord_41 rfl rfl ?_
          refine x_iload C dX8_chord_42 rfl ?_
          refine x_invS C s_Tab_119 (st := []) (c_hasTwice ha hb hc hd9) rfl rfl (Nat.le_of_ble_eq_true rfl) (xRm_of hR (by omega) (by decide) (by omega) (by omega)) dX8_chord_44 (fun r9 h9 hq => ?_)
          obtain ⟨rfl, e9⟩ := hq
          have e9 := e9.symm
          subst e9
          refine x_ifeqB C (tgt := 60) dX8_chord_47 (by decide) (fun c47 => ?_) (fun c47 => ?_)
          · skip
            refine x_iload C dX8_chord_60 rfl ?_
            refine x_iconst C dX8_chord_62 ?_
            refine x_icmp_lt C (tgt := 73) dX8_chord_63 (by decide) hl (by decide) (fun c63 => ?_) (fun c63 => ?_)
            · skip
              exact x_thrN C ET (text := "no such length") (by decide +kernel) wk_107 wi_IllegalArgumentException ws_125 wt_111 wu_111 (by decide) (Nat.le_of_ble_eq_true rfl) hR (by omega) (by omega) (by omega) dX8_chord_73 dX8_chord_76 dX8_chord_77 dX8_chord_79 dX8_chord_82
            · skip
              refine x_iload C dX8_chord_66 rfl ?_
              refine x_bipush C (z := 8) dX8_chord_68 (by decide) ?_
              refine x_icmp_le C (tgt := 83) dX8_chord_70 (by decide) hl (by decide) (fun c70 => ?_) (fun c70 => ?_)
              · skip
                exact absurd ⟨of_decide_eq_true c4, of_decide_eq_true c11, of_decide_eq_true c18, of_decide_eq_true c26, c47, by omega, by omega⟩ hn
              · skip
                exact x_thrN C ET (text := "no such length") (by decide +kernel) wk_107 wi_IllegalArgumentException ws_125 wt_111 wu_111 (by decide) (Nat.le_of_ble_eq_true rfl) hR (by omega) (by omega) (by omega) dX8_chord_73 dX8_chord_76 dX8_chord_77 dX8_chord_79 dX8_chord_82
          · skip
            exact x_thrN C ET (text := "two are the same pitch") (by decide +kernel) wk_107 wi_IllegalArgumentException ws_123 wt_111 wu_111 (by decide) (Nat.le_of_ble_eq_true rfl) hR (by omega) (by omega) (by omega) dX8_chord_50 dX8_chord_53 dX8_chord_54 dX8_chord_56 dX8_chord_59
        · skip
          exact x_thrN C ET (text := "no such pitch") (by decide +kernel) wk_107 wi_IllegalArgumentException ws_109 wt_111 wu_111 (by decide) (Nat.le_of_ble_eq_true rfl) hR (by omega) (by omega) (by omega) dX8_chord_29 dX8_chord_32 dX8_chord_33 dX8_chord_35 dX8_chord_38
