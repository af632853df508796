/-! The law's helpers: one call of the class, and what it throws. -/
set_option maxRecDepth 100000 in
set_option maxHeartbeats 4000000 in
theorem c_H_string_no {G : xG} {h : PH} {b o d : Nat} {fs : List Value} {w1 : Int} (hb : h b = xO 7 fs) (hM : Tn G m_Tab_string d 1 6 [.ref b, vi w1] h "java/lang/IllegalArgumentException")  : Hn G m_Law_string hh_string (d + 1) 1 6 [.ref b, vi w1, .ref o] h (fun r h' => r = some (vi 1) ∧ h' = h) := by
  refine Hn_of (by decide) (Nat.le_of_ble_eq_true rfl) (fun K C hR EH => ?_)
  show X G K 4 0 [some (.ref b), some (vi w1), some (.ref o), none] [] h 0 0
  refine x_aload_n C dL_string_0 rfl rfl ?_
  refine x_iconst C dL_string_1 ?_
  refine x_aload_n C dL_string_2 rfl rfl ?_
  refine x_iload_n C dL_string_3 rfl rfl ?_
  refine xh_invV C EH s_Law_7 (st := [vi 0, .ref o]) (hM) hb rfl rfl (Nat.le_of_ble_eq_true rfl) (xRm_of hR (by omega) (by decide) (by omega) (by omega)) dL_string_4 (x := ⟨0, 9, 12, 13⟩) rfl (by decide) (by decide) wl_Law_13 (by decide) (fun q9 => ?_)
  refine x_astore_n C (ls' := [some (.ref b), some (vi w1), some (.ref o), some (.ref q9)]) dL_string_12 rfl (by decide) rfl ?_
  refine x_iconst C dL_string_13 ?_
  exact xh_iret C EH rfl (by omega) (by omega) dL_string_14 (⟨rfl, rfl⟩)

set_option maxRecDepth 100000 in
set_option maxHeartbeats 4000000 in
theorem c_H_string_ok {G : xG} {h : PH} {b o d : Nat} {fs : List Value} {w1 : Int} (hb : h b = xO 7 fs) {z : Int} {PP : PH → Prop} {go : Nat → Int64} (hM : Cn G m_Tab_string d 0 0 [.ref b, vi w1] h (fun r h' => r = some (vi z) ∧ PP h')) (hP : ∀ h', PP h' → h' o = xL G 1 go)  : Hn G m_Law_string hh_string (d + 1) 0 0 [.ref b, vi w1, .ref o] h (fun r h' => r = some (vi 0) ∧ ∃ h1, PP h1 ∧ h' = va_up h1 o (xL G 1 (vp_updL go 0 (I z).toInt64))) := by
  refine Hn_of (by decide) (Nat.le_of_ble_eq_true rfl) (fun K C hR EH => ?_)
  show X G K 4 0 [some (.ref b), some (vi w1), some (.ref o), none] [] h 0 0
  refine x_aload_n C dL_string_0 rfl rfl ?_
  refine x_iconst C dL_string_1 ?_
  refine x_aload_n C dL_string_2 rfl rfl ?_
  refine x_iload_n C dL_string_3 rfl rfl ?_
  refine x_invV C s_Law_7 (st := [vi 0, .ref o]) (hM) hb rfl rfl (Nat.le_of_ble_eq_true rfl) (xRm_of hR (by omega) (by decide) (by omega) (by omega)) dL_string_4 (fun r9 h9 hq => ?_)
  obtain ⟨rfl, p9⟩ := hq
  refine x_i2l C dL_string_7 ?_
  refine x_last C (hP _ p9) ⟨by omega, by omega, by omega⟩ dL_string_8 ?_
  refine x_goto C (tgt := 18) dL_string_9 (by decide) ?_
  refine x_iconst C dL_string_18 ?_
  exact xh_iret C EH rfl (by omega) (by omega) dL_string_19 (⟨rfl, h9, p9, rfl⟩)

set_option maxRecDepth 100000 in
set_option maxHeartbeats 4000000 in
theorem c_H_tune_no {G : xG} {h : PH} {b o d : Nat} {fs : List Value} {w1 w2 : Int} (hb : h b = xO 7 fs) (hM : Tn G m_Tab_tune d 1 6 [.ref b, vi w1, vi w2] h "java/lang/IndexOutOfBoundsException")  : Hn G m_Law_tune hh_tune (d + 1) 1 6 [.ref b, vi w1, vi w2, .ref o] h (fun r h' => r = some (vi 1) ∧ h' = h) := by
  refine Hn_of (by decide) (Nat.le_of_ble_eq_true rfl) (fun K C hR EH => ?_)
  show X G K 5 0 [some (.ref b), some (vi w1), some (vi w2), some (.ref o), none] [] h 0 0
  refine x_aload_n C dL_tune_0 rfl rfl ?_
  refine x_iconst C dL_tune_1 ?_
  refine x_aload_n C dL_tune_2 rfl rfl ?_
  refine x_iload_n C dL_tune_3 rfl rfl ?_
  refine x_iload_n C dL_tune_4 rfl rfl ?_
  refine xh_invV C EH s_Law_17 (st := [vi 0, .ref o]) (hM) hb rfl rfl (Nat.le_of_ble_eq_true rfl) (xRm_of hR (by omega) (by decide) (by omega) (by omega)) dL_tune_5 (x := ⟨0, 10, 13, 21⟩) rfl (by decide) (by decide) wl_Law_21 (by decide) (fun q9 => ?_)
  refine x_astore C (ls' := [some (.ref b), some (vi w1), some (vi w2), some (.ref o), some (.ref q9)]) dL_tune_13 (by decide) rfl ?_
  refine x_iconst C dL_tune_15 ?_
  exact xh_iret C EH rfl (by omega) (by omega) dL_tune_16 (⟨rfl, rfl⟩)

set_option maxRecDepth 100000 in
set_option maxHeartbeats 4000000 in
theorem c_H_slacken_no {G : xG} {h : PH} {b o d : Nat} {fs : List Value} {w1 w2 : Int} (hb : h b = xO 7 fs) (hM : Tn G m_Tab_slacken d 1 6 [.ref b, vi w1, vi w2] h "java/lang/IndexOutOfBoundsException")  : Hn G m_Law_slacken hh_slacken (d + 1) 1 6 [.ref b, vi w1, vi w2, .ref o] h (fun r h' => r = some (vi 1) ∧ h' = h) := by
  refine Hn_of (by decide) (Nat.le_of_ble_eq_true rfl) (fun K C hR EH => ?_)
  show X G K 5 0 [some (.ref b), some (vi w1), some (vi w2), some (.ref o), none] [] h 0 0
  refine x_aload_n C dL_slacken_0 rfl rfl ?_
  refine x_iconst C dL_slacken_1 ?_
  refine x_aload_n C dL_slacken_2 rfl rfl ?_
  refine x_iload_n C dL_slacken_3 rfl rfl ?_
  refine x_iload_n C dL_slacken_4 rfl rfl ?_
  refine xh_invV C EH s_Law_23 (st := [vi 0, .ref o]) (hM) hb rfl rfl (Nat.le_of_ble_eq_true rfl) (xRm_of hR (by omega) (by decide) (by omega) (by omega)) dL_slacken_5 (x := ⟨0, 10, 13, 21⟩) rfl (by decide) (by decide) wl_Law_21 (by decide) (fun q9 => ?_)
  refine x_astore C (ls' := [some (.ref b), some (vi w1), some (vi w2), some (.ref o), some (.ref q9)]) dL_slacken_13 (by decide) rfl ?_
  refine x_iconst C dL_slacken_15 ?_
  exact xh_iret C EH rfl (by omega) (by omega) dL_slacken_16 (⟨rfl, rfl⟩)

set_option maxRecDepth 100000 in
set_option maxHeartbeats 4000000 in
theorem c_H_capo_no {G : xG} {h : PH} {b o d : Nat} {fs : List Value} {w1 : Int} (hb : h b = xO 7 fs) (hM : Tn G m_Tab_capo d 1 6 [.ref b, vi w1] h "java/lang/IllegalArgumentException")  : Hn G m_Law_capo hh_capo (d + 1) 1 6 [.ref b, vi w1, .ref o] h (fun r h' => r = some (vi 1) ∧ h' = h) := by
  refine Hn_of (by decide) (Nat.le_of_ble_eq_true rfl) (fun K C hR EH => ?_)
  show X G K 4 0 [some (.ref b), some (vi w1), some (.ref o), none] [] h 0 0
  refine x_aload_n C dL_capo_0 rfl rfl ?_
  refine x_iconst C dL_capo_1 ?_
  refine x_aload_n C dL_capo_2 rfl rfl ?_
  refine x_iload_n C dL_capo_3 rfl rfl ?_
  refine xh_invV C EH s_Law_27 (st := [vi 0, .ref o]) (hM) hb rfl rfl (Nat.le_of_ble_eq_true rfl) (xRm_of hR (by omega) (by decide) (by omega) (by omega)) dL_capo_4 (x := ⟨0, 9, 12, 13⟩) rfl (by decide) (by decide) wl_Law_13 (by decide) (fun q9 => ?_)
  refine x_astore_n C (ls' := [some (.ref b), some (vi w1), some (.ref o), some (.ref q9)]) dL_capo_12 rfl (by decide) rfl ?_
  refine x_iconst C dL_capo_13 ?_
  exact xh_iret C EH rfl (by omega) (by omega) dL_capo_14 (⟨rfl, rfl⟩)

set_option maxRecDepth 100000 in
set_option maxHeartbeats 4000000 in
theorem c_H_capo_ok {G : xG} {h : PH} {b o d : Nat} {fs : List Value} {w1 : Int} (hb : h b = xO 7 fs) {z : Int} {PP : PH → Prop} {go : Nat → Int64} (hM : Cn G m_Tab_capo d 0 0 [.ref b, vi w1] h (fun r h' => r = some (vi z) ∧ PP h')) (hP : ∀ h', PP h' → h' o = xL G 1 go)  : Hn G m_Law_capo hh_capo (d + 1) 0 0 [.ref b, vi w1, .ref o] h (fun r h' => r = some (vi 0) ∧ ∃ h1, PP h1 ∧ h' = va_up h1 o (xL G 1 (vp_updL go 0 (I z).toInt64))) := by
  refine Hn_of (by decide) (Nat.le_of_ble_eq_true rfl) (fun K C hR EH => ?_)
  show X G K 4 0 [some (.ref b), some (vi w1), some (.ref o), none] [] h 0 0
  refine x_aload_n C dL_capo_0 rfl rfl ?_
  refine x_iconst C dL_capo_1 ?_
  refine x_aload_n C dL_capo_2 rfl rfl ?_
  refine x_iload_n C dL_capo_3 rfl rfl ?_
  refine x_invV C s_Law_27 (st := [vi 0, .ref o]) (hM) hb rfl rfl (Nat.le_of_ble_eq_true rfl) (xRm_of hR (by omega) (by decide) (by omega) (by omega)) dL_capo_4 (fun r9 h9 hq => ?_)
  obtain ⟨rfl, p9⟩ := hq
  refine x_i2l C dL_capo_7 ?_
  refine x_last C (hP _ p9) ⟨by omega, by omega, by omega⟩ dL_capo_8 ?_
  refine x_goto C (tgt := 15) dL_capo_9 (by decide) ?_
  refine x_iconst C dL_capo_15 ?_
  exact xh_iret C EH rfl (by omega) (by omega) dL_capo_16 (⟨rfl, h9, p9, rfl⟩)

set_option maxRecDepth 100000 in
set_option maxHeartbeats 4000000 in
theorem c_H_reach_no {G : xG} {h : PH} {b o d : Nat} {fs : List Value} {w1 : Int} (hb : h b = xO 7 fs) (hM : Tn G m_Tab_reach d 1 6 [.ref b, vi w1] h "java/lang/IllegalArgumentException")  : Hn G m_Law_reach hh_reach (d + 1) 1 6 [.ref b, vi w1, .ref o] h (fun r h' => r = some (vi 1) ∧ h' = h) := by
  refine Hn_of (by decide) (Nat.le_of_ble_eq_true rfl) (fun K C hR EH => ?_)
  show X G K 4 0 [some (.ref b), some (vi w1), some (.ref o), none] [] h 0 0
  refine x_aload_n C dL_reach_0 rfl rfl ?_
  refine x_iconst C dL_reach_1 ?_
  refine x_aload_n C dL_reach_2 rfl rfl ?_
  refine x_iload_n C dL_reach_3 rfl rfl ?_
  refine xh_invV C EH s_Law_30 (st := [vi 0, .ref o]) (hM) hb rfl rfl (Nat.le_of_ble_eq_true rfl) (xRm_of hR (by omega) (by decide) (by omega) (by omega)) dL_reach_4 (x := ⟨0, 9, 12, 13⟩) rfl (by decide) (by decide) wl_Law_13 (by decide) (fun q9 => ?_)
  refine x_astore_n C (ls' := [some (.ref b), some (vi w1), some (.ref o), some (.ref q9)]) dL_reach_12 rfl (by decide) rfl ?_
  refine x_iconst C dL_reach_13 ?_
  exact xh_iret C EH rfl (by omega) (by omega) dL_reach_14 (⟨rfl, rfl⟩)

set_option maxRecDepth 100000 in
set_option maxHeartbeats 4000000 in
theorem c_H_reach_ok {G : xG} {h : PH} {b o d : Nat} {fs : List Value} {w1 : Int} (hb : h b = xO 7 fs) {z : Int} {PP : PH → Prop} {go : Nat → Int64} (hM : Cn G m_Tab_reach d 0 0 [.ref b, vi w1] h (fun r h' => r = some (vi z) ∧ PP h')) (hP : ∀ h', PP h' → h' o = xL G 1 go)  : Hn G m_Law_reach hh_reach (d + 1) 0 0 [.ref b, vi w1, .ref o] h (fun r h' => r = some (vi 0) ∧ ∃ h1, PP h1 ∧ h' = va_up h1 o (xL G 1 (vp_updL go 0 (I z).toInt64))) := by
  refine Hn_of (by decide) (Nat.le_of_ble_eq_true rfl) (fun K C hR EH => ?_)
  show X G K 4 0 [some (.ref b), some (vi w1), some (.ref o), none] [] h 0 0
  refine x_aload_n C dL_reach_0 rfl rfl ?_
  refine x_iconst C dL_reach_1 ?_
  refine x_aload_n C dL_reach_2 rfl rfl ?_
  refine x_iload_n C dL_reach_3 rfl rfl ?_
  refine x_invV C s_Law_30 (st := [vi 0, .ref o]) (hM) hb rfl rfl (Nat.le_of_ble_eq_true rfl) (xRm_of hR (by omega) (by decide) (by omega) (by omega)) dL_reach_4 (fun r9 h9 hq => ?_)
  obtain ⟨rfl, p9⟩ := hq
  refine x_i2l C dL_reach_7 ?_
  refine x_last C (hP _ p9) ⟨by omega, by omega, by omega⟩ dL_reach_8 ?_
  refine x_goto C (tgt := 15) dL_reach_9 (by decide) ?_
  refine x_iconst C dL_reach_15 ?_
  exact xh_iret C EH rfl (by omega) (by omega) dL_reach_16 (⟨rfl, h9, p9, rfl⟩)

set_option maxRecDepth 100000 in
set_option maxHeartbeats 4000000 in
theorem c_H_fretOf_no {G : xG} {h : PH} {b o d : Nat} {fs : List Value} {w1 w2 : Int} (hb : h b = xO 7 fs) (hM : Tn G m_Tab_fretOf d 1 6 [.ref b, vi w1, vi w2] h "java/lang/IndexOutOfBoundsException")  : Hn G m_Law_fretOf hh_fretOf (d + 1) 1 6 [.ref b, vi w1, vi w2, .ref o] h (fun r h' => r = some (vi 1) ∧ h' = h) := by
  refine Hn_of (by decide) (Nat.le_of_ble_eq_true rfl) (fun K C hR EH => ?_)
  show X G K 5 0 [some (.ref b), some (vi w1), some (vi w2), some (.ref o), none] [] h 0 0
  refine x_aload_n C dL_fretOf_0 rfl rfl ?_
  refine x_iconst C dL_fretOf_1 ?_
  refine x_aload_n C dL_fretOf_2 rfl rfl ?_
  refine x_iload_n C dL_fretOf_3 rfl rfl ?_
  refine x_iload_n C dL_fretOf_4 rfl rfl ?_
  refine xh_invV C EH s_Law_33 (st := [vi 0, .ref o]) (hM) hb rfl rfl (Nat.le_of_ble_eq_true rfl) (xRm_of hR (by omega) (by decide) (by omega) (by omega)) dL_fretOf_5 (x := ⟨0, 10, 13, 21⟩) rfl (by decide) (by decide) wl_Law_21 (by decide) (fun q9 => ?_)
  refine x_astore C (ls' := [some (.ref b), some (vi w1), some (vi w2), some (.ref o), some (.ref q9)]) dL_fretOf_13 (by decide) rfl ?_
  refine x_iconst C dL_fretOf_15 ?_
  exact xh_iret C EH rfl (by omega) (by omega) dL_fretOf_16 (⟨rfl, rfl⟩)

set_option maxRecDepth 100000 in
set_option maxHeartbeats 4000000 in
theorem c_H_chord_no {G : xG} {h : PH} {b o d : Nat} {fs : List Value} {w1 w2 w3 w4 w5 : Int} (hb : h b = xO 7 fs) (hM : Tn G m_Tab_chord d 1 6 [.ref b, vi w1, vi w2, vi w3, vi w4, vi w5] h "java/lang/IllegalArgumentException")  : Hn G m_Law_chord hh_chord (d + 1) 1 6 [.ref b, vi w1, vi w2, vi w3, vi w4, vi w5, .ref o] h (fun r h' => r = some (vi 1) ∧ h' = h) := by
  refine Hn_of (by decide) (Nat.le_of_ble_eq_true rfl) (fun K C hR EH => ?_)
  show X G K 8 0 [some (.ref b), some (vi w1), some (vi w2), some (vi w3), some (vi w4), some (vi w5), some (.ref o), none] [] h 0 0
  refine x_aload C dL_chord_0 rfl ?_
  refine x_iconst C dL_chord_2 ?_
  refine x_aload_n C dL_chord_3 rfl rfl ?_
  refine x_iload_n C dL_chord_4 rfl rfl ?_
  refine x_iload_n C dL_chord_5 rfl rfl ?_
  refine x_iload_n C dL_chord_6 rfl rfl ?_
  refine x_iload C dL_chord_7 rfl ?_
  refine x_iload C dL_chord_9 rfl ?_
  refine xh_invV C EH s_Law_36 (st := [vi 0, .ref o]) (hM) hb rfl rfl (Nat.le_of_ble_eq_true rfl) (xRm_of hR (by omega) (by decide) (by omega) (by omega)) dL_chord_11 (x := ⟨0, 16, 19, 13⟩) rfl (by decide) (by decide) wl_Law_13 (by decide) (fun q9 => ?_)
  refine x_astore C (ls' := [some (.ref b), some (vi w1), some (vi w2), some (vi w3), some (vi w4), some (vi w5), some (.ref o), some (.ref q9)]) dL_chord_19 (by decide) rfl ?_
  refine x_iconst C dL_chord_21 ?_
  exact xh_iret C EH rfl (by omega) (by omega) dL_chord_22 (⟨rfl, rfl⟩)

set_option maxRecDepth 100000 in
set_option maxHeartbeats 4000000 in
theorem c_H_chord_ok {G : xG} {h : PH} {b o d : Nat} {fs : List Value} {w1 w2 w3 w4 w5 : Int} (hb : h b = xO 7 fs) {z : Int} {PP : PH → Prop} {go : Nat → Int64} (hM : Cn G m_Tab_chord d 0 0 [.ref b, vi w1, vi w2, vi w3, vi w4, vi w5] h (fun r h' => r = some (vi z) ∧ PP h')) (hP : ∀ h', PP h' → h' o = xL G 1 go)  : Hn G m_Law_chord hh_chord (d + 1) 0 0 [.ref b, vi w1, vi w2, vi w3, vi w4, vi w5, .ref o] h (fun r h' => r = some (vi 0) ∧ ∃ h1, PP h1 ∧ h' = va_up h1 o (xL G 1 (vp_updL go 0 (I z).toInt64))) := by
  refine Hn_of (by decide) (Nat.le_of_ble_eq_true rfl) (fun K C hR EH => ?_)
  show X G K 8 0 [some (.ref b), some (vi w1), some (vi w2), some (vi w3), some (vi w4), some (vi w5), some (.ref o), none] [] h 0 0
  refine x_aload C dL_chord_0 rfl ?_
  refine x_iconst C dL_chord_2 ?_
  refine x_aload_n C dL_chord_3 rfl rfl ?_
  refine x_iload_n C dL_chord_4 rfl rfl ?_
  refine x_iload_n C dL_chord_5 rfl rfl ?_
  refine x_iload_n C dL_chord_6 rfl rfl ?_
  refine x_iload C dL_chord_7 rfl ?_
  refine x_iload C dL_chord_9 rfl ?_
  refine x_invV C s_Law_36 (st := [vi 0, .ref o]) (hM) hb rfl rfl (Nat.le_of_ble_eq_true rfl) (xRm_of hR (by omega) (by decide) (by omega) (by omega)) dL_chord_11 (fun r9 h9 hq => ?_)
  obtain ⟨rfl, p9⟩ := hq
  refine x_i2l C dL_chord_14 ?_
  refine x_last C (hP _ p9) ⟨by omega, by omega, by omega⟩ dL_chord_15 ?_
  refine x_goto C (tgt := 27) dL_chord_16 (by decide) ?_
  refine x_iconst C dL_chord_27 ?_
  exact xh_iret C EH rfl (by omega) (by omega) dL_chord_28 (⟨rfl, h9, p9, rfl⟩)

set_option maxRecDepth 100000 in
set_option maxHeartbeats 4000000 in
theorem c_H_strike_no {G : xG} {h : PH} {b o d : Nat} {fs : List Value} {w1 : Int} (hb : h b = xO 7 fs) (hM : Tn G m_Tab_strike d 1 6 [.ref b, vi w1] h "java/lang/IndexOutOfBoundsException")  : Hn G m_Law_strike hh_strike (d + 1) 1 6 [.ref b, vi w1, .ref o] h (fun r h' => r = some (vi 1) ∧ h' = h) := by
  refine Hn_of (by decide) (Nat.le_of_ble_eq_true rfl) (fun K C hR EH => ?_)
  show X G K 4 0 [some (.ref b), some (vi w1), some (.ref o), none] [] h 0 0
  refine x_aload_n C dL_strike_0 rfl rfl ?_
  refine x_iconst C dL_strike_1 ?_
  refine x_aload_n C dL_strike_2 rfl rfl ?_
  refine x_iload_n C dL_strike_3 rfl rfl ?_
  refine xh_invV C EH s_Law_40 (st := [vi 0, .ref o]) (hM) hb rfl rfl (Nat.le_of_ble_eq_true rfl) (xRm_of hR (by omega) (by decide) (by omega) (by omega)) dL_strike_4 (x := ⟨0, 9, 12, 21⟩) rfl (by decide) (by decide) wl_Law_21 (by decide) (fun q9 => ?_)
  refine x_astore_n C (ls' := [some (.ref b), some (vi w1), some (.ref o), some (.ref q9)]) dL_strike_12 rfl (by decide) rfl ?_
  refine x_iconst C dL_strike_13 ?_
  exact xh_iret C EH rfl (by omega) (by omega) dL_strike_14 (⟨rfl, rfl⟩)

set_option maxRecDepth 100000 in
set_option maxHeartbeats 4000000 in
theorem c_H_fix_no {G : xG} {h : PH} {b o d : Nat} {fs : List Value} {w1 w2 : Int} (hb : h b = xO 7 fs) (hM : Tn G m_Tab_fix d 1 6 [.ref b, vi w1, vi w2] h "java/lang/IndexOutOfBoundsException")  : Hn G m_Law_fix hh_fix (d + 1) 1 6 [.ref b, vi w1, vi w2, .ref o] h (fun r h' => r = some (vi 1) ∧ h' = h) := by
  refine Hn_of (by decide) (Nat.le_of_ble_eq_true rfl) (fun K C hR EH => ?_)
  show X G K 5 0 [some (.ref b), some (vi w1), some (vi w2), some (.ref o), none] [] h 0 0
  refine x_aload_n C dL_fix_0 rfl rfl ?_
  refine x_iconst C dL_fix_1 ?_
  refine x_aload_n C dL_fix_2 rfl rfl ?_
  refine x_iload_n C dL_fix_3 rfl rfl ?_
  refine x_iload_n C dL_fix_4 rfl rfl ?_
  refine xh_invV C EH s_Law_43 (st := [vi 0, .ref o]) (hM) hb rfl rfl (Nat.le_of_ble_eq_true rfl) (xRm_of hR (by omega) (by decide) (by omega) (by omega)) dL_fix_5 (x := ⟨0, 10, 13, 21⟩) rfl (by decide) (by decide) wl_Law_21 (by decide) (fun q9 => ?_)
  refine x_astore C (ls' := [some (.ref b), some (vi w1), some (vi w2), some (.ref o), some (.ref q9)]) dL_fix_13 (by decide) rfl ?_
  refine x_iconst C dL_fix_15 ?_
  exact xh_iret C EH rfl (by omega) (by omega) dL_fix_16 (⟨rfl, rfl⟩)

set_option maxRecDepth 100000 in
set_option maxHeartbeats 4000000 in
theorem c_H_ofChord_no {G : xG} {h : PH} {b o d : Nat} {fs : List Value} {w1 w2 : Int} (hb : h b = xO 7 fs) (hM : Tn G m_Tab_ofChord d 1 6 [.ref b, vi w1, vi w2] h "java/lang/IndexOutOfBoundsException")  : Hn G m_Law_ofChord hh_ofChord (d + 1) 1 6 [.ref b, vi w1, vi w2, .ref o] h (fun r h' => r = some (vi 1) ∧ h' = h) := by
  refine Hn_of (by decide) (Nat.le_of_ble_eq_true rfl) (fun K C hR EH => ?_)
  show X G K 5 0 [some (.ref b), some (vi w1), some (vi w2), some (.ref o), none] [] h 0 0
  refine x_aload_n C dL_ofChord_0 rfl rfl ?_
  refine x_iconst C dL_ofChord_1 ?_
  refine x_aload_n C dL_ofChord_2 rfl rfl ?_
  refine x_iload_n C dL_ofChord_3 rfl rfl ?_
  refine x_iload_n C dL_ofChord_4 rfl rfl ?_
  refine xh_invV C EH s_Law_46 (st := [vi 0, .ref o]) (hM) hb rfl rfl (Nat.le_of_ble_eq_true rfl) (xRm_of hR (by omega) (by decide) (by omega) (by omega)) dL_ofChord_5 (x := ⟨0, 10, 13, 21⟩) rfl (by decide) (by decide) wl_Law_21 (by decide) (fun q9 => ?_)
  refine x_astore C (ls' := [some (.ref b), some (vi w1), some (vi w2), some (.ref o), some (.ref q9)]) dL_ofChord_13 (by decide) rfl ?_
  refine x_iconst C dL_ofChord_15 ?_
  exact xh_iret C EH rfl (by omega) (by omega) dL_ofChord_16 (⟨rfl, rfl⟩)

set_option maxRecDepth 100000 in
set_option maxHeartbeats 4000000 in
theorem c_H_ofGrip_no {G : xG} {h : PH} {b o d : Nat} {fs : List Value} {w1 w2 w3 : Int} (hb : h b = xO 7 fs) (hM : Tn G m_Tab_ofGrip d 1 6 [.ref b, vi w1, vi w2, vi w3] h "java/lang/IndexOutOfBoundsException")  : Hn G m_Law_ofGrip hh_ofGrip (d + 1) 1 6 [.ref b, vi w1, vi w2, vi w3, .ref o] h (fun r h' => r = some (vi 1) ∧ h' = h) := by
  refine Hn_of (by decide) (Nat.le_of_ble_eq_true rfl) (fun K C hR EH => ?_)
  show X G K 6 0 [some (.ref b), some (vi w1), some (vi w2), some (vi w3), some (.ref o), none] [] h 0 0
  refine x_aload C dL_ofGrip_0 rfl ?_
  refine x_iconst C dL_ofGrip_2 ?_
  refine x_aload_n C dL_ofGrip_3 rfl rfl ?_
  refine x_iload_n C dL_ofGrip_4 rfl rfl ?_
  refine x_iload_n C dL_ofGrip_5 rfl rfl ?_
  refine x_iload_n C dL_ofGrip_6 rfl rfl ?_
  refine xh_invV C EH s_Law_49 (st := [vi 0, .ref o]) (hM) hb rfl rfl (Nat.le_of_ble_eq_true rfl) (xRm_of hR (by omega) (by decide) (by omega) (by omega)) dL_ofGrip_7 (x := ⟨0, 12, 15, 21⟩) rfl (by decide) (by decide) wl_Law_21 (by decide) (fun q9 => ?_)
  refine x_astore C (ls' := [some (.ref b), some (vi w1), some (vi w2), some (vi w3), some (.ref o), some (.ref q9)]) dL_ofGrip_15 (by decide) rfl ?_
  refine x_iconst C dL_ofGrip_17 ?_
  exact xh_iret C EH rfl (by omega) (by omega) dL_ofGrip_18 (⟨rfl, rfl⟩)

set_option maxRecDepth 100000 in
set_option maxHeartbeats 4000000 in
theorem c_H_fret_no {G : xG} {h : PH} {b o d : Nat} {fs : List Value} {w1 w2 w3 : Int} (hb : h b = xO 7 fs) (hM : Tn G m_Tab_fret d 1 6 [.ref b, vi w1, vi w2, vi w3] h "java/lang/IndexOutOfBoundsException")  : Hn G m_Law_fret hh_fret (d + 1) 1 6 [.ref b, vi w1, vi w2, vi w3, .ref o] h (fun r h' => r = some (vi 1) ∧ h' = h) := by
  refine Hn_of (by decide) (Nat.le_of_ble_eq_true rfl) (fun K C hR EH => ?_)
  show X G K 6 0 [some (.ref b), some (vi w1), some (vi w2), some (vi w3), some (.ref o), none] [] h 0 0
  refine x_aload C dL_fret_0 rfl ?_
  refine x_iconst C dL_fret_2 ?_
  refine x_aload_n C dL_fret_3 rfl rfl ?_
  refine x_iload_n C dL_fret_4 rfl rfl ?_
  refine x_iload_n C dL_fret_5 rfl rfl ?_
  refine x_iload_n C dL_fret_6 rfl rfl ?_
  refine xh_invV C EH s_Law_53 (st := [vi 0, .ref o]) (hM) hb rfl rfl (Nat.le_of_ble_eq_true rfl) (xRm_of hR (by omega) (by decide) (by omega) (by omega)) dL_fret_7 (x := ⟨0, 12, 15, 21⟩) rfl (by decide) (by decide) wl_Law_21 (by decide) (fun q9 => ?_)
  refine x_astore C (ls' := [some (.ref b), some (vi w1), some (vi w2), some (vi w3), some (.ref o), some (.ref q9)]) dL_fret_15 (by decide) rfl ?_
  refine x_iconst C dL_fret_17 ?_
  exact xh_iret C EH rfl (by omega) (by omega) dL_fret_18 (⟨rfl, rfl⟩)

set_option maxRecDepth 100000 in
set_option maxHeartbeats 4000000 in
theorem c_H_finger_no {G : xG} {h : PH} {b o d : Nat} {fs : List Value} {w1 w2 w3 : Int} (hb : h b = xO 7 fs) (hM : Tn G m_Tab_finger d 1 6 [.ref b, vi w1, vi w2, vi w3] h "java/lang/IndexOutOfBoundsException")  : Hn G m_Law_finger hh_finger (d + 1) 1 6 [.ref b, vi w1, vi w2, vi w3, .ref o] h (fun r h' => r = some (vi 1) ∧ h' = h) := by
  refine Hn_of (by decide) (Nat.le_of_ble_eq_true rfl) (fun K C hR EH => ?_)
  show X G K 6 0 [some (.ref b), some (vi w1), some (vi w2), some (vi w3), some (.ref o), none] [] h 0 0
  refine x_aload C dL_finger_0 rfl ?_
  refine x_iconst C dL_finger_2 ?_
  refine x_aload_n C dL_finger_3 rfl rfl ?_
  refine x_iload_n C dL_finger_4 rfl rfl ?_
  refine x_iload_n C dL_finger_5 rfl rfl ?_
  refine x_iload_n C dL_finger_6 rfl rfl ?_
  refine xh_invV C EH s_Law_56 (st := [vi 0, .ref o]) (hM) hb rfl rfl (Nat.le_of_ble_eq_true rfl) (xRm_of hR (by omega) (by decide) (by omega) (by omega)) dL_finger_7 (x := ⟨0, 12, 15, 21⟩) rfl (by decide) (by decide) wl_Law_21 (by decide) (fun q9 => ?_)
  refine x_astore C (ls' := [some (.ref b), some (vi w1), some (vi w2), some (vi w3), some (.ref o), some (.ref q9)]) dL_finger_15 (by decide) rfl ?_
  refine x_iconst C dL_finger_17 ?_
  exact xh_iret C EH rfl (by omega) (by omega) dL_finger_18 (⟨rfl, rfl⟩)

set_option maxRecDepth 100000 in
set_option maxHeartbeats 4000000 in
theorem c_H_move_no {G : xG} {h : PH} {b o d : Nat} {fs : List Value} {w1 w2 w3 : Int} (hb : h b = xO 7 fs) (hM : Tn G m_Tab_move d 1 6 [.ref b, vi w1, vi w2, vi w3] h "java/lang/IndexOutOfBoundsException")  : Hn G m_Law_move hh_move (d + 1) 1 6 [.ref b, vi w1, vi w2, vi w3, .ref o] h (fun r h' => r = some (vi 1) ∧ h' = h) := by
  refine Hn_of (by decide) (Nat.le_of_ble_eq_true rfl) (fun K C hR EH => ?_)
  show X G K 6 0 [some (.ref b), some (vi w1), some (vi w2), some (vi w3), some (.ref o), none] [] h 0 0
  refine x_aload C dL_move_0 rfl ?_
  refine x_iconst C dL_move_2 ?_
  refine x_aload_n C dL_move_3 rfl rfl ?_
  refine x_iload_n C dL_move_4 rfl rfl ?_
  refine x_iload_n C dL_move_5 rfl rfl ?_
  refine x_iload_n C dL_move_6 rfl rfl ?_
  refine xh_invV C EH s_Law_59 (st := [vi 0, .ref o]) (hM) hb rfl rfl (Nat.le_of_ble_eq_true rfl) (xRm_of hR (by omega) (by decide) (by omega) (by omega)) dL_move_7 (x := ⟨0, 12, 15, 21⟩) rfl (by decide) (by decide) wl_Law_21 (by decide) (fun q9 => ?_)
  refine x_astore C (ls' := [some (.ref b), some (vi w1), some (vi w2), some (vi w3), some (.ref o), some (.ref q9)]) dL_move_15 (by decide) rfl ?_
  refine x_iconst C dL_move_17 ?_
  exact xh_iret C EH rfl (by omega) (by omega) dL_move_18 (⟨rfl, rfl⟩)

set_option maxRecDepth 100000 in
set_option maxHeartbeats 4000000 in
theorem c_H_plan_no {G : xG} {h : PH} {b o d : Nat} {fs : List Value} {w1 : Int} (hb : h b = xO 7 fs) (hM : Tn G m_Tab_plan d 1 6 [.ref b, vi w1] h "java/lang/IndexOutOfBoundsException")  : Hn G m_Law_plan hh_plan (d + 1) 1 6 [.ref b, vi w1, .ref o] h (fun r h' => r = some (vi 1) ∧ h' = h) := by
  refine Hn_of (by decide) (Nat.le_of_ble_eq_true rfl) (fun K C hR EH => ?_)
  show X G K 4 0 [some (.ref b), some (vi w1), some (.ref o), none] [] h 0 0
  refine x_aload_n C dL_plan_0 rfl rfl ?_
  refine x_iconst C dL_plan_1 ?_
  refine x_aload_n C dL_plan_2 rfl rfl ?_
  refine x_iload_n C dL_plan_3 rfl rfl ?_
  refine xh_invV C EH s_Law_62 (st := [vi 0, .ref o]) (hM) hb rfl rfl (Nat.le_of_ble_eq_true rfl) (xRm_of hR (by omega) (by decide) (by omega) (by omega)) dL_plan_4 (x := ⟨0, 9, 12, 21⟩) rfl (by decide) (by decide) wl_Law_21 (by decide) (fun q9 => ?_)
  refine x_astore_n C (ls' := [some (.ref b), some (vi w1), some (.ref o), some (.ref q9)]) dL_plan_12 rfl (by decide) rfl ?_
  refine x_iconst C dL_plan_13 ?_
  exact xh_iret C EH rfl (by omega) (by omega) dL_plan_14 (⟨rfl, rfl⟩)

set_option maxRecDepth 100000 in
set_option maxHeartbeats 4000000 in
theorem c_H_many_no {G : xG} {h : PH} {b o d : Nat} {fs : List Value} {w1 : Int} (hb : h b = xO 7 fs) (hM : Tn G m_Tab_many d 1 6 [.ref b, vi w1] h "java/lang/IllegalArgumentException")  : Hn G m_Law_many hh_many (d + 1) 1 6 [.ref b, vi w1, .ref o] h (fun r h' => r = some (vi 1) ∧ h' = h) := by
  refine Hn_of (by decide) (Nat.le_of_ble_eq_true rfl) (fun K C hR EH => ?_)
  show X G K 4 0 [some (.ref b), some (vi w1), some (.ref o), none] [] h 0 0
  refine x_aload_n C dL_many_0 rfl rfl ?_
  refine x_iconst C dL_many_1 ?_
  refine x_aload_n C dL_many_2 rfl rfl ?_
  refine x_iload_n C dL_many_3 rfl rfl ?_
  refine xh_invV C EH s_Law_65 (st := [vi 0, .ref o]) (hM) hb rfl rfl (Nat.le_of_ble_eq_true rfl) (xRm_of hR (by omega) (by decide) (by omega) (by omega)) dL_many_4 (x := ⟨0, 9, 12, 13⟩) rfl (by decide) (by decide) wl_Law_13 (by decide) (fun q9 => ?_)
  refine x_astore_n C (ls' := [some (.ref b), some (vi w1), some (.ref o), some (.ref q9)]) dL_many_12 rfl (by decide) rfl ?_
  refine x_iconst C dL_many_13 ?_
  exact xh_iret C EH rfl (by omega) (by omega) dL_many_14 (⟨rfl, rfl⟩)

set_option maxRecDepth 100000 in
set_option maxHeartbeats 4000000 in
theorem c_H_many_ok {G : xG} {h : PH} {b o d : Nat} {fs : List Value} {w1 : Int} (hb : h b = xO 7 fs) {z : Int} {PP : PH → Prop} {go : Nat → Int64} (hM : Cn G m_Tab_many d 0 0 [.ref b, vi w1] h (fun r h' => r = some (vi z) ∧ PP h')) (hP : ∀ h', PP h' → h' o = xL G 1 go)  : Hn G m_Law_many hh_many (d + 1) 0 0 [.ref b, vi w1, .ref o] h (fun r h' => r = some (vi 0) ∧ ∃ h1, PP h1 ∧ h' = va_up h1 o (xL G 1 (vp_updL go 0 (I z).toInt64))) := by
  refine Hn_of (by decide) (Nat.le_of_ble_eq_true rfl) (fun K C hR EH => ?_)
  show X G K 4 0 [some (.ref b), some (vi w1), some (.ref o), none] [] h 0 0
  refine x_aload_n C dL_many_0 rfl rfl ?_
  refine x_iconst C dL_many_1 ?_
  refine x_aload_n C dL_many_2 rfl rfl ?_
  refine x_iload_n C dL_many_3 rfl rfl ?_
  refine x_invV C s_Law_65 (st := [vi 0, .ref o]) (hM) hb rfl rfl (Nat.le_of_ble_eq_true rfl) (xRm_of hR (by omega) (by decide) (by omega) (by omega)) dL_many_4 (fun r9 h9 hq => ?_)
  obtain ⟨rfl, p9⟩ := hq
  refine x_i2l C dL_many_7 ?_
  refine x_last C (hP _ p9) ⟨by omega, by omega, by omega⟩ dL_many_8 ?_
  refine x_goto C (tgt := 15) dL_many_9 (by decide) ?_
  refine x_iconst C dL_many_15 ?_
  exact xh_iret C EH rfl (by omega) (by omega) dL_many_16 (⟨rfl, h9, p9, rfl⟩)

set_option maxRecDepth 100000 in
set_option maxHeartbeats 4000000 in
theorem c_H_shapes_no {G : xG} {h : PH} {b o d : Nat} {fs : List Value} {w1 w2 w3 : Int} (hb : h b = xO 7 fs) (hM : Tn G m_Tab_shapes d 1 6 [.ref b, vi w1, vi w2, vi w3] h "java/lang/IllegalArgumentException")  : Hn G m_Law_shapes hh_shapes (d + 1) 1 6 [.ref b, vi w1, vi w2, vi w3, .ref o] h (fun r h' => r = some (vi 1) ∧ h' = h) := by
  refine Hn_of (by decide) (Nat.le_of_ble_eq_true rfl) (fun K C hR EH => ?_)
  show X G K 6 0 [some (.ref b), some (vi w1), some (vi w2), some (vi w3), some (.ref o), none] [] h 0 0
  refine x_aload C dL_shapes_0 rfl ?_
  refine x_iconst C dL_shapes_2 ?_
  refine x_aload_n C dL_shapes_3 rfl rfl ?_
  refine x_iload_n C dL_shapes_4 rfl rfl ?_
  refine x_iload_n C dL_shapes_5 rfl rfl ?_
  refine x_iload_n C dL_shapes_6 rfl rfl ?_
  refine xh_invV C EH s_Law_68 (st := [vi 0, .ref o]) (hM) hb rfl rfl (Nat.le_of_ble_eq_true rfl) (xRm_of hR (by omega) (by decide) (by omega) (by omega)) dL_shapes_7 (x := ⟨0, 12, 15, 13⟩) rfl (by decide) (by decide) wl_Law_13 (by decide) (fun q9 => ?_)
  refine x_astore C (ls' := [some (.ref b), some (vi w1), some (vi w2), some (vi w3), some (.ref o), some (.ref q9)]) dL_shapes_15 (by decide) rfl ?_
  refine x_iconst C dL_shapes_17 ?_
  exact xh_iret C EH rfl (by omega) (by omega) dL_shapes_18 (⟨rfl, rfl⟩)

set_option maxRecDepth 100000 in
set_option maxHeartbeats 4000000 in
theorem c_H_shapes_ok {G : xG} {h : PH} {b o d : Nat} {fs : List Value} {w1 w2 w3 : Int} (hb : h b = xO 7 fs) {z : Int} {PP : PH → Prop} {go : Nat → Int64} (hM : Cn G m_Tab_shapes d 0 0 [.ref b, vi w1, vi w2, vi w3] h (fun r h' => r = some (vi z) ∧ PP h')) (hP : ∀ h', PP h' → h' o = xL G 1 go)  : Hn G m_Law_shapes hh_shapes (d + 1) 0 0 [.ref b, vi w1, vi w2, vi w3, .ref o] h (fun r h' => r = some (vi 0) ∧ ∃ h1, PP h1 ∧ h' = va_up h1 o (xL G 1 (vp_updL go 0 (I z).toInt64))) := by
  refine Hn_of (by decide) (Nat.le_of_ble_eq_true rfl) (fun K C hR EH => ?_)
  show X G K 6 0 [some (.ref b), some (vi w1), some (vi w2), some (vi w3), some (.ref o), none] [] h 0 0
  refine x_aload C dL_shapes_0 rfl ?_
  refine x_iconst C dL_shapes_2 ?_
  refine x_aload_n C dL_shapes_3 rfl rfl ?_
  refine x_iload_n C dL_shapes_4 rfl rfl ?_
  refine x_iload_n C dL_shapes_5 rfl rfl ?_
  refine x_iload_n C dL_shapes_6 rfl rfl ?_
  refine x_invV C s_Law_68 (st := [vi 0, .ref o]) (hM) hb rfl rfl (Nat.le_of_ble_eq_true rfl) (xRm_of hR (by omega) (by decide) (by omega) (by omega)) dL_shapes_7 (fun r9 h9 hq => ?_)
  obtain ⟨rfl, p9⟩ := hq
  refine x_i2l C dL_shapes_10 ?_
  refine x_last C (hP _ p9) ⟨by omega, by omega, by omega⟩ dL_shapes_11 ?_
  refine x_goto C (tgt := 19) dL_shapes_12 (by decide) ?_
  refine x_iconst C dL_shapes_19 ?_
  exact xh_iret C EH rfl (by omega) (by omega) dL_shapes_20 (⟨rfl, h9, p9, rfl⟩)

set_option maxRecDepth 100000 in
set_option maxHeartbeats 4000000 in
theorem c_H_shapeEffort_no {G : xG} {h : PH} {b o d : Nat} {fs : List Value} {w1 w2 w3 : Int} (hb : h b = xO 7 fs) (hM : Tn G m_Tab_shapeEffort d 1 6 [.ref b, vi w1, vi w2, vi w3] h "java/lang/IllegalArgumentException")  : Hn G m_Law_shapeEffort hh_shapeEffort (d + 1) 1 6 [.ref b, vi w1, vi w2, vi w3, .ref o] h (fun r h' => r = some (vi 1) ∧ h' = h) := by
  refine Hn_of (by decide) (Nat.le_of_ble_eq_true rfl) (fun K C hR EH => ?_)
  show X G K 6 0 [some (.ref b), some (vi w1), some (vi w2), some (vi w3), some (.ref o), none] [] h 0 0
  refine x_aload C dL_shapeEffort_0 rfl ?_
  refine x_iconst C dL_shapeEffort_2 ?_
  refine x_aload_n C dL_shapeEffort_3 rfl rfl ?_
  refine x_iload_n C dL_shapeEffort_4 rfl rfl ?_
  refine x_iload_n C dL_shapeEffort_5 rfl rfl ?_
  refine x_iload_n C dL_shapeEffort_6 rfl rfl ?_
  refine xh_invV C EH s_Law_71 (st := [vi 0, .ref o]) (hM) hb rfl rfl (Nat.le_of_ble_eq_true rfl) (xRm_of hR (by omega) (by decide) (by omega) (by omega)) dL_shapeEffort_7 (x := ⟨0, 12, 15, 13⟩) rfl (by decide) (by decide) wl_Law_13 (by decide) (fun q9 => ?_)
  refine x_astore C (ls' := [some (.ref b), some (vi w1), some (vi w2), some (vi w3), some (.ref o), some (.ref q9)]) dL_shapeEffort_15 (by decide) rfl ?_
  refine x_iconst C dL_shapeEffort_17 ?_
  exact xh_iret C EH rfl (by omega) (by omega) dL_shapeEffort_18 (⟨rfl, rfl⟩)

set_option maxRecDepth 100000 in
set_option maxHeartbeats 4000000 in
theorem c_H_shapeEffort_ok {G : xG} {h : PH} {b o d : Nat} {fs : List Value} {w1 w2 w3 : Int} (hb : h b = xO 7 fs) {z : Int} {PP : PH → Prop} {go : Nat → Int64} (hM : Cn G m_Tab_shapeEffort d 0 0 [.ref b, vi w1, vi w2, vi w3] h (fun r h' => r = some (vi z) ∧ PP h')) (hP : ∀ h', PP h' → h' o = xL G 1 go)  : Hn G m_Law_shapeEffort hh_shapeEffort (d + 1) 0 0 [.ref b, vi w1, vi w2, vi w3, .ref o] h (fun r h' => r = some (vi 0) ∧ ∃ h1, PP h1 ∧ h' = va_up h1 o (xL G 1 (vp_updL go 0 (I z).toInt64))) := by
  refine Hn_of (by decide) (Nat.le_of_ble_eq_true rfl) (fun K C hR EH => ?_)
  show X G K 6 0 [some (.ref b), some (vi w1), some (vi w2), some (vi w3), some (.ref o), none] [] h 0 0
  refine x_aload C dL_shapeEffort_0 rfl ?_
  refine x_iconst C dL_shapeEffort_2 ?_
  refine x_aload_n C dL_shapeEffort_3 rfl rfl ?_
  refine x_iload_n C dL_shapeEffort_4 rfl rfl ?_
  refine x_iload_n C dL_shapeEffort_5 rfl rfl ?_
  refine x_iload_n C dL_shapeEffort_6 rfl rfl ?_
  refine x_invV C s_Law_71 (st := [vi 0, .ref o]) (hM) hb rfl rfl (Nat.le_of_ble_eq_true rfl) (xRm_of hR (by omega) (by decide) (by omega) (by omega)) dL_shapeEffort_7 (fun r9 h9 hq => ?_)
  obtain ⟨rfl, p9⟩ := hq
  refine x_i2l C dL_shapeEffort_10 ?_
  refine x_last C (hP _ p9) ⟨by omega, by omega, by omega⟩ dL_shapeEffort_11 ?_
  refine x_goto C (tgt := 19) dL_shapeEffort_12 (by decide) ?_
  refine x_iconst C dL_shapeEffort_19 ?_
  exact xh_iret C EH rfl (by omega) (by omega) dL_shapeEffort_20 (⟨rfl, h9, p9, rfl⟩)

set_option maxRecDepth 100000 in
set_option maxHeartbeats 4000000 in
theorem c_H_shapeFret_no {G : xG} {h : PH} {b o d : Nat} {fs : List Value} {w1 w2 w3 w4 : Int} (hb : h b = xO 7 fs) (hM : Tn G m_Tab_shapeFret d 1 6 [.ref b, vi w1, vi w2, vi w3, vi w4] h "java/lang/IndexOutOfBoundsException")  : Hn G m_Law_shapeFret hh_shapeFret (d + 1) 1 6 [.ref b, vi w1, vi w2, vi w3, vi w4, .ref o] h (fun r h' => r = some (vi 1) ∧ h' = h) := by
  refine Hn_of (by decide) (Nat.le_of_ble_eq_true rfl) (fun K C hR EH => ?_)
  show X G K 7 0 [some (.ref b), some (vi w1), some (vi w2), some (vi w3), some (vi w4), some (.ref o), none] [] h 0 0
  refine x_aload C dL_shapeFret_0 rfl ?_
  refine x_iconst C dL_shapeFret_2 ?_
  refine x_aload_n C dL_shapeFret_3 rfl rfl ?_
  refine x_iload_n C dL_shapeFret_4 rfl rfl ?_
  refine x_iload_n C dL_shapeFret_5 rfl rfl ?_
  refine x_iload_n C dL_shapeFret_6 rfl rfl ?_
  refine x_iload C dL_shapeFret_7 rfl ?_
  refine xh_invV C EH s_Law_74 (st := [vi 0, .ref o]) (hM) hb rfl rfl (Nat.le_of_ble_eq_true rfl) (xRm_of hR (by omega) (by decide) (by omega) (by omega)) dL_shapeFret_9 (x := ⟨0, 14, 17, 21⟩) rfl (by decide) (by decide) wl_Law_21 (by decide) (fun q9 => ?_)
  refine x_astore C (ls' := [some (.ref b), some (vi w1), some (vi w2), some (vi w3), some (vi w4), some (.ref o), some (.ref q9)]) dL_shapeFret_17 (by decide) rfl ?_
  refine x_iconst C dL_shapeFret_19 ?_
  exact xh_iret C EH rfl (by omega) (by omega) dL_shapeFret_20 (⟨rfl, rfl⟩)

set_option maxRecDepth 100000 in
set_option maxHeartbeats 4000000 in
theorem c_H_totalWith_no {G : xG} {h : PH} {b o d : Nat} {fs : List Value} {w1 w2 : Int} (hb : h b = xO 7 fs) (hM : Tn G m_Tab_totalWith d 1 6 [.ref b, vi w1, vi w2] h "java/lang/IllegalArgumentException")  : Hn G m_Law_totalWith hh_totalWith (d + 1) 1 6 [.ref b, vi w1, vi w2, .ref o] h (fun r h' => r = some (vi 1) ∧ h' = h) := by
  refine Hn_of (by decide) (Nat.le_of_ble_eq_true rfl) (fun K C hR EH => ?_)
  show X G K 5 0 [some (.ref b), some (vi w1), some (vi w2), some (.ref o), none] [] h 0 0
  refine x_aload_n C dL_totalWith_0 rfl rfl ?_
  refine x_iconst C dL_totalWith_1 ?_
  refine x_aload_n C dL_totalWith_2 rfl rfl ?_
  refine x_iload_n C dL_totalWith_3 rfl rfl ?_
  refine x_iload_n C dL_totalWith_4 rfl rfl ?_
  refine xh_invV C EH s_Law_78 (st := [vi 0, .ref o]) (hM) hb rfl rfl (Nat.le_of_ble_eq_true rfl) (xRm_of hR (by omega) (by decide) (by omega) (by omega)) dL_totalWith_5 (x := ⟨0, 10, 13, 13⟩) rfl (by decide) (by decide) wl_Law_13 (by decide) (fun q9 => ?_)
  refine x_astore C (ls' := [some (.ref b), some (vi w1), some (vi w2), some (.ref o), some (.ref q9)]) dL_totalWith_13 (by decide) rfl ?_
  refine x_iconst C dL_totalWith_15 ?_
  exact xh_iret C EH rfl (by omega) (by omega) dL_totalWith_16 (⟨rfl, rfl⟩)

set_option maxRecDepth 100000 in
set_option maxHeartbeats 4000000 in
theorem c_H_totalWith_ok {G : xG} {h : PH} {b o d : Nat} {fs : List Value} {w1 w2 : Int} (hb : h b = xO 7 fs) {z : Int} {PP : PH → Prop} {go : Nat → Int64} (hM : Cn G m_Tab_totalWith d 0 0 [.ref b, vi w1, vi w2] h (fun r h' => r = some (vi z) ∧ PP h')) (hP : ∀ h', PP h' → h' o = xL G 1 go)  : Hn G m_Law_totalWith hh_totalWith (d + 1) 0 0 [.ref b, vi w1, vi w2, .ref o] h (fun r h' => r = some (vi 0) ∧ ∃ h1, PP h1 ∧ h' = va_up h1 o (xL G 1 (vp_updL go 0 (I z).toInt64))) := by
  refine Hn_of (by decide) (Nat.le_of_ble_eq_true rfl) (fun K C hR EH => ?_)
  show X G K 5 0 [some (.ref b), some (vi w1), some (vi w2), some (.ref o), none] [] h 0 0
  refine x_aload_n C dL_totalWith_0 rfl rfl ?_
  refine x_iconst C dL_totalWith_1 ?_
  refine x_aload_n C dL_totalWith_2 rfl rfl ?_
  refine x_iload_n C dL_totalWith_3 rfl rfl ?_
  refine x_iload_n C dL_totalWith_4 rfl rfl ?_
  refine x_invV C s_Law_78 (st := [vi 0, .ref o]) (hM) hb rfl rfl (Nat.le_of_ble_eq_true rfl) (xRm_of hR (by omega) (by decide) (by omega) (by omega)) dL_totalWith_5 (fun r9 h9 hq => ?_)
  obtain ⟨rfl, p9⟩ := hq
  refine x_i2l C dL_totalWith_8 ?_
  refine x_last C (hP _ p9) ⟨by omega, by omega, by omega⟩ dL_totalWith_9 ?_
  refine x_goto C (tgt := 17) dL_totalWith_10 (by decide) ?_
  refine x_iconst C dL_totalWith_17 ?_
  exact xh_iret C EH rfl (by omega) (by omega) dL_totalWith_18 (⟨rfl, h9, p9, rfl⟩)

set_option maxRecDepth 100000 in
set_option maxHeartbeats 4000000 in
theorem c_H_totalWithout_no {G : xG} {h : PH} {b o d : Nat} {fs : List Value} {w1 : Int} (hb : h b = xO 7 fs) (hM : Tn G m_Tab_totalWithout d 1 6 [.ref b, vi w1] h "java/lang/IndexOutOfBoundsException")  : Hn G m_Law_totalWithout hh_totalWithout (d + 1) 1 6 [.ref b, vi w1, .ref o] h (fun r h' => r = some (vi 1) ∧ h' = h) := by
  refine Hn_of (by decide) (Nat.le_of_ble_eq_true rfl) (fun K C hR EH => ?_)
  show X G K 4 0 [some (.ref b), some (vi w1), some (.ref o), none] [] h 0 0
  refine x_aload_n C dL_totalWithout_0 rfl rfl ?_
  refine x_iconst C dL_totalWithout_1 ?_
  refine x_aload_n C dL_totalWithout_2 rfl rfl ?_
  refine x_iload_n C dL_totalWithout_3 rfl rfl ?_
  refine xh_invV C EH s_Law_81 (st := [vi 0, .ref o]) (hM) hb rfl rfl (Nat.le_of_ble_eq_true rfl) (xRm_of hR (by omega) (by decide) (by omega) (by omega)) dL_totalWithout_4 (x := ⟨0, 9, 12, 21⟩) rfl (by decide) (by decide) wl_Law_21 (by decide) (fun q9 => ?_)
  refine x_astore_n C (ls' := [some (.ref b), some (vi w1), some (.ref o), some (.ref q9)]) dL_totalWithout_12 rfl (by decide) rfl ?_
  refine x_iconst C dL_totalWithout_13 ?_
  exact xh_iret C EH rfl (by omega) (by omega) dL_totalWithout_14 (⟨rfl, rfl⟩)

set_option maxRecDepth 100000 in
set_option maxHeartbeats 4000000 in
theorem c_H_totalFixed_no {G : xG} {h : PH} {b o d : Nat} {fs : List Value} {w1 w2 : Int} (hb : h b = xO 7 fs) (hM : Tn G m_Tab_totalFixed d 1 6 [.ref b, vi w1, vi w2] h "java/lang/IndexOutOfBoundsException")  : Hn G m_Law_totalFixed hh_totalFixed (d + 1) 1 6 [.ref b, vi w1, vi w2, .ref o] h (fun r h' => r = some (vi 1) ∧ h' = h) := by
  refine Hn_of (by decide) (Nat.le_of_ble_eq_true rfl) (fun K C hR EH => ?_)
  show X G K 5 0 [some (.ref b), some (vi w1), some (vi w2), some (.ref o), none] [] h 0 0
  refine x_aload_n C dL_totalFixed_0 rfl rfl ?_
  refine x_iconst C dL_totalFixed_1 ?_
  refine x_aload_n C dL_totalFixed_2 rfl rfl ?_
  refine x_iload_n C dL_totalFixed_3 rfl rfl ?_
  refine x_iload_n C dL_totalFixed_4 rfl rfl ?_
  refine xh_invV C EH s_Law_84 (st := [vi 0, .ref o]) (hM) hb rfl rfl (Nat.le_of_ble_eq_true rfl) (xRm_of hR (by omega) (by decide) (by omega) (by omega)) dL_totalFixed_5 (x := ⟨0, 10, 13, 21⟩) rfl (by decide) (by decide) wl_Law_21 (by decide) (fun q9 => ?_)
  refine x_astore C (ls' := [some (.ref b), some (vi w1), some (vi w2), some (.ref o), some (.ref q9)]) dL_totalFixed_13 (by decide) rfl ?_
  refine x_iconst C dL_totalFixed_15 ?_
  exact xh_iret C EH rfl (by omega) (by omega) dL_totalFixed_16 (⟨rfl, rfl⟩)
