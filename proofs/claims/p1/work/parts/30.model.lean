/-! THE REFERENCE at its start: no strings, no chords. -/
theorem c_Mo_thrown {G : xG} {h : PH} {b : Nat} {th : Int} {fs : List Value} (hB : h b = xO 8 (vi th :: fs)) : Cn G m_Model_thrown 0 0 0 [.ref b] h (fun r h' => r = some (vi th) ∧ h' = h) := by
  refine Cn_of (by decide) (Nat.le_of_ble_eq_true rfl) (fun K C hR E => ?_)
  show X G K 1 0 [some (.ref b)] [] h 0 0
  refine x_aload_n C dX9_thrown_0 rfl rfl ?_
  refine x_get C f_Model_44 hB rfl dX9_thrown_1 ?_
  exact x_iret C E rfl (by omega) (by omega) dX9_thrown_4 ⟨rfl, rfl⟩

set_option maxRecDepth 100000 in
set_option maxHeartbeats 4000000 in
theorem c_Mo_no {G : xG} {h : PH} {b a1 a2 a3 a4 a5 a6 a7 a8 bt : Nat} {th cp rc sh : Int} (hB : h b = (xO 8 [vi th, vi 0, .ref a1, .ref a2, vi cp, vi rc, vi 0, .ref a3, .ref a4, .ref a5, .ref a6, .ref a7, .ref a8, vi 0, vi sh, .ref bt])) {z : Int} : Cn G m_Model_no 0 0 0 [.ref b, vi z] h (fun r h' => r = some (vi 0) ∧ h' = va_up h b (xO 8 [vi z, vi 0, .ref a1, .ref a2, vi cp, vi rc, vi 0, .ref a3, .ref a4, .ref a5, .ref a6, .ref a7, .ref a8, vi 0, vi sh, .ref bt])) := by
  refine Cn_of (by decide) (Nat.le_of_ble_eq_true rfl) (fun K C hR E => ?_)
  show X G K 2 0 [some (.ref b), some (vi z)] [] h 0 0
  refine x_aload_n C dX9_no_0 rfl rfl ?_
  refine x_iload_n C dX9_no_1 rfl rfl ?_
  refine x_put C p_Model_44 hB (fit_int _) (Nat.le_of_ble_eq_true rfl) (h1 := (va_up h b (xO 8 [vi z, vi 0, .ref a1, .ref a2, vi cp, vi rc, vi 0, .ref a3, .ref a4, .ref a5, .ref a6, .ref a7, .ref a8, vi 0, vi sh, .ref bt]))) rfl dX9_no_2 ?_
  refine x_iconst C dX9_no_5 ?_
  exact x_iret C E rfl (by omega) (by omega) dX9_no_6 (⟨rfl, rfl⟩)

set_option maxRecDepth 100000 in
set_option maxHeartbeats 4000000 in
theorem c_Mo_isIn {G : xG} {h : PH} {v lo hi : Int} (hv : bd v) (hlo : bd lo) (hhi : bd hi) : Cn G m_Model_isIn 0 0 0 [vi v, vi lo, vi hi] h (fun r h' => r = some (vi (b2i (decide (lo ≤ v ∧ v ≤ hi)))) ∧ h' = h) := by
  refine Cn_of (by decide) (Nat.le_of_ble_eq_true rfl) (fun K C hR E => ?_)
  show X G K 3 0 [some (vi v), some (vi lo), some (vi hi)] [] h 0 0
  refine x_iload_n C dX9_isIn_0 rfl rfl ?_
  refine x_iload_n C dX9_isIn_1 rfl rfl ?_
  refine x_icmp_lt C (tgt := 14) dX9_isIn_2 (by decide) hv hlo (fun c2 => ?_) (fun c2 => ?_)
  · skip
    refine x_iconst C dX9_isIn_14 ?_
    exact x_zret C E rfl (by omega) (by omega) (z := false) dX9_isIn_15 (⟨by rw [show (decide (lo ≤ v ∧ v ≤ hi)) = false from decide_eq_false (by omega)], rfl⟩)
  · skip
    refine x_iload_n C dX9_isIn_5 rfl rfl ?_
    refine x_iload_n C dX9_isIn_6 rfl rfl ?_
    refine x_icmp_gt C (tgt := 14) dX9_isIn_7 (by decide) hv hhi (fun c7 => ?_) (fun c7 => ?_)
    · skip
      refine x_iconst C dX9_isIn_14 ?_
      exact x_zret C E rfl (by omega) (by omega) (z := false) dX9_isIn_15 (⟨by rw [show (decide (lo ≤ v ∧ v ≤ hi)) = false from decide_eq_false (by omega)], rfl⟩)
    · skip
      refine x_iconst C dX9_isIn_10 ?_
      refine x_goto C (tgt := 15) dX9_isIn_11 (by decide) ?_
      exact x_zret C E rfl (by omega) (by omega) (z := true) dX9_isIn_15 (⟨by rw [show (decide (lo ≤ v ∧ v ≤ hi)) = true from decide_eq_true (by omega)], rfl⟩)

set_option maxRecDepth 100000 in
set_option maxHeartbeats 4000000 in
theorem c_Mo_isString {G : xG} {h : PH} {b a1 a2 a3 a4 a5 a6 a7 a8 bt : Nat} {th cp rc sh : Int} (hB : h b = (xO 8 [vi th, vi 0, .ref a1, .ref a2, vi cp, vi rc, vi 0, .ref a3, .ref a4, .ref a5, .ref a6, .ref a7, .ref a8, vi 0, vi sh, .ref bt])) {v : Int} (hv : bd v) : Cn G m_Model_isString 1 0 0 [.ref b, vi v] h (fun r h' => r = some (vi (b2i false)) ∧ h' = h) := by
  refine Cn_of (by decide) (Nat.le_of_ble_eq_true rfl) (fun K C hR E => ?_)
  show X G K 2 0 [some (.ref b), some (vi v)] [] h 0 0
  refine x_iload_n C dX9_isString_0 rfl rfl ?_
  refine x_iconst C dX9_isString_1 ?_
  refine x_aload_n C dX9_isString_2 rfl rfl ?_
  refine x_get C f_Model_47 hB rfl dX9_isString_3 ?_
  refine x_iconst C dX9_isString_6 ?_
  refine x_isub C dX9_isString_7 ?_
  refine x_invS C s_Model_50 (st := []) (c_Mo_isIn (v := v) (lo := 0) (hi := (0 - 1)) hv (by decide) (by decide)) rfl rfl (Nat.le_of_ble_eq_true rfl) (xRm_of hR (by omega) (by decide) (by omega) (by omega)) dX9_isString_8 (fun r9 h9 hq => ?_)
  obtain ⟨rfl, e9⟩ := hq
  have e9 := e9.symm
  subst e9
  exact x_zret C E rfl (by omega) (by omega) (z := (decide (0 ≤ v ∧ v ≤ (0 - 1)))) dX9_isString_11 (⟨by rw [show (decide (0 ≤ v ∧ v ≤ 0 - 1)) = false from decide_eq_false (by omega)], rfl⟩)

set_option maxRecDepth 100000 in
set_option maxHeartbeats 4000000 in
theorem c_Mo_isChord {G : xG} {h : PH} {b a1 a2 a3 a4 a5 a6 a7 a8 bt : Nat} {th cp rc sh : Int} (hB : h b = (xO 8 [vi th, vi 0, .ref a1, .ref a2, vi cp, vi rc, vi 0, .ref a3, .ref a4, .ref a5, .ref a6, .ref a7, .ref a8, vi 0, vi sh, .ref bt])) {v : Int} (hv : bd v) : Cn G m_Model_isChord 1 0 0 [.ref b, vi v] h (fun r h' => r = some (vi (b2i false)) ∧ h' = h) := by
  refine Cn_of (by decide) (Nat.le_of_ble_eq_true rfl) (fun K C hR E => ?_)
  show X G K 2 0 [some (.ref b), some (vi v)] [] h 0 0
  refine x_iload_n C dX9_isChord_0 rfl rfl ?_
  refine x_iconst C dX9_isChord_1 ?_
  refine x_aload_n C dX9_isChord_2 rfl rfl ?_
  refine x_get C f_Model_54 hB rfl dX9_isChord_3 ?_
  refine x_iconst C dX9_isChord_6 ?_
  refine x_isub C dX9_isChord_7 ?_
  refine x_invS C s_Model_50 (st := []) (c_Mo_isIn (v := v) (lo := 0) (hi := (0 - 1)) hv (by decide) (by decide)) rfl rfl (Nat.le_of_ble_eq_true rfl) (xRm_of hR (by omega) (by decide) (by omega) (by omega)) dX9_isChord_8 (fun r9 h9 hq => ?_)
  obtain ⟨rfl, e9⟩ := hq
  have e9 := e9.symm
  subst e9
  exact x_zret C E rfl (by omega) (by omega) (z := (decide (0 ≤ v ∧ v ≤ (0 - 1)))) dX9_isChord_11 (⟨by rw [show (decide (0 ≤ v ∧ v ≤ 0 - 1)) = false from decide_eq_false (by omega)], rfl⟩)

set_option maxRecDepth 100000 in
set_option maxHeartbeats 4000000 in
theorem c_Mo_tune {G : xG} {h : PH} {b a1 a2 a3 a4 a5 a6 a7 a8 bt : Nat} {th cp rc sh : Int} (hB : h b = (xO 8 [vi th, vi 0, .ref a1, .ref a2, vi cp, vi rc, vi 0, .ref a3, .ref a4, .ref a5, .ref a6, .ref a7, .ref a8, vi 0, vi sh, .ref bt])) {o : Nat} {go : Nat → Int64} (hO : h o = xL G 1 go) {v w1 : Int} (hv : bd v) : Cn G m_Model_tune 2 0 0 [.ref b, vi v, vi w1] h (fun r h' => r = some (vi 0) ∧ (∃ fs, h' b = xO 8 (vi 1 :: fs)) ∧ h' o = xL G 1 go) := by
  refine Cn_of (by decide) (Nat.le_of_ble_eq_true rfl) (fun K C hR E => ?_)
  show X G K 4 0 [some (.ref b), some (vi v), some (vi w1), none] [] h 0 0
  refine x_aload_n C dX9_tune_0 rfl rfl ?_
  refine x_iconst C dX9_tune_1 ?_
  refine x_put C p_Model_44 hB (fit_int _) (Nat.le_of_ble_eq_true rfl) (h1 := (va_up h b (xO 8 [vi 0, vi 0, .ref a1, .ref a2, vi cp, vi rc, vi 0, .ref a3, .ref a4, .ref a5, .ref a6, .ref a7, .ref a8, vi 0, vi sh, .ref bt]))) rfl dX9_tune_2 ?_
  refine x_aload_n C dX9_tune_5 rfl rfl ?_
  refine x_iload_n C dX9_tune_6 rfl rfl ?_
  refine x_invV C s_Model_61 (st := []) (c_Mo_isString up_s (v := v) hv) up_s rfl rfl (Nat.le_of_ble_eq_true rfl) (xRm_of hR (by omega) (by decide) (by omega) (by omega)) dX9_tune_7 (fun r9 h9 hq => ?_)
  obtain ⟨rfl, e9⟩ := hq
  have e9 := e9.symm
  subst e9
  refine x_ifneB C (tgt := 19) dX9_tune_10 (by decide) (fun c10 => ?_) (fun c10 => ?_)
  · skip
    cases c10
  · skip
    refine x_aload_n C dX9_tune_13 rfl rfl ?_
    refine x_iconst C dX9_tune_14 ?_
    refine x_invV C s_Model_57 (st := []) (c_Mo_no up_s) up_s rfl rfl (Nat.le_of_ble_eq_true rfl) (xRm_of hR (by omega) (by decide) (by omega) (by omega)) dX9_tune_15 (fun r9 h9 hq => ?_)
    obtain ⟨rfl, e9⟩ := hq
    have e9 := e9.symm
    subst e9
    refine X.heq (h1 := (va_up h b (xO 8 [vi 1, vi 0, .ref a1, .ref a2, vi cp, vi rc, vi 0, .ref a3, .ref a4, .ref a5, .ref a6, .ref a7, .ref a8, vi 0, vi sh, .ref bt]))) (up_u _ _ _ _) ?_
    exact x_iret C E rfl (by omega) (by omega) dX9_tune_18 (⟨rfl, ⟨_, up_s⟩, ((up_n (ne_k hO hB (knn rfl))).trans hO)⟩)

set_option maxRecDepth 100000 in
set_option maxHeartbeats 4000000 in
theorem c_Mo_slacken {G : xG} {h : PH} {b a1 a2 a3 a4 a5 a6 a7 a8 bt : Nat} {th cp rc sh : Int} (hB : h b = (xO 8 [vi th, vi 0, .ref a1, .ref a2, vi cp, vi rc, vi 0, .ref a3, .ref a4, .ref a5, .ref a6, .ref a7, .ref a8, vi 0, vi sh, .ref bt])) {o : Nat} {go : Nat → Int64} (hO : h o = xL G 1 go) {v w1 : Int} (hv : bd v) : Cn G m_Model_slacken 2 0 0 [.ref b, vi v, vi w1] h (fun r h' => r = some (vi 0) ∧ (∃ fs, h' b = xO 8 (vi 1 :: fs)) ∧ h' o = xL G 1 go) := by
  refine Cn_of (by decide) (Nat.le_of_ble_eq_true rfl) (fun K C hR E => ?_)
  show X G K 3 0 [some (.ref b), some (vi v), some (vi w1)] [] h 0 0
  refine x_aload_n C dX9_slacken_0 rfl rfl ?_
  refine x_iconst C dX9_slacken_1 ?_
  refine x_put C p_Model_44 hB (fit_int _) (Nat.le_of_ble_eq_true rfl) (h1 := (va_up h b (xO 8 [vi 0, vi 0, .ref a1, .ref a2, vi cp, vi rc, vi 0, .ref a3, .ref a4, .ref a5, .ref a6, .ref a7, .ref a8, vi 0, vi sh, .ref bt]))) rfl dX9_slacken_2 ?_
  refine x_aload_n C dX9_slacken_5 rfl rfl ?_
  refine x_iload_n C dX9_slacken_6 rfl rfl ?_
  refine x_invV C s_Model_61 (st := []) (c_Mo_isString up_s (v := v) hv) up_s rfl rfl (Nat.le_of_ble_eq_true rfl) (xRm_of hR (by omega) (by decide) (by omega) (by omega)) dX9_slacken_7 (fun r9 h9 hq => ?_)
  obtain ⟨rfl, e9⟩ := hq
  have e9 := e9.symm
  subst e9
  refine x_ifneB C (tgt := 19) dX9_slacken_10 (by decide) (fun c10 => ?_) (fun c10 => ?_)
  · skip
    cases c10
  · skip
    refine x_aload_n C dX9_slacken_13 rfl rfl ?_
    refine x_iconst C dX9_slacken_14 ?_
    refine x_invV C s_Model_57 (st := []) (c_Mo_no up_s) up_s rfl rfl (Nat.le_of_ble_eq_true rfl) (xRm_of hR (by omega) (by decide) (by omega) (by omega)) dX9_slacken_15 (fun r9 h9 hq => ?_)
    obtain ⟨rfl, e9⟩ := hq
    have e9 := e9.symm
    subst e9
    refine X.heq (h1 := (va_up h b (xO 8 [vi 1, vi 0, .ref a1, .ref a2, vi cp, vi rc, vi 0, .ref a3, .ref a4, .ref a5, .ref a6, .ref a7, .ref a8, vi 0, vi sh, .ref bt]))) (up_u _ _ _ _) ?_
    exact x_iret C E rfl (by omega) (by omega) dX9_slacken_18 (⟨rfl, ⟨_, up_s⟩, ((up_n (ne_k hO hB (knn rfl))).trans hO)⟩)

set_option maxRecDepth 100000 in
set_option maxHeartbeats 4000000 in
theorem c_Mo_fretOf {G : xG} {h : PH} {b a1 a2 a3 a4 a5 a6 a7 a8 bt : Nat} {th cp rc sh : Int} (hB : h b = (xO 8 [vi th, vi 0, .ref a1, .ref a2, vi cp, vi rc, vi 0, .ref a3, .ref a4, .ref a5, .ref a6, .ref a7, .ref a8, vi 0, vi sh, .ref bt])) {o : Nat} {go : Nat → Int64} (hO : h o = xL G 1 go) {v w1 : Int} (hv : bd v) : Cn G m_Model_fretOf 2 0 0 [.ref b, vi v, vi w1] h (fun r h' => r = some (vi 0) ∧ (∃ fs, h' b = xO 8 (vi 1 :: fs)) ∧ h' o = xL G 1 go) := by
  refine Cn_of (by decide) (Nat.le_of_ble_eq_true rfl) (fun K C hR E => ?_)
  show X G K 3 0 [some (.ref b), some (vi v), some (vi w1)] [] h 0 0
  refine x_aload_n C dX9_fretOf_0 rfl rfl ?_
  refine x_iconst C dX9_fretOf_1 ?_
  refine x_put C p_Model_44 hB (fit_int _) (Nat.le_of_ble_eq_true rfl) (h1 := (va_up h b (xO 8 [vi 0, vi 0, .ref a1, .ref a2, vi cp, vi rc, vi 0, .ref a3, .ref a4, .ref a5, .ref a6, .ref a7, .ref a8, vi 0, vi sh, .ref bt]))) rfl dX9_fretOf_2 ?_
  refine x_aload_n C dX9_fretOf_5 rfl rfl ?_
  refine x_iload_n C dX9_fretOf_6 rfl rfl ?_
  refine x_invV C s_Model_61 (st := []) (c_Mo_isString up_s (v := v) hv) up_s rfl rfl (Nat.le_of_ble_eq_true rfl) (xRm_of hR (by omega) (by decide) (by omega) (by omega)) dX9_fretOf_7 (fun r9 h9 hq => ?_)
  obtain ⟨rfl, e9⟩ := hq
  have e9 := e9.symm
  subst e9
  refine x_ifneB C (tgt := 19) dX9_fretOf_10 (by decide) (fun c10 => ?_) (fun c10 => ?_)
  · skip
    cases c10
  · skip
    refine x_aload_n C dX9_fretOf_13 rfl rfl ?_
    refine x_iconst C dX9_fretOf_14 ?_
    refine x_invV C s_Model_57 (st := []) (c_Mo_no up_s) up_s rfl rfl (Nat.le_of_ble_eq_true rfl) (xRm_of hR (by omega) (by decide) (by omega) (by omega)) dX9_fretOf_15 (fun r9 h9 hq => ?_)
    obtain ⟨rfl, e9⟩ := hq
    have e9 := e9.symm
    subst e9
    refine X.heq (h1 := (va_up h b (xO 8 [vi 1, vi 0, .ref a1, .ref a2, vi cp, vi rc, vi 0, .ref a3, .ref a4, .ref a5, .ref a6, .ref a7, .ref a8, vi 0, vi sh, .ref bt]))) (up_u _ _ _ _) ?_
    exact x_iret C E rfl (by omega) (by omega) dX9_fretOf_18 (⟨rfl, ⟨_, up_s⟩, ((up_n (ne_k hO hB (knn rfl))).trans hO)⟩)

set_option maxRecDepth 100000 in
set_option maxHeartbeats 4000000 in
theorem c_Mo_strike {G : xG} {h : PH} {b a1 a2 a3 a4 a5 a6 a7 a8 bt : Nat} {th cp rc sh : Int} (hB : h b = (xO 8 [vi th, vi 0, .ref a1, .ref a2, vi cp, vi rc, vi 0, .ref a3, .ref a4, .ref a5, .ref a6, .ref a7, .ref a8, vi 0, vi sh, .ref bt])) {o : Nat} {go : Nat → Int64} (hO : h o = xL G 1 go) {v  : Int} (hv : bd v) : Cn G m_Model_strike 2 0 0 [.ref b, vi v] h (fun r h' => r = some (vi 0) ∧ (∃ fs, h' b = xO 8 (vi 1 :: fs)) ∧ h' o = xL G 1 go) := by
  refine Cn_of (by decide) (Nat.le_of_ble_eq_true rfl) (fun K C hR E => ?_)
  show X G K 3 0 [some (.ref b), some (vi v), none] [] h 0 0
  refine x_aload_n C dX9_strike_0 rfl rfl ?_
  refine x_iconst C dX9_strike_1 ?_
  refine x_put C p_Model_44 hB (fit_int _) (Nat.le_of_ble_eq_true rfl) (h1 := (va_up h b (xO 8 [vi 0, vi 0, .ref a1, .ref a2, vi cp, vi rc, vi 0, .ref a3, .ref a4, .ref a5, .ref a6, .ref a7, .ref a8, vi 0, vi sh, .ref bt]))) rfl dX9_strike_2 ?_
  refine x_aload_n C dX9_strike_5 rfl rfl ?_
  refine x_iload_n C dX9_strike_6 rfl rfl ?_
  refine x_invV C s_Model_76 (st := []) (c_Mo_isChord up_s (v := v) hv) up_s rfl rfl (Nat.le_of_ble_eq_true rfl) (xRm_of hR (by omega) (by decide) (by omega) (by omega)) dX9_strike_7 (fun r9 h9 hq => ?_)
  obtain ⟨rfl, e9⟩ := hq
  have e9 := e9.symm
  subst e9
  refine x_ifneB C (tgt := 19) dX9_strike_10 (by decide) (fun c10 => ?_) (fun c10 => ?_)
  · skip
    cases c10
  · skip
    refine x_aload_n C dX9_strike_13 rfl rfl ?_
    refine x_iconst C dX9_strike_14 ?_
    refine x_invV C s_Model_57 (st := []) (c_Mo_no up_s) up_s rfl rfl (Nat.le_of_ble_eq_true rfl) (xRm_of hR (by omega) (by decide) (by omega) (by omega)) dX9_strike_15 (fun r9 h9 hq => ?_)
    obtain ⟨rfl, e9⟩ := hq
    have e9 := e9.symm
    subst e9
    refine X.heq (h1 := (va_up h b (xO 8 [vi 1, vi 0, .ref a1, .ref a2, vi cp, vi rc, vi 0, .ref a3, .ref a4, .ref a5, .ref a6, .ref a7, .ref a8, vi 0, vi sh, .ref bt]))) (up_u _ _ _ _) ?_
    exact x_iret C E rfl (by omega) (by omega) dX9_strike_18 (⟨rfl, ⟨_, up_s⟩, ((up_n (ne_k hO hB (knn rfl))).trans hO)⟩)

set_option maxRecDepth 100000 in
set_option maxHeartbeats 4000000 in
theorem c_Mo_fix {G : xG} {h : PH} {b a1 a2 a3 a4 a5 a6 a7 a8 bt : Nat} {th cp rc sh : Int} (hB : h b = (xO 8 [vi th, vi 0, .ref a1, .ref a2, vi cp, vi rc, vi 0, .ref a3, .ref a4, .ref a5, .ref a6, .ref a7, .ref a8, vi 0, vi sh, .ref bt])) {o : Nat} {go : Nat → Int64} (hO : h o = xL G 1 go) {v w1 : Int} (hv : bd v) : Cn G m_Model_fix 2 0 0 [.ref b, vi v, vi w1] h (fun r h' => r = some (vi 0) ∧ (∃ fs, h' b = xO 8 (vi 1 :: fs)) ∧ h' o = xL G 1 go) := by
  refine Cn_of (by decide) (Nat.le_of_ble_eq_true rfl) (fun K C hR E => ?_)
  show X G K 4 0 [some (.ref b), some (vi v), some (vi w1), none] [] h 0 0
  refine x_aload_n C dX9_fix_0 rfl rfl ?_
  refine x_iconst C dX9_fix_1 ?_
  refine x_put C p_Model_44 hB (fit_int _) (Nat.le_of_ble_eq_true rfl) (h1 := (va_up h b (xO 8 [vi 0, vi 0, .ref a1, .ref a2, vi cp, vi rc, vi 0, .ref a3, .ref a4, .ref a5, .ref a6, .ref a7, .ref a8, vi 0, vi sh, .ref bt]))) rfl dX9_fix_2 ?_
  refine x_aload_n C dX9_fix_5 rfl rfl ?_
  refine x_iload_n C dX9_fix_6 rfl rfl ?_
  refine x_invV C s_Model_76 (st := []) (c_Mo_isChord up_s (v := v) hv) up_s rfl rfl (Nat.le_of_ble_eq_true rfl) (xRm_of hR (by omega) (by decide) (by omega) (by omega)) dX9_fix_7 (fun r9 h9 hq => ?_)
  obtain ⟨rfl, e9⟩ := hq
  have e9 := e9.symm
  subst e9
  refine x_ifneB C (tgt := 19) dX9_fix_10 (by decide) (fun c10 => ?_) (fun c10 => ?_)
  · skip
    cases c10
  · skip
    refine x_aload_n C dX9_fix_13 rfl rfl ?_
    refine x_iconst C dX9_fix_14 ?_
    refine x_invV C s_Model_57 (st := []) (c_Mo_no up_s) up_s rfl rfl (Nat.le_of_ble_eq_true rfl) (xRm_of hR (by omega) (by decide) (by omega) (by omega)) dX9_fix_15 (fun r9 h9 hq => ?_)
    obtain ⟨rfl, e9⟩ := hq
    have e9 := e9.symm
    subst e9
    refine X.heq (h1 := (va_up h b (xO 8 [vi 1, vi 0, .ref a1, .ref a2, vi cp, vi rc, vi 0, .ref a3, .ref a4, .ref a5, .ref a6, .ref a7, .ref a8, vi 0, vi sh, .ref bt]))) (up_u _ _ _ _) ?_
    exact x_iret C E rfl (by omega) (by omega) dX9_fix_18 (⟨rfl, ⟨_, up_s⟩, ((up_n (ne_k hO hB (knn rfl))).trans hO)⟩)

set_option maxRecDepth 100000 in
set_option maxHeartbeats 4000000 in
theorem c_Mo_ofChord {G : xG} {h : PH} {b a1 a2 a3 a4 a5 a6 a7 a8 bt : Nat} {th cp rc sh : Int} (hB : h b = (xO 8 [vi th, vi 0, .ref a1, .ref a2, vi cp, vi rc, vi 0, .ref a3, .ref a4, .ref a5, .ref a6, .ref a7, .ref a8, vi 0, vi sh, .ref bt])) {o : Nat} {go : Nat → Int64} (hO : h o = xL G 1 go) {v w1 : Int} (hv : bd v) : Cn G m_Model_ofChord 2 0 0 [.ref b, vi v, vi w1] h (fun r h' => r = some (vi 0) ∧ (∃ fs, h' b = xO 8 (vi 1 :: fs)) ∧ h' o = xL G 1 go) := by
  refine Cn_of (by decide) (Nat.le_of_ble_eq_true rfl) (fun K C hR E => ?_)
  show X G K 3 0 [some (.ref b), some (vi v), some (vi w1)] [] h 0 0
  refine x_aload_n C dX9_ofChord_0 rfl rfl ?_
  refine x_iconst C dX9_ofChord_1 ?_
  refine x_put C p_Model_44 hB (fit_int _) (Nat.le_of_ble_eq_true rfl) (h1 := (va_up h b (xO 8 [vi 0, vi 0, .ref a1, .ref a2, vi cp, vi rc, vi 0, .ref a3, .ref a4, .ref a5, .ref a6, .ref a7, .ref a8, vi 0, vi sh, .ref bt]))) rfl dX9_ofChord_2 ?_
  refine x_aload_n C dX9_ofChord_5 rfl rfl ?_
  refine x_iload_n C dX9_ofChord_6 rfl rfl ?_
  refine x_invV C s_Model_76 (st := []) (c_Mo_isChord up_s (v := v) hv) up_s rfl rfl (Nat.le_of_ble_eq_true rfl) (xRm_of hR (by omega) (by decide) (by omega) (by omega)) dX9_ofChord_7 (fun r9 h9 hq => ?_)
  obtain ⟨rfl, e9⟩ := hq
  have e9 := e9.symm
  subst e9
  refine x_ifneB C (tgt := 19) dX9_ofChord_10 (by decide) (fun c10 => ?_) (fun c10 => ?_)
  · skip
    cases c10
  · skip
    refine x_aload_n C dX9_ofChord_13 rfl rfl ?_
    refine x_iconst C dX9_ofChord_14 ?_
    refine x_invV C s_Model_57 (st := []) (c_Mo_no up_s) up_s rfl rfl (Nat.le_of_ble_eq_true rfl) (xRm_of hR (by omega) (by decide) (by omega) (by omega)) dX9_ofChord_15 (fun r9 h9 hq => ?_)
    obtain ⟨rfl, e9⟩ := hq
    have e9 := e9.symm
    subst e9
    refine X.heq (h1 := (va_up h b (xO 8 [vi 1, vi 0, .ref a1, .ref a2, vi cp, vi rc, vi 0, .ref a3, .ref a4, .ref a5, .ref a6, .ref a7, .ref a8, vi 0, vi sh, .ref bt]))) (up_u _ _ _ _) ?_
    exact x_iret C E rfl (by omega) (by omega) dX9_ofChord_18 (⟨rfl, ⟨_, up_s⟩, ((up_n (ne_k hO hB (knn rfl))).trans hO)⟩)

set_option maxRecDepth 100000 in
set_option maxHeartbeats 4000000 in
theorem c_Mo_ofGrip {G : xG} {h : PH} {b a1 a2 a3 a4 a5 a6 a7 a8 bt : Nat} {th cp rc sh : Int} (hB : h b = (xO 8 [vi th, vi 0, .ref a1, .ref a2, vi cp, vi rc, vi 0, .ref a3, .ref a4, .ref a5, .ref a6, .ref a7, .ref a8, vi 0, vi sh, .ref bt])) {o : Nat} {go : Nat → Int64} (hO : h o = xL G 1 go) {v w1 w2 : Int} (hv : bd v) : Cn G m_Model_ofGrip 2 0 0 [.ref b, vi v, vi w1, vi w2] h (fun r h' => r = some (vi 0) ∧ (∃ fs, h' b = xO 8 (vi 1 :: fs)) ∧ h' o = xL G 1 go) := by
  refine Cn_of (by decide) (Nat.le_of_ble_eq_true rfl) (fun K C hR E => ?_)
  show X G K 5 0 [some (.ref b), some (vi v), some (vi w1), some (vi w2), none] [] h 0 0
  refine x_aload_n C dX9_ofGrip_0 rfl rfl ?_
  refine x_iconst C dX9_ofGrip_1 ?_
  refine x_put C p_Model_44 hB (fit_int _) (Nat.le_of_ble_eq_true rfl) (h1 := (va_up h b (xO 8 [vi 0, vi 0, .ref a1, .ref a2, vi cp, vi rc, vi 0, .ref a3, .ref a4, .ref a5, .ref a6, .ref a7, .ref a8, vi 0, vi sh, .ref bt]))) rfl dX9_ofGrip_2 ?_
  refine x_aload_n C dX9_ofGrip_5 rfl rfl ?_
  refine x_iload_n C dX9_ofGrip_6 rfl rfl ?_
  refine x_invV C s_Model_76 (st := []) (c_Mo_isChord up_s (v := v) hv) up_s rfl rfl (Nat.le_of_ble_eq_true rfl) (xRm_of hR (by omega) (by decide) (by omega) (by omega)) dX9_ofGrip_7 (fun r9 h9 hq => ?_)
  obtain ⟨rfl, e9⟩ := hq
  have e9 := e9.symm
  subst e9
  refine x_ifneB C (tgt := 19) dX9_ofGrip_10 (by decide) (fun c10 => ?_) (fun c10 => ?_)
  · skip
    cases c10
  · skip
    refine x_aload_n C dX9_ofGrip_13 rfl rfl ?_
    refine x_iconst C dX9_ofGrip_14 ?_
    refine x_invV C s_Model_57 (st := []) (c_Mo_no up_s) up_s rfl rfl (Nat.le_of_ble_eq_true rfl) (xRm_of hR (by omega) (by decide) (by omega) (by omega)) dX9_ofGrip_15 (fun r9 h9 hq => ?_)
    obtain ⟨rfl, e9⟩ := hq
    have e9 := e9.symm
    subst e9
    refine X.heq (h1 := (va_up h b (xO 8 [vi 1, vi 0, .ref a1, .ref a2, vi cp, vi rc, vi 0, .ref a3, .ref a4, .ref a5, .ref a6, .ref a7, .ref a8, vi 0, vi sh, .ref bt]))) (up_u _ _ _ _) ?_
    exact x_iret C E rfl (by omega) (by omega) dX9_ofGrip_18 (⟨rfl, ⟨_, up_s⟩, ((up_n (ne_k hO hB (knn rfl))).trans hO)⟩)

set_option maxRecDepth 100000 in
set_option maxHeartbeats 4000000 in
theorem c_Mo_onString {G : xG} {h : PH} {b a1 a2 a3 a4 a5 a6 a7 a8 bt : Nat} {th cp rc sh : Int} (hB : h b = (xO 8 [vi th, vi 0, .ref a1, .ref a2, vi cp, vi rc, vi 0, .ref a3, .ref a4, .ref a5, .ref a6, .ref a7, .ref a8, vi 0, vi sh, .ref bt])) {o : Nat} {go : Nat → Int64} (hO : h o = xL G 1 go) {v w1 w2 w3 : Int} (hv : bd v) : Cn G m_Model_onString 2 0 0 [.ref b, vi v, vi w1, vi w2, vi w3] h (fun r h' => r = some (vi 0) ∧ (∃ fs, h' b = xO 8 (vi 1 :: fs)) ∧ h' o = xL G 1 go) := by
  refine Cn_of (by decide) (Nat.le_of_ble_eq_true rfl) (fun K C hR E => ?_)
  show X G K 6 0 [some (.ref b), some (vi v), some (vi w1), some (vi w2), some (vi w3), none] [] h 0 0
  refine x_aload_n C dX9_onString_0 rfl rfl ?_
  refine x_iconst C dX9_onString_1 ?_
  refine x_put C p_Model_44 hB (fit_int _) (Nat.le_of_ble_eq_true rfl) (h1 := (va_up h b (xO 8 [vi 0, vi 0, .ref a1, .ref a2, vi cp, vi rc, vi 0, .ref a3, .ref a4, .ref a5, .ref a6, .ref a7, .ref a8, vi 0, vi sh, .ref bt]))) rfl dX9_onString_2 ?_
  refine x_aload_n C dX9_onString_5 rfl rfl ?_
  refine x_iload_n C dX9_onString_6 rfl rfl ?_
  refine x_invV C s_Model_76 (st := []) (c_Mo_isChord up_s (v := v) hv) up_s rfl rfl (Nat.le_of_ble_eq_true rfl) (xRm_of hR (by omega) (by decide) (by omega) (by omega)) dX9_onString_7 (fun r9 h9 hq => ?_)
  obtain ⟨rfl, e9⟩ := hq
  have e9 := e9.symm
  subst e9
  refine x_ifneB C (tgt := 19) dX9_onString_10 (by decide) (fun c10 => ?_) (fun c10 => ?_)
  · skip
    cases c10
  · skip
    refine x_aload_n C dX9_onString_13 rfl rfl ?_
    refine x_iconst C dX9_onString_14 ?_
    refine x_invV C s_Model_57 (st := []) (c_Mo_no up_s) up_s rfl rfl (Nat.le_of_ble_eq_true rfl) (xRm_of hR (by omega) (by decide) (by omega) (by omega)) dX9_onString_15 (fun r9 h9 hq => ?_)
    obtain ⟨rfl, e9⟩ := hq
    have e9 := e9.symm
    subst e9
    refine X.heq (h1 := (va_up h b (xO 8 [vi 1, vi 0, .ref a1, .ref a2, vi cp, vi rc, vi 0, .ref a3, .ref a4, .ref a5, .ref a6, .ref a7, .ref a8, vi 0, vi sh, .ref bt]))) (up_u _ _ _ _) ?_
    exact x_iret C E rfl (by omega) (by omega) dX9_onString_18 (⟨rfl, ⟨_, up_s⟩, ((up_n (ne_k hO hB (knn rfl))).trans hO)⟩)

set_option maxRecDepth 100000 in
set_option maxHeartbeats 4000000 in
theorem c_Mo_move {G : xG} {h : PH} {b a1 a2 a3 a4 a5 a6 a7 a8 bt : Nat} {th cp rc sh : Int} (hB : h b = (xO 8 [vi th, vi 0, .ref a1, .ref a2, vi cp, vi rc, vi 0, .ref a3, .ref a4, .ref a5, .ref a6, .ref a7, .ref a8, vi 0, vi sh, .ref bt])) {o : Nat} {go : Nat → Int64} (hO : h o = xL G 1 go) {v w1 w2 : Int} (hv : bd v) : Cn G m_Model_move 2 0 0 [.ref b, vi v, vi w1, vi w2] h (fun r h' => r = some (vi 0) ∧ (∃ fs, h' b = xO 8 (vi 1 :: fs)) ∧ h' o = xL G 1 go) := by
  refine Cn_of (by decide) (Nat.le_of_ble_eq_true rfl) (fun K C hR E => ?_)
  show X G K 6 0 [some (.ref b), some (vi v), some (vi w1), some (vi w2), none, none] [] h 0 0
  refine x_aload_n C dX9_move_0 rfl rfl ?_
  refine x_iconst C dX9_move_1 ?_
  refine x_put C p_Model_44 hB (fit_int _) (Nat.le_of_ble_eq_true rfl) (h1 := (va_up h b (xO 8 [vi 0, vi 0, .ref a1, .ref a2, vi cp, vi rc, vi 0, .ref a3, .ref a4, .ref a5, .ref a6, .ref a7, .ref a8, vi 0, vi sh, .ref bt]))) rfl dX9_move_2 ?_
  refine x_iload_n C dX9_move_5 rfl rfl ?_
  refine x_iconst C dX9_move_6 ?_
  refine x_aload_n C dX9_move_7 rfl rfl ?_
  refine x_get C f_Model_54 up_s rfl dX9_move_8 ?_
  refine x_iconst C dX9_move_11 ?_
  refine x_isub C dX9_move_12 ?_
  refine x_invS C s_Model_50 (st := []) (c_Mo_isIn (v := v) (lo := 0) (hi := (0 - 2)) hv (by decide) (by decide)) rfl rfl (Nat.le_of_ble_eq_true rfl) (xRm_of hR (by omega) (by decide) (by omega) (by omega)) dX9_move_13 (fun r9 h9 hq => ?_)
  obtain ⟨rfl, e9⟩ := hq
  have e9 := e9.symm
  subst e9
  refine x_ifneB C (tgt := 25) dX9_move_16 (by decide) (fun c16 => ?_) (fun c16 => ?_)
  · skip
    exact absurd (of_decide_eq_true c16) (by omega)
  · skip
    refine x_aload_n C dX9_move_19 rfl rfl ?_
    refine x_iconst C dX9_move_20 ?_
    refine x_invV C s_Model_57 (st := []) (c_Mo_no up_s) up_s rfl rfl (Nat.le_of_ble_eq_true rfl) (xRm_of hR (by omega) (by decide) (by omega) (by omega)) dX9_move_21 (fun r9 h9 hq => ?_)
    obtain ⟨rfl, e9⟩ := hq
    have e9 := e9.symm
    subst e9
    refine X.heq (h1 := (va_up h b (xO 8 [vi 1, vi 0, .ref a1, .ref a2, vi cp, vi rc, vi 0, .ref a3, .ref a4, .ref a5, .ref a6, .ref a7, .ref a8, vi 0, vi sh, .ref bt]))) (up_u _ _ _ _) ?_
    exact x_iret C E rfl (by omega) (by omega) dX9_move_24 (⟨rfl, ⟨_, up_s⟩, ((up_n (ne_k hO hB (knn rfl))).trans hO)⟩)

set_option maxRecDepth 100000 in
set_option maxHeartbeats 4000000 in
theorem c_Mo_plan {G : xG} {h : PH} {b a1 a2 a3 a4 a5 a6 a7 a8 bt : Nat} {th cp rc sh : Int} (hB : h b = (xO 8 [vi th, vi 0, .ref a1, .ref a2, vi cp, vi rc, vi 0, .ref a3, .ref a4, .ref a5, .ref a6, .ref a7, .ref a8, vi 0, vi sh, .ref bt])) {o : Nat} {go : Nat → Int64} (hO : h o = xL G 1 go) {v  : Int} (hv : bd v) : Cn G m_Model_plan 2 0 0 [.ref b, vi v] h (fun r h' => r = some (vi 0) ∧ (∃ fs, h' b = xO 8 (vi 1 :: fs)) ∧ h' o = xL G 1 go) := by
  refine Cn_of (by decide) (Nat.le_of_ble_eq_true rfl) (fun K C hR E => ?_)
  show X G K 3 0 [some (.ref b), some (vi v), none] [] h 0 0
  refine x_aload_n C dX9_plan_0 rfl rfl ?_
  refine x_iconst C dX9_plan_1 ?_
  refine x_put C p_Model_44 hB (fit_int _) (Nat.le_of_ble_eq_true rfl) (h1 := (va_up h b (xO 8 [vi 0, vi 0, .ref a1, .ref a2, vi cp, vi rc, vi 0, .ref a3, .ref a4, .ref a5, .ref a6, .ref a7, .ref a8, vi 0, vi sh, .ref bt]))) rfl dX9_plan_2 ?_
  refine x_aload_n C dX9_plan_5 rfl rfl ?_
  refine x_iload_n C dX9_plan_6 rfl rfl ?_
  refine x_invV C s_Model_76 (st := []) (c_Mo_isChord up_s (v := v) hv) up_s rfl rfl (Nat.le_of_ble_eq_true rfl) (xRm_of hR (by omega) (by decide) (by omega) (by omega)) dX9_plan_7 (fun r9 h9 hq => ?_)
  obtain ⟨rfl, e9⟩ := hq
  have e9 := e9.symm
  subst e9
  refine x_ifneB C (tgt := 19) dX9_plan_10 (by decide) (fun c10 => ?_) (fun c10 => ?_)
  · skip
    cases c10
  · skip
    refine x_aload_n C dX9_plan_13 rfl rfl ?_
    refine x_iconst C dX9_plan_14 ?_
    refine x_invV C s_Model_57 (st := []) (c_Mo_no up_s) up_s rfl rfl (Nat.le_of_ble_eq_true rfl) (xRm_of hR (by omega) (by decide) (by omega) (by omega)) dX9_plan_15 (fun r9 h9 hq => ?_)
    obtain ⟨rfl, e9⟩ := hq
    have e9 := e9.symm
    subst e9
    refine X.heq (h1 := (va_up h b (xO 8 [vi 1, vi 0, .ref a1, .ref a2, vi cp, vi rc, vi 0, .ref a3, .ref a4, .ref a5, .ref a6, .ref a7, .ref a8, vi 0, vi sh, .ref bt]))) (up_u _ _ _ _) ?_
    exact x_iret C E rfl (by omega) (by omega) dX9_plan_18 (⟨rfl, ⟨_, up_s⟩, ((up_n (ne_k hO hB (knn rfl))).trans hO)⟩)

set_option maxRecDepth 100000 in
set_option maxHeartbeats 4000000 in
theorem c_Mo_totalFixed {G : xG} {h : PH} {b a1 a2 a3 a4 a5 a6 a7 a8 bt : Nat} {th cp rc sh : Int} (hB : h b = (xO 8 [vi th, vi 0, .ref a1, .ref a2, vi cp, vi rc, vi 0, .ref a3, .ref a4, .ref a5, .ref a6, .ref a7, .ref a8, vi 0, vi sh, .ref bt])) {o : Nat} {go : Nat → Int64} (hO : h o = xL G 1 go) {v w1 : Int} (hv : bd v) : Cn G m_Model_totalFixed 2 0 0 [.ref b, vi v, vi w1] h (fun r h' => r = some (vi 0) ∧ (∃ fs, h' b = xO 8 (vi 1 :: fs)) ∧ h' o = xL G 1 go) := by
  refine Cn_of (by decide) (Nat.le_of_ble_eq_true rfl) (fun K C hR E => ?_)
  show X G K 7 0 [some (.ref b), some (vi v), some (vi w1), none, none, none, none] [] h 0 0
  refine x_aload_n C dX9_totalFixed_0 rfl rfl ?_
  refine x_iconst C dX9_totalFixed_1 ?_
  refine x_put C p_Model_44 hB (fit_int _) (Nat.le_of_ble_eq_true rfl) (h1 := (va_up h b (xO 8 [vi 0, vi 0, .ref a1, .ref a2, vi cp, vi rc, vi 0, .ref a3, .ref a4, .ref a5, .ref a6, .ref a7, .ref a8, vi 0, vi sh, .ref bt]))) rfl dX9_totalFixed_2 ?_
  refine x_aload_n C dX9_totalFixed_5 rfl rfl ?_
  refine x_iload_n C dX9_totalFixed_6 rfl rfl ?_
  refine x_invV C s_Model_76 (st := []) (c_Mo_isChord up_s (v := v) hv) up_s rfl rfl (Nat.le_of_ble_eq_true rfl) (xRm_of hR (by omega) (by decide) (by omega) (by omega)) dX9_totalFixed_7 (fun r9 h9 hq => ?_)
  obtain ⟨rfl, e9⟩ := hq
  have e9 := e9.symm
  subst e9
  refine x_ifneB C (tgt := 19) dX9_totalFixed_10 (by decide) (fun c10 => ?_) (fun c10 => ?_)
  · skip
    cases c10
  · skip
    refine x_aload_n C dX9_totalFixed_13 rfl rfl ?_
    refine x_iconst C dX9_totalFixed_14 ?_
    refine x_invV C s_Model_57 (st := []) (c_Mo_no up_s) up_s rfl rfl (Nat.le_of_ble_eq_true rfl) (xRm_of hR (by omega) (by decide) (by omega) (by omega)) dX9_totalFixed_15 (fun r9 h9 hq => ?_)
    obtain ⟨rfl, e9⟩ := hq
    have e9 := e9.symm
    subst e9
    refine X.heq (h1 := (va_up h b (xO 8 [vi 1, vi 0, .ref a1, .ref a2, vi cp, vi rc, vi 0, .ref a3, .ref a4, .ref a5, .ref a6, .ref a7, .ref a8, vi 0, vi sh, .ref bt]))) (up_u _ _ _ _) ?_
    exact x_iret C E rfl (by omega) (by omega) dX9_totalFixed_18 (⟨rfl, ⟨_, up_s⟩, ((up_n (ne_k hO hB (knn rfl))).trans hO)⟩)

set_option maxRecDepth 100000 in
set_option maxHeartbeats 4000000 in
theorem c_Mo_totalWithout {G : xG} {h : PH} {b a1 a2 a3 a4 a5 a6 a7 a8 bt : Nat} {th cp rc sh : Int} (hB : h b = (xO 8 [vi th, vi 0, .ref a1, .ref a2, vi cp, vi rc, vi 0, .ref a3, .ref a4, .ref a5, .ref a6, .ref a7, .ref a8, vi 0, vi sh, .ref bt])) {o : Nat} {go : Nat → Int64} (hO : h o = xL G 1 go) {v  : Int} (hv : bd v) : Cn G m_Model_totalWithout 2 0 0 [.ref b, vi v] h (fun r h' => r = some (vi 0) ∧ (∃ fs, h' b = xO 8 (vi 1 :: fs)) ∧ h' o = xL G 1 go) := by
  refine Cn_of (by decide) (Nat.le_of_ble_eq_true rfl) (fun K C hR E => ?_)
  show X G K 2 0 [some (.ref b), some (vi v)] [] h 0 0
  refine x_aload_n C dX9_totalWithout_0 rfl rfl ?_
  refine x_iconst C dX9_totalWithout_1 ?_
  refine x_put C p_Model_44 hB (fit_int _) (Nat.le_of_ble_eq_true rfl) (h1 := (va_up h b (xO 8 [vi 0, vi 0, .ref a1, .ref a2, vi cp, vi rc, vi 0, .ref a3, .ref a4, .ref a5, .ref a6, .ref a7, .ref a8, vi 0, vi sh, .ref bt]))) rfl dX9_totalWithout_2 ?_
  refine x_aload_n C dX9_totalWithout_5 rfl rfl ?_
  refine x_iload_n C dX9_totalWithout_6 rfl rfl ?_
  refine x_invV C s_Model_61 (st := []) (c_Mo_isString up_s (v := v) hv) up_s rfl rfl (Nat.le_of_ble_eq_true rfl) (xRm_of hR (by omega) (by decide) (by omega) (by omega)) dX9_totalWithout_7 (fun r9 h9 hq => ?_)
  obtain ⟨rfl, e9⟩ := hq
  have e9 := e9.symm
  subst e9
  refine x_ifeqB C (tgt := 21) dX9_totalWithout_10 (by decide) (fun c10 => ?_) (fun c10 => ?_)
  · skip
    refine x_aload_n C dX9_totalWithout_21 rfl rfl ?_
    refine x_iconst C dX9_totalWithout_22 ?_
    refine x_invV C s_Model_57 (st := []) (c_Mo_no up_s) up_s rfl rfl (Nat.le_of_ble_eq_true rfl) (xRm_of hR (by omega) (by decide) (by omega) (by omega)) dX9_totalWithout_23 (fun r9 h9 hq => ?_)
    obtain ⟨rfl, e9⟩ := hq
    have e9 := e9.symm
    subst e9
    refine X.heq (h1 := (va_up h b (xO 8 [vi 1, vi 0, .ref a1, .ref a2, vi cp, vi rc, vi 0, .ref a3, .ref a4, .ref a5, .ref a6, .ref a7, .ref a8, vi 0, vi sh, .ref bt]))) (up_u _ _ _ _) ?_
    exact x_iret C E rfl (by omega) (by omega) dX9_totalWithout_26 (⟨rfl, ⟨_, up_s⟩, ((up_n (ne_k hO hB (knn rfl))).trans hO)⟩)
  · skip
    cases c10

set_option maxRecDepth 100000 in
set_option maxHeartbeats 4000000 in
theorem c_Mo_shapeFret {G : xG} {h : PH} {b a1 a2 a3 a4 a5 a6 a7 a8 bt : Nat} {th cp rc sh : Int} (hB : h b = (xO 8 [vi th, vi 0, .ref a1, .ref a2, vi cp, vi rc, vi 0, .ref a3, .ref a4, .ref a5, .ref a6, .ref a7, .ref a8, vi 0, vi sh, .ref bt])) {o : Nat} {go : Nat → Int64} (hO : h o = xL G 1 go) {v w1 w2 w3 : Int} (hv : bd v) : Cn G m_Model_shapeFret 2 0 0 [.ref b, vi w1, vi w2, vi w3, vi v] h (fun r h' => r = some (vi 0) ∧ (∃ fs, h' b = xO 8 (vi 1 :: fs)) ∧ h' o = xL G 1 go) := by
  refine Cn_of (by decide) (Nat.le_of_ble_eq_true rfl) (fun K C hR E => ?_)
  show X G K 5 0 [some (.ref b), some (vi w1), some (vi w2), some (vi w3), some (vi v)] [] h 0 0
  refine x_aload_n C dX9_shapeFret_0 rfl rfl ?_
  refine x_iconst C dX9_shapeFret_1 ?_
  refine x_put C p_Model_44 hB (fit_int _) (Nat.le_of_ble_eq_true rfl) (h1 := (va_up h b (xO 8 [vi 0, vi 0, .ref a1, .ref a2, vi cp, vi rc, vi 0, .ref a3, .ref a4, .ref a5, .ref a6, .ref a7, .ref a8, vi 0, vi sh, .ref bt]))) rfl dX9_shapeFret_2 ?_
  refine x_aload_n C dX9_shapeFret_5 rfl rfl ?_
  refine x_iload C dX9_shapeFret_6 rfl ?_
  refine x_invV C s_Model_61 (st := []) (c_Mo_isString up_s (v := v) hv) up_s rfl rfl (Nat.le_of_ble_eq_true rfl) (xRm_of hR (by omega) (by decide) (by omega) (by omega)) dX9_shapeFret_8 (fun r9 h9 hq => ?_)
  obtain ⟨rfl, e9⟩ := hq
  have e9 := e9.symm
  subst e9
  refine x_ifneB C (tgt := 20) dX9_shapeFret_11 (by decide) (fun c11 => ?_) (fun c11 => ?_)
  · skip
    cases c11
  · skip
    refine x_aload_n C dX9_shapeFret_14 rfl rfl ?_
    refine x_iconst C dX9_shapeFret_15 ?_
    refine x_invV C s_Model_57 (st := []) (c_Mo_no up_s) up_s rfl rfl (Nat.le_of_ble_eq_true rfl) (xRm_of hR (by omega) (by decide) (by omega) (by omega)) dX9_shapeFret_16 (fun r9 h9 hq => ?_)
    obtain ⟨rfl, e9⟩ := hq
    have e9 := e9.symm
    subst e9
    refine X.heq (h1 := (va_up h b (xO 8 [vi 1, vi 0, .ref a1, .ref a2, vi cp, vi rc, vi 0, .ref a3, .ref a4, .ref a5, .ref a6, .ref a7, .ref a8, vi 0, vi sh, .ref bt]))) (up_u _ _ _ _) ?_
    exact x_iret C E rfl (by omega) (by omega) dX9_shapeFret_19 (⟨rfl, ⟨_, up_s⟩, ((up_n (ne_k hO hB (knn rfl))).trans hO)⟩)

set_option maxRecDepth 100000 in
set_option maxHeartbeats 4000000 in
theorem c_Mo_fret {G : xG} {h : PH} {b a1 a2 a3 a4 a5 a6 a7 a8 bt : Nat} {th cp rc sh : Int} (hB : h b = (xO 8 [vi th, vi 0, .ref a1, .ref a2, vi cp, vi rc, vi 0, .ref a3, .ref a4, .ref a5, .ref a6, .ref a7, .ref a8, vi 0, vi sh, .ref bt])) {o : Nat} {go : Nat → Int64} (hO : h o = xL G 1 go) {v w1 w2 : Int} (hv : bd v) : Cn G m_Model_fret 3 0 0 [.ref b, vi v, vi w1, vi w2] h (fun r h' => r = some (vi 0) ∧ (∃ fs, h' b = xO 8 (vi 1 :: fs)) ∧ h' o = xL G 1 go) := by
  refine Cn_of (by decide) (Nat.le_of_ble_eq_true rfl) (fun K C hR E => ?_)
  show X G K 4 0 [some (.ref b), some (vi v), some (vi w1), some (vi w2)] [] h 0 0
  refine x_aload_n C dX9_fret_0 rfl rfl ?_
  refine x_iload_n C dX9_fret_1 rfl rfl ?_
  refine x_iload_n C dX9_fret_2 rfl rfl ?_
  refine x_iload_n C dX9_fret_3 rfl rfl ?_
  refine x_iconst C dX9_fret_4 ?_
  refine x_invV C s_Model_160 (st := []) (c_Mo_onString hB hO (v := v) (w1 := w1) (w2 := w2) (w3 := 0) hv) hB rfl rfl (Nat.le_of_ble_eq_true rfl) (xRm_of hR (by omega) (by decide) (by omega) (by omega)) dX9_fret_5 (fun r9 h9 hq => ?_)
  obtain ⟨rfl, ⟨fs9, g9⟩, o9⟩ := hq
  exact x_iret C E rfl (by omega) (by omega) dX9_fret_8 (⟨rfl, ⟨_, g9⟩, o9⟩)

set_option maxRecDepth 100000 in
set_option maxHeartbeats 4000000 in
theorem c_Mo_finger {G : xG} {h : PH} {b a1 a2 a3 a4 a5 a6 a7 a8 bt : Nat} {th cp rc sh : Int} (hB : h b = (xO 8 [vi th, vi 0, .ref a1, .ref a2, vi cp, vi rc, vi 0, .ref a3, .ref a4, .ref a5, .ref a6, .ref a7, .ref a8, vi 0, vi sh, .ref bt])) {o : Nat} {go : Nat → Int64} (hO : h o = xL G 1 go) {v w1 w2 : Int} (hv : bd v) : Cn G m_Model_finger 3 0 0 [.ref b, vi v, vi w1, vi w2] h (fun r h' => r = some (vi 0) ∧ (∃ fs, h' b = xO 8 (vi 1 :: fs)) ∧ h' o = xL G 1 go) := by
  refine Cn_of (by decide) (Nat.le_of_ble_eq_true rfl) (fun K C hR E => ?_)
  show X G K 4 0 [some (.ref b), some (vi v), some (vi w1), some (vi w2)] [] h 0 0
  refine x_aload_n C dX9_finger_0 rfl rfl ?_
  refine x_iload_n C dX9_finger_1 rfl rfl ?_
  refine x_iload_n C dX9_finger_2 rfl rfl ?_
  refine x_iload_n C dX9_finger_3 rfl rfl ?_
  refine x_iconst C dX9_finger_4 ?_
  refine x_invV C s_Model_160 (st := []) (c_Mo_onString hB hO (v := v) (w1 := w1) (w2 := w2) (w3 := 1) hv) hB rfl rfl (Nat.le_of_ble_eq_true rfl) (xRm_of hR (by omega) (by decide) (by omega) (by omega)) dX9_finger_5 (fun r9 h9 hq => ?_)
  obtain ⟨rfl, ⟨fs9, g9⟩, o9⟩ := hq
  exact x_iret C E rfl (by omega) (by omega) dX9_finger_8 (⟨rfl, ⟨_, g9⟩, o9⟩)

set_option maxRecDepth 100000 in
set_option maxHeartbeats 4000000 in
theorem c_Mo_string_ok {G : xG} {h : PH} {b a1 a2 a3 a4 a5 a6 a7 a8 bt : Nat} {th cp rc sh : Int} (hB : h b = (xO 8 [vi th, vi 0, .ref a1, .ref a2, vi cp, vi rc, vi 0, .ref a3, .ref a4, .ref a5, .ref a6, .ref a7, .ref a8, vi 0, vi sh, .ref bt])) {o : Nat} {go : Nat → Int64} (hO : h o = xL G 1 go)  {g1 : Nat → Int} (hA1 : h a1 = xI G 6 g1) {v : Int} (hv : 0 ≤ v ∧ v ≤ 60) : Cn G m_Model_string 2 0 0 [.ref b, vi v] h (fun r h' => r = some (vi 0) ∧ (∃ fs, h' b = xO 8 (vi 0 :: fs)) ∧ h' o = xL G 1 go) := by
  refine Cn_of (by decide) (Nat.le_of_ble_eq_true rfl) (fun K C hR E => ?_)
  show X G K 2 0 [some (.ref b), some (vi v)] [] h 0 0
  refine x_aload_n C dX9_string_0 rfl rfl ?_
  refine x_iconst C dX9_string_1 ?_
  refine x_put C p_Model_44 hB (fit_int _) (Nat.le_of_ble_eq_true rfl) (h1 := (va_up h b (xO 8 [vi 0, vi 0, .ref a1, .ref a2, vi cp, vi rc, vi 0, .ref a3, .ref a4, .ref a5, .ref a6, .ref a7, .ref a8, vi 0, vi sh, .ref bt]))) rfl dX9_string_2 ?_
  refine x_iload_n C dX9_string_5 rfl rfl ?_
  refine x_iconst C dX9_string_6 ?_
  refine x_bipush C (z := 60) dX9_string_7 (by decide) ?_
  refine x_invS C s_Model_50 (st := []) (c_Mo_isIn (v := v) (lo := 0) (hi := 60) ⟨by omega, by omega⟩ (by decide) (by decide)) rfl rfl (Nat.le_of_ble_eq_true rfl) (xRm_of hR (by omega) (by decide) (by omega) (by omega)) dX9_string_9 (fun r9 h9 hq => ?_)
  obtain ⟨rfl, e9⟩ := hq
  have e9 := e9.symm
  subst e9
  refine x_ifneB C (tgt := 21) dX9_string_12 (by decide) (fun c12 => ?_) (fun c12 => ?_)
  · skip
    refine x_aload_n C dX9_string_21 rfl rfl ?_
    refine x_get C f_Model_47 up_s rfl dX9_string_22 ?_
    refine x_bipush C (z := 6) dX9_string_25 (by decide) ?_
    refine x_icmp_ne C (tgt := 36) dX9_string_27 (by decide) (by decide) (by decide) (fun c27 => ?_) (fun c27 => ?_)
    · skip
      refine x_aload_n C dX9_string_36 rfl rfl ?_
      refine x_get C f_Model_9 up_s rfl dX9_string_37 ?_
      refine x_aload_n C dX9_string_40 rfl rfl ?_
      refine x_get C f_Model_47 up_s rfl dX9_string_41 ?_
      refine x_iload_n C dX9_string_44 rfl rfl ?_
      refine x_iast C ((up_n (ne_k hA1 hB (knn rfl))).trans hA1) ⟨by omega, by omega, by omega⟩ (h1 := (va_up (va_up h b (xO 8 [vi 0, vi 0, .ref a1, .ref a2, vi cp, vi rc, vi 0, .ref a3, .ref a4, .ref a5, .ref a6, .ref a7, .ref a8, vi 0, vi sh, .ref bt])) a1 (xI G 6 (va_up g1 0 v)))) rfl dX9_string_45 ?_
      refine x_aload_n C dX9_string_46 rfl rfl ?_
      refine x_dup C dX9_string_47 rfl ?_
      refine x_get C f_Model_47 ((up_n (ne_k hB hA1 (knn rfl))).trans up_s) rfl dX9_string_48 ?_
      refine x_dup_x1 C dX9_string_51 rfl rfl ?_
      refine x_iconst C dX9_string_52 ?_
      refine x_iadd C dX9_string_53 ?_
      refine x_put C p_Model_47 ((up_n (ne_k hB hA1 (knn rfl))).trans up_s) (fit_int _) (Nat.le_of_ble_eq_true rfl) (h1 := (va_up (va_up h b (xO 8 [vi 0, vi 1, .ref a1, .ref a2, vi cp, vi rc, vi 0, .ref a3, .ref a4, .ref a5, .ref a6, .ref a7, .ref a8, vi 0, vi sh, .ref bt])) a1 (xI G 6 (va_up g1 0 v)))) ((up_c _ _ _ (ne_k hA1 hB (knn rfl))).trans (congrArg (fun f => va_up f a1 _) (up_u _ _ _ _))) dX9_string_54 ?_
      exact x_iret C E rfl (by omega) (by omega) dX9_string_57 (⟨rfl, ⟨_, ((up_n (ne_k hB hA1 (knn rfl))).trans up_s)⟩, ((up_n (ne_k hO hA1 (knn rfl))).trans ((up_n (ne_k hO hB (knn rfl))).trans hO))⟩)
    · skip
      exfalso; omega
  · skip
    exact absurd hv (of_decide_eq_false c12)

set_option maxRecDepth 100000 in
set_option maxHeartbeats 4000000 in
theorem c_Mo_string_no {G : xG} {h : PH} {b a1 a2 a3 a4 a5 a6 a7 a8 bt : Nat} {th cp rc sh : Int} (hB : h b = (xO 8 [vi th, vi 0, .ref a1, .ref a2, vi cp, vi rc, vi 0, .ref a3, .ref a4, .ref a5, .ref a6, .ref a7, .ref a8, vi 0, vi sh, .ref bt])) {o : Nat} {go : Nat → Int64} (hO : h o = xL G 1 go)  {v : Int} (hb : bd v) (hv : ¬ (0 ≤ v ∧ v ≤ 60)) : Cn G m_Model_string 2 0 0 [.ref b, vi v] h (fun r h' => r = some (vi 0) ∧ (∃ fs, h' b = xO 8 (vi 1 :: fs)) ∧ h' o = xL G 1 go) := by
  refine Cn_of (by decide) (Nat.le_of_ble_eq_true rfl) (fun K C hR E => ?_)
  show X G K 2 0 [some (.ref b), some (vi v)] [] h 0 0
  refine x_aload_n C dX9_string_0 rfl rfl ?_
  refine x_iconst C dX9_string_1 ?_
  refine x_put C p_Model_44 hB (fit_int _) (Nat.le_of_ble_eq_true rfl) (h1 := (va_up h b (xO 8 [vi 0, vi 0, .ref a1, .ref a2, vi cp, vi rc, vi 0, .ref a3, .ref a4, .ref a5, .ref a6, .ref a7, .ref a8, vi 0, vi sh, .ref bt]))) rfl dX9_string_2 ?_
  refine x_iload_n C dX9_string_5 rfl rfl ?_
  refine x_iconst C dX9_string_6 ?_
  refine x_bipush C (z := 60) dX9_string_7 (by decide) ?_
  refine x_invS C s_Model_50 (st := []) (c_Mo_isIn (v := v) (lo := 0) (hi := 60) hb (by decide) (by decide)) rfl rfl (Nat.le_of_ble_eq_true rfl) (xRm_of hR (by omega) (by decide) (by omega) (by omega)) dX9_string_9 (fun r9 h9 hq => ?_)
  obtain ⟨rfl, e9⟩ := hq
  have e9 := e9.symm
  subst e9
  refine x_ifneB C (tgt := 21) dX9_string_12 (by decide) (fun c12 => ?_) (fun c12 => ?_)
  · skip
    exact absurd (of_decide_eq_true c12) hv
  · skip
    refine x_aload_n C dX9_string_15 rfl rfl ?_
    refine x_iconst C dX9_string_16 ?_
    refine x_invV C s_Model_57 (st := []) (c_Mo_no up_s) up_s rfl rfl (Nat.le_of_ble_eq_true rfl) (xRm_of hR (by omega) (by decide) (by omega) (by omega)) dX9_string_17 (fun r9 h9 hq => ?_)
    obtain ⟨rfl, e9⟩ := hq
    have e9 := e9.symm
    subst e9
    refine X.heq (h1 := (va_up h b (xO 8 [vi 1, vi 0, .ref a1, .ref a2, vi cp, vi rc, vi 0, .ref a3, .ref a4, .ref a5, .ref a6, .ref a7, .ref a8, vi 0, vi sh, .ref bt]))) (up_u _ _ _ _) ?_
    exact x_iret C E rfl (by omega) (by omega) dX9_string_20 (⟨rfl, ⟨_, up_s⟩, ((up_n (ne_k hO hB (knn rfl))).trans hO)⟩)

set_option maxRecDepth 100000 in
set_option maxHeartbeats 4000000 in
theorem c_Mo_capo_ok {G : xG} {h : PH} {b a1 a2 a3 a4 a5 a6 a7 a8 bt : Nat} {th cp rc sh : Int} (hB : h b = (xO 8 [vi th, vi 0, .ref a1, .ref a2, vi cp, vi rc, vi 0, .ref a3, .ref a4, .ref a5, .ref a6, .ref a7, .ref a8, vi 0, vi sh, .ref bt])) {o : Nat} {go : Nat → Int64} (hO : h o = xL G 1 go)  {v : Int} (hv : 0 ≤ v ∧ v ≤ 7) : Cn G m_Model_capo 2 0 0 [.ref b, vi v] h (fun r h' => r = some (vi cp) ∧ (∃ fs, h' b = xO 8 (vi 0 :: fs)) ∧ h' o = xL G 1 go) := by
  refine Cn_of (by decide) (Nat.le_of_ble_eq_true rfl) (fun K C hR E => ?_)
  show X G K 3 0 [some (.ref b), some (vi v), none] [] h 0 0
  refine x_aload_n C dX9_capo_0 rfl rfl ?_
  refine x_iconst C dX9_capo_1 ?_
  refine x_put C p_Model_44 hB (fit_int _) (Nat.le_of_ble_eq_true rfl) (h1 := (va_up h b (xO 8 [vi 0, vi 0, .ref a1, .ref a2, vi cp, vi rc, vi 0, .ref a3, .ref a4, .ref a5, .ref a6, .ref a7, .ref a8, vi 0, vi sh, .ref bt]))) rfl dX9_capo_2 ?_
  refine x_iload_n C dX9_capo_5 rfl rfl ?_
  refine x_iconst C dX9_capo_6 ?_
  refine x_bipush C (z := 7) dX9_capo_7 (by decide) ?_
  refine x_invS C s_Model_50 (st := []) (c_Mo_isIn (v := v) (lo := 0) (hi := 7) ⟨by omega, by omega⟩ (by decide) (by decide)) rfl rfl (Nat.le_of_ble_eq_true rfl) (xRm_of hR (by omega) (by decide) (by omega) (by omega)) dX9_capo_9 (fun r9 h9 hq => ?_)
  obtain ⟨rfl, e9⟩ := hq
  have e9 := e9.symm
  subst e9
  refine x_ifneB C (tgt := 21) dX9_capo_12 (by decide) (fun c12 => ?_) (fun c12 => ?_)
  · skip
    refine x_aload_n C dX9_capo_21 rfl rfl ?_
    refine x_get C f_Model_69 up_s rfl dX9_capo_22 ?_
    refine x_istore_n C (ls' := [some (.ref b), some (vi v), some (vi cp)]) dX9_capo_25 rfl (by decide) rfl ?_
    refine x_aload_n C dX9_capo_26 rfl rfl ?_
    refine x_iload_n C dX9_capo_27 rfl rfl ?_
    refine x_put C p_Model_69 up_s (fit_int _) (Nat.le_of_ble_eq_true rfl) (h1 := (va_up h b (xO 8 [vi 0, vi 0, .ref a1, .ref a2, vi v, vi rc, vi 0, .ref a3, .ref a4, .ref a5, .ref a6, .ref a7, .ref a8, vi 0, vi sh, .ref bt]))) (up_u _ _ _ _) dX9_capo_28 ?_
    refine x_iload_n C dX9_capo_31 rfl rfl ?_
    exact x_iret C E rfl (by omega) (by omega) dX9_capo_32 (⟨rfl, ⟨_, up_s⟩, ((up_n (ne_k hO hB (knn rfl))).trans hO)⟩)
  · skip
    exact absurd hv (of_decide_eq_false c12)

set_option maxRecDepth 100000 in
set_option maxHeartbeats 4000000 in
theorem c_Mo_capo_no {G : xG} {h : PH} {b a1 a2 a3 a4 a5 a6 a7 a8 bt : Nat} {th cp rc sh : Int} (hB : h b = (xO 8 [vi th, vi 0, .ref a1, .ref a2, vi cp, vi rc, vi 0, .ref a3, .ref a4, .ref a5, .ref a6, .ref a7, .ref a8, vi 0, vi sh, .ref bt])) {o : Nat} {go : Nat → Int64} (hO : h o = xL G 1 go)  {v : Int} (hb : bd v) (hv : ¬ (0 ≤ v ∧ v ≤ 7)) : Cn G m_Model_capo 2 0 0 [.ref b, vi v] h (fun r h' => r = some (vi 0) ∧ (∃ fs, h' b = xO 8 (vi 1 :: fs)) ∧ h' o = xL G 1 go) := by
  refine Cn_of (by decide) (Nat.le_of_ble_eq_true rfl) (fun K C hR E => ?_)
  show X G K 3 0 [some (.ref b), some (vi v), none] [] h 0 0
  refine x_aload_n C dX9_capo_0 rfl rfl ?_
  refine x_iconst C dX9_capo_1 ?_
  refine x_put C p_Model_44 hB (fit_int _) (Nat.le_of_ble_eq_true rfl) (h1 := (va_up h b (xO 8 [vi 0, vi 0, .ref a1, .ref a2, vi cp, vi rc, vi 0, .ref a3, .ref a4, .ref a5, .ref a6, .ref a7, .ref a8, vi 0, vi sh, .ref bt]))) rfl dX9_capo_2 ?_
  refine x_iload_n C dX9_capo_5 rfl rfl ?_
  refine x_iconst C dX9_capo_6 ?_
  refine x_bipush C (z := 7) dX9_capo_7 (by decide) ?_
  refine x_invS C s_Model_50 (st := []) (c_Mo_isIn (v := v) (lo := 0) (hi := 7) hb (by decide) (by decide)) rfl rfl (Nat.le_of_ble_eq_true rfl) (xRm_of hR (by omega) (by decide) (by omega) (by omega)) dX9_capo_9 (fun r9 h9 hq => ?_)
  obtain ⟨rfl, e9⟩ := hq
  have e9 := e9.symm
  subst e9
  refine x_ifneB C (tgt := 21) dX9_capo_12 (by decide) (fun c12 => ?_) (fun c12 => ?_)
  · skip
    exact absurd (of_decide_eq_true c12) hv
  · skip
    refine x_aload_n C dX9_capo_15 rfl rfl ?_
    refine x_iconst C dX9_capo_16 ?_
    refine x_invV C s_Model_57 (st := []) (c_Mo_no up_s) up_s rfl rfl (Nat.le_of_ble_eq_true rfl) (xRm_of hR (by omega) (by decide) (by omega) (by omega)) dX9_capo_17 (fun r9 h9 hq => ?_)
    obtain ⟨rfl, e9⟩ := hq
    have e9 := e9.symm
    subst e9
    refine X.heq (h1 := (va_up h b (xO 8 [vi 1, vi 0, .ref a1, .ref a2, vi cp, vi rc, vi 0, .ref a3, .ref a4, .ref a5, .ref a6, .ref a7, .ref a8, vi 0, vi sh, .ref bt]))) (up_u _ _ _ _) ?_
    exact x_iret C E rfl (by omega) (by omega) dX9_capo_20 (⟨rfl, ⟨_, up_s⟩, ((up_n (ne_k hO hB (knn rfl))).trans hO)⟩)

set_option maxRecDepth 100000 in
set_option maxHeartbeats 4000000 in
theorem c_Mo_reach_ok {G : xG} {h : PH} {b a1 a2 a3 a4 a5 a6 a7 a8 bt : Nat} {th cp rc sh : Int} (hB : h b = (xO 8 [vi th, vi 0, .ref a1, .ref a2, vi cp, vi rc, vi 0, .ref a3, .ref a4, .ref a5, .ref a6, .ref a7, .ref a8, vi 0, vi sh, .ref bt])) {o : Nat} {go : Nat → Int64} (hO : h o = xL G 1 go)  {v : Int} (hv : 1 ≤ v ∧ v ≤ 6) : Cn G m_Model_reach 2 0 0 [.ref b, vi v] h (fun r h' => r = some (vi rc) ∧ (∃ fs, h' b = xO 8 (vi 0 :: fs)) ∧ h' o = xL G 1 go) := by
  refine Cn_of (by decide) (Nat.le_of_ble_eq_true rfl) (fun K C hR E => ?_)
  show X G K 3 0 [some (.ref b), some (vi v), none] [] h 0 0
  refine x_aload_n C dX9_reach_0 rfl rfl ?_
  refine x_iconst C dX9_reach_1 ?_
  refine x_put C p_Model_44 hB (fit_int _) (Nat.le_of_ble_eq_true rfl) (h1 := (va_up h b (xO 8 [vi 0, vi 0, .ref a1, .ref a2, vi cp, vi rc, vi 0, .ref a3, .ref a4, .ref a5, .ref a6, .ref a7, .ref a8, vi 0, vi sh, .ref bt]))) rfl dX9_reach_2 ?_
  refine x_iload_n C dX9_reach_5 rfl rfl ?_
  refine x_iconst C dX9_reach_6 ?_
  refine x_bipush C (z := 6) dX9_reach_7 (by decide) ?_
  refine x_invS C s_Model_50 (st := []) (c_Mo_isIn (v := v) (lo := 1) (hi := 6) ⟨by omega, by omega⟩ (by decide) (by decide)) rfl rfl (Nat.le_of_ble_eq_true rfl) (xRm_of hR (by omega) (by decide) (by omega) (by omega)) dX9_reach_9 (fun r9 h9 hq => ?_)
  obtain ⟨rfl, e9⟩ := hq
  have e9 := e9.symm
  subst e9
  refine x_ifneB C (tgt := 21) dX9_reach_12 (by decide) (fun c12 => ?_) (fun c12 => ?_)
  · skip
    refine x_aload_n C dX9_reach_21 rfl rfl ?_
    refine x_get C f_Model_17 up_s rfl dX9_reach_22 ?_
    refine x_istore_n C (ls' := [some (.ref b), some (vi v), some (vi rc)]) dX9_reach_25 rfl (by decide) rfl ?_
    refine x_aload_n C dX9_reach_26 rfl rfl ?_
    refine x_iload_n C dX9_reach_27 rfl rfl ?_
    refine x_put C p_Model_17 up_s (fit_int _) (Nat.le_of_ble_eq_true rfl) (h1 := (va_up h b (xO 8 [vi 0, vi 0, .ref a1, .ref a2, vi cp, vi v, vi 0, .ref a3, .ref a4, .ref a5, .ref a6, .ref a7, .ref a8, vi 0, vi sh, .ref bt]))) (up_u _ _ _ _) dX9_reach_28 ?_
    refine x_iload_n C dX9_reach_31 rfl rfl ?_
    exact x_iret C E rfl (by omega) (by omega) dX9_reach_32 (⟨rfl, ⟨_, up_s⟩, ((up_n (ne_k hO hB (knn rfl))).trans hO)⟩)
  · skip
    exact absurd hv (of_decide_eq_false c12)

set_option maxRecDepth 100000 in
set_option maxHeartbeats 4000000 in
theorem c_Mo_reach_no {G : xG} {h : PH} {b a1 a2 a3 a4 a5 a6 a7 a8 bt : Nat} {th cp rc sh : Int} (hB : h b = (xO 8 [vi th, vi 0, .ref a1, .ref a2, vi cp, vi rc, vi 0, .ref a3, .ref a4, .ref a5, .ref a6, .ref a7, .ref a8, vi 0, vi sh, .ref bt])) {o : Nat} {go : Nat → Int64} (hO : h o = xL G 1 go)  {v : Int} (hb : bd v) (hv : ¬ (1 ≤ v ∧ v ≤ 6)) : Cn G m_Model_reach 2 0 0 [.ref b, vi v] h (fun r h' => r = some (vi 0) ∧ (∃ fs, h' b = xO 8 (vi 1 :: fs)) ∧ h' o = xL G 1 go) := by
  refine Cn_of (by decide) (Nat.le_of_ble_eq_true rfl) (fun K C hR E => ?_)
  show X G K 3 0 [some (.ref b), some (vi v), none] [] h 0 0
  refine x_aload_n C dX9_reach_0 rfl rfl ?_
  refine x_iconst C dX9_reach_1 ?_
  refine x_put C p_Model_44 hB (fit_int _) (Nat.le_of_ble_eq_true rfl) (h1 := (va_up h b (xO 8 [vi 0, vi 0, .ref a1, .ref a2, vi cp, vi rc, vi 0, .ref a3, .ref a4, .ref a5, .ref a6, .ref a7, .ref a8, vi 0, vi sh, .ref bt]))) rfl dX9_reach_2 ?_
  refine x_iload_n C dX9_reach_5 rfl rfl ?_
  refine x_iconst C dX9_reach_6 ?_
  refine x_bipush C (z := 6) dX9_reach_7 (by decide) ?_
  refine x_invS C s_Model_50 (st := []) (c_Mo_isIn (v := v) (lo := 1) (hi := 6) hb (by decide) (by decide)) rfl rfl (Nat.le_of_ble_eq_true rfl) (xRm_of hR (by omega) (by decide) (by omega) (by omega)) dX9_reach_9 (fun r9 h9 hq => ?_)
  obtain ⟨rfl, e9⟩ := hq
  have e9 := e9.symm
  subst e9
  refine x_ifneB C (tgt := 21) dX9_reach_12 (by decide) (fun c12 => ?_) (fun c12 => ?_)
  · skip
    exact absurd (of_decide_eq_true c12) hv
  · skip
    refine x_aload_n C dX9_reach_15 rfl rfl ?_
    refine x_iconst C dX9_reach_16 ?_
    refine x_invV C s_Model_57 (st := []) (c_Mo_no up_s) up_s rfl rfl (Nat.le_of_ble_eq_true rfl) (xRm_of hR (by omega) (by decide) (by omega) (by omega)) dX9_reach_17 (fun r9 h9 hq => ?_)
    obtain ⟨rfl, e9⟩ := hq
    have e9 := e9.symm
    subst e9
    refine X.heq (h1 := (va_up h b (xO 8 [vi 1, vi 0, .ref a1, .ref a2, vi cp, vi rc, vi 0, .ref a3, .ref a4, .ref a5, .ref a6, .ref a7, .ref a8, vi 0, vi sh, .ref bt]))) (up_u _ _ _ _) ?_
    exact x_iret C E rfl (by omega) (by omega) dX9_reach_20 (⟨rfl, ⟨_, up_s⟩, ((up_n (ne_k hO hB (knn rfl))).trans hO)⟩)

def frA (h h' : PH) : Prop := ∀ y, alv h y → h' y = h y
theorem frA.refl (h : PH) : frA h h := fun _ _ => rfl
theorem frA.alv {h h' : PH} (F : frA h h') {y : Nat} (hy : alv h y) : alv h' y := by show h' y ≠ none; rw [F y hy]; exact hy
theorem frA.trans {h h1 h2 : PH} (F : frA h h1) (F2 : frA h1 h2) : frA h h2 := fun y hy => (F2 y (F.alv hy)).trans (F y hy)
theorem frA.new {h : PH} {q : Nat} {v : va_E} (z : h q = none) : frA h (va_up h q (some v)) := fun y hy => up_n (fun e => hy (by rw [e]; exact z))
theorem frA.back {h h9 : PH} {b : Nat} {v w : va_E} (hB : h b = some v) (F : frA (va_up h b (some w)) h9) : frA h (va_up h9 b (some v)) := fun y hy => by
  by_cases c : y = b
  · rw [c]; exact up_s.trans hB.symm
  · exact (up_n c).trans ((F y (alv_up hy)).trans (up_n c))
/-- the answers of many at the start -/
def mA (cp rc w : Int) : Int := if w = 2 then cp else if w = 3 then rc else if w = 7 then -1 else 0

set_option maxRecDepth 100000 in
set_option maxHeartbeats 4000000 in
theorem c_Mo_all {G : xG} {h : PH} {b a1 a2 a3 a4 a5 a6 a7 a8 bt : Nat} {th cp rc sh : Int} (hB : h b = (xO 8 [vi th, vi 0, .ref a1, .ref a2, vi cp, vi rc, vi 0, .ref a3, .ref a4, .ref a5, .ref a6, .ref a7, .ref a8, vi 0, vi sh, .ref bt]))  : Cn G m_Model_all 0 1 0 [.ref b] h (fun r h' => ∃ q, r = some (.ref q) ∧ h' q = xQ G 6 0 (fun _ => none) ∧ frA h h') := by
  refine Cn_of (by decide) (Nat.le_of_ble_eq_true rfl) (fun K C hR E => ?_)
  show X G K 3 0 [some (.ref b), none, none] [] h 0 0
  refine x_aload_n C dX9_all_0 rfl rfl ?_
  refine x_get C f_Model_54 hB rfl dX9_all_1 ?_
  refine x_newAA C (n := 0) ⟨by omega, by omega⟩ a_Model_171 (by decide) hR (by omega) (by omega) dX9_all_4 (fun qa zqa => ?_)
  have ne_b_qa : b ≠ qa := fun e => by rw [← e] at zqa; exact absurd (zqa.symm.trans hB) (by intro h9; cases h9)
  refine x_astore_n C (ls' := [some (.ref b), some (.ref qa), none]) dX9_all_7 rfl (by decide) rfl ?_
  refine x_iconst C dX9_all_8 ?_
  refine x_istore_n C (ls' := [some (.ref b), some (.ref qa), some (vi 0)]) dX9_all_9 rfl (by decide) rfl ?_
  refine x_iload_n C dX9_all_10 rfl rfl ?_
  refine x_aload_n C dX9_all_11 rfl rfl ?_
  refine x_get C f_Model_54 ((up_n ne_b_qa).trans hB) rfl dX9_all_12 ?_
  refine x_icmp_ge C (tgt := 32) dX9_all_15 (by decide) (by decide) (by decide) (fun c15 => ?_) (fun c15 => ?_)
  · skip
    refine x_aload_n C dX9_all_32 rfl rfl ?_
    exact x_aret C E rfl (by first | exact Or.inl ⟨_, rfl⟩ | exact Or.inr ⟨_, rfl⟩) (by omega) (by omega) dX9_all_33 (⟨qa, rfl, up_s, frA.new zqa⟩)
  · skip
    exfalso; omega

set_option maxRecDepth 100000 in
set_option maxHeartbeats 4000000 in
theorem c_Mo_planNow {G : xG} {h : PH} {b a1 a2 a3 a4 a5 a6 a7 a8 bt : Nat} {th cp rc sh : Int} (hB : h b = (xO 8 [vi th, vi 0, .ref a1, .ref a2, vi cp, vi rc, vi 0, .ref a3, .ref a4, .ref a5, .ref a6, .ref a7, .ref a8, vi 0, vi sh, .ref bt])) {q0 : Nat}  : Cn G m_Model_planNow 0 2 0 [.ref b, .ref q0] h (fun r h' => ∃ q, r = some (.ref q) ∧ h' q = xI G 0 (fun _ => 0) ∧ frA h h') := by
  refine Cn_of (by decide) (Nat.le_of_ble_eq_true rfl) (fun K C hR E => ?_)
  show X G K 9 0 [some (.ref b), some (.ref q0), none, none, none, none, none, none, none] [] h 0 0
  refine x_aload_n C dX9_planNow_0 rfl rfl ?_
  refine x_get C f_Model_54 hB rfl dX9_planNow_1 ?_
  refine x_newA C (n := 0) ⟨by omega, by omega⟩ a_Model_21 (by decide) hR (by omega) (by omega) dX9_planNow_4 (fun q1 zq1 => ?_)
  have ne_b_q1 : b ≠ q1 := fun e => by rw [← e] at zq1; exact absurd (zq1.symm.trans hB) (by intro h9; cases h9)
  refine x_astore_n C (ls' := [some (.ref b), some (.ref q0), some (.ref q1), none, none, none, none, none, none]) dX9_planNow_7 rfl (by decide) rfl ?_
  refine x_aload_n C dX9_planNow_8 rfl rfl ?_
  refine x_get C f_Model_54 ((up_n ne_b_q1).trans hB) rfl dX9_planNow_9 ?_
  refine x_iconst C dX9_planNow_12 ?_
  refine x_isub C dX9_planNow_13 ?_
  refine x_istore_n C (ls' := [some (.ref b), some (.ref q0), some (.ref q1), some (vi (0 - 1)), none, none, none, none, none]) dX9_planNow_14 rfl (by decide) rfl ?_
  refine x_iload_n C dX9_planNow_15 rfl rfl ?_
  refine x_if_lt C (tgt := 222) dX9_planNow_16 (by decide) ⟨by omega, by omega⟩ (fun c16 => ?_) (fun c16 => ?_)
  · skip
    refine x_aload_n C dX9_planNow_222 rfl rfl ?_
    refine x_get C f_Model_54 ((up_n ne_b_q1).trans hB) rfl dX9_planNow_223 ?_
    refine x_if_ne C (tgt := 233) dX9_planNow_226 (by decide) (by decide) (fun c226 => ?_) (fun c226 => ?_)
    · skip
      exact absurd rfl c226
    · skip
      refine x_iconst C dX9_planNow_229 ?_
      refine x_newI C (n := 0) ⟨by omega, by omega⟩ arrayClass_int hR (by omega) (by omega) dX9_planNow_230 (fun q2 zq2 => ?_)
      have ne_b_q2 : b ≠ q2 := fun e => by rw [← e] at zq2; exact absurd (zq2.symm.trans ((up_n ne_b_q1).trans hB)) (by intro h9; cases h9)
      have ne_q1_q2 : q1 ≠ q2 := fun e => by rw [← e] at zq2; exact absurd (zq2.symm.trans up_s) (by intro h9; cases h9)
      exact x_aret C E rfl (by first | exact Or.inl ⟨_, rfl⟩ | exact Or.inr ⟨_, rfl⟩) (by omega) (by omega) dX9_planNow_232 (⟨q2, rfl, up_s, (frA.new zq1).trans (frA.new zq2)⟩)
  · skip
    exfalso; omega

set_option maxRecDepth 100000 in
set_option maxHeartbeats 4000000 in
theorem c_Mo_totalNow {G : xG} {h : PH} {b a1 a2 a3 a4 a5 a6 a7 a8 bt : Nat} {th cp rc sh : Int} (hB : h b = (xO 8 [vi th, vi 0, .ref a1, .ref a2, vi cp, vi rc, vi 0, .ref a3, .ref a4, .ref a5, .ref a6, .ref a7, .ref a8, vi 0, vi sh, .ref bt]))  : Cn G m_Model_totalNow 1 3 0 [.ref b] h (fun r h' => r = some (vi (-1)) ∧ frA h h') := by
  refine Cn_of (by decide) (Nat.le_of_ble_eq_true rfl) (fun K C hR E => ?_)
  show X G K 2 0 [some (.ref b), none] [] h 0 0
  refine x_aload_n C dX9_totalNow_0 rfl rfl ?_
  refine x_aload_n C dX9_totalNow_1 rfl rfl ?_
  refine x_invV C s_Model_172 (st := [.ref b]) (c_Mo_all hB) hB rfl rfl (Nat.le_of_ble_eq_true rfl) (xRm_of hR (by omega) (by decide) (by omega) (by omega)) dX9_totalNow_2 (fun r9 h9 hq => ?_)
  obtain ⟨qa, rfl, gqa, F9⟩ := hq
  refine x_invV C s_Model_176 (st := []) (c_Mo_planNow (q0 := qa) ((F9 _ (alv_of hB)).trans hB)) ((F9 _ (alv_of hB)).trans hB) rfl rfl (Nat.le_of_ble_eq_true rfl) (xRm_of hR (by omega) (by decide) (by omega) (by omega)) dX9_totalNow_5 (fun r9 h8 hq => ?_)
  obtain ⟨qp, rfl, gqp, F8⟩ := hq
  refine x_astore_n C (ls' := [some (.ref b), some (.ref qp)]) dX9_totalNow_8 rfl (by decide) rfl ?_
  refine x_aload_n C dX9_totalNow_9 rfl rfl ?_
  refine x_alen C (t := 0) rfl gqp dX9_totalNow_10 ?_
  refine x_if_ne C (tgt := 18) dX9_totalNow_11 (by decide) (by decide) (fun c11 => ?_) (fun c11 => ?_)
  · skip
    exact absurd rfl c11
  · skip
    refine x_iconst C dX9_totalNow_14 ?_
    refine x_goto C (tgt := 24) dX9_totalNow_15 (by decide) ?_
    exact x_iret C E rfl (by omega) (by omega) dX9_totalNow_24 (⟨rfl, F9.trans F8⟩)

set_option maxRecDepth 100000 in
set_option maxHeartbeats 4000000 in
theorem c_Mo_total {G : xG} {h : PH} {b a1 a2 a3 a4 a5 a6 a7 a8 bt : Nat} {th cp rc sh : Int} (hB : h b = (xO 8 [vi th, vi 0, .ref a1, .ref a2, vi cp, vi rc, vi 0, .ref a3, .ref a4, .ref a5, .ref a6, .ref a7, .ref a8, vi 0, vi sh, .ref bt])) {o : Nat} {go : Nat → Int64} (hO : h o = xL G 1 go)  : Cn G m_Model_total 2 3 0 [.ref b] h (fun r h' => r = some (vi (-1)) ∧ (∃ fs, h' b = xO 8 (vi 0 :: fs)) ∧ h' o = xL G 1 go) := by
  refine Cn_of (by decide) (Nat.le_of_ble_eq_true rfl) (fun K C hR E => ?_)
  show X G K 1 0 [some (.ref b)] [] h 0 0
  refine x_aload_n C dX9_total_0 rfl rfl ?_
  refine x_iconst C dX9_total_1 ?_
  refine x_put C p_Model_44 hB (fit_int _) (Nat.le_of_ble_eq_true rfl) (h1 := (va_up h b (xO 8 [vi 0, vi 0, .ref a1, .ref a2, vi cp, vi rc, vi 0, .ref a3, .ref a4, .ref a5, .ref a6, .ref a7, .ref a8, vi 0, vi sh, .ref bt]))) rfl dX9_total_2 ?_
  refine x_aload_n C dX9_total_5 rfl rfl ?_
  refine x_invV C s_Model_180 (st := []) (c_Mo_totalNow up_s) up_s rfl rfl (Nat.le_of_ble_eq_true rfl) (xRm_of hR (by omega) (by decide) (by omega) (by omega)) dX9_total_6 (fun r9 h9 hq => ?_)
  obtain ⟨rfl, F9⟩ := hq
  exact x_iret C E rfl (by omega) (by omega) dX9_total_9 (⟨rfl, ⟨_, ((F9 _ (alv_of up_s)).trans up_s)⟩, ((F9 _ (alv_of ((up_n (ne_k hO hB (knn rfl))).trans hO))).trans ((up_n (ne_k hO hB (knn rfl))).trans hO))⟩)

set_option maxRecDepth 100000 in
set_option maxHeartbeats 4000000 in
theorem c_Mo_hardestNow {G : xG} {h : PH} {b a1 a2 a3 a4 a5 a6 a7 a8 bt : Nat} {th cp rc sh : Int} (hB : h b = (xO 8 [vi th, vi 0, .ref a1, .ref a2, vi cp, vi rc, vi 0, .ref a3, .ref a4, .ref a5, .ref a6, .ref a7, .ref a8, vi 0, vi sh, .ref bt])) {q0 q1 : Nat}  : Cn G m_Model_hardestNow 0 0 0 [.ref b, .ref q0, .ref q1] h (fun r h' => r = some (vi (-1)) ∧ h' = h) := by
  refine Cn_of (by decide) (Nat.le_of_ble_eq_true rfl) (fun K C hR E => ?_)
  show X G K 7 0 [some (.ref b), some (.ref q0), some (.ref q1), none, none, none, none] [] h 0 0
  refine x_iconst C dX9_hardestNow_0 ?_
  refine x_istore_n C (ls' := [some (.ref b), some (.ref q0), some (.ref q1), some (vi (-1)), none, none, none]) dX9_hardestNow_1 rfl (by decide) rfl ?_
  refine x_iconst C dX9_hardestNow_2 ?_
  refine x_istore C (ls' := [some (.ref b), some (.ref q0), some (.ref q1), some (vi (-1)), some (vi (-1)), none, none]) dX9_hardestNow_3 (by decide) rfl ?_
  refine x_iconst C dX9_hardestNow_5 ?_
  refine x_istore C (ls' := [some (.ref b), some (.ref q0), some (.ref q1), some (vi (-1)), some (vi (-1)), some (vi 0), none]) dX9_hardestNow_6 (by decide) rfl ?_
  refine x_iload C dX9_hardestNow_8 rfl ?_
  refine x_iconst C dX9_hardestNow_10 ?_
  refine x_iadd C dX9_hardestNow_11 ?_
  refine x_aload_n C dX9_hardestNow_12 rfl rfl ?_
  refine x_get C f_Model_54 hB rfl dX9_hardestNow_13 ?_
  refine x_icmp_ge C (tgt := 77) dX9_hardestNow_16 (by decide) (by decide) (by decide) (fun c16 => ?_) (fun c16 => ?_)
  · skip
    refine x_iload_n C dX9_hardestNow_77 rfl rfl ?_
    exact x_iret C E rfl (by omega) (by omega) dX9_hardestNow_78 (⟨rfl, rfl⟩)
  · skip
    exfalso; omega

set_option maxRecDepth 100000 in
set_option maxHeartbeats 4000000 in
theorem c_Mo_hardest {G : xG} {h : PH} {b a1 a2 a3 a4 a5 a6 a7 a8 bt : Nat} {th cp rc sh : Int} (hB : h b = (xO 8 [vi th, vi 0, .ref a1, .ref a2, vi cp, vi rc, vi 0, .ref a3, .ref a4, .ref a5, .ref a6, .ref a7, .ref a8, vi 0, vi sh, .ref bt])) {o : Nat} {go : Nat → Int64} (hO : h o = xL G 1 go)  : Cn G m_Model_hardest 2 3 0 [.ref b] h (fun r h' => r = some (vi (-1)) ∧ (∃ fs, h' b = xO 8 (vi 0 :: fs)) ∧ h' o = xL G 1 go) := by
  refine Cn_of (by decide) (Nat.le_of_ble_eq_true rfl) (fun K C hR E => ?_)
  show X G K 2 0 [some (.ref b), none] [] h 0 0
  refine x_aload_n C dX9_hardest_0 rfl rfl ?_
  refine x_iconst C dX9_hardest_1 ?_
  refine x_put C p_Model_44 hB (fit_int _) (Nat.le_of_ble_eq_true rfl) (h1 := (va_up h b (xO 8 [vi 0, vi 0, .ref a1, .ref a2, vi cp, vi rc, vi 0, .ref a3, .ref a4, .ref a5, .ref a6, .ref a7, .ref a8, vi 0, vi sh, .ref bt]))) rfl dX9_hardest_2 ?_
  refine x_aload_n C dX9_hardest_5 rfl rfl ?_
  refine x_invV C s_Model_172 (st := []) (c_Mo_all up_s) up_s rfl rfl (Nat.le_of_ble_eq_true rfl) (xRm_of hR (by omega) (by decide) (by omega) (by omega)) dX9_hardest_6 (fun r9 h9 hq => ?_)
  obtain ⟨qa, rfl, gqa, F9⟩ := hq
  refine x_astore_n C (ls' := [some (.ref b), some (.ref qa)]) dX9_hardest_9 rfl (by decide) rfl ?_
  refine x_aload_n C dX9_hardest_10 rfl rfl ?_
  refine x_aload_n C dX9_hardest_11 rfl rfl ?_
  refine x_aload_n C dX9_hardest_12 rfl rfl ?_
  refine x_aload_n C dX9_hardest_13 rfl rfl ?_
  refine x_invV C s_Model_176 (st := [.ref qa, .ref b]) (c_Mo_planNow (q0 := qa) ((F9 _ (alv_of up_s)).trans up_s)) ((F9 _ (alv_of up_s)).trans up_s) rfl rfl (Nat.le_of_ble_eq_true rfl) (xRm_of hR (by omega) (by decide) (by omega) (by omega)) dX9_hardest_14 (fun r9 h8 hq => ?_)
  obtain ⟨qp, rfl, gqp, F8⟩ := hq
  refine x_invV C s_Model_183 (st := []) (c_Mo_hardestNow (q0 := qa) (q1 := qp) ((F8 _ (alv_of ((F9 _ (alv_of up_s)).trans up_s))).trans ((F9 _ (alv_of up_s)).trans up_s))) ((F8 _ (alv_of ((F9 _ (alv_of up_s)).trans up_s))).trans ((F9 _ (alv_of up_s)).trans up_s)) rfl rfl (Nat.le_of_ble_eq_true rfl) (xRm_of hR (by omega) (by decide) (by omega) (by omega)) dX9_hardest_17 (fun r9 h7 hq => ?_)
  obtain ⟨rfl, e9⟩ := hq
  have e9 := e9.symm
  subst e9
  exact x_iret C E rfl (by omega) (by omega) dX9_hardest_20 (⟨rfl, ⟨_, ((F8 _ (alv_of ((F9 _ (alv_of up_s)).trans up_s))).trans ((F9 _ (alv_of up_s)).trans up_s))⟩, ((F8 _ (alv_of ((F9 _ (alv_of ((up_n (ne_k hO hB (knn rfl))).trans hO))).trans ((up_n (ne_k hO hB (knn rfl))).trans hO)))).trans ((F9 _ (alv_of ((up_n (ne_k hO hB (knn rfl))).trans hO))).trans ((up_n (ne_k hO hB (knn rfl))).trans hO)))⟩)

set_option maxRecDepth 100000 in
set_option maxHeartbeats 4000000 in
theorem c_Mo_slack {G : xG} {h : PH} {b a1 a2 a3 a4 a5 a6 a7 a8 bt : Nat} {th cp rc sh : Int} (hB : h b = (xO 8 [vi th, vi 0, .ref a1, .ref a2, vi cp, vi rc, vi 0, .ref a3, .ref a4, .ref a5, .ref a6, .ref a7, .ref a8, vi 0, vi sh, .ref bt]))  : Cn G m_Model_slack 0 0 0 [.ref b] h (fun r h' => r = some (vi 0) ∧ h' = h) := by
  refine Cn_of (by decide) (Nat.le_of_ble_eq_true rfl) (fun K C hR E => ?_)
  show X G K 3 0 [some (.ref b), none, none] [] h 0 0
  refine x_iconst C dX9_slack_0 ?_
  refine x_istore_n C (ls' := [some (.ref b), some (vi 0), none]) dX9_slack_1 rfl (by decide) rfl ?_
  refine x_iconst C dX9_slack_2 ?_
  refine x_istore_n C (ls' := [some (.ref b), some (vi 0), some (vi 0)]) dX9_slack_3 rfl (by decide) rfl ?_
  refine x_iload_n C dX9_slack_4 rfl rfl ?_
  refine x_aload_n C dX9_slack_5 rfl rfl ?_
  refine x_get C f_Model_47 hB rfl dX9_slack_6 ?_
  refine x_icmp_ge C (tgt := 35) dX9_slack_9 (by decide) (by decide) (by decide) (fun c9 => ?_) (fun c9 => ?_)
  · skip
    refine x_iload_n C dX9_slack_35 rfl rfl ?_
    exact x_iret C E rfl (by omega) (by omega) dX9_slack_36 (⟨rfl, rfl⟩)
  · skip
    exfalso; omega

set_option maxRecDepth 100000 in
set_option maxHeartbeats 4000000 in
theorem c_Mo_manyNow {G : xG} {h : PH} {b a1 a2 a3 a4 a5 a6 a7 a8 bt : Nat} {th cp rc sh : Int} (hB : h b = (xO 8 [vi th, vi 0, .ref a1, .ref a2, vi cp, vi rc, vi 0, .ref a3, .ref a4, .ref a5, .ref a6, .ref a7, .ref a8, vi 0, vi sh, .ref bt])) {q0 q1 : Nat} (hQ : h q0 = xQ G 6 0 (fun _ => none)) (hP : h q1 = xI G 0 (fun _ => 0)) {w : Int} (hw : 0 ≤ w ∧ w ≤ 7) : Cn G m_Model_manyNow 1 0 0 [.ref b, vi w, .ref q0, .ref q1] h (fun r h' => r = some (vi (mA cp rc w)) ∧ h' = h) := by
  refine Cn_of (by decide) (Nat.le_of_ble_eq_true rfl) (fun K C hR E => ?_)
  show X G K 9 0 [some (.ref b), some (vi w), some (.ref q0), some (.ref q1), none, none, none, none, none] [] h 0 0
  refine x_iconst C dX9_manyNow_0 ?_
  refine x_istore C (ls' := [some (.ref b), some (vi w), some (.ref q0), some (.ref q1), some (vi 0), none, none, none, none]) dX9_manyNow_1 (by decide) rfl ?_
  refine x_iload_n C dX9_manyNow_3 rfl rfl ?_
  obtain rfl | rfl | rfl | rfl | rfl | rfl | rfl | rfl : w = 0 ∨ w = 1 ∨ w = 2 ∨ w = 3 ∨ w = 4 ∨ w = 5 ∨ w = 6 ∨ w = 7 := by omega
  ·
    refine x_tsw C (tgt := 48) dX9_manyNow_4 (by decide) (by decide) (by decide) rfl (by decide) ?_
    refine x_aload_n C dX9_manyNow_48 rfl rfl ?_
    refine x_get C f_Model_47 hB rfl dX9_manyNow_49 ?_
    exact x_iret C E rfl (by omega) (by omega) dX9_manyNow_52 (⟨rfl, rfl⟩)
  ·
    refine x_tsw C (tgt := 53) dX9_manyNow_4 (by decide) (by decide) (by decide) rfl (by decide) ?_
    refine x_aload_n C dX9_manyNow_53 rfl rfl ?_
    refine x_invV C s_Model_65 (st := []) (c_Mo_slack hB) hB rfl rfl (Nat.le_of_ble_eq_true rfl) (xRm_of hR (by omega) (by decide) (by omega) (by omega)) dX9_manyNow_54 (fun r9 h9 hq => ?_)
    obtain ⟨rfl, e9⟩ := hq
    have e9 := e9.symm
    subst e9
    exact x_iret C E rfl (by omega) (by omega) dX9_manyNow_57 (⟨rfl, rfl⟩)
  ·
    refine x_tsw C (tgt := 58) dX9_manyNow_4 (by decide) (by decide) (by decide) rfl (by decide) ?_
    refine x_aload_n C dX9_manyNow_58 rfl rfl ?_
    refine x_get C f_Model_69 hB rfl dX9_manyNow_59 ?_
    exact x_iret C E rfl (by omega) (by omega) dX9_manyNow_62 (⟨rfl, rfl⟩)
  ·
    refine x_tsw C (tgt := 63) dX9_manyNow_4 (by decide) (by decide) (by decide) rfl (by decide) ?_
    refine x_aload_n C dX9_manyNow_63 rfl rfl ?_
    refine x_get C f_Model_17 hB rfl dX9_manyNow_64 ?_
    exact x_iret C E rfl (by omega) (by omega) dX9_manyNow_67 (⟨rfl, rfl⟩)
  ·
    refine x_tsw C (tgt := 68) dX9_manyNow_4 (by decide) (by decide) (by decide) rfl (by decide) ?_
    refine x_aload_n C dX9_manyNow_68 rfl rfl ?_
    refine x_get C f_Model_54 hB rfl dX9_manyNow_69 ?_
    exact x_iret C E rfl (by omega) (by omega) dX9_manyNow_72 (⟨rfl, rfl⟩)
  ·
    refine x_tsw C (tgt := 73) dX9_manyNow_4 (by decide) (by decide) (by decide) rfl (by decide) ?_
    refine x_aload_n C dX9_manyNow_73 rfl rfl ?_
    refine x_astore C (ls' := [some (.ref b), some (vi 5), some (.ref q0), some (.ref q1), some (vi 0), some (.ref q0), none, none, none]) dX9_manyNow_74 (by decide) rfl ?_
    refine x_aload C dX9_manyNow_76 rfl ?_
    refine x_alen C (t := 6) rfl hQ dX9_manyNow_78 ?_
    refine x_istore C (ls' := [some (.ref b), some (vi 5), some (.ref q0), some (.ref q1), some (vi 0), some (.ref q0), some (vi 0), none, none]) dX9_manyNow_79 (by decide) rfl ?_
    refine x_iconst C dX9_manyNow_81 ?_
    refine x_istore C (ls' := [some (.ref b), some (vi 5), some (.ref q0), some (.ref q1), some (vi 0), some (.ref q0), some (vi 0), some (vi 0), none]) dX9_manyNow_82 (by decide) rfl ?_
    refine x_iload C dX9_manyNow_84 rfl ?_
    refine x_iload C dX9_manyNow_86 rfl ?_
    refine x_icmp_ge C (tgt := 120) dX9_manyNow_88 (by decide) (by decide) (by decide) (fun c88 => ?_) (fun c88 => ?_)
    · skip
      refine x_iload C dX9_manyNow_120 rfl ?_
      exact x_iret C E rfl (by omega) (by omega) dX9_manyNow_122 (⟨rfl, rfl⟩)
    · skip
      exfalso; omega
  ·
    refine x_tsw C (tgt := 123) dX9_manyNow_4 (by decide) (by decide) (by decide) rfl (by decide) ?_
    refine x_iconst C dX9_manyNow_123 ?_
    refine x_istore C (ls' := [some (.ref b), some (vi 6), some (.ref q0), some (.ref q1), some (vi 0), some (vi 0), none, none, none]) dX9_manyNow_124 (by decide) rfl ?_
    refine x_iload C dX9_manyNow_126 rfl ?_
    refine x_aload_n C dX9_manyNow_128 rfl rfl ?_
    refine x_get C f_Model_54 hB rfl dX9_manyNow_129 ?_
    refine x_icmp_ge C (tgt := 165) dX9_manyNow_132 (by decide) (by decide) (by decide) (fun c132 => ?_) (fun c132 => ?_)
    · skip
      refine x_iload C dX9_manyNow_165 rfl ?_
      exact x_iret C E rfl (by omega) (by omega) dX9_manyNow_167 (⟨rfl, rfl⟩)
    · skip
      exfalso; omega
  ·
    refine x_tswD C (tgt := 168) dX9_manyNow_4 (by decide) (by decide) (by decide) ?_
    refine x_iconst C dX9_manyNow_168 ?_
    refine x_istore C (ls' := [some (.ref b), some (vi 7), some (.ref q0), some (.ref q1), some (vi 0), some (vi 0), none, none, none]) dX9_manyNow_169 (by decide) rfl ?_
    refine x_iload C dX9_manyNow_171 rfl ?_
    refine x_iconst C dX9_manyNow_173 ?_
    refine x_iadd C dX9_manyNow_174 ?_
    refine x_aload_n C dX9_manyNow_175 rfl rfl ?_
    refine x_get C f_Model_54 hB rfl dX9_manyNow_176 ?_
    refine x_icmp_ge C (tgt := 226) dX9_manyNow_179 (by decide) (by decide) (by decide) (fun c179 => ?_) (fun c179 => ?_)
    · skip
      refine x_aload_n C dX9_manyNow_226 rfl rfl ?_
      refine x_alen C (t := 0) rfl hP dX9_manyNow_227 ?_
      refine x_if_ne C (tgt := 235) dX9_manyNow_228 (by decide) (by decide) (fun c228 => ?_) (fun c228 => ?_)
      · skip
        exact absurd rfl c228
      · skip
        refine x_iconst C dX9_manyNow_231 ?_
        refine x_goto C (tgt := 237) dX9_manyNow_232 (by decide) ?_
        exact x_iret C E rfl (by omega) (by omega) dX9_manyNow_237 (⟨rfl, rfl⟩)
    · skip
      exfalso; omega

set_option maxRecDepth 100000 in
set_option maxHeartbeats 4000000 in
theorem c_Mo_many_ok {G : xG} {h : PH} {b a1 a2 a3 a4 a5 a6 a7 a8 bt : Nat} {th cp rc sh : Int} (hB : h b = (xO 8 [vi th, vi 0, .ref a1, .ref a2, vi cp, vi rc, vi 0, .ref a3, .ref a4, .ref a5, .ref a6, .ref a7, .ref a8, vi 0, vi sh, .ref bt])) {o : Nat} {go : Nat → Int64} (hO : h o = xL G 1 go) {w : Int} (hw : 0 ≤ w ∧ w ≤ 7) : Cn G m_Model_many 2 3 0 [.ref b, vi w] h (fun r h' => r = some (vi (mA cp rc w)) ∧ (∃ fs, h' b = xO 8 (vi 0 :: fs)) ∧ h' o = xL G 1 go) := by
  refine Cn_of (by decide) (Nat.le_of_ble_eq_true rfl) (fun K C hR E => ?_)
  show X G K 3 0 [some (.ref b), some (vi w), none] [] h 0 0
  refine x_aload_n C dX9_many_0 rfl rfl ?_
  refine x_iconst C dX9_many_1 ?_
  refine x_put C p_Model_44 hB (fit_int _) (Nat.le_of_ble_eq_true rfl) (h1 := (va_up h b (xO 8 [vi 0, vi 0, .ref a1, .ref a2, vi cp, vi rc, vi 0, .ref a3, .ref a4, .ref a5, .ref a6, .ref a7, .ref a8, vi 0, vi sh, .ref bt]))) rfl dX9_many_2 ?_
  refine x_iload_n C dX9_many_5 rfl rfl ?_
  refine x_iconst C dX9_many_6 ?_
  refine x_bipush C (z := 7) dX9_many_7 (by decide) ?_
  refine x_invS C s_Model_50 (st := []) (c_Mo_isIn (v := w) (lo := 0) (hi := 7) ⟨by omega, by omega⟩ (by decide) (by decide)) rfl rfl (Nat.le_of_ble_eq_true rfl) (xRm_of hR (by omega) (by decide) (by omega) (by omega)) dX9_many_9 (fun r9 h9 hq => ?_)
  obtain ⟨rfl, e9⟩ := hq
  have e9 := e9.symm
  subst e9
  refine x_ifneB C (tgt := 21) dX9_many_12 (by decide) (fun c12 => ?_) (fun c12 => ?_)
  · skip
    refine x_aload_n C dX9_many_21 rfl rfl ?_
    refine x_invV C s_Model_172 (st := []) (c_Mo_all up_s) up_s rfl rfl (Nat.le_of_ble_eq_true rfl) (xRm_of hR (by omega) (by decide) (by omega) (by omega)) dX9_many_22 (fun r9 h9 hq => ?_)
    obtain ⟨qa, rfl, gqa, F9⟩ := hq
    refine x_astore_n C (ls' := [some (.ref b), some (vi w), some (.ref qa)]) dX9_many_25 rfl (by decide) rfl ?_
    refine x_aload_n C dX9_many_26 rfl rfl ?_
    refine x_iload_n C dX9_many_27 rfl rfl ?_
    refine x_aload_n C dX9_many_28 rfl rfl ?_
    refine x_aload_n C dX9_many_29 rfl rfl ?_
    refine x_aload_n C dX9_many_30 rfl rfl ?_
    refine x_invV C s_Model_176 (st := [.ref qa, vi w, .ref b]) (c_Mo_planNow (q0 := qa) ((F9 _ (alv_of up_s)).trans up_s)) ((F9 _ (alv_of up_s)).trans up_s) rfl rfl (Nat.le_of_ble_eq_true rfl) (xRm_of hR (by omega) (by decide) (by omega) (by omega)) dX9_many_31 (fun r9 h8 hq => ?_)
    obtain ⟨qp, rfl, gqp, F8⟩ := hq
    refine x_invV C s_Model_187 (st := []) (c_Mo_manyNow (w := w) ((F8 _ (alv_of ((F9 _ (alv_of up_s)).trans up_s))).trans ((F9 _ (alv_of up_s)).trans up_s)) ((F8 _ (alv_of gqa)).trans gqa) gqp hw) ((F8 _ (alv_of ((F9 _ (alv_of up_s)).trans up_s))).trans ((F9 _ (alv_of up_s)).trans up_s)) rfl rfl (Nat.le_of_ble_eq_true rfl) (xRm_of hR (by omega) (by decide) (by omega) (by omega)) dX9_many_34 (fun r9 h7 hq => ?_)
    obtain ⟨rfl, e9⟩ := hq
    have e9 := e9.symm
    subst e9
    exact x_iret C E rfl (by omega) (by omega) dX9_many_37 (⟨rfl, ⟨_, ((F8 _ (alv_of ((F9 _ (alv_of up_s)).trans up_s))).trans ((F9 _ (alv_of up_s)).trans up_s))⟩, ((F8 _ (alv_of ((F9 _ (alv_of ((up_n (ne_k hO hB (knn rfl))).trans hO))).trans ((up_n (ne_k hO hB (knn rfl))).trans hO)))).trans ((F9 _ (alv_of ((up_n (ne_k hO hB (knn rfl))).trans hO))).trans ((up_n (ne_k hO hB (knn rfl))).trans hO)))⟩)
  · skip
    exact absurd hw (of_decide_eq_false c12)

set_option maxRecDepth 100000 in
set_option maxHeartbeats 4000000 in
theorem c_Mo_many_no {G : xG} {h : PH} {b a1 a2 a3 a4 a5 a6 a7 a8 bt : Nat} {th cp rc sh : Int} (hB : h b = (xO 8 [vi th, vi 0, .ref a1, .ref a2, vi cp, vi rc, vi 0, .ref a3, .ref a4, .ref a5, .ref a6, .ref a7, .ref a8, vi 0, vi sh, .ref bt])) {o : Nat} {go : Nat → Int64} (hO : h o = xL G 1 go) {w : Int} (hb : bd w) (hw : ¬ (0 ≤ w ∧ w ≤ 7)) : Cn G m_Model_many 2 0 0 [.ref b, vi w] h (fun r h' => r = some (vi 0) ∧ (∃ fs, h' b = xO 8 (vi 1 :: fs)) ∧ h' o = xL G 1 go) := by
  refine Cn_of (by decide) (Nat.le_of_ble_eq_true rfl) (fun K C hR E => ?_)
  show X G K 3 0 [some (.ref b), some (vi w), none] [] h 0 0
  refine x_aload_n C dX9_many_0 rfl rfl ?_
  refine x_iconst C dX9_many_1 ?_
  refine x_put C p_Model_44 hB (fit_int _) (Nat.le_of_ble_eq_true rfl) (h1 := (va_up h b (xO 8 [vi 0, vi 0, .ref a1, .ref a2, vi cp, vi rc, vi 0, .ref a3, .ref a4, .ref a5, .ref a6, .ref a7, .ref a8, vi 0, vi sh, .ref bt]))) rfl dX9_many_2 ?_
  refine x_iload_n C dX9_many_5 rfl rfl ?_
  refine x_iconst C dX9_many_6 ?_
  refine x_bipush C (z := 7) dX9_many_7 (by decide) ?_
  refine x_invS C s_Model_50 (st := []) (c_Mo_isIn (v := w) (lo := 0) (hi := 7) hb (by decide) (by decide)) rfl rfl (Nat.le_of_ble_eq_true rfl) (xRm_of hR (by omega) (by decide) (by omega) (by omega)) dX9_many_9 (fun r9 h9 hq => ?_)
  obtain ⟨rfl, e9⟩ := hq
  have e9 := e9.symm
  subst e9
  refine x_ifneB C (tgt := 21) dX9_many_12 (by decide) (fun c12 => ?_) (fun c12 => ?_)
  · skip
    exact absurd (of_decide_eq_true c12) hw
  · skip
    refine x_aload_n C dX9_many_15 rfl rfl ?_
    refine x_iconst C dX9_many_16 ?_
    refine x_invV C s_Model_57 (st := []) (c_Mo_no up_s) up_s rfl rfl (Nat.le_of_ble_eq_true rfl) (xRm_of hR (by omega) (by decide) (by omega) (by omega)) dX9_many_17 (fun r9 h9 hq => ?_)
    obtain ⟨rfl, e9⟩ := hq
    have e9 := e9.symm
    subst e9
    refine X.heq (h1 := (va_up h b (xO 8 [vi 1, vi 0, .ref a1, .ref a2, vi cp, vi rc, vi 0, .ref a3, .ref a4, .ref a5, .ref a6, .ref a7, .ref a8, vi 0, vi sh, .ref bt]))) (up_u _ _ _ _) ?_
    exact x_iret C E rfl (by omega) (by omega) dX9_many_20 (⟨rfl, ⟨_, up_s⟩, ((up_n (ne_k hO hB (knn rfl))).trans hO)⟩)

set_option maxRecDepth 100000 in
set_option maxHeartbeats 4000000 in
theorem c_Mo_meanEffort {G : xG} {h : PH} {b a1 a2 a3 a4 a5 a6 a7 a8 bt : Nat} {th cp rc sh : Int} (hB : h b = (xO 8 [vi th, vi 0, .ref a1, .ref a2, vi cp, vi rc, vi 0, .ref a3, .ref a4, .ref a5, .ref a6, .ref a7, .ref a8, vi 0, vi sh, .ref bt])) {o : Nat} {go : Nat → Int64} (hO : h o = xL G 1 go)  : Cn G m_Model_meanEffort 2 3 0 [.ref b] h (fun r h' => r = some (.double FP.dconst0) ∧ h' o = xL G 1 go) := by
  refine Cn_of (by decide) (Nat.le_of_ble_eq_true rfl) (fun K C hR E => ?_)
  show X G K 4 0 [some (.ref b), none, none, none] [] h 0 0
  refine x_aload_n C dX9_meanEffort_0 rfl rfl ?_
  refine x_iconst C dX9_meanEffort_1 ?_
  refine x_put C p_Model_44 hB (fit_int _) (Nat.le_of_ble_eq_true rfl) (h1 := (va_up h b (xO 8 [vi 0, vi 0, .ref a1, .ref a2, vi cp, vi rc, vi 0, .ref a3, .ref a4, .ref a5, .ref a6, .ref a7, .ref a8, vi 0, vi sh, .ref bt]))) rfl dX9_meanEffort_2 ?_
  refine x_aload_n C dX9_meanEffort_5 rfl rfl ?_
  refine x_invV C s_Model_180 (st := []) (c_Mo_totalNow up_s) up_s rfl rfl (Nat.le_of_ble_eq_true rfl) (xRm_of hR (by omega) (by decide) (by omega) (by omega)) dX9_meanEffort_6 (fun r9 h9 hq => ?_)
  obtain ⟨rfl, F9⟩ := hq
  refine x_istore_n C (ls' := [some (.ref b), some (vi (-1)), none, none]) dX9_meanEffort_9 rfl (by decide) rfl ?_
  refine x_iconst C dX9_meanEffort_10 ?_
  refine x_istore_n C (ls' := [some (.ref b), some (vi (-1)), some (vi 0), none]) dX9_meanEffort_11 rfl (by decide) rfl ?_
  refine x_iconst C dX9_meanEffort_12 ?_
  refine x_istore_n C (ls' := [some (.ref b), some (vi (-1)), some (vi 0), some (vi 0)]) dX9_meanEffort_13 rfl (by decide) rfl ?_
  refine x_iload_n C dX9_meanEffort_14 rfl rfl ?_
  refine x_aload_n C dX9_meanEffort_15 rfl rfl ?_
  refine x_get C f_Model_54 ((F9 _ (alv_of up_s)).trans up_s) rfl dX9_meanEffort_16 ?_
  refine x_icmp_ge C (tgt := 37) dX9_meanEffort_19 (by decide) (by decide) (by decide) (fun c19 => ?_) (fun c19 => ?_)
  · skip
    refine x_iload_n C dX9_meanEffort_37 rfl rfl ?_
    refine x_iconst C dX9_meanEffort_38 ?_
    refine x_icmp_ne C (tgt := 46) dX9_meanEffort_39 (by decide) (by decide) (by decide) (fun c39 => ?_) (fun c39 => ?_)
    · skip
      exact absurd rfl c39
    · skip
      refine x_dconst0 C dX9_meanEffort_42 ?_
      refine x_goto C (tgt := 51) dX9_meanEffort_43 (by decide) ?_
      exact x_dret C E rfl (by omega) (by omega) dX9_meanEffort_51 (⟨rfl, ((F9 _ (alv_of ((up_n (ne_k hO hB (knn rfl))).trans hO))).trans ((up_n (ne_k hO hB (knn rfl))).trans hO))⟩)
  · skip
    exfalso; omega

set_option maxRecDepth 100000 in
set_option maxHeartbeats 4000000 in
theorem c_Mo_totalBy {G : xG} {h : PH} {b a1 a2 a3 a4 a5 a6 a7 a8 bt : Nat} {th cp rc sh : Int} (hB : h b = (xO 8 [vi th, vi 0, .ref a1, .ref a2, vi cp, vi rc, vi 0, .ref a3, .ref a4, .ref a5, .ref a6, .ref a7, .ref a8, vi 0, vi sh, .ref bt])) {c2 r2 : Int}  : Cn G m_Model_totalBy 2 3 0 [.ref b, vi c2, vi r2] h (fun r h' => r = some (vi (-1)) ∧ frA h h') := by
  refine Cn_of (by decide) (Nat.le_of_ble_eq_true rfl) (fun K C hR E => ?_)
  show X G K 6 0 [some (.ref b), some (vi c2), some (vi r2), none, none, none] [] h 0 0
  refine x_aload_n C dX9_totalBy_0 rfl rfl ?_
  refine x_get C f_Model_69 hB rfl dX9_totalBy_1 ?_
  refine x_istore_n C (ls' := [some (.ref b), some (vi c2), some (vi r2), some (vi cp), none, none]) dX9_totalBy_4 rfl (by decide) rfl ?_
  refine x_aload_n C dX9_totalBy_5 rfl rfl ?_
  refine x_get C f_Model_17 hB rfl dX9_totalBy_6 ?_
  refine x_istore C (ls' := [some (.ref b), some (vi c2), some (vi r2), some (vi cp), some (vi rc), none]) dX9_totalBy_9 (by decide) rfl ?_
  refine x_aload_n C dX9_totalBy_11 rfl rfl ?_
  refine x_iload_n C dX9_totalBy_12 rfl rfl ?_
  refine x_put C p_Model_69 hB (fit_int _) (Nat.le_of_ble_eq_true rfl) (h1 := (va_up h b (xO 8 [vi th, vi 0, .ref a1, .ref a2, vi c2, vi rc, vi 0, .ref a3, .ref a4, .ref a5, .ref a6, .ref a7, .ref a8, vi 0, vi sh, .ref bt]))) rfl dX9_totalBy_13 ?_
  refine x_aload_n C dX9_totalBy_16 rfl rfl ?_
  refine x_iload_n C dX9_totalBy_17 rfl rfl ?_
  refine x_put C p_Model_17 up_s (fit_int _) (Nat.le_of_ble_eq_true rfl) (h1 := (va_up h b (xO 8 [vi th, vi 0, .ref a1, .ref a2, vi c2, vi r2, vi 0, .ref a3, .ref a4, .ref a5, .ref a6, .ref a7, .ref a8, vi 0, vi sh, .ref bt]))) (up_u _ _ _ _) dX9_totalBy_18 ?_
  refine x_aload_n C dX9_totalBy_21 rfl rfl ?_
  refine x_invV C s_Model_180 (st := []) (c_Mo_totalNow up_s) up_s rfl rfl (Nat.le_of_ble_eq_true rfl) (xRm_of hR (by omega) (by decide) (by omega) (by omega)) dX9_totalBy_22 (fun r9 h9 hq => ?_)
  obtain ⟨rfl, F9⟩ := hq
  refine x_istore C (ls' := [some (.ref b), some (vi c2), some (vi r2), some (vi cp), some (vi rc), some (vi (-1))]) dX9_totalBy_25 (by decide) rfl ?_
  refine x_aload_n C dX9_totalBy_27 rfl rfl ?_
  refine x_iload_n C dX9_totalBy_28 rfl rfl ?_
  refine x_put C p_Model_69 ((F9 _ (alv_of up_s)).trans up_s) (fit_int _) (Nat.le_of_ble_eq_true rfl) (h1 := (va_up h9 b (xO 8 [vi th, vi 0, .ref a1, .ref a2, vi cp, vi r2, vi 0, .ref a3, .ref a4, .ref a5, .ref a6, .ref a7, .ref a8, vi 0, vi sh, .ref bt]))) rfl dX9_totalBy_29 ?_
  refine x_aload_n C dX9_totalBy_32 rfl rfl ?_
  refine x_iload C dX9_totalBy_33 rfl ?_
  refine x_put C p_Model_17 up_s (fit_int _) (Nat.le_of_ble_eq_true rfl) (h1 := (va_up h9 b (xO 8 [vi th, vi 0, .ref a1, .ref a2, vi cp, vi rc, vi 0, .ref a3, .ref a4, .ref a5, .ref a6, .ref a7, .ref a8, vi 0, vi sh, .ref bt]))) (up_u _ _ _ _) dX9_totalBy_35 ?_
  refine x_iload C dX9_totalBy_38 rfl ?_
  exact x_iret C E rfl (by omega) (by omega) dX9_totalBy_40 (⟨rfl, frA.back hB F9⟩)

set_option maxRecDepth 100000 in
set_option maxHeartbeats 4000000 in
theorem c_Mo_totalWith_ok {G : xG} {h : PH} {b a1 a2 a3 a4 a5 a6 a7 a8 bt : Nat} {th cp rc sh : Int} (hB : h b = (xO 8 [vi th, vi 0, .ref a1, .ref a2, vi cp, vi rc, vi 0, .ref a3, .ref a4, .ref a5, .ref a6, .ref a7, .ref a8, vi 0, vi sh, .ref bt])) {o : Nat} {go : Nat → Int64} (hO : h o = xL G 1 go) {v w1 : Int} (hv : 0 ≤ v ∧ v ≤ 7) (hw : 1 ≤ w1 ∧ w1 ≤ 6) : Cn G m_Model_totalWith 3 3 0 [.ref b, vi v, vi w1] h (fun r h' => r = some (vi (-1)) ∧ (∃ fs, h' b = xO 8 (vi 0 :: fs)) ∧ h' o = xL G 1 go) := by
  refine Cn_of (by decide) (Nat.le_of_ble_eq_true rfl) (fun K C hR E => ?_)
  show X G K 3 0 [some (.ref b), some (vi v), some (vi w1)] [] h 0 0
  refine x_aload_n C dX9_totalWith_0 rfl rfl ?_
  refine x_iconst C dX9_totalWith_1 ?_
  refine x_put C p_Model_44 hB (fit_int _) (Nat.le_of_ble_eq_true rfl) (h1 := (va_up h b (xO 8 [vi 0, vi 0, .ref a1, .ref a2, vi cp, vi rc, vi 0, .ref a3, .ref a4, .ref a5, .ref a6, .ref a7, .ref a8, vi 0, vi sh, .ref bt]))) rfl dX9_totalWith_2 ?_
  refine x_iload_n C dX9_totalWith_5 rfl rfl ?_
  refine x_iconst C dX9_totalWith_6 ?_
  refine x_bipush C (z := 7) dX9_totalWith_7 (by decide) ?_
  refine x_invS C s_Model_50 (st := []) (c_Mo_isIn (v := v) (lo := 0) (hi := 7) ⟨by omega, by omega⟩ (by decide) (by decide)) rfl rfl (Nat.le_of_ble_eq_true rfl) (xRm_of hR (by omega) (by decide) (by omega) (by omega)) dX9_totalWith_9 (fun r9 h9 hq => ?_)
  obtain ⟨rfl, e9⟩ := hq
  have e9 := e9.symm
  subst e9
  refine x_ifeqB C (tgt := 34) dX9_totalWith_12 (by decide) (fun c12 => ?_) (fun c12 => ?_)
  · skip
    exact absurd hv (of_decide_eq_false c12)
  · skip
    refine x_iload_n C dX9_totalWith_15 rfl rfl ?_
    refine x_iconst C dX9_totalWith_16 ?_
    refine x_bipush C (z := 6) dX9_totalWith_17 (by decide) ?_
    refine x_invS C s_Model_50 (st := []) (c_Mo_isIn (v := w1) (lo := 1) (hi := 6) ⟨by omega, by omega⟩ (by decide) (by decide)) rfl rfl (Nat.le_of_ble_eq_true rfl) (xRm_of hR (by omega) (by decide) (by omega) (by omega)) dX9_totalWith_19 (fun r9 h9 hq => ?_)
    obtain ⟨rfl, e9⟩ := hq
    have e9 := e9.symm
    subst e9
    refine x_ifeqB C (tgt := 34) dX9_totalWith_22 (by decide) (fun c22 => ?_) (fun c22 => ?_)
    · skip
      exact absurd hw (of_decide_eq_false c22)
    · skip
      refine x_aload_n C dX9_totalWith_25 rfl rfl ?_
      refine x_iload_n C dX9_totalWith_26 rfl rfl ?_
      refine x_iload_n C dX9_totalWith_27 rfl rfl ?_
      refine x_invV C s_Model_211 (st := []) (c_Mo_totalBy (c2 := v) (r2 := w1) up_s) up_s rfl rfl (Nat.le_of_ble_eq_true rfl) (xRm_of hR (by omega) (by decide) (by omega) (by omega)) dX9_totalWith_28 (fun r9 h9 hq => ?_)
      obtain ⟨rfl, F9⟩ := hq
      refine x_goto C (tgt := 39) dX9_totalWith_31 (by decide) ?_
      exact x_iret C E rfl (by omega) (by omega) dX9_totalWith_39 (⟨rfl, ⟨_, ((F9 _ (alv_of up_s)).trans up_s)⟩, ((F9 _ (alv_of ((up_n (ne_k hO hB (knn rfl))).trans hO))).trans ((up_n (ne_k hO hB (knn rfl))).trans hO))⟩)

set_option maxRecDepth 100000 in
set_option maxHeartbeats 4000000 in
theorem c_Mo_totalWith_no {G : xG} {h : PH} {b a1 a2 a3 a4 a5 a6 a7 a8 bt : Nat} {th cp rc sh : Int} (hB : h b = (xO 8 [vi th, vi 0, .ref a1, .ref a2, vi cp, vi rc, vi 0, .ref a3, .ref a4, .ref a5, .ref a6, .ref a7, .ref a8, vi 0, vi sh, .ref bt])) {o : Nat} {go : Nat → Int64} (hO : h o = xL G 1 go) {v w1 : Int} (hv : bd v) (hw : bd w1) (hn : ¬ ((0 ≤ v ∧ v ≤ 7) ∧ (1 ≤ w1 ∧ w1 ≤ 6))) : Cn G m_Model_totalWith 3 0 0 [.ref b, vi v, vi w1] h (fun r h' => r = some (vi 0) ∧ (∃ fs, h' b = xO 8 (vi 1 :: fs)) ∧ h' o = xL G 1 go) := by
  refine Cn_of (by decide) (Nat.le_of_ble_eq_true rfl) (fun K C hR E => ?_)
  show X G K 3 0 [some (.ref b), some (vi v), some (vi w1)] [] h 0 0
  refine x_aload_n C dX9_totalWith_0 rfl rfl ?_
  refine x_iconst C dX9_totalWith_1 ?_
  refine x_put C p_Model_44 hB (fit_int _) (Nat.le_of_ble_eq_true rfl) (h1 := (va_up h b (xO 8 [vi 0, vi 0, .ref a1, .ref a2, vi cp, vi rc, vi 0, .ref a3, .ref a4, .ref a5, .ref a6, .ref a7, .ref a8, vi 0, vi sh, .ref bt]))) rfl dX9_totalWith_2 ?_
  refine x_iload_n C dX9_totalWith_5 rfl rfl ?_
  refine x_iconst C dX9_totalWith_6 ?_
  refine x_bipush C (z := 7) dX9_totalWith_7 (by decide) ?_
  refine x_invS C s_Model_50 (st := []) (c_Mo_isIn (v := v) (lo := 0) (hi := 7) hv (by decide) (by decide)) rfl rfl (Nat.le_of_ble_eq_true rfl) (xRm_of hR (by omega) (by decide) (by omega) (by omega)) dX9_totalWith_9 (fun r9 h9 hq => ?_)
  obtain ⟨rfl, e9⟩ := hq
  have e9 := e9.symm
  subst e9
  refine x_ifeqB C (tgt := 34) dX9_totalWith_12 (by decide) (fun c12 => ?_) (fun c12 => ?_)
  · skip
    refine x_aload_n C dX9_totalWith_34 rfl rfl ?_
    refine x_iconst C dX9_totalWith_35 ?_
    refine x_invV C s_Model_57 (st := []) (c_Mo_no up_s) up_s rfl rfl (Nat.le_of_ble_eq_true rfl) (xRm_of hR (by omega) (by decide) (by omega) (by omega)) dX9_totalWith_36 (fun r9 h9 hq => ?_)
    obtain ⟨rfl, e9⟩ := hq
    have e9 := e9.symm
    subst e9
    refine X.heq (h1 := (va_up h b (xO 8 [vi 1, vi 0, .ref a1, .ref a2, vi cp, vi rc, vi 0, .ref a3, .ref a4, .ref a5, .ref a6, .ref a7, .ref a8, vi 0, vi sh, .ref bt]))) (up_u _ _ _ _) ?_
    exact x_iret C E rfl (by omega) (by omega) dX9_totalWith_39 (⟨rfl, ⟨_, up_s⟩, ((up_n (ne_k hO hB (knn rfl))).trans hO)⟩)
  · skip
    refine x_iload_n C dX9_totalWith_15 rfl rfl ?_
    refine x_iconst C dX9_totalWith_16 ?_
    refine x_bipush C (z := 6) dX9_totalWith_17 (by decide) ?_
    refine x_invS C s_Model_50 (st := []) (c_Mo_isIn (v := w1) (lo := 1) (hi := 6) hw (by decide) (by decide)) rfl rfl (Nat.le_of_ble_eq_true rfl) (xRm_of hR (by omega) (by decide) (by omega) (by omega)) dX9_totalWith_19 (fun r9 h9 hq => ?_)
    obtain ⟨rfl, e9⟩ := hq
    have e9 := e9.symm
    subst e9
    refine x_ifeqB C (tgt := 34) dX9_totalWith_22 (by decide) (fun c22 => ?_) (fun c22 => ?_)
    · skip
      refine x_aload_n C dX9_totalWith_34 rfl rfl ?_
      refine x_iconst C dX9_totalWith_35 ?_
      refine x_invV C s_Model_57 (st := []) (c_Mo_no up_s) up_s rfl rfl (Nat.le_of_ble_eq_true rfl) (xRm_of hR (by omega) (by decide) (by omega) (by omega)) dX9_totalWith_36 (fun r9 h9 hq => ?_)
      obtain ⟨rfl, e9⟩ := hq
      have e9 := e9.symm
      subst e9
      refine X.heq (h1 := (va_up h b (xO 8 [vi 1, vi 0, .ref a1, .ref a2, vi cp, vi rc, vi 0, .ref a3, .ref a4, .ref a5, .ref a6, .ref a7, .ref a8, vi 0, vi sh, .ref bt]))) (up_u _ _ _ _) ?_
      exact x_iret C E rfl (by omega) (by omega) dX9_totalWith_39 (⟨rfl, ⟨_, up_s⟩, ((up_n (ne_k hO hB (knn rfl))).trans hO)⟩)
    · skip
      exact absurd ⟨of_decide_eq_true c12, of_decide_eq_true c22⟩ hn

set_option maxRecDepth 100000 in
set_option maxHeartbeats 4000000 in
theorem c_Mo_bestCapoNow {G : xG} {h : PH} {b a1 a2 a3 a4 a5 a6 a7 a8 bt : Nat} {th cp rc sh : Int} (hB : h b = (xO 8 [vi th, vi 0, .ref a1, .ref a2, vi cp, vi rc, vi 0, .ref a3, .ref a4, .ref a5, .ref a6, .ref a7, .ref a8, vi 0, vi sh, .ref bt]))  : Cn G m_Model_bestCapoNow 3 24 0 [.ref b] h (fun r h' => r = some (vi (-1)) ∧ frA h h') := by
  refine Cn_of (by decide) (Nat.le_of_ble_eq_true rfl) (fun K C hR E => ?_)
  show X G K 5 0 [some (.ref b), none, none, none, none] [] h 0 0
  refine x_iconst C dX9_bestCapoNow_0 ?_
  refine x_istore_n C (ls' := [some (.ref b), some (vi (-1)), none, none, none]) dX9_bestCapoNow_1 rfl (by decide) rfl ?_
  refine x_iconst C dX9_bestCapoNow_2 ?_
  refine x_istore_n C (ls' := [some (.ref b), some (vi (-1)), some (vi (-1)), none, none]) dX9_bestCapoNow_3 rfl (by decide) rfl ?_
  refine x_iconst C dX9_bestCapoNow_4 ?_
  refine x_istore_n C (ls' := [some (.ref b), some (vi (-1)), some (vi (-1)), some (vi 0), none]) dX9_bestCapoNow_5 rfl (by decide) rfl ?_
  have L6 : ∀ (n0 : Nat) (k : Nat) (hp : PH), 8 - k < n0 → (k ≤ 8) → (frA h hp) → X G K 5 6 [some (.ref b), some (vi (-1)), some (vi (-1)), some (vi (k : Int)), none] [] hp (3 * k) 0 := by
    intro n0
    induction n0 with
    | zero => intro k hp hm; exact absurd hm (Nat.not_lt_zero _)
    | succ n0 ih_L6 =>
      intro k hp hm i1 F
      refine x_iload_n C dX9_bestCapoNow_6 rfl rfl ?_
      refine x_bipush C (z := 7) dX9_bestCapoNow_7 (by decide) ?_
      refine x_icmp_gt C (tgt := 54) dX9_bestCapoNow_9 (by decide) ⟨by omega, by omega⟩ (by decide) (fun c9 => ?_) (fun c9 => ?_)
      · skip
        refine x_iload_n C dX9_bestCapoNow_54 rfl rfl ?_
        exact x_iret C E rfl (by omega) (by omega) dX9_bestCapoNow_55 (⟨rfl, F⟩)
      · skip
        refine x_aload_n C dX9_bestCapoNow_12 rfl rfl ?_
        refine x_iload_n C dX9_bestCapoNow_13 rfl rfl ?_
        refine x_aload_n C dX9_bestCapoNow_14 rfl rfl ?_
        refine x_get C f_Model_17 ((F _ (alv_of hB)).trans hB) rfl dX9_bestCapoNow_15 ?_
        refine x_invV C s_Model_211 (st := []) (c_Mo_totalBy (c2 := (k : Int)) (r2 := rc) ((F _ (alv_of hB)).trans hB)) ((F _ (alv_of hB)).trans hB) rfl rfl (Nat.le_of_ble_eq_true rfl) (xRm_of hR (by omega) (by decide) (by omega) (by omega)) dX9_bestCapoNow_18 (fun r9 h9 hq => ?_)
        obtain ⟨rfl, F9⟩ := hq
        refine x_istore C (ls' := [some (.ref b), some (vi (-1)), some (vi (-1)), some (vi (k : Int)), some (vi (-1))]) dX9_bestCapoNow_21 (by decide) rfl ?_
        refine x_iload C dX9_bestCapoNow_23 rfl ?_
        refine x_iconst C dX9_bestCapoNow_25 ?_
        refine x_icmp_eq C (tgt := 48) dX9_bestCapoNow_26 (by decide) (by decide) (by decide) (fun c26 => ?_) (fun c26 => ?_)
        · skip
          refine x_iinc C (ls' := [some (.ref b), some (vi (-1)), some (vi (-1)), some (vi ((k : Int) + 1)), some (vi (-1))]) dX9_bestCapoNow_48 rfl (by decide) (z1 := ((k : Int) + 1)) rfl rfl ?_
          refine x_goto C (tgt := 6) dX9_bestCapoNow_51 (by decide) ?_
          refine X.sub (ls' := [some (.ref b), some (vi (-1)), some (vi (-1)), some (vi ((k : Int) + 1)), none]) (sub_cons (Or.inr rfl) (sub_cons (Or.inr rfl) (sub_cons (Or.inr rfl) (sub_cons (Or.inr rfl) (sub_cons (Or.inl rfl) sub_nil))))) ?_
          exact ih_L6 (k + 1) h9 (by omega) (by omega) (F.trans F9)
        · skip
          exact absurd rfl c26
  exact L6 _ 0 h (Nat.lt_succ_self _) (by omega) (frA.refl h)

set_option maxRecDepth 100000 in
set_option maxHeartbeats 4000000 in
theorem c_Mo_bestCapo {G : xG} {h : PH} {b a1 a2 a3 a4 a5 a6 a7 a8 bt : Nat} {th cp rc sh : Int} (hB : h b = (xO 8 [vi th, vi 0, .ref a1, .ref a2, vi cp, vi rc, vi 0, .ref a3, .ref a4, .ref a5, .ref a6, .ref a7, .ref a8, vi 0, vi sh, .ref bt])) {o : Nat} {go : Nat → Int64} (hO : h o = xL G 1 go)  : Cn G m_Model_bestCapo 4 24 0 [.ref b] h (fun r h' => r = some (vi (-1)) ∧ (∃ fs, h' b = xO 8 (vi 0 :: fs)) ∧ h' o = xL G 1 go) := by
  refine Cn_of (by decide) (Nat.le_of_ble_eq_true rfl) (fun K C hR E => ?_)
  show X G K 1 0 [some (.ref b)] [] h 0 0
  refine x_aload_n C dX9_bestCapo_0 rfl rfl ?_
  refine x_iconst C dX9_bestCapo_1 ?_
  refine x_put C p_Model_44 hB (fit_int _) (Nat.le_of_ble_eq_true rfl) (h1 := (va_up h b (xO 8 [vi 0, vi 0, .ref a1, .ref a2, vi cp, vi rc, vi 0, .ref a3, .ref a4, .ref a5, .ref a6, .ref a7, .ref a8, vi 0, vi sh, .ref bt]))) rfl dX9_bestCapo_2 ?_
  refine x_aload_n C dX9_bestCapo_5 rfl rfl ?_
  refine x_invV C s_Model_214 (st := []) (c_Mo_bestCapoNow up_s) up_s rfl rfl (Nat.le_of_ble_eq_true rfl) (xRm_of hR (by omega) (by decide) (by omega) (by omega)) dX9_bestCapo_6 (fun r9 h9 hq => ?_)
  obtain ⟨rfl, F9⟩ := hq
  exact x_iret C E rfl (by omega) (by omega) dX9_bestCapo_9 (⟨rfl, ⟨_, ((F9 _ (alv_of up_s)).trans up_s)⟩, ((F9 _ (alv_of ((up_n (ne_k hO hB (knn rfl))).trans hO))).trans ((up_n (ne_k hO hB (knn rfl))).trans hO))⟩)

/-- how many classes are set, of the first -/
def pk (c : Nat) : Nat → Int
  | 0 => 0
  | k + 1 => pk c k + ((c / 2 ^ k % 2 : Nat) : Int)
theorem pk_rg (c : Nat) : ∀ k, 0 ≤ pk c k ∧ pk c k ≤ k
  | 0 => by unfold pk; omega
  | k + 1 => by
    have h := pk_rg c k
    have : c / 2 ^ k % 2 < 2 := Nat.mod_lt _ (by decide)
    unfold pk
    omega
def isV (v w1 w2 : Int) : Bool := decide (1 ≤ v ∧ v ≤ 4095 ∧ 0 ≤ w1 ∧ w1 ≤ 11 ∧ 1 ≤ w2 ∧ w2 ≤ 9 ∧ pk v.toNat 12 ≤ 4 ∧ v.toNat / 2 ^ w1.toNat % 2 = 1)

set_option maxRecDepth 100000 in
set_option maxHeartbeats 4000000 in
theorem c_Mo_isVoicing {G : xG} {h : PH} {v w1 w2 : Int} (h1 : bd v) (h2 : bd w1) (h3 : bd w2) : Cn G m_Model_isVoicing 1 0 0 [vi v, vi w1, vi w2] h (fun r h' => r = some (vi (b2i (isV v w1 w2))) ∧ h' = h) := by
  refine Cn_of (by decide) (Nat.le_of_ble_eq_true rfl) (fun K C hR E => ?_)
  show X G K 5 0 [some (vi v), some (vi w1), some (vi w2), none, none] [] h 0 0
  refine x_iload_n C dX9_isVoicing_0 rfl rfl ?_
  refine x_iconst C dX9_isVoicing_1 ?_
  refine x_sipush C (z := 4095) dX9_isVoicing_2 (by decide) ?_
  refine x_invS C s_Model_50 (st := []) (c_Mo_isIn (v := v) (lo := 1) (hi := 4095) h1 (by decide) (by decide)) rfl rfl (Nat.le_of_ble_eq_true rfl) (xRm_of hR (by omega) (by decide) (by omega) (by omega)) dX9_isVoicing_5 (fun r9 h9 hq => ?_)
  obtain ⟨rfl, e9⟩ := hq
  have e9 := e9.symm
  subst e9
  refine x_ifeqB C (tgt := 31) dX9_isVoicing_8 (by decide) (fun c8 => ?_) (fun c8 => ?_)
  · skip
    have g8 := of_decide_eq_false c8
    refine x_iconst C dX9_isVoicing_31 ?_
    exact x_zret C E rfl (by omega) (by omega) (z := false) dX9_isVoicing_32 (⟨by rw [show isV v w1 w2 = false from decide_eq_false (by omega)], rfl⟩)
  · skip
    have g8 := of_decide_eq_true c8
    refine x_iload_n C dX9_isVoicing_11 rfl rfl ?_
    refine x_iconst C dX9_isVoicing_12 ?_
    refine x_bipush C (z := 11) dX9_isVoicing_13 (by decide) ?_
    refine x_invS C s_Model_50 (st := []) (c_Mo_isIn (v := w1) (lo := 0) (hi := 11) h2 (by decide) (by decide)) rfl rfl (Nat.le_of_ble_eq_true rfl) (xRm_of hR (by omega) (by decide) (by omega) (by omega)) dX9_isVoicing_15 (fun r9 h9 hq => ?_)
    obtain ⟨rfl, e9⟩ := hq
    have e9 := e9.symm
    subst e9
    refine x_ifeqB C (tgt := 31) dX9_isVoicing_18 (by decide) (fun c18 => ?_) (fun c18 => ?_)
    · skip
      have g18 := of_decide_eq_false c18
      refine x_iconst C dX9_isVoicing_31 ?_
      exact x_zret C E rfl (by omega) (by omega) (z := false) dX9_isVoicing_32 (⟨by rw [show isV v w1 w2 = false from decide_eq_false (by omega)], rfl⟩)
    · skip
      have g18 := of_decide_eq_true c18
      refine x_iload_n C dX9_isVoicing_21 rfl rfl ?_
      refine x_iconst C dX9_isVoicing_22 ?_
      refine x_bipush C (z := 9) dX9_isVoicing_23 (by decide) ?_
      refine x_invS C s_Model_50 (st := []) (c_Mo_isIn (v := w2) (lo := 1) (hi := 9) h3 (by decide) (by decide)) rfl rfl (Nat.le_of_ble_eq_true rfl) (xRm_of hR (by omega) (by decide) (by omega) (by omega)) dX9_isVoicing_25 (fun r9 h9 hq => ?_)
      obtain ⟨rfl, e9⟩ := hq
      have e9 := e9.symm
      subst e9
      refine x_ifneB C (tgt := 33) dX9_isVoicing_28 (by decide) (fun c28 => ?_) (fun c28 => ?_)
      · skip
        have g28 := of_decide_eq_true c28
        refine x_iconst C dX9_isVoicing_33 ?_
        refine x_istore_n C (ls' := [some (vi v), some (vi w1), some (vi w2), some (vi 0), none]) dX9_isVoicing_34 rfl (by decide) rfl ?_
        refine x_iconst C dX9_isVoicing_35 ?_
        refine x_istore C (ls' := [some (vi v), some (vi w1), some (vi w2), some (vi 0), some (vi 0)]) dX9_isVoicing_36 (by decide) rfl ?_
        have L38 : ∀ (n0 : Nat) (k : Nat), 12 - k < n0 → (k ≤ 12) → X G K 5 38 [some (vi v), some (vi w1), some (vi w2), some (vi (pk v.toNat k)), some (vi (k : Int))] [] h 0 0 := by
          intro n0
          induction n0 with
          | zero => intro k hm; exact absurd hm (Nat.not_lt_zero _)
          | succ n0 ih_L38 =>
            intro k hm i1
            have hpk := pk_rg v.toNat k
            refine x_iload C dX9_isVoicing_38 rfl ?_
            refine x_bipush C (z := 12) dX9_isVoicing_40 (by decide) ?_
            refine x_icmp_ge C (tgt := 60) dX9_isVoicing_42 (by decide) ⟨by omega, by omega⟩ (by decide) (fun c42 => ?_) (fun c42 => ?_)
            · skip
              obtain rfl : k = 12 := by omega
              refine x_iload_n C dX9_isVoicing_60 rfl rfl ?_
              refine x_iconst C dX9_isVoicing_61 ?_
              refine x_icmp_gt C (tgt := 78) dX9_isVoicing_62 (by decide) ⟨by omega, by omega⟩ (by decide) (fun c62 => ?_) (fun c62 => ?_)
              · skip
                refine x_iconst C dX9_isVoicing_78 ?_
                exact x_zret C E rfl (by omega) (by omega) (z := false) dX9_isVoicing_79 (⟨by rw [show isV v w1 w2 = false from decide_eq_false (by omega)], rfl⟩)
              · skip
                have hb1 : w1 = ((w1.toNat : Nat) : Int) := by omega
                have hm2 : v.toNat / 2 ^ w1.toNat % 2 < 2 := Nat.mod_lt _ (by decide)
                refine x_iload_n C dX9_isVoicing_65 rfl rfl ?_
                refine x_iload_n C dX9_isVoicing_66 rfl rfl ?_
                refine x_ishr C (c := ((v.toNat / 2 ^ w1.toNat : Nat) : Int)) dX9_isVoicing_67 (by rw [show v = ((v.toNat : Nat) : Int) by omega]; rw [show I w1 = I ((w1.toNat : Nat) : Int) from congrArg I hb1]; exact sh_r (by omega) (by omega)) ?_
                refine x_iconst C dX9_isVoicing_68 ?_
                refine x_iand C (c := ((v.toNat / 2 ^ w1.toNat % 2 : Nat) : Int)) dX9_isVoicing_69 (by rw [show (1 : Int) = ((1 : Nat) : Int) from rfl, I_and]; exact congrArg (fun n : Nat => I (n : Int)) (Nat.and_two_pow_sub_one_eq_mod _ 1)) ?_
                refine x_iconst C dX9_isVoicing_70 ?_
                refine x_icmp_ne C (tgt := 78) dX9_isVoicing_71 (by decide) ⟨by omega, by omega⟩ (by decide) (fun c71 => ?_) (fun c71 => ?_)
                · skip
                  refine x_iconst C dX9_isVoicing_78 ?_
                  exact x_zret C E rfl (by omega) (by omega) (z := false) dX9_isVoicing_79 (⟨by rw [show isV v w1 w2 = false from decide_eq_false (by omega)], rfl⟩)
                · skip
                  refine x_iconst C dX9_isVoicing_74 ?_
                  refine x_goto C (tgt := 79) dX9_isVoicing_75 (by decide) ?_
                  exact x_zret C E rfl (by omega) (by omega) (z := true) dX9_isVoicing_79 (⟨by rw [show isV v w1 w2 = true from decide_eq_true (by omega)], rfl⟩)
            · skip
              refine x_iload_n C dX9_isVoicing_45 rfl rfl ?_
              refine x_iload_n C dX9_isVoicing_46 rfl rfl ?_
              refine x_iload C dX9_isVoicing_47 rfl ?_
              refine x_ishr C (c := ((v.toNat / 2 ^ k : Nat) : Int)) dX9_isVoicing_49 (by rw [show v = ((v.toNat : Nat) : Int) by omega]; exact sh_r (by omega) (by omega)) ?_
              refine x_iconst C dX9_isVoicing_50 ?_
              refine x_iand C (c := ((v.toNat / 2 ^ k % 2 : Nat) : Int)) dX9_isVoicing_51 (by rw [show (1 : Int) = ((1 : Nat) : Int) from rfl, I_and]; exact congrArg (fun n : Nat => I (n : Int)) (Nat.and_two_pow_sub_one_eq_mod _ 1)) ?_
              refine x_iadd C dX9_isVoicing_52 ?_
              refine x_re (b := (pk v.toNat (k + 1))) (rfl) ?_
              refine x_istore_n C (ls' := [some (vi v), some (vi w1), some (vi w2), some (vi (pk v.toNat (k + 1))), some (vi (k : Int))]) dX9_isVoicing_53 rfl (by decide) rfl ?_
              refine x_iinc C (ls' := [some (vi v), some (vi w1), some (vi w2), some (vi (pk v.toNat (k + 1))), some (vi ((k : Int) + 1))]) dX9_isVoicing_54 rfl (by decide) (z1 := ((k : Int) + 1)) rfl rfl ?_
              refine x_goto C (tgt := 38) dX9_isVoicing_57 (by decide) ?_
              exact ih_L38 (k + 1) (by omega) (by omega)
        exact L38 _ 0 (Nat.lt_succ_self _) (by omega)
      · skip
        have g28 := of_decide_eq_false c28
        refine x_iconst C dX9_isVoicing_31 ?_
        exact x_zret C E rfl (by omega) (by omega) (z := false) dX9_isVoicing_32 (⟨by rw [show isV v w1 w2 = false from decide_eq_false (by omega)], rfl⟩)

set_option maxRecDepth 100000 in
set_option maxHeartbeats 4000000 in
theorem c_Mo_look {G : xG} {h : PH} {b a1 a2 a3 a4 a5 a6 a7 a8 bt : Nat} {th cp rc sh : Int} (hB : h b = (xO 8 [vi th, vi 0, .ref a1, .ref a2, vi cp, vi rc, vi 0, .ref a3, .ref a4, .ref a5, .ref a6, .ref a7, .ref a8, vi 0, vi sh, .ref bt])) {o : Nat} {go : Nat → Int64} (hO : h o = xL G 1 go) {v w1 w2 : Int}  : Cn G m_Model_look 0 1 0 [.ref b, vi v, vi w1, vi w2] h (fun r h' => r = none ∧ (∃ bt, h' b = (xO 8 [vi th, vi 0, .ref a1, .ref a2, vi cp, vi rc, vi 0, .ref a3, .ref a4, .ref a5, .ref a6, .ref a7, .ref a8, vi 0, vi 0, .ref bt])) ∧ h' o = xL G 1 go) := by
  refine Cn_of (by decide) (Nat.le_of_ble_eq_true rfl) (fun K C hR E => ?_)
  show X G K 4 0 [some (.ref b), some (vi v), some (vi w1), some (vi w2)] [] h 0 0
  refine x_aload_n C dX9_look_0 rfl rfl ?_
  refine x_iconst C dX9_look_1 ?_
  refine x_put C p_Model_191 hB (fit_int _) (Nat.le_of_ble_eq_true rfl) (h1 := (va_up h b (xO 8 [vi th, vi 0, .ref a1, .ref a2, vi cp, vi rc, vi 0, .ref a3, .ref a4, .ref a5, .ref a6, .ref a7, .ref a8, vi 0, vi 0, .ref bt]))) rfl dX9_look_2 ?_
  refine x_aload_n C dX9_look_5 rfl rfl ?_
  refine x_iconst C dX9_look_6 ?_
  refine x_newI C (n := 0) ⟨by omega, by omega⟩ arrayClass_int hR (by omega) (by omega) dX9_look_7 (fun qb zqb => ?_)
  have ne_b_qb : b ≠ qb := fun e => by rw [← e] at zqb; exact absurd (zqb.symm.trans up_s) (by intro h9; cases h9)
  have ne_o_qb : o ≠ qb := fun e => by rw [← e] at zqb; exact absurd (zqb.symm.trans ((up_n (ne_k hO hB (knn rfl))).trans hO)) (by intro h9; cases h9)
  refine x_put C p_Model_41 ((up_n ne_b_qb).trans up_s) (fit_arr _ _) (Nat.le_of_ble_eq_true rfl) (h1 := (va_up (va_up h b (xO 8 [vi th, vi 0, .ref a1, .ref a2, vi cp, vi rc, vi 0, .ref a3, .ref a4, .ref a5, .ref a6, .ref a7, .ref a8, vi 0, vi 0, .ref qb])) qb (xI G 0 (fun _ => 0)))) ((up_c _ _ _ (Ne.symm ne_b_qb)).trans (congrArg (fun f => va_up f qb _) (up_u _ _ _ _))) dX9_look_9 ?_
  refine x_aload_n C dX9_look_12 rfl rfl ?_
  refine x_get C f_Model_47 ((up_n ne_b_qb).trans up_s) rfl dX9_look_13 ?_
  refine x_if_le C (tgt := 33) dX9_look_16 (by decide) (by decide) (fun c16 => ?_) (fun c16 => ?_)
  · skip
    exact x_vret C E rfl (by omega) (by omega) dX9_look_33 (⟨rfl, ⟨_, ((up_n ne_b_qb).trans up_s)⟩, ((up_n ne_o_qb).trans ((up_n (ne_k hO hB (knn rfl))).trans hO))⟩)
  · skip
    exfalso; omega

set_option maxRecDepth 100000 in
set_option maxHeartbeats 4000000 in
theorem c_Mo_shapes_ok {G : xG} {h : PH} {b a1 a2 a3 a4 a5 a6 a7 a8 bt : Nat} {th cp rc sh : Int} (hB : h b = (xO 8 [vi th, vi 0, .ref a1, .ref a2, vi cp, vi rc, vi 0, .ref a3, .ref a4, .ref a5, .ref a6, .ref a7, .ref a8, vi 0, vi sh, .ref bt])) {o : Nat} {go : Nat → Int64} (hO : h o = xL G 1 go) {v w1 w2 : Int} (hv : bd v) (hw1 : bd w1) (hw2 : bd w2) (hi : isV v w1 w2 = true) : Cn G m_Model_shapes 2 1 0 [.ref b, vi v, vi w1, vi w2] h (fun r h' => r = some (vi 0) ∧ (∃ fs, h' b = xO 8 (vi 0 :: fs)) ∧ h' o = xL G 1 go) := by
  refine Cn_of (by decide) (Nat.le_of_ble_eq_true rfl) (fun K C hR E => ?_)
  show X G K 4 0 [some (.ref b), some (vi v), some (vi w1), some (vi w2)] [] h 0 0
  refine x_aload_n C dX9_shapes_0 rfl rfl ?_
  refine x_iconst C dX9_shapes_1 ?_
  refine x_put C p_Model_44 hB (fit_int _) (Nat.le_of_ble_eq_true rfl) (h1 := (va_up h b (xO 8 [vi 0, vi 0, .ref a1, .ref a2, vi cp, vi rc, vi 0, .ref a3, .ref a4, .ref a5, .ref a6, .ref a7, .ref a8, vi 0, vi sh, .ref bt]))) rfl dX9_shapes_2 ?_
  refine x_iload_n C dX9_shapes_5 rfl rfl ?_
  refine x_iload_n C dX9_shapes_6 rfl rfl ?_
  refine x_iload_n C dX9_shapes_7 rfl rfl ?_
  refine x_invS C s_Model_204 (st := []) (c_Mo_isVoicing (v := v) (w1 := w1) (w2 := w2) hv hw1 hw2) rfl rfl (Nat.le_of_ble_eq_true rfl) (xRm_of hR (by omega) (by decide) (by omega) (by omega)) dX9_shapes_8 (fun r9 h9 hq => ?_)
  obtain ⟨rfl, e9⟩ := hq
  have e9 := e9.symm
  subst e9
  refine x_ifneB C (tgt := 20) dX9_shapes_11 (by decide) (fun c11 => ?_) (fun c11 => ?_)
  · skip
    refine x_aload_n C dX9_shapes_20 rfl rfl ?_
    refine x_iload_n C dX9_shapes_21 rfl rfl ?_
    refine x_iload_n C dX9_shapes_22 rfl rfl ?_
    refine x_iload_n C dX9_shapes_23 rfl rfl ?_
    refine x_invV C s_Model_207 (st := []) (c_Mo_look (v := v) (w1 := w1) (w2 := w2) up_s ((up_n (ne_k hO hB (knn rfl))).trans hO)) up_s rfl rfl (Nat.le_of_ble_eq_true rfl) (xRm_of hR (by omega) (by decide) (by omega) (by omega)) dX9_shapes_24 (fun r9 h9 hq => ?_)
    obtain ⟨rfl, ⟨bt9, g9⟩, o9⟩ := hq
    refine x_aload_n C dX9_shapes_27 rfl rfl ?_
    refine x_get C f_Model_191 g9 rfl dX9_shapes_28 ?_
    exact x_iret C E rfl (by omega) (by omega) dX9_shapes_31 (⟨rfl, ⟨_, g9⟩, o9⟩)
  · skip
    rw [hi] at c11; cases c11

set_option maxRecDepth 100000 in
set_option maxHeartbeats 4000000 in
theorem c_Mo_shapes_no {G : xG} {h : PH} {b a1 a2 a3 a4 a5 a6 a7 a8 bt : Nat} {th cp rc sh : Int} (hB : h b = (xO 8 [vi th, vi 0, .ref a1, .ref a2, vi cp, vi rc, vi 0, .ref a3, .ref a4, .ref a5, .ref a6, .ref a7, .ref a8, vi 0, vi sh, .ref bt])) {o : Nat} {go : Nat → Int64} (hO : h o = xL G 1 go) {v w1 w2 : Int} (hv : bd v) (hw1 : bd w1) (hw2 : bd w2) (hi : isV v w1 w2 = false) : Cn G m_Model_shapes 2 0 0 [.ref b, vi v, vi w1, vi w2] h (fun r h' => r = some (vi 0) ∧ (∃ fs, h' b = xO 8 (vi 1 :: fs)) ∧ h' o = xL G 1 go) := by
  refine Cn_of (by decide) (Nat.le_of_ble_eq_true rfl) (fun K C hR E => ?_)
  show X G K 4 0 [some (.ref b), some (vi v), some (vi w1), some (vi w2)] [] h 0 0
  refine x_aload_n C dX9_shapes_0 rfl rfl ?_
  refine x_iconst C dX9_shapes_1 ?_
  refine x_put C p_Model_44 hB (fit_int _) (Nat.le_of_ble_eq_true rfl) (h1 := (va_up h b (xO 8 [vi 0, vi 0, .ref a1, .ref a2, vi cp, vi rc, vi 0, .ref a3, .ref a4, .ref a5, .ref a6, .ref a7, .ref a8, vi 0, vi sh, .ref bt]))) rfl dX9_shapes_2 ?_
  refine x_iload_n C dX9_shapes_5 rfl rfl ?_
  refine x_iload_n C dX9_shapes_6 rfl rfl ?_
  refine x_iload_n C dX9_shapes_7 rfl rfl ?_
  refine x_invS C s_Model_204 (st := []) (c_Mo_isVoicing (v := v) (w1 := w1) (w2 := w2) hv hw1 hw2) rfl rfl (Nat.le_of_ble_eq_true rfl) (xRm_of hR (by omega) (by decide) (by omega) (by omega)) dX9_shapes_8 (fun r9 h9 hq => ?_)
  obtain ⟨rfl, e9⟩ := hq
  have e9 := e9.symm
  subst e9
  refine x_ifneB C (tgt := 20) dX9_shapes_11 (by decide) (fun c11 => ?_) (fun c11 => ?_)
  · skip
    rw [hi] at c11; cases c11
  · skip
    refine x_aload_n C dX9_shapes_14 rfl rfl ?_
    refine x_iconst C dX9_shapes_15 ?_
    refine x_invV C s_Model_57 (st := []) (c_Mo_no up_s) up_s rfl rfl (Nat.le_of_ble_eq_true rfl) (xRm_of hR (by omega) (by decide) (by omega) (by omega)) dX9_shapes_16 (fun r9 h9 hq => ?_)
    obtain ⟨rfl, e9⟩ := hq
    have e9 := e9.symm
    subst e9
    refine X.heq (h1 := (va_up h b (xO 8 [vi 1, vi 0, .ref a1, .ref a2, vi cp, vi rc, vi 0, .ref a3, .ref a4, .ref a5, .ref a6, .ref a7, .ref a8, vi 0, vi sh, .ref bt]))) (up_u _ _ _ _) ?_
    exact x_iret C E rfl (by omega) (by omega) dX9_shapes_19 (⟨rfl, ⟨_, up_s⟩, ((up_n (ne_k hO hB (knn rfl))).trans hO)⟩)

set_option maxRecDepth 100000 in
set_option maxHeartbeats 4000000 in
theorem c_Mo_shapeEffort_ok {G : xG} {h : PH} {b a1 a2 a3 a4 a5 a6 a7 a8 bt : Nat} {th cp rc sh : Int} (hB : h b = (xO 8 [vi th, vi 0, .ref a1, .ref a2, vi cp, vi rc, vi 0, .ref a3, .ref a4, .ref a5, .ref a6, .ref a7, .ref a8, vi 0, vi sh, .ref bt])) {o : Nat} {go : Nat → Int64} (hO : h o = xL G 1 go) {v w1 w2 : Int} (hv : bd v) (hw1 : bd w1) (hw2 : bd w2) (hi : isV v w1 w2 = true) : Cn G m_Model_shapeEffort 2 1 0 [.ref b, vi v, vi w1, vi w2] h (fun r h' => r = some (vi (-1)) ∧ (∃ fs, h' b = xO 8 (vi 0 :: fs)) ∧ h' o = xL G 1 go) := by
  refine Cn_of (by decide) (Nat.le_of_ble_eq_true rfl) (fun K C hR E => ?_)
  show X G K 4 0 [some (.ref b), some (vi v), some (vi w1), some (vi w2)] [] h 0 0
  refine x_aload_n C dX9_shapeEffort_0 rfl rfl ?_
  refine x_iconst C dX9_shapeEffort_1 ?_
  refine x_put C p_Model_44 hB (fit_int _) (Nat.le_of_ble_eq_true rfl) (h1 := (va_up h b (xO 8 [vi 0, vi 0, .ref a1, .ref a2, vi cp, vi rc, vi 0, .ref a3, .ref a4, .ref a5, .ref a6, .ref a7, .ref a8, vi 0, vi sh, .ref bt]))) rfl dX9_shapeEffort_2 ?_
  refine x_iload_n C dX9_shapeEffort_5 rfl rfl ?_
  refine x_iload_n C dX9_shapeEffort_6 rfl rfl ?_
  refine x_iload_n C dX9_shapeEffort_7 rfl rfl ?_
  refine x_invS C s_Model_204 (st := []) (c_Mo_isVoicing (v := v) (w1 := w1) (w2 := w2) hv hw1 hw2) rfl rfl (Nat.le_of_ble_eq_true rfl) (xRm_of hR (by omega) (by decide) (by omega) (by omega)) dX9_shapeEffort_8 (fun r9 h9 hq => ?_)
  obtain ⟨rfl, e9⟩ := hq
  have e9 := e9.symm
  subst e9
  refine x_ifneB C (tgt := 20) dX9_shapeEffort_11 (by decide) (fun c11 => ?_) (fun c11 => ?_)
  · skip
    refine x_aload_n C dX9_shapeEffort_20 rfl rfl ?_
    refine x_iload_n C dX9_shapeEffort_21 rfl rfl ?_
    refine x_iload_n C dX9_shapeEffort_22 rfl rfl ?_
    refine x_iload_n C dX9_shapeEffort_23 rfl rfl ?_
    refine x_invV C s_Model_207 (st := []) (c_Mo_look (v := v) (w1 := w1) (w2 := w2) up_s ((up_n (ne_k hO hB (knn rfl))).trans hO)) up_s rfl rfl (Nat.le_of_ble_eq_true rfl) (xRm_of hR (by omega) (by decide) (by omega) (by omega)) dX9_shapeEffort_24 (fun r9 h9 hq => ?_)
    obtain ⟨rfl, ⟨bt9, g9⟩, o9⟩ := hq
    refine x_aload_n C dX9_shapeEffort_27 rfl rfl ?_
    refine x_get C f_Model_191 g9 rfl dX9_shapeEffort_28 ?_
    refine x_if_ne C (tgt := 38) dX9_shapeEffort_31 (by decide) (by decide) (fun c31 => ?_) (fun c31 => ?_)
    · skip
      exact absurd rfl c31
    · skip
      refine x_iconst C dX9_shapeEffort_34 ?_
      refine x_goto C (tgt := 45) dX9_shapeEffort_35 (by decide) ?_
      exact x_iret C E rfl (by omega) (by omega) dX9_shapeEffort_45 (⟨rfl, ⟨_, g9⟩, o9⟩)
  · skip
    rw [hi] at c11; cases c11

set_option maxRecDepth 100000 in
set_option maxHeartbeats 4000000 in
theorem c_Mo_shapeEffort_no {G : xG} {h : PH} {b a1 a2 a3 a4 a5 a6 a7 a8 bt : Nat} {th cp rc sh : Int} (hB : h b = (xO 8 [vi th, vi 0, .ref a1, .ref a2, vi cp, vi rc, vi 0, .ref a3, .ref a4, .ref a5, .ref a6, .ref a7, .ref a8, vi 0, vi sh, .ref bt])) {o : Nat} {go : Nat → Int64} (hO : h o = xL G 1 go) {v w1 w2 : Int} (hv : bd v) (hw1 : bd w1) (hw2 : bd w2) (hi : isV v w1 w2 = false) : Cn G m_Model_shapeEffort 2 0 0 [.ref b, vi v, vi w1, vi w2] h (fun r h' => r = some (vi 0) ∧ (∃ fs, h' b = xO 8 (vi 1 :: fs)) ∧ h' o = xL G 1 go) := by
  refine Cn_of (by decide) (Nat.le_of_ble_eq_true rfl) (fun K C hR E => ?_)
  show X G K 4 0 [some (.ref b), some (vi v), some (vi w1), some (vi w2)] [] h 0 0
  refine x_aload_n C dX9_shapeEffort_0 rfl rfl ?_
  refine x_iconst C dX9_shapeEffort_1 ?_
  refine x_put C p_Model_44 hB (fit_int _) (Nat.le_of_ble_eq_true rfl) (h1 := (va_up h b (xO 8 [vi 0, vi 0, .ref a1, .ref a2, vi cp, vi rc, vi 0, .ref a3, .ref a4, .ref a5, .ref a6, .ref a7, .ref a8, vi 0, vi sh, .ref bt]))) rfl dX9_shapeEffort_2 ?_
  refine x_iload_n C dX9_shapeEffort_5 rfl rfl ?_
  refine x_iload_n C dX9_shapeEffort_6 rfl rfl ?_
  refine x_iload_n C dX9_shapeEffort_7 rfl rfl ?_
  refine x_invS C s_Model_204 (st := []) (c_Mo_isVoicing (v := v) (w1 := w1) (w2 := w2) hv hw1 hw2) rfl rfl (Nat.le_of_ble_eq_true rfl) (xRm_of hR (by omega) (by decide) (by omega) (by omega)) dX9_shapeEffort_8 (fun r9 h9 hq => ?_)
  obtain ⟨rfl, e9⟩ := hq
  have e9 := e9.symm
  subst e9
  refine x_ifneB C (tgt := 20) dX9_shapeEffort_11 (by decide) (fun c11 => ?_) (fun c11 => ?_)
  · skip
    rw [hi] at c11; cases c11
  · skip
    refine x_aload_n C dX9_shapeEffort_14 rfl rfl ?_
    refine x_iconst C dX9_shapeEffort_15 ?_
    refine x_invV C s_Model_57 (st := []) (c_Mo_no up_s) up_s rfl rfl (Nat.le_of_ble_eq_true rfl) (xRm_of hR (by omega) (by decide) (by omega) (by omega)) dX9_shapeEffort_16 (fun r9 h9 hq => ?_)
    obtain ⟨rfl, e9⟩ := hq
    have e9 := e9.symm
    subst e9
    refine X.heq (h1 := (va_up h b (xO 8 [vi 1, vi 0, .ref a1, .ref a2, vi cp, vi rc, vi 0, .ref a3, .ref a4, .ref a5, .ref a6, .ref a7, .ref a8, vi 0, vi sh, .ref bt]))) (up_u _ _ _ _) ?_
    exact x_iret C E rfl (by omega) (by omega) dX9_shapeEffort_19 (⟨rfl, ⟨_, up_s⟩, ((up_n (ne_k hO hB (knn rfl))).trans hO)⟩)

/-- the sum at the start -/
def mD (cp rc : Int) : Nat → Int64
  | 0 => 58104
  | k + 1 => mD cp rc k * 31 + (I (mA cp rc (k : Int))).toInt64
def mAll (cp rc : Int) : Int64 := ((((mD cp rc 8 * 31 + (I (-1)).toInt64) * 31 + (I (-1)).toInt64) * 31 + (I (-1)).toInt64) * 31 + (I 0).toInt64) * 31 + (I (-1)).toInt64

set_option maxRecDepth 100000 in
set_option maxHeartbeats 4000000 in
theorem c_Mo_digest {G : xG} {h : PH} {b a1 a2 a3 a4 a5 a6 a7 a8 bt : Nat} {th cp rc sh : Int} (hB : h b = (xO 8 [vi th, vi 0, .ref a1, .ref a2, vi cp, vi rc, vi 0, .ref a3, .ref a4, .ref a5, .ref a6, .ref a7, .ref a8, vi 0, vi sh, .ref bt])) {o : Nat} {go : Nat → Int64} (hO : h o = xL G 1 go)  : Cn G m_Model_digest 4 28 0 [.ref b] h (fun r h' => r = some (.long (mAll cp rc)) ∧ h' o = xL G 1 go) := by
  refine Cn_of (by decide) (Nat.le_of_ble_eq_true rfl) (fun K C hR E => ?_)
  show X G K 7 0 [some (.ref b), none, none, none, none, none, none] [] h 0 0
  refine x_aload_n C dX9_digest_0 rfl rfl ?_
  refine x_iconst C dX9_digest_1 ?_
  refine x_put C p_Model_44 hB (fit_int _) (Nat.le_of_ble_eq_true rfl) (h1 := (va_up h b (xO 8 [vi 0, vi 0, .ref a1, .ref a2, vi cp, vi rc, vi 0, .ref a3, .ref a4, .ref a5, .ref a6, .ref a7, .ref a8, vi 0, vi sh, .ref bt]))) rfl dX9_digest_2 ?_
  refine x_ldc2 C (v := 58104) k_Model_220 dX9_digest_5 ?_
  refine x_lstore_n C (ls' := [some (.ref b), some (.long 58104), none, none, none, none, none]) dX9_digest_8 rfl (by decide) rfl ?_
  refine x_aload_n C dX9_digest_9 rfl rfl ?_
  refine x_invV C s_Model_172 (st := []) (c_Mo_all up_s) up_s rfl rfl (Nat.le_of_ble_eq_true rfl) (xRm_of hR (by omega) (by decide) (by omega) (by omega)) dX9_digest_10 (fun r9 h9 hq => ?_)
  obtain ⟨qa, rfl, gqa, F9⟩ := hq
  refine x_astore_n C (ls' := [some (.ref b), some (.long 58104), none, some (.ref qa), none, none, none]) dX9_digest_13 rfl (by decide) rfl ?_
  refine x_aload_n C dX9_digest_14 rfl rfl ?_
  refine x_aload_n C dX9_digest_15 rfl rfl ?_
  refine x_invV C s_Model_176 (st := []) (c_Mo_planNow (q0 := qa) ((F9 _ (alv_of up_s)).trans up_s)) ((F9 _ (alv_of up_s)).trans up_s) rfl rfl (Nat.le_of_ble_eq_true rfl) (xRm_of hR (by omega) (by decide) (by omega) (by omega)) dX9_digest_16 (fun r9 h8 hq => ?_)
  obtain ⟨qp, rfl, gqp, F8⟩ := hq
  refine x_astore C (ls' := [some (.ref b), some (.long 58104), none, some (.ref qa), some (.ref qp), none, none]) dX9_digest_19 (by decide) rfl ?_
  refine x_iconst C dX9_digest_21 ?_
  refine x_istore C (ls' := [some (.ref b), some (.long 58104), none, some (.ref qa), some (.ref qp), some (vi 0), none]) dX9_digest_22 (by decide) rfl ?_
  have L24 : ∀ (n0 : Nat) (k : Nat), 8 - k < n0 → (k ≤ 8) → X G K 7 24 [some (.ref b), some (.long (mD cp rc k)), none, some (.ref qa), some (.ref qp), some (vi (k : Int)), none] [] h8 ((0 + 1) + 2) ((0 + 0) + 0) := by
    intro n0
    induction n0 with
    | zero => intro k hm; exact absurd hm (Nat.not_lt_zero _)
    | succ n0 ih_L24 =>
      intro k hm i1
      refine x_iload C dX9_digest_24 rfl ?_
      refine x_bipush C (z := 8) dX9_digest_26 (by decide) ?_
      refine x_icmp_ge C (tgt := 54) dX9_digest_28 (by decide) ⟨by omega, by omega⟩ (by decide) (fun c28 => ?_) (fun c28 => ?_)
      · skip
        have hk8 : k = 8 := by omega
        refine x_iconst C dX9_digest_54 ?_
        refine x_istore C (ls' := [some (.ref b), some (.long (mD cp rc k)), none, some (.ref qa), some (.ref qp), some (vi 0), none]) dX9_digest_55 (by decide) rfl ?_
        refine x_iload C dX9_digest_57 rfl ?_
        refine x_aload_n C dX9_digest_59 rfl rfl ?_
        refine x_get C f_Model_54 ((F8 _ (alv_of ((F9 _ (alv_of up_s)).trans up_s))).trans ((F9 _ (alv_of up_s)).trans up_s)) rfl dX9_digest_60 ?_
        refine x_icmp_ge C (tgt := 238) dX9_digest_63 (by decide) (by decide) (by decide) (fun c63 => ?_) (fun c63 => ?_)
        · skip
          refine x_lload_n C dX9_digest_238 rfl rfl ?_
          refine x_ldc2 C (v := 31) k_Model_222 dX9_digest_239 ?_
          refine x_lmul C dX9_digest_242 ?_
          refine x_aload C dX9_digest_243 rfl ?_
          refine x_alen C (t := 0) rfl gqp dX9_digest_245 ?_
          refine x_if_ne C (tgt := 253) dX9_digest_246 (by decide) (by decide) (fun c246 => ?_) (fun c246 => ?_)
          · skip
            exact absurd rfl c246
          · skip
            refine x_iconst C dX9_digest_249 ?_
            refine x_goto C (tgt := 260) dX9_digest_250 (by decide) ?_
            refine x_i2l C dX9_digest_260 ?_
            refine x_ladd C dX9_digest_261 ?_
            refine x_ldc2 C (v := 31) k_Model_222 dX9_digest_262 ?_
            refine x_lmul C dX9_digest_265 ?_
            refine x_aload_n C dX9_digest_266 rfl rfl ?_
            refine x_aload_n C dX9_digest_267 rfl rfl ?_
            refine x_aload C dX9_digest_268 rfl ?_
            refine x_invV C s_Model_183 (st := [.long ((((mD cp rc k) * 31) + (I (-1)).toInt64) * 31)]) (c_Mo_hardestNow (q0 := qa) (q1 := qp) ((F8 _ (alv_of ((F9 _ (alv_of up_s)).trans up_s))).trans ((F9 _ (alv_of up_s)).trans up_s))) ((F8 _ (alv_of ((F9 _ (alv_of up_s)).trans up_s))).trans ((F9 _ (alv_of up_s)).trans up_s)) rfl rfl (Nat.le_of_ble_eq_true rfl) (xRm_of hR (by omega) (by decide) (by omega) (by omega)) dX9_digest_270 (fun r9 h6 hq => ?_)
            obtain ⟨rfl, e9⟩ := hq
            have e9 := e9.symm
            subst e9
            refine x_i2l C dX9_digest_273 ?_
            refine x_ladd C dX9_digest_274 ?_
            refine x_ldc2 C (v := 31) k_Model_222 dX9_digest_275 ?_
            refine x_lmul C dX9_digest_278 ?_
            refine x_aload_n C dX9_digest_279 rfl rfl ?_
            refine x_invV C s_Model_214 (st := [.long ((((((mD cp rc k) * 31) + (I (-1)).toInt64) * 31) + (I (-1)).toInt64) * 31)]) (c_Mo_bestCapoNow ((F8 _ (alv_of ((F9 _ (alv_of up_s)).trans up_s))).trans ((F9 _ (alv_of up_s)).trans up_s))) ((F8 _ (alv_of ((F9 _ (alv_of up_s)).trans up_s))).trans ((F9 _ (alv_of up_s)).trans up_s)) rfl rfl (Nat.le_of_ble_eq_true rfl) (xRm_of hR (by omega) (by decide) (by omega) (by omega)) dX9_digest_280 (fun r9 h5 hq => ?_)
            obtain ⟨rfl, F5⟩ := hq
            refine x_i2l C dX9_digest_283 ?_
            refine x_ladd C dX9_digest_284 ?_
            refine x_lstore_n C (ls' := [some (.ref b), some (.long (((((((mD cp rc k) * 31) + (I (-1)).toInt64) * 31) + (I (-1)).toInt64) * 31) + (I (-1)).toInt64)), none, some (.ref qa), some (.ref qp), some (vi 0), none]) dX9_digest_285 rfl (by decide) rfl ?_
            refine x_iconst C dX9_digest_286 ?_
            refine x_istore C (ls' := [some (.ref b), some (.long (((((((mD cp rc k) * 31) + (I (-1)).toInt64) * 31) + (I (-1)).toInt64) * 31) + (I (-1)).toInt64)), none, some (.ref qa), some (.ref qp), some (vi 0), none]) dX9_digest_287 (by decide) rfl ?_
            refine x_iload C dX9_digest_289 rfl ?_
            refine x_aload_n C dX9_digest_291 rfl rfl ?_
            refine x_get C f_Model_47 ((F5 _ (alv_of ((F8 _ (alv_of ((F9 _ (alv_of up_s)).trans up_s))).trans ((F9 _ (alv_of up_s)).trans up_s)))).trans ((F8 _ (alv_of ((F9 _ (alv_of up_s)).trans up_s))).trans ((F9 _ (alv_of up_s)).trans up_s))) rfl dX9_digest_292 ?_
            refine x_icmp_ge C (tgt := 318) dX9_digest_295 (by decide) (by decide) (by decide) (fun c295 => ?_) (fun c295 => ?_)
            · skip
              refine x_aload_n C dX9_digest_318 rfl rfl ?_
              refine x_sipush C (z := 145) dX9_digest_319 (by decide) ?_
              refine x_iconst C dX9_digest_322 ?_
              refine x_iconst C dX9_digest_323 ?_
              refine x_invV C s_Model_207 (st := []) (c_Mo_look (v := 145) (w1 := 0) (w2 := 1) ((F5 _ (alv_of ((F8 _ (alv_of ((F9 _ (alv_of up_s)).trans up_s))).trans ((F9 _ (alv_of up_s)).trans up_s)))).trans ((F8 _ (alv_of ((F9 _ (alv_of up_s)).trans up_s))).trans ((F9 _ (alv_of up_s)).trans up_s))) ((F5 _ (alv_of ((F8 _ (alv_of ((F9 _ (alv_of ((up_n (ne_k hO hB (knn rfl))).trans hO))).trans ((up_n (ne_k hO hB (knn rfl))).trans hO)))).trans ((F9 _ (alv_of ((up_n (ne_k hO hB (knn rfl))).trans hO))).trans ((up_n (ne_k hO hB (knn rfl))).trans hO))))).trans ((F8 _ (alv_of ((F9 _ (alv_of ((up_n (ne_k hO hB (knn rfl))).trans hO))).trans ((up_n (ne_k hO hB (knn rfl))).trans hO)))).trans ((F9 _ (alv_of ((up_n (ne_k hO hB (knn rfl))).trans hO))).trans ((up_n (ne_k hO hB (knn rfl))).trans hO))))) ((F5 _ (alv_of ((F8 _ (alv_of ((F9 _ (alv_of up_s)).trans up_s))).trans ((F9 _ (alv_of up_s)).trans up_s)))).trans ((F8 _ (alv_of ((F9 _ (alv_of up_s)).trans up_s))).trans ((F9 _ (alv_of up_s)).trans up_s))) rfl rfl (Nat.le_of_ble_eq_true rfl) (xRm_of hR (by omega) (by decide) (by omega) (by omega)) dX9_digest_324 (fun r9 h4 hq => ?_)
              obtain ⟨rfl, ⟨bt9, g9⟩, o9⟩ := hq
              refine x_lload_n C dX9_digest_327 rfl rfl ?_
              refine x_ldc2 C (v := 31) k_Model_222 dX9_digest_328 ?_
              refine x_lmul C dX9_digest_331 ?_
              refine x_aload_n C dX9_digest_332 rfl rfl ?_
              refine x_get C f_Model_191 g9 rfl dX9_digest_333 ?_
              refine x_i2l C dX9_digest_336 ?_
              refine x_ladd C dX9_digest_337 ?_
              refine x_ldc2 C (v := 31) k_Model_222 dX9_digest_338 ?_
              refine x_lmul C dX9_digest_341 ?_
              refine x_aload_n C dX9_digest_342 rfl rfl ?_
              refine x_get C f_Model_191 g9 rfl dX9_digest_343 ?_
              refine x_if_ne C (tgt := 353) dX9_digest_346 (by decide) (by decide) (fun c346 => ?_) (fun c346 => ?_)
              · skip
                exact absurd rfl c346
              · skip
                refine x_iconst C dX9_digest_349 ?_
                refine x_goto C (tgt := 360) dX9_digest_350 (by decide) ?_
                refine x_i2l C dX9_digest_360 ?_
                refine x_ladd C dX9_digest_361 ?_
                exact x_lret C E rfl (by omega) (by omega) dX9_digest_362 (⟨by subst hk8; rfl, o9⟩)
            · skip
              exfalso; omega
        · skip
          exfalso; omega
      · skip
        refine x_lload_n C dX9_digest_31 rfl rfl ?_
        refine x_ldc2 C (v := 31) k_Model_222 dX9_digest_32 ?_
        refine x_lmul C dX9_digest_35 ?_
        refine x_aload_n C dX9_digest_36 rfl rfl ?_
        refine x_iload C dX9_digest_37 rfl ?_
        refine x_aload_n C dX9_digest_39 rfl rfl ?_
        refine x_aload C dX9_digest_40 rfl ?_
        refine x_invV C s_Model_187 (st := [.long ((mD cp rc k) * 31)]) (c_Mo_manyNow (w := (k : Int)) ((F8 _ (alv_of ((F9 _ (alv_of up_s)).trans up_s))).trans ((F9 _ (alv_of up_s)).trans up_s)) ((F8 _ (alv_of gqa)).trans gqa) gqp ⟨by omega, by omega⟩) ((F8 _ (alv_of ((F9 _ (alv_of up_s)).trans up_s))).trans ((F9 _ (alv_of up_s)).trans up_s)) rfl rfl (Nat.le_of_ble_eq_true rfl) (xRm_of hR (by omega) (by decide) (by omega) (by omega)) dX9_digest_42 (fun r9 h7 hq => ?_)
        obtain ⟨rfl, e9⟩ := hq
        have e9 := e9.symm
        subst e9
        refine x_i2l C dX9_digest_45 ?_
        refine x_ladd C dX9_digest_46 ?_
        refine x_lstore_n C (ls' := [some (.ref b), some (.long (((mD cp rc k) * 31) + (I (mA cp rc (k : Int))).toInt64)), none, some (.ref qa), some (.ref qp), some (vi (k : Int)), none]) dX9_digest_47 rfl (by decide) rfl ?_
        refine x_iinc C (ls' := [some (.ref b), some (.long (((mD cp rc k) * 31) + (I (mA cp rc (k : Int))).toInt64)), none, some (.ref qa), some (.ref qp), some (vi ((k : Int) + 1)), none]) dX9_digest_48 rfl (by decide) (z1 := ((k : Int) + 1)) rfl rfl ?_
        refine x_goto C (tgt := 24) dX9_digest_51 (by decide) ?_
        exact ih_L24 (k + 1) (by omega) (by omega)
  exact L24 _ 0 (Nat.lt_succ_self _) (by omega)
