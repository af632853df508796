/-! cell, below, draw. -/
set_option maxRecDepth 100000 in
set_option maxHeartbeats 4000000 in
theorem c_L_cell {G : xG} {h : PH} {b L : Nat} {xs : Nat → Int32} {k : Int} (hk : 0 ≤ k ∧ k < 1000) : Sn G (b, L, xs) m_Law_cell 0 0 0 [.ref b, vi k] h (fun r h' => ∃ z : Int, r = some (vi z) ∧ h' = h) := by
  refine Sn_of (by decide) (Nat.le_of_ble_eq_true rfl) (fun K C hR E hX hbl hL => ?_)
  have hX : va_X b L xs (ks K) (ks K).heap := hX
  have hbl : b < gN G := hbl
  have hL : L ≤ 260 := hL
  show X G K 2 0 [some (.ref b), some (vi k)] [] h 0 0
  refine x_iload_n C dL_cell_0 rfl rfl ?_
  refine x_aload_n C dL_cell_1 rfl rfl ?_
  refine x_slen C hX hbl dL_cell_2 ?_
  refine x_icmp_ge C (tgt := 12) dL_cell_3 (by decide) ⟨by omega, by omega⟩ ⟨by omega, by omega⟩ (fun c3 => ?_) (fun c3 => ?_)
  · skip
    refine x_ldc C (z := 790386105) k_Law_8 dL_cell_12 ?_
    refine x_iload_n C dL_cell_14 rfl rfl ?_
    refine x_iconst C dL_cell_15 ?_
    refine x_iadd C dL_cell_16 ?_
    refine x_imul C dL_cell_17 ?_
    exact x_iret C E rfl (by omega) (by omega) dL_cell_18 (⟨_, rfl, rfl⟩)
  · skip
    refine x_aload_n C dL_cell_6 rfl rfl ?_
    refine x_iload_n C dL_cell_7 rfl rfl ?_
    refine x_sld C hX hbl (v := (xs k.toNat).toInt) ⟨by omega, by omega, by omega⟩ (I_of _).symm dL_cell_8 ?_
    refine x_goto C (tgt := 18) dL_cell_9 (by decide) ?_
    exact x_iret C E rfl (by omega) (by omega) dL_cell_18 (⟨_, rfl, rfl⟩)

set_option maxRecDepth 100000 in
set_option maxHeartbeats 4000000 in
theorem c_L_below {G : xG} {h : PH} {v n : Int} (hn : 0 < n ∧ n < 100000) : Cn G m_Law_below 0 0 0 [vi v, vi n] h (fun r h' => ∃ z : Nat, r = some (vi (z : Int)) ∧ (z : Int) < n ∧ h' = h) := by
  refine Cn_of (by decide) (Nat.le_of_ble_eq_true rfl) (fun K C hR E => ?_)
  show X G K 2 0 [some (vi v), some (vi n)] [] h 0 0
  obtain ⟨w, hw, ew⟩ := I_posE v
  obtain ⟨z, hz, ez⟩ := I_remE (a := (w : Int)) (b := n) ⟨by omega, by omega⟩ ⟨hn.1, by omega⟩
  refine x_iload_n C dL_below_0 rfl rfl ?_
  refine x_ldc C (z := 2147483647) k_Law_7 dL_below_1 ?_
  refine x_iand C (c := (w : Int)) dL_below_3 ew ?_
  refine x_iload_n C dL_below_4 rfl rfl ?_
  refine x_irem C (c := (z : Int)) dL_below_5 (I_ne0 ⟨by omega, by omega⟩ (by omega)) ez ?_
  exact x_iret C E rfl (by omega) (by omega) dL_below_6 (⟨z, rfl, hz, rfl⟩)

set_option maxRecDepth 100000 in
set_option maxHeartbeats 4000000 in
theorem c_N_draw {G : xG} {h : PH} {nk m b L oa sl ca la fa fo : Nat} {dr cp rc : Int} {xs : Nat → Int32} (hN : h nk = (xO 8 [.ref m, .ref b, vi dr, .ref oa, .ref sl, vi cp, vi rc, .ref ca, .ref la, .ref fa, .ref fo])) (hd : 0 ≤ dr ∧ dr < 1000000) {n : Int} (hn : 0 < n ∧ n < 100000) : Sn G (b, L, xs) m_Neck_draw 1 0 0 [.ref nk, vi n] h (fun r h' => ∃ z : Nat, r = some (vi (z : Int)) ∧ (z : Int) < n ∧ h' = va_up h nk (xO 8 [.ref m, .ref b, vi (dr + 1), .ref oa, .ref sl, vi cp, vi rc, .ref ca, .ref la, .ref fa, .ref fo])) := by
  refine Sn_of (by decide) (Nat.le_of_ble_eq_true rfl) (fun K C hR E hX hbl hL => ?_)
  have hX : va_X b L xs (ks K) (ks K).heap := hX
  have hbl : b < gN G := hbl
  have hL : L ≤ 260 := hL
  show X G K 3 0 [some (.ref nk), some (vi n), none] [] h 0 0
  obtain ⟨z1, hz1, ez1⟩ := I_remE (a := dr) (b := 24) ⟨by omega, by omega⟩ (by decide)
  obtain ⟨z2, hz2, ez2⟩ := I_divE (a := dr) (b := 24) ⟨by omega, by omega⟩ (by decide)
  obtain ⟨z3, hz3, ez3⟩ := I_remE (a := (z2 : Int)) (b := 8) ⟨by omega, by omega⟩ (by decide)
  refine x_aload_n C dX9_draw_0 rfl rfl ?_
  refine x_get C f_Neck_42 hN rfl dX9_draw_1 ?_
  refine x_aload_n C dX9_draw_4 rfl rfl ?_
  refine x_get C f_Neck_45 hN rfl dX9_draw_5 ?_
  refine x_bipush C (z := 24) dX9_draw_8 (by decide) ?_
  refine x_irem C (c := (z1 : Int)) dX9_draw_10 (I_ne0 (by decide) (by decide)) ez1 ?_
  refine x_invSNX C (Sc := (b, L, xs)) hX hbl hL s_Neck_48 (st := []) (c_L_cell ⟨by omega, by omega⟩) rfl rfl (Nat.le_of_ble_eq_true rfl) (xRm_of hR (by omega) (by decide) (by omega) (by omega)) dX9_draw_11 (fun r9 h9 hq => ?_)
  obtain ⟨y, rfl, e9⟩ := hq
  have e9 := e9.symm
  subst e9
  refine x_aload_n C dX9_draw_14 rfl rfl ?_
  refine x_get C f_Neck_45 hN rfl dX9_draw_15 ?_
  refine x_bipush C (z := 24) dX9_draw_18 (by decide) ?_
  refine x_idiv C (c := (z2 : Int)) dX9_draw_20 (I_ne0 (by decide) (by decide)) ez2 ?_
  refine x_bipush C (z := 8) dX9_draw_21 (by decide) ?_
  refine x_irem C (c := (z3 : Int)) dX9_draw_23 (I_ne0 (by decide) (by decide)) ez3 ?_
  refine x_ishr C (c := (I y >>> (I (z3 : Int) &&& 31)).toInt) dX9_draw_24 (I_of _).symm ?_
  refine x_sipush C (z := 193) dX9_draw_25 (by decide) ?_
  refine x_aload_n C dX9_draw_28 rfl rfl ?_
  refine x_get C f_Neck_45 hN rfl dX9_draw_29 ?_
  refine x_imul C dX9_draw_32 ?_
  refine x_iadd C dX9_draw_33 ?_
  refine x_iload_n C dX9_draw_34 rfl rfl ?_
  refine x_invSN C s_Neck_54 (st := []) (c_L_below hn) rfl rfl (Nat.le_of_ble_eq_true rfl) (xRm_of hR (by omega) (by decide) (by omega) (by omega)) dX9_draw_35 (fun r9 h9 hq => ?_)
  obtain ⟨z, rfl, hz, e9⟩ := hq
  have e9 := e9.symm
  subst e9
  refine x_istore_n C (ls' := [some (.ref nk), some (vi n), some (vi (z : Int))]) dX9_draw_38 rfl (by decide) rfl ?_
  refine x_aload_n C dX9_draw_39 rfl rfl ?_
  refine x_dup C dX9_draw_40 rfl ?_
  refine x_get C f_Neck_45 hN rfl dX9_draw_41 ?_
  refine x_iconst C dX9_draw_44 ?_
  refine x_iadd C dX9_draw_45 ?_
  refine x_put C p_Neck_45 hN (fit_int _) (Nat.le_of_ble_eq_true rfl) (h1 := (va_up h nk (xO 8 [.ref m, .ref b, vi (dr + 1), .ref oa, .ref sl, vi cp, vi rc, .ref ca, .ref la, .ref fa, .ref fo]))) rfl dX9_draw_46 ?_
  refine x_iload_n C dX9_draw_49 rfl rfl ?_
  exact x_iret C E rfl (by omega) (by omega) dX9_draw_50 (⟨z, rfl, hz, rfl⟩)
