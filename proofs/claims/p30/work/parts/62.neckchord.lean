/-! Neck.chord. -/
theorem addP_t {p : Int} {x : Nat × (Nat → Int)} (h : ¬ p = -1) : addP p x = (x.1 + 1, va_up x.2 x.1 p) := if_neg h
theorem addP_f {x : Nat × (Nat → Int)} : addP (-1) x = x := if_pos rfl
section ROW
variable {u A : Nat → Int} {rl : Nat}
theorem tw_no (h1 : 1 ≤ rl) (hA : ∀ j, j < 4 → A j = if j < rl then u j else -1) (hu : ∀ j, j < rl → 0 ≤ u j ∧ u j ≤ 80) (hi : ∀ i j, i < rl → j < rl → u i = u j → i = j) : twice (A 0) (A 1) (A 2) (A 3) = false := by
  have ne : ∀ i j, i < 4 → j < 4 → i ≠ j → A i = A j → A i = -1 := fun i j a b n e => by
    by_cases c : i < rl
    · rw [hA i a, hA j b, if_pos c] at e
      by_cases d : j < rl
      · rw [if_pos d] at e
        exact absurd (hi i j c d e) n
      · rw [if_neg d] at e
        have := hu i c
        omega
    · rw [hA i a, if_neg c]
  have n0 : ¬ A 0 = -1 := by
    rw [hA 0 (by omega), if_pos (by omega)]
    have := hu 0 (by omega)
    omega
  unfold twice
  refine decide_eq_false ?_
  rintro (e | e | e | ⟨a, e | e⟩ | ⟨a, e⟩)
  · exact n0 (ne 0 1 (by omega) (by omega) (by omega) e)
  · exact n0 (ne 0 2 (by omega) (by omega) (by omega) e)
  · exact n0 (ne 0 3 (by omega) (by omega) (by omega) e)
  · exact a (ne 1 2 (by omega) (by omega) (by omega) e)
  · exact a (ne 1 3 (by omega) (by omega) (by omega) e)
  · exact a (ne 2 3 (by omega) (by omega) (by omega) e)
theorem addP_row (h1 : 1 ≤ rl) (h4 : rl ≤ 4) (hA : ∀ j, j < 4 → A j = if j < rl then u j else -1) (hu : ∀ j, j < rl → 0 ≤ u j ∧ u j ≤ 80) (f : Nat → Int) : (addP (A 3) (addP (A 2) (addP (A 1) (addP (A 0) ((0, f) : Nat × (Nat → Int)))))).1 = rl ∧ ∀ j, j < rl → u j = (addP (A 3) (addP (A 2) (addP (A 1) (addP (A 0) ((0, f) : Nat × (Nat → Int)))))).2 j := by
  have y : ∀ j, j < 4 → j < rl → A j = u j ∧ ¬ A j = -1 := fun j a b => by
    have e := hA j a
    rw [if_pos b] at e
    have := hu j b
    exact ⟨e, by omega⟩
  have z : ∀ j, j < 4 → rl ≤ j → A j = -1 := fun j a b => by rw [hA j a, if_neg (by omega)]
  have y0 := y 0 (by omega) (by omega)
  rcases (show rl = 1 ∨ rl = 2 ∨ rl = 3 ∨ rl = 4 by omega) with r | r | r | r
  · rw [z 3 (by omega) (by omega), z 2 (by omega) (by omega), z 1 (by omega) (by omega), addP_f, addP_f, addP_f, addP_t y0.2]
    refine ⟨r.symm, fun j hj => ?_⟩
    rcases (show j = 0 by omega) with e
    · rw [e]
      show u 0 = va_up f 0 (A 0) 0
      rw [up_s]
      exact y0.1.symm
  · have y1 := y 1 (by omega) (by omega)
    rw [z 3 (by omega) (by omega), z 2 (by omega) (by omega), addP_f, addP_f, addP_t y1.2, addP_t y0.2]
    refine ⟨r.symm, fun j hj => ?_⟩
    rcases (show j = 0 ∨ j = 1 by omega) with e | e
    · rw [e]
      show u 0 = va_up (va_up f 0 (A 0)) 1 (A 1) 0
      rw [up_n (show (0 : Nat) ≠ 1 by decide), up_s]
      exact y0.1.symm
    · rw [e]
      show u 1 = va_up (va_up f 0 (A 0)) 1 (A 1) 1
      rw [up_s]
      exact y1.1.symm
  · have y1 := y 1 (by omega) (by omega)
    have y2 := y 2 (by omega) (by omega)
    rw [z 3 (by omega) (by omega), addP_f, addP_t y2.2, addP_t y1.2, addP_t y0.2]
    refine ⟨r.symm, fun j hj => ?_⟩
    rcases (show j = 0 ∨ j = 1 ∨ j = 2 by omega) with e | e | e
    · rw [e]
      show u 0 = va_up (va_up (va_up f 0 (A 0)) 1 (A 1)) 2 (A 2) 0
      rw [up_n (show (0 : Nat) ≠ 2 by decide), up_n (show (0 : Nat) ≠ 1 by decide), up_s]
      exact y0.1.symm
    · rw [e]
      show u 1 = va_up (va_up (va_up f 0 (A 0)) 1 (A 1)) 2 (A 2) 1
      rw [up_n (show (1 : Nat) ≠ 2 by decide), up_s]
      exact y1.1.symm
    · rw [e]
      show u 2 = va_up (va_up (va_up f 0 (A 0)) 1 (A 1)) 2 (A 2) 2
      rw [up_s]
      exact y2.1.symm
  · have y1 := y 1 (by omega) (by omega)
    have y2 := y 2 (by omega) (by omega)
    have y3 := y 3 (by omega) (by omega)
    rw [addP_t y3.2, addP_t y2.2, addP_t y1.2, addP_t y0.2]
    refine ⟨r.symm, fun j hj => ?_⟩
    rcases (show j = 0 ∨ j = 1 ∨ j = 2 ∨ j = 3 by omega) with e | e | e | e
    · rw [e]
      show u 0 = va_up (va_up (va_up (va_up f 0 (A 0)) 1 (A 1)) 2 (A 2)) 3 (A 3) 0
      rw [up_n (show (0 : Nat) ≠ 3 by decide), up_n (show (0 : Nat) ≠ 2 by decide), up_n (show (0 : Nat) ≠ 1 by decide), up_s]
      exact y0.1.symm
    · rw [e]
      show u 1 = va_up (va_up (va_up (va_up f 0 (A 0)) 1 (A 1)) 2 (A 2)) 3 (A 3) 1
      rw [up_n (show (1 : Nat) ≠ 3 by decide), up_n (show (1 : Nat) ≠ 2 by decide), up_s]
      exact y1.1.symm
    · rw [e]
      show u 2 = va_up (va_up (va_up (va_up f 0 (A 0)) 1 (A 1)) 2 (A 2)) 3 (A 3) 2
      rw [up_n (show (2 : Nat) ≠ 3 by decide), up_s]
      exact y2.1.symm
    · rw [e]
      show u 3 = va_up (va_up (va_up (va_up f 0 (A 0)) 1 (A 1)) 2 (A 2)) 3 (A 3) 3
      rw [up_s]
      exact y3.1.symm
end ROW

set_option maxRecDepth 100000 in
set_option maxHeartbeats 4000000 in
theorem c_N_chord {G : xG} {h : PH} {ad : Nat → Nat} {nk b L sl : Nat} {dr : Int} {xs : Nat → Int32} {fq : Bool} {Q : Ins} {P : Pie} (hj : ∀ i j, i < 300 → j < 300 → ad i = ad j → i = j) (T : TabR G h ad fq Q P) (NN : NkR G h ad nk b sl dr Q P) (hdr : dr < 90000) (hpm : P.m < 12) (hn : 0 < Q.n) : Sn G (b, L, xs) m_Neck_chord 4 12 70 [.ref nk] h (fun r h' => r = some (vi (b2i true)) ∧ NP G h' ad nk b sl Q.n (P.m + 1) (dr + 20)) := by
  refine Sn_of (by decide) (Nat.le_of_ble_eq_true rfl) (fun K C hR E hX hbl hL => ?_)
  have hX : va_X b L xs (ks K) (ks K).heap := hX
  have hbl : b < gN G := hbl
  have hL : L ≤ 260 := hL
  obtain ⟨oa, ca, la, fa, fo, ln2, hN, hO, hS, hSv, ⟨cf, hCa, hCr⟩, hLa, ⟨ff, hFa, hFr⟩, ⟨av0, av1, av2, av3, av4, av5, av6, av7, av8, av9⟩, ⟨hd1, hd2⟩, hV⟩ := id NN
  have IV1 := T.2.2.2.2.2.2.2.1
  have CV1 := T.2.2.2.2.2.2.2.2
  have IVn := IV1.1
  obtain ⟨ivc1, ivc2⟩ := IV1.2.2.1
  obtain ⟨ivr1, ivr2⟩ := IV1.2.2.2
  have CVm := CV1.1
  show X G K 6 0 [some (.ref nk), none, none, none, none, none] [] h 0 0
  refine x_aload_n C dX9_chord_0 rfl rfl ?_
  refine x_get C f_Neck_29 hN rfl dX9_chord_1 ?_
  refine x_alen C (t := 3) rfl hCa dX9_chord_4 ?_
  refine x_bipush C (z := 12) dX9_chord_5 (by decide) ?_
  refine x_icmp_eq C (tgt := 18) dX9_chord_7 (by decide) ⟨by omega, by omega⟩ (by decide) (fun c7 => ?_) (fun c7 => ?_)
  · skip
    exfalso; omega
  · skip
    refine x_aload_n C dX9_chord_10 rfl rfl ?_
    refine x_get C f_Neck_16 hN rfl dX9_chord_11 ?_
    refine x_alen C (t := 0) rfl hO dX9_chord_14 ?_
    refine x_if_ne C (tgt := 20) dX9_chord_15 (by decide) ⟨by omega, by omega⟩ (fun c15 => ?_) (fun c15 => ?_)
    · skip
      refine x_iconst C dX9_chord_20 ?_
      refine x_newI C (n := 0) ⟨by omega, by omega⟩ arrayClass_int hR (by omega) (by omega) dX9_chord_21 (fun r0 zr0 => ?_)
      have ne_nk_r0 : nk ≠ r0 := fun e => by rw [← e] at zr0; exact absurd (zr0.symm.trans hN) (by intro h9; cases h9)
      have ne_oa_r0 : oa ≠ r0 := fun e => by rw [← e] at zr0; exact absurd (zr0.symm.trans hO) (by intro h9; cases h9)
      have ne_sl_r0 : sl ≠ r0 := fun e => by rw [← e] at zr0; exact absurd (zr0.symm.trans hS) (by intro h9; cases h9)
      have ne_ca_r0 : ca ≠ r0 := fun e => by rw [← e] at zr0; exact absurd (zr0.symm.trans hCa) (by intro h9; cases h9)
      have ne_la_r0 : la ≠ r0 := fun e => by rw [← e] at zr0; exact absurd (zr0.symm.trans hLa) (by intro h9; cases h9)
      have ne_fa_r0 : fa ≠ r0 := fun e => by rw [← e] at zr0; exact absurd (zr0.symm.trans hFa) (by intro h9; cases h9)
      have z0r0 : h r0 = none := zr0
      have or0 : ∀ i, own i → r0 ≠ ad i := fun i hi e => T.al i hi (by rw [← e]; exact z0r0)
      refine x_astore_n C (ls' := [some (.ref nk), some (.ref r0), none, none, none, none]) dX9_chord_23 rfl (by decide) rfl ?_
      refine x_iconst C dX9_chord_24 ?_
      refine x_aload_n C dX9_chord_25 rfl rfl ?_
      refine x_iconst C dX9_chord_26 ?_
      refine x_invVX C (Sc := (b, L, xs)) hX hbl hL s_Neck_64 (st := [vi 1]) (c_N_draw ((up_n ne_nk_r0).trans hN) ⟨by omega, by omega⟩ (n := 4) ((by decide))) ((up_n ne_nk_r0).trans hN) rfl rfl (Nat.le_of_ble_eq_true rfl) (xRm_of hR (by omega) (by decide) (by omega) (by omega)) dX9_chord_27 (fun r9 h9 hq => ?_)
      obtain ⟨z, rfl, hz, e9⟩ := hq
      subst e9
      refine x_iadd C dX9_chord_30 ?_
      refine x_istore_n C (ls' := [some (.ref nk), some (.ref r0), some (vi (1 + (z : Int))), none, none, none]) dX9_chord_31 rfl (by decide) rfl ?_
      refine x_iconst C dX9_chord_32 ?_
      refine x_istore_n C (ls' := [some (.ref nk), some (.ref r0), some (vi (1 + (z : Int))), some (vi 0), none, none]) dX9_chord_33 rfl (by decide) rfl ?_
      have L34 : ∀ (n0 : Nat) (k : Nat) (rw : Nat) (rl : Nat) (u : Nat → Int) (d : Int) (hp : PH) (cc : Nat) (ss : Nat), (1 + z) - k < n0 → ((k : Int) ≤ 1 + (z : Int)) → (dr + 1 ≤ d ∧ d ≤ dr + 1 + 2 * (k : Int)) → (rl ≤ k ∧ (0 < k → 0 < rl)) → (∀ j, j < rl → 0 ≤ u j ∧ u j ≤ 80) → (∀ i j, i < rl → j < rl → u i = u j → i = j) → (h rw = none) → (hp nk = (xO 8 [.ref (ad 0), .ref b, vi d, .ref oa, .ref sl, vi Q.cp, vi Q.rc, .ref ca, .ref la, .ref fa, .ref fo])) → (hp rw = xI G rl u) → (∀ x, alv h x → x ≠ nk → hp x = h x) → (cc ≤ 1 + k ∧ ss ≤ 4 * k) → X G K 6 34 [some (.ref nk), some (.ref rw), some (vi (1 + (z : Int))), some (vi (k : Int)), none, none] [] hp cc ss := by
        intro n0
        induction n0 with
        | zero => intro k rw rl u d hp cc ss hm; exact absurd hm (Nat.not_lt_zero _)
        | succ n0 ih_L34 =>
          intro k rw rl u d hp cc ss hm i1 i2 i3 i4 i5 z0rw K1 K2 K3 r1
          have ne_nk_rw : nk ≠ rw := fun e => alv_of hN (by rw [e]; exact z0rw)
          have ne_oa_rw : oa ≠ rw := fun e => alv_of hO (by rw [e]; exact z0rw)
          have ne_sl_rw : sl ≠ rw := fun e => alv_of hS (by rw [e]; exact z0rw)
          have ne_ca_rw : ca ≠ rw := fun e => alv_of hCa (by rw [e]; exact z0rw)
          have ne_la_rw : la ≠ rw := fun e => alv_of hLa (by rw [e]; exact z0rw)
          have ne_fa_rw : fa ≠ rw := fun e => alv_of hFa (by rw [e]; exact z0rw)
          have orw : ∀ i, own i → rw ≠ ad i := fun i hi e => T.al i hi (by rw [← e]; exact z0rw)
          refine x_iload_n C dX9_chord_34 rfl rfl ?_
          refine x_iload_n C dX9_chord_35 rfl rfl ?_
          refine x_icmp_ge C (tgt := 118) dX9_chord_36 (by decide) ⟨by omega, by omega⟩ ⟨by omega, by omega⟩ (fun c36 => ?_) (fun c36 => ?_)
          · skip
            have i3b := i3.2 (by omega)
            refine x_iconst C dX9_chord_118 ?_
            refine x_aload_n C dX9_chord_119 rfl rfl ?_
            refine x_iconst C dX9_chord_120 ?_
            refine x_invVX C (Sc := (b, L, xs)) hX hbl hL s_Neck_64 (st := [vi 1]) (c_N_draw K1 ⟨by omega, by omega⟩ (n := 3) ((by decide))) K1 rfl rfl (Nat.le_of_ble_eq_true rfl) (xRm_of hR (by omega) (by decide) (by omega) (by omega)) dX9_chord_121 (fun r9 h9 hq => ?_)
            obtain ⟨y2, rfl, hy2, e9⟩ := hq
            subst e9
            refine x_iadd C dX9_chord_124 ?_
            refine x_istore_n C (ls' := [some (.ref nk), some (.ref rw), some (vi (1 + (z : Int))), some (vi (1 + (y2 : Int))), none, none]) dX9_chord_125 rfl (by decide) rfl ?_
            refine x_iconst C dX9_chord_126 ?_
            refine x_newI C (n := 4) ⟨by omega, by omega⟩ arrayClass_int hR (by omega) (by omega) dX9_chord_127 (fun al zal => ?_)
            have ne_oa_al : oa ≠ al := fun e => by rw [← e] at zal; exact absurd (zal.symm.trans ((up_n (ne_kd hO hN rfl)).trans ((K3 oa (alv_of hO) (ne_kd hO hN rfl)).trans hO))) (by intro h9; cases h9)
            have ne_sl_al : sl ≠ al := fun e => by rw [← e] at zal; exact absurd (zal.symm.trans ((up_n (ne_kd hS hN rfl)).trans ((K3 sl (alv_of hS) (ne_kd hS hN rfl)).trans hS))) (by intro h9; cases h9)
            have ne_ca_al : ca ≠ al := fun e => by rw [← e] at zal; exact absurd (zal.symm.trans ((up_n (ne_kd hCa hN rfl)).trans ((K3 ca (alv_of hCa) (ne_kd hCa hN rfl)).trans hCa))) (by intro h9; cases h9)
            have ne_la_al : la ≠ al := fun e => by rw [← e] at zal; exact absurd (zal.symm.trans ((up_n (ne_kd hLa hN rfl)).trans ((K3 la (alv_of hLa) (ne_kd hLa hN rfl)).trans hLa))) (by intro h9; cases h9)
            have ne_fa_al : fa ≠ al := fun e => by rw [← e] at zal; exact absurd (zal.symm.trans ((up_n (ne_kd hFa hN rfl)).trans ((K3 fa (alv_of hFa) (ne_kd hFa hN rfl)).trans hFa))) (by intro h9; cases h9)
            have ne_nk_al : nk ≠ al := fun e => by rw [← e] at zal; exact absurd (zal.symm.trans up_s) (by intro h9; cases h9)
            have ne_rw_al : rw ≠ al := fun e => by rw [← e] at zal; exact absurd (zal.symm.trans ((up_n (Ne.symm ne_nk_rw)).trans K2)) (by intro h9; cases h9)
            have zpal : hp al = none := ((up_n (Ne.symm ne_nk_al)).symm.trans zal)
            have z0al : h al = none := by
              by_cases a9 : h al = none
              · exact a9
              · exact absurd zpal (by rw [K3 al a9 (Ne.symm ne_nk_al)]; exact a9)
            have oal : ∀ i, own i → al ≠ ad i := fun i hi e => T.al i hi (by rw [← e]; exact z0al)
            refine x_dup C dX9_chord_129 rfl ?_
            refine x_iconst C dX9_chord_130 ?_
            refine x_iconst C dX9_chord_131 ?_
            refine x_iast C up_s ⟨by omega, by omega, by omega⟩ (h1 := (va_up (va_up hp nk (xO 8 [.ref (ad 0), .ref b, vi (d + 1), .ref oa, .ref sl, vi Q.cp, vi Q.rc, .ref ca, .ref la, .ref fa, .ref fo])) al (xI G 4 (va_up (fun _ => 0) 0 (-1))))) (up_u _ _ _ _) dX9_chord_132 ?_
            refine x_dup C dX9_chord_133 rfl ?_
            refine x_iconst C dX9_chord_134 ?_
            refine x_iconst C dX9_chord_135 ?_
            refine x_iast C up_s ⟨by omega, by omega, by omega⟩ (h1 := (va_up (va_up hp nk (xO 8 [.ref (ad 0), .ref b, vi (d + 1), .ref oa, .ref sl, vi Q.cp, vi Q.rc, .ref ca, .ref la, .ref fa, .ref fo])) al (xI G 4 (va_up (va_up (fun _ => 0) 0 (-1)) 1 (-1))))) (up_u _ _ _ _) dX9_chord_136 ?_
            refine x_dup C dX9_chord_137 rfl ?_
            refine x_iconst C dX9_chord_138 ?_
            refine x_iconst C dX9_chord_139 ?_
            refine x_iast C up_s ⟨by omega, by omega, by omega⟩ (h1 := (va_up (va_up hp nk (xO 8 [.ref (ad 0), .ref b, vi (d + 1), .ref oa, .ref sl, vi Q.cp, vi Q.rc, .ref ca, .ref la, .ref fa, .ref fo])) al (xI G 4 (va_up (va_up (va_up (fun _ => 0) 0 (-1)) 1 (-1)) 2 (-1))))) (up_u _ _ _ _) dX9_chord_140 ?_
            refine x_dup C dX9_chord_141 rfl ?_
            refine x_iconst C dX9_chord_142 ?_
            refine x_iconst C dX9_chord_143 ?_
            refine x_iast C up_s ⟨by omega, by omega, by omega⟩ (h1 := (va_up (va_up hp nk (xO 8 [.ref (ad 0), .ref b, vi (d + 1), .ref oa, .ref sl, vi Q.cp, vi Q.rc, .ref ca, .ref la, .ref fa, .ref fo])) al (xI G 4 (va_up (va_up (va_up (va_up (fun _ => 0) 0 (-1)) 1 (-1)) 2 (-1)) 3 (-1))))) (up_u _ _ _ _) dX9_chord_144 ?_
            refine x_astore C (ls' := [some (.ref nk), some (.ref rw), some (vi (1 + (z : Int))), some (vi (1 + (y2 : Int))), some (.ref al), none]) dX9_chord_145 (by decide) rfl ?_
            refine x_aload_n C dX9_chord_147 rfl rfl ?_
            refine x_iconst C dX9_chord_148 ?_
            refine x_aload C dX9_chord_149 rfl ?_
            refine x_iconst C dX9_chord_151 ?_
            refine x_aload_n C dX9_chord_152 rfl rfl ?_
            refine x_alen C (t := 0) rfl ((up_n ne_rw_al).trans ((up_n (Ne.symm ne_nk_rw)).trans K2)) dX9_chord_153 ?_
            refine x_copyI C s_Neck_58 native_System_arraycopy static_System_arraycopy i_System ((up_n ne_rw_al).trans ((up_n (Ne.symm ne_nk_rw)).trans K2)) up_s ⟨by omega, by omega, by omega, by omega, by omega, by omega, by omega⟩ (by decide) hR (by omega) (h1' := (va_up (va_up hp nk (xO 8 [.ref (ad 0), .ref b, vi (d + 1), .ref oa, .ref sl, vi Q.cp, vi Q.rc, .ref ca, .ref la, .ref fa, .ref fo])) al (xI G 4 (va_cpy u (va_up (va_up (va_up (va_up (fun _ => 0) 0 (-1)) 1 (-1)) 2 (-1)) 3 (-1)) 0 0 rl)))) (up_u _ _ _ _) dX9_chord_154 ?_
            obtain ⟨A, eA, hA⟩ : ∃ A : Nat → Int, A = (va_cpy u (va_up (va_up (va_up (va_up (fun _ => 0) 0 (-1)) 1 (-1)) 2 (-1)) 3 (-1)) 0 0 rl) ∧ ∀ j, j < 4 → A j = if j < rl then u j else -1 := ⟨_, rfl, fun j hj => by
              unfold va_cpy
              by_cases w : j < rl
              · rw [if_pos ⟨Nat.zero_le _, by omega⟩, if_pos w, Nat.sub_zero, Nat.zero_add]
              · rw [if_neg (fun q => w (by have := q.2; omega)), if_neg w]
                rcases (show j = 0 ∨ j = 1 ∨ j = 2 ∨ j = 3 by omega) with e | e | e | e <;> subst e <;> rfl⟩
            rw [← eA]
            skip
            refine x_aload_n C dX9_chord_157 rfl rfl ?_
            refine x_aload_n C dX9_chord_158 rfl rfl ?_
            refine x_get C f_Neck_29 ((up_n ne_nk_al).trans up_s) rfl dX9_chord_159 ?_
            refine x_aload_n C dX9_chord_162 rfl rfl ?_
            refine x_aload_n C dX9_chord_163 rfl rfl ?_
            refine x_get C f_Neck_29 ((up_n ne_nk_al).trans up_s) rfl dX9_chord_164 ?_
            refine x_alen C (t := 3) rfl ((up_n ne_ca_al).trans ((up_n (ne_kd hCa hN rfl)).trans ((K3 ca (alv_of hCa) (ne_kd hCa hN rfl)).trans hCa))) dX9_chord_167 ?_
            refine x_invS C s_Neck_83 (st := [.ref nk]) (c_N_with ((up_n ne_ca_al).trans ((up_n (ne_kd hCa hN rfl)).trans ((K3 ca (alv_of hCa) (ne_kd hCa hN rfl)).trans hCa))) ((up_n ne_rw_al).trans ((up_n (Ne.symm ne_nk_rw)).trans K2)) (by omega) (p := P.m) (Nat.le_refl _) (fun j hj => by obtain ⟨q9, a1, a2, a3⟩ := hCr j hj; exact ⟨q9, _, _, a1, ((up_n (fun e => alv_of a3 (by rw [e]; exact z0al))).trans ((up_n (a2.1)).trans ((K3 q9 (alv_of a3) a2.1).trans a3)))⟩)) rfl rfl (Nat.le_of_ble_eq_true rfl) (xRm_of hR (by omega) (by decide) (by omega) (by omega)) dX9_chord_168 (fun r9 h9 hq => ?_)
            obtain ⟨nc, c1, rfl, znc, e9, c11, c12, c13⟩ := hq
            subst e9
            have ne_oa_nc : oa ≠ nc := fun e => by rw [← e] at znc; exact alv_of ((up_n ne_oa_al).trans ((up_n (ne_kd hO hN rfl)).trans ((K3 oa (alv_of hO) (ne_kd hO hN rfl)).trans hO))) znc
            have ne_sl_nc : sl ≠ nc := fun e => by rw [← e] at znc; exact alv_of ((up_n ne_sl_al).trans ((up_n (ne_kd hS hN rfl)).trans ((K3 sl (alv_of hS) (ne_kd hS hN rfl)).trans hS))) znc
            have ne_ca_nc : ca ≠ nc := fun e => by rw [← e] at znc; exact alv_of ((up_n ne_ca_al).trans ((up_n (ne_kd hCa hN rfl)).trans ((K3 ca (alv_of hCa) (ne_kd hCa hN rfl)).trans hCa))) znc
            have ne_la_nc : la ≠ nc := fun e => by rw [← e] at znc; exact alv_of ((up_n ne_la_al).trans ((up_n (ne_kd hLa hN rfl)).trans ((K3 la (alv_of hLa) (ne_kd hLa hN rfl)).trans hLa))) znc
            have ne_fa_nc : fa ≠ nc := fun e => by rw [← e] at znc; exact alv_of ((up_n ne_fa_al).trans ((up_n (ne_kd hFa hN rfl)).trans ((K3 fa (alv_of hFa) (ne_kd hFa hN rfl)).trans hFa))) znc
            have ne_nk_nc : nk ≠ nc := fun e => by rw [← e] at znc; exact alv_of ((up_n ne_nk_al).trans up_s) znc
            have ne_rw_nc : rw ≠ nc := fun e => by rw [← e] at znc; exact alv_of ((up_n ne_rw_al).trans ((up_n (Ne.symm ne_nk_rw)).trans K2)) znc
            have ne_al_nc : al ≠ nc := fun e => by rw [← e] at znc; exact alv_of up_s znc
            have zpnc : hp nc = none := ((up_n (Ne.symm ne_nk_nc)).symm.trans ((up_n (Ne.symm ne_al_nc)).symm.trans znc))
            have z0nc : h nc = none := by
              by_cases a9 : h nc = none
              · exact a9
              · exact absurd zpnc (by rw [K3 nc a9 (Ne.symm ne_nk_nc)]; exact a9)
            have onc : ∀ i, own i → nc ≠ ad i := fun i hi e => T.al i hi (by rw [← e]; exact z0nc)
            refine x_put C p_Neck_29 ((up_n ne_nk_nc).trans ((up_n ne_nk_al).trans up_s)) (fit_arr _ _) (Nat.le_of_ble_eq_true rfl) (h1 := (va_up (va_up (va_up hp nk (xO 8 [.ref (ad 0), .ref b, vi (d + 1), .ref oa, .ref sl, vi Q.cp, vi Q.rc, .ref nc, .ref la, .ref fa, .ref fo])) al (xI G 4 A)) nc (xQ G 3 (P.m + 1) c1))) ((up_c _ _ _ (Ne.symm ne_nk_nc)).trans (congrArg (fun f => va_up f nc _) ((up_c _ _ _ (Ne.symm ne_nk_al)).trans (congrArg (fun f => va_up f al _) (up_u _ _ _ _))))) dX9_chord_171 ?_
            refine x_aload_n C dX9_chord_174 rfl rfl ?_
            refine x_aload_n C dX9_chord_175 rfl rfl ?_
            refine x_get C f_Neck_33 ((up_n ne_nk_nc).trans ((up_n ne_nk_al).trans up_s)) rfl dX9_chord_176 ?_
            refine x_iload_n C dX9_chord_179 rfl rfl ?_
            refine x_invS C s_Neck_73 (st := [.ref nk]) (c_N_plus ((up_n ne_la_nc).trans ((up_n ne_la_al).trans ((up_n (ne_kd hLa hN rfl)).trans ((K3 la (alv_of hLa) (ne_kd hLa hN rfl)).trans hLa)))) (by omega)) rfl rfl (Nat.le_of_ble_eq_true rfl) (xRm_of hR (by omega) (by decide) (by omega) (by omega)) dX9_chord_180 (fun r9 h9 hq => ?_)
            obtain ⟨nl, c2, rfl, znl, e9, c21, c22⟩ := hq
            subst e9
            have ne_oa_nl : oa ≠ nl := fun e => by rw [← e] at znl; exact alv_of ((up_n ne_oa_nc).trans ((up_n ne_oa_al).trans ((up_n (ne_kd hO hN rfl)).trans ((K3 oa (alv_of hO) (ne_kd hO hN rfl)).trans hO)))) znl
            have ne_sl_nl : sl ≠ nl := fun e => by rw [← e] at znl; exact alv_of ((up_n ne_sl_nc).trans ((up_n ne_sl_al).trans ((up_n (ne_kd hS hN rfl)).trans ((K3 sl (alv_of hS) (ne_kd hS hN rfl)).trans hS)))) znl
            have ne_ca_nl : ca ≠ nl := fun e => by rw [← e] at znl; exact alv_of ((up_n ne_ca_nc).trans ((up_n ne_ca_al).trans ((up_n (ne_kd hCa hN rfl)).trans ((K3 ca (alv_of hCa) (ne_kd hCa hN rfl)).trans hCa)))) znl
            have ne_la_nl : la ≠ nl := fun e => by rw [← e] at znl; exact alv_of ((up_n ne_la_nc).trans ((up_n ne_la_al).trans ((up_n (ne_kd hLa hN rfl)).trans ((K3 la (alv_of hLa) (ne_kd hLa hN rfl)).trans hLa)))) znl
            have ne_fa_nl : fa ≠ nl := fun e => by rw [← e] at znl; exact alv_of ((up_n ne_fa_nc).trans ((up_n ne_fa_al).trans ((up_n (ne_kd hFa hN rfl)).trans ((K3 fa (alv_of hFa) (ne_kd hFa hN rfl)).trans hFa)))) znl
            have ne_nk_nl : nk ≠ nl := fun e => by rw [← e] at znl; exact alv_of ((up_n ne_nk_nc).trans ((up_n ne_nk_al).trans up_s)) znl
            have ne_rw_nl : rw ≠ nl := fun e => by rw [← e] at znl; exact alv_of ((up_n ne_rw_nc).trans ((up_n ne_rw_al).trans ((up_n (Ne.symm ne_nk_rw)).trans K2))) znl
            have ne_al_nl : al ≠ nl := fun e => by rw [← e] at znl; exact alv_of ((up_n ne_al_nc).trans up_s) znl
            have ne_nc_nl : nc ≠ nl := fun e => by rw [← e] at znl; exact alv_of up_s znl
            have zpnl : hp nl = none := ((up_n (Ne.symm ne_nk_nl)).symm.trans ((up_n (Ne.symm ne_al_nl)).symm.trans ((up_n (Ne.symm ne_nc_nl)).symm.trans znl)))
            have z0nl : h nl = none := by
              by_cases a9 : h nl = none
              · exact a9
              · exact absurd zpnl (by rw [K3 nl a9 (Ne.symm ne_nk_nl)]; exact a9)
            have onl : ∀ i, own i → nl ≠ ad i := fun i hi e => T.al i hi (by rw [← e]; exact z0nl)
            refine x_put C p_Neck_33 ((up_n ne_nk_nl).trans ((up_n ne_nk_nc).trans ((up_n ne_nk_al).trans up_s))) (fit_arr _ _) (Nat.le_of_ble_eq_true rfl) (h1 := (va_up (va_up (va_up (va_up hp nk (xO 8 [.ref (ad 0), .ref b, vi (d + 1), .ref oa, .ref sl, vi Q.cp, vi Q.rc, .ref nc, .ref nl, .ref fa, .ref fo])) al (xI G 4 A)) nc (xQ G 3 (P.m + 1) c1)) nl (xI G (P.m + 1) c2))) ((up_c _ _ _ (Ne.symm ne_nk_nl)).trans (congrArg (fun f => va_up f nl _) ((up_c _ _ _ (Ne.symm ne_nk_nc)).trans (congrArg (fun f => va_up f nc _) ((up_c _ _ _ (Ne.symm ne_nk_al)).trans (congrArg (fun f => va_up f al _) (up_u _ _ _ _))))))) dX9_chord_183 ?_
            refine x_aload_n C dX9_chord_186 rfl rfl ?_
            refine x_aload_n C dX9_chord_187 rfl rfl ?_
            refine x_get C f_Neck_36 ((up_n ne_nk_nl).trans ((up_n ne_nk_nc).trans ((up_n ne_nk_al).trans up_s))) rfl dX9_chord_188 ?_
            refine x_iconst C dX9_chord_191 ?_
            refine x_newI C (n := 0) ⟨by omega, by omega⟩ arrayClass_int hR (by omega) (by omega) dX9_chord_192 (fun e0 ze0 => ?_)
            have ne_oa_e0 : oa ≠ e0 := fun e => by rw [← e] at ze0; exact absurd (ze0.symm.trans ((up_n ne_oa_nl).trans ((up_n ne_oa_nc).trans ((up_n ne_oa_al).trans ((up_n (ne_kd hO hN rfl)).trans ((K3 oa (alv_of hO) (ne_kd hO hN rfl)).trans hO)))))) (by intro h9; cases h9)
            have ne_sl_e0 : sl ≠ e0 := fun e => by rw [← e] at ze0; exact absurd (ze0.symm.trans ((up_n ne_sl_nl).trans ((up_n ne_sl_nc).trans ((up_n ne_sl_al).trans ((up_n (ne_kd hS hN rfl)).trans ((K3 sl (alv_of hS) (ne_kd hS hN rfl)).trans hS)))))) (by intro h9; cases h9)
            have ne_ca_e0 : ca ≠ e0 := fun e => by rw [← e] at ze0; exact absurd (ze0.symm.trans ((up_n ne_ca_nl).trans ((up_n ne_ca_nc).trans ((up_n ne_ca_al).trans ((up_n (ne_kd hCa hN rfl)).trans ((K3 ca (alv_of hCa) (ne_kd hCa hN rfl)).trans hCa)))))) (by intro h9; cases h9)
            have ne_la_e0 : la ≠ e0 := fun e => by rw [← e] at ze0; exact absurd (ze0.symm.trans ((up_n ne_la_nl).trans ((up_n ne_la_nc).trans ((up_n ne_la_al).trans ((up_n (ne_kd hLa hN rfl)).trans ((K3 la (alv_of hLa) (ne_kd hLa hN rfl)).trans hLa)))))) (by intro h9; cases h9)
            have ne_fa_e0 : fa ≠ e0 := fun e => by rw [← e] at ze0; exact absurd (ze0.symm.trans ((up_n ne_fa_nl).trans ((up_n ne_fa_nc).trans ((up_n ne_fa_al).trans ((up_n (ne_kd hFa hN rfl)).trans ((K3 fa (alv_of hFa) (ne_kd hFa hN rfl)).trans hFa)))))) (by intro h9; cases h9)
            have ne_nk_e0 : nk ≠ e0 := fun e => by rw [← e] at ze0; exact absurd (ze0.symm.trans ((up_n ne_nk_nl).trans ((up_n ne_nk_nc).trans ((up_n ne_nk_al).trans up_s)))) (by intro h9; cases h9)
            have ne_rw_e0 : rw ≠ e0 := fun e => by rw [← e] at ze0; exact absurd (ze0.symm.trans ((up_n ne_rw_nl).trans ((up_n ne_rw_nc).trans ((up_n ne_rw_al).trans ((up_n (Ne.symm ne_nk_rw)).trans K2))))) (by intro h9; cases h9)
            have ne_al_e0 : al ≠ e0 := fun e => by rw [← e] at ze0; exact absurd (ze0.symm.trans ((up_n ne_al_nl).trans ((up_n ne_al_nc).trans up_s))) (by intro h9; cases h9)
            have ne_nc_e0 : nc ≠ e0 := fun e => by rw [← e] at ze0; exact absurd (ze0.symm.trans ((up_n ne_nc_nl).trans up_s)) (by intro h9; cases h9)
            have ne_nl_e0 : nl ≠ e0 := fun e => by rw [← e] at ze0; exact absurd (ze0.symm.trans up_s) (by intro h9; cases h9)
            have zpe0 : hp e0 = none := ((up_n (Ne.symm ne_nk_e0)).symm.trans ((up_n (Ne.symm ne_al_e0)).symm.trans ((up_n (Ne.symm ne_nc_e0)).symm.trans ((up_n (Ne.symm ne_nl_e0)).symm.trans ze0))))
            have z0e0 : h e0 = none := by
              by_cases a9 : h e0 = none
              · exact a9
              · exact absurd zpe0 (by rw [K3 e0 a9 (Ne.symm ne_nk_e0)]; exact a9)
            have oe0 : ∀ i, own i → e0 ≠ ad i := fun i hi e => T.al i hi (by rw [← e]; exact z0e0)
            refine x_aload_n C dX9_chord_194 rfl rfl ?_
            refine x_get C f_Neck_36 ((up_n ne_nk_e0).trans ((up_n ne_nk_nl).trans ((up_n ne_nk_nc).trans ((up_n ne_nk_al).trans up_s)))) rfl dX9_chord_195 ?_
            refine x_alen C (t := 3) rfl ((up_n ne_fa_e0).trans ((up_n ne_fa_nl).trans ((up_n ne_fa_nc).trans ((up_n ne_fa_al).trans ((up_n (ne_kd hFa hN rfl)).trans ((K3 fa (alv_of hFa) (ne_kd hFa hN rfl)).trans hFa)))))) dX9_chord_198 ?_
            refine x_invS C s_Neck_83 (st := [.ref nk]) (c_N_with ((up_n ne_fa_e0).trans ((up_n ne_fa_nl).trans ((up_n ne_fa_nc).trans ((up_n ne_fa_al).trans ((up_n (ne_kd hFa hN rfl)).trans ((K3 fa (alv_of hFa) (ne_kd hFa hN rfl)).trans hFa)))))) up_s (by omega) (p := P.m) (Nat.le_refl _) (fun j hj => by obtain ⟨q9, n9, u9, a1, a2, a3, -⟩ := hFr j hj; exact ⟨q9, _, _, a1, ((up_n (fun e => alv_of a3 (by rw [e]; exact z0e0))).trans ((up_n (fun e => alv_of a3 (by rw [e]; exact z0nl))).trans ((up_n (fun e => alv_of a3 (by rw [e]; exact z0nc))).trans ((up_n (fun e => alv_of a3 (by rw [e]; exact z0al))).trans ((up_n (a2.1)).trans ((K3 q9 (alv_of a3) a2.1).trans a3))))))⟩)) rfl rfl (Nat.le_of_ble_eq_true rfl) (xRm_of hR (by omega) (by decide) (by omega) (by omega)) dX9_chord_199 (fun r9 h9 hq => ?_)
            obtain ⟨nf, c3, rfl, znf, e9, c31, c32, c33⟩ := hq
            subst e9
            have ne_oa_nf : oa ≠ nf := fun e => by rw [← e] at znf; exact alv_of ((up_n ne_oa_e0).trans ((up_n ne_oa_nl).trans ((up_n ne_oa_nc).trans ((up_n ne_oa_al).trans ((up_n (ne_kd hO hN rfl)).trans ((K3 oa (alv_of hO) (ne_kd hO hN rfl)).trans hO)))))) znf
            have ne_sl_nf : sl ≠ nf := fun e => by rw [← e] at znf; exact alv_of ((up_n ne_sl_e0).trans ((up_n ne_sl_nl).trans ((up_n ne_sl_nc).trans ((up_n ne_sl_al).trans ((up_n (ne_kd hS hN rfl)).trans ((K3 sl (alv_of hS) (ne_kd hS hN rfl)).trans hS)))))) znf
            have ne_ca_nf : ca ≠ nf := fun e => by rw [← e] at znf; exact alv_of ((up_n ne_ca_e0).trans ((up_n ne_ca_nl).trans ((up_n ne_ca_nc).trans ((up_n ne_ca_al).trans ((up_n (ne_kd hCa hN rfl)).trans ((K3 ca (alv_of hCa) (ne_kd hCa hN rfl)).trans hCa)))))) znf
            have ne_la_nf : la ≠ nf := fun e => by rw [← e] at znf; exact alv_of ((up_n ne_la_e0).trans ((up_n ne_la_nl).trans ((up_n ne_la_nc).trans ((up_n ne_la_al).trans ((up_n (ne_kd hLa hN rfl)).trans ((K3 la (alv_of hLa) (ne_kd hLa hN rfl)).trans hLa)))))) znf
            have ne_fa_nf : fa ≠ nf := fun e => by rw [← e] at znf; exact alv_of ((up_n ne_fa_e0).trans ((up_n ne_fa_nl).trans ((up_n ne_fa_nc).trans ((up_n ne_fa_al).trans ((up_n (ne_kd hFa hN rfl)).trans ((K3 fa (alv_of hFa) (ne_kd hFa hN rfl)).trans hFa)))))) znf
            have ne_nk_nf : nk ≠ nf := fun e => by rw [← e] at znf; exact alv_of ((up_n ne_nk_e0).trans ((up_n ne_nk_nl).trans ((up_n ne_nk_nc).trans ((up_n ne_nk_al).trans up_s)))) znf
            have ne_rw_nf : rw ≠ nf := fun e => by rw [← e] at znf; exact alv_of ((up_n ne_rw_e0).trans ((up_n ne_rw_nl).trans ((up_n ne_rw_nc).trans ((up_n ne_rw_al).trans ((up_n (Ne.symm ne_nk_rw)).trans K2))))) znf
            have ne_al_nf : al ≠ nf := fun e => by rw [← e] at znf; exact alv_of ((up_n ne_al_e0).trans ((up_n ne_al_nl).trans ((up_n ne_al_nc).trans up_s))) znf
            have ne_nc_nf : nc ≠ nf := fun e => by rw [← e] at znf; exact alv_of ((up_n ne_nc_e0).trans ((up_n ne_nc_nl).trans up_s)) znf
            have ne_nl_nf : nl ≠ nf := fun e => by rw [← e] at znf; exact alv_of ((up_n ne_nl_e0).trans up_s) znf
            have ne_e0_nf : e0 ≠ nf := fun e => by rw [← e] at znf; exact alv_of up_s znf
            have zpnf : hp nf = none := ((up_n (Ne.symm ne_nk_nf)).symm.trans ((up_n (Ne.symm ne_al_nf)).symm.trans ((up_n (Ne.symm ne_nc_nf)).symm.trans ((up_n (Ne.symm ne_nl_nf)).symm.trans ((up_n (Ne.symm ne_e0_nf)).symm.trans znf)))))
            have z0nf : h nf = none := by
              by_cases a9 : h nf = none
              · exact a9
              · exact absurd zpnf (by rw [K3 nf a9 (Ne.symm ne_nk_nf)]; exact a9)
            have onf : ∀ i, own i → nf ≠ ad i := fun i hi e => T.al i hi (by rw [← e]; exact z0nf)
            refine x_put C p_Neck_36 ((up_n ne_nk_nf).trans ((up_n ne_nk_e0).trans ((up_n ne_nk_nl).trans ((up_n ne_nk_nc).trans ((up_n ne_nk_al).trans up_s))))) (fit_arr _ _) (Nat.le_of_ble_eq_true rfl) (h1 := (va_up (va_up (va_up (va_up (va_up (va_up hp nk (xO 8 [.ref (ad 0), .ref b, vi (d + 1), .ref oa, .ref sl, vi Q.cp, vi Q.rc, .ref nc, .ref nl, .ref nf, .ref fo])) al (xI G 4 A)) nc (xQ G 3 (P.m + 1) c1)) nl (xI G (P.m + 1) c2)) e0 (xI G 0 (fun _ => 0))) nf (xQ G 3 (P.m + 1) c3))) ((up_c _ _ _ (Ne.symm ne_nk_nf)).trans (congrArg (fun f => va_up f nf _) ((up_c _ _ _ (Ne.symm ne_nk_e0)).trans (congrArg (fun f => va_up f e0 _) ((up_c _ _ _ (Ne.symm ne_nk_nl)).trans (congrArg (fun f => va_up f nl _) ((up_c _ _ _ (Ne.symm ne_nk_nc)).trans (congrArg (fun f => va_up f nc _) ((up_c _ _ _ (Ne.symm ne_nk_al)).trans (congrArg (fun f => va_up f al _) (up_u _ _ _ _))))))))))) dX9_chord_202 ?_
            refine x_aload_n C dX9_chord_205 rfl rfl ?_
            refine x_get C f_Neck_10 ((up_n ne_nk_nf).trans ((up_n ne_nk_e0).trans ((up_n ne_nk_nl).trans ((up_n ne_nk_nc).trans ((up_n ne_nk_al).trans up_s))))) rfl dX9_chord_206 ?_
            refine x_aload C dX9_chord_209 rfl ?_
            refine x_iconst C dX9_chord_211 ?_
            refine x_iald C ((up_n ne_al_nf).trans ((up_n ne_al_e0).trans ((up_n ne_al_nl).trans ((up_n ne_al_nc).trans up_s)))) ⟨by omega, by omega, by omega⟩ (v := (A 0)) rfl dX9_chord_212 ?_
            refine x_aload C dX9_chord_213 rfl ?_
            refine x_iconst C dX9_chord_215 ?_
            refine x_iald C ((up_n ne_al_nf).trans ((up_n ne_al_e0).trans ((up_n ne_al_nl).trans ((up_n ne_al_nc).trans up_s)))) ⟨by omega, by omega, by omega⟩ (v := (A 1)) rfl dX9_chord_216 ?_
            refine x_aload C dX9_chord_217 rfl ?_
            refine x_iconst C dX9_chord_219 ?_
            refine x_iald C ((up_n ne_al_nf).trans ((up_n ne_al_e0).trans ((up_n ne_al_nl).trans ((up_n ne_al_nc).trans up_s)))) ⟨by omega, by omega, by omega⟩ (v := (A 2)) rfl dX9_chord_220 ?_
            refine x_aload C dX9_chord_221 rfl ?_
            refine x_iconst C dX9_chord_223 ?_
            refine x_iald C ((up_n ne_al_nf).trans ((up_n ne_al_e0).trans ((up_n ne_al_nl).trans ((up_n ne_al_nc).trans up_s)))) ⟨by omega, by omega, by omega⟩ (v := (A 3)) rfl dX9_chord_224 ?_
            refine x_iload_n C dX9_chord_225 rfl rfl ?_
            obtain ⟨hX1, hX2⟩ := addP_row i3b (by omega) hA i4 (P.pt P.m)
            obtain ⟨XX, eXX⟩ : ∃ XX, XX = (addP (A 3) (addP (A 2) (addP (A 1) (addP (A 0) ((0, P.pt P.m) : Nat × (Nat → Int)))))) := ⟨_, rfl⟩
            rw [← eXX] at hX1 hX2
            refine X.aeq (a := rw) (g' := XX.2) ((up_n ne_rw_nf).trans ((up_n ne_rw_e0).trans ((up_n ne_rw_nl).trans ((up_n ne_rw_nc).trans ((up_n ne_rw_al).trans ((up_n (Ne.symm ne_nk_rw)).trans K2)))))) hX2 ?_
            have hAb : ∀ j, j < 4 → -1 ≤ A j ∧ A j ≤ 80 := fun j hj => by rw [hA j hj]; split; (have := i4 j (by assumption); omega); omega
            have hA0 : 0 ≤ A 0 := by rw [hA 0 (by omega), if_pos (by omega)]; exact (i4 0 (by omega)).1
            have hTp : ∀ i, own i → hp (ad i) = h (ad i) := fun i hi => K3 _ (T.al i hi) (Ne.symm (av0 i hi))
            have T2 := T.kept (h1 := (va_up (va_up (va_up (va_up (va_up (va_up (va_up hp nk (xO 8 [.ref (ad 0), .ref b, vi (d + 1), .ref oa, .ref sl, vi Q.cp, vi Q.rc, .ref nc, .ref nl, .ref nf, .ref fo])) al (xI G 4 A)) nc (xQ G 3 (P.m + 1) c1)) nl (xI G (P.m + 1) c2)) e0 (xI G 0 (fun _ => 0))) nf (xQ G 3 (P.m + 1) c3)) rw (xI G rl XX.2))) (fun i hi => ((up_n (Ne.symm (orw i hi))).trans ((up_n (Ne.symm (onf i hi))).trans ((up_n (Ne.symm (oe0 i hi))).trans ((up_n (Ne.symm (onl i hi))).trans ((up_n (Ne.symm (onc i hi))).trans ((up_n (Ne.symm (oal i hi))).trans ((up_n (Ne.symm (av0 i hi))).trans (hTp i hi)))))))))
            refine x_invV C s_Neck_87 (st := []) (c_chord hj T2 (a := A 0) (b := A 1) (c := A 2) (d := A 3) (l := 1 + (y2 : Int)) ⟨hA0, (hAb 0 (by omega)).2⟩ (hAb 1 (by omega)) (hAb 2 (by omega)) (hAb 3 (by omega)) (tw_no i3b hA i4 i5) ⟨by omega, by omega⟩ hpm) (TabR.o T2).choose_spec rfl rfl (Nat.le_of_ble_eq_true rfl) (xRm_of hR (by omega) (by decide) (by omega) (by omega)) dX9_chord_226 (fun r9 h92 hq => ?_)
            obtain ⟨rfl, T2b, p2⟩ := hq
            rw [← eXX] at T2b
            refine x_aload_n C dX9_chord_229 rfl rfl ?_
            refine x_get C f_Neck_29 ((p2 nk av0).trans ((up_n ne_nk_rw).trans ((up_n ne_nk_nf).trans ((up_n ne_nk_e0).trans ((up_n ne_nk_nl).trans ((up_n ne_nk_nc).trans ((up_n ne_nk_al).trans up_s))))))) rfl dX9_chord_230 ?_
            refine x_alen C (t := 3) rfl ((p2 nc onc).trans ((up_n (Ne.symm ne_rw_nc)).trans ((up_n ne_nc_nf).trans ((up_n ne_nc_e0).trans ((up_n ne_nc_nl).trans up_s))))) dX9_chord_233 ?_
            refine x_iconst C dX9_chord_234 ?_
            refine x_isub C dX9_chord_235 ?_
            refine x_icmp_ne C (tgt := 243) dX9_chord_236 (by decide) ⟨by omega, by omega⟩ ⟨by omega, by omega⟩ (fun c236 => ?_) (fun c236 => ?_)
            · skip
              exfalso; omega
            · skip
              refine x_iconst C dX9_chord_239 ?_
              refine x_goto C (tgt := 244) dX9_chord_240 (by decide) ?_
              have kS : KpS (EX ad nk oa sl) h h92 := fun x ax sx => (p2 x sx.2.2.2).trans ((up_n (fun e => ax (by rw [e]; exact z0rw))).trans ((up_n (fun e => ax (by rw [e]; exact z0nf))).trans ((up_n (fun e => ax (by rw [e]; exact z0e0))).trans ((up_n (fun e => ax (by rw [e]; exact z0nl))).trans ((up_n (fun e => ax (by rw [e]; exact z0nc))).trans ((up_n (fun e => ax (by rw [e]; exact z0al))).trans ((up_n (sx.1)).trans (K3 x ax sx.1))))))))
              exact x_zret C E rfl (by omega) (by omega) (z := true) dX9_chord_244 (⟨rfl, Q, _, _, T2b, ⟨oa, nc, nl, nf, fo, _, ((p2 nk av0).trans ((up_n ne_nk_rw).trans ((up_n ne_nk_nf).trans ((up_n ne_nk_e0).trans ((up_n ne_nk_nl).trans ((up_n ne_nk_nc).trans ((up_n ne_nk_al).trans up_s))))))), ((p2 oa av1).trans ((up_n ne_oa_rw).trans ((up_n ne_oa_nf).trans ((up_n ne_oa_e0).trans ((up_n ne_oa_nl).trans ((up_n ne_oa_nc).trans ((up_n ne_oa_al).trans ((up_n (ne_kd hO hN rfl)).trans ((K3 oa (alv_of hO) (ne_kd hO hN rfl)).trans hO))))))))), ((p2 sl av2).trans ((up_n ne_sl_rw).trans ((up_n ne_sl_nf).trans ((up_n ne_sl_e0).trans ((up_n ne_sl_nl).trans ((up_n ne_sl_nc).trans ((up_n ne_sl_al).trans ((up_n (ne_kd hS hN rfl)).trans ((K3 sl (alv_of hS) (ne_kd hS hN rfl)).trans hS))))))))), hSv, ⟨_, ((p2 nc onc).trans ((up_n (Ne.symm ne_rw_nc)).trans ((up_n ne_nc_nf).trans ((up_n ne_nc_e0).trans ((up_n ne_nc_nl).trans up_s))))), fun c9 hc9 => by
                  by_cases w : c9 = P.m
                  · rw [w]
                    refine ⟨rw, c12, ⟨Ne.symm ne_nk_rw, Ne.symm ne_oa_rw, Ne.symm ne_sl_rw, orw⟩, ?_⟩
                    show h92 rw = xI G (va_up P.si P.m XX.1 P.m) (va_up P.pt P.m XX.2 P.m)
                    rw [up_s, up_s, hX1]
                    exact ((p2 rw orw).trans up_s)
                  · have hc8 : c9 < P.m := by have : c9 < P.m + 1 := hc9; omega
                    obtain ⟨q9, a1, a2, a3⟩ := hCr c9 hc8
                    refine ⟨q9, (c11 c9 hc8).trans a1, a2, ?_⟩
                    show h92 q9 = xI G (va_up P.si P.m XX.1 c9) (va_up P.pt P.m XX.2 c9)
                    rw [up_n w, up_n w]
                    exact (kS q9 (alv_of a3) a2).trans a3⟩, ((p2 nl onl).trans ((up_n (Ne.symm ne_rw_nl)).trans ((up_n ne_nl_nf).trans ((up_n ne_nl_e0).trans up_s)))), ⟨_, ((p2 nf onf).trans ((up_n (Ne.symm ne_rw_nf)).trans up_s)), fun c9 hc9 => by
                  by_cases w : c9 = P.m
                  · rw [w]
                    exact ⟨e0, _, _, c32, ⟨Ne.symm ne_nk_e0, Ne.symm ne_oa_e0, Ne.symm ne_sl_e0, oe0⟩, ((p2 e0 oe0).trans ((up_n (Ne.symm ne_rw_e0)).trans ((up_n ne_e0_nf).trans up_s))), by decide, fun _ => up_s⟩
                  · have hc8 : c9 < P.m := by have : c9 < P.m + 1 := hc9; omega
                    obtain ⟨q9, n9, u9, a1, a2, a3, a4⟩ := hFr c9 hc8
                    exact ⟨q9, n9, u9, (c31 c9 hc8).trans a1, a2, (kS q9 (alv_of a3) a2).trans a3, a4.1, fun z9 => (up_n w).trans (a4.2 z9)⟩⟩, ⟨av0, av1, av2, onc, onl, onf, av6, ne_sl_nl, ne_oa_nl, ne_nc_nf⟩, ⟨by omega, by omega⟩, (fun c9 hc9 => by
                  by_cases w : c9 = P.m
                  · rw [w]
                    show 1 ≤ va_up P.si P.m XX.1 P.m ∧ ∀ j k, j < va_up P.si P.m XX.1 P.m → k < va_up P.si P.m XX.1 P.m → va_up P.pt P.m XX.2 P.m j = va_up P.pt P.m XX.2 P.m k → j = k
                    rw [up_s, up_s, hX1]
                    exact ⟨i3b, fun j k hj hk e => i5 j k hj hk (by rw [hX2 j hj, hX2 k hk]; exact e)⟩
                  · have hc8 : c9 < P.m := by have : c9 < P.m + 1 := hc9; omega
                    show 1 ≤ va_up P.si P.m XX.1 c9 ∧ ∀ j k, j < va_up P.si P.m XX.1 c9 → k < va_up P.si P.m XX.1 c9 → va_up P.pt P.m XX.2 c9 j = va_up P.pt P.m XX.2 c9 k → j = k
                    rw [up_n w, up_n w]
                    exact hV c9 hc8)⟩, rfl, rfl, by omega⟩)
          · skip
            refine x_bipush C (z := 80) dX9_chord_39 (by decide) ?_
            refine x_aload_n C dX9_chord_41 rfl rfl ?_
            refine x_get C f_Neck_16 K1 rfl dX9_chord_42 ?_
            refine x_aload_n C dX9_chord_45 rfl rfl ?_
            refine x_aload_n C dX9_chord_46 rfl rfl ?_
            refine x_get C f_Neck_16 K1 rfl dX9_chord_47 ?_
            refine x_alen C (t := 0) rfl ((K3 oa (alv_of hO) (ne_kd hO hN rfl)).trans hO) dX9_chord_50 ?_
            refine x_invVX C (Sc := (b, L, xs)) hX hbl hL s_Neck_64 (st := [.ref oa, vi 80]) (c_N_draw K1 ⟨by omega, by omega⟩ (n := (Q.n : Int)) (⟨by omega, by omega⟩)) K1 rfl rfl (Nat.le_of_ble_eq_true rfl) (xRm_of hR (by omega) (by decide) (by omega) (by omega)) dX9_chord_51 (fun r9 h9 hq => ?_)
            obtain ⟨s, rfl, hs, e9⟩ := hq
            subst e9
            have hop := IV1.2.1 s (by omega)
            refine x_iald C ((up_n (ne_kd hO hN rfl)).trans ((K3 oa (alv_of hO) (ne_kd hO hN rfl)).trans hO)) ⟨by omega, by omega, by omega⟩ (v := (Q.op s)) rfl dX9_chord_54 ?_
            refine x_aload_n C dX9_chord_55 rfl rfl ?_
            refine x_get C f_Neck_80 up_s rfl dX9_chord_56 ?_
            refine x_iadd C dX9_chord_59 ?_
            refine x_aload_n C dX9_chord_60 rfl rfl ?_
            refine x_bipush C (z := 8) dX9_chord_61 (by decide) ?_
            refine x_invVX C (Sc := (b, L, xs)) hX hbl hL s_Neck_64 (st := [vi ((Q.op s) + Q.cp), vi 80]) (c_N_draw up_s ⟨by omega, by omega⟩ (n := 8) ((by decide))) up_s rfl rfl (Nat.le_of_ble_eq_true rfl) (xRm_of hR (by omega) (by decide) (by omega) (by omega)) dX9_chord_63 (fun r9 h9 hq => ?_)
            obtain ⟨y, rfl, hy, e9⟩ := hq
            subst e9
            refine X.heq (h1 := (va_up hp nk (xO 8 [.ref (ad 0), .ref b, vi ((d + 1) + 1), .ref oa, .ref sl, vi Q.cp, vi Q.rc, .ref ca, .ref la, .ref fa, .ref fo]))) (up_u _ _ _ _) ?_
            refine x_iadd C dX9_chord_66 ?_
            refine x_min C s_Neck_68 static_Math_min i_Math code_Math_min (by decide) ⟨by omega, by omega⟩ (Nat.le_of_ble_eq_true rfl) hR (by omega) (by omega) (by omega) dX9_chord_67 ?_
            obtain ⟨v0, ev0⟩ : ∃ v0 : Int, v0 = (if (((Q.op s) + Q.cp) + (y : Int)) < 80 then (((Q.op s) + Q.cp) + (y : Int)) else 80) := ⟨_, rfl⟩
            have hv0 : 0 ≤ v0 ∧ v0 ≤ 80 := by rw [ev0]; split <;> omega
            skip
            refine x_re (b := v0) (ev0.symm) ?_
            refine x_istore C (ls' := [some (.ref nk), some (.ref rw), some (vi (1 + (z : Int))), some (vi (k : Int)), some (vi v0), none]) dX9_chord_70 (by decide) rfl ?_
            refine x_iconst C dX9_chord_72 ?_
            refine x_istore C (ls' := [some (.ref nk), some (.ref rw), some (vi (1 + (z : Int))), some (vi (k : Int)), some (vi v0), some (vi 0)]) dX9_chord_73 (by decide) rfl ?_
            have L75 : ∀ (n0 : Nat) (o : Nat) (it : Int), rl - o < n0 → (o ≤ rl) → ((it = -1 ∧ 0 < rl) ∨ (it = v0 ∧ ∀ j, j < o → u j ≠ v0)) → (-1 ≤ it ∧ it ≤ 80) → X G K 6 75 [some (.ref nk), some (.ref rw), some (vi (1 + (z : Int))), some (vi (k : Int)), some (vi it), some (vi (o : Int))] [] (va_up hp nk (xO 8 [.ref (ad 0), .ref b, vi ((d + 1) + 1), .ref oa, .ref sl, vi Q.cp, vi Q.rc, .ref ca, .ref la, .ref fa, .ref fo])) cc ss := by
              intro n0
              induction n0 with
              | zero => intro o it hm; exact absurd hm (Nat.not_lt_zero _)
              | succ n0 ih_L75 =>
                intro o it hm j1 j2 j3
                refine x_iload C dX9_chord_75 rfl ?_
                refine x_aload_n C dX9_chord_77 rfl rfl ?_
                refine x_alen C (t := 0) rfl ((up_n (Ne.symm ne_nk_rw)).trans K2) dX9_chord_78 ?_
                refine x_icmp_ge C (tgt := 100) dX9_chord_79 (by decide) ⟨by omega, by omega⟩ ⟨by omega, by omega⟩ (fun c79 => ?_) (fun c79 => ?_)
                · skip
                  refine x_iload C dX9_chord_100 rfl ?_
                  refine x_if_lt C (tgt := 112) dX9_chord_102 (by decide) ⟨by omega, by omega⟩ (fun c102 => ?_) (fun c102 => ?_)
                  · skip
                    refine x_iinc C (ls' := [some (.ref nk), some (.ref rw), some (vi (1 + (z : Int))), some (vi ((k : Int) + 1)), some (vi it), some (vi (o : Int))]) dX9_chord_112 rfl (by decide) (z1 := ((k : Int) + 1)) rfl rfl ?_
                    refine x_goto C (tgt := 34) dX9_chord_115 (by decide) ?_
                    refine X.sub (ls' := [some (.ref nk), some (.ref rw), some (vi (1 + (z : Int))), some (vi ((k : Int) + 1)), none, none]) (sub_cons (Or.inr rfl) (sub_cons (Or.inr rfl) (sub_cons (Or.inr rfl) (sub_cons (Or.inr rfl) (sub_cons (Or.inl rfl) (sub_cons (Or.inl rfl) sub_nil)))))) ?_
                    exact ih_L34 (k + 1) rw _ _ _ (va_up hp nk (xO 8 [.ref (ad 0), .ref b, vi ((d + 1) + 1), .ref oa, .ref sl, vi Q.cp, vi Q.rc, .ref ca, .ref la, .ref fa, .ref fo])) _ _ (by omega) (by omega) (⟨by omega, by omega⟩) (⟨by omega, fun _ => by rcases j2 with w | w; exact w.2; exfalso; have := w.1; omega⟩) (i4) (i5) (z0rw) (up_s) (((up_n (Ne.symm ne_nk_rw)).trans K2)) (fun x ax n => ((up_n (n)).trans (K3 x ax n))) (⟨by omega, by omega⟩)
                  · skip
                    refine x_aload_n C dX9_chord_105 rfl rfl ?_
                    refine x_iload C dX9_chord_106 rfl ?_
                    refine x_invS C s_Neck_73 (st := []) (c_N_plus ((up_n (Ne.symm ne_nk_rw)).trans K2) (by omega)) rfl rfl (Nat.le_of_ble_eq_true rfl) (xRm_of hR (by omega) (by decide) (by omega) (by omega)) dX9_chord_108 (fun r9 h9 hq => ?_)
                    obtain ⟨q, c, rfl, zq, e9, c1, c2⟩ := hq
                    subst e9
                    have ne_oa_q : oa ≠ q := fun e => by rw [← e] at zq; exact alv_of ((up_n (ne_kd hO hN rfl)).trans ((K3 oa (alv_of hO) (ne_kd hO hN rfl)).trans hO)) zq
                    have ne_sl_q : sl ≠ q := fun e => by rw [← e] at zq; exact alv_of ((up_n (ne_kd hS hN rfl)).trans ((K3 sl (alv_of hS) (ne_kd hS hN rfl)).trans hS)) zq
                    have ne_ca_q : ca ≠ q := fun e => by rw [← e] at zq; exact alv_of ((up_n (ne_kd hCa hN rfl)).trans ((K3 ca (alv_of hCa) (ne_kd hCa hN rfl)).trans hCa)) zq
                    have ne_la_q : la ≠ q := fun e => by rw [← e] at zq; exact alv_of ((up_n (ne_kd hLa hN rfl)).trans ((K3 la (alv_of hLa) (ne_kd hLa hN rfl)).trans hLa)) zq
                    have ne_fa_q : fa ≠ q := fun e => by rw [← e] at zq; exact alv_of ((up_n (ne_kd hFa hN rfl)).trans ((K3 fa (alv_of hFa) (ne_kd hFa hN rfl)).trans hFa)) zq
                    have ne_nk_q : nk ≠ q := fun e => by rw [← e] at zq; exact alv_of up_s zq
                    have ne_rw_q : rw ≠ q := fun e => by rw [← e] at zq; exact alv_of ((up_n (Ne.symm ne_nk_rw)).trans K2) zq
                    have zpq : hp q = none := ((up_n (Ne.symm ne_nk_q)).symm.trans zq)
                    have z0q : h q = none := by
                      by_cases a9 : h q = none
                      · exact a9
                      · exact absurd zpq (by rw [K3 q a9 (Ne.symm ne_nk_q)]; exact a9)
                    have oq : ∀ i, own i → q ≠ ad i := fun i hi e => T.al i hi (by rw [← e]; exact z0q)
                    refine x_astore_n C (ls' := [some (.ref nk), some (.ref q), some (vi (1 + (z : Int))), some (vi (k : Int)), some (vi it), some (vi (o : Int))]) dX9_chord_111 rfl (by decide) rfl ?_
                    refine x_iinc C (ls' := [some (.ref nk), some (.ref q), some (vi (1 + (z : Int))), some (vi ((k : Int) + 1)), some (vi it), some (vi (o : Int))]) dX9_chord_112 rfl (by decide) (z1 := ((k : Int) + 1)) rfl rfl ?_
                    refine x_goto C (tgt := 34) dX9_chord_115 (by decide) ?_
                    refine X.sub (ls' := [some (.ref nk), some (.ref q), some (vi (1 + (z : Int))), some (vi ((k : Int) + 1)), none, none]) (sub_cons (Or.inr rfl) (sub_cons (Or.inr rfl) (sub_cons (Or.inr rfl) (sub_cons (Or.inr rfl) (sub_cons (Or.inl rfl) (sub_cons (Or.inl rfl) sub_nil)))))) ?_
                    exact ih_L34 (k + 1) q _ _ _ (va_up (va_up hp nk (xO 8 [.ref (ad 0), .ref b, vi ((d + 1) + 1), .ref oa, .ref sl, vi Q.cp, vi Q.rc, .ref ca, .ref la, .ref fa, .ref fo])) q (xI G (rl + 1) c)) _ _ (by omega) (by omega) (⟨by omega, by omega⟩) (⟨by omega, fun _ => by omega⟩) (fun j hj => by by_cases w : j = rl; (rw [w, c2]; omega); (rw [c1 j (by omega)]; exact i4 j (by omega))) (fun i j hi hj e => by
                        have nw : ∀ i, i < rl → u i ≠ it := fun i hi e => by rcases j2 with w | w; (have := w.1; omega); exact w.2 i (by omega) (e.trans w.1)
                        by_cases w : i = rl
                        · by_cases v : j = rl
                          · omega
                          · rw [w, c2, c1 j (by omega)] at e; exact absurd e.symm (nw j (by omega))
                        · by_cases v : j = rl
                          · rw [v, c2, c1 i (by omega)] at e; exact absurd e (nw i (by omega))
                          · rw [c1 i (by omega), c1 j (by omega)] at e; exact i5 i j (by omega) (by omega) e) (z0q) (((up_n ne_nk_q).trans up_s)) (up_s) (fun x ax n => ((up_n (fun e => ax (by rw [e]; exact z0q))).trans ((up_n (n)).trans (K3 x ax n)))) (⟨by omega, by omega⟩)
                · skip
                  refine x_aload_n C dX9_chord_82 rfl rfl ?_
                  refine x_iload C dX9_chord_83 rfl ?_
                  refine x_iald C ((up_n (Ne.symm ne_nk_rw)).trans K2) ⟨by omega, by omega, by omega⟩ (v := (u o)) rfl dX9_chord_85 ?_
                  refine x_iload C dX9_chord_86 rfl ?_
                  refine x_icmp_ne C (tgt := 94) dX9_chord_88 (by decide) (by have := i4 o (by omega); exact ⟨by omega, by omega⟩) ⟨by omega, by omega⟩ (fun c88 => ?_) (fun c88 => ?_)
                  · skip
                    refine x_iinc C (ls' := [some (.ref nk), some (.ref rw), some (vi (1 + (z : Int))), some (vi (k : Int)), some (vi it), some (vi ((o : Int) + 1))]) dX9_chord_94 rfl (by decide) (z1 := ((o : Int) + 1)) rfl rfl ?_
                    refine x_goto C (tgt := 75) dX9_chord_97 (by decide) ?_
                    exact ih_L75 (o + 1) it (by omega) (by omega) (by rcases j2 with w | w; exact Or.inl w; exact Or.inr ⟨w.1, fun j hj e => by by_cases f : j = o; (rw [f] at e; exact c88 (e.trans w.1.symm)); exact w.2 j (by omega) e⟩) (j3)
                  · skip
                    refine x_iconst C dX9_chord_91 ?_
                    refine x_istore C (ls' := [some (.ref nk), some (.ref rw), some (vi (1 + (z : Int))), some (vi (k : Int)), some (vi (-1)), some (vi (o : Int))]) dX9_chord_92 (by decide) rfl ?_
                    refine x_iinc C (ls' := [some (.ref nk), some (.ref rw), some (vi (1 + (z : Int))), some (vi (k : Int)), some (vi (-1)), some (vi ((o : Int) + 1))]) dX9_chord_94 rfl (by decide) (z1 := ((o : Int) + 1)) rfl rfl ?_
                    refine x_goto C (tgt := 75) dX9_chord_97 (by decide) ?_
                    exact ih_L75 (o + 1) (-1) (by omega) (by omega) (Or.inl ⟨rfl, by omega⟩) (⟨by omega, by omega⟩)
            exact L75 _ 0 v0 (Nat.lt_succ_self _) (Nat.zero_le _) (Or.inr ⟨rfl, fun j hj => absurd hj (Nat.not_lt_zero _)⟩) (⟨by omega, by omega⟩)
      exact L34 _ 0 r0 _ _ _ (va_up (va_up h r0 (xI G 0 (fun _ => 0))) nk (xO 8 [.ref (ad 0), .ref b, vi (dr + 1), .ref oa, .ref sl, vi Q.cp, vi Q.rc, .ref ca, .ref la, .ref fa, .ref fo])) _ _ (Nat.lt_succ_self _) (by omega) (⟨by omega, by omega⟩) (⟨Nat.le_refl _, fun q => absurd q (Nat.lt_irrefl _)⟩) (fun j hj => absurd hj (Nat.not_lt_zero _)) (fun i j hi => absurd hi (Nat.not_lt_zero _)) (z0r0) (up_s) (((up_n (Ne.symm ne_nk_r0)).trans up_s)) (fun x ax n => ((up_n (n)).trans ((up_n (fun e => ax (by rw [e]; exact z0r0))).trans rfl))) (⟨by omega, by omega⟩)
    · skip
      exfalso; omega
