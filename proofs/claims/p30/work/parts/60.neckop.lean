/-! Neck: what it does to the class's object. -/
/-- some state of n strings and m chords -/
def NP (G : xG) (h : PH) (ad : Nat → Nat) (nk b sl n m : Nat) (d0 : Int) : Prop := ∃ (Q : Ins) (P : Pie) (d : Int), TabR G h ad false Q P ∧ NkR G h ad nk b sl d Q P ∧ Q.n = n ∧ P.m = m ∧ d ≤ d0
theorem cut6 (x : Int) : 0 ≤ (if 0 < (if x < 60 then x else 60) then (if x < 60 then x else 60) else 0) ∧ (if 0 < (if x < 60 then x else 60) then (if x < 60 then x else 60) else 0) ≤ 60 := by
  by_cases w : x < 60
  · simp only [if_pos w]
    split <;> omega
  · simp only [if_neg w]
    decide

set_option maxRecDepth 100000 in
set_option maxHeartbeats 4000000 in
theorem c_N_string {G : xG} {h : PH} {ad : Nat → Nat} {nk b L sl : Nat} {dr : Int} {xs : Nat → Int32} {fq : Bool} {Q : Ins} {P : Pie} (hj : ∀ i j, i < 300 → j < 300 → ad i = ad j → i = j) (T : TabR G h ad fq Q P) (NN : NkR G h ad nk b sl dr Q P) (hdr : dr < 90000) (hm : P.m = 0) (hn : Q.n < 6) : Sn G (b, L, xs) m_Neck_string 3 1 7 [.ref nk] h (fun r h' => r = some (vi (b2i true)) ∧ NP G h' ad nk b sl (Q.n + 1) 0 (dr + 1)) := by
  refine Sn_of (by decide) (Nat.le_of_ble_eq_true rfl) (fun K C hR E hX hbl hL => ?_)
  have hX : va_X b L xs (ks K) (ks K).heap := hX
  have hbl : b < gN G := hbl
  have hL : L ≤ 260 := hL
  obtain ⟨oa, ca, la, fa, fo, ln2, hN, hO, hS, hSv, ⟨cf, hCa, hCr⟩, hLa, ⟨ff, hFa, hFr⟩, ⟨av0, av1, av2, av3, av4, av5, av6, av7, av8, av9⟩, ⟨hd1, hd2⟩, hV⟩ := id NN
  have IV1 := T.2.2.2.2.2.2.2.1
  have CV1 := T.2.2.2.2.2.2.2.2
  have IVn := IV1.1
  obtain ⟨ivc1, ivc2⟩ := IV1.2.2.1
  obtain ⟨ivr1, ivr2⟩ := IV1.2.2.2
  have CVm := CV1.1
  show X G K 3 0 [some (.ref nk), none, none] [] h 0 0
  have L58 : ∀ (its : Int), (0 ≤ its) → (its ≤ 60) → X G K 3 58 [some (.ref nk), some (vi its), none] [] (va_up h nk (xO 8 [.ref (ad 0), .ref b, vi (dr + 1), .ref oa, .ref sl, vi Q.cp, vi Q.rc, .ref ca, .ref la, .ref fa, .ref fo])) 0 0 := by
    intro its i1 i2
    refine x_aload_n C dX9_string_58 rfl rfl ?_
    refine x_aload_n C dX9_string_59 rfl rfl ?_
    refine x_get C f_Neck_16 up_s rfl dX9_string_60 ?_
    refine x_iload_n C dX9_string_63 rfl rfl ?_
    refine x_invS C s_Neck_73 (st := [.ref nk]) (c_N_plus ((up_n (ne_kd hO hN rfl)).trans hO) (by omega)) rfl rfl (Nat.le_of_ble_eq_true rfl) (xRm_of hR (by omega) (by decide) (by omega) (by omega)) dX9_string_64 (fun r9 h9 hq => ?_)
    obtain ⟨q, c, rfl, zq, e9, hc1, hc2⟩ := hq
    subst e9
    have ne_nk_q : nk ≠ q := fun e => by rw [← e] at zq; exact alv_of up_s zq
    have ne_oa_q : oa ≠ q := fun e => by rw [← e] at zq; exact alv_of ((up_n (ne_kd hO hN rfl)).trans hO) zq
    have ne_sl_q : sl ≠ q := fun e => by rw [← e] at zq; exact alv_of ((up_n (ne_kd hS hN rfl)).trans hS) zq
    have ne_ca_q : ca ≠ q := fun e => by rw [← e] at zq; exact alv_of ((up_n (ne_kd hCa hN rfl)).trans hCa) zq
    have ne_la_q : la ≠ q := fun e => by rw [← e] at zq; exact alv_of ((up_n (ne_kd hLa hN rfl)).trans hLa) zq
    have ne_fa_q : fa ≠ q := fun e => by rw [← e] at zq; exact alv_of ((up_n (ne_kd hFa hN rfl)).trans hFa) zq
    have z0q : h q = none := ((up_n (Ne.symm ne_nk_q)).symm.trans zq)
    have oq : ∀ i, own i → q ≠ ad i := fun i hi e => T.al i hi (by rw [← e]; exact z0q)
    refine X.aeq (a := q) (g' := va_up Q.op Q.n its) up_s (fun j hj => by by_cases w : j = Q.n; rw [w, up_s]; exact hc2; rw [up_n w]; exact hc1 j (by omega)) ?_
    refine X.heq (h1 := (va_up (va_up h nk (xO 8 [.ref (ad 0), .ref b, vi (dr + 1), .ref oa, .ref sl, vi Q.cp, vi Q.rc, .ref ca, .ref la, .ref fa, .ref fo])) q (xI G (Q.n + 1) (va_up Q.op Q.n its)))) (up_u _ _ _ _) ?_
    refine x_put C p_Neck_16 ((up_n ne_nk_q).trans up_s) (fit_arr _ _) (Nat.le_of_ble_eq_true rfl) (h1 := (va_up (va_up h nk (xO 8 [.ref (ad 0), .ref b, vi (dr + 1), .ref q, .ref sl, vi Q.cp, vi Q.rc, .ref ca, .ref la, .ref fa, .ref fo])) q (xI G (Q.n + 1) (va_up Q.op Q.n its)))) ((up_c _ _ _ (Ne.symm ne_nk_q)).trans (congrArg (fun f => va_up f q _) (up_u _ _ _ _))) dX9_string_67 ?_
    refine x_iconst C dX9_string_70 ?_
    refine x_istore_n C (ls' := [some (.ref nk), some (vi its), some (vi 0)]) dX9_string_71 rfl (by decide) rfl ?_
    refine x_iload_n C dX9_string_72 rfl rfl ?_
    refine x_aload_n C dX9_string_73 rfl rfl ?_
    refine x_get C f_Neck_36 ((up_n ne_nk_q).trans up_s) rfl dX9_string_74 ?_
    refine x_alen C (t := 3) rfl ((up_n ne_fa_q).trans ((up_n (ne_kd hFa hN rfl)).trans hFa)) dX9_string_77 ?_
    refine x_icmp_ge C (tgt := 113) dX9_string_78 (by decide) (by decide) ⟨by omega, by omega⟩ (fun c78 => ?_) (fun c78 => ?_)
    · skip
      have T2 := T.kept (h1 := (va_up (va_up h nk (xO 8 [.ref (ad 0), .ref b, vi (dr + 1), .ref q, .ref sl, vi Q.cp, vi Q.rc, .ref ca, .ref la, .ref fa, .ref fo])) q (xI G (Q.n + 1) (va_up Q.op Q.n its)))) (fun i hi => ((up_n (Ne.symm (oq i hi))).trans ((up_n (Ne.symm (av0 i hi))).trans rfl)))
      refine x_aload_n C dX9_string_113 rfl rfl ?_
      refine x_get C f_Neck_10 ((up_n ne_nk_q).trans up_s) rfl dX9_string_114 ?_
      refine x_iload_n C dX9_string_117 rfl rfl ?_
      refine x_invV C s_Neck_77 (st := []) (c_string hj T2 (p := its) ⟨by omega, by omega⟩ hn) (TabR.o T2).choose_spec rfl rfl (Nat.le_of_ble_eq_true rfl) (xRm_of hR (by omega) (by decide) (by omega) (by omega)) dX9_string_118 (fun r9 h92 hq => ?_)
      obtain ⟨rfl, T2b, p2⟩ := hq
      refine x_aload_n C dX9_string_121 rfl rfl ?_
      refine x_get C f_Neck_16 ((p2 nk av0).trans ((up_n ne_nk_q).trans up_s)) rfl dX9_string_122 ?_
      refine x_alen C (t := 0) rfl ((p2 q oq).trans up_s) dX9_string_125 ?_
      refine x_iconst C dX9_string_126 ?_
      refine x_isub C dX9_string_127 ?_
      refine x_icmp_ne C (tgt := 135) dX9_string_128 (by decide) ⟨by omega, by omega⟩ ⟨by omega, by omega⟩ (fun c128 => ?_) (fun c128 => ?_)
      · skip
        exfalso; omega
      · skip
        refine x_iconst C dX9_string_131 ?_
        refine x_goto C (tgt := 136) dX9_string_132 (by decide) ?_
        have hslE : va_up Q.sl Q.n false = Q.sl := up_same (hSv Q.n (Nat.le_refl _))
        exact x_zret C E rfl (by omega) (by omega) (z := true) dX9_string_136 (⟨rfl, (Q.n + 1, va_up Q.op Q.n its, va_up Q.sl Q.n false, Q.cp, Q.rc), P, dr + 1, T2b, ⟨q, ca, la, fa, fo, ln2, ((p2 nk av0).trans ((up_n ne_nk_q).trans up_s)), ((p2 q oq).trans up_s), (by show _ = xZ G 6 (va_up Q.sl Q.n false); rw [hslE]; exact ((p2 sl av2).trans ((up_n ne_sl_q).trans ((up_n (ne_kd hS hN rfl)).trans hS)))), (fun j hj => by show va_up Q.sl Q.n false j = false; rw [hslE]; exact hSv j (by have : Q.n + 1 ≤ j := hj; omega)), ⟨cf, ((p2 ca av3).trans ((up_n ne_ca_q).trans ((up_n (ne_kd hCa hN rfl)).trans hCa))), fun c hc => absurd hc (by omega)⟩, ((p2 la av4).trans ((up_n ne_la_q).trans ((up_n (ne_kd hLa hN rfl)).trans hLa))), ⟨ff, ((p2 fa av5).trans ((up_n ne_fa_q).trans ((up_n (ne_kd hFa hN rfl)).trans hFa))), fun c hc => absurd hc (by omega)⟩, ⟨av0, oq, av2, av3, av4, av5, ne_sl_q, av7, Ne.symm ne_la_q, av9⟩, ⟨by omega, by omega⟩, hV⟩, rfl, hm, Int.le_refl _⟩)
    · skip
      exfalso; omega
  refine x_aload_n C dX9_string_0 rfl rfl ?_
  refine x_get C f_Neck_16 hN rfl dX9_string_1 ?_
  refine x_alen C (t := 0) rfl hO dX9_string_4 ?_
  refine x_bipush C (z := 6) dX9_string_5 (by decide) ?_
  refine x_icmp_ne C (tgt := 12) dX9_string_7 (by decide) ⟨by omega, by omega⟩ (by decide) (fun c7 => ?_) (fun c7 => ?_)
  · skip
    refine x_aload_n C dX9_string_12 rfl rfl ?_
    refine x_get C f_Neck_16 hN rfl dX9_string_13 ?_
    refine x_alen C (t := 0) rfl hO dX9_string_16 ?_
    refine x_if_ne C (tgt := 32) dX9_string_17 (by decide) ⟨by omega, by omega⟩ (fun c17 => ?_) (fun c17 => ?_)
    · skip
      refine x_bipush C (z := 60) dX9_string_32 (by decide) ?_
      refine x_aload_n C dX9_string_34 rfl rfl ?_
      refine x_get C f_Neck_16 hN rfl dX9_string_35 ?_
      refine x_aload_n C dX9_string_38 rfl rfl ?_
      refine x_get C f_Neck_16 hN rfl dX9_string_39 ?_
      refine x_alen C (t := 0) rfl hO dX9_string_42 ?_
      refine x_iconst C dX9_string_43 ?_
      refine x_isub C dX9_string_44 ?_
      have hop := IV1.2.1 (((Q.n : Nat) : Int) - 1).toNat (by omega)
      refine x_iald C hO ⟨by omega, by omega, by omega⟩ (v := (Q.op (((Q.n : Nat) : Int) - 1).toNat)) rfl dX9_string_45 ?_
      refine x_iconst C dX9_string_46 ?_
      refine x_iadd C dX9_string_47 ?_
      refine x_aload_n C dX9_string_48 rfl rfl ?_
      refine x_iconst C dX9_string_49 ?_
      refine x_invVX C (Sc := (b, L, xs)) hX hbl hL s_Neck_64 (st := [vi ((Q.op (((Q.n : Nat) : Int) - 1).toNat) + 3), vi 60]) (c_N_draw hN ⟨by omega, by omega⟩ (n := 4) ((by decide))) hN rfl rfl (Nat.le_of_ble_eq_true rfl) (xRm_of hR (by omega) (by decide) (by omega) (by omega)) dX9_string_50 (fun r9 h9 hq => ?_)
      obtain ⟨z, rfl, hz, e9⟩ := hq
      subst e9
      refine x_iadd C dX9_string_53 ?_
      refine x_min C s_Neck_68 static_Math_min i_Math code_Math_min (by decide) ⟨by omega, by omega⟩ (Nat.le_of_ble_eq_true rfl) hR (by omega) (by omega) (by omega) dX9_string_54 ?_
      refine x_istore_n C (ls' := [some (.ref nk), some (vi (if (((Q.op (((Q.n : Nat) : Int) - 1).toNat) + 3) + (z : Int)) < 60 then (((Q.op (((Q.n : Nat) : Int) - 1).toNat) + 3) + (z : Int)) else 60)), none]) dX9_string_57 rfl (by decide) rfl ?_
      exact L58 (if (((Q.op (((Q.n : Nat) : Int) - 1).toNat) + 3) + (z : Int)) < 60 then (((Q.op (((Q.n : Nat) : Int) - 1).toNat) + 3) + (z : Int)) else 60) (by first | omega | (split <;> omega)) (by first | omega | (split <;> omega))
    · skip
      refine x_bipush C (z := 26) dX9_string_20 (by decide) ?_
      refine x_aload_n C dX9_string_22 rfl rfl ?_
      refine x_bipush C (z := 6) dX9_string_23 (by decide) ?_
      refine x_invVX C (Sc := (b, L, xs)) hX hbl hL s_Neck_64 (st := [vi 26]) (c_N_draw hN ⟨by omega, by omega⟩ (n := 6) ((by decide))) hN rfl rfl (Nat.le_of_ble_eq_true rfl) (xRm_of hR (by omega) (by decide) (by omega) (by omega)) dX9_string_25 (fun r9 h9 hq => ?_)
      obtain ⟨z, rfl, hz, e9⟩ := hq
      subst e9
      refine x_iadd C dX9_string_28 ?_
      refine x_goto C (tgt := 57) dX9_string_29 (by decide) ?_
      refine x_istore_n C (ls' := [some (.ref nk), some (vi (26 + (z : Int))), none]) dX9_string_57 rfl (by decide) rfl ?_
      exact L58 (26 + (z : Int)) (by first | omega | (split <;> omega)) (by first | omega | (split <;> omega))
  · skip
    exfalso; omega

set_option maxRecDepth 100000 in
set_option maxHeartbeats 4000000 in
theorem c_N_change {G : xG} {h : PH} {ad : Nat → Nat} {nk b L sl : Nat} {dr : Int} {xs : Nat → Int32} {fq : Bool} {Q : Ins} {P : Pie} (hj : ∀ i j, i < 300 → j < 300 → ad i = ad j → i = j) (T : TabR G h ad fq Q P) (NN : NkR G h ad nk b sl dr Q P) (hdr : dr < 90000) (hn : 0 < Q.n) : Sn G (b, L, xs) m_Neck_change 3 0 0 [.ref nk] h (fun r h' => r = some (vi (b2i true)) ∧ NP G h' ad nk b sl Q.n P.m (dr + 3)) := by
  refine Sn_of (by decide) (Nat.le_of_ble_eq_true rfl) (fun K C hR E hX hbl hL => ?_)
  have hX : va_X b L xs (ks K) (ks K).heap := hX
  have hbl : b < gN G := hbl
  have hL : L ≤ 260 := hL
  obtain ⟨oa, ca, la, fa, fo, ln2, hN, hO, hS, hSv, ⟨cf, hCa, hCr⟩, hLa, ⟨ff, hFa, hFr⟩, ⟨av0, av1, av2, av3, av4, av5, av6, av7, av8, av9⟩, ⟨hd1, hd2⟩, hV⟩ := id NN
  have IV1 := T.2.2.2.2.2.2.2.1
  have CV1 := T.2.2.2.2.2.2.2.2
  have IVn := IV1.1
  obtain ⟨ivc1, ivc2⟩ := IV1.2.2.1
  obtain ⟨ivr1, ivr2⟩ := IV1.2.2.2
  have CVm := CV1.1
  show X G K 5 0 [some (.ref nk), none, none, none, none] [] h 0 0
  refine x_aload_n C dX9_change_0 rfl rfl ?_
  refine x_iconst C dX9_change_1 ?_
  refine x_invVX C (Sc := (b, L, xs)) hX hbl hL s_Neck_64 (st := []) (c_N_draw hN ⟨by omega, by omega⟩ (n := 4) ((by decide))) hN rfl rfl (Nat.le_of_ble_eq_true rfl) (xRm_of hR (by omega) (by decide) (by omega) (by omega)) dX9_change_2 (fun r9 h9 hq => ?_)
  obtain ⟨z, rfl, hz, e9⟩ := hq
  subst e9
  obtain rfl | rfl | rfl | rfl : z = 0 ∨ z = 1 ∨ z = 2 ∨ z = 3 := by omega
  ·
    refine x_tsw C (tgt := 32) dX9_change_5 (by decide) (by decide) (by decide) rfl (by decide) ?_
    refine x_aload_n C dX9_change_32 rfl rfl ?_
    refine x_get C f_Neck_80 up_s rfl dX9_change_33 ?_
    refine x_istore_n C (ls' := [some (.ref nk), some (vi Q.cp), none, none, none]) dX9_change_36 rfl (by decide) rfl ?_
    refine x_aload_n C dX9_change_37 rfl rfl ?_
    refine x_aload_n C dX9_change_38 rfl rfl ?_
    refine x_iconst C dX9_change_39 ?_
    refine x_invVX C (Sc := (b, L, xs)) hX hbl hL s_Neck_64 (st := [.ref nk]) (c_N_draw up_s ⟨by omega, by omega⟩ (n := 4) ((by decide))) up_s rfl rfl (Nat.le_of_ble_eq_true rfl) (xRm_of hR (by omega) (by decide) (by omega) (by omega)) dX9_change_40 (fun r9 h9 hq => ?_)
    obtain ⟨y, rfl, hy, e9⟩ := hq
    subst e9
    refine X.heq (h1 := (va_up h nk (xO 8 [.ref (ad 0), .ref b, vi ((dr + 1) + 1), .ref oa, .ref sl, vi Q.cp, vi Q.rc, .ref ca, .ref la, .ref fa, .ref fo]))) (up_u _ _ _ _) ?_
    refine x_put C p_Neck_80 up_s (fit_int _) (Nat.le_of_ble_eq_true rfl) (h1 := (va_up h nk (xO 8 [.ref (ad 0), .ref b, vi ((dr + 1) + 1), .ref oa, .ref sl, vi (y : Int), vi Q.rc, .ref ca, .ref la, .ref fa, .ref fo]))) (up_u _ _ _ _) dX9_change_43 ?_
    have T2 := T.kept (h1 := (va_up h nk (xO 8 [.ref (ad 0), .ref b, vi ((dr + 1) + 1), .ref oa, .ref sl, vi (y : Int), vi Q.rc, .ref ca, .ref la, .ref fa, .ref fo]))) (fun i hi => ((up_n (Ne.symm (av0 i hi))).trans rfl))
    refine x_aload_n C dX9_change_46 rfl rfl ?_
    refine x_get C f_Neck_10 up_s rfl dX9_change_47 ?_
    refine x_aload_n C dX9_change_50 rfl rfl ?_
    refine x_get C f_Neck_80 up_s rfl dX9_change_51 ?_
    refine x_invV C s_Neck_94 (st := []) (c_capo hj T2 (z := (y : Int)) ⟨by omega, by omega⟩) (TabR.o T2).choose_spec rfl rfl (Nat.le_of_ble_eq_true rfl) (xRm_of hR (by omega) (by decide) (by omega) (by omega)) dX9_change_54 (fun r9 h92 hq => ?_)
    obtain ⟨rfl, T2b, p2⟩ := hq
    refine x_iload_n C dX9_change_57 rfl rfl ?_
    refine x_icmp_ne C (tgt := 65) dX9_change_58 (by decide) ⟨by omega, by omega⟩ ⟨by omega, by omega⟩ (fun c58 => ?_) (fun c58 => ?_)
    · skip
      exfalso; omega
    · skip
      refine x_iconst C dX9_change_61 ?_
      refine x_goto C (tgt := 66) dX9_change_62 (by decide) ?_
      have kS : KpS (EX ad nk oa sl) h h92 := fun x ax sx => (p2 x sx.2.2.2).trans ((up_n (sx.1)).trans rfl)
      exact x_zret C E rfl (by omega) (by omega) (z := true) dX9_change_66 (⟨rfl, (Q.n, Q.op, Q.sl, (y : Int), Q.rc), P, _, T2b, ⟨oa, ca, la, fa, fo, ln2, ((p2 nk av0).trans up_s), ((p2 oa av1).trans ((up_n (ne_kd hO hN rfl)).trans hO)), ((p2 sl av2).trans ((up_n (ne_kd hS hN rfl)).trans hS)), hSv, ChR.kp ⟨cf, hCa, hCr⟩ kS (((p2 ca av3).trans ((up_n (ne_kd hCa hN rfl)).trans hCa)).trans hCa.symm), ((p2 la av4).trans ((up_n (ne_kd hLa hN rfl)).trans hLa)), FxR.kp ⟨ff, hFa, hFr⟩ kS (((p2 fa av5).trans ((up_n (ne_kd hFa hN rfl)).trans hFa)).trans hFa.symm), ⟨av0, av1, av2, av3, av4, av5, av6, av7, av8, av9⟩, ⟨by omega, by omega⟩, hV⟩, rfl, rfl, by omega⟩)
  ·
    refine x_tsw C (tgt := 67) dX9_change_5 (by decide) (by decide) (by decide) rfl (by decide) ?_
    refine x_aload_n C dX9_change_67 rfl rfl ?_
    refine x_get C f_Neck_24 up_s rfl dX9_change_68 ?_
    refine x_istore_n C (ls' := [some (.ref nk), some (vi Q.rc), none, none, none]) dX9_change_71 rfl (by decide) rfl ?_
    refine x_aload_n C dX9_change_72 rfl rfl ?_
    refine x_iconst C dX9_change_73 ?_
    refine x_aload_n C dX9_change_74 rfl rfl ?_
    refine x_iconst C dX9_change_75 ?_
    refine x_invVX C (Sc := (b, L, xs)) hX hbl hL s_Neck_64 (st := [vi 1, .ref nk]) (c_N_draw up_s ⟨by omega, by omega⟩ (n := 5) ((by decide))) up_s rfl rfl (Nat.le_of_ble_eq_true rfl) (xRm_of hR (by omega) (by decide) (by omega) (by omega)) dX9_change_76 (fun r9 h9 hq => ?_)
    obtain ⟨y, rfl, hy, e9⟩ := hq
    subst e9
    refine X.heq (h1 := (va_up h nk (xO 8 [.ref (ad 0), .ref b, vi ((dr + 1) + 1), .ref oa, .ref sl, vi Q.cp, vi Q.rc, .ref ca, .ref la, .ref fa, .ref fo]))) (up_u _ _ _ _) ?_
    refine x_iadd C dX9_change_79 ?_
    refine x_put C p_Neck_24 up_s (fit_int _) (Nat.le_of_ble_eq_true rfl) (h1 := (va_up h nk (xO 8 [.ref (ad 0), .ref b, vi ((dr + 1) + 1), .ref oa, .ref sl, vi Q.cp, vi (1 + (y : Int)), .ref ca, .ref la, .ref fa, .ref fo]))) (up_u _ _ _ _) dX9_change_80 ?_
    have T2 := T.kept (h1 := (va_up h nk (xO 8 [.ref (ad 0), .ref b, vi ((dr + 1) + 1), .ref oa, .ref sl, vi Q.cp, vi (1 + (y : Int)), .ref ca, .ref la, .ref fa, .ref fo]))) (fun i hi => ((up_n (Ne.symm (av0 i hi))).trans rfl))
    refine x_aload_n C dX9_change_83 rfl rfl ?_
    refine x_get C f_Neck_10 up_s rfl dX9_change_84 ?_
    refine x_aload_n C dX9_change_87 rfl rfl ?_
    refine x_get C f_Neck_24 up_s rfl dX9_change_88 ?_
    refine x_invV C s_Neck_96 (st := []) (c_reach hj T2 (z := (1 + (y : Int))) ⟨by omega, by omega⟩) (TabR.o T2).choose_spec rfl rfl (Nat.le_of_ble_eq_true rfl) (xRm_of hR (by omega) (by decide) (by omega) (by omega)) dX9_change_91 (fun r9 h92 hq => ?_)
    obtain ⟨rfl, T2b, p2⟩ := hq
    refine x_iload_n C dX9_change_94 rfl rfl ?_
    refine x_icmp_ne C (tgt := 102) dX9_change_95 (by decide) ⟨by omega, by omega⟩ ⟨by omega, by omega⟩ (fun c95 => ?_) (fun c95 => ?_)
    · skip
      exfalso; omega
    · skip
      refine x_iconst C dX9_change_98 ?_
      refine x_goto C (tgt := 103) dX9_change_99 (by decide) ?_
      have kS : KpS (EX ad nk oa sl) h h92 := fun x ax sx => (p2 x sx.2.2.2).trans ((up_n (sx.1)).trans rfl)
      exact x_zret C E rfl (by omega) (by omega) (z := true) dX9_change_103 (⟨rfl, (Q.n, Q.op, Q.sl, Q.cp, (1 + (y : Int))), P, _, T2b, ⟨oa, ca, la, fa, fo, ln2, ((p2 nk av0).trans up_s), ((p2 oa av1).trans ((up_n (ne_kd hO hN rfl)).trans hO)), ((p2 sl av2).trans ((up_n (ne_kd hS hN rfl)).trans hS)), hSv, ChR.kp ⟨cf, hCa, hCr⟩ kS (((p2 ca av3).trans ((up_n (ne_kd hCa hN rfl)).trans hCa)).trans hCa.symm), ((p2 la av4).trans ((up_n (ne_kd hLa hN rfl)).trans hLa)), FxR.kp ⟨ff, hFa, hFr⟩ kS (((p2 fa av5).trans ((up_n (ne_kd hFa hN rfl)).trans hFa)).trans hFa.symm), ⟨av0, av1, av2, av3, av4, av5, av6, av7, av8, av9⟩, ⟨by omega, by omega⟩, hV⟩, rfl, rfl, by omega⟩)
  ·
    refine x_tsw C (tgt := 104) dX9_change_5 (by decide) (by decide) (by decide) rfl (by decide) ?_
    refine x_aload_n C dX9_change_104 rfl rfl ?_
    refine x_get C f_Neck_16 up_s rfl dX9_change_105 ?_
    refine x_alen C (t := 0) rfl ((up_n (ne_kd hO hN rfl)).trans hO) dX9_change_108 ?_
    refine x_if_ne C (tgt := 114) dX9_change_109 (by decide) ⟨by omega, by omega⟩ (fun c109 => ?_) (fun c109 => ?_)
    · skip
      refine x_aload_n C dX9_change_114 rfl rfl ?_
      refine x_aload_n C dX9_change_115 rfl rfl ?_
      refine x_get C f_Neck_16 up_s rfl dX9_change_116 ?_
      refine x_alen C (t := 0) rfl ((up_n (ne_kd hO hN rfl)).trans hO) dX9_change_119 ?_
      refine x_invVX C (Sc := (b, L, xs)) hX hbl hL s_Neck_64 (st := []) (c_N_draw up_s ⟨by omega, by omega⟩ (n := (Q.n : Int)) (⟨by omega, by omega⟩)) up_s rfl rfl (Nat.le_of_ble_eq_true rfl) (xRm_of hR (by omega) (by decide) (by omega) (by omega)) dX9_change_120 (fun r9 h9 hq => ?_)
      obtain ⟨s, rfl, hs, e9⟩ := hq
      subst e9
      refine X.heq (h1 := (va_up h nk (xO 8 [.ref (ad 0), .ref b, vi ((dr + 1) + 1), .ref oa, .ref sl, vi Q.cp, vi Q.rc, .ref ca, .ref la, .ref fa, .ref fo]))) (up_u _ _ _ _) ?_
      refine x_istore_n C (ls' := [some (.ref nk), none, some (vi (s : Int)), none, none]) dX9_change_123 rfl (by decide) rfl ?_
      refine x_aload_n C dX9_change_124 rfl rfl ?_
      refine x_get C f_Neck_20 up_s rfl dX9_change_125 ?_
      refine x_iload_n C dX9_change_128 rfl rfl ?_
      refine x_aload_n C dX9_change_129 rfl rfl ?_
      refine x_iconst C dX9_change_130 ?_
      refine x_invVX C (Sc := (b, L, xs)) hX hbl hL s_Neck_64 (st := [vi (s : Int), .ref sl]) (c_N_draw up_s ⟨by omega, by omega⟩ (n := 3) ((by decide))) up_s rfl rfl (Nat.le_of_ble_eq_true rfl) (xRm_of hR (by omega) (by decide) (by omega) (by omega)) dX9_change_131 (fun r9 h9 hq => ?_)
      obtain ⟨y, rfl, hy, e9⟩ := hq
      subst e9
      refine X.heq (h1 := (va_up h nk (xO 8 [.ref (ad 0), .ref b, vi (((dr + 1) + 1) + 1), .ref oa, .ref sl, vi Q.cp, vi Q.rc, .ref ca, .ref la, .ref fa, .ref fo]))) (up_u _ _ _ _) ?_
      have L143 : ∀ (sl2 : Nat → Bool), (sl2 = va_up Q.sl s (sl2 s)) → X G K 5 143 [some (.ref nk), none, some (vi (s : Int)), none, none] [] (va_up (va_up h nk (xO 8 [.ref (ad 0), .ref b, vi (((dr + 1) + 1) + 1), .ref oa, .ref sl, vi Q.cp, vi Q.rc, .ref ca, .ref la, .ref fa, .ref fo])) sl (xZ G 6 sl2)) 0 0 := by
        intro sl2 iS
        refine x_aload_n C dX9_change_143 rfl rfl ?_
        refine x_get C f_Neck_16 ((up_n (ne_kd hN hS rfl)).trans up_s) rfl dX9_change_144 ?_
        refine x_alen C (t := 0) rfl ((up_n (Ne.symm av6)).trans ((up_n (ne_kd hO hN rfl)).trans hO)) dX9_change_147 ?_
        refine x_istore_n C (ls' := [some (.ref nk), none, some (vi (s : Int)), some (vi ((Q.n : Nat) : Int)), none]) dX9_change_148 rfl (by decide) rfl ?_
        refine x_iconst C dX9_change_149 ?_
        refine x_istore C (ls' := [some (.ref nk), none, some (vi (s : Int)), some (vi ((Q.n : Nat) : Int)), some (vi 0)]) dX9_change_150 (by decide) rfl ?_
        have L152 : ∀ (n0 : Nat) (k : Nat) (lf : Int), Q.n - k < n0 → (k ≤ Q.n) → (lf = (Q.n : Int) - slk sl2 k) → X G K 5 152 [some (.ref nk), none, some (vi (s : Int)), some (vi lf), some (vi (k : Int))] [] (va_up (va_up h nk (xO 8 [.ref (ad 0), .ref b, vi (((dr + 1) + 1) + 1), .ref oa, .ref sl, vi Q.cp, vi Q.rc, .ref ca, .ref la, .ref fa, .ref fo])) sl (xZ G 6 sl2)) 0 0 := by
          intro n0
          induction n0 with
          | zero => intro k lf hm; exact absurd hm (Nat.not_lt_zero _)
          | succ n0 ih_L152 =>
            intro k lf hm i1 i2
            refine x_iload C dX9_change_152 rfl ?_
            refine x_aload_n C dX9_change_154 rfl rfl ?_
            refine x_get C f_Neck_16 ((up_n (ne_kd hN hS rfl)).trans up_s) rfl dX9_change_155 ?_
            refine x_alen C (t := 0) rfl ((up_n (Ne.symm av6)).trans ((up_n (ne_kd hO hN rfl)).trans hO)) dX9_change_158 ?_
            refine x_icmp_ge C (tgt := 186) dX9_change_159 (by decide) ⟨by omega, by omega⟩ ⟨by omega, by omega⟩ (fun c159 => ?_) (fun c159 => ?_)
            · skip
              have hsk := slk_none (sl := sl2) (n := Q.n) (6 - Q.n) (fun j h1 h2 => by rw [iS, up_n (by omega)]; exact hSv j h1)
              rw [show Q.n + (6 - Q.n) = 6 by omega] at hsk
              have hkn : k = Q.n := by omega
              rw [hkn] at i2
              have hsk2 : slk (va_up Q.sl s (sl2 s)) 6 = slk sl2 Q.n := by rw [← iS]; exact hsk
              have hsr := slk_rg (va_up Q.sl s (sl2 s)) 6
              have T2 := T.kept (h1 := (va_up (va_up h nk (xO 8 [.ref (ad 0), .ref b, vi (((dr + 1) + 1) + 1), .ref oa, .ref sl, vi Q.cp, vi Q.rc, .ref ca, .ref la, .ref fa, .ref fo])) sl (xZ G 6 sl2))) (fun i hi => ((up_n (Ne.symm (av2 i hi))).trans ((up_n (Ne.symm (av0 i hi))).trans rfl)))
              refine x_aload_n C dX9_change_186 rfl rfl ?_
              refine x_get C f_Neck_10 ((up_n (ne_kd hN hS rfl)).trans up_s) rfl dX9_change_187 ?_
              refine x_iload_n C dX9_change_190 rfl rfl ?_
              refine x_aload_n C dX9_change_191 rfl rfl ?_
              refine x_get C f_Neck_20 ((up_n (ne_kd hN hS rfl)).trans up_s) rfl dX9_change_192 ?_
              refine x_iload_n C dX9_change_195 rfl rfl ?_
              refine x_zald C up_s ⟨by omega, by omega, by omega⟩ (v := (sl2 s)) rfl dX9_change_196 ?_
              refine x_invV C s_Neck_98 (st := []) (c_slacken hj T2 (s := s) (by omega) (b := sl2 s)) (TabR.o T2).choose_spec rfl rfl (Nat.le_of_ble_eq_true rfl) (xRm_of hR (by omega) (by decide) (by omega) (by omega)) dX9_change_197 (fun r9 h92 hq => ?_)
              obtain ⟨rfl, T2b, p2⟩ := hq
              refine x_iload_n C dX9_change_200 rfl rfl ?_
              refine x_icmp_ne C (tgt := 208) dX9_change_201 (by decide) ⟨by omega, by omega⟩ ⟨by omega, by omega⟩ (fun c201 => ?_) (fun c201 => ?_)
              · skip
                exfalso; omega
              · skip
                refine x_iconst C dX9_change_204 ?_
                refine x_goto C (tgt := 209) dX9_change_205 (by decide) ?_
                have kS : KpS (EX ad nk oa sl) h h92 := fun x ax sx => (p2 x sx.2.2.2).trans ((up_n (sx.2.2.1)).trans ((up_n (sx.1)).trans rfl))
                exact x_zret C E rfl (by omega) (by omega) (z := true) dX9_change_209 (⟨rfl, (Q.n, Q.op, va_up Q.sl s (sl2 s), Q.cp, Q.rc), P, _, T2b, ⟨oa, ca, la, fa, fo, ln2, ((p2 nk av0).trans ((up_n (ne_kd hN hS rfl)).trans up_s)), ((p2 oa av1).trans ((up_n (Ne.symm av6)).trans ((up_n (ne_kd hO hN rfl)).trans hO))), (by show _ = xZ G 6 (va_up Q.sl s (sl2 s)); rw [← iS]; exact ((p2 sl av2).trans up_s)), (fun j hj => (up_n (by have : Q.n ≤ j := hj; omega)).trans (hSv j hj)), ChR.kp ⟨cf, hCa, hCr⟩ kS (((p2 ca av3).trans ((up_n (ne_kd hCa hS rfl)).trans ((up_n (ne_kd hCa hN rfl)).trans hCa))).trans hCa.symm), ((p2 la av4).trans ((up_n (Ne.symm av7)).trans ((up_n (ne_kd hLa hN rfl)).trans hLa))), FxR.kp ⟨ff, hFa, hFr⟩ kS (((p2 fa av5).trans ((up_n (ne_kd hFa hS rfl)).trans ((up_n (ne_kd hFa hN rfl)).trans hFa))).trans hFa.symm), ⟨av0, av1, av2, av3, av4, av5, av6, av7, av8, av9⟩, ⟨by omega, by omega⟩, hV⟩, rfl, rfl, by omega⟩)
            · skip
              refine x_iload_n C dX9_change_162 rfl rfl ?_
              refine x_aload_n C dX9_change_163 rfl rfl ?_
              refine x_get C f_Neck_20 ((up_n (ne_kd hN hS rfl)).trans up_s) rfl dX9_change_164 ?_
              refine x_iload C dX9_change_167 rfl ?_
              refine x_zald C up_s ⟨by omega, by omega, by omega⟩ (v := (sl2 k)) rfl dX9_change_169 ?_
              refine x_ifeqB C (tgt := 177) dX9_change_170 (by decide) (fun c170 => ?_) (fun c170 => ?_)
              · skip
                refine x_iconst C dX9_change_177 ?_
                refine x_isub C dX9_change_178 ?_
                refine x_istore_n C (ls' := [some (.ref nk), none, some (vi (s : Int)), some (vi (lf - 0)), some (vi (k : Int))]) dX9_change_179 rfl (by decide) rfl ?_
                refine x_iinc C (ls' := [some (.ref nk), none, some (vi (s : Int)), some (vi (lf - 0)), some (vi ((k : Int) + 1))]) dX9_change_180 rfl (by decide) (z1 := ((k : Int) + 1)) rfl rfl ?_
                refine x_goto C (tgt := 152) dX9_change_183 (by decide) ?_
                exact ih_L152 (k + 1) (lf - 0) (by omega) (by omega) (by rw [show slk sl2 (k + 1) = (if sl2 k = true then slk sl2 k + 1 else slk sl2 k) from rfl]; first | (rw [if_pos c170]; omega) | (rw [if_neg (by rw [c170]; decide)]; omega))
              · skip
                refine x_iconst C dX9_change_173 ?_
                refine x_goto C (tgt := 178) dX9_change_174 (by decide) ?_
                refine x_isub C dX9_change_178 ?_
                refine x_istore_n C (ls' := [some (.ref nk), none, some (vi (s : Int)), some (vi (lf - 1)), some (vi (k : Int))]) dX9_change_179 rfl (by decide) rfl ?_
                refine x_iinc C (ls' := [some (.ref nk), none, some (vi (s : Int)), some (vi (lf - 1)), some (vi ((k : Int) + 1))]) dX9_change_180 rfl (by decide) (z1 := ((k : Int) + 1)) rfl rfl ?_
                refine x_goto C (tgt := 152) dX9_change_183 (by decide) ?_
                exact ih_L152 (k + 1) (lf - 1) (by omega) (by omega) (by rw [show slk sl2 (k + 1) = (if sl2 k = true then slk sl2 k + 1 else slk sl2 k) from rfl]; first | (rw [if_pos c170]; omega) | (rw [if_neg (by rw [c170]; decide)]; omega))
        exact L152 _ 0 ((Q.n : Nat) : Int) (Nat.lt_succ_self _) (Nat.zero_le _) (by show _ = _ - 0; omega)
      refine x_if_ne C (tgt := 141) dX9_change_134 (by decide) ⟨by omega, by omega⟩ (fun c134 => ?_) (fun c134 => ?_)
      · skip
        refine x_iconst C dX9_change_141 ?_
        refine x_zast C (z := false) ((up_n (ne_kd hS hN rfl)).trans hS) ⟨by omega, by omega, by omega⟩ (h1 := (va_up (va_up h nk (xO 8 [.ref (ad 0), .ref b, vi (((dr + 1) + 1) + 1), .ref oa, .ref sl, vi Q.cp, vi Q.rc, .ref ca, .ref la, .ref fa, .ref fo])) sl (xZ G 6 (va_up Q.sl s false)))) rfl dX9_change_142 ?_
        exact L143 (va_up Q.sl s false) (by rw [up_s])
      · skip
        refine x_iconst C dX9_change_137 ?_
        refine x_goto C (tgt := 142) dX9_change_138 (by decide) ?_
        refine x_zast C (z := true) ((up_n (ne_kd hS hN rfl)).trans hS) ⟨by omega, by omega, by omega⟩ (h1 := (va_up (va_up h nk (xO 8 [.ref (ad 0), .ref b, vi (((dr + 1) + 1) + 1), .ref oa, .ref sl, vi Q.cp, vi Q.rc, .ref ca, .ref la, .ref fa, .ref fo])) sl (xZ G 6 (va_up Q.sl s true)))) rfl dX9_change_142 ?_
        exact L143 (va_up Q.sl s true) (by rw [up_s])
    · skip
      exfalso; omega
  ·
    refine x_tswD C (tgt := 210) dX9_change_5 (by decide) (by decide) (by decide) ?_
    refine x_aload_n C dX9_change_210 rfl rfl ?_
    refine x_get C f_Neck_16 up_s rfl dX9_change_211 ?_
    refine x_alen C (t := 0) rfl ((up_n (ne_kd hO hN rfl)).trans hO) dX9_change_214 ?_
    refine x_if_ne C (tgt := 220) dX9_change_215 (by decide) ⟨by omega, by omega⟩ (fun c215 => ?_) (fun c215 => ?_)
    · skip
      refine x_aload_n C dX9_change_220 rfl rfl ?_
      refine x_aload_n C dX9_change_221 rfl rfl ?_
      refine x_get C f_Neck_16 up_s rfl dX9_change_222 ?_
      refine x_alen C (t := 0) rfl ((up_n (ne_kd hO hN rfl)).trans hO) dX9_change_225 ?_
      refine x_invVX C (Sc := (b, L, xs)) hX hbl hL s_Neck_64 (st := []) (c_N_draw up_s ⟨by omega, by omega⟩ (n := (Q.n : Int)) (⟨by omega, by omega⟩)) up_s rfl rfl (Nat.le_of_ble_eq_true rfl) (xRm_of hR (by omega) (by decide) (by omega) (by omega)) dX9_change_226 (fun r9 h9 hq => ?_)
      obtain ⟨s, rfl, hs, e9⟩ := hq
      subst e9
      refine X.heq (h1 := (va_up h nk (xO 8 [.ref (ad 0), .ref b, vi ((dr + 1) + 1), .ref oa, .ref sl, vi Q.cp, vi Q.rc, .ref ca, .ref la, .ref fa, .ref fo]))) (up_u _ _ _ _) ?_
      refine x_istore C (ls' := [some (.ref nk), none, none, none, some (vi (s : Int))]) dX9_change_229 (by decide) rfl ?_
      refine x_aload_n C dX9_change_231 rfl rfl ?_
      refine x_get C f_Neck_16 up_s rfl dX9_change_232 ?_
      refine x_iload C dX9_change_235 rfl ?_
      refine x_iald C ((up_n (ne_kd hO hN rfl)).trans hO) ⟨by omega, by omega, by omega⟩ (v := (Q.op s)) rfl dX9_change_237 ?_
      refine x_istore_n C (ls' := [some (.ref nk), some (vi (Q.op s)), none, none, some (vi (s : Int))]) dX9_change_238 rfl (by decide) rfl ?_
      have hos := IV1.2.1 s (by omega)
      refine x_aload_n C dX9_change_239 rfl rfl ?_
      refine x_get C f_Neck_16 up_s rfl dX9_change_240 ?_
      refine x_iload C dX9_change_243 rfl ?_
      refine x_iconst C dX9_change_245 ?_
      refine x_bipush C (z := 60) dX9_change_246 (by decide) ?_
      refine x_iload_n C dX9_change_248 rfl rfl ?_
      refine x_aload_n C dX9_change_249 rfl rfl ?_
      refine x_iconst C dX9_change_250 ?_
      refine x_invVX C (Sc := (b, L, xs)) hX hbl hL s_Neck_64 (st := [vi (Q.op s), vi 60, vi 0, vi (s : Int), .ref oa]) (c_N_draw up_s ⟨by omega, by omega⟩ (n := 5) ((by decide))) up_s rfl rfl (Nat.le_of_ble_eq_true rfl) (xRm_of hR (by omega) (by decide) (by omega) (by omega)) dX9_change_251 (fun r9 h9 hq => ?_)
      obtain ⟨y, rfl, hy, e9⟩ := hq
      subst e9
      refine X.heq (h1 := (va_up h nk (xO 8 [.ref (ad 0), .ref b, vi (((dr + 1) + 1) + 1), .ref oa, .ref sl, vi Q.cp, vi Q.rc, .ref ca, .ref la, .ref fa, .ref fo]))) (up_u _ _ _ _) ?_
      refine x_iadd C dX9_change_254 ?_
      refine x_iconst C dX9_change_255 ?_
      refine x_isub C dX9_change_256 ?_
      refine x_min C s_Neck_68 static_Math_min i_Math code_Math_min (by decide) ⟨by omega, by omega⟩ (Nat.le_of_ble_eq_true rfl) hR (by omega) (by omega) (by omega) dX9_change_257 ?_
      refine x_max C s_Neck_102 static_Math_max i_Math code_Math_max (by decide) ⟨by omega, by omega⟩ (Nat.le_of_ble_eq_true rfl) hR (by omega) (by omega) (by omega) dX9_change_260 ?_
      obtain ⟨v9, ev9⟩ : ∃ v9 : Int, v9 = (if 0 < (if (((Q.op s) + (y : Int)) - 2) < 60 then (((Q.op s) + (y : Int)) - 2) else 60) then (if (((Q.op s) + (y : Int)) - 2) < 60 then (((Q.op s) + (y : Int)) - 2) else 60) else 0) := ⟨_, rfl⟩
      have hv9 : 0 ≤ v9 ∧ v9 ≤ 60 := by rw [ev9]; exact cut6 _
      skip
      refine x_re (b := v9) (ev9.symm) ?_
      refine x_iast C ((up_n (ne_kd hO hN rfl)).trans hO) ⟨by omega, by omega, by omega⟩ (h1 := (va_up (va_up h nk (xO 8 [.ref (ad 0), .ref b, vi (((dr + 1) + 1) + 1), .ref oa, .ref sl, vi Q.cp, vi Q.rc, .ref ca, .ref la, .ref fa, .ref fo])) oa (xI G Q.n (va_up Q.op s v9)))) rfl dX9_change_263 ?_
      have T2 := T.kept (h1 := (va_up (va_up h nk (xO 8 [.ref (ad 0), .ref b, vi (((dr + 1) + 1) + 1), .ref oa, .ref sl, vi Q.cp, vi Q.rc, .ref ca, .ref la, .ref fa, .ref fo])) oa (xI G Q.n (va_up Q.op s v9)))) (fun i hi => ((up_n (Ne.symm (av1 i hi))).trans ((up_n (Ne.symm (av0 i hi))).trans rfl)))
      refine x_aload_n C dX9_change_264 rfl rfl ?_
      refine x_get C f_Neck_10 ((up_n (ne_kd hN hO rfl)).trans up_s) rfl dX9_change_265 ?_
      refine x_iload C dX9_change_268 rfl ?_
      refine x_aload_n C dX9_change_270 rfl rfl ?_
      refine x_get C f_Neck_16 ((up_n (ne_kd hN hO rfl)).trans up_s) rfl dX9_change_271 ?_
      refine x_iload C dX9_change_274 rfl ?_
      refine x_iald C up_s ⟨by omega, by omega, by omega⟩ (v := ((va_up Q.op s v9) s)) rfl dX9_change_276 ?_
      skip
      refine x_re (b := v9) (up_s) ?_
      refine x_invV C s_Neck_105 (st := []) (c_tune hj T2 (s := s) (by omega) (p := v9) hv9) (TabR.o T2).choose_spec rfl rfl (Nat.le_of_ble_eq_true rfl) (xRm_of hR (by omega) (by decide) (by omega) (by omega)) dX9_change_277 (fun r9 h92 hq => ?_)
      obtain ⟨rfl, T2b, p2⟩ := hq
      refine x_iload_n C dX9_change_280 rfl rfl ?_
      refine x_icmp_ne C (tgt := 288) dX9_change_281 (by decide) ⟨by omega, by omega⟩ ⟨by omega, by omega⟩ (fun c281 => ?_) (fun c281 => ?_)
      · skip
        exfalso; omega
      · skip
        refine x_iconst C dX9_change_284 ?_
        refine x_goto C (tgt := 289) dX9_change_285 (by decide) ?_
        have kS : KpS (EX ad nk oa sl) h h92 := fun x ax sx => (p2 x sx.2.2.2).trans ((up_n (sx.2.1)).trans ((up_n (sx.1)).trans rfl))
        exact x_zret C E rfl (by omega) (by omega) (z := true) dX9_change_289 (⟨rfl, (Q.n, va_up Q.op s v9, Q.sl, Q.cp, Q.rc), P, _, T2b, ⟨oa, ca, la, fa, fo, ln2, ((p2 nk av0).trans ((up_n (ne_kd hN hO rfl)).trans up_s)), ((p2 oa av1).trans up_s), ((p2 sl av2).trans ((up_n av6).trans ((up_n (ne_kd hS hN rfl)).trans hS))), hSv, ChR.kp ⟨cf, hCa, hCr⟩ kS (((p2 ca av3).trans ((up_n (ne_kd hCa hO rfl)).trans ((up_n (ne_kd hCa hN rfl)).trans hCa))).trans hCa.symm), ((p2 la av4).trans ((up_n (Ne.symm av8)).trans ((up_n (ne_kd hLa hN rfl)).trans hLa))), FxR.kp ⟨ff, hFa, hFr⟩ kS (((p2 fa av5).trans ((up_n (ne_kd hFa hO rfl)).trans ((up_n (ne_kd hFa hN rfl)).trans hFa))).trans hFa.symm), ⟨av0, av1, av2, av3, av4, av5, av6, av7, av8, av9⟩, ⟨by omega, by omega⟩, hV⟩, rfl, rfl, by omega⟩)
    · skip
      exfalso; omega
