/-! Neck.grips. -/
/-- cells of two kinds lie apart -/
def kd : va_E → Nat
  | .inr _ => 0
  | .inl (_, _, .inl _) => 1
  | .inl (_, _, .inr (.inl _)) => 2
  | _ => 3
theorem ne_kd {h : PH} {a b : Nat} {x y : va_E} (ha : h a = some x) (hb : h b = some y) (hn : Nat.beq (kd x) (kd y) = false) : a ≠ b := fun e => by
  rw [e, hb] at ha
  rw [Option.some.inj ha] at hn
  exact absurd (Nat.beq_refl _) (by rw [hn]; decide)
/-- rows that hold the frets of these codes -/
def RowsR (G : xG) (h0 h : PH) (q n : Nat) (L : List Nat) : Prop := ∃ f : Nat → Option Nat, h q = xQ G 3 L.length f ∧ ∀ j, j < L.length → ∃ q2 u, f j = some q2 ∧ h0 q2 = none ∧ h q2 = xI G n u ∧ ∀ t, t < n → u t = fr (L.getD j 0) t
theorem RowsR.keep {G : xG} {h0 h h' : PH} {q n : Nat} {L : List Nat} (F : RowsR G h0 h q n L) (k : Kp h h') : RowsR G h0 h' q n L := by
  obtain ⟨f, h1, h2⟩ := F
  refine ⟨f, k.at h1, fun j hj => ?_⟩
  obtain ⟨q2, u, e1, e0, e2, e3⟩ := h2 j hj
  exact ⟨q2, u, e1, e0, k.at e2, e3⟩
theorem take_getD {L : List Nat} {k j : Nat} (h : j < (L.take k).length) : (L.take k).getD j 0 = L.getD j 0 := by
  rw [List.length_take] at h
  rw [List.getD_eq_getElem?_getD, List.getD_eq_getElem?_getD, List.getElem?_take, if_pos (by omega)]

set_option maxRecDepth 100000 in
set_option maxHeartbeats 4000000 in
theorem c_N_grips {G : xG} {h : PH} {nk m sa oa sl ca la fa fo ra n Ln cn c : Nat} {dr cp rc : Int} {p op : Nat → Int} {slk : Nat → Bool} {cf : Nat → Option Nat} (hN : h nk = xO 8 [.ref m, .ref sa, vi dr, .ref oa, .ref sl, vi cp, vi rc, .ref ca, .ref la, .ref fa, .ref fo]) (hO : h oa = xI G n op) (hS : h sl = xZ G 6 slk) (hCa : h ca = xQ G 3 cn cf) (hcl : c < cn ∧ cn < 100) (hcr : cf c = some ra) (hRa : h ra = xI G Ln p) (hV : goV Ln n p op cp rc) (hn4 : n < 5)  : Cn G m_Neck_grips 14 2650 16900 [.ref nk, vi (c : Int)] h (fun r h' => ∃ q fo', r = some (.ref q) ∧ h' nk = xO 8 [.ref m, .ref sa, vi dr, .ref oa, .ref sl, vi cp, vi rc, .ref ca, .ref la, .ref fa, .ref fo'] ∧ RowsR G h h' q n ((nkL p Ln n op slk cp rc).take 30) ∧ h q = none ∧ KpN nk h h') := by
  refine Cn_of (by decide) (Nat.le_of_ble_eq_true rfl) (fun K C hR E => ?_)
  obtain ⟨v1, v2, v3, v4, v5, v6⟩ := id hV
  have hB := Bd_24 Ln v2 n hn4
  have hp0 := Nat.two_pow_pos Ln
  show X G K 3 0 [some (.ref nk), some (vi (c : Int)), none] [] h 0 0
  refine x_aload_n C dX9_grips_0 rfl rfl ?_
  refine x_iconst C dX9_grips_1 ?_
  refine x_newA C (n := 0) ⟨by omega, by omega⟩ a_Neck_28 (by decide) hR (by omega) (by omega) dX9_grips_2 (fun e0 ze0 => ?_)
  have ne_nk_e0 : nk ≠ e0 := fun e => by rw [← e] at ze0; exact absurd (ze0.symm.trans hN) (by intro h9; cases h9)
  have ne_oa_e0 : oa ≠ e0 := fun e => by rw [← e] at ze0; exact absurd (ze0.symm.trans hO) (by intro h9; cases h9)
  have ne_sl_e0 : sl ≠ e0 := fun e => by rw [← e] at ze0; exact absurd (ze0.symm.trans hS) (by intro h9; cases h9)
  have ne_ca_e0 : ca ≠ e0 := fun e => by rw [← e] at ze0; exact absurd (ze0.symm.trans hCa) (by intro h9; cases h9)
  have ne_ra_e0 : ra ≠ e0 := fun e => by rw [← e] at ze0; exact absurd (ze0.symm.trans hRa) (by intro h9; cases h9)
  refine x_put C p_Neck_39 ((up_n ne_nk_e0).trans hN) (fit_arr _ _) (Nat.le_of_ble_eq_true rfl) (h1 := (va_up (va_up h e0 (xQ G 3 0 (fun _ => none))) nk (xO 8 [.ref m, .ref sa, vi dr, .ref oa, .ref sl, vi cp, vi rc, .ref ca, .ref la, .ref fa, .ref e0]))) rfl dX9_grips_5 ?_
  refine x_aload_n C dX9_grips_8 rfl rfl ?_
  refine x_aload_n C dX9_grips_9 rfl rfl ?_
  refine x_get C f_Neck_29 up_s rfl dX9_grips_10 ?_
  refine x_iload_n C dX9_grips_13 rfl rfl ?_
  refine x_aald C (t := 3) rfl rfl ((up_n (ne_kd hCa hN rfl)).trans ((up_n ne_ca_e0).trans hCa)) ⟨by omega, by omega, by omega⟩ (b := ra) hcr dX9_grips_14 ?_
  refine x_aload_n C dX9_grips_15 rfl rfl ?_
  refine x_get C f_Neck_16 up_s rfl dX9_grips_16 ?_
  refine x_alen C (t := 0) rfl ((up_n (ne_kd hO hN rfl)).trans ((up_n ne_oa_e0).trans hO)) dX9_grips_19 ?_
  refine x_newI C (n := ((n : Nat) : Int)) ⟨by omega, by omega⟩ arrayClass_int hR (by omega) (by omega) dX9_grips_20 (fun ga zga => ?_)
  have ne_nk_ga : nk ≠ ga := fun e => by rw [← e] at zga; exact absurd (zga.symm.trans up_s) (by intro h9; cases h9)
  have ne_oa_ga : oa ≠ ga := fun e => by rw [← e] at zga; exact absurd (zga.symm.trans ((up_n (ne_kd hO hN rfl)).trans ((up_n ne_oa_e0).trans hO))) (by intro h9; cases h9)
  have ne_sl_ga : sl ≠ ga := fun e => by rw [← e] at zga; exact absurd (zga.symm.trans ((up_n (ne_kd hS hN rfl)).trans ((up_n ne_sl_e0).trans hS))) (by intro h9; cases h9)
  have ne_ca_ga : ca ≠ ga := fun e => by rw [← e] at zga; exact absurd (zga.symm.trans ((up_n (ne_kd hCa hN rfl)).trans ((up_n ne_ca_e0).trans hCa))) (by intro h9; cases h9)
  have ne_ra_ga : ra ≠ ga := fun e => by rw [← e] at zga; exact absurd (zga.symm.trans ((up_n (ne_kd hRa hN rfl)).trans ((up_n ne_ra_e0).trans hRa))) (by intro h9; cases h9)
  have ne_e0_ga : e0 ≠ ga := fun e => by rw [← e] at zga; exact absurd (zga.symm.trans ((up_n (Ne.symm ne_nk_e0)).trans up_s)) (by intro h9; cases h9)
  obtain ⟨hcA, ehcA⟩ : ∃ B : Nat → Prop, B = alv (va_up (va_up (va_up h e0 (xQ G 3 0 (fun _ => none))) nk (xO 8 [.ref m, .ref sa, vi dr, .ref oa, .ref sl, vi cp, vi rc, .ref ca, .ref la, .ref fa, .ref e0])) ga (xI G n (fun _ => 0))) := ⟨_, rfl⟩
  have hcAg : hcA ga := by rw [ehcA]; exact alv_of up_s
  have hcAa : ∀ x, hcA x → alv (va_up (va_up (va_up h e0 (xQ G 3 0 (fun _ => none))) nk (xO 8 [.ref m, .ref sa, vi dr, .ref oa, .ref sl, vi cp, vi rc, .ref ca, .ref la, .ref fa, .ref e0])) ga (xI G n (fun _ => 0))) x := fun x a => by rw [ehcA] at a; exact a
  have hcA0 : ∀ x, ¬ hcA x → h x = none := fun x a => by
    by_cases z : h x = none
    · exact z
    · exact absurd (by rw [ehcA]; exact alv_up (alv_up (alv_up z))) a
  have hga0 : h ga = none := by rw [up_n ne_nk_ga.symm, up_n ne_e0_ga.symm] at zga; exact zga
  refine x_iconst C dX9_grips_22 ?_
  refine x_iconst C dX9_grips_23 ?_
  refine x_invV C s_Neck_136 (st := []) (go_ok n ((up_n ne_nk_ga).trans up_s) ((up_n ne_oa_ga).trans ((up_n (ne_kd hO hN rfl)).trans ((up_n ne_oa_e0).trans hO))) ((up_n ne_sl_ga).trans ((up_n (ne_kd hS hN rfl)).trans ((up_n ne_sl_e0).trans hS))) ((up_n ne_ra_ga).trans ((up_n (ne_kd hRa hN rfl)).trans ((up_n ne_ra_e0).trans hRa))) up_s ⟨Ne.symm ne_oa_ga, Ne.symm ne_ra_ga, Ne.symm ne_sl_ga⟩ ⟨hcAg, hcAa⟩ (L := []) ⟨fun _ => none, ((up_n ne_e0_ga).trans ((up_n (Ne.symm ne_nk_e0)).trans up_s)), fun j hj => absurd hj (Nat.not_lt_zero _)⟩ (fun x hx => by cases hx) (by simp only [List.length_nil]; omega) hV (by omega) (s := 0) (met := 0) (c := 0) hp0 (fun t ht => absurd ht (Nat.not_lt_zero _)) ⟨by decide, fun t _ => by rw [fr_0]; decide, fun t _ _ => fr_0 t⟩ (fun t _ _ => fr_0 t)) ((up_n ne_nk_ga).trans up_s) rfl rfl (Nat.le_of_ble_eq_true rfl) (xRm_of hR (by omega) (by decide) (by omega) (by omega)) dX9_grips_24 (fun r9 h9 hq => ?_)
  obtain ⟨rfl, fo1, g1, H1, H2, G1, G2, HF, K0⟩ := hq
  obtain ⟨LL, hLL⟩ : ∃ LL, LL = (nkL p Ln n op slk cp rc) := ⟨_, rfl⟩
  have HF2 : FoundR G h9 hcA fo1 n LL := by rw [hLL]; exact HF
  obtain ⟨f, F1, F2⟩ := HF2
  have a3 : LL.length = (foF rc (aS p Ln op slk cp n 0 0 0) []).length := by rw [hLL]; rfl
  have hl24 : LL.length ≤ 24 := by have a1 := foF_len rc (aS p Ln op slk cp n 0 0 0) []; have a2 := aS_len p Ln op slk cp n 0 0 0; simp only [List.length_nil] at a1; omega
  obtain ⟨mn, hmn⟩ : ∃ mn : Nat, mn = (LL.take 30).length := ⟨_, rfl⟩
  have hmn2 : mn = LL.length := by rw [hmn, List.length_take]; omega
  have KN : KpN nk h h9 := fun x z e => by
    have w0 : x ≠ e0 := fun a => by rw [a] at z; exact z ze0
    have w1 : x ≠ ga := fun a => by rw [a] at z; exact z hga0
    rw [K0 x (by show _ ≠ none; rw [up_n w1, up_n e, up_n w0]; exact z) e w1, up_n w1, up_n e, up_n w0]
  refine x_bipush C (z := 30) dX9_grips_27 (by decide) ?_
  refine x_aload_n C dX9_grips_29 rfl rfl ?_
  refine x_get C f_Neck_39 H1 rfl dX9_grips_30 ?_
  refine x_alen C (t := 3) rfl F1 dX9_grips_33 ?_
  refine x_min C s_Neck_68 static_Math_min i_Math code_Math_min (by decide) ⟨by omega, by omega⟩ (Nat.le_of_ble_eq_true rfl) hR (by omega) (by omega) (by omega) dX9_grips_34 ?_
  refine x_re (b := ((mn : Nat) : Int)) (by rw [hmn2]; split <;> omega) ?_
  refine x_newA C (n := ((mn : Nat) : Int)) ⟨by omega, by omega⟩ a_Neck_28 (by decide) hR (by omega) (by omega) dX9_grips_37 (fun q zq => ?_)
  have ne_nk_q : nk ≠ q := fun e => by rw [← e] at zq; exact absurd (zq.symm.trans H1) (by intro h9; cases h9)
  have ne_fo1_q : fo1 ≠ q := fun e => by rw [← e] at zq; exact absurd (zq.symm.trans F1) (by intro h9; cases h9)
  refine x_astore_n C (ls' := [some (.ref nk), some (vi (c : Int)), some (.ref q)]) dX9_grips_40 rfl (by decide) rfl ?_
  refine x_aload_n C dX9_grips_41 rfl rfl ?_
  refine x_get C f_Neck_39 ((up_n ne_nk_q).trans H1) rfl dX9_grips_42 ?_
  refine x_iconst C dX9_grips_45 ?_
  refine x_aload_n C dX9_grips_46 rfl rfl ?_
  refine x_iconst C dX9_grips_47 ?_
  refine x_aload_n C dX9_grips_48 rfl rfl ?_
  refine x_alen C (t := 3) rfl up_s dX9_grips_49 ?_
  refine x_copyA C s_Neck_58 native_System_arraycopy static_System_arraycopy i_System ((up_n ne_fo1_q).trans F1) up_s ⟨by omega, by omega, by omega, by omega, by omega, by omega, by omega⟩ (fun i hi y hy => by obtain ⟨q2, u2, e1, e2, e3, e4⟩ := F2 i (by omega); rw [show Int.toNat 0 + i = i by omega] at hy; cases e1.symm.trans hy; exact ⟨n, u2, (up_n (Kp.ne e3 zq)).trans e3⟩) (by decide) hR (by omega) (h1' := (va_up h9 q (xQ G 3 mn (va_cpy f (fun _ => none) 0 0 mn)))) (up_u _ _ _ _) dX9_grips_50 ?_
  refine x_aload_n C dX9_grips_53 rfl rfl ?_
  exact x_aret C E rfl (by first | exact Or.inl ⟨_, rfl⟩ | exact Or.inr ⟨_, rfl⟩) (by omega) (by omega) dX9_grips_54 (⟨q, fo1, rfl, ((up_n ne_nk_q).trans H1), ⟨_, (by rw [← hLL, ← hmn]; exact up_s), fun j hj => by rw [← hLL] at hj; obtain ⟨q2, u2, e1, e2, e3, e4⟩ := F2 j (by omega); exact ⟨q2, u2, (by unfold va_cpy; rw [if_pos ⟨by omega, by omega⟩, Nat.sub_zero, Nat.zero_add]; exact e1), hcA0 _ e2, (up_n (Kp.ne e3 zq)).trans e3, by rw [← hLL, take_getD hj]; exact e4⟩⟩, (by by_cases a9 : h q = none; exact a9; exact absurd zq (by by_cases b9 : q = nk; rw [b9, H1]; exact fun z => (by cases z); rw [KN q a9 b9]; exact a9)), fun x z e => (up_n (fun a => by rw [a] at z; exact absurd zq (by rw [KN q z (fun b => e (a.trans b))]; exact z))).trans (KN x z e)⟩)
