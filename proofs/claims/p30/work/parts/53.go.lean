/-! Neck.go. -/
/-- a code on n strings -/
def cdG (n x : Nat) : Prop := x < 16777216 ∧ (∀ t, t < 6 → fr x t ≤ 12) ∧ ∀ t, n ≤ t → t < 6 → fr x t = -1
/-- what was found so far -/
def FoundR (G : xG) (h : PH) (A : Nat → Prop) (fo n : Nat) (L : List Nat) : Prop := ∃ f : Nat → Option Nat, h fo = xQ G 3 L.length f ∧ ∀ j, j < L.length → ∃ q u, f j = some q ∧ ¬ A q ∧ h q = xI G n u ∧ ∀ t, t < n → u t = fr (L.getD j 0) t
/-- all that was is kept, but one -/
def KpN (a : Nat) (h h' : PH) : Prop := ∀ x, alv h x → x ≠ a → h' x = h x
theorem KpN.at {a : Nat} {h h' : PH} (k : KpN a h h') {x : Nat} {v : va_E} (e : h x = some v) (n : x ≠ a) : h' x = some v := (k x (alv_of e) n).trans e
theorem Kp.n {a : Nat} {h h' : PH} (k : Kp h h') : KpN a h h' := fun x z _ => k x z
theorem FoundR.keep {G : xG} {h h' : PH} {A : Nat → Prop} {nk fo n : Nat} {L : List Nat} {fs : List Value} (F : FoundR G h A fo n L) (hN : h nk = xO 8 fs) (k : KpN nk h h') : FoundR G h' A fo n L := by
  obtain ⟨f, h1, h2⟩ := F
  refine ⟨f, k.at h1 (fun e => by rw [e, hN] at h1; cases h1), fun j hj => ?_⟩
  obtain ⟨q, u, e1, e2, e3, e4⟩ := h2 j hj
  exact ⟨q, u, e1, e2, k.at e3 (fun e => by rw [e, hN] at e3; cases e3), e4⟩
theorem FoundR.ins {G : xG} {h h' : PH} {A : Nat → Prop} {nk fo' n q c : Nat} {L : List Nat} {fs : List Value} {f f2 : Nat → Option Nat} {w : Nat → Int} (hN : h nk = xO 8 fs) (h2 : ∀ j, j < L.length → ∃ q u, f j = some q ∧ ¬ A q ∧ h q = xI G n u ∧ ∀ t, t < n → u t = fr (L.getD j 0) t) (k : KpN nk h h') (hq : h' q = xI G n w) (nq : ¬ A q) (hw : ∀ t, t < n → w t = fr c t) (h1 : h' fo' = xQ G 3 (L.length + 1) f2) {p : Nat} (hp : posK c L = p) (w1 : ∀ j, j < p → f2 j = f j) (w2 : f2 p = some q) (w3 : ∀ j, p ≤ j → j < L.length → f2 (j + 1) = f j) : FoundR G h' A fo' n (insK c L) := by
  subst hp
  obtain ⟨a, b, d⟩ := insK_get (c := c) L
  have old : ∀ j, j < L.length → ∃ q u, f j = some q ∧ ¬ A q ∧ h' q = xI G n u ∧ ∀ t, t < n → u t = fr (L.getD j 0) t := fun j hj => by
    obtain ⟨q, u, e1, e2, e3, e4⟩ := h2 j hj
    exact ⟨q, u, e1, e2, k.at e3 (fun e => by rw [e, hN] at e3; cases e3), e4⟩
  have pl := posK_le (c := c) L
  refine ⟨f2, by rw [insK_len]; exact h1, fun j hj => ?_⟩
  rw [insK_len] at hj
  by_cases x : j < posK c L
  · obtain ⟨q, u, e1, e2, e3, e4⟩ := old j (by omega)
    exact ⟨q, u, (w1 j x).trans e1, e2, e3, by rw [a j x]; exact e4⟩
  · by_cases y : j = posK c L
    · subst y
      exact ⟨q, w, w2, nq, hq, by rw [b]; exact hw⟩
    · obtain ⟨i, rfl⟩ : ∃ i, j = i + 1 := ⟨j - 1, by omega⟩
      obtain ⟨q, u, e1, e2, e3, e4⟩ := old i (by omega)
      exact ⟨q, u, (w3 i (by omega) (by omega)).trans e1, e2, e3, by rw [d i (by omega)]; exact e4⟩
theorem fe_cd {n c : Nat} {u : Nat → Int} (hu : ∀ t, t < n → u t = fr c t) (hc : cdG n c) : ∀ j, j < 6 → fe u n j = fr c j := fun j hj => by
  by_cases q : j < n
  · rw [fe_i q]; exact hu j q
  · rw [fe_o (by omega)]; exact (hc.2.2 j (by omega) hj).symm
theorem fe_cb {n c : Nat} {u : Nat → Int} (hn : n ≤ 6) (hu : ∀ t, t < n → u t = fr c t) (hc : cdG n c) : ∀ j : Nat, j < n → -1 ≤ u j ∧ u j ≤ 12 := fun j hj => by
  have h1 := hu j hj
  have h2 := hc.2.1 j (by omega)
  have h3 := fr_bd c j
  omega
def goQ (G : xG) (A : Nat → Prop) (h : PH) (nk m sa oa sl ca la fa ga n s : Nat) (dr cp rc : Int) (g : Nat → Int) (Lf : List Nat) : Option Value → PH → Prop := fun r h' => r = none ∧ ∃ (fo' : Nat) (g' : Nat → Int), h' nk = xO 8 [.ref m, .ref sa, vi dr, .ref oa, .ref sl, vi cp, vi rc, .ref ca, .ref la, .ref fa, .ref fo'] ∧ h' ga = xI G n g' ∧ (∀ t, t < s → g' t = g t) ∧ (∀ t, s ≤ t → t < n → g' t = -1) ∧ FoundR G h' A fo' n Lf ∧ ∀ x, alv h x → x ≠ nk → x ≠ ga → h' x = h x
theorem shl_1 : ∀ Ln : Nat, Ln < 5 → I 1 <<< (I (Ln : Int) &&& 31) = I ((2 ^ Ln : Nat) : Int) := by decide +kernel
theorem cd_klt {n a b : Nat} {u v : Nat → Int} (hn : n ≤ 6) (hu : ∀ t, t < n → u t = fr a t) (hv : ∀ t, t < n → v t = fr b t) (ha : cdG n a) (hb : cdG n b) : lexP u v n ↔ a < b := by
  rw [lexP_cong hu hv]
  exact lex_lt hn ha.1 hb.1 (fun s h1 h2 => by rw [ha.2.2 s h1 h2, hb.2.2 s h1 h2])

set_option maxRecDepth 100000 in
set_option maxHeartbeats 4000000 in
theorem c_N_go_0 {G : xG} {A : Nat → Prop} {h : PH} {nk m sa oa sl ca la fa fo ra ga n Ln met c : Nat} {dr cp rc : Int} {p op g : Nat → Int} {L : List Nat} (hN : h nk = xO 8 [.ref m, .ref sa, vi dr, .ref oa, .ref sl, vi cp, vi rc, .ref ca, .ref la, .ref fa, .ref fo]) (hO : h oa = xI G n op) (hRa : h ra = xI G Ln p) (hGa : h ga = xI G n g) (hA : ∀ x, A x → alv h x) (hF : FoundR G h A fo n L) (hLc : ∀ x ∈ L, cdG n x) (hL24 : L.length + 1 ≤ 25) (hn : n ≤ 6) (hLn : Ln < 5) (hmet : met < 16) (hrc : 0 ≤ rc ∧ rc ≤ 100) (hg : ∀ t, t < n → g t = fr c t) (hc : cdG n c)  : Cn G m_Neck_go 8 110 700 [.ref nk, .ref ra, .ref ga, vi ((n : Nat) : Int), vi (met : Int)] h (fun r h' => goQ G A h nk m sa oa sl ca la fa ga n n dr cp rc g (if met = 2 ^ Ln - 1 ∧ hPlay (fr c) rc = true then insK c L else L) r h') := by
  refine Cn_of (by decide) (Nat.le_of_ble_eq_true rfl) (fun K C hR E => ?_)
  obtain ⟨f, hFO, hFL⟩ := id hF
  have hgb := fe_cb hn hg hc
  have hcg := h_cong (fe_cd hg hc)
  have hf : ∀ j, -1 ≤ fe g n j ∧ fe g n j ≤ 12 := fe_rg hgb
  have hf2 : ∀ j, fe g n j ≤ 12 := fun j => (hf j).2
  have hlr := hLow_rg (f := fe g n) hf2
  have hhr := hHigh_rg (f := fe g n) hf2
  have hfr := hFc_rg (fr_fbd c)
  obtain ⟨pw, hpw, hpw1⟩ : ∃ pw : Nat, pw = 2 ^ Ln ∧ 1 ≤ pw ∧ pw ≤ 16 := ⟨_, rfl, Nat.two_pow_pos Ln, pow_le16 Ln hLn⟩
  have hef := hEff_rg (fr_fbd c)
  have hplay : hPlay (fr c) rc = true ↔ hHigh (fe g n) - hLow (fe g n) ≤ rc ∧ hFc (fe g n) ≤ 4 := by rw [← hcg.2.2.2.2 rc]; unfold hPlay; rw [Bool.and_eq_true, decide_eq_true_iff, decide_eq_true_iff]
  have hfc9 := hcg.2.2.2.1
  show X G K 7 0 [some (.ref nk), some (.ref ra), some (.ref ga), some (vi ((n : Nat) : Int)), some (vi (met : Int)), none, none] [] h 0 0
  refine x_iload_n C dX9_go_0 rfl rfl ?_
  refine x_aload_n C dX9_go_1 rfl rfl ?_
  refine x_get C f_Neck_16 hN rfl dX9_go_2 ?_
  refine x_alen C (t := 0) rfl hO dX9_go_5 ?_
  refine x_icmp_ne C (tgt := 147) dX9_go_6 (by decide) ⟨by omega, by omega⟩ ⟨by omega, by omega⟩ (fun c6 => ?_) (fun c6 => ?_)
  · skip
    exfalso; omega
  · skip
    refine x_iload C dX9_go_9 rfl ?_
    refine x_iconst C dX9_go_11 ?_
    refine x_aload_n C dX9_go_12 rfl rfl ?_
    refine x_alen C (t := 0) rfl hRa dX9_go_13 ?_
    refine x_ishl C (c := ((pw : Nat) : Int)) dX9_go_14 (by rw [hpw]; exact shl_1 Ln hLn) ?_
    refine x_iconst C dX9_go_15 ?_
    refine x_isub C dX9_go_16 ?_
    refine x_icmp_ne C (tgt := 44) dX9_go_17 (by decide) ⟨by omega, by omega⟩ ⟨by omega, by omega⟩ (fun c17 => ?_) (fun c17 => ?_)
    · skip
      have hno : ¬ met = 2 ^ Ln - 1 ∨ ¬ hHigh (fe g n) - hLow (fe g n) ≤ rc := Or.inl (by rw [← hpw]; omega)
      exact x_vret C E rfl (by omega) (by omega) dX9_go_44 (⟨rfl, fo, g, hN, hGa, fun _ _ => rfl, fun t z1 z2 => absurd z2 (by omega), by rw [if_neg (fun q => by rcases hno with w | w; exact w q.1; have := hplay.mp q.2; omega)]; exact hF.keep hN (Kp.rfl h).n, fun x z e _ => (Kp.rfl h) x z⟩)
    · skip
      have hm1 : met = 2 ^ Ln - 1 := by rw [← hpw]; omega
      refine x_aload_n C dX9_go_20 rfl rfl ?_
      refine x_invS C s_Neck_123 (st := []) (c_N_high hGa hn hgb) rfl rfl (Nat.le_of_ble_eq_true rfl) (xRm_of hR (by omega) (by decide) (by omega) (by omega)) dX9_go_21 (fun r9 h9 hq => ?_)
      obtain ⟨rfl, e9⟩ := hq
      have e9 := e9.symm
      subst e9
      refine x_aload_n C dX9_go_24 rfl rfl ?_
      refine x_invS C s_Neck_108 (st := [vi (hHigh (fe g n))]) (c_N_low hGa hn hgb) rfl rfl (Nat.le_of_ble_eq_true rfl) (xRm_of hR (by omega) (by decide) (by omega) (by omega)) dX9_go_25 (fun r9 h9 hq => ?_)
      obtain ⟨rfl, e9⟩ := hq
      have e9 := e9.symm
      subst e9
      refine x_isub C dX9_go_28 ?_
      refine x_aload_n C dX9_go_29 rfl rfl ?_
      refine x_get C f_Neck_24 hN rfl dX9_go_30 ?_
      refine x_icmp_gt C (tgt := 44) dX9_go_33 (by decide) ⟨by omega, by omega⟩ ⟨by omega, by omega⟩ (fun c33 => ?_) (fun c33 => ?_)
      · skip
        have hno : ¬ met = 2 ^ Ln - 1 ∨ ¬ hHigh (fe g n) - hLow (fe g n) ≤ rc := Or.inr (by omega)
        exact x_vret C E rfl (by omega) (by omega) dX9_go_44 (⟨rfl, fo, g, hN, hGa, fun _ _ => rfl, fun t z1 z2 => absurd z2 (by omega), by rw [if_neg (fun q => by rcases hno with w | w; exact w q.1; have := hplay.mp q.2; omega)]; exact hF.keep hN (Kp.rfl h).n, fun x z e _ => (Kp.rfl h) x z⟩)
      · skip
        refine x_aload_n C dX9_go_36 rfl rfl ?_
        refine x_invS C s_Neck_126 (st := []) (c_N_count hGa hn hgb) rfl rfl (Nat.le_of_ble_eq_true rfl) (xRm_of hR (by omega) (by decide) (by omega) (by omega)) dX9_go_37 (fun r9 h9 hq => ?_)
        obtain ⟨rfl, hk⟩ := hq
        refine x_iconst C dX9_go_40 ?_
        refine x_icmp_le C (tgt := 45) dX9_go_41 (by decide) ⟨by omega, by omega⟩ (by decide) (fun c41 => ?_) (fun c41 => ?_)
        · skip
          have hyes : met = 2 ^ Ln - 1 ∧ hPlay (fr c) rc = true := ⟨hm1, hplay.mpr ⟨by omega, by omega⟩⟩
          refine x_aload_n C dX9_go_45 rfl rfl ?_
          refine x_alen C (t := 0) rfl (hk.at hGa) dX9_go_46 ?_
          refine x_newI C (n := ((n : Nat) : Int)) ⟨by omega, by omega⟩ arrayClass_int hR (by omega) (by omega) dX9_go_47 (fun q zq => ?_)
          have ne_nk_q : nk ≠ q := fun e => by rw [← e] at zq; exact absurd (zq.symm.trans (hk.at hN)) (by intro h9; cases h9)
          have ne_oa_q : oa ≠ q := fun e => by rw [← e] at zq; exact absurd (zq.symm.trans (hk.at hO)) (by intro h9; cases h9)
          have ne_ra_q : ra ≠ q := fun e => by rw [← e] at zq; exact absurd (zq.symm.trans (hk.at hRa)) (by intro h9; cases h9)
          have ne_ga_q : ga ≠ q := fun e => by rw [← e] at zq; exact absurd (zq.symm.trans (hk.at hGa)) (by intro h9; cases h9)
          have ne_fo_q : fo ≠ q := fun e => by rw [← e] at zq; exact absurd (zq.symm.trans (hk.at hFO)) (by intro h9; cases h9)
          refine x_astore C (ls' := [some (.ref nk), some (.ref ra), some (.ref ga), some (vi ((n : Nat) : Int)), some (vi (met : Int)), some (.ref q), none]) dX9_go_49 (by decide) rfl ?_
          refine x_aload_n C dX9_go_51 rfl rfl ?_
          refine x_iconst C dX9_go_52 ?_
          refine x_aload C dX9_go_53 rfl ?_
          refine x_iconst C dX9_go_55 ?_
          refine x_aload_n C dX9_go_56 rfl rfl ?_
          refine x_alen C (t := 0) rfl ((up_n ne_ga_q).trans (hk.at hGa)) dX9_go_57 ?_
          refine x_copyI C s_Neck_58 native_System_arraycopy static_System_arraycopy i_System ((up_n ne_ga_q).trans (hk.at hGa)) up_s ⟨by omega, by omega, by omega, by omega, by omega, by omega, by omega⟩ (by decide) hR (by omega) (h1' := (va_up h9 q (xI G n (va_cpy g (fun _ => 0) 0 0 n)))) (up_u _ _ _ _) dX9_go_58 ?_
          have hk0 : h9 q = none → h q = none := fun z => by by_cases a9 : h q = none; exact a9; exact absurd z (by rw [hk q a9]; exact a9)
          have nqga : ¬ A q := fun e => hA q e (hk0 zq)
          obtain ⟨w, ew, hw⟩ : ∃ w : Nat → Int, w = va_cpy g (fun _ => 0) 0 0 n ∧ ∀ t, t < n → w t = fr c t := ⟨_, rfl, fun t ht => by unfold va_cpy; rw [if_pos ⟨by omega, by omega⟩, Nat.sub_zero, Nat.zero_add]; exact hg t ht⟩
          rw [← ew]
          have hcw := h_cong (fe_cd hw hc)
          skip
          refine x_iconst C dX9_go_61 ?_
          refine x_istore C (ls' := [some (.ref nk), some (.ref ra), some (.ref ga), some (vi ((n : Nat) : Int)), some (vi (met : Int)), some (.ref q), some (vi 0)]) dX9_go_62 (by decide) rfl ?_
          have L64 : ∀ (n0 : Nat) (k : Nat) (hp : PH) (cc : Nat) (ss : Nat), L.length - k < n0 → (k ≤ L.length) → (∀ j, j < k → klt (L.getD j 0) c) → (Kp h hp) → (hp q = xI G n w) → (cc ≤ 2 + 4 * k ∧ ss ≤ 12 + 24 * k) → X G K 7 64 [some (.ref nk), some (.ref ra), some (.ref ga), some (vi ((n : Nat) : Int)), some (vi (met : Int)), some (.ref q), some (vi (k : Int))] [] hp cc ss := by
            intro n0
            induction n0 with
            | zero => intro k hp cc ss hm; exact absurd hm (Nat.not_lt_zero _)
            | succ n0 ih_L64 =>
              intro k hp cc ss hm i1 i2 K1 K2 r1
              refine x_iload C dX9_go_64 rfl ?_
              refine x_aload_n C dX9_go_66 rfl rfl ?_
              refine x_get C f_Neck_39 (K1.at hN) rfl dX9_go_67 ?_
              refine x_alen C (t := 3) rfl (K1.at hFO) dX9_go_70 ?_
              refine x_icmp_ge C (tgt := 131) dX9_go_71 (by decide) ⟨by omega, by omega⟩ ⟨by omega, by omega⟩ (fun c71 => ?_) (fun c71 => ?_)
              · skip
                have hlt : k < L.length → ¬ klt (L.getD k 0) c := fun q9 => by omega
                refine x_aload_n C dX9_go_131 rfl rfl ?_
                refine x_aload_n C dX9_go_132 rfl rfl ?_
                refine x_get C f_Neck_39 (K1.at hN) rfl dX9_go_133 ?_
                refine x_aload C dX9_go_136 rfl ?_
                refine x_iload C dX9_go_138 rfl ?_
                refine x_invS C s_Neck_83 (st := [.ref nk]) (c_N_with (K1.at hFO) K2 (by omega) (p := k) (by omega) (fun j hj => by obtain ⟨q3, u3, g1, g2, g3, g4⟩ := hFL j hj; exact ⟨q3, n, u3, g1, (K1).at g3⟩)) rfl rfl (Nat.le_of_ble_eq_true rfl) (xRm_of hR (by omega) (by decide) (by omega) (by omega)) dX9_go_140 (fun r9 h96 hq => ?_)
                obtain ⟨q2, f2, rfl, zq2, e9, hw1, hw2, hw3⟩ := hq
                subst e9
                have ne_nk_q2 : nk ≠ q2 := fun e => by rw [← e] at zq2; exact alv_of (K1.at hN) zq2
                have ne_fo_q2 : fo ≠ q2 := fun e => by rw [← e] at zq2; exact alv_of (K1.at hFO) zq2
                have ne_q_q2 : q ≠ q2 := fun e => by rw [← e] at zq2; exact alv_of K2 zq2
                skip
                refine x_put C p_Neck_39 ((up_n ne_nk_q2).trans (K1.at hN)) (fit_arr _ _) (Nat.le_of_ble_eq_true rfl) (h1 := (va_up (va_up hp q2 (xQ G 3 (L.length + 1) f2)) nk (xO 8 [.ref m, .ref sa, vi dr, .ref oa, .ref sl, vi cp, vi rc, .ref ca, .ref la, .ref fa, .ref q2]))) rfl dX9_go_143 ?_
                have hpk : posK c L = k := posK_eq L k i1 i2 (fun hk9 => by have := hlt hk9; exact this)
                exact x_vret C E rfl (by omega) (by omega) dX9_go_146 (⟨rfl, q2, g, up_s, KpN.at (fun x z e => (up_n e).trans ((Kp.up zq2 x ((K1).alv z)).trans (K1 x z))) hGa (fun e => by rw [e, hN] at hGa; cases hGa), fun _ _ => rfl, fun t z1 z2 => absurd z2 (by omega), by rw [if_pos hyes]; exact FoundR.ins hN hFL (fun x z e => (up_n e).trans ((Kp.up zq2 x ((K1).alv z)).trans (K1 x z))) ((up_n (Ne.symm ne_nk_q)).trans ((up_n ne_q_q2).trans K2)) nqga hw ((up_n (Ne.symm ne_nk_q2)).trans up_s) hpk hw1 hw2 hw3, fun x z e _ => (fun x z e => (up_n e).trans ((Kp.up zq2 x ((K1).alv z)).trans (K1 x z))) x z e⟩)
              · skip
                obtain ⟨qk, uk, hf1, hf2k, hf3, hf4⟩ := hFL k (by omega)
                have hck : cdG n (L.getD k 0) := hLc _ (by rw [List.getD_eq_getElem?_getD, List.getElem?_eq_getElem (show k < L.length by omega)]; exact List.getElem_mem _)
                have hf9 := (h_cong (fe_cd hf4 hck)).1
                have hek := hEff_rg (fr_fbd (L.getD k 0))
                have hcw1 := hcw.1
                refine x_aload_n C dX9_go_74 rfl rfl ?_
                refine x_get C f_Neck_39 (K1.at hN) rfl dX9_go_75 ?_
                refine x_iload C dX9_go_78 rfl ?_
                refine x_aald C (t := 3) rfl rfl (K1.at hFO) ⟨by omega, by omega, by omega⟩ (b := qk) hf1 dX9_go_80 ?_
                refine x_invS C s_Neck_129 (st := []) (c_N_effort (K1.at hf3) hn (fe_cb hn hf4 hck)) rfl rfl (Nat.le_of_ble_eq_true rfl) (xRm_of hR (by omega) (by decide) (by omega) (by omega)) dX9_go_81 (fun r9 h91 hq => ?_)
                obtain ⟨rfl, hk1⟩ := hq
                refine x_aload C dX9_go_84 rfl ?_
                refine x_invS C s_Neck_129 (st := [vi (hEff (fe uk n))]) (c_N_effort (hk1.at K2) hn (fe_cb hn hw hc)) rfl rfl (Nat.le_of_ble_eq_true rfl) (xRm_of hR (by omega) (by decide) (by omega) (by omega)) dX9_go_86 (fun r9 h92 hq => ?_)
                obtain ⟨rfl, hk2⟩ := hq
                refine x_icmp_lt C (tgt := 125) dX9_go_89 (by decide) ⟨by omega, by omega⟩ ⟨by omega, by omega⟩ (fun c89 => ?_) (fun c89 => ?_)
                · skip
                  have hlt2 : klt (L.getD k 0) c := Or.inl (by omega)
                  refine x_iinc C (ls' := [some (.ref nk), some (.ref ra), some (.ref ga), some (vi ((n : Nat) : Int)), some (vi (met : Int)), some (.ref q), some (vi ((k : Int) + 1))]) dX9_go_125 rfl (by decide) (z1 := ((k : Int) + 1)) rfl rfl ?_
                  refine x_goto C (tgt := 64) dX9_go_128 (by decide) ?_
                  exact ih_L64 (k + 1) h92 _ _ (by omega) (by omega) (fun j hj => by by_cases w9 : j = k; rw [w9]; exact hlt2; exact i2 j (by omega)) (((K1.trans hk1).trans hk2)) ((hk2.at (hk1.at K2))) (⟨by omega, by omega⟩)
                · skip
                  refine x_aload_n C dX9_go_92 rfl rfl ?_
                  refine x_get C f_Neck_39 (hk2.at (hk1.at (K1.at hN))) rfl dX9_go_93 ?_
                  refine x_iload C dX9_go_96 rfl ?_
                  refine x_aald C (t := 3) rfl rfl (hk2.at (hk1.at (K1.at hFO))) ⟨by omega, by omega, by omega⟩ (b := qk) hf1 dX9_go_98 ?_
                  refine x_invS C s_Neck_129 (st := []) (c_N_effort (hk2.at (hk1.at (K1.at hf3))) hn (fe_cb hn hf4 hck)) rfl rfl (Nat.le_of_ble_eq_true rfl) (xRm_of hR (by omega) (by decide) (by omega) (by omega)) dX9_go_99 (fun r9 h93 hq => ?_)
                  obtain ⟨rfl, hk3⟩ := hq
                  refine x_aload C dX9_go_102 rfl ?_
                  refine x_invS C s_Neck_129 (st := [vi (hEff (fe uk n))]) (c_N_effort (hk3.at (hk2.at (hk1.at K2))) hn (fe_cb hn hw hc)) rfl rfl (Nat.le_of_ble_eq_true rfl) (xRm_of hR (by omega) (by decide) (by omega) (by omega)) dX9_go_104 (fun r9 h94 hq => ?_)
                  obtain ⟨rfl, hk4⟩ := hq
                  refine x_icmp_ne C (tgt := 131) dX9_go_107 (by decide) ⟨by omega, by omega⟩ ⟨by omega, by omega⟩ (fun c107 => ?_) (fun c107 => ?_)
                  · skip
                    have hlt : k < L.length → ¬ klt (L.getD k 0) c := fun q9 w9 => by unfold klt at w9; omega
                    refine x_aload_n C dX9_go_131 rfl rfl ?_
                    refine x_aload_n C dX9_go_132 rfl rfl ?_
                    refine x_get C f_Neck_39 (hk4.at (hk3.at (hk2.at (hk1.at (K1.at hN))))) rfl dX9_go_133 ?_
                    refine x_aload C dX9_go_136 rfl ?_
                    refine x_iload C dX9_go_138 rfl ?_
                    refine x_invS C s_Neck_83 (st := [.ref nk]) (c_N_with (hk4.at (hk3.at (hk2.at (hk1.at (K1.at hFO))))) (hk4.at (hk3.at (hk2.at (hk1.at K2)))) (by omega) (p := k) (by omega) (fun j hj => by obtain ⟨q3, u3, g1, g2, g3, g4⟩ := hFL j hj; exact ⟨q3, n, u3, g1, (((((K1.trans hk1).trans hk2).trans hk3).trans hk4)).at g3⟩)) rfl rfl (Nat.le_of_ble_eq_true rfl) (xRm_of hR (by omega) (by decide) (by omega) (by omega)) dX9_go_140 (fun r9 h96 hq => ?_)
                    obtain ⟨q2, f2, rfl, zq2, e9, hw1, hw2, hw3⟩ := hq
                    subst e9
                    have ne_nk_q2 : nk ≠ q2 := fun e => by rw [← e] at zq2; exact alv_of (hk4.at (hk3.at (hk2.at (hk1.at (K1.at hN))))) zq2
                    have ne_fo_q2 : fo ≠ q2 := fun e => by rw [← e] at zq2; exact alv_of (hk4.at (hk3.at (hk2.at (hk1.at (K1.at hFO))))) zq2
                    have ne_q_q2 : q ≠ q2 := fun e => by rw [← e] at zq2; exact alv_of (hk4.at (hk3.at (hk2.at (hk1.at K2)))) zq2
                    have ne_qk_q2 : qk ≠ q2 := fun e => by rw [← e] at zq2; exact alv_of (hk4.at (hk3.at (hk2.at (hk1.at (K1.at hf3))))) zq2
                    skip
                    refine x_put C p_Neck_39 ((up_n ne_nk_q2).trans (hk4.at (hk3.at (hk2.at (hk1.at (K1.at hN)))))) (fit_arr _ _) (Nat.le_of_ble_eq_true rfl) (h1 := (va_up (va_up h94 q2 (xQ G 3 (L.length + 1) f2)) nk (xO 8 [.ref m, .ref sa, vi dr, .ref oa, .ref sl, vi cp, vi rc, .ref ca, .ref la, .ref fa, .ref q2]))) rfl dX9_go_143 ?_
                    have hpk : posK c L = k := posK_eq L k i1 i2 (fun hk9 => by have := hlt hk9; exact this)
                    exact x_vret C E rfl (by omega) (by omega) dX9_go_146 (⟨rfl, q2, g, up_s, KpN.at (fun x z e => (up_n e).trans ((Kp.up zq2 x ((((((K1.trans hk1).trans hk2).trans hk3).trans hk4)).alv z)).trans (((((K1.trans hk1).trans hk2).trans hk3).trans hk4) x z))) hGa (fun e => by rw [e, hN] at hGa; cases hGa), fun _ _ => rfl, fun t z1 z2 => absurd z2 (by omega), by rw [if_pos hyes]; exact FoundR.ins hN hFL (fun x z e => (up_n e).trans ((Kp.up zq2 x ((((((K1.trans hk1).trans hk2).trans hk3).trans hk4)).alv z)).trans (((((K1.trans hk1).trans hk2).trans hk3).trans hk4) x z))) ((up_n (Ne.symm ne_nk_q)).trans ((up_n ne_q_q2).trans (hk4.at (hk3.at (hk2.at (hk1.at K2)))))) nqga hw ((up_n (Ne.symm ne_nk_q2)).trans up_s) hpk hw1 hw2 hw3, fun x z e _ => (fun x z e => (up_n e).trans ((Kp.up zq2 x ((((((K1.trans hk1).trans hk2).trans hk3).trans hk4)).alv z)).trans (((((K1.trans hk1).trans hk2).trans hk3).trans hk4) x z))) x z e⟩)
                  · skip
                    refine x_aload_n C dX9_go_110 rfl rfl ?_
                    refine x_get C f_Neck_39 (hk4.at (hk3.at (hk2.at (hk1.at (K1.at hN))))) rfl dX9_go_111 ?_
                    refine x_iload C dX9_go_114 rfl ?_
                    refine x_aald C (t := 3) rfl rfl (hk4.at (hk3.at (hk2.at (hk1.at (K1.at hFO))))) ⟨by omega, by omega, by omega⟩ (b := qk) hf1 dX9_go_116 ?_
                    refine x_aload C dX9_go_117 rfl ?_
                    refine x_invS C s_Neck_132 (st := []) (c_N_isSmaller (hk4.at (hk3.at (hk2.at (hk1.at (K1.at hf3))))) (hk4.at (hk3.at (hk2.at (hk1.at K2)))) hn (fe_cb hn hf4 hck) (fe_cb hn hw hc)) rfl rfl (Nat.le_of_ble_eq_true rfl) (xRm_of hR (by omega) (by decide) (by omega) (by omega)) dX9_go_119 (fun r9 h95 hq => ?_)
                    obtain ⟨y, rfl, hy, e9⟩ := hq
                    have e9 := e9.symm
                    subst e9
                    refine x_ifeqB C (tgt := 131) dX9_go_122 (by decide) (fun c122 => ?_) (fun c122 => ?_)
                    · skip
                      have hlt : k < L.length → ¬ klt (L.getD k 0) c := fun q9 w9 => by have z9 : ¬ L.getD k 0 < c := (fun z => by rw [hy.mpr ((cd_klt hn hf4 hw hck hc).mpr z)] at c122; cases c122); unfold klt at w9; omega
                      refine x_aload_n C dX9_go_131 rfl rfl ?_
                      refine x_aload_n C dX9_go_132 rfl rfl ?_
                      refine x_get C f_Neck_39 (hk4.at (hk3.at (hk2.at (hk1.at (K1.at hN))))) rfl dX9_go_133 ?_
                      refine x_aload C dX9_go_136 rfl ?_
                      refine x_iload C dX9_go_138 rfl ?_
                      refine x_invS C s_Neck_83 (st := [.ref nk]) (c_N_with (hk4.at (hk3.at (hk2.at (hk1.at (K1.at hFO))))) (hk4.at (hk3.at (hk2.at (hk1.at K2)))) (by omega) (p := k) (by omega) (fun j hj => by obtain ⟨q3, u3, g1, g2, g3, g4⟩ := hFL j hj; exact ⟨q3, n, u3, g1, (((((K1.trans hk1).trans hk2).trans hk3).trans hk4)).at g3⟩)) rfl rfl (Nat.le_of_ble_eq_true rfl) (xRm_of hR (by omega) (by decide) (by omega) (by omega)) dX9_go_140 (fun r9 h96 hq => ?_)
                      obtain ⟨q2, f2, rfl, zq2, e9, hw1, hw2, hw3⟩ := hq
                      subst e9
                      have ne_nk_q2 : nk ≠ q2 := fun e => by rw [← e] at zq2; exact alv_of (hk4.at (hk3.at (hk2.at (hk1.at (K1.at hN))))) zq2
                      have ne_fo_q2 : fo ≠ q2 := fun e => by rw [← e] at zq2; exact alv_of (hk4.at (hk3.at (hk2.at (hk1.at (K1.at hFO))))) zq2
                      have ne_q_q2 : q ≠ q2 := fun e => by rw [← e] at zq2; exact alv_of (hk4.at (hk3.at (hk2.at (hk1.at K2)))) zq2
                      have ne_qk_q2 : qk ≠ q2 := fun e => by rw [← e] at zq2; exact alv_of (hk4.at (hk3.at (hk2.at (hk1.at (K1.at hf3))))) zq2
                      skip
                      refine x_put C p_Neck_39 ((up_n ne_nk_q2).trans (hk4.at (hk3.at (hk2.at (hk1.at (K1.at hN)))))) (fit_arr _ _) (Nat.le_of_ble_eq_true rfl) (h1 := (va_up (va_up h94 q2 (xQ G 3 (L.length + 1) f2)) nk (xO 8 [.ref m, .ref sa, vi dr, .ref oa, .ref sl, vi cp, vi rc, .ref ca, .ref la, .ref fa, .ref q2]))) rfl dX9_go_143 ?_
                      have hpk : posK c L = k := posK_eq L k i1 i2 (fun hk9 => by have := hlt hk9; exact this)
                      exact x_vret C E rfl (by omega) (by omega) dX9_go_146 (⟨rfl, q2, g, up_s, KpN.at (fun x z e => (up_n e).trans ((Kp.up zq2 x ((((((K1.trans hk1).trans hk2).trans hk3).trans hk4)).alv z)).trans (((((K1.trans hk1).trans hk2).trans hk3).trans hk4) x z))) hGa (fun e => by rw [e, hN] at hGa; cases hGa), fun _ _ => rfl, fun t z1 z2 => absurd z2 (by omega), by rw [if_pos hyes]; exact FoundR.ins hN hFL (fun x z e => (up_n e).trans ((Kp.up zq2 x ((((((K1.trans hk1).trans hk2).trans hk3).trans hk4)).alv z)).trans (((((K1.trans hk1).trans hk2).trans hk3).trans hk4) x z))) ((up_n (Ne.symm ne_nk_q)).trans ((up_n ne_q_q2).trans (hk4.at (hk3.at (hk2.at (hk1.at K2)))))) nqga hw ((up_n (Ne.symm ne_nk_q2)).trans up_s) hpk hw1 hw2 hw3, fun x z e _ => (fun x z e => (up_n e).trans ((Kp.up zq2 x ((((((K1.trans hk1).trans hk2).trans hk3).trans hk4)).alv z)).trans (((((K1.trans hk1).trans hk2).trans hk3).trans hk4) x z))) x z e⟩)
                    · skip
                      have hlt2 : klt (L.getD k 0) c := Or.inr ⟨by omega, (cd_klt hn hf4 hw hck hc).mp (hy.mp c122)⟩
                      refine x_iinc C (ls' := [some (.ref nk), some (.ref ra), some (.ref ga), some (vi ((n : Nat) : Int)), some (vi (met : Int)), some (.ref q), some (vi ((k : Int) + 1))]) dX9_go_125 rfl (by decide) (z1 := ((k : Int) + 1)) rfl rfl ?_
                      refine x_goto C (tgt := 64) dX9_go_128 (by decide) ?_
                      exact ih_L64 (k + 1) h94 _ _ (by omega) (by omega) (fun j hj => by by_cases w9 : j = k; rw [w9]; exact hlt2; exact i2 j (by omega)) (((((K1.trans hk1).trans hk2).trans hk3).trans hk4)) ((hk4.at (hk3.at (hk2.at (hk1.at K2))))) (⟨by omega, by omega⟩)
          exact L64 _ 0 (va_up h9 q (xI G n w)) _ _ (Nat.lt_succ_self _) (Nat.zero_le _) (fun j hj => absurd hj (Nat.not_lt_zero _)) (Kp.ups hk (hk0 zq)) (up_s) (⟨by omega, by omega⟩)
        · skip
          exact x_vret C E rfl (by omega) (by omega) dX9_go_44 (⟨rfl, fo, g, (hk.at hN), (hk.at hGa), fun _ _ => rfl, fun t z1 z2 => absurd z2 (by omega), by rw [if_neg (fun q => by have := hplay.mp q.2; omega)]; exact hF.keep hN hk.n, fun x z e _ => hk x z⟩)

set_option maxRecDepth 100000 in
set_option maxHeartbeats 4000000 in
theorem c_N_go_n {G : xG} {A : Nat → Prop} {h : PH} {nk m sa oa sl ca la fa fo ra ga n Ln met c : Nat} {dr cp rc : Int} {p op g : Nat → Int} {L : List Nat} (hN : h nk = xO 8 [.ref m, .ref sa, vi dr, .ref oa, .ref sl, vi cp, vi rc, .ref ca, .ref la, .ref fa, .ref fo]) (hO : h oa = xI G n op) (hRa : h ra = xI G Ln p) (hGa : h ga = xI G n g) (hA : ∀ x, A x → alv h x) (hF : FoundR G h A fo n L) (hLc : ∀ x ∈ L, cdG n x) (hL24 : L.length + 1 ≤ 25) (hn : n ≤ 6) (hLn : Ln < 5) (hmet : met < 16) (hrc : 0 ≤ rc ∧ rc ≤ 100) (hg : ∀ t, t < n → g t = fr c t) (hc : cdG n c) (hnf : ¬ met = 2 ^ Ln - 1)  : Cn G m_Neck_go 8 0 0 [.ref nk, .ref ra, .ref ga, vi ((n : Nat) : Int), vi (met : Int)] h (fun r h' => goQ G A h nk m sa oa sl ca la fa ga n n dr cp rc g L r h') := by
  refine Cn_of (by decide) (Nat.le_of_ble_eq_true rfl) (fun K C hR E => ?_)
  obtain ⟨f, hFO, hFL⟩ := id hF
  have hgb := fe_cb hn hg hc
  have hcg := h_cong (fe_cd hg hc)
  have hf : ∀ j, -1 ≤ fe g n j ∧ fe g n j ≤ 12 := fe_rg hgb
  have hf2 : ∀ j, fe g n j ≤ 12 := fun j => (hf j).2
  have hlr := hLow_rg (f := fe g n) hf2
  have hhr := hHigh_rg (f := fe g n) hf2
  have hfr := hFc_rg (fr_fbd c)
  obtain ⟨pw, hpw, hpw1⟩ : ∃ pw : Nat, pw = 2 ^ Ln ∧ 1 ≤ pw ∧ pw ≤ 16 := ⟨_, rfl, Nat.two_pow_pos Ln, pow_le16 Ln hLn⟩
  have hef := hEff_rg (fr_fbd c)
  have hplay : hPlay (fr c) rc = true ↔ hHigh (fe g n) - hLow (fe g n) ≤ rc ∧ hFc (fe g n) ≤ 4 := by rw [← hcg.2.2.2.2 rc]; unfold hPlay; rw [Bool.and_eq_true, decide_eq_true_iff, decide_eq_true_iff]
  have hfc9 := hcg.2.2.2.1
  show X G K 7 0 [some (.ref nk), some (.ref ra), some (.ref ga), some (vi ((n : Nat) : Int)), some (vi (met : Int)), none, none] [] h 0 0
  refine x_iload_n C dX9_go_0 rfl rfl ?_
  refine x_aload_n C dX9_go_1 rfl rfl ?_
  refine x_get C f_Neck_16 hN rfl dX9_go_2 ?_
  refine x_alen C (t := 0) rfl hO dX9_go_5 ?_
  refine x_icmp_ne C (tgt := 147) dX9_go_6 (by decide) ⟨by omega, by omega⟩ ⟨by omega, by omega⟩ (fun c6 => ?_) (fun c6 => ?_)
  · skip
    exfalso; omega
  · skip
    refine x_iload C dX9_go_9 rfl ?_
    refine x_iconst C dX9_go_11 ?_
    refine x_aload_n C dX9_go_12 rfl rfl ?_
    refine x_alen C (t := 0) rfl hRa dX9_go_13 ?_
    refine x_ishl C (c := ((pw : Nat) : Int)) dX9_go_14 (by rw [hpw]; exact shl_1 Ln hLn) ?_
    refine x_iconst C dX9_go_15 ?_
    refine x_isub C dX9_go_16 ?_
    refine x_icmp_ne C (tgt := 44) dX9_go_17 (by decide) ⟨by omega, by omega⟩ ⟨by omega, by omega⟩ (fun c17 => ?_) (fun c17 => ?_)
    · skip
      exact x_vret C E rfl (by omega) (by omega) dX9_go_44 (⟨rfl, fo, g, hN, hGa, fun _ _ => rfl, fun t z1 z2 => absurd z2 (by omega), hF, fun _ _ _ _ => rfl⟩)
    · skip
      exfalso; exact hnf (by rw [← hpw]; omega)
