/-! Neck.found, Neck's constructor. -/
theorem NkR.o {G : xG} {h : PH} {ad : Nat → Nat} {nk b sl : Nat} {dr : Int} {Q : Ins} {P : Pie} (N : NkR G h ad nk b sl dr Q P) : ∃ fs, h nk = xO 8 fs := by
  obtain ⟨oa, ca, la, fa, fo, ln2, hN, -⟩ := N
  exact ⟨_, hN⟩
theorem NP.mono {G : xG} {h : PH} {ad : Nat → Nat} {nk b sl n m n' m' : Nat} {d d' : Int} (N : NP G h ad nk b sl n m d) (hn : n = n') (hm : m = m') (hd : d ≤ d') : NP G h ad nk b sl n' m' d' := by
  obtain ⟨Q, P, e, T, K, a, b, c⟩ := N
  exact ⟨Q, P, e, T, K, a.trans hn, b.trans hm, Int.le_trans c hd⟩

set_option maxRecDepth 100000 in
set_option maxHeartbeats 4000000 in
theorem c_N_found {G : xG} {h : PH} {ad : Nat → Nat} {nk b L sl : Nat} {dr : Int} {xs : Nat → Int32} (hj : ∀ i j, i < 300 → j < 300 → ad i = ad j → i = j) (N0 : NP G h ad nk b sl 0 0 dr) (hdr : dr < 80000) {ns ms : Nat} (hns : 0 < ns ∧ ns ≤ 6) (hms : ms ≤ 12) : Sn G (b, L, xs) m_Neck_found 5 (6 + 12 * 12) (6 * 7 + 12 * 70) [.ref nk, vi (ns : Int), vi (ms : Int)] h (fun r h' => r = some (vi (b2i true)) ∧ NP G h' ad nk b sl ns ms (dr + 300)) := by
  refine Sn_of (by decide) (Nat.le_of_ble_eq_true rfl) (fun K C hR E hX hbl hL => ?_)
  have hX : va_X b L xs (ks K) (ks K).heap := hX
  have hbl : b < gN G := hbl
  have hL : L ≤ 260 := hL
  show X G K 4 0 [some (.ref nk), some (vi (ns : Int)), some (vi (ms : Int)), none] [] h 0 0
  refine x_iconst C dX9_found_0 ?_
  refine x_istore_n C (ls' := [some (.ref nk), some (vi (ns : Int)), some (vi (ms : Int)), some (vi 0)]) dX9_found_1 rfl (by decide) rfl ?_
  have L2 : ∀ (n0 : Nat) (i : Nat) (hp : PH) (cc : Nat) (ss : Nat), ns - i < n0 → (i ≤ ns) → (NP G hp ad nk b sl i 0 (dr + i)) → (cc ≤ i ∧ ss ≤ 7 * i) → X G K 4 2 [some (.ref nk), some (vi (ns : Int)), some (vi (ms : Int)), some (vi (i : Int))] [] hp cc ss := by
    intro n0
    induction n0 with
    | zero => intro i hp cc ss hm; exact absurd hm (Nat.not_lt_zero _)
    | succ n0 ih_L2 =>
      intro i hp cc ss hm i1 NN r1
      refine x_iload_n C dX9_found_2 rfl rfl ?_
      refine x_iload_n C dX9_found_3 rfl rfl ?_
      refine x_icmp_ge C (tgt := 22) dX9_found_4 (by decide) ⟨by omega, by omega⟩ ⟨by omega, by omega⟩ (fun c4 => ?_) (fun c4 => ?_)
      · skip
        refine x_iconst C dX9_found_22 ?_
        refine x_istore_n C (ls' := [some (.ref nk), some (vi (ns : Int)), some (vi (ms : Int)), some (vi 0)]) dX9_found_23 rfl (by decide) rfl ?_
        have L24 : ∀ (n0 : Nat) (j : Nat) (hp2 : PH) (c2 : Nat) (s2 : Nat), ms - j < n0 → (j ≤ ms) → (NP G hp2 ad nk b sl ns j (dr + 6 + 20 * j)) → (c2 ≤ 6 + 12 * j ∧ s2 ≤ 6 * 7 + 70 * j) → X G K 4 24 [some (.ref nk), some (vi (ns : Int)), some (vi (ms : Int)), some (vi (j : Int))] [] hp2 c2 s2 := by
          intro n0
          induction n0 with
          | zero => intro j hp2 c2 s2 hm; exact absurd hm (Nat.not_lt_zero _)
          | succ n0 ih_L24 =>
            intro j hp2 c2 s2 hm j1 NN r2
            refine x_iload_n C dX9_found_24 rfl rfl ?_
            refine x_iload_n C dX9_found_25 rfl rfl ?_
            refine x_icmp_ge C (tgt := 44) dX9_found_26 (by decide) ⟨by omega, by omega⟩ ⟨by omega, by omega⟩ (fun c26 => ?_) (fun c26 => ?_)
            · skip
              refine x_iconst C dX9_found_44 ?_
              exact x_zret C E rfl (by omega) (by omega) (z := true) dX9_found_45 (⟨rfl, NN.mono rfl (by omega) (by omega)⟩)
            · skip
              refine x_aload_n C dX9_found_29 rfl rfl ?_
              obtain ⟨Q1, P1, d1, T1, N1, e1, e2, e3⟩ := NN
              refine x_invVX C (Sc := (b, L, xs)) hX hbl hL s_Neck_169 (st := []) (c_N_chord hj T1 N1 (by omega) (by omega) (by omega)) (NkR.o N1).choose_spec rfl rfl (Nat.le_of_ble_eq_true rfl) (xRm_of hR (by omega) (by decide) (by omega) (by omega)) dX9_found_30 (fun r9 h9 hq => ?_)
              obtain ⟨rfl, NQ⟩ := hq
              refine x_ifneB C (tgt := 38) dX9_found_33 (by decide) (fun c33 => ?_) (fun c33 => ?_)
              · skip
                refine x_iinc C (ls' := [some (.ref nk), some (vi (ns : Int)), some (vi (ms : Int)), some (vi ((j : Int) + 1))]) dX9_found_38 rfl (by decide) (z1 := ((j : Int) + 1)) rfl rfl ?_
                refine x_goto C (tgt := 24) dX9_found_41 (by decide) ?_
                exact ih_L24 (j + 1) h9 _ _ (by omega) (by omega) (NQ.mono (by omega) (by omega) (by omega)) (⟨by omega, by omega⟩)
              · skip
                exact absurd c33 (by decide)
        exact L24 _ 0 hp _ _ (Nat.lt_succ_self _) (Nat.zero_le _) (NN.mono (by omega) rfl (by omega)) (⟨by omega, by omega⟩)
      · skip
        refine x_aload_n C dX9_found_7 rfl rfl ?_
        obtain ⟨Q1, P1, d1, T1, N1, e1, e2, e3⟩ := NN
        refine x_invVX C (Sc := (b, L, xs)) hX hbl hL s_Neck_166 (st := []) (c_N_string hj T1 N1 (by omega) e2 (by omega)) (NkR.o N1).choose_spec rfl rfl (Nat.le_of_ble_eq_true rfl) (xRm_of hR (by omega) (by decide) (by omega) (by omega)) dX9_found_8 (fun r9 h9 hq => ?_)
        obtain ⟨rfl, NQ⟩ := hq
        refine x_ifneB C (tgt := 16) dX9_found_11 (by decide) (fun c11 => ?_) (fun c11 => ?_)
        · skip
          refine x_iinc C (ls' := [some (.ref nk), some (vi (ns : Int)), some (vi (ms : Int)), some (vi ((i : Int) + 1))]) dX9_found_16 rfl (by decide) (z1 := ((i : Int) + 1)) rfl rfl ?_
          refine x_goto C (tgt := 2) dX9_found_19 (by decide) ?_
          exact ih_L2 (i + 1) h9 _ _ (by omega) (by omega) (NQ.mono (by omega) rfl (by omega)) (⟨by omega, by omega⟩)
        · skip
          exact absurd c11 (by decide)
  exact L2 _ 0 h _ _ (Nat.lt_succ_self _) (Nat.zero_le _) (N0.mono rfl rfl (by omega)) (⟨Nat.le_refl _, Nat.le_refl _⟩)

set_option maxRecDepth 100000 in
set_option maxHeartbeats 4000000 in
theorem c_N_init {G : xG} {h : PH} {a b : Nat} (hA : h a = (xO 8 [.null, .null, vi 0, .null, .null, vi 0, vi 0, .null, .null, .null, .null])) {t : Int} (ht : 0 ≤ t ∧ t < 1000) : Cn G m_Neck_init 6 180 3340 [.ref a, .ref b, vi t] h (fun r h' => r = none ∧ ∃ (ad : Nat → Nat) (sl : Nat), (∀ i j, i < 300 → j < 300 → ad i = ad j → i = j) ∧ TabR G h' ad false Q0 P0 ∧ NkR G h' ad a b sl t Q0 P0) := by
  refine Cn_of (by decide) (Nat.le_of_ble_eq_true rfl) (fun K C hR E => ?_)
  show X G K 3 0 [some (.ref a), some (.ref b), some (vi t)] [] h 0 0
  refine x_aload_n C dX9_init_0 rfl rfl ?_
  refine x_objI C s_Neck_1 o_inst o_code (Nat.le_of_ble_eq_true rfl) hR (by omega) dX9_init_1 ?_
  refine x_aload_n C dX9_init_4 rfl rfl ?_
  refine x_new C n_Neck_7 hR (by omega) (by omega) dX9_init_5 (fun tt ztt => ?_)
  have ne_a_tt : a ≠ tt := fun e => by rw [← e] at ztt; exact absurd (ztt.symm.trans hA) (by intro h9; cases h9)
  refine x_dup C dX9_init_8 rfl ?_
  refine x_invI C s_Neck_9 (st := [.ref tt, .ref a]) (c_Tab_init up_s) rfl rfl (Nat.le_of_ble_eq_true rfl) (xRm_of hR (by omega) (by decide) (by omega) (by omega)) dX9_init_9 (fun r9 h9 hq => ?_)
  obtain ⟨rfl, ad, e0, hj, TT, hav, hfr, F1⟩ := hq
  subst e0
  have hca : ∀ i, own i → a ≠ ad i := fun i hi e => by
    by_cases w : i = 0
    · rw [w] at e; exact ne_a_tt e
    · have := hfr i hi w; rw [← e] at this; exact alv_of (((up_n ne_a_tt).trans hA)) this
  refine x_putF C p_Neck_10 E.2.1 ((F1 a (alv_of (((up_n ne_a_tt).trans hA))) ne_a_tt).trans ((up_n ne_a_tt).trans hA)) (fit_ref _ _) (Nat.le_of_ble_eq_true rfl) (h1 := (va_up h9 a (xO 8 [.ref (ad 0), .null, vi 0, .null, .null, vi 0, vi 0, .null, .null, .null, .null]))) rfl dX9_init_12 ?_
  refine x_aload_n C dX9_init_15 rfl rfl ?_
  refine x_iconst C dX9_init_16 ?_
  refine x_newI C (n := 0) ⟨by omega, by omega⟩ arrayClass_int hR (by omega) (by omega) dX9_init_17 (fun oa zoa => ?_)
  have ne_a_oa : a ≠ oa := fun e => by rw [← e] at zoa; exact absurd (zoa.symm.trans up_s) (by intro h9; cases h9)
  have ooa : ∀ i, own i → oa ≠ ad i := fun i hi e => hav i hi (by rw [← e]; exact ((up_n (Ne.symm ne_a_oa)).symm.trans zoa))
  refine x_put C p_Neck_16 ((up_n ne_a_oa).trans up_s) (fit_arr _ _) (Nat.le_of_ble_eq_true rfl) (h1 := (va_up (va_up h9 a (xO 8 [.ref (ad 0), .null, vi 0, .ref oa, .null, vi 0, vi 0, .null, .null, .null, .null])) oa (xI G 0 (fun _ => 0)))) ((up_c _ _ _ (Ne.symm ne_a_oa)).trans (congrArg (fun f => va_up f oa _) (up_u _ _ _ _))) dX9_init_19 ?_
  refine x_aload_n C dX9_init_22 rfl rfl ?_
  refine x_bipush C (z := 6) dX9_init_23 (by decide) ?_
  refine x_newZ C (n := 6) ⟨by omega, by omega⟩ arrayClass_boolean hR (by omega) (by omega) dX9_init_25 (fun sl zsl => ?_)
  have ne_a_sl : a ≠ sl := fun e => by rw [← e] at zsl; exact absurd (zsl.symm.trans ((up_n ne_a_oa).trans up_s)) (by intro h9; cases h9)
  have ne_oa_sl : oa ≠ sl := fun e => by rw [← e] at zsl; exact absurd (zsl.symm.trans up_s) (by intro h9; cases h9)
  have osl : ∀ i, own i → sl ≠ ad i := fun i hi e => hav i hi (by rw [← e]; exact ((up_n (Ne.symm ne_a_sl)).symm.trans ((up_n (Ne.symm ne_oa_sl)).symm.trans zsl)))
  refine x_put C p_Neck_20 ((up_n ne_a_sl).trans ((up_n ne_a_oa).trans up_s)) (fit_arr _ _) (Nat.le_of_ble_eq_true rfl) (h1 := (va_up (va_up (va_up h9 a (xO 8 [.ref (ad 0), .null, vi 0, .ref oa, .ref sl, vi 0, vi 0, .null, .null, .null, .null])) oa (xI G 0 (fun _ => 0))) sl (xZ G 6 (fun _ => false)))) ((up_c _ _ _ (Ne.symm ne_a_sl)).trans (congrArg (fun f => va_up f sl _) ((up_c _ _ _ (Ne.symm ne_a_oa)).trans (congrArg (fun f => va_up f oa _) (up_u _ _ _ _))))) dX9_init_27 ?_
  refine x_aload_n C dX9_init_30 rfl rfl ?_
  refine x_iconst C dX9_init_31 ?_
  refine x_put C p_Neck_24 ((up_n ne_a_sl).trans ((up_n ne_a_oa).trans up_s)) (fit_int _) (Nat.le_of_ble_eq_true rfl) (h1 := (va_up (va_up (va_up h9 a (xO 8 [.ref (ad 0), .null, vi 0, .ref oa, .ref sl, vi 0, vi 3, .null, .null, .null, .null])) oa (xI G 0 (fun _ => 0))) sl (xZ G 6 (fun _ => false)))) ((up_c _ _ _ (Ne.symm ne_a_sl)).trans (congrArg (fun f => va_up f sl _) ((up_c _ _ _ (Ne.symm ne_a_oa)).trans (congrArg (fun f => va_up f oa _) (up_u _ _ _ _))))) dX9_init_32 ?_
  refine x_aload_n C dX9_init_35 rfl rfl ?_
  refine x_iconst C dX9_init_36 ?_
  refine x_newA C (n := 0) ⟨by omega, by omega⟩ a_Neck_28 (by decide) hR (by omega) (by omega) dX9_init_37 (fun ca zca => ?_)
  have ne_a_ca : a ≠ ca := fun e => by rw [← e] at zca; exact absurd (zca.symm.trans ((up_n ne_a_sl).trans ((up_n ne_a_oa).trans up_s))) (by intro h9; cases h9)
  have ne_oa_ca : oa ≠ ca := fun e => by rw [← e] at zca; exact absurd (zca.symm.trans ((up_n ne_oa_sl).trans up_s)) (by intro h9; cases h9)
  have ne_sl_ca : sl ≠ ca := fun e => by rw [← e] at zca; exact absurd (zca.symm.trans up_s) (by intro h9; cases h9)
  have oca : ∀ i, own i → ca ≠ ad i := fun i hi e => hav i hi (by rw [← e]; exact ((up_n (Ne.symm ne_a_ca)).symm.trans ((up_n (Ne.symm ne_oa_ca)).symm.trans ((up_n (Ne.symm ne_sl_ca)).symm.trans zca))))
  refine x_put C p_Neck_29 ((up_n ne_a_ca).trans ((up_n ne_a_sl).trans ((up_n ne_a_oa).trans up_s))) (fit_arr _ _) (Nat.le_of_ble_eq_true rfl) (h1 := (va_up (va_up (va_up (va_up h9 a (xO 8 [.ref (ad 0), .null, vi 0, .ref oa, .ref sl, vi 0, vi 3, .ref ca, .null, .null, .null])) oa (xI G 0 (fun _ => 0))) sl (xZ G 6 (fun _ => false))) ca (xQ G 3 0 (fun _ => none)))) ((up_c _ _ _ (Ne.symm ne_a_ca)).trans (congrArg (fun f => va_up f ca _) ((up_c _ _ _ (Ne.symm ne_a_sl)).trans (congrArg (fun f => va_up f sl _) ((up_c _ _ _ (Ne.symm ne_a_oa)).trans (congrArg (fun f => va_up f oa _) (up_u _ _ _ _))))))) dX9_init_40 ?_
  refine x_aload_n C dX9_init_43 rfl rfl ?_
  refine x_iconst C dX9_init_44 ?_
  refine x_newI C (n := 0) ⟨by omega, by omega⟩ arrayClass_int hR (by omega) (by omega) dX9_init_45 (fun la zla => ?_)
  have ne_a_la : a ≠ la := fun e => by rw [← e] at zla; exact absurd (zla.symm.trans ((up_n ne_a_ca).trans ((up_n ne_a_sl).trans ((up_n ne_a_oa).trans up_s)))) (by intro h9; cases h9)
  have ne_oa_la : oa ≠ la := fun e => by rw [← e] at zla; exact absurd (zla.symm.trans ((up_n ne_oa_ca).trans ((up_n ne_oa_sl).trans up_s))) (by intro h9; cases h9)
  have ne_sl_la : sl ≠ la := fun e => by rw [← e] at zla; exact absurd (zla.symm.trans ((up_n ne_sl_ca).trans up_s)) (by intro h9; cases h9)
  have ne_ca_la : ca ≠ la := fun e => by rw [← e] at zla; exact absurd (zla.symm.trans up_s) (by intro h9; cases h9)
  have ola : ∀ i, own i → la ≠ ad i := fun i hi e => hav i hi (by rw [← e]; exact ((up_n (Ne.symm ne_a_la)).symm.trans ((up_n (Ne.symm ne_oa_la)).symm.trans ((up_n (Ne.symm ne_sl_la)).symm.trans ((up_n (Ne.symm ne_ca_la)).symm.trans zla)))))
  refine x_put C p_Neck_33 ((up_n ne_a_la).trans ((up_n ne_a_ca).trans ((up_n ne_a_sl).trans ((up_n ne_a_oa).trans up_s)))) (fit_arr _ _) (Nat.le_of_ble_eq_true rfl) (h1 := (va_up (va_up (va_up (va_up (va_up h9 a (xO 8 [.ref (ad 0), .null, vi 0, .ref oa, .ref sl, vi 0, vi 3, .ref ca, .ref la, .null, .null])) oa (xI G 0 (fun _ => 0))) sl (xZ G 6 (fun _ => false))) ca (xQ G 3 0 (fun _ => none))) la (xI G 0 (fun _ => 0)))) ((up_c _ _ _ (Ne.symm ne_a_la)).trans (congrArg (fun f => va_up f la _) ((up_c _ _ _ (Ne.symm ne_a_ca)).trans (congrArg (fun f => va_up f ca _) ((up_c _ _ _ (Ne.symm ne_a_sl)).trans (congrArg (fun f => va_up f sl _) ((up_c _ _ _ (Ne.symm ne_a_oa)).trans (congrArg (fun f => va_up f oa _) (up_u _ _ _ _))))))))) dX9_init_47 ?_
  refine x_aload_n C dX9_init_50 rfl rfl ?_
  refine x_iconst C dX9_init_51 ?_
  refine x_newA C (n := 0) ⟨by omega, by omega⟩ a_Neck_28 (by decide) hR (by omega) (by omega) dX9_init_52 (fun fa zfa => ?_)
  have ne_a_fa : a ≠ fa := fun e => by rw [← e] at zfa; exact absurd (zfa.symm.trans ((up_n ne_a_la).trans ((up_n ne_a_ca).trans ((up_n ne_a_sl).trans ((up_n ne_a_oa).trans up_s))))) (by intro h9; cases h9)
  have ne_oa_fa : oa ≠ fa := fun e => by rw [← e] at zfa; exact absurd (zfa.symm.trans ((up_n ne_oa_la).trans ((up_n ne_oa_ca).trans ((up_n ne_oa_sl).trans up_s)))) (by intro h9; cases h9)
  have ne_sl_fa : sl ≠ fa := fun e => by rw [← e] at zfa; exact absurd (zfa.symm.trans ((up_n ne_sl_la).trans ((up_n ne_sl_ca).trans up_s))) (by intro h9; cases h9)
  have ne_ca_fa : ca ≠ fa := fun e => by rw [← e] at zfa; exact absurd (zfa.symm.trans ((up_n ne_ca_la).trans up_s)) (by intro h9; cases h9)
  have ne_la_fa : la ≠ fa := fun e => by rw [← e] at zfa; exact absurd (zfa.symm.trans up_s) (by intro h9; cases h9)
  have ofa : ∀ i, own i → fa ≠ ad i := fun i hi e => hav i hi (by rw [← e]; exact ((up_n (Ne.symm ne_a_fa)).symm.trans ((up_n (Ne.symm ne_oa_fa)).symm.trans ((up_n (Ne.symm ne_sl_fa)).symm.trans ((up_n (Ne.symm ne_ca_fa)).symm.trans ((up_n (Ne.symm ne_la_fa)).symm.trans zfa))))))
  refine x_put C p_Neck_36 ((up_n ne_a_fa).trans ((up_n ne_a_la).trans ((up_n ne_a_ca).trans ((up_n ne_a_sl).trans ((up_n ne_a_oa).trans up_s))))) (fit_arr _ _) (Nat.le_of_ble_eq_true rfl) (h1 := (va_up (va_up (va_up (va_up (va_up (va_up h9 a (xO 8 [.ref (ad 0), .null, vi 0, .ref oa, .ref sl, vi 0, vi 3, .ref ca, .ref la, .ref fa, .null])) oa (xI G 0 (fun _ => 0))) sl (xZ G 6 (fun _ => false))) ca (xQ G 3 0 (fun _ => none))) la (xI G 0 (fun _ => 0))) fa (xQ G 3 0 (fun _ => none)))) ((up_c _ _ _ (Ne.symm ne_a_fa)).trans (congrArg (fun f => va_up f fa _) ((up_c _ _ _ (Ne.symm ne_a_la)).trans (congrArg (fun f => va_up f la _) ((up_c _ _ _ (Ne.symm ne_a_ca)).trans (congrArg (fun f => va_up f ca _) ((up_c _ _ _ (Ne.symm ne_a_sl)).trans (congrArg (fun f => va_up f sl _) ((up_c _ _ _ (Ne.symm ne_a_oa)).trans (congrArg (fun f => va_up f oa _) (up_u _ _ _ _))))))))))) dX9_init_55 ?_
  refine x_aload_n C dX9_init_58 rfl rfl ?_
  refine x_iconst C dX9_init_59 ?_
  refine x_newA C (n := 0) ⟨by omega, by omega⟩ a_Neck_28 (by decide) hR (by omega) (by omega) dX9_init_60 (fun fo zfo => ?_)
  have ne_a_fo : a ≠ fo := fun e => by rw [← e] at zfo; exact absurd (zfo.symm.trans ((up_n ne_a_fa).trans ((up_n ne_a_la).trans ((up_n ne_a_ca).trans ((up_n ne_a_sl).trans ((up_n ne_a_oa).trans up_s)))))) (by intro h9; cases h9)
  have ne_oa_fo : oa ≠ fo := fun e => by rw [← e] at zfo; exact absurd (zfo.symm.trans ((up_n ne_oa_fa).trans ((up_n ne_oa_la).trans ((up_n ne_oa_ca).trans ((up_n ne_oa_sl).trans up_s))))) (by intro h9; cases h9)
  have ne_sl_fo : sl ≠ fo := fun e => by rw [← e] at zfo; exact absurd (zfo.symm.trans ((up_n ne_sl_fa).trans ((up_n ne_sl_la).trans ((up_n ne_sl_ca).trans up_s)))) (by intro h9; cases h9)
  have ne_ca_fo : ca ≠ fo := fun e => by rw [← e] at zfo; exact absurd (zfo.symm.trans ((up_n ne_ca_fa).trans ((up_n ne_ca_la).trans up_s))) (by intro h9; cases h9)
  have ne_la_fo : la ≠ fo := fun e => by rw [← e] at zfo; exact absurd (zfo.symm.trans ((up_n ne_la_fa).trans up_s)) (by intro h9; cases h9)
  have ne_fa_fo : fa ≠ fo := fun e => by rw [← e] at zfo; exact absurd (zfo.symm.trans up_s) (by intro h9; cases h9)
  have ofo : ∀ i, own i → fo ≠ ad i := fun i hi e => hav i hi (by rw [← e]; exact ((up_n (Ne.symm ne_a_fo)).symm.trans ((up_n (Ne.symm ne_oa_fo)).symm.trans ((up_n (Ne.symm ne_sl_fo)).symm.trans ((up_n (Ne.symm ne_ca_fo)).symm.trans ((up_n (Ne.symm ne_la_fo)).symm.trans ((up_n (Ne.symm ne_fa_fo)).symm.trans zfo)))))))
  refine x_put C p_Neck_39 ((up_n ne_a_fo).trans ((up_n ne_a_fa).trans ((up_n ne_a_la).trans ((up_n ne_a_ca).trans ((up_n ne_a_sl).trans ((up_n ne_a_oa).trans up_s)))))) (fit_arr _ _) (Nat.le_of_ble_eq_true rfl) (h1 := (va_up (va_up (va_up (va_up (va_up (va_up (va_up h9 a (xO 8 [.ref (ad 0), .null, vi 0, .ref oa, .ref sl, vi 0, vi 3, .ref ca, .ref la, .ref fa, .ref fo])) oa (xI G 0 (fun _ => 0))) sl (xZ G 6 (fun _ => false))) ca (xQ G 3 0 (fun _ => none))) la (xI G 0 (fun _ => 0))) fa (xQ G 3 0 (fun _ => none))) fo (xQ G 3 0 (fun _ => none)))) ((up_c _ _ _ (Ne.symm ne_a_fo)).trans (congrArg (fun f => va_up f fo _) ((up_c _ _ _ (Ne.symm ne_a_fa)).trans (congrArg (fun f => va_up f fa _) ((up_c _ _ _ (Ne.symm ne_a_la)).trans (congrArg (fun f => va_up f la _) ((up_c _ _ _ (Ne.symm ne_a_ca)).trans (congrArg (fun f => va_up f ca _) ((up_c _ _ _ (Ne.symm ne_a_sl)).trans (congrArg (fun f => va_up f sl _) ((up_c _ _ _ (Ne.symm ne_a_oa)).trans (congrArg (fun f => va_up f oa _) (up_u _ _ _ _))))))))))))) dX9_init_63 ?_
  refine x_aload_n C dX9_init_66 rfl rfl ?_
  refine x_aload_n C dX9_init_67 rfl rfl ?_
  refine x_putF C p_Neck_42 E.2.1 ((up_n ne_a_fo).trans ((up_n ne_a_fa).trans ((up_n ne_a_la).trans ((up_n ne_a_ca).trans ((up_n ne_a_sl).trans ((up_n ne_a_oa).trans up_s)))))) (fit_arr _ _) (Nat.le_of_ble_eq_true rfl) (h1 := (va_up (va_up (va_up (va_up (va_up (va_up (va_up h9 a (xO 8 [.ref (ad 0), .ref b, vi 0, .ref oa, .ref sl, vi 0, vi 3, .ref ca, .ref la, .ref fa, .ref fo])) oa (xI G 0 (fun _ => 0))) sl (xZ G 6 (fun _ => false))) ca (xQ G 3 0 (fun _ => none))) la (xI G 0 (fun _ => 0))) fa (xQ G 3 0 (fun _ => none))) fo (xQ G 3 0 (fun _ => none)))) ((up_c _ _ _ (Ne.symm ne_a_fo)).trans (congrArg (fun f => va_up f fo _) ((up_c _ _ _ (Ne.symm ne_a_fa)).trans (congrArg (fun f => va_up f fa _) ((up_c _ _ _ (Ne.symm ne_a_la)).trans (congrArg (fun f => va_up f la _) ((up_c _ _ _ (Ne.symm ne_a_ca)).trans (congrArg (fun f => va_up f ca _) ((up_c _ _ _ (Ne.symm ne_a_sl)).trans (congrArg (fun f => va_up f sl _) ((up_c _ _ _ (Ne.symm ne_a_oa)).trans (congrArg (fun f => va_up f oa _) (up_u _ _ _ _))))))))))))) dX9_init_68 ?_
  refine x_aload_n C dX9_init_71 rfl rfl ?_
  refine x_iload_n C dX9_init_72 rfl rfl ?_
  refine x_put C p_Neck_45 ((up_n ne_a_fo).trans ((up_n ne_a_fa).trans ((up_n ne_a_la).trans ((up_n ne_a_ca).trans ((up_n ne_a_sl).trans ((up_n ne_a_oa).trans up_s)))))) (fit_int _) (Nat.le_of_ble_eq_true rfl) (h1 := (va_up (va_up (va_up (va_up (va_up (va_up (va_up h9 a (xO 8 [.ref (ad 0), .ref b, vi t, .ref oa, .ref sl, vi 0, vi 3, .ref ca, .ref la, .ref fa, .ref fo])) oa (xI G 0 (fun _ => 0))) sl (xZ G 6 (fun _ => false))) ca (xQ G 3 0 (fun _ => none))) la (xI G 0 (fun _ => 0))) fa (xQ G 3 0 (fun _ => none))) fo (xQ G 3 0 (fun _ => none)))) ((up_c _ _ _ (Ne.symm ne_a_fo)).trans (congrArg (fun f => va_up f fo _) ((up_c _ _ _ (Ne.symm ne_a_fa)).trans (congrArg (fun f => va_up f fa _) ((up_c _ _ _ (Ne.symm ne_a_la)).trans (congrArg (fun f => va_up f la _) ((up_c _ _ _ (Ne.symm ne_a_ca)).trans (congrArg (fun f => va_up f ca _) ((up_c _ _ _ (Ne.symm ne_a_sl)).trans (congrArg (fun f => va_up f sl _) ((up_c _ _ _ (Ne.symm ne_a_oa)).trans (congrArg (fun f => va_up f oa _) (up_u _ _ _ _))))))))))))) dX9_init_73 ?_
  have T2 := TT.kept (h1 := (va_up (va_up (va_up (va_up (va_up (va_up (va_up h9 a (xO 8 [.ref (ad 0), .ref b, vi t, .ref oa, .ref sl, vi 0, vi 3, .ref ca, .ref la, .ref fa, .ref fo])) oa (xI G 0 (fun _ => 0))) sl (xZ G 6 (fun _ => false))) ca (xQ G 3 0 (fun _ => none))) la (xI G 0 (fun _ => 0))) fa (xQ G 3 0 (fun _ => none))) fo (xQ G 3 0 (fun _ => none)))) (fun i hi => ((up_n (Ne.symm (ofo i hi))).trans ((up_n (Ne.symm (ofa i hi))).trans ((up_n (Ne.symm (ola i hi))).trans ((up_n (Ne.symm (oca i hi))).trans ((up_n (Ne.symm (osl i hi))).trans ((up_n (Ne.symm (ooa i hi))).trans ((up_n (Ne.symm (hca i hi))).trans rfl))))))))
  exact x_vret C E rfl (by omega) (by omega) dX9_init_76 (⟨rfl, ad, sl, hj, T2, oa, ca, la, fa, fo, _, ((up_n ne_a_fo).trans ((up_n ne_a_fa).trans ((up_n ne_a_la).trans ((up_n ne_a_ca).trans ((up_n ne_a_sl).trans ((up_n ne_a_oa).trans up_s)))))), ((up_n ne_oa_fo).trans ((up_n ne_oa_fa).trans ((up_n ne_oa_la).trans ((up_n ne_oa_ca).trans ((up_n ne_oa_sl).trans up_s))))), ((up_n ne_sl_fo).trans ((up_n ne_sl_fa).trans ((up_n ne_sl_la).trans ((up_n ne_sl_ca).trans up_s)))), fun _ _ => rfl, ⟨_, ((up_n ne_ca_fo).trans ((up_n ne_ca_fa).trans ((up_n ne_ca_la).trans up_s))), fun c hc => absurd hc (Nat.not_lt_zero _)⟩, ((up_n ne_la_fo).trans ((up_n ne_la_fa).trans up_s)), ⟨_, ((up_n ne_fa_fo).trans up_s), fun c hc => absurd hc (Nat.not_lt_zero _)⟩, ⟨hca, ooa, osl, oca, ola, ofa, Ne.symm ne_oa_sl, ne_sl_la, ne_oa_la, ne_ca_fa⟩, ⟨by omega, by omega⟩, fun c hc => absurd hc (Nat.not_lt_zero _)⟩)
