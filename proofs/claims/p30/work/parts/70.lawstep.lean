/-! The law: a step. -/
set_option maxRecDepth 100000 in
set_option maxHeartbeats 4000000 in
theorem law_step {G : xG} {K : xK} {ad : Nat → Nat} {nk b sl mc ms cells slots : Nat} {d : Int} {tm sp : Int} {n m : Nat} (C : xC G K "TablatureLaw" code 23) (hR : xGe K 60 mc ms) (hj : ∀ i j, i < 300 → j < 300 → ad i = ad j → i = j) (hcl : cells + 2660 ≤ mc) (hsl : slots + 16920 ≤ ms) {L : Nat} {xs : Nat → Int32} (hX : va_X b L xs (ks K) (ks K).heap) (hbl : b < gN G) (hL : L ≤ 260) (hdd : d < 70000) (hn : 3 ≤ n ∧ n ≤ 4) (hm : 1 ≤ m ∧ m ≤ 10) (kk : ∀ (h' : PH) (m' c9 s9 : Nat), m ≤ m' ∧ m' ≤ m + 1 → c9 ≤ cells + 2660 → s9 ≤ slots + 16920 → NP G h' ad nk b sl n m' (d + 60) → X G K 23 1131 [some (.ref b), some (vi tm), some (.ref nk), some (.ref (ad 0)), some (vi sp), none, none, none, none, none, none, none, none, none, none, none, none, none, none, none, none, none, none] [] h' c9 s9)  : ∀ h : PH, NP G h ad nk b sl n m d → X G K 23 54 [some (.ref b), some (vi tm), some (.ref nk), some (.ref (ad 0)), some (vi sp), none, none, none, none, none, none, none, none, none, none, none, none, none, none, none, none, none, none] [] h cells slots := by
  intro h NP0
  have L88 : ∀ (mm : Nat) (c8 : Nat) (s8 : Nat) (hp : PH), (m ≤ mm ∧ mm ≤ m + 1) → (c8 ≤ cells + 2660) → (s8 ≤ slots + 16920) → (NP G hp ad nk b sl n mm (d + 30)) → X G K 23 88 [some (.ref b), some (vi tm), some (.ref nk), some (.ref (ad 0)), some (vi sp), none, none, none, none, none, none, none, none, none, none, none, none, none, none, none, none, none, none] [] hp c8 s8 := by
    intro mm c8 s8 hp m1 r1 r2 NQ
    obtain ⟨Q, P, d0, Tp, Np, e1, e2, e3⟩ := NQ
    refine x_aload_n C dL_law_88 rfl rfl ?_
    refine x_invV C s_Law_36 (st := []) (c_digest hj Tp) (TabR.o Tp).choose_spec rfl rfl (Nat.le_of_ble_eq_true rfl) (xRm_of hR (by omega) (by decide) (by omega) (by omega)) dL_law_89 (fun r9 h1 hq => ?_)
    obtain ⟨rfl, T1, p1⟩ := hq
    have N1 := Np.fr p1
    refine x_lstore C (ls' := [some (.ref b), some (vi tm), some (.ref nk), some (.ref (ad 0)), some (vi sp), some (.long (dAll Q P)), none, none, none, none, none, none, none, none, none, none, none, none, none, none, none, none, none]) dL_law_92 (by decide) rfl ?_
    refine x_aload_n C dL_law_94 rfl rfl ?_
    refine x_iconst C dL_law_95 ?_
    refine x_invV C s_Law_42 (st := []) (c_many4 hj T1) (TabR.o T1).choose_spec rfl rfl (Nat.le_of_ble_eq_true rfl) (xRm_of hR (by omega) (by decide) (by omega) (by omega)) dL_law_96 (fun r9 h2 hq => ?_)
    obtain ⟨rfl, T2, p2⟩ := hq
    have N2 := N1.fr p2
    refine x_istore C (ls' := [some (.ref b), some (vi tm), some (.ref nk), some (.ref (ad 0)), some (vi sp), some (.long (dAll Q P)), none, some (vi ((P.m : Nat) : Int)), none, none, none, none, none, none, none, none, none, none, none, none, none, none, none]) dL_law_99 (by decide) rfl ?_
    refine x_aload_n C dL_law_101 rfl rfl ?_
    refine x_iconst C dL_law_102 ?_
    refine x_invV C s_Law_42 (st := []) (c_many0 hj T2) (TabR.o T2).choose_spec rfl rfl (Nat.le_of_ble_eq_true rfl) (xRm_of hR (by omega) (by decide) (by omega) (by omega)) dL_law_103 (fun r9 h3 hq => ?_)
    obtain ⟨rfl, T3, p3⟩ := hq
    have N3 := N2.fr p3
    refine x_istore C (ls' := [some (.ref b), some (vi tm), some (.ref nk), some (.ref (ad 0)), some (vi sp), some (.long (dAll Q P)), none, some (vi ((P.m : Nat) : Int)), some (vi ((Q.n : Nat) : Int)), none, none, none, none, none, none, none, none, none, none, none, none, none, none]) dL_law_106 (by decide) rfl ?_
    refine x_aload_n C dL_law_108 rfl rfl ?_
    refine x_invV C s_Law_45 (st := []) (c_total hj T3) (TabR.o T3).choose_spec rfl rfl (Nat.le_of_ble_eq_true rfl) (xRm_of hR (by omega) (by decide) (by omega) (by omega)) dL_law_109 (fun r9 h4 hq => ?_)
    obtain ⟨rfl, T4, p4⟩ := hq
    have N4 := N3.fr p4
    refine x_istore C (ls' := [some (.ref b), some (vi tm), some (.ref nk), some (.ref (ad 0)), some (vi sp), some (.long (dAll Q P)), none, some (vi ((P.m : Nat) : Int)), some (vi ((Q.n : Nat) : Int)), some (vi (qT Q P)), none, none, none, none, none, none, none, none, none, none, none, none, none]) dL_law_112 (by decide) rfl ?_
    refine law_c C hR hj (by omega) (by omega) (fun h5 su5 hs5 T5 N5 => ?_) _ T4 N4
    refine law_chk C hR hj (by omega) (by omega) hs5 (fun h6 T6 N6 => ?_) _ T5 N5
    refine law_s C hR hj (by omega) (by omega) hX hbl hL (by omega) (fun h7 d7 i7 T7 N7 => ?_) _ T6 N6
    exact law_end C hR hj (by omega) (by omega) hX hbl hL (by omega) rfl (by omega) (fun h8 NP8 => kk h8 mm _ _ (by omega) (by omega) (by omega) (NP8.mono (by omega) (by omega) (by omega))) _ T7 N7
  obtain ⟨Q1, P1, d1, T1, N1, f1, f2, f3⟩ := NP0
  refine x_aload_n C dL_law_54 rfl rfl ?_
  refine x_invVX C (Sc := (b, L, xs)) hX hbl hL s_Law_26 (st := []) (c_N_change hj T1 N1 (by omega) (by omega)) (NkR.o N1).choose_spec rfl rfl (Nat.le_of_ble_eq_true rfl) (xRm_of hR (by omega) (by decide) (by omega) (by omega)) dL_law_55 (fun r9 h8 hq => ?_)
  obtain ⟨rfl, NQ8⟩ := hq
  refine x_ifeqB C (tgt := 86) dL_law_58 (by decide) (fun c58 => ?_) (fun c58 => ?_)
  · skip
    exact absurd c58 (by decide)
  · skip
    obtain ⟨Q2, P2, d2, T2, N2, g1, g2, g3⟩ := NQ8
    obtain ⟨hd0, oa, ca, la, fa, fo, hNk, hTN⟩ := TN_draw T2 N2 (by omega)
    refine x_aload_n C dL_law_61 rfl rfl ?_
    refine x_iconst C dL_law_62 ?_
    refine x_invVX C (Sc := (b, L, xs)) hX hbl hL s_Law_18 (st := []) (c_N_draw hNk ⟨by omega, by omega⟩ (n := 3) (by decide)) hNk rfl rfl (Nat.le_of_ble_eq_true rfl) (xRm_of hR (by omega) (by decide) (by omega) (by omega)) dL_law_63 (fun r9 h9 hq => ?_)
    obtain ⟨y, rfl, hy, e9⟩ := hq
    obtain ⟨T9, N9⟩ := hTN _ e9
    refine x_if_ne C (tgt := 79) dL_law_66 (by decide) ⟨by omega, by omega⟩ (fun c66 => ?_) (fun c66 => ?_)
    · skip
      refine x_aload_n C dL_law_79 rfl rfl ?_
      refine x_invVX C (Sc := (b, L, xs)) hX hbl hL s_Law_33 (st := []) (c_N_chord hj T9 N9 (by omega) (by omega) (by omega)) (NkR.o N9).choose_spec rfl rfl (Nat.le_of_ble_eq_true rfl) (xRm_of hR (by omega) (by decide) (by omega) (by omega)) dL_law_80 (fun r9 h10 hq => ?_)
      obtain ⟨rfl, NQ10⟩ := hq
      refine x_ifneB C (tgt := 88) dL_law_83 (by decide) (fun c83 => ?_) (fun c83 => ?_)
      · skip
        exact L88 (m + 1) _ _ h10 (⟨by omega, by omega⟩) (by omega) (by omega) (NQ10.mono (by omega) (by omega) (by omega))
      · skip
        exact absurd c83 (by decide)
    · skip
      refine x_aload_n C dL_law_69 rfl rfl ?_
      refine x_invVX C (Sc := (b, L, xs)) hX hbl hL s_Law_30 (st := []) (c_N_fix hj T9 N9 (by omega) (by omega) (by omega) (by omega)) (NkR.o N9).choose_spec rfl rfl (Nat.le_of_ble_eq_true rfl) (xRm_of hR (by omega) (by decide) (by omega) (by omega)) dL_law_70 (fun r9 h11 hq => ?_)
      obtain ⟨rfl, NQ11⟩ := hq
      refine x_ifeqB C (tgt := 86) dL_law_73 (by decide) (fun c73 => ?_) (fun c73 => ?_)
      · skip
        exact absurd c73 (by decide)
      · skip
        refine x_goto C (tgt := 88) dL_law_76 (by decide) ?_
        exact L88 m _ _ h11 (⟨by omega, by omega⟩) (by omega) (by omega) (NQ11.mono (by omega) (by omega) (by omega))

set_option maxRecDepth 100000 in
set_option maxHeartbeats 4000000 in
theorem law_steps {G : xG} {K : xK} {ad : Nat → Nat} {nk b sl mc ms cells slots : Nat} {d : Int} {tm : Int} {n : Nat} (C : xC G K "TablatureLaw" code 23) (hR : xGe K 60 mc ms) (hj : ∀ i j, i < 300 → j < 300 → ad i = ad j → i = j) (hcl : cells + 10640 ≤ mc) (hsl : slots + 67680 ≤ ms) {L : Nat} {xs : Nat → Int32} (hX : va_X b L xs (ks K) (ks K).heap) (hbl : b < gN G) (hL : L ≤ 260) (hdd : d < 60000) (hn : 3 ≤ n ∧ n ≤ 4) (kk : ∀ (h' : PH) (c9 s9 : Nat), c9 ≤ cells + 10640 → s9 ≤ slots + 67680 → X G K 23 1137 [some (.ref b), some (vi tm), none, none, none, none, none, none, none, none, none, none, none, none, none, none, none, none, none, none, none, none, none] [] h' c9 s9)  : ∀ h : PH, NP G h ad nk b sl n 3 d → X G K 23 45 [some (.ref b), some (vi tm), some (.ref nk), some (.ref (ad 0)), none, none, none, none, none, none, none, none, none, none, none, none, none, none, none, none, none, none, none] [] h cells slots := by
  intro h NP0
  refine x_iconst C dL_law_45 ?_
  refine x_istore C (ls' := [some (.ref b), some (vi tm), some (.ref nk), some (.ref (ad 0)), some (vi 0), none, none, none, none, none, none, none, none, none, none, none, none, none, none, none, none, none, none]) dL_law_46 (by decide) rfl ?_
  have L48 : ∀ (n0 : Nat) (sq : Nat) (mm : Nat) (c8 : Nat) (s8 : Nat) (hp : PH), 4 - sq < n0 → (sq ≤ 4) → (3 ≤ mm ∧ mm ≤ 3 + sq) → (c8 ≤ cells + 2660 * sq) → (s8 ≤ slots + 16920 * sq) → (NP G hp ad nk b sl n mm (d + 60 * sq)) → X G K 23 48 [some (.ref b), some (vi tm), some (.ref nk), some (.ref (ad 0)), some (vi (sq : Int)), none, none, none, none, none, none, none, none, none, none, none, none, none, none, none, none, none, none] [] hp c8 s8 := by
    intro n0
    induction n0 with
    | zero => intro sq mm c8 s8 hp hm; exact absurd hm (Nat.not_lt_zero _)
    | succ n0 ih_L48 =>
      intro sq mm c8 s8 hp hm i1 m1 r1 r2 NQ
      refine x_iload C dL_law_48 rfl ?_
      refine x_iconst C dL_law_50 ?_
      refine x_icmp_ge C (tgt := 1137) dL_law_51 (by decide) ⟨by omega, by omega⟩ (by decide) (fun c51 => ?_) (fun c51 => ?_)
      · skip
        refine X.sub (ls' := [some (.ref b), some (vi tm), none, none, none, none, none, none, none, none, none, none, none, none, none, none, none, none, none, none, none, none, none]) (sub_cons (Or.inr rfl) (sub_cons (Or.inr rfl) (sub_cons (Or.inl rfl) (sub_cons (Or.inl rfl) (sub_cons (Or.inl rfl) (sub_cons (Or.inl rfl) (sub_cons (Or.inl rfl) (sub_cons (Or.inl rfl) (sub_cons (Or.inl rfl) (sub_cons (Or.inl rfl) (sub_cons (Or.inl rfl) (sub_cons (Or.inl rfl) (sub_cons (Or.inl rfl) (sub_cons (Or.inl rfl) (sub_cons (Or.inl rfl) (sub_cons (Or.inl rfl) (sub_cons (Or.inl rfl) (sub_cons (Or.inl rfl) (sub_cons (Or.inl rfl) (sub_cons (Or.inl rfl) (sub_cons (Or.inl rfl) (sub_cons (Or.inl rfl) (sub_cons (Or.inl rfl) sub_nil))))))))))))))))))))))) ?_
        exact kk hp _ _ (by omega) (by omega)
      · skip
        refine law_step C hR hj (by omega) (by omega) hX hbl hL (by omega) hn ⟨by omega, by omega⟩ (fun h12 m12 c12 s12 j12 r12 q12 NP12 => ?_) _ NQ
        refine x_iinc C (ls' := [some (.ref b), some (vi tm), some (.ref nk), some (.ref (ad 0)), some (vi ((sq : Int) + 1)), none, none, none, none, none, none, none, none, none, none, none, none, none, none, none, none, none, none]) dL_law_1131 rfl (by decide) (z1 := ((sq : Int) + 1)) rfl rfl ?_
        refine x_goto C (tgt := 48) dL_law_1134 (by decide) ?_
        exact ih_L48 (sq + 1) _ _ _ h12 (by omega) (by omega) (⟨by omega, by omega⟩) (by omega) (by omega) (NP12.mono rfl rfl (by omega))
  exact L48 _ 0 _ _ _ h (Nat.lt_succ_self _) (Nat.zero_le _) (⟨by omega, by omega⟩) (by omega) (by omega) (NP0.mono rfl rfl (by omega))
