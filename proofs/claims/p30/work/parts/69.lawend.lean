/-! The law: asking changes nothing, nor what is told and taken back. -/
set_option maxRecDepth 100000 in
set_option maxHeartbeats 4000000 in
theorem law_end {G : xG} {K : xK} {ad : Nat → Nat} {nk b sl mc ms cells slots : Nat} {Q : Ins} {P : Pie} {d : Int} {tm sp : Int} {bf : Int64} (C : xC G K "TablatureLaw" code 23) (hR : xGe K 60 mc ms) (hj : ∀ i j, i < 300 → j < 300 → ad i = ad j → i = j) (hcl : cells ≤ mc) (hsl : slots ≤ ms) {L : Nat} {xs : Nat → Int32} (hX : va_X b L xs (ks K) (ks K).heap) (hbl : b < gN G) (hL : L ≤ 260) (hdd : d < 85000) (hbf : dAll Q P = bf) (hn0 : 0 < Q.n) (kk : ∀ h' : PH, NP G h' ad nk b sl Q.n P.m (d + 2) → X G K 23 1131 [some (.ref b), some (vi tm), some (.ref nk), some (.ref (ad 0)), some (vi sp), none, none, none, none, none, none, none, none, none, none, none, none, none, none, none, none, none, none] [] h' cells slots)  : ∀ h : PH, TabR G h ad true Q P → NkR G h ad nk b sl d Q P → X G K 23 932 [some (.ref b), some (vi tm), some (.ref nk), some (.ref (ad 0)), some (vi sp), some (.long bf), none, some (vi ((P.m : Nat) : Int)), some (vi ((Q.n : Nat) : Int)), some (vi (qT Q P)), none, none, none, none, none, none, none, none, none, none, none, none, none] [] h cells slots := by
  intro h T N
  obtain ⟨IV1, CV1⟩ := T.iv
  have PV1 := N.d0.2.2
  have IVn := IV1.1
  have CVm := CV1.1
  have hqt := qT_rg Q P CVm
  refine x_aload_n C dL_law_932 rfl rfl ?_
  refine x_invV C s_Law_36 (st := []) (c_digest hj T) (TabR.o T).choose_spec rfl rfl (Nat.le_of_ble_eq_true rfl) (xRm_of hR (by omega) (by decide) (by omega) (by omega)) dL_law_933 (fun r9 h1 hq => ?_)
  obtain ⟨rfl, T1, p1⟩ := hq
  have N1 := N.fr p1
  refine x_lload C dL_law_936 rfl ?_
  refine x_lcmpQ C (hbf) dL_law_938 ?_
  refine x_if_eq C (tgt := 944) dL_law_939 (by decide) (by decide) (fun c939 => ?_) (fun c939 => ?_)
  · skip
    obtain ⟨hd0, oa, ca, la, fa, fo, hNk, hTN⟩ := TN_draw T1 N1 (by omega)
    refine x_aload_n C dL_law_944 rfl rfl ?_
    refine x_iload C dL_law_945 rfl ?_
    refine x_invVX C (Sc := (b, L, xs)) hX hbl hL s_Law_18 (st := []) (c_N_draw hNk ⟨by omega, by omega⟩ (n := ((Q.n : Nat) : Int)) ⟨by omega, by omega⟩) hNk rfl rfl (Nat.le_of_ble_eq_true rfl) (xRm_of hR (by omega) (by decide) (by omega) (by omega)) dL_law_947 (fun r9 h2 hq => ?_)
    obtain ⟨s, rfl, hs, e9⟩ := hq
    obtain ⟨T2, N2⟩ := hTN _ e9
    refine x_istore C (ls' := [some (.ref b), some (vi tm), some (.ref nk), some (.ref (ad 0)), some (vi sp), some (.long bf), none, some (vi ((P.m : Nat) : Int)), some (vi ((Q.n : Nat) : Int)), some (vi (qT Q P)), none, none, some (vi (s : Int)), none, none, none, none, none, none, none, none, none, none]) dL_law_950 (by decide) rfl ?_
    have hs9 : s < Q.n := by omega
    have hop := IV1.2.1 s (by omega)
    refine x_aload_n C dL_law_952 rfl rfl ?_
    refine x_iload C dL_law_953 rfl ?_
    refine x_bipush C (z := 17) dL_law_955 (by decide) ?_
    refine x_invV C s_Law_101 (st := []) (c_tune hj T2 (s := s) hs9 (p := 17) (by decide)) (TabR.o T2).choose_spec rfl rfl (Nat.le_of_ble_eq_true rfl) (xRm_of hR (by omega) (by decide) (by omega) (by omega)) dL_law_957 (fun r9 h3 hq => ?_)
    obtain ⟨rfl, T3, p3⟩ := hq
    have N3 := N2.fr p3
    refine x_istore C (ls' := [some (.ref b), some (vi tm), some (.ref nk), some (.ref (ad 0)), some (vi sp), some (.long bf), none, some (vi ((P.m : Nat) : Int)), some (vi ((Q.n : Nat) : Int)), some (vi (qT Q P)), none, none, some (vi (s : Int)), some (vi (Q.op s)), none, none, none, none, none, none, none, none, none]) dL_law_960 (by decide) rfl ?_
    refine x_aload_n C dL_law_962 rfl rfl ?_
    refine x_iload C dL_law_963 rfl ?_
    refine x_iload C dL_law_965 rfl ?_
    refine x_invV C s_Law_101 (st := []) (c_tune hj T3 (s := s) hs9 (p := Q.op s) hop) (TabR.o T3).choose_spec rfl rfl (Nat.le_of_ble_eq_true rfl) (xRm_of hR (by omega) (by decide) (by omega) (by omega)) dL_law_967 (fun r9 h4 hq => ?_)
    obtain ⟨rfl, T4, p4⟩ := hq
    have N4 := N3.fr p4
    have T9 : TabR G h4 ad false (Q.n, va_up (va_up Q.op s 17) s (Q.op s), Q.sl, Q.cp, Q.rc) P := T4
    rw [up_back] at T9
    have T4 : TabR G h4 ad false Q P := T9
    refine x_pop C dL_law_970 rfl ?_
    have L1016 : ∀ (hp : PH), (TabR G hp ad false Q P) → (NkR G hp ad nk b sl (d + 1) Q P) → X G K 23 1016 [some (.ref b), some (vi tm), some (.ref nk), some (.ref (ad 0)), some (vi sp), some (.long bf), none, some (vi ((P.m : Nat) : Int)), some (vi ((Q.n : Nat) : Int)), some (vi (qT Q P)), none, none, none, none, none, none, none, none, none, none, none, none, none] [] hp cells slots := by
      intro hp Tp Np
      refine x_aload_n C dL_law_1016 rfl rfl ?_
      refine x_invV C s_Law_36 (st := []) (c_digest hj Tp) (TabR.o Tp).choose_spec rfl rfl (Nat.le_of_ble_eq_true rfl) (xRm_of hR (by omega) (by decide) (by omega) (by omega)) dL_law_1017 (fun r9 h5 hq => ?_)
      obtain ⟨rfl, T5, p5⟩ := hq
      have N5 := Np.fr p5
      refine x_lload C dL_law_1020 rfl ?_
      refine x_lcmpQ C (hbf) dL_law_1022 ?_
      refine x_if_eq C (tgt := 1028) dL_law_1023 (by decide) (by decide) (fun c1023 => ?_) (fun c1023 => ?_)
      · skip
        refine x_iload C dL_law_1028 rfl ?_
        refine x_if_lt C (tgt := 1131) dL_law_1030 (by decide) ⟨by omega, by omega⟩ (fun c1030 => ?_) (fun c1030 => ?_)
        · skip
          refine X.sub (ls' := [some (.ref b), some (vi tm), some (.ref nk), some (.ref (ad 0)), some (vi sp), none, none, none, none, none, none, none, none, none, none, none, none, none, none, none, none, none, none]) (sub_cons (Or.inr rfl) (sub_cons (Or.inr rfl) (sub_cons (Or.inr rfl) (sub_cons (Or.inr rfl) (sub_cons (Or.inr rfl) (sub_cons (Or.inl rfl) (sub_cons (Or.inl rfl) (sub_cons (Or.inl rfl) (sub_cons (Or.inl rfl) (sub_cons (Or.inl rfl) (sub_cons (Or.inl rfl) (sub_cons (Or.inl rfl) (sub_cons (Or.inl rfl) (sub_cons (Or.inl rfl) (sub_cons (Or.inl rfl) (sub_cons (Or.inl rfl) (sub_cons (Or.inl rfl) (sub_cons (Or.inl rfl) (sub_cons (Or.inl rfl) (sub_cons (Or.inl rfl) (sub_cons (Or.inl rfl) (sub_cons (Or.inl rfl) (sub_cons (Or.inl rfl) sub_nil))))))))))))))))))))))) ?_
          exact kk h5 (⟨Q, P, _, T5.weak, N5, rfl, rfl, by omega⟩)
        · skip
          refine x_iload C dL_law_1033 rfl ?_
          refine x_if_le C (tgt := 1131) dL_law_1035 (by decide) ⟨by omega, by omega⟩ (fun c1035 => ?_) (fun c1035 => ?_)
          · skip
            refine X.sub (ls' := [some (.ref b), some (vi tm), some (.ref nk), some (.ref (ad 0)), some (vi sp), none, none, none, none, none, none, none, none, none, none, none, none, none, none, none, none, none, none]) (sub_cons (Or.inr rfl) (sub_cons (Or.inr rfl) (sub_cons (Or.inr rfl) (sub_cons (Or.inr rfl) (sub_cons (Or.inr rfl) (sub_cons (Or.inl rfl) (sub_cons (Or.inl rfl) (sub_cons (Or.inl rfl) (sub_cons (Or.inl rfl) (sub_cons (Or.inl rfl) (sub_cons (Or.inl rfl) (sub_cons (Or.inl rfl) (sub_cons (Or.inl rfl) (sub_cons (Or.inl rfl) (sub_cons (Or.inl rfl) (sub_cons (Or.inl rfl) (sub_cons (Or.inl rfl) (sub_cons (Or.inl rfl) (sub_cons (Or.inl rfl) (sub_cons (Or.inl rfl) (sub_cons (Or.inl rfl) (sub_cons (Or.inl rfl) (sub_cons (Or.inl rfl) sub_nil))))))))))))))))))))))) ?_
            exact kk h5 (⟨Q, P, _, T5.weak, N5, rfl, rfl, by omega⟩)
          · skip
            obtain ⟨hd0, oa, ca, la, fa, fo, hNk, hTN⟩ := TN_draw T5 N5 (by omega)
            refine x_aload_n C dL_law_1038 rfl rfl ?_
            refine x_iload C dL_law_1039 rfl ?_
            refine x_invVX C (Sc := (b, L, xs)) hX hbl hL s_Law_18 (st := []) (c_N_draw hNk ⟨by omega, by omega⟩ (n := ((P.m : Nat) : Int)) ⟨by omega, by omega⟩) hNk rfl rfl (Nat.le_of_ble_eq_true rfl) (xRm_of hR (by omega) (by decide) (by omega) (by omega)) dL_law_1041 (fun r9 h6 hq => ?_)
            obtain ⟨c, rfl, hc, e9⟩ := hq
            obtain ⟨T6, N6⟩ := hTN _ e9
            refine x_istore C (ls' := [some (.ref b), some (vi tm), some (.ref nk), some (.ref (ad 0)), some (vi sp), some (.long bf), none, some (vi ((P.m : Nat) : Int)), some (vi ((Q.n : Nat) : Int)), some (vi (qT Q P)), none, none, none, none, some (vi (c : Int)), none, none, none, none, none, none, none, none]) dL_law_1044 (by decide) rfl ?_
            have hc9 : c < P.m := by omega
            obtain ⟨kp, hp1, hp2, hp3⟩ := plan_ok (Q := Q) (P := P) (by omega) hc9
            refine x_aload_n C dL_law_1046 rfl rfl ?_
            refine x_iload C dL_law_1047 rfl ?_
            refine x_invV C s_Law_53 (st := []) (c_plan hj T6 hc9) (TabR.o T6).choose_spec rfl rfl (Nat.le_of_ble_eq_true rfl) (xRm_of hR (by omega) (by decide) (by omega) (by omega)) dL_law_1049 (fun r9 h7 hq => ?_)
            obtain ⟨rfl, T7, p7⟩ := hq
            have N7 := N6.fr p7
            refine x_re (b := ((kp : Nat) : Int)) (hp2) ?_
            refine x_istore C (ls' := [some (.ref b), some (vi tm), some (.ref nk), some (.ref (ad 0)), some (vi sp), some (.long bf), none, some (vi ((P.m : Nat) : Int)), some (vi ((Q.n : Nat) : Int)), some (vi (qT Q P)), none, none, none, none, some (vi (c : Int)), some (vi ((kp : Nat) : Int)), none, none, none, none, none, none, none]) dL_law_1052 (by decide) rfl ?_
            have L1119 : ∀ (hq : PH), (TabR G hq ad false Q P) → (NkR G hq ad nk b sl (d + 1 + 1) Q P) → X G K 23 1119 [some (.ref b), some (vi tm), some (.ref nk), some (.ref (ad 0)), some (vi sp), some (.long bf), none, some (vi ((P.m : Nat) : Int)), some (vi ((Q.n : Nat) : Int)), some (vi (qT Q P)), none, none, none, none, none, none, none, none, none, none, none, none, none] [] hq cells slots := by
              intro hq Tq Nq
              refine x_aload_n C dL_law_1119 rfl rfl ?_
              refine x_invV C s_Law_36 (st := []) (c_digest hj Tq) (TabR.o Tq).choose_spec rfl rfl (Nat.le_of_ble_eq_true rfl) (xRm_of hR (by omega) (by decide) (by omega) (by omega)) dL_law_1120 (fun r9 h8 hq => ?_)
              obtain ⟨rfl, T8, p8⟩ := hq
              have N8 := Nq.fr p8
              refine x_lload C dL_law_1123 rfl ?_
              refine x_lcmpQ C (hbf) dL_law_1125 ?_
              refine x_if_eq C (tgt := 1131) dL_law_1126 (by decide) (by decide) (fun c1126 => ?_) (fun c1126 => ?_)
              · skip
                refine X.sub (ls' := [some (.ref b), some (vi tm), some (.ref nk), some (.ref (ad 0)), some (vi sp), none, none, none, none, none, none, none, none, none, none, none, none, none, none, none, none, none, none]) (sub_cons (Or.inr rfl) (sub_cons (Or.inr rfl) (sub_cons (Or.inr rfl) (sub_cons (Or.inr rfl) (sub_cons (Or.inr rfl) (sub_cons (Or.inl rfl) (sub_cons (Or.inl rfl) (sub_cons (Or.inl rfl) (sub_cons (Or.inl rfl) (sub_cons (Or.inl rfl) (sub_cons (Or.inl rfl) (sub_cons (Or.inl rfl) (sub_cons (Or.inl rfl) (sub_cons (Or.inl rfl) (sub_cons (Or.inl rfl) (sub_cons (Or.inl rfl) (sub_cons (Or.inl rfl) (sub_cons (Or.inl rfl) (sub_cons (Or.inl rfl) (sub_cons (Or.inl rfl) (sub_cons (Or.inl rfl) (sub_cons (Or.inl rfl) (sub_cons (Or.inl rfl) sub_nil))))))))))))))))))))))) ?_
                exact kk h8 (⟨Q, P, _, T8.weak, N8, rfl, rfl, by omega⟩)
              · skip
                exact absurd rfl c1126
            obtain ⟨oa, ca, la, fa, fo, ln2, hN, hO, hS, hSv, hCh, hLa, ⟨ff, hFa, hFr⟩, hE⟩ := id N7
            refine x_aload_n C dL_law_1054 rfl rfl ?_
            refine x_get C f_Law_111 hN rfl dL_law_1055 ?_
            refine x_iload C dL_law_1058 rfl ?_
            obtain ⟨q9, n9, u9, f1, f2, f3, f4, f5⟩ := hFr c hc9
            refine x_aald C (t := 3) rfl rfl hFa ⟨by omega, by omega, by omega⟩ (b := q9) f1 dL_law_1060 ?_
            refine x_alen C (t := 0) rfl f3 dL_law_1061 ?_
            refine x_if_ne C (tgt := 1119) dL_law_1062 (by decide) ⟨by omega, by omega⟩ (fun c1062 => ?_) (fun c1062 => ?_)
            · skip
              refine X.sub (ls' := [some (.ref b), some (vi tm), some (.ref nk), some (.ref (ad 0)), some (vi sp), some (.long bf), none, some (vi ((P.m : Nat) : Int)), some (vi ((Q.n : Nat) : Int)), some (vi (qT Q P)), none, none, none, none, none, none, none, none, none, none, none, none, none]) (sub_cons (Or.inr rfl) (sub_cons (Or.inr rfl) (sub_cons (Or.inr rfl) (sub_cons (Or.inr rfl) (sub_cons (Or.inr rfl) (sub_cons (Or.inr rfl) (sub_cons (Or.inl rfl) (sub_cons (Or.inr rfl) (sub_cons (Or.inr rfl) (sub_cons (Or.inr rfl) (sub_cons (Or.inl rfl) (sub_cons (Or.inl rfl) (sub_cons (Or.inl rfl) (sub_cons (Or.inl rfl) (sub_cons (Or.inl rfl) (sub_cons (Or.inl rfl) (sub_cons (Or.inl rfl) (sub_cons (Or.inl rfl) (sub_cons (Or.inl rfl) (sub_cons (Or.inl rfl) (sub_cons (Or.inl rfl) (sub_cons (Or.inl rfl) (sub_cons (Or.inl rfl) sub_nil))))))))))))))))))))))) ?_
              exact L1119 h7 (T7.weak) (N7)
            · skip
              have hcf : P.cf c = -1 := f5 (by omega)
              obtain ⟨e1, e2⟩ := fix_same IV1 CV1 PV1 (by omega) hc9 hp1 hp2 hcf
              have her := hEff_rg (fr_fbd ((qL Q P c).getD kp 0))
              refine x_aload_n C dL_law_1065 rfl rfl ?_
              refine x_iload C dL_law_1066 rfl ?_
              refine x_iload C dL_law_1068 rfl ?_
              refine x_invV C s_Law_115 (st := []) (c_totalFixed hj T7 hc9 hp1) (TabR.o T7).choose_spec rfl rfl (Nat.le_of_ble_eq_true rfl) (xRm_of hR (by omega) (by decide) (by omega) (by omega)) dL_law_1070 (fun r9 h9 hq => ?_)
              obtain ⟨rfl, T9, p9⟩ := hq
              have N9 := N7.fr p9
              refine x_re (b := (qT Q P)) (e1) ?_
              refine x_iload C dL_law_1073 rfl ?_
              refine x_icmp_ne C (tgt := 1117) dL_law_1075 (by decide) ⟨by omega, by omega⟩ ⟨by omega, by omega⟩ (fun c1075 => ?_) (fun c1075 => ?_)
              · skip
                exfalso; omega
              · skip
                refine x_aload_n C dL_law_1078 rfl rfl ?_
                refine x_iload C dL_law_1079 rfl ?_
                refine x_iload C dL_law_1081 rfl ?_
                refine x_invV C s_Law_118 (st := []) (c_fix hj T9 hc9 hp1) (TabR.o T9).choose_spec rfl rfl (Nat.le_of_ble_eq_true rfl) (xRm_of hR (by omega) (by decide) (by omega) (by omega)) dL_law_1083 (fun r9 h10 hq => ?_)
                obtain ⟨rfl, T10, p10⟩ := hq
                have N10 := N9.fr p10
                refine x_aload_n C dL_law_1086 rfl rfl ?_
                refine x_iload C dL_law_1087 rfl ?_
                refine x_iload C dL_law_1089 rfl ?_
                refine x_iconst C dL_law_1091 ?_
                refine x_invV C s_Law_56 (st := [vi (hEff (fr ((qL Q P c).getD kp 0)))]) (c_ofGrip0 hj T10 (c := c) (g := kp) hc9 hp1) (TabR.o T10).choose_spec rfl rfl (Nat.le_of_ble_eq_true rfl) (xRm_of hR (by omega) (by decide) (by omega) (by omega)) dL_law_1092 (fun r9 h11 hq => ?_)
                obtain ⟨rfl, T11, p11⟩ := hq
                have N11 := N10.fr p11
                refine x_re (b := (hEff (fr ((qL Q P c).getD kp 0)))) (rfl) ?_
                refine x_icmp_ne C (tgt := 1117) dL_law_1095 (by decide) ⟨by omega, by omega⟩ ⟨by omega, by omega⟩ (fun c1095 => ?_) (fun c1095 => ?_)
                · skip
                  exfalso; omega
                · skip
                  refine x_aload_n C dL_law_1098 rfl rfl ?_
                  refine x_invV C s_Law_45 (st := []) (c_total hj T11) (TabR.o T11).choose_spec rfl rfl (Nat.le_of_ble_eq_true rfl) (xRm_of hR (by omega) (by decide) (by omega) (by omega)) dL_law_1099 (fun r9 h12 hq => ?_)
                  obtain ⟨rfl, T12, p12⟩ := hq
                  have N12 := N11.fr p12
                  refine x_re (b := (qT Q P)) (e2) ?_
                  refine x_iload C dL_law_1102 rfl ?_
                  refine x_icmp_ne C (tgt := 1117) dL_law_1104 (by decide) ⟨by omega, by omega⟩ ⟨by omega, by omega⟩ (fun c1104 => ?_) (fun c1104 => ?_)
                  · skip
                    exfalso; omega
                  · skip
                    refine x_aload_n C dL_law_1107 rfl rfl ?_
                    refine x_iload C dL_law_1108 rfl ?_
                    refine x_iconst C dL_law_1110 ?_
                    refine x_invV C s_Law_118 (st := []) (c_fix_none hj T12 (c := c) hc9) (TabR.o T12).choose_spec rfl rfl (Nat.le_of_ble_eq_true rfl) (xRm_of hR (by omega) (by decide) (by omega) (by omega)) dL_law_1111 (fun r9 h13 hq => ?_)
                    obtain ⟨rfl, T13, p13⟩ := hq
                    have N13 := N12.fr p13
                    have T9 : TabR G h13 ad false Q (P.m, P.si, P.pt, P.cl, va_up (va_up P.cf c (((qL Q P c).getD kp 0 : Nat) : Int)) c (-1)) := T13
                    rw [up_u] at T9
                    rw [up_same hcf] at T9
                    have T13 : TabR G h13 ad false Q P := T9
                    refine x_if_eq C (tgt := 1119) dL_law_1114 (by decide) (by decide) (fun c1114 => ?_) (fun c1114 => ?_)
                    · skip
                      refine X.sub (ls' := [some (.ref b), some (vi tm), some (.ref nk), some (.ref (ad 0)), some (vi sp), some (.long bf), none, some (vi ((P.m : Nat) : Int)), some (vi ((Q.n : Nat) : Int)), some (vi (qT Q P)), none, none, none, none, none, none, none, none, none, none, none, none, none]) (sub_cons (Or.inr rfl) (sub_cons (Or.inr rfl) (sub_cons (Or.inr rfl) (sub_cons (Or.inr rfl) (sub_cons (Or.inr rfl) (sub_cons (Or.inr rfl) (sub_cons (Or.inl rfl) (sub_cons (Or.inr rfl) (sub_cons (Or.inr rfl) (sub_cons (Or.inr rfl) (sub_cons (Or.inl rfl) (sub_cons (Or.inl rfl) (sub_cons (Or.inl rfl) (sub_cons (Or.inl rfl) (sub_cons (Or.inl rfl) (sub_cons (Or.inl rfl) (sub_cons (Or.inl rfl) (sub_cons (Or.inl rfl) (sub_cons (Or.inl rfl) (sub_cons (Or.inl rfl) (sub_cons (Or.inl rfl) (sub_cons (Or.inl rfl) (sub_cons (Or.inl rfl) sub_nil))))))))))))))))))))))) ?_
                      exact L1119 h13 (T13) (N13)
                    · skip
                      exact absurd rfl c1114
      · skip
        exact absurd rfl c1023
    obtain ⟨oa, ca, la, fa, fo, ln2, hN, hO, hS, hSv, hCh, hLa, ⟨ff, hFa, hFr⟩, hE⟩ := id N4
    refine x_aload_n C dL_law_971 rfl rfl ?_
    refine x_get C f_Law_74 hN rfl dL_law_972 ?_
    refine x_iload C dL_law_975 rfl ?_
    refine x_zald C hS ⟨by omega, by omega, by omega⟩ (v := (Q.sl s)) rfl dL_law_977 ?_
    refine x_ifneB C (tgt := 1016) dL_law_978 (by decide) (fun c978 => ?_) (fun c978 => ?_)
    · skip
      refine X.sub (ls' := [some (.ref b), some (vi tm), some (.ref nk), some (.ref (ad 0)), some (vi sp), some (.long bf), none, some (vi ((P.m : Nat) : Int)), some (vi ((Q.n : Nat) : Int)), some (vi (qT Q P)), none, none, none, none, none, none, none, none, none, none, none, none, none]) (sub_cons (Or.inr rfl) (sub_cons (Or.inr rfl) (sub_cons (Or.inr rfl) (sub_cons (Or.inr rfl) (sub_cons (Or.inr rfl) (sub_cons (Or.inr rfl) (sub_cons (Or.inl rfl) (sub_cons (Or.inr rfl) (sub_cons (Or.inr rfl) (sub_cons (Or.inr rfl) (sub_cons (Or.inl rfl) (sub_cons (Or.inl rfl) (sub_cons (Or.inl rfl) (sub_cons (Or.inl rfl) (sub_cons (Or.inl rfl) (sub_cons (Or.inl rfl) (sub_cons (Or.inl rfl) (sub_cons (Or.inl rfl) (sub_cons (Or.inl rfl) (sub_cons (Or.inl rfl) (sub_cons (Or.inl rfl) (sub_cons (Or.inl rfl) (sub_cons (Or.inl rfl) sub_nil))))))))))))))))))))))) ?_
      exact L1016 h4 (T4) (N4)
    · skip
      have hqw := qT_rg (Q.n, Q.op, va_up Q.sl s true, Q.cp, Q.rc) P CVm
      refine x_aload_n C dL_law_981 rfl rfl ?_
      refine x_iload C dL_law_982 rfl ?_
      refine x_invV C s_Law_104 (st := []) (c_totalWithout hj T4 (s := s) hs9) (TabR.o T4).choose_spec rfl rfl (Nat.le_of_ble_eq_true rfl) (xRm_of hR (by omega) (by decide) (by omega) (by omega)) dL_law_984 (fun r9 h14 hq => ?_)
      obtain ⟨rfl, T14, p14⟩ := hq
      have N14 := N4.fr p14
      refine x_istore C (ls' := [some (.ref b), some (vi tm), some (.ref nk), some (.ref (ad 0)), some (vi sp), some (.long bf), none, some (vi ((P.m : Nat) : Int)), some (vi ((Q.n : Nat) : Int)), some (vi (qT Q P)), none, none, some (vi (s : Int)), some (vi (Q.op s)), some (vi (qT (Q.n, Q.op, va_up Q.sl s true, Q.cp, Q.rc) P)), none, none, none, none, none, none, none, none]) dL_law_987 (by decide) rfl ?_
      refine x_aload_n C dL_law_989 rfl rfl ?_
      refine x_iload C dL_law_990 rfl ?_
      refine x_iconst C dL_law_992 ?_
      refine x_invV C s_Law_107 (st := []) (c_slacken hj T14 (s := s) hs9 (b := true)) (TabR.o T14).choose_spec rfl rfl (Nat.le_of_ble_eq_true rfl) (xRm_of hR (by omega) (by decide) (by omega) (by omega)) dL_law_993 (fun r9 h15 hq => ?_)
      obtain ⟨rfl, T15, p15⟩ := hq
      have N15 := N14.fr p15
      refine x_pop C dL_law_996 rfl ?_
      refine x_aload_n C dL_law_997 rfl rfl ?_
      refine x_invV C s_Law_45 (st := []) (c_total hj T15) (TabR.o T15).choose_spec rfl rfl (Nat.le_of_ble_eq_true rfl) (xRm_of hR (by omega) (by decide) (by omega) (by omega)) dL_law_998 (fun r9 h16 hq => ?_)
      obtain ⟨rfl, T16, p16⟩ := hq
      have N16 := N15.fr p16
      refine x_iload C dL_law_1001 rfl ?_
      refine x_icmp_eq C (tgt := 1008) dL_law_1003 (by decide) ⟨by omega, by omega⟩ ⟨by omega, by omega⟩ (fun c1003 => ?_) (fun c1003 => ?_)
      · skip
        refine x_aload_n C dL_law_1008 rfl rfl ?_
        refine x_iload C dL_law_1009 rfl ?_
        refine x_iconst C dL_law_1011 ?_
        refine x_invV C s_Law_107 (st := []) (c_slacken hj T16 (s := s) hs9 (b := false)) (TabR.o T16).choose_spec rfl rfl (Nat.le_of_ble_eq_true rfl) (xRm_of hR (by omega) (by decide) (by omega) (by omega)) dL_law_1012 (fun r9 h17 hq => ?_)
        obtain ⟨rfl, T17, p17⟩ := hq
        have N17 := N16.fr p17
        have T9 : TabR G h17 ad false (Q.n, Q.op, va_up (va_up Q.sl s true) s false, Q.cp, Q.rc) P := T17
        rw [up_u] at T9
        rw [up_same c978] at T9
        have T17 : TabR G h17 ad false Q P := T9
        refine x_pop C dL_law_1015 rfl ?_
        refine X.sub (ls' := [some (.ref b), some (vi tm), some (.ref nk), some (.ref (ad 0)), some (vi sp), some (.long bf), none, some (vi ((P.m : Nat) : Int)), some (vi ((Q.n : Nat) : Int)), some (vi (qT Q P)), none, none, none, none, none, none, none, none, none, none, none, none, none]) (sub_cons (Or.inr rfl) (sub_cons (Or.inr rfl) (sub_cons (Or.inr rfl) (sub_cons (Or.inr rfl) (sub_cons (Or.inr rfl) (sub_cons (Or.inr rfl) (sub_cons (Or.inl rfl) (sub_cons (Or.inr rfl) (sub_cons (Or.inr rfl) (sub_cons (Or.inr rfl) (sub_cons (Or.inl rfl) (sub_cons (Or.inl rfl) (sub_cons (Or.inl rfl) (sub_cons (Or.inl rfl) (sub_cons (Or.inl rfl) (sub_cons (Or.inl rfl) (sub_cons (Or.inl rfl) (sub_cons (Or.inl rfl) (sub_cons (Or.inl rfl) (sub_cons (Or.inl rfl) (sub_cons (Or.inl rfl) (sub_cons (Or.inl rfl) (sub_cons (Or.inl rfl) sub_nil))))))))))))))))))))))) ?_
        exact L1016 h17 (T17) (N17)
      · skip
        exact absurd rfl c1003
  · skip
    exact absurd rfl c939
