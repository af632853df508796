/-! The law: grip by grip, chord by chord. -/
theorem gless_s (Ls : Nat → List Nat) (n : Nat) : gless Ls (n + 1) = if ((Ls n).length : Int) = 0 then gless Ls n + 1 else gless Ls n := rfl
theorem smA_s (Ls : Nat → List Nat) (ln ch : Nat → Int) (cnt c : Nat) : smA Ls ln ch cnt (c + 1) = smA Ls ln ch cnt c + (hEff (fr ((Ls c).getD (ch c).toNat 0)) + (if c + 1 < cnt then mvF Ls ln cnt (c : Int) (ch c) (ch (c + 1)) else 0)) := rfl

set_option maxRecDepth 100000 in
set_option maxHeartbeats 4000000 in
theorem law_k {G : xG} {K : xK} {ad : Nat → Nat} {nk b sl mc ms cells slots : Nat} {Q : Ins} {P : Pie} {d : Int} {tm sp : Int} {bf : Int64} {c : Nat} {su nn : Int} (C : xC G K "TablatureLaw" code 23) (hR : xGe K 60 mc ms) (hj : ∀ i j, i < 300 → j < 300 → ad i = ad j → i = j) (hcl : cells ≤ mc) (hsl : slots ≤ ms) (hc : c < P.m) (kk : ∀ (h' : PH), TabR G h' ad true Q P → NkR G h' ad nk b sl d Q P → X G K 23 625 [some (.ref b), some (vi tm), some (.ref nk), some (.ref (ad 0)), some (vi sp), some (.long bf), none, some (vi ((P.m : Nat) : Int)), some (vi ((Q.n : Nat) : Int)), some (vi (qT Q P)), some (vi su), some (vi nn), some (vi (c : Int)), some (vi (((qL Q P c).length : Nat) : Int)), none, none, none, none, none, none, none, none, none] [] h' cells slots)  : ∀ h : PH, TabR G h ad true Q P → NkR G h ad nk b sl d Q P → X G K 23 277 [some (.ref b), some (vi tm), some (.ref nk), some (.ref (ad 0)), some (vi sp), some (.long bf), none, some (vi ((P.m : Nat) : Int)), some (vi ((Q.n : Nat) : Int)), some (vi (qT Q P)), some (vi su), some (vi nn), some (vi (c : Int)), some (vi (((qL Q P c).length : Nat) : Int)), none, none, none, none, none, none, none, none, none] [] h cells slots := by
  intro h T N
  obtain ⟨IV1, CV1⟩ := T.iv
  have PV1 := N.d0.2.2
  have IVn := IV1.1
  have CVm := CV1.1
  have hl30 := qL_len IV1 CV1 PV1 hc
  refine x_iconst C dL_law_277 ?_
  refine x_istore C (ls' := [some (.ref b), some (vi tm), some (.ref nk), some (.ref (ad 0)), some (vi sp), some (.long bf), none, some (vi ((P.m : Nat) : Int)), some (vi ((Q.n : Nat) : Int)), some (vi (qT Q P)), some (vi su), some (vi nn), some (vi (c : Int)), some (vi (((qL Q P c).length : Nat) : Int)), none, some (vi 0), none, none, none, none, none, none, none]) dL_law_278 (by decide) rfl ?_
  have L280 : ∀ (n0 : Nat) (k : Nat) (hp : PH), (qL Q P c).length - k < n0 → (k ≤ 100) → (TabR G hp ad true Q P) → (NkR G hp ad nk b sl d Q P) → X G K 23 280 [some (.ref b), some (vi tm), some (.ref nk), some (.ref (ad 0)), some (vi sp), some (.long bf), none, some (vi ((P.m : Nat) : Int)), some (vi ((Q.n : Nat) : Int)), some (vi (qT Q P)), some (vi su), some (vi nn), some (vi (c : Int)), some (vi (((qL Q P c).length : Nat) : Int)), none, some (vi (k : Int)), none, none, none, none, none, none, none] [] hp cells slots := by
    intro n0
    induction n0 with
    | zero => intro k hp hm; exact absurd hm (Nat.not_lt_zero _)
    | succ n0 ih_L280 =>
      intro k hp hm ik Tp Np
      refine x_iload C dL_law_280 rfl ?_
      refine x_iload C dL_law_282 rfl ?_
      refine x_icmp_ge C (tgt := 625) dL_law_284 (by decide) ⟨by omega, by omega⟩ ⟨by omega, by omega⟩ (fun c284 => ?_) (fun c284 => ?_)
      · skip
        refine X.sub (ls' := [some (.ref b), some (vi tm), some (.ref nk), some (.ref (ad 0)), some (vi sp), some (.long bf), none, some (vi ((P.m : Nat) : Int)), some (vi ((Q.n : Nat) : Int)), some (vi (qT Q P)), some (vi su), some (vi nn), some (vi (c : Int)), some (vi (((qL Q P c).length : Nat) : Int)), none, none, none, none, none, none, none, none, none]) (sub_cons (Or.inr rfl) (sub_cons (Or.inr rfl) (sub_cons (Or.inr rfl) (sub_cons (Or.inr rfl) (sub_cons (Or.inr rfl) (sub_cons (Or.inr rfl) (sub_cons (Or.inl rfl) (sub_cons (Or.inr rfl) (sub_cons (Or.inr rfl) (sub_cons (Or.inr rfl) (sub_cons (Or.inr rfl) (sub_cons (Or.inr rfl) (sub_cons (Or.inr rfl) (sub_cons (Or.inr rfl) (sub_cons (Or.inl rfl) (sub_cons (Or.inl rfl) (sub_cons (Or.inl rfl) (sub_cons (Or.inl rfl) (sub_cons (Or.inl rfl) (sub_cons (Or.inl rfl) (sub_cons (Or.inl rfl) (sub_cons (Or.inl rfl) (sub_cons (Or.inl rfl) sub_nil))))))))))))))))))))))) ?_
        exact kk hp (Tp) (Np)
      · skip
        have hk : k < (qL Q P c).length := by omega
        refine x_iconst C dL_law_287 ?_
        refine x_istore C (ls' := [some (.ref b), some (vi tm), some (.ref nk), some (.ref (ad 0)), some (vi sp), some (.long bf), none, some (vi ((P.m : Nat) : Int)), some (vi ((Q.n : Nat) : Int)), some (vi (qT Q P)), some (vi su), some (vi nn), some (vi (c : Int)), some (vi (((qL Q P c).length : Nat) : Int)), none, some (vi (k : Int)), some (vi 0), none, none, none, none, none, none]) dL_law_288 (by decide) rfl ?_
        have L306 : ∀ (sm : Bool), (sm = true ↔ k + 1 < (qL Q P c).length) → X G K 23 306 [some (.ref b), some (vi tm), some (.ref nk), some (.ref (ad 0)), some (vi sp), some (.long bf), none, some (vi ((P.m : Nat) : Int)), some (vi ((Q.n : Nat) : Int)), some (vi (qT Q P)), some (vi su), some (vi nn), some (vi (c : Int)), some (vi (((qL Q P c).length : Nat) : Int)), none, some (vi (k : Int)), some (vi 0), some (vi (b2i sm)), none, none, none, none, none] [] hp cells slots := by
          intro sm s1
          refine law_a C hR hj hcl hsl hc hk (fun h1 sx1 s1 T1 N1 => ?_) _ _ s1 Tp Np
          refine x_iload C dL_law_558 rfl ?_
          refine x_ifneB C (tgt := 609) dL_law_560 (by decide) (fun c560 => ?_) (fun c560 => ?_)
          · skip
            exact absurd (s1.mp c560).2 (two_differ IV1 CV1 PV1 hc (s1.mp c560).1)
          · skip
            have hmx : mxF (hFin (fr ((qL Q P c).getD k 0))) Q.n = hFc (fr ((qL Q P c).getD k 0)) := mxF_fin IVn (fun a h1 h2 => by rw [(qL_cd IV1 CV1 PV1 hc hk).2.2 a h1 h2]; decide)
            have hpl := (qL_get IV1 CV1 PV1 hc hk).2.2
            unfold hPlay at hpl
            rw [Bool.and_eq_true, decide_eq_true_iff, decide_eq_true_iff] at hpl
            have hp4 := hpl.2
            have hfr := hFc_rg (fr_fbd ((qL Q P c).getD k 0))
            have her := hEff_rg (fr_fbd ((qL Q P c).getD k 0))
            have hb4 : (if hBar (fr ((qL Q P c).getD k 0)) = true then (1 : Int) else 0) = 1 → 4 ≤ hEff (fr ((qL Q P c).getD k 0)) := fun q => hBar_eff (fr_fbd ((qL Q P c).getD k 0)) (by by_cases w : hBar (fr ((qL Q P c).getD k 0)) = true; exact w; rw [if_neg w] at q; omega)
            have hbr : 0 ≤ (if hBar (fr ((qL Q P c).getD k 0)) = true then (1 : Int) else 0) ∧ (if hBar (fr ((qL Q P c).getD k 0)) = true then (1 : Int) else 0) ≤ 1 := by split <;> decide
            refine x_iload C dL_law_563 rfl ?_
            refine x_aload_n C dL_law_565 rfl rfl ?_
            refine x_iload C dL_law_566 rfl ?_
            refine x_iload C dL_law_568 rfl ?_
            refine x_iconst C dL_law_570 ?_
            refine x_invV C s_Law_56 (st := [vi (mxF (hFin (fr ((qL Q P c).getD k 0))) Q.n)]) (c_ofGrip3 hj T1 hc hk) (TabR.o T1).choose_spec rfl rfl (Nat.le_of_ble_eq_true rfl) (xRm_of hR (by omega) (by decide) (by omega) (by omega)) dL_law_571 (fun r9 h2 hq => ?_)
            obtain ⟨rfl, T2, p2⟩ := hq
            have N2 := N1.fr p2
            refine x_icmp_ne C (tgt := 609) dL_law_574 (by decide) ⟨by omega, by omega⟩ ⟨by omega, by omega⟩ (fun c574 => ?_) (fun c574 => ?_)
            · skip
              exfalso; omega
            · skip
              refine x_iload C dL_law_577 rfl ?_
              refine x_iconst C dL_law_579 ?_
              refine x_icmp_gt C (tgt := 609) dL_law_580 (by decide) ⟨by omega, by omega⟩ (by decide) (fun c580 => ?_) (fun c580 => ?_)
              · skip
                exfalso; omega
              · skip
                refine x_aload_n C dL_law_583 rfl rfl ?_
                refine x_iload C dL_law_584 rfl ?_
                refine x_iload C dL_law_586 rfl ?_
                refine x_iconst C dL_law_588 ?_
                refine x_invV C s_Law_56 (st := []) (c_ofGrip4 hj T2 hc hk) (TabR.o T2).choose_spec rfl rfl (Nat.le_of_ble_eq_true rfl) (xRm_of hR (by omega) (by decide) (by omega) (by omega)) dL_law_589 (fun r9 h3 hq => ?_)
                obtain ⟨rfl, T3, p3⟩ := hq
                have N3 := N2.fr p3
                refine x_iconst C dL_law_592 ?_
                refine x_icmp_ne C (tgt := 611) dL_law_593 (by decide) ⟨by omega, by omega⟩ (by decide) (fun c593 => ?_) (fun c593 => ?_)
                · skip
                  refine x_iload C dL_law_611 rfl ?_
                  refine x_iconst C dL_law_613 ?_
                  refine x_iload C dL_law_614 rfl ?_
                  refine x_iconst C dL_law_616 ?_
                  obtain ⟨zd, hzd, ezd⟩ := I_divE (a := (k : Int)) (b := 3) ⟨by omega, by omega⟩ (by decide)
                  refine x_idiv C (c := (zd : Int)) dL_law_617 (I_ne0 (by decide) (by decide)) ezd ?_
                  refine x_iadd C dL_law_618 ?_
                  refine x_iadd C dL_law_619 ?_
                  refine x_re (b := ((k + (1 + zd) : Nat) : Int)) (by omega) ?_
                  refine x_istore C (ls' := [some (.ref b), some (vi tm), some (.ref nk), some (.ref (ad 0)), some (vi sp), some (.long bf), none, some (vi ((P.m : Nat) : Int)), some (vi ((Q.n : Nat) : Int)), some (vi (qT Q P)), some (vi su), some (vi nn), some (vi (c : Int)), some (vi (((qL Q P c).length : Nat) : Int)), none, some (vi ((k + (1 + zd) : Nat) : Int)), some (vi (mxF (hFin (fr ((qL Q P c).getD k 0))) Q.n)), some (vi (b2i sx1)), none, none, none, none, none]) dL_law_620 (by decide) rfl ?_
                  refine x_goto C (tgt := 280) dL_law_622 (by decide) ?_
                  refine X.sub (ls' := [some (.ref b), some (vi tm), some (.ref nk), some (.ref (ad 0)), some (vi sp), some (.long bf), none, some (vi ((P.m : Nat) : Int)), some (vi ((Q.n : Nat) : Int)), some (vi (qT Q P)), some (vi su), some (vi nn), some (vi (c : Int)), some (vi (((qL Q P c).length : Nat) : Int)), none, some (vi ((k + (1 + zd) : Nat) : Int)), none, none, none, none, none, none, none]) (sub_cons (Or.inr rfl) (sub_cons (Or.inr rfl) (sub_cons (Or.inr rfl) (sub_cons (Or.inr rfl) (sub_cons (Or.inr rfl) (sub_cons (Or.inr rfl) (sub_cons (Or.inl rfl) (sub_cons (Or.inr rfl) (sub_cons (Or.inr rfl) (sub_cons (Or.inr rfl) (sub_cons (Or.inr rfl) (sub_cons (Or.inr rfl) (sub_cons (Or.inr rfl) (sub_cons (Or.inr rfl) (sub_cons (Or.inl rfl) (sub_cons (Or.inr rfl) (sub_cons (Or.inl rfl) (sub_cons (Or.inl rfl) (sub_cons (Or.inl rfl) (sub_cons (Or.inl rfl) (sub_cons (Or.inl rfl) (sub_cons (Or.inl rfl) (sub_cons (Or.inl rfl) sub_nil))))))))))))))))))))))) ?_
                  exact ih_L280 (k + (1 + zd)) h3 (by omega) (by omega) (T3) (N3)
                · skip
                  refine x_aload_n C dL_law_596 rfl rfl ?_
                  refine x_iload C dL_law_597 rfl ?_
                  refine x_iload C dL_law_599 rfl ?_
                  refine x_iconst C dL_law_601 ?_
                  refine x_invV C s_Law_56 (st := []) (c_ofGrip0 hj T3 hc hk) (TabR.o T3).choose_spec rfl rfl (Nat.le_of_ble_eq_true rfl) (xRm_of hR (by omega) (by decide) (by omega) (by omega)) dL_law_602 (fun r9 h4 hq => ?_)
                  obtain ⟨rfl, T4, p4⟩ := hq
                  have N4 := N3.fr p4
                  refine x_iconst C dL_law_605 ?_
                  refine x_icmp_ge C (tgt := 611) dL_law_606 (by decide) ⟨by omega, by omega⟩ (by decide) (fun c606 => ?_) (fun c606 => ?_)
                  · skip
                    refine x_iload C dL_law_611 rfl ?_
                    refine x_iconst C dL_law_613 ?_
                    refine x_iload C dL_law_614 rfl ?_
                    refine x_iconst C dL_law_616 ?_
                    obtain ⟨zd, hzd, ezd⟩ := I_divE (a := (k : Int)) (b := 3) ⟨by omega, by omega⟩ (by decide)
                    refine x_idiv C (c := (zd : Int)) dL_law_617 (I_ne0 (by decide) (by decide)) ezd ?_
                    refine x_iadd C dL_law_618 ?_
                    refine x_iadd C dL_law_619 ?_
                    refine x_re (b := ((k + (1 + zd) : Nat) : Int)) (by omega) ?_
                    refine x_istore C (ls' := [some (.ref b), some (vi tm), some (.ref nk), some (.ref (ad 0)), some (vi sp), some (.long bf), none, some (vi ((P.m : Nat) : Int)), some (vi ((Q.n : Nat) : Int)), some (vi (qT Q P)), some (vi su), some (vi nn), some (vi (c : Int)), some (vi (((qL Q P c).length : Nat) : Int)), none, some (vi ((k + (1 + zd) : Nat) : Int)), some (vi (mxF (hFin (fr ((qL Q P c).getD k 0))) Q.n)), some (vi (b2i sx1)), none, none, none, none, none]) dL_law_620 (by decide) rfl ?_
                    refine x_goto C (tgt := 280) dL_law_622 (by decide) ?_
                    refine X.sub (ls' := [some (.ref b), some (vi tm), some (.ref nk), some (.ref (ad 0)), some (vi sp), some (.long bf), none, some (vi ((P.m : Nat) : Int)), some (vi ((Q.n : Nat) : Int)), some (vi (qT Q P)), some (vi su), some (vi nn), some (vi (c : Int)), some (vi (((qL Q P c).length : Nat) : Int)), none, some (vi ((k + (1 + zd) : Nat) : Int)), none, none, none, none, none, none, none]) (sub_cons (Or.inr rfl) (sub_cons (Or.inr rfl) (sub_cons (Or.inr rfl) (sub_cons (Or.inr rfl) (sub_cons (Or.inr rfl) (sub_cons (Or.inr rfl) (sub_cons (Or.inl rfl) (sub_cons (Or.inr rfl) (sub_cons (Or.inr rfl) (sub_cons (Or.inr rfl) (sub_cons (Or.inr rfl) (sub_cons (Or.inr rfl) (sub_cons (Or.inr rfl) (sub_cons (Or.inr rfl) (sub_cons (Or.inl rfl) (sub_cons (Or.inr rfl) (sub_cons (Or.inl rfl) (sub_cons (Or.inl rfl) (sub_cons (Or.inl rfl) (sub_cons (Or.inl rfl) (sub_cons (Or.inl rfl) (sub_cons (Or.inl rfl) (sub_cons (Or.inl rfl) sub_nil))))))))))))))))))))))) ?_
                    exact ih_L280 (k + (1 + zd)) h4 (by omega) (by omega) (T4) (N4)
                  · skip
                    exfalso; omega
        refine x_iload C dL_law_290 rfl ?_
        refine x_iconst C dL_law_292 ?_
        refine x_iadd C dL_law_293 ?_
        refine x_iload C dL_law_294 rfl ?_
        refine x_icmp_ge C (tgt := 303) dL_law_296 (by decide) ⟨by omega, by omega⟩ ⟨by omega, by omega⟩ (fun c296 => ?_) (fun c296 => ?_)
        · skip
          refine x_iconst C dL_law_303 ?_
          refine x_istore C (ls' := [some (.ref b), some (vi tm), some (.ref nk), some (.ref (ad 0)), some (vi sp), some (.long bf), none, some (vi ((P.m : Nat) : Int)), some (vi ((Q.n : Nat) : Int)), some (vi (qT Q P)), some (vi su), some (vi nn), some (vi (c : Int)), some (vi (((qL Q P c).length : Nat) : Int)), none, some (vi (k : Int)), some (vi 0), some (vi 0), none, none, none, none, none]) dL_law_304 (by decide) rfl ?_
          exact L306 false (⟨fun q => absurd q (by decide), fun q => absurd q (by omega)⟩)
        · skip
          refine x_iconst C dL_law_299 ?_
          refine x_goto C (tgt := 304) dL_law_300 (by decide) ?_
          refine x_istore C (ls' := [some (.ref b), some (vi tm), some (.ref nk), some (.ref (ad 0)), some (vi sp), some (.long bf), none, some (vi ((P.m : Nat) : Int)), some (vi ((Q.n : Nat) : Int)), some (vi (qT Q P)), some (vi su), some (vi nn), some (vi (c : Int)), some (vi (((qL Q P c).length : Nat) : Int)), none, some (vi (k : Int)), some (vi 0), some (vi 1), none, none, none, none, none]) dL_law_304 (by decide) rfl ?_
          exact L306 true (⟨fun _ => by omega, fun _ => rfl⟩)
  exact L280 _ 0 h (Nat.lt_succ_self _) (by omega) (T) (N)

set_option maxRecDepth 100000 in
set_option maxHeartbeats 4000000 in
theorem law_c {G : xG} {K : xK} {ad : Nat → Nat} {nk b sl mc ms cells slots : Nat} {Q : Ins} {P : Pie} {d : Int} {tm sp : Int} {bf : Int64} (C : xC G K "TablatureLaw" code 23) (hR : xGe K 60 mc ms) (hj : ∀ i j, i < 300 → j < 300 → ad i = ad j → i = j) (hcl : cells ≤ mc) (hsl : slots ≤ ms) (kk : ∀ (h' : PH) (su : Int), (0 ≤ qT Q P → su = smA (qL Q P) P.cl (qC Q P) P.m P.m) → TabR G h' ad true Q P → NkR G h' ad nk b sl d Q P → X G K 23 631 [some (.ref b), some (vi tm), some (.ref nk), some (.ref (ad 0)), some (vi sp), some (.long bf), none, some (vi ((P.m : Nat) : Int)), some (vi ((Q.n : Nat) : Int)), some (vi (qT Q P)), some (vi su), some (vi (gless (qL Q P) P.m)), none, none, none, none, none, none, none, none, none, none, none] [] h' cells slots)  : ∀ h : PH, TabR G h ad true Q P → NkR G h ad nk b sl d Q P → X G K 23 114 [some (.ref b), some (vi tm), some (.ref nk), some (.ref (ad 0)), some (vi sp), some (.long bf), none, some (vi ((P.m : Nat) : Int)), some (vi ((Q.n : Nat) : Int)), some (vi (qT Q P)), none, none, none, none, none, none, none, none, none, none, none, none, none] [] h cells slots := by
  intro h T N
  obtain ⟨IV1, CV1⟩ := T.iv
  have PV1 := N.d0.2.2
  have IVn := IV1.1
  have CVm := CV1.1
  have hqt := qT_rg Q P CVm
  refine x_iconst C dL_law_114 ?_
  refine x_istore C (ls' := [some (.ref b), some (vi tm), some (.ref nk), some (.ref (ad 0)), some (vi sp), some (.long bf), none, some (vi ((P.m : Nat) : Int)), some (vi ((Q.n : Nat) : Int)), some (vi (qT Q P)), some (vi 0), none, none, none, none, none, none, none, none, none, none, none, none]) dL_law_115 (by decide) rfl ?_
  refine x_iconst C dL_law_117 ?_
  refine x_istore C (ls' := [some (.ref b), some (vi tm), some (.ref nk), some (.ref (ad 0)), some (vi sp), some (.long bf), none, some (vi ((P.m : Nat) : Int)), some (vi ((Q.n : Nat) : Int)), some (vi (qT Q P)), some (vi 0), some (vi 0), none, none, none, none, none, none, none, none, none, none, none]) dL_law_118 (by decide) rfl ?_
  refine x_iconst C dL_law_120 ?_
  refine x_istore C (ls' := [some (.ref b), some (vi tm), some (.ref nk), some (.ref (ad 0)), some (vi sp), some (.long bf), none, some (vi ((P.m : Nat) : Int)), some (vi ((Q.n : Nat) : Int)), some (vi (qT Q P)), some (vi 0), some (vi 0), some (vi 0), none, none, none, none, none, none, none, none, none, none]) dL_law_121 (by decide) rfl ?_
  have L123 : ∀ (n0 : Nat) (c : Nat) (su : Int) (hp : PH), P.m - c < n0 → (c ≤ P.m) → (0 ≤ qT Q P → su = smA (qL Q P) P.cl (qC Q P) P.m c) → (TabR G hp ad true Q P) → (NkR G hp ad nk b sl d Q P) → X G K 23 123 [some (.ref b), some (vi tm), some (.ref nk), some (.ref (ad 0)), some (vi sp), some (.long bf), none, some (vi ((P.m : Nat) : Int)), some (vi ((Q.n : Nat) : Int)), some (vi (qT Q P)), some (vi su), some (vi (gless (qL Q P) c)), some (vi (c : Int)), none, none, none, none, none, none, none, none, none, none] [] hp cells slots := by
    intro n0
    induction n0 with
    | zero => intro c su hp hm; exact absurd hm (Nat.not_lt_zero _)
    | succ n0 ih_L123 =>
      intro c su hp hm i1 hs Tp Np
      refine x_iload C dL_law_123 rfl ?_
      refine x_iload C dL_law_125 rfl ?_
      refine x_icmp_ge C (tgt := 631) dL_law_127 (by decide) ⟨by omega, by omega⟩ ⟨by omega, by omega⟩ (fun c127 => ?_) (fun c127 => ?_)
      · skip
        have hcq : P.m = c := by omega
        rw [← hcq]
        refine X.sub (ls' := [some (.ref b), some (vi tm), some (.ref nk), some (.ref (ad 0)), some (vi sp), some (.long bf), none, some (vi ((P.m : Nat) : Int)), some (vi ((Q.n : Nat) : Int)), some (vi (qT Q P)), some (vi su), some (vi (gless (qL Q P) P.m)), none, none, none, none, none, none, none, none, none, none, none]) (sub_cons (Or.inr rfl) (sub_cons (Or.inr rfl) (sub_cons (Or.inr rfl) (sub_cons (Or.inr rfl) (sub_cons (Or.inr rfl) (sub_cons (Or.inr rfl) (sub_cons (Or.inl rfl) (sub_cons (Or.inr rfl) (sub_cons (Or.inr rfl) (sub_cons (Or.inr rfl) (sub_cons (Or.inr rfl) (sub_cons (Or.inr rfl) (sub_cons (Or.inl rfl) (sub_cons (Or.inl rfl) (sub_cons (Or.inl rfl) (sub_cons (Or.inl rfl) (sub_cons (Or.inl rfl) (sub_cons (Or.inl rfl) (sub_cons (Or.inl rfl) (sub_cons (Or.inl rfl) (sub_cons (Or.inl rfl) (sub_cons (Or.inl rfl) (sub_cons (Or.inl rfl) sub_nil))))))))))))))))))))))) ?_
        exact kk hp su (fun q => (hs q).trans (by rw [← hcq])) (Tp) (Np)
      · skip
        have hc : c < P.m := by omega
        have hgr := gless_rg (qL Q P) c
        have hl30 := qL_len IV1 CV1 PV1 hc
        refine x_aload_n C dL_law_130 rfl rfl ?_
        refine x_iload C dL_law_131 rfl ?_
        refine x_iconst C dL_law_133 ?_
        refine x_invV C s_Law_49 (st := []) (c_ofChord4 hj Tp hc) (TabR.o Tp).choose_spec rfl rfl (Nat.le_of_ble_eq_true rfl) (xRm_of hR (by omega) (by decide) (by omega) (by omega)) dL_law_134 (fun r9 h5 hq => ?_)
        obtain ⟨rfl, T5, p5⟩ := hq
        have N5 := Np.fr p5
        refine x_istore C (ls' := [some (.ref b), some (vi tm), some (.ref nk), some (.ref (ad 0)), some (vi sp), some (.long bf), none, some (vi ((P.m : Nat) : Int)), some (vi ((Q.n : Nat) : Int)), some (vi (qT Q P)), some (vi su), some (vi (gless (qL Q P) c)), some (vi (c : Int)), some (vi (((qL Q P c).length : Nat) : Int)), none, none, none, none, none, none, none, none, none]) dL_law_137 (by decide) rfl ?_
        have L154 : X G K 23 154 [some (.ref b), some (vi tm), some (.ref nk), some (.ref (ad 0)), some (vi sp), some (.long bf), none, some (vi ((P.m : Nat) : Int)), some (vi ((Q.n : Nat) : Int)), some (vi (qT Q P)), some (vi su), some (vi (gless (qL Q P) (c + 1))), some (vi (c : Int)), some (vi (((qL Q P c).length : Nat) : Int)), none, none, none, none, none, none, none, none, none] [] h5 cells slots := by
          refine x_aload_n C dL_law_154 rfl rfl ?_
          refine x_iload C dL_law_155 rfl ?_
          refine x_iconst C dL_law_157 ?_
          refine x_invV C s_Law_49 (st := []) (c_ofChord5 hj T5 hc) (TabR.o T5).choose_spec rfl rfl (Nat.le_of_ble_eq_true rfl) (xRm_of hR (by omega) (by decide) (by omega) (by omega)) dL_law_158 (fun r9 h6 hq => ?_)
          obtain ⟨rfl, T6, p6⟩ := hq
          have N6 := N5.fr p6
          refine x_istore C (ls' := [some (.ref b), some (vi tm), some (.ref nk), some (.ref (ad 0)), some (vi sp), some (.long bf), none, some (vi ((P.m : Nat) : Int)), some (vi ((Q.n : Nat) : Int)), some (vi (qT Q P)), some (vi su), some (vi (gless (qL Q P) (c + 1))), some (vi (c : Int)), some (vi (((qL Q P c).length : Nat) : Int)), some (vi (qF Q P c)), none, none, none, none, none, none, none, none]) dL_law_161 (by decide) rfl ?_
          have hqf : -1 ≤ qF Q P c ∧ qF Q P c < (((qL Q P c).length : Nat) : Int) := numL_rg _ _
          refine x_iload C dL_law_163 rfl ?_
          refine x_bipush C (z := 30) dL_law_165 (by decide) ?_
          refine x_icmp_gt C (tgt := 218) dL_law_167 (by decide) ⟨by omega, by omega⟩ (by decide) (fun c167 => ?_) (fun c167 => ?_)
          · skip
            exfalso; omega
          · skip
            refine x_iload C dL_law_170 rfl ?_
            refine x_iload C dL_law_172 rfl ?_
            refine x_icmp_ge C (tgt := 218) dL_law_174 (by decide) ⟨by omega, by omega⟩ ⟨by omega, by omega⟩ (fun c174 => ?_) (fun c174 => ?_)
            · skip
              exfalso; omega
            · skip
              have L220 : ∀ (hq : PH), (TabR G hq ad true Q P) → (NkR G hq ad nk b sl d Q P) → X G K 23 220 [some (.ref b), some (vi tm), some (.ref nk), some (.ref (ad 0)), some (vi sp), some (.long bf), none, some (vi ((P.m : Nat) : Int)), some (vi ((Q.n : Nat) : Int)), some (vi (qT Q P)), some (vi su), some (vi (gless (qL Q P) (c + 1))), some (vi (c : Int)), some (vi (((qL Q P c).length : Nat) : Int)), none, none, none, none, none, none, none, none, none] [] hq cells slots := by
                intro hq Tq Nq
                have L277 : ∀ (su2 : Int) (hr : PH), (0 ≤ qT Q P → su2 = smA (qL Q P) P.cl (qC Q P) P.m (c + 1)) → (TabR G hr ad true Q P) → (NkR G hr ad nk b sl d Q P) → X G K 23 277 [some (.ref b), some (vi tm), some (.ref nk), some (.ref (ad 0)), some (vi sp), some (.long bf), none, some (vi ((P.m : Nat) : Int)), some (vi ((Q.n : Nat) : Int)), some (vi (qT Q P)), some (vi su2), some (vi (gless (qL Q P) (c + 1))), some (vi (c : Int)), some (vi (((qL Q P c).length : Nat) : Int)), none, none, none, none, none, none, none, none, none] [] hr cells slots := by
                  intro su2 hr hs2 Tr Nr
                  refine law_k C hR hj hcl hsl hc (fun h7 T7 N7 => ?_) _ Tr Nr
                  refine x_iinc C (ls' := [some (.ref b), some (vi tm), some (.ref nk), some (.ref (ad 0)), some (vi sp), some (.long bf), none, some (vi ((P.m : Nat) : Int)), some (vi ((Q.n : Nat) : Int)), some (vi (qT Q P)), some (vi su2), some (vi (gless (qL Q P) (c + 1))), some (vi ((c : Int) + 1)), some (vi (((qL Q P c).length : Nat) : Int)), none, none, none, none, none, none, none, none, none]) dL_law_625 rfl (by decide) (z1 := ((c : Int) + 1)) rfl rfl ?_
                  refine x_goto C (tgt := 123) dL_law_628 (by decide) ?_
                  refine X.sub (ls' := [some (.ref b), some (vi tm), some (.ref nk), some (.ref (ad 0)), some (vi sp), some (.long bf), none, some (vi ((P.m : Nat) : Int)), some (vi ((Q.n : Nat) : Int)), some (vi (qT Q P)), some (vi su2), some (vi (gless (qL Q P) (c + 1))), some (vi ((c : Int) + 1)), none, none, none, none, none, none, none, none, none, none]) (sub_cons (Or.inr rfl) (sub_cons (Or.inr rfl) (sub_cons (Or.inr rfl) (sub_cons (Or.inr rfl) (sub_cons (Or.inr rfl) (sub_cons (Or.inr rfl) (sub_cons (Or.inl rfl) (sub_cons (Or.inr rfl) (sub_cons (Or.inr rfl) (sub_cons (Or.inr rfl) (sub_cons (Or.inr rfl) (sub_cons (Or.inr rfl) (sub_cons (Or.inr rfl) (sub_cons (Or.inl rfl) (sub_cons (Or.inl rfl) (sub_cons (Or.inl rfl) (sub_cons (Or.inl rfl) (sub_cons (Or.inl rfl) (sub_cons (Or.inl rfl) (sub_cons (Or.inl rfl) (sub_cons (Or.inl rfl) (sub_cons (Or.inl rfl) (sub_cons (Or.inl rfl) sub_nil))))))))))))))))))))))) ?_
                  exact ih_L123 (c + 1) su2 h7 (by omega) (by omega) (hs2) (T7) (N7)
                refine x_iload C dL_law_220 rfl ?_
                refine x_if_lt C (tgt := 277) dL_law_222 (by decide) ⟨by omega, by omega⟩ (fun c222 => ?_) (fun c222 => ?_)
                · skip
                  exact L277 su hq (fun q => absurd q (by omega)) (Tq) (Nq)
                · skip
                  obtain ⟨kp, hp1, hp2, hp3⟩ := plan_ok c222 hc
                  refine x_iload C dL_law_225 rfl ?_
                  refine x_aload_n C dL_law_227 rfl rfl ?_
                  refine x_iload C dL_law_228 rfl ?_
                  refine x_aload_n C dL_law_230 rfl rfl ?_
                  refine x_iload C dL_law_231 rfl ?_
                  refine x_invV C s_Law_53 (st := [vi (c : Int), .ref (ad 0), vi su]) (c_plan hj Tq hc) (TabR.o Tq).choose_spec rfl rfl (Nat.le_of_ble_eq_true rfl) (xRm_of hR (by omega) (by decide) (by omega) (by omega)) dL_law_233 (fun r9 h8 hq => ?_)
                  obtain ⟨rfl, T8, p8⟩ := hq
                  have N8 := Nq.fr p8
                  refine x_re (b := ((kp : Nat) : Int)) (hp2) ?_
                  refine x_iconst C dL_law_236 ?_
                  refine x_invV C s_Law_56 (st := [vi su]) (c_ofGrip0 hj T8 hc hp1) (TabR.o T8).choose_spec rfl rfl (Nat.le_of_ble_eq_true rfl) (xRm_of hR (by omega) (by decide) (by omega) (by omega)) dL_law_237 (fun r9 h9 hq => ?_)
                  obtain ⟨rfl, T9, p9⟩ := hq
                  have N9 := N8.fr p9
                  refine x_iload C dL_law_240 rfl ?_
                  refine x_iconst C dL_law_242 ?_
                  refine x_iadd C dL_law_243 ?_
                  refine x_iload C dL_law_244 rfl ?_
                  refine x_icmp_ge C (tgt := 272) dL_law_246 (by decide) ⟨by omega, by omega⟩ ⟨by omega, by omega⟩ (fun c246 => ?_) (fun c246 => ?_)
                  · skip
                    refine x_iconst C dL_law_272 ?_
                    refine x_iadd C dL_law_273 ?_
                    refine x_iadd C dL_law_274 ?_
                    refine x_istore C (ls' := [some (.ref b), some (vi tm), some (.ref nk), some (.ref (ad 0)), some (vi sp), some (.long bf), none, some (vi ((P.m : Nat) : Int)), some (vi ((Q.n : Nat) : Int)), some (vi (qT Q P)), some (vi (su + ((hEff (fr ((qL Q P c).getD kp 0))) + 0))), some (vi (gless (qL Q P) (c + 1))), some (vi (c : Int)), some (vi (((qL Q P c).length : Nat) : Int)), none, none, none, none, none, none, none, none, none]) dL_law_275 (by decide) rfl ?_
                    exact L277 (su + ((hEff (fr ((qL Q P c).getD kp 0))) + 0)) h9 (fun q => by rw [smA_s, hp2, if_neg (by omega), ← hs q]; rfl) (T9) (N9)
                  · skip
                    obtain ⟨kq, hq1, hq2, hq3⟩ := plan_ok c222 (c := c + 1) (by omega)
                    refine x_aload_n C dL_law_249 rfl rfl ?_
                    refine x_iload C dL_law_250 rfl ?_
                    refine x_aload_n C dL_law_252 rfl rfl ?_
                    refine x_iload C dL_law_253 rfl ?_
                    refine x_invV C s_Law_53 (st := [vi (c : Int), .ref (ad 0), vi (hEff (fr ((qL Q P c).getD kp 0))), vi su]) (c_plan hj T9 hc) (TabR.o T9).choose_spec rfl rfl (Nat.le_of_ble_eq_true rfl) (xRm_of hR (by omega) (by decide) (by omega) (by omega)) dL_law_255 (fun r9 h10 hq => ?_)
                    obtain ⟨rfl, T10, p10⟩ := hq
                    have N10 := N9.fr p10
                    refine x_re (b := ((kp : Nat) : Int)) (hp2) ?_
                    refine x_aload_n C dL_law_258 rfl rfl ?_
                    refine x_iload C dL_law_259 rfl ?_
                    refine x_iconst C dL_law_261 ?_
                    refine x_iadd C dL_law_262 ?_
                    refine x_re (b := ((c + 1 : Nat) : Int)) (by omega) ?_
                    refine x_invV C s_Law_53 (st := [vi ((kp : Nat) : Int), vi (c : Int), .ref (ad 0), vi (hEff (fr ((qL Q P c).getD kp 0))), vi su]) (c_plan hj T10 (c := c + 1) (by omega)) (TabR.o T10).choose_spec rfl rfl (Nat.le_of_ble_eq_true rfl) (xRm_of hR (by omega) (by decide) (by omega) (by omega)) dL_law_263 (fun r9 h11 hq => ?_)
                    obtain ⟨rfl, T11, p11⟩ := hq
                    have N11 := N10.fr p11
                    refine x_re (b := ((kq : Nat) : Int)) (hq2) ?_
                    refine x_invV C s_Law_60 (st := [vi (hEff (fr ((qL Q P c).getD kp 0))), vi su]) (c_move hj T11 (c := c) (g := kp) (k := kq) (by omega) hp1 hq1) (TabR.o T11).choose_spec rfl rfl (Nat.le_of_ble_eq_true rfl) (xRm_of hR (by omega) (by decide) (by omega) (by omega)) dL_law_266 (fun r9 h12 hq => ?_)
                    obtain ⟨rfl, T12, p12⟩ := hq
                    have N12 := N11.fr p12
                    refine x_goto C (tgt := 273) dL_law_269 (by decide) ?_
                    refine x_iadd C dL_law_273 ?_
                    refine x_iadd C dL_law_274 ?_
                    refine x_istore C (ls' := [some (.ref b), some (vi tm), some (.ref nk), some (.ref (ad 0)), some (vi sp), some (.long bf), none, some (vi ((P.m : Nat) : Int)), some (vi ((Q.n : Nat) : Int)), some (vi (qT Q P)), some (vi (su + ((hEff (fr ((qL Q P c).getD kp 0))) + (mvF (qL Q P) P.cl P.m (c : Int) (kp : Int) (kq : Int))))), some (vi (gless (qL Q P) (c + 1))), some (vi (c : Int)), some (vi (((qL Q P c).length : Nat) : Int)), none, none, none, none, none, none, none, none, none]) dL_law_275 (by decide) rfl ?_
                    exact L277 (su + ((hEff (fr ((qL Q P c).getD kp 0))) + (mvF (qL Q P) P.cl P.m (c : Int) (kp : Int) (kq : Int)))) h12 (fun q => by rw [smA_s, hp2, hq2, if_pos (by omega), ← hs q]; rfl) (T12) (N12)
              refine x_iload C dL_law_177 rfl ?_
              refine x_if_lt C (tgt := 220) dL_law_179 (by decide) ⟨by omega, by omega⟩ (fun c179 => ?_) (fun c179 => ?_)
              · skip
                refine X.sub (ls' := [some (.ref b), some (vi tm), some (.ref nk), some (.ref (ad 0)), some (vi sp), some (.long bf), none, some (vi ((P.m : Nat) : Int)), some (vi ((Q.n : Nat) : Int)), some (vi (qT Q P)), some (vi su), some (vi (gless (qL Q P) (c + 1))), some (vi (c : Int)), some (vi (((qL Q P c).length : Nat) : Int)), none, none, none, none, none, none, none, none, none]) (sub_cons (Or.inr rfl) (sub_cons (Or.inr rfl) (sub_cons (Or.inr rfl) (sub_cons (Or.inr rfl) (sub_cons (Or.inr rfl) (sub_cons (Or.inr rfl) (sub_cons (Or.inl rfl) (sub_cons (Or.inr rfl) (sub_cons (Or.inr rfl) (sub_cons (Or.inr rfl) (sub_cons (Or.inr rfl) (sub_cons (Or.inr rfl) (sub_cons (Or.inr rfl) (sub_cons (Or.inr rfl) (sub_cons (Or.inl rfl) (sub_cons (Or.inl rfl) (sub_cons (Or.inl rfl) (sub_cons (Or.inl rfl) (sub_cons (Or.inl rfl) (sub_cons (Or.inl rfl) (sub_cons (Or.inl rfl) (sub_cons (Or.inl rfl) (sub_cons (Or.inl rfl) sub_nil))))))))))))))))))))))) ?_
                exact L220 h6 (T6) (N6)
              · skip
                obtain ⟨kp, hp1, hp2, hp3⟩ := plan_ok c179 hc
                refine x_aload_n C dL_law_182 rfl rfl ?_
                refine x_iload C dL_law_183 rfl ?_
                refine x_invV C s_Law_53 (st := []) (c_plan hj T6 hc) (TabR.o T6).choose_spec rfl rfl (Nat.le_of_ble_eq_true rfl) (xRm_of hR (by omega) (by decide) (by omega) (by omega)) dL_law_185 (fun r9 h13 hq => ?_)
                obtain ⟨rfl, T13, p13⟩ := hq
                have N13 := N6.fr p13
                refine x_if_lt C (tgt := 218) dL_law_188 (by decide) ⟨by omega, by omega⟩ (fun c188 => ?_) (fun c188 => ?_)
                · skip
                  exfalso; omega
                · skip
                  refine x_aload_n C dL_law_191 rfl rfl ?_
                  refine x_iload C dL_law_192 rfl ?_
                  refine x_invV C s_Law_53 (st := []) (c_plan hj T13 hc) (TabR.o T13).choose_spec rfl rfl (Nat.le_of_ble_eq_true rfl) (xRm_of hR (by omega) (by decide) (by omega) (by omega)) dL_law_194 (fun r9 h14 hq => ?_)
                  obtain ⟨rfl, T14, p14⟩ := hq
                  have N14 := N13.fr p14
                  refine x_iload C dL_law_197 rfl ?_
                  refine x_icmp_ge C (tgt := 218) dL_law_199 (by decide) ⟨by omega, by omega⟩ ⟨by omega, by omega⟩ (fun c199 => ?_) (fun c199 => ?_)
                  · skip
                    exfalso; omega
                  · skip
                    refine x_iload C dL_law_202 rfl ?_
                    refine x_if_lt C (tgt := 220) dL_law_204 (by decide) ⟨by omega, by omega⟩ (fun c204 => ?_) (fun c204 => ?_)
                    · skip
                      refine X.sub (ls' := [some (.ref b), some (vi tm), some (.ref nk), some (.ref (ad 0)), some (vi sp), some (.long bf), none, some (vi ((P.m : Nat) : Int)), some (vi ((Q.n : Nat) : Int)), some (vi (qT Q P)), some (vi su), some (vi (gless (qL Q P) (c + 1))), some (vi (c : Int)), some (vi (((qL Q P c).length : Nat) : Int)), none, none, none, none, none, none, none, none, none]) (sub_cons (Or.inr rfl) (sub_cons (Or.inr rfl) (sub_cons (Or.inr rfl) (sub_cons (Or.inr rfl) (sub_cons (Or.inr rfl) (sub_cons (Or.inr rfl) (sub_cons (Or.inl rfl) (sub_cons (Or.inr rfl) (sub_cons (Or.inr rfl) (sub_cons (Or.inr rfl) (sub_cons (Or.inr rfl) (sub_cons (Or.inr rfl) (sub_cons (Or.inr rfl) (sub_cons (Or.inr rfl) (sub_cons (Or.inl rfl) (sub_cons (Or.inl rfl) (sub_cons (Or.inl rfl) (sub_cons (Or.inl rfl) (sub_cons (Or.inl rfl) (sub_cons (Or.inl rfl) (sub_cons (Or.inl rfl) (sub_cons (Or.inl rfl) (sub_cons (Or.inl rfl) sub_nil))))))))))))))))))))))) ?_
                      exact L220 h14 (T14) (N14)
                    · skip
                      refine x_aload_n C dL_law_207 rfl rfl ?_
                      refine x_iload C dL_law_208 rfl ?_
                      refine x_invV C s_Law_53 (st := []) (c_plan hj T14 hc) (TabR.o T14).choose_spec rfl rfl (Nat.le_of_ble_eq_true rfl) (xRm_of hR (by omega) (by decide) (by omega) (by omega)) dL_law_210 (fun r9 h15 hq => ?_)
                      obtain ⟨rfl, T15, p15⟩ := hq
                      have N15 := N14.fr p15
                      refine x_iload C dL_law_213 rfl ?_
                      refine x_icmp_eq C (tgt := 220) dL_law_215 (by decide) ⟨by omega, by omega⟩ ⟨by omega, by omega⟩ (fun c215 => ?_) (fun c215 => ?_)
                      · skip
                        refine X.sub (ls' := [some (.ref b), some (vi tm), some (.ref nk), some (.ref (ad 0)), some (vi sp), some (.long bf), none, some (vi ((P.m : Nat) : Int)), some (vi ((Q.n : Nat) : Int)), some (vi (qT Q P)), some (vi su), some (vi (gless (qL Q P) (c + 1))), some (vi (c : Int)), some (vi (((qL Q P c).length : Nat) : Int)), none, none, none, none, none, none, none, none, none]) (sub_cons (Or.inr rfl) (sub_cons (Or.inr rfl) (sub_cons (Or.inr rfl) (sub_cons (Or.inr rfl) (sub_cons (Or.inr rfl) (sub_cons (Or.inr rfl) (sub_cons (Or.inl rfl) (sub_cons (Or.inr rfl) (sub_cons (Or.inr rfl) (sub_cons (Or.inr rfl) (sub_cons (Or.inr rfl) (sub_cons (Or.inr rfl) (sub_cons (Or.inr rfl) (sub_cons (Or.inr rfl) (sub_cons (Or.inl rfl) (sub_cons (Or.inl rfl) (sub_cons (Or.inl rfl) (sub_cons (Or.inl rfl) (sub_cons (Or.inl rfl) (sub_cons (Or.inl rfl) (sub_cons (Or.inl rfl) (sub_cons (Or.inl rfl) (sub_cons (Or.inl rfl) sub_nil))))))))))))))))))))))) ?_
                        exact L220 h15 (T15) (N15)
                      · skip
                        exfalso; omega
        refine x_iload C dL_law_139 rfl ?_
        refine x_iload C dL_law_141 rfl ?_
        refine x_if_ne C (tgt := 150) dL_law_143 (by decide) ⟨by omega, by omega⟩ (fun c143 => ?_) (fun c143 => ?_)
        · skip
          refine x_iconst C dL_law_150 ?_
          refine x_iadd C dL_law_151 ?_
          refine x_re (b := (gless (qL Q P) (c + 1))) (by rw [gless_s]; first | (rw [if_pos c143]) | (rw [if_neg c143, Int.add_zero])) ?_
          refine x_istore C (ls' := [some (.ref b), some (vi tm), some (.ref nk), some (.ref (ad 0)), some (vi sp), some (.long bf), none, some (vi ((P.m : Nat) : Int)), some (vi ((Q.n : Nat) : Int)), some (vi (qT Q P)), some (vi su), some (vi (gless (qL Q P) (c + 1))), some (vi (c : Int)), some (vi (((qL Q P c).length : Nat) : Int)), none, none, none, none, none, none, none, none, none]) dL_law_152 (by decide) rfl ?_
          exact L154
        · skip
          refine x_iconst C dL_law_146 ?_
          refine x_goto C (tgt := 151) dL_law_147 (by decide) ?_
          refine x_iadd C dL_law_151 ?_
          refine x_re (b := (gless (qL Q P) (c + 1))) (by rw [gless_s]; first | (rw [if_pos c143]) | (rw [if_neg c143, Int.add_zero])) ?_
          refine x_istore C (ls' := [some (.ref b), some (vi tm), some (.ref nk), some (.ref (ad 0)), some (vi sp), some (.long bf), none, some (vi ((P.m : Nat) : Int)), some (vi ((Q.n : Nat) : Int)), some (vi (qT Q P)), some (vi su), some (vi (gless (qL Q P) (c + 1))), some (vi (c : Int)), some (vi (((qL Q P c).length : Nat) : Int)), none, none, none, none, none, none, none, none, none]) dL_law_152 (by decide) rfl ?_
          exact L154
  exact L123 _ 0 0 h (Nat.lt_succ_self _) (Nat.zero_le _) (fun _ => rfl) (T) (N)
