/-! The law: the whole plan; shapes. -/
set_option maxRecDepth 100000 in
set_option maxHeartbeats 4000000 in
theorem law_chk {G : xG} {K : xK} {ad : Nat → Nat} {nk b sl mc ms cells slots : Nat} {Q : Ins} {P : Pie} {d : Int} {tm sp : Int} {bf : Int64} {su : Int} (C : xC G K "TablatureLaw" code 23) (hR : xGe K 60 mc ms) (hj : ∀ i j, i < 300 → j < 300 → ad i = ad j → i = j) (hcl : cells ≤ mc) (hsl : slots ≤ ms) (hs : 0 ≤ qT Q P → su = smA (qL Q P) P.cl (qC Q P) P.m P.m) (kk : ∀ (h' : PH), TabR G h' ad true Q P → NkR G h' ad nk b sl d Q P → X G K 23 701 [some (.ref b), some (vi tm), some (.ref nk), some (.ref (ad 0)), some (vi sp), some (.long bf), none, some (vi ((P.m : Nat) : Int)), some (vi ((Q.n : Nat) : Int)), some (vi (qT Q P)), none, none, none, none, none, none, none, none, none, none, none, none, none] [] h' cells slots)  : ∀ h : PH, TabR G h ad true Q P → NkR G h ad nk b sl d Q P → X G K 23 631 [some (.ref b), some (vi tm), some (.ref nk), some (.ref (ad 0)), some (vi sp), some (.long bf), none, some (vi ((P.m : Nat) : Int)), some (vi ((Q.n : Nat) : Int)), some (vi (qT Q P)), some (vi su), some (vi (gless (qL Q P) P.m)), none, none, none, none, none, none, none, none, none, none, none] [] h cells slots := by
  intro h T N
  obtain ⟨IV1, CV1⟩ := T.iv
  have PV1 := N.d0.2.2
  have IVn := IV1.1
  have CVm := CV1.1
  obtain ⟨ivc1, ivc2⟩ := IV1.2.2.1
  obtain ⟨ivr1, ivr2⟩ := IV1.2.2.2
  have hq : (P.m = 0 ∨ 0 < gless (qL Q P) P.m) ∧ qT Q P = -1 ∨ 0 < P.m ∧ gless (qL Q P) P.m = 0 ∧ 0 ≤ qT Q P := by rcases qT_cases Q P with a | a; exact Or.inl a; exact Or.inr ⟨a.1, a.2.1, a.2.2.1⟩
  have hgr := gless_rg (qL Q P) P.m
  have hqt := qT_rg Q P CVm
  refine x_iload C dL_law_631 rfl ?_
  refine x_aload_n C dL_law_633 rfl rfl ?_
  refine x_iconst C dL_law_634 ?_
  refine x_invV C s_Law_42 (st := [vi (gless (qL Q P) P.m)]) (c_many5 hj T) (TabR.o T).choose_spec rfl rfl (Nat.le_of_ble_eq_true rfl) (xRm_of hR (by omega) (by decide) (by omega) (by omega)) dL_law_635 (fun r9 h1 hq => ?_)
  obtain ⟨rfl, T1, p1⟩ := hq
  have N1 := N.fr p1
  refine x_icmp_ne C (tgt := 699) dL_law_638 (by decide) ⟨by omega, by omega⟩ ⟨by omega, by omega⟩ (fun c638 => ?_) (fun c638 => ?_)
  · skip
    exfalso; omega
  · skip
    have L669 : X G K 23 669 [some (.ref b), some (vi tm), some (.ref nk), some (.ref (ad 0)), some (vi sp), some (.long bf), none, some (vi ((P.m : Nat) : Int)), some (vi ((Q.n : Nat) : Int)), some (vi (qT Q P)), some (vi su), some (vi (gless (qL Q P) P.m)), none, none, none, none, none, none, none, none, none, none, none] [] h1 cells slots := by
      refine x_iload C dL_law_669 rfl ?_
      refine x_if_lt C (tgt := 701) dL_law_671 (by decide) ⟨by omega, by omega⟩ (fun c671 => ?_) (fun c671 => ?_)
      · skip
        refine X.sub (ls' := [some (.ref b), some (vi tm), some (.ref nk), some (.ref (ad 0)), some (vi sp), some (.long bf), none, some (vi ((P.m : Nat) : Int)), some (vi ((Q.n : Nat) : Int)), some (vi (qT Q P)), none, none, none, none, none, none, none, none, none, none, none, none, none]) (sub_cons (Or.inr rfl) (sub_cons (Or.inr rfl) (sub_cons (Or.inr rfl) (sub_cons (Or.inr rfl) (sub_cons (Or.inr rfl) (sub_cons (Or.inr rfl) (sub_cons (Or.inl rfl) (sub_cons (Or.inr rfl) (sub_cons (Or.inr rfl) (sub_cons (Or.inr rfl) (sub_cons (Or.inl rfl) (sub_cons (Or.inl rfl) (sub_cons (Or.inl rfl) (sub_cons (Or.inl rfl) (sub_cons (Or.inl rfl) (sub_cons (Or.inl rfl) (sub_cons (Or.inl rfl) (sub_cons (Or.inl rfl) (sub_cons (Or.inl rfl) (sub_cons (Or.inl rfl) (sub_cons (Or.inl rfl) (sub_cons (Or.inl rfl) (sub_cons (Or.inl rfl) sub_nil))))))))))))))))))))))) ?_
        exact kk h1 (T1) (N1)
      · skip
        have hsu : su = qT Q P := (hs c671).trans (plan_sum c671)
        refine x_iload C dL_law_674 rfl ?_
        refine x_iload C dL_law_676 rfl ?_
        refine x_icmp_ne C (tgt := 699) dL_law_678 (by decide) ⟨by omega, by omega⟩ ⟨by omega, by omega⟩ (fun c678 => ?_) (fun c678 => ?_)
        · skip
          exfalso; omega
        · skip
          obtain ⟨bb, b1, b2, b3⟩ := best_ok IV1 c671
          have hqb := qT_rg (Q.n, Q.op, Q.sl, (bb : Int), Q.rc) P CVm
          refine x_aload_n C dL_law_681 rfl rfl ?_
          refine x_aload_n C dL_law_682 rfl rfl ?_
          refine x_invV C s_Law_78 (st := [.ref (ad 0)]) (c_bestCapo hj T1) (TabR.o T1).choose_spec rfl rfl (Nat.le_of_ble_eq_true rfl) (xRm_of hR (by omega) (by decide) (by omega) (by omega)) dL_law_683 (fun r9 h2 hq => ?_)
          obtain ⟨rfl, T2, p2⟩ := hq
          have N2 := N1.fr p2
          refine x_re (b := ((bb : Nat) : Int)) (b2) ?_
          refine x_aload_n C dL_law_686 rfl rfl ?_
          refine x_iconst C dL_law_687 ?_
          refine x_invV C s_Law_42 (st := [vi ((bb : Nat) : Int), .ref (ad 0)]) (c_many3 hj T2) (TabR.o T2).choose_spec rfl rfl (Nat.le_of_ble_eq_true rfl) (xRm_of hR (by omega) (by decide) (by omega) (by omega)) dL_law_688 (fun r9 h3 hq => ?_)
          obtain ⟨rfl, T3, p3⟩ := hq
          have N3 := N2.fr p3
          refine x_invV C s_Law_81 (st := []) (c_totalWith hj T3 (cp2 := (bb : Int)) (rc2 := Q.rc) ⟨by omega, by omega⟩ ⟨by omega, by omega⟩) (TabR.o T3).choose_spec rfl rfl (Nat.le_of_ble_eq_true rfl) (xRm_of hR (by omega) (by decide) (by omega) (by omega)) dL_law_691 (fun r9 h4 hq => ?_)
          obtain ⟨rfl, T4, p4⟩ := hq
          have N4 := N3.fr p4
          refine x_iload C dL_law_694 rfl ?_
          refine x_icmp_le C (tgt := 701) dL_law_696 (by decide) ⟨by omega, by omega⟩ ⟨by omega, by omega⟩ (fun c696 => ?_) (fun c696 => ?_)
          · skip
            refine X.sub (ls' := [some (.ref b), some (vi tm), some (.ref nk), some (.ref (ad 0)), some (vi sp), some (.long bf), none, some (vi ((P.m : Nat) : Int)), some (vi ((Q.n : Nat) : Int)), some (vi (qT Q P)), none, none, none, none, none, none, none, none, none, none, none, none, none]) (sub_cons (Or.inr rfl) (sub_cons (Or.inr rfl) (sub_cons (Or.inr rfl) (sub_cons (Or.inr rfl) (sub_cons (Or.inr rfl) (sub_cons (Or.inr rfl) (sub_cons (Or.inl rfl) (sub_cons (Or.inr rfl) (sub_cons (Or.inr rfl) (sub_cons (Or.inr rfl) (sub_cons (Or.inl rfl) (sub_cons (Or.inl rfl) (sub_cons (Or.inl rfl) (sub_cons (Or.inl rfl) (sub_cons (Or.inl rfl) (sub_cons (Or.inl rfl) (sub_cons (Or.inl rfl) (sub_cons (Or.inl rfl) (sub_cons (Or.inl rfl) (sub_cons (Or.inl rfl) (sub_cons (Or.inl rfl) (sub_cons (Or.inl rfl) (sub_cons (Or.inl rfl) sub_nil))))))))))))))))))))))) ?_
            exact kk h4 (T4) (N4)
          · skip
            exfalso; omega
    refine x_iload C dL_law_641 rfl ?_
    refine x_if_ge C (tgt := 650) dL_law_643 (by decide) ⟨by omega, by omega⟩ (fun c643 => ?_) (fun c643 => ?_)
    · skip
      refine x_iconst C dL_law_650 ?_
      refine x_iload C dL_law_651 rfl ?_
      refine x_if_gt C (tgt := 661) dL_law_653 (by decide) ⟨by omega, by omega⟩ (fun c653 => ?_) (fun c653 => ?_)
      · skip
        refine x_iconst C dL_law_661 ?_
        refine x_goto C (tgt := 666) dL_law_662 (by decide) ?_
        refine x_icmp_ne C (tgt := 699) dL_law_666 (by decide) (by decide) (by decide) (fun c666 => ?_) (fun c666 => ?_)
        · skip
          exfalso; omega
        · skip
          exact L669
      · skip
        refine x_iload C dL_law_656 rfl ?_
        refine x_if_ne C (tgt := 665) dL_law_658 (by decide) ⟨by omega, by omega⟩ (fun c658 => ?_) (fun c658 => ?_)
        · skip
          refine x_iconst C dL_law_665 ?_
          refine x_icmp_ne C (tgt := 699) dL_law_666 (by decide) (by decide) (by decide) (fun c666 => ?_) (fun c666 => ?_)
          · skip
            exfalso; omega
          · skip
            exact L669
        · skip
          refine x_iconst C dL_law_661 ?_
          refine x_goto C (tgt := 666) dL_law_662 (by decide) ?_
          refine x_icmp_ne C (tgt := 699) dL_law_666 (by decide) (by decide) (by decide) (fun c666 => ?_) (fun c666 => ?_)
          · skip
            exfalso; omega
          · skip
            exact L669
    · skip
      refine x_iconst C dL_law_646 ?_
      refine x_goto C (tgt := 651) dL_law_647 (by decide) ?_
      refine x_iload C dL_law_651 rfl ?_
      refine x_if_gt C (tgt := 661) dL_law_653 (by decide) ⟨by omega, by omega⟩ (fun c653 => ?_) (fun c653 => ?_)
      · skip
        refine x_iconst C dL_law_661 ?_
        refine x_goto C (tgt := 666) dL_law_662 (by decide) ?_
        refine x_icmp_ne C (tgt := 699) dL_law_666 (by decide) (by decide) (by decide) (fun c666 => ?_) (fun c666 => ?_)
        · skip
          exfalso; omega
        · skip
          exact L669
      · skip
        refine x_iload C dL_law_656 rfl ?_
        refine x_if_ne C (tgt := 665) dL_law_658 (by decide) ⟨by omega, by omega⟩ (fun c658 => ?_) (fun c658 => ?_)
        · skip
          refine x_iconst C dL_law_665 ?_
          refine x_icmp_ne C (tgt := 699) dL_law_666 (by decide) (by decide) (by decide) (fun c666 => ?_) (fun c666 => ?_)
          · skip
            exfalso; omega
          · skip
            exact L669
        · skip
          refine x_iconst C dL_law_661 ?_
          refine x_goto C (tgt := 666) dL_law_662 (by decide) ?_
          refine x_icmp_ne C (tgt := 699) dL_law_666 (by decide) (by decide) (by decide) (fun c666 => ?_) (fun c666 => ?_)
          · skip
            exfalso; omega
          · skip
            exact L669

set_option maxRecDepth 100000 in
set_option maxHeartbeats 4000000 in
theorem law_sa {G : xG} {K : xK} {ad : Nat → Nat} {nk b sl mc ms cells slots : Nat} {Q : Ins} {P : Pie} {d : Int} {tm sp : Int} {bf : Int64} {bs fm : Nat} (C : xC G K "TablatureLaw" code 23) (hR : xGe K 60 mc ms) (hj : ∀ i j, i < 300 → j < 300 → ad i = ad j → i = j) (hcl : cells ≤ mc) (hsl : slots ≤ ms) (hbs : bs < 12) (hfm : 1 ≤ fm ∧ fm ≤ 9) (hSI : SI (op := Q.op) (cp := Q.cp) Q.n Q.sl (clB bs) bs fm (shA Q.n Q.op Q.sl Q.cp Q.rc (clB bs) bs fm)) (kk : ∀ (h' : PH) (mt : Nat) (lo : Int), mt = metF Q.op Q.cp (fr (shA Q.n Q.op Q.sl Q.cp Q.rc (clB bs) bs fm).2.2.2) Q.n → ((lowF Q.op Q.cp (fr (shA Q.n Q.op Q.sl Q.cp Q.rc (clB bs) bs fm).2.2.2) Q.n = -1 ∧ lo = 999) ∨ (0 ≤ lowF Q.op Q.cp (fr (shA Q.n Q.op Q.sl Q.cp Q.rc (clB bs) bs fm).2.2.2) Q.n ∧ lowF Q.op Q.cp (fr (shA Q.n Q.op Q.sl Q.cp Q.rc (clB bs) bs fm).2.2.2) Q.n ≤ 200 ∧ lo = lowF Q.op Q.cp (fr (shA Q.n Q.op Q.sl Q.cp Q.rc (clB bs) bs fm).2.2.2) Q.n)) → TabR G h' ad true Q P → NkR G h' ad nk b sl d Q P → X G K 23 902 [some (.ref b), some (vi tm), some (.ref nk), some (.ref (ad 0)), some (vi sp), some (.long bf), none, some (vi ((P.m : Nat) : Int)), some (vi ((Q.n : Nat) : Int)), some (vi (qT Q P)), none, none, some (vi (fm : Int)), some (vi (bs : Int)), some (vi ((clB bs : Nat) : Int)), some (vi ((shA Q.n Q.op Q.sl Q.cp Q.rc (clB bs) bs fm).1)), some (vi ((shA Q.n Q.op Q.sl Q.cp Q.rc (clB bs) bs fm).2.1)), some (vi ((mt : Nat) : Int)), some (vi lo), none, none, none, none] [] h' cells slots)  : ∀ h : PH, TabR G h ad true Q P → NkR G h ad nk b sl d Q P → X G K 23 784 [some (.ref b), some (vi tm), some (.ref nk), some (.ref (ad 0)), some (vi sp), some (.long bf), none, some (vi ((P.m : Nat) : Int)), some (vi ((Q.n : Nat) : Int)), some (vi (qT Q P)), none, none, some (vi (fm : Int)), some (vi (bs : Int)), some (vi ((clB bs : Nat) : Int)), some (vi ((shA Q.n Q.op Q.sl Q.cp Q.rc (clB bs) bs fm).1)), some (vi ((shA Q.n Q.op Q.sl Q.cp Q.rc (clB bs) bs fm).2.1)), none, none, none, none, none, none] [] h cells slots := by
  intro h T N
  obtain ⟨IV1, CV1⟩ := T.iv
  have PV1 := N.d0.2.2
  have IVn := IV1.1
  have CVm := CV1.1
  obtain ⟨ivc1, ivc2⟩ := IV1.2.2.1
  obtain ⟨ivr1, ivr2⟩ := IV1.2.2.2
  obtain ⟨⟨cb1, cb2⟩, cb3, cb4⟩ := clB_ok bs (by omega)
  refine x_iconst C dL_law_784 ?_
  refine x_istore C (ls' := [some (.ref b), some (vi tm), some (.ref nk), some (.ref (ad 0)), some (vi sp), some (.long bf), none, some (vi ((P.m : Nat) : Int)), some (vi ((Q.n : Nat) : Int)), some (vi (qT Q P)), none, none, some (vi (fm : Int)), some (vi (bs : Int)), some (vi ((clB bs : Nat) : Int)), some (vi ((shA Q.n Q.op Q.sl Q.cp Q.rc (clB bs) bs fm).1)), some (vi ((shA Q.n Q.op Q.sl Q.cp Q.rc (clB bs) bs fm).2.1)), some (vi 0), none, none, none, none, none]) dL_law_785 (by decide) rfl ?_
  refine x_sipush C (z := 999) dL_law_787 (by decide) ?_
  refine x_istore C (ls' := [some (.ref b), some (vi tm), some (.ref nk), some (.ref (ad 0)), some (vi sp), some (.long bf), none, some (vi ((P.m : Nat) : Int)), some (vi ((Q.n : Nat) : Int)), some (vi (qT Q P)), none, none, some (vi (fm : Int)), some (vi (bs : Int)), some (vi ((clB bs : Nat) : Int)), some (vi ((shA Q.n Q.op Q.sl Q.cp Q.rc (clB bs) bs fm).1)), some (vi ((shA Q.n Q.op Q.sl Q.cp Q.rc (clB bs) bs fm).2.1)), some (vi 0), some (vi 999), none, none, none, none]) dL_law_790 (by decide) rfl ?_
  refine x_iconst C dL_law_792 ?_
  refine x_istore C (ls' := [some (.ref b), some (vi tm), some (.ref nk), some (.ref (ad 0)), some (vi sp), some (.long bf), none, some (vi ((P.m : Nat) : Int)), some (vi ((Q.n : Nat) : Int)), some (vi (qT Q P)), none, none, some (vi (fm : Int)), some (vi (bs : Int)), some (vi ((clB bs : Nat) : Int)), some (vi ((shA Q.n Q.op Q.sl Q.cp Q.rc (clB bs) bs fm).1)), some (vi ((shA Q.n Q.op Q.sl Q.cp Q.rc (clB bs) bs fm).2.1)), some (vi 0), some (vi 999), some (vi 0), none, none, none]) dL_law_793 (by decide) rfl ?_
  have L795 : ∀ (n0 : Nat) (a : Nat) (mt : Nat) (lo : Int) (hp : PH), Q.n - a < n0 → (a ≤ Q.n) → (mt = metF Q.op Q.cp (fr (shA Q.n Q.op Q.sl Q.cp Q.rc (clB bs) bs fm).2.2.2) a) → ((lowF Q.op Q.cp (fr (shA Q.n Q.op Q.sl Q.cp Q.rc (clB bs) bs fm).2.2.2) a = -1 ∧ lo = 999) ∨ (0 ≤ lowF Q.op Q.cp (fr (shA Q.n Q.op Q.sl Q.cp Q.rc (clB bs) bs fm).2.2.2) a ∧ lowF Q.op Q.cp (fr (shA Q.n Q.op Q.sl Q.cp Q.rc (clB bs) bs fm).2.2.2) a ≤ 200 ∧ lo = lowF Q.op Q.cp (fr (shA Q.n Q.op Q.sl Q.cp Q.rc (clB bs) bs fm).2.2.2) a)) → (TabR G hp ad true Q P) → (NkR G hp ad nk b sl d Q P) → X G K 23 795 [some (.ref b), some (vi tm), some (.ref nk), some (.ref (ad 0)), some (vi sp), some (.long bf), none, some (vi ((P.m : Nat) : Int)), some (vi ((Q.n : Nat) : Int)), some (vi (qT Q P)), none, none, some (vi (fm : Int)), some (vi (bs : Int)), some (vi ((clB bs : Nat) : Int)), some (vi ((shA Q.n Q.op Q.sl Q.cp Q.rc (clB bs) bs fm).1)), some (vi ((shA Q.n Q.op Q.sl Q.cp Q.rc (clB bs) bs fm).2.1)), some (vi ((mt : Nat) : Int)), some (vi lo), some (vi (a : Int)), none, none, none] [] hp cells slots := by
    intro n0
    induction n0 with
    | zero => intro a mt lo hp hm; exact absurd hm (Nat.not_lt_zero _)
    | succ n0 ih_L795 =>
      intro a mt lo hp hm i1 hmt hlo Tp Np
      refine x_iload C dL_law_795 rfl ?_
      refine x_iload C dL_law_797 rfl ?_
      refine x_icmp_ge C (tgt := 902) dL_law_799 (by decide) ⟨by omega, by omega⟩ ⟨by omega, by omega⟩ (fun c799 => ?_) (fun c799 => ?_)
      · skip
        refine X.sub (ls' := [some (.ref b), some (vi tm), some (.ref nk), some (.ref (ad 0)), some (vi sp), some (.long bf), none, some (vi ((P.m : Nat) : Int)), some (vi ((Q.n : Nat) : Int)), some (vi (qT Q P)), none, none, some (vi (fm : Int)), some (vi (bs : Int)), some (vi ((clB bs : Nat) : Int)), some (vi ((shA Q.n Q.op Q.sl Q.cp Q.rc (clB bs) bs fm).1)), some (vi ((shA Q.n Q.op Q.sl Q.cp Q.rc (clB bs) bs fm).2.1)), some (vi ((mt : Nat) : Int)), some (vi lo), none, none, none, none]) (sub_cons (Or.inr rfl) (sub_cons (Or.inr rfl) (sub_cons (Or.inr rfl) (sub_cons (Or.inr rfl) (sub_cons (Or.inr rfl) (sub_cons (Or.inr rfl) (sub_cons (Or.inl rfl) (sub_cons (Or.inr rfl) (sub_cons (Or.inr rfl) (sub_cons (Or.inr rfl) (sub_cons (Or.inl rfl) (sub_cons (Or.inl rfl) (sub_cons (Or.inr rfl) (sub_cons (Or.inr rfl) (sub_cons (Or.inr rfl) (sub_cons (Or.inr rfl) (sub_cons (Or.inr rfl) (sub_cons (Or.inr rfl) (sub_cons (Or.inr rfl) (sub_cons (Or.inl rfl) (sub_cons (Or.inl rfl) (sub_cons (Or.inl rfl) (sub_cons (Or.inl rfl) sub_nil))))))))))))))))))))))) ?_
        exact kk hp _ lo (by rw [hmt, show Q.n = a by omega]) (by rw [show a = Q.n by omega] at hlo; exact hlo) (Tp) (Np)
      · skip
        refine x_aload_n C dL_law_802 rfl rfl ?_
        refine x_iload C dL_law_803 rfl ?_
        refine x_iload C dL_law_805 rfl ?_
        refine x_iload C dL_law_807 rfl ?_
        refine x_iload C dL_law_809 rfl ?_
        refine x_invV C s_Law_90 (st := []) (c_shapeFret hj Tp (cls := clB bs) (bass := bs) (fm := fm) ⟨cb1, cb2, by omega, by omega, by omega⟩ cb4 cb3 (s := a) (by omega)) (TabR.o Tp).choose_spec rfl rfl (Nat.le_of_ble_eq_true rfl) (xRm_of hR (by omega) (by decide) (by omega) (by omega)) dL_law_811 (fun r9 h5 hq => ?_)
        obtain ⟨rfl, T5, p5⟩ := hq
        have N5 := Np.fr p5
        refine x_istore C (ls' := [some (.ref b), some (vi tm), some (.ref nk), some (.ref (ad 0)), some (vi sp), some (.long bf), none, some (vi ((P.m : Nat) : Int)), some (vi ((Q.n : Nat) : Int)), some (vi (qT Q P)), none, none, some (vi (fm : Int)), some (vi (bs : Int)), some (vi ((clB bs : Nat) : Int)), some (vi ((shA Q.n Q.op Q.sl Q.cp Q.rc (clB bs) bs fm).1)), some (vi ((shA Q.n Q.op Q.sl Q.cp Q.rc (clB bs) bs fm).2.1)), some (vi ((mt : Nat) : Int)), some (vi lo), some (vi (a : Int)), some (vi (fr (shA Q.n Q.op Q.sl Q.cp Q.rc (clB bs) bs fm).2.2.2 a)), none, none]) dL_law_814 (by decide) rfl ?_
        have fb := fr_bd (shA Q.n Q.op Q.sl Q.cp Q.rc (clB bs) bs fm).2.2.2 a
        refine x_iload C dL_law_816 rfl ?_
        refine x_if_ge C (tgt := 824) dL_law_818 (by decide) ⟨by omega, by omega⟩ (fun c818 => ?_) (fun c818 => ?_)
        · skip
          obtain ⟨oa, ca, la, fa, fo, ln2, hN, hO, hS, -⟩ := id N5
          obtain ⟨hw1, hw2, hw3, hw4⟩ := sh_fact hSI (a := a) (by omega) c818
          have hop := IV1.2.1 a (by omega)
          obtain ⟨pt, hpt, hpt2⟩ : ∃ pt : Nat, pt = pit Q.op Q.cp a (fr (shA Q.n Q.op Q.sl Q.cp Q.rc (clB bs) bs fm).2.2.2 a).toNat ∧ (pt : Int) = Q.op a + Q.cp + (fr (shA Q.n Q.op Q.sl Q.cp Q.rc (clB bs) bs fm).2.2.2 a) := ⟨_, rfl, by unfold pit; omega⟩
          refine x_aload_n C dL_law_824 rfl rfl ?_
          refine x_get C f_Law_94 hN rfl dL_law_825 ?_
          refine x_iload C dL_law_828 rfl ?_
          refine x_iald C hO ⟨by omega, by omega, by omega⟩ (v := (Q.op a)) rfl dL_law_830 ?_
          refine x_aload_n C dL_law_831 rfl rfl ?_
          refine x_iconst C dL_law_832 ?_
          refine x_invV C s_Law_42 (st := [vi (Q.op a)]) (c_many2 hj T5) (TabR.o T5).choose_spec rfl rfl (Nat.le_of_ble_eq_true rfl) (xRm_of hR (by omega) (by decide) (by omega) (by omega)) dL_law_833 (fun r9 h6 hq => ?_)
          obtain ⟨rfl, T6, p6⟩ := hq
          have N6 := N5.fr p6
          refine x_iadd C dL_law_836 ?_
          refine x_iload C dL_law_837 rfl ?_
          refine x_iadd C dL_law_839 ?_
          refine x_re (b := ((pt : Nat) : Int)) (hpt2.symm) ?_
          refine x_istore C (ls' := [some (.ref b), some (vi tm), some (.ref nk), some (.ref (ad 0)), some (vi sp), some (.long bf), none, some (vi ((P.m : Nat) : Int)), some (vi ((Q.n : Nat) : Int)), some (vi (qT Q P)), none, none, some (vi (fm : Int)), some (vi (bs : Int)), some (vi ((clB bs : Nat) : Int)), some (vi ((shA Q.n Q.op Q.sl Q.cp Q.rc (clB bs) bs fm).1)), some (vi ((shA Q.n Q.op Q.sl Q.cp Q.rc (clB bs) bs fm).2.1)), some (vi ((mt : Nat) : Int)), some (vi lo), some (vi (a : Int)), some (vi (fr (shA Q.n Q.op Q.sl Q.cp Q.rc (clB bs) bs fm).2.2.2 a)), some (vi ((pt : Nat) : Int)), none]) dL_law_840 (by decide) rfl ?_
          refine x_iload C dL_law_842 rfl ?_
          refine x_iconst C dL_law_844 ?_
          refine x_iload C dL_law_845 rfl ?_
          refine x_bipush C (z := 12) dL_law_847 (by decide) ?_
          refine x_irem C (c := ((pt % 12 : Nat) : Int)) dL_law_849 (I_ne0 (by decide) (by decide)) (I_rem (by omega) (by decide) (by decide)) ?_
          refine x_ishl C (c := ((2 ^ (pt % 12) : Nat) : Int)) dL_law_850 (shl12 _ (Nat.mod_lt _ (by decide))) ?_
          refine x_ior C (c := ((mt ||| 2 ^ (pt % 12) : Nat) : Int)) dL_law_851 (I_or _ _) ?_
          refine x_istore C (ls' := [some (.ref b), some (vi tm), some (.ref nk), some (.ref (ad 0)), some (vi sp), some (.long bf), none, some (vi ((P.m : Nat) : Int)), some (vi ((Q.n : Nat) : Int)), some (vi (qT Q P)), none, none, some (vi (fm : Int)), some (vi (bs : Int)), some (vi ((clB bs : Nat) : Int)), some (vi ((shA Q.n Q.op Q.sl Q.cp Q.rc (clB bs) bs fm).1)), some (vi ((shA Q.n Q.op Q.sl Q.cp Q.rc (clB bs) bs fm).2.1)), some (vi ((mt ||| 2 ^ (pt % 12) : Nat) : Int)), some (vi lo), some (vi (a : Int)), some (vi (fr (shA Q.n Q.op Q.sl Q.cp Q.rc (clB bs) bs fm).2.2.2 a)), some (vi ((pt : Nat) : Int)), none]) dL_law_852 (by decide) rfl ?_
          refine x_iload C dL_law_854 rfl ?_
          refine x_iload C dL_law_856 rfl ?_
          refine x_min C s_Law_98 static_Math_min i_Math code_Math_min ⟨by omega, by omega⟩ ⟨by omega, by omega⟩ (Nat.le_of_ble_eq_true rfl) hR (by omega) (by omega) (by omega) dL_law_858 ?_
          refine x_istore C (ls' := [some (.ref b), some (vi tm), some (.ref nk), some (.ref (ad 0)), some (vi sp), some (.long bf), none, some (vi ((P.m : Nat) : Int)), some (vi ((Q.n : Nat) : Int)), some (vi (qT Q P)), none, none, some (vi (fm : Int)), some (vi (bs : Int)), some (vi ((clB bs : Nat) : Int)), some (vi ((shA Q.n Q.op Q.sl Q.cp Q.rc (clB bs) bs fm).1)), some (vi ((shA Q.n Q.op Q.sl Q.cp Q.rc (clB bs) bs fm).2.1)), some (vi ((mt ||| 2 ^ (pt % 12) : Nat) : Int)), some (vi (if ((pt : Nat) : Int) < lo then ((pt : Nat) : Int) else lo)), some (vi (a : Int)), some (vi (fr (shA Q.n Q.op Q.sl Q.cp Q.rc (clB bs) bs fm).2.2.2 a)), some (vi ((pt : Nat) : Int)), none]) dL_law_861 (by decide) rfl ?_
          refine x_iload C dL_law_863 rfl ?_
          refine x_if_le C (tgt := 884) dL_law_865 (by decide) ⟨by omega, by omega⟩ (fun c865 => ?_) (fun c865 => ?_)
          · skip
            obtain ⟨oa, ca, la, fa, fo, ln2, hN, hO, hS, -⟩ := id N6
            refine x_aload_n C dL_law_884 rfl rfl ?_
            refine x_get C f_Law_74 hN rfl dL_law_885 ?_
            refine x_iload C dL_law_888 rfl ?_
            refine x_zald C hS ⟨by omega, by omega, by omega⟩ (v := (Q.sl a)) rfl dL_law_890 ?_
            refine x_ifeqB C (tgt := 896) dL_law_891 (by decide) (fun c891 => ?_) (fun c891 => ?_)
            · skip
              refine x_iinc C (ls' := [some (.ref b), some (vi tm), some (.ref nk), some (.ref (ad 0)), some (vi sp), some (.long bf), none, some (vi ((P.m : Nat) : Int)), some (vi ((Q.n : Nat) : Int)), some (vi (qT Q P)), none, none, some (vi (fm : Int)), some (vi (bs : Int)), some (vi ((clB bs : Nat) : Int)), some (vi ((shA Q.n Q.op Q.sl Q.cp Q.rc (clB bs) bs fm).1)), some (vi ((shA Q.n Q.op Q.sl Q.cp Q.rc (clB bs) bs fm).2.1)), some (vi ((mt ||| 2 ^ (pt % 12) : Nat) : Int)), some (vi (if ((pt : Nat) : Int) < lo then ((pt : Nat) : Int) else lo)), some (vi ((a : Int) + 1)), some (vi (fr (shA Q.n Q.op Q.sl Q.cp Q.rc (clB bs) bs fm).2.2.2 a)), some (vi ((pt : Nat) : Int)), none]) dL_law_896 rfl (by decide) (z1 := ((a : Int) + 1)) rfl rfl ?_
              refine x_goto C (tgt := 795) dL_law_899 (by decide) ?_
              refine X.sub (ls' := [some (.ref b), some (vi tm), some (.ref nk), some (.ref (ad 0)), some (vi sp), some (.long bf), none, some (vi ((P.m : Nat) : Int)), some (vi ((Q.n : Nat) : Int)), some (vi (qT Q P)), none, none, some (vi (fm : Int)), some (vi (bs : Int)), some (vi ((clB bs : Nat) : Int)), some (vi ((shA Q.n Q.op Q.sl Q.cp Q.rc (clB bs) bs fm).1)), some (vi ((shA Q.n Q.op Q.sl Q.cp Q.rc (clB bs) bs fm).2.1)), some (vi ((mt ||| 2 ^ (pt % 12) : Nat) : Int)), some (vi (if ((pt : Nat) : Int) < lo then ((pt : Nat) : Int) else lo)), some (vi ((a : Int) + 1)), none, none, none]) (sub_cons (Or.inr rfl) (sub_cons (Or.inr rfl) (sub_cons (Or.inr rfl) (sub_cons (Or.inr rfl) (sub_cons (Or.inr rfl) (sub_cons (Or.inr rfl) (sub_cons (Or.inl rfl) (sub_cons (Or.inr rfl) (sub_cons (Or.inr rfl) (sub_cons (Or.inr rfl) (sub_cons (Or.inl rfl) (sub_cons (Or.inl rfl) (sub_cons (Or.inr rfl) (sub_cons (Or.inr rfl) (sub_cons (Or.inr rfl) (sub_cons (Or.inr rfl) (sub_cons (Or.inr rfl) (sub_cons (Or.inr rfl) (sub_cons (Or.inr rfl) (sub_cons (Or.inr rfl) (sub_cons (Or.inl rfl) (sub_cons (Or.inl rfl) (sub_cons (Or.inl rfl) sub_nil))))))))))))))))))))))) ?_
              exact ih_L795 (a + 1) _ (if ((pt : Nat) : Int) < lo then ((pt : Nat) : Int) else lo) h6 (by omega) (by omega) (by rw [metF_s, if_neg (by omega), ← hmt, ← hpt]) (by rw [lowF_s, if_neg (by omega), ← hpt]; unfold lowT; rcases hlo with ⟨w1, w2⟩ | ⟨w1, w2, w3⟩; (rw [if_pos w1, w2, if_pos (by omega)]; exact Or.inr ⟨by omega, by omega, rfl⟩); (rw [if_neg (by omega), w3]; split <;> exact Or.inr ⟨by omega, by omega, rfl⟩)) (T6) (N6)
            · skip
              exact absurd (hw2.symm.trans c891) (by decide)
          · skip
            refine x_iload C dL_law_868 rfl ?_
            refine x_iload C dL_law_870 rfl ?_
            refine x_icmp_lt C (tgt := 894) dL_law_872 (by decide) ⟨by omega, by omega⟩ ⟨by omega, by omega⟩ (fun c872 => ?_) (fun c872 => ?_)
            · skip
              exfalso; omega
            · skip
              refine x_iload C dL_law_875 rfl ?_
              refine x_iload C dL_law_877 rfl ?_
              refine x_iconst C dL_law_879 ?_
              refine x_iadd C dL_law_880 ?_
              refine x_icmp_gt C (tgt := 894) dL_law_881 (by decide) ⟨by omega, by omega⟩ ⟨by omega, by omega⟩ (fun c881 => ?_) (fun c881 => ?_)
              · skip
                exfalso; omega
              · skip
                obtain ⟨oa, ca, la, fa, fo, ln2, hN, hO, hS, -⟩ := id N6
                refine x_aload_n C dL_law_884 rfl rfl ?_
                refine x_get C f_Law_74 hN rfl dL_law_885 ?_
                refine x_iload C dL_law_888 rfl ?_
                refine x_zald C hS ⟨by omega, by omega, by omega⟩ (v := (Q.sl a)) rfl dL_law_890 ?_
                refine x_ifeqB C (tgt := 896) dL_law_891 (by decide) (fun c891 => ?_) (fun c891 => ?_)
                · skip
                  refine x_iinc C (ls' := [some (.ref b), some (vi tm), some (.ref nk), some (.ref (ad 0)), some (vi sp), some (.long bf), none, some (vi ((P.m : Nat) : Int)), some (vi ((Q.n : Nat) : Int)), some (vi (qT Q P)), none, none, some (vi (fm : Int)), some (vi (bs : Int)), some (vi ((clB bs : Nat) : Int)), some (vi ((shA Q.n Q.op Q.sl Q.cp Q.rc (clB bs) bs fm).1)), some (vi ((shA Q.n Q.op Q.sl Q.cp Q.rc (clB bs) bs fm).2.1)), some (vi ((mt ||| 2 ^ (pt % 12) : Nat) : Int)), some (vi (if ((pt : Nat) : Int) < lo then ((pt : Nat) : Int) else lo)), some (vi ((a : Int) + 1)), some (vi (fr (shA Q.n Q.op Q.sl Q.cp Q.rc (clB bs) bs fm).2.2.2 a)), some (vi ((pt : Nat) : Int)), none]) dL_law_896 rfl (by decide) (z1 := ((a : Int) + 1)) rfl rfl ?_
                  refine x_goto C (tgt := 795) dL_law_899 (by decide) ?_
                  refine X.sub (ls' := [some (.ref b), some (vi tm), some (.ref nk), some (.ref (ad 0)), some (vi sp), some (.long bf), none, some (vi ((P.m : Nat) : Int)), some (vi ((Q.n : Nat) : Int)), some (vi (qT Q P)), none, none, some (vi (fm : Int)), some (vi (bs : Int)), some (vi ((clB bs : Nat) : Int)), some (vi ((shA Q.n Q.op Q.sl Q.cp Q.rc (clB bs) bs fm).1)), some (vi ((shA Q.n Q.op Q.sl Q.cp Q.rc (clB bs) bs fm).2.1)), some (vi ((mt ||| 2 ^ (pt % 12) : Nat) : Int)), some (vi (if ((pt : Nat) : Int) < lo then ((pt : Nat) : Int) else lo)), some (vi ((a : Int) + 1)), none, none, none]) (sub_cons (Or.inr rfl) (sub_cons (Or.inr rfl) (sub_cons (Or.inr rfl) (sub_cons (Or.inr rfl) (sub_cons (Or.inr rfl) (sub_cons (Or.inr rfl) (sub_cons (Or.inl rfl) (sub_cons (Or.inr rfl) (sub_cons (Or.inr rfl) (sub_cons (Or.inr rfl) (sub_cons (Or.inl rfl) (sub_cons (Or.inl rfl) (sub_cons (Or.inr rfl) (sub_cons (Or.inr rfl) (sub_cons (Or.inr rfl) (sub_cons (Or.inr rfl) (sub_cons (Or.inr rfl) (sub_cons (Or.inr rfl) (sub_cons (Or.inr rfl) (sub_cons (Or.inr rfl) (sub_cons (Or.inl rfl) (sub_cons (Or.inl rfl) (sub_cons (Or.inl rfl) sub_nil))))))))))))))))))))))) ?_
                  exact ih_L795 (a + 1) _ (if ((pt : Nat) : Int) < lo then ((pt : Nat) : Int) else lo) h6 (by omega) (by omega) (by rw [metF_s, if_neg (by omega), ← hmt, ← hpt]) (by rw [lowF_s, if_neg (by omega), ← hpt]; unfold lowT; rcases hlo with ⟨w1, w2⟩ | ⟨w1, w2, w3⟩; (rw [if_pos w1, w2, if_pos (by omega)]; exact Or.inr ⟨by omega, by omega, rfl⟩); (rw [if_neg (by omega), w3]; split <;> exact Or.inr ⟨by omega, by omega, rfl⟩)) (T6) (N6)
                · skip
                  exact absurd (hw2.symm.trans c891) (by decide)
        · skip
          refine x_goto C (tgt := 896) dL_law_821 (by decide) ?_
          refine x_iinc C (ls' := [some (.ref b), some (vi tm), some (.ref nk), some (.ref (ad 0)), some (vi sp), some (.long bf), none, some (vi ((P.m : Nat) : Int)), some (vi ((Q.n : Nat) : Int)), some (vi (qT Q P)), none, none, some (vi (fm : Int)), some (vi (bs : Int)), some (vi ((clB bs : Nat) : Int)), some (vi ((shA Q.n Q.op Q.sl Q.cp Q.rc (clB bs) bs fm).1)), some (vi ((shA Q.n Q.op Q.sl Q.cp Q.rc (clB bs) bs fm).2.1)), some (vi ((mt : Nat) : Int)), some (vi lo), some (vi ((a : Int) + 1)), some (vi (fr (shA Q.n Q.op Q.sl Q.cp Q.rc (clB bs) bs fm).2.2.2 a)), none, none]) dL_law_896 rfl (by decide) (z1 := ((a : Int) + 1)) rfl rfl ?_
          refine x_goto C (tgt := 795) dL_law_899 (by decide) ?_
          refine X.sub (ls' := [some (.ref b), some (vi tm), some (.ref nk), some (.ref (ad 0)), some (vi sp), some (.long bf), none, some (vi ((P.m : Nat) : Int)), some (vi ((Q.n : Nat) : Int)), some (vi (qT Q P)), none, none, some (vi (fm : Int)), some (vi (bs : Int)), some (vi ((clB bs : Nat) : Int)), some (vi ((shA Q.n Q.op Q.sl Q.cp Q.rc (clB bs) bs fm).1)), some (vi ((shA Q.n Q.op Q.sl Q.cp Q.rc (clB bs) bs fm).2.1)), some (vi ((mt : Nat) : Int)), some (vi lo), some (vi ((a : Int) + 1)), none, none, none]) (sub_cons (Or.inr rfl) (sub_cons (Or.inr rfl) (sub_cons (Or.inr rfl) (sub_cons (Or.inr rfl) (sub_cons (Or.inr rfl) (sub_cons (Or.inr rfl) (sub_cons (Or.inl rfl) (sub_cons (Or.inr rfl) (sub_cons (Or.inr rfl) (sub_cons (Or.inr rfl) (sub_cons (Or.inl rfl) (sub_cons (Or.inl rfl) (sub_cons (Or.inr rfl) (sub_cons (Or.inr rfl) (sub_cons (Or.inr rfl) (sub_cons (Or.inr rfl) (sub_cons (Or.inr rfl) (sub_cons (Or.inr rfl) (sub_cons (Or.inr rfl) (sub_cons (Or.inr rfl) (sub_cons (Or.inl rfl) (sub_cons (Or.inl rfl) (sub_cons (Or.inl rfl) sub_nil))))))))))))))))))))))) ?_
          exact ih_L795 (a + 1) _ lo h5 (by omega) (by omega) (by rw [metF_s, if_pos (by omega)]; exact hmt) (by rw [lowF_s, if_pos (by omega)]; exact hlo) (T5) (N5)
  exact L795 _ 0 _ 999 h (Nat.lt_succ_self _) (Nat.zero_le _) (rfl) (Or.inl ⟨rfl, rfl⟩) (T) (N)

set_option maxRecDepth 100000 in
set_option maxHeartbeats 4000000 in
theorem law_s {G : xG} {K : xK} {ad : Nat → Nat} {nk b sl mc ms cells slots : Nat} {Q : Ins} {P : Pie} {d : Int} {tm sp : Int} {bf : Int64} (C : xC G K "TablatureLaw" code 23) (hR : xGe K 60 mc ms) (hj : ∀ i j, i < 300 → j < 300 → ad i = ad j → i = j) (hcl : cells ≤ mc) (hsl : slots ≤ ms) {L : Nat} {xs : Nat → Int32} (hX : va_X b L xs (ks K) (ks K).heap) (hbl : b < gN G) (hL : L ≤ 260) (hdd : d < 80000) (kk : ∀ (h' : PH) (d' : Int), d' ≤ d + 20 → TabR G h' ad true Q P → NkR G h' ad nk b sl d' Q P → X G K 23 932 [some (.ref b), some (vi tm), some (.ref nk), some (.ref (ad 0)), some (vi sp), some (.long bf), none, some (vi ((P.m : Nat) : Int)), some (vi ((Q.n : Nat) : Int)), some (vi (qT Q P)), none, none, none, none, none, none, none, none, none, none, none, none, none] [] h' cells slots)  : ∀ h : PH, TabR G h ad true Q P → NkR G h ad nk b sl d Q P → X G K 23 701 [some (.ref b), some (vi tm), some (.ref nk), some (.ref (ad 0)), some (vi sp), some (.long bf), none, some (vi ((P.m : Nat) : Int)), some (vi ((Q.n : Nat) : Int)), some (vi (qT Q P)), none, none, none, none, none, none, none, none, none, none, none, none, none] [] h cells slots := by
  intro h T N
  obtain ⟨IV1, CV1⟩ := T.iv
  have PV1 := N.d0.2.2
  have IVn := IV1.1
  have CVm := CV1.1
  obtain ⟨ivc1, ivc2⟩ := IV1.2.2.1
  obtain ⟨ivr1, ivr2⟩ := IV1.2.2.2
  refine x_iconst C dL_law_701 ?_
  refine x_istore C (ls' := [some (.ref b), some (vi tm), some (.ref nk), some (.ref (ad 0)), some (vi sp), some (.long bf), none, some (vi ((P.m : Nat) : Int)), some (vi ((Q.n : Nat) : Int)), some (vi (qT Q P)), none, none, some (vi 1), none, none, none, none, none, none, none, none, none, none]) dL_law_702 (by decide) rfl ?_
  have L704 : ∀ (n0 : Nat) (fm : Nat) (d2 : Int) (hp : PH), 13 - fm < n0 → (1 ≤ fm ∧ fm ≤ 13 ∧ fm % 4 = 1) → (d2 ≤ d + fm - 1) → (TabR G hp ad true Q P) → (NkR G hp ad nk b sl d2 Q P) → X G K 23 704 [some (.ref b), some (vi tm), some (.ref nk), some (.ref (ad 0)), some (vi sp), some (.long bf), none, some (vi ((P.m : Nat) : Int)), some (vi ((Q.n : Nat) : Int)), some (vi (qT Q P)), none, none, some (vi (fm : Int)), none, none, none, none, none, none, none, none, none, none] [] hp cells slots := by
    intro n0
    induction n0 with
    | zero => intro fm d2 hp hm; exact absurd hm (Nat.not_lt_zero _)
    | succ n0 ih_L704 =>
      intro fm d2 hp hm i1 i2 Tp Np
      refine x_iload C dL_law_704 rfl ?_
      refine x_bipush C (z := 10) dL_law_706 (by decide) ?_
      refine x_icmp_ge C (tgt := 932) dL_law_708 (by decide) ⟨by omega, by omega⟩ (by decide) (fun c708 => ?_) (fun c708 => ?_)
      · skip
        refine X.sub (ls' := [some (.ref b), some (vi tm), some (.ref nk), some (.ref (ad 0)), some (vi sp), some (.long bf), none, some (vi ((P.m : Nat) : Int)), some (vi ((Q.n : Nat) : Int)), some (vi (qT Q P)), none, none, none, none, none, none, none, none, none, none, none, none, none]) (sub_cons (Or.inr rfl) (sub_cons (Or.inr rfl) (sub_cons (Or.inr rfl) (sub_cons (Or.inr rfl) (sub_cons (Or.inr rfl) (sub_cons (Or.inr rfl) (sub_cons (Or.inl rfl) (sub_cons (Or.inr rfl) (sub_cons (Or.inr rfl) (sub_cons (Or.inr rfl) (sub_cons (Or.inl rfl) (sub_cons (Or.inl rfl) (sub_cons (Or.inl rfl) (sub_cons (Or.inl rfl) (sub_cons (Or.inl rfl) (sub_cons (Or.inl rfl) (sub_cons (Or.inl rfl) (sub_cons (Or.inl rfl) (sub_cons (Or.inl rfl) (sub_cons (Or.inl rfl) (sub_cons (Or.inl rfl) (sub_cons (Or.inl rfl) (sub_cons (Or.inl rfl) sub_nil))))))))))))))))))))))) ?_
        exact kk hp _ (by omega) (Tp) (Np)
      · skip
        have hfm9 : fm ≤ 9 := by omega
        obtain ⟨hd0, oa, ca, la, fa, fo, hNk, hTN⟩ := TN_draw Tp Np (by omega)
        refine x_aload_n C dL_law_711 rfl rfl ?_
        refine x_bipush C (z := 12) dL_law_712 (by decide) ?_
        refine x_invVX C (Sc := (b, L, xs)) hX hbl hL s_Law_18 (st := []) (c_N_draw hNk ⟨by omega, by omega⟩ (n := 12) (by decide)) hNk rfl rfl (Nat.le_of_ble_eq_true rfl) (xRm_of hR (by omega) (by decide) (by omega) (by omega)) dL_law_714 (fun r9 h7 hq => ?_)
        obtain ⟨bs, rfl, hbs, e9⟩ := hq
        obtain ⟨T7, N7⟩ := hTN _ e9
        refine x_istore C (ls' := [some (.ref b), some (vi tm), some (.ref nk), some (.ref (ad 0)), some (vi sp), some (.long bf), none, some (vi ((P.m : Nat) : Int)), some (vi ((Q.n : Nat) : Int)), some (vi (qT Q P)), none, none, some (vi (fm : Int)), some (vi (bs : Int)), none, none, none, none, none, none, none, none, none]) dL_law_717 (by decide) rfl ?_
        have hbs2 : bs < 12 := by omega
        obtain ⟨⟨cb1, cb2⟩, cb3, cb4⟩ := clB_ok bs (by omega)
        have hSI : SI (op := Q.op) (cp := Q.cp) Q.n Q.sl (clB bs) bs fm (shA Q.n Q.op Q.sl Q.cp Q.rc (clB bs) bs fm) := shA_SI Q.rc IV1.2.2.1
        have hcn := shA_cnt Q.n Q.op Q.sl Q.rc (clB bs) bs fm IV1.2.2.1
        have hsv := (shA_V Q.n Q.op Q.sl Q.rc (clB bs) bs fm IV1.2.2.1).1
        have hsn := sh_num hSI
        refine x_iconst C dL_law_719 ?_
        refine x_iload C dL_law_720 rfl ?_
        refine x_ishl C (c := ((2 ^ bs : Nat) : Int)) dL_law_722 (shl12 bs hbs2) ?_
        refine x_iconst C dL_law_723 ?_
        refine x_iload C dL_law_724 rfl ?_
        refine x_iconst C dL_law_726 ?_
        refine x_iadd C dL_law_727 ?_
        refine x_bipush C (z := 12) dL_law_728 (by decide) ?_
        refine x_irem C (c := (((bs + 4) % 12 : Nat) : Int)) dL_law_730 (I_ne0 (by decide) (by decide)) (by rw [show ((bs : Int) + 4) = ((bs + 4 : Nat) : Int) by omega]; exact I_rem (by omega) (by decide) (by decide)) ?_
        refine x_ishl C (c := ((2 ^ ((bs + 4) % 12) : Nat) : Int)) dL_law_731 (shl12 _ (Nat.mod_lt _ (by decide))) ?_
        refine x_ior C (c := ((clB bs : Nat) : Int)) dL_law_732 (I_or _ _) ?_
        refine x_istore C (ls' := [some (.ref b), some (vi tm), some (.ref nk), some (.ref (ad 0)), some (vi sp), some (.long bf), none, some (vi ((P.m : Nat) : Int)), some (vi ((Q.n : Nat) : Int)), some (vi (qT Q P)), none, none, some (vi (fm : Int)), some (vi (bs : Int)), some (vi ((clB bs : Nat) : Int)), none, none, none, none, none, none, none, none]) dL_law_733 (by decide) rfl ?_
        refine x_aload_n C dL_law_735 rfl rfl ?_
        refine x_iload C dL_law_736 rfl ?_
        refine x_iload C dL_law_738 rfl ?_
        refine x_iload C dL_law_740 rfl ?_
        refine x_invV C s_Law_84 (st := []) (c_shapes hj T7 (cls := clB bs) (bass := bs) (fm := fm) ⟨cb1, cb2, by omega, by omega, by omega⟩ cb4 cb3) (TabR.o T7).choose_spec rfl rfl (Nat.le_of_ble_eq_true rfl) (xRm_of hR (by omega) (by decide) (by omega) (by omega)) dL_law_742 (fun r9 h8 hq => ?_)
        obtain ⟨rfl, T8, p8⟩ := hq
        have N8 := N7.fr p8
        refine x_istore C (ls' := [some (.ref b), some (vi tm), some (.ref nk), some (.ref (ad 0)), some (vi sp), some (.long bf), none, some (vi ((P.m : Nat) : Int)), some (vi ((Q.n : Nat) : Int)), some (vi (qT Q P)), none, none, some (vi (fm : Int)), some (vi (bs : Int)), some (vi ((clB bs : Nat) : Int)), some (vi ((shA Q.n Q.op Q.sl Q.cp Q.rc (clB bs) bs fm).1)), none, none, none, none, none, none, none]) dL_law_745 (by decide) rfl ?_
        refine x_aload_n C dL_law_747 rfl rfl ?_
        refine x_iload C dL_law_748 rfl ?_
        refine x_iload C dL_law_750 rfl ?_
        refine x_iload C dL_law_752 rfl ?_
        refine x_invV C s_Law_87 (st := []) (c_shapeEffort hj T8 (cls := clB bs) (bass := bs) (fm := fm) ⟨cb1, cb2, by omega, by omega, by omega⟩ cb4 cb3) (TabR.o T8).choose_spec rfl rfl (Nat.le_of_ble_eq_true rfl) (xRm_of hR (by omega) (by decide) (by omega) (by omega)) dL_law_754 (fun r9 h9 hq => ?_)
        obtain ⟨rfl, T9, p9⟩ := hq
        have N9 := N8.fr p9
        refine x_istore C (ls' := [some (.ref b), some (vi tm), some (.ref nk), some (.ref (ad 0)), some (vi sp), some (.long bf), none, some (vi ((P.m : Nat) : Int)), some (vi ((Q.n : Nat) : Int)), some (vi (qT Q P)), none, none, some (vi (fm : Int)), some (vi (bs : Int)), some (vi ((clB bs : Nat) : Int)), some (vi ((shA Q.n Q.op Q.sl Q.cp Q.rc (clB bs) bs fm).1)), some (vi ((shA Q.n Q.op Q.sl Q.cp Q.rc (clB bs) bs fm).2.1)), none, none, none, none, none, none]) dL_law_757 (by decide) rfl ?_
        have L784 : X G K 23 784 [some (.ref b), some (vi tm), some (.ref nk), some (.ref (ad 0)), some (vi sp), some (.long bf), none, some (vi ((P.m : Nat) : Int)), some (vi ((Q.n : Nat) : Int)), some (vi (qT Q P)), none, none, some (vi (fm : Int)), some (vi (bs : Int)), some (vi ((clB bs : Nat) : Int)), some (vi ((shA Q.n Q.op Q.sl Q.cp Q.rc (clB bs) bs fm).1)), some (vi ((shA Q.n Q.op Q.sl Q.cp Q.rc (clB bs) bs fm).2.1)), none, none, none, none, none, none] [] h9 cells slots := by
          refine law_sa C hR hj hcl hsl hbs2 ⟨by omega, by omega⟩ hSI (fun h10 mt10 lo10 hm10 hl10 T10 N10 => ?_) _ T9 N9
          refine x_iload C dL_law_902 rfl ?_
          refine x_if_le C (tgt := 926) dL_law_904 (by decide) ⟨by omega, by omega⟩ (fun c904 => ?_) (fun c904 => ?_)
          · skip
            refine x_iinc C (ls' := [some (.ref b), some (vi tm), some (.ref nk), some (.ref (ad 0)), some (vi sp), some (.long bf), none, some (vi ((P.m : Nat) : Int)), some (vi ((Q.n : Nat) : Int)), some (vi (qT Q P)), none, none, some (vi ((fm : Int) + 4)), some (vi (bs : Int)), some (vi ((clB bs : Nat) : Int)), some (vi ((shA Q.n Q.op Q.sl Q.cp Q.rc (clB bs) bs fm).1)), some (vi ((shA Q.n Q.op Q.sl Q.cp Q.rc (clB bs) bs fm).2.1)), some (vi ((mt10 : Nat) : Int)), some (vi lo10), none, none, none, none]) dL_law_926 rfl (by decide) (z1 := ((fm : Int) + 4)) rfl rfl ?_
            refine x_goto C (tgt := 704) dL_law_929 (by decide) ?_
            refine X.sub (ls' := [some (.ref b), some (vi tm), some (.ref nk), some (.ref (ad 0)), some (vi sp), some (.long bf), none, some (vi ((P.m : Nat) : Int)), some (vi ((Q.n : Nat) : Int)), some (vi (qT Q P)), none, none, some (vi ((fm : Int) + 4)), none, none, none, none, none, none, none, none, none, none]) (sub_cons (Or.inr rfl) (sub_cons (Or.inr rfl) (sub_cons (Or.inr rfl) (sub_cons (Or.inr rfl) (sub_cons (Or.inr rfl) (sub_cons (Or.inr rfl) (sub_cons (Or.inl rfl) (sub_cons (Or.inr rfl) (sub_cons (Or.inr rfl) (sub_cons (Or.inr rfl) (sub_cons (Or.inl rfl) (sub_cons (Or.inl rfl) (sub_cons (Or.inr rfl) (sub_cons (Or.inl rfl) (sub_cons (Or.inl rfl) (sub_cons (Or.inl rfl) (sub_cons (Or.inl rfl) (sub_cons (Or.inl rfl) (sub_cons (Or.inl rfl) (sub_cons (Or.inl rfl) (sub_cons (Or.inl rfl) (sub_cons (Or.inl rfl) (sub_cons (Or.inl rfl) sub_nil))))))))))))))))))))))) ?_
            exact ih_L704 (fm + 4) _ h10 (by omega) (⟨by omega, by omega, by omega⟩) (by omega) (T10) (N10)
          · skip
            obtain ⟨he1, he2, he3⟩ := sh_end hSI IVn c904
            have hme : mt10 = clB bs := hm10.trans he1
            have hlo9 : lo10 % 12 = (bs : Int) ∧ 0 ≤ lo10 ∧ lo10 ≤ 200 := by rcases hl10 with ⟨w1, w2⟩ | ⟨w1, w2, w3⟩; omega; (rw [w3]; exact ⟨he3, w1, w2⟩)
            refine x_iload C dL_law_907 rfl ?_
            refine x_iload C dL_law_909 rfl ?_
            refine x_icmp_ne C (tgt := 924) dL_law_911 (by decide) ⟨by omega, by omega⟩ ⟨by omega, by omega⟩ (fun c911 => ?_) (fun c911 => ?_)
            · skip
              exfalso; omega
            · skip
              refine x_iload C dL_law_914 rfl ?_
              refine x_bipush C (z := 12) dL_law_916 (by decide) ?_
              refine x_irem C (c := (bs : Int)) dL_law_918 (I_ne0 (by decide) (by decide)) (by rw [← hlo9.1]; exact I_remI (a := lo10) (b := 12) ⟨by omega, by omega⟩ (by decide)) ?_
              refine x_iload C dL_law_919 rfl ?_
              refine x_icmp_eq C (tgt := 926) dL_law_921 (by decide) ⟨by omega, by omega⟩ ⟨by omega, by omega⟩ (fun c921 => ?_) (fun c921 => ?_)
              · skip
                refine x_iinc C (ls' := [some (.ref b), some (vi tm), some (.ref nk), some (.ref (ad 0)), some (vi sp), some (.long bf), none, some (vi ((P.m : Nat) : Int)), some (vi ((Q.n : Nat) : Int)), some (vi (qT Q P)), none, none, some (vi ((fm : Int) + 4)), some (vi (bs : Int)), some (vi ((clB bs : Nat) : Int)), some (vi ((shA Q.n Q.op Q.sl Q.cp Q.rc (clB bs) bs fm).1)), some (vi ((shA Q.n Q.op Q.sl Q.cp Q.rc (clB bs) bs fm).2.1)), some (vi ((mt10 : Nat) : Int)), some (vi lo10), none, none, none, none]) dL_law_926 rfl (by decide) (z1 := ((fm : Int) + 4)) rfl rfl ?_
                refine x_goto C (tgt := 704) dL_law_929 (by decide) ?_
                refine X.sub (ls' := [some (.ref b), some (vi tm), some (.ref nk), some (.ref (ad 0)), some (vi sp), some (.long bf), none, some (vi ((P.m : Nat) : Int)), some (vi ((Q.n : Nat) : Int)), some (vi (qT Q P)), none, none, some (vi ((fm : Int) + 4)), none, none, none, none, none, none, none, none, none, none]) (sub_cons (Or.inr rfl) (sub_cons (Or.inr rfl) (sub_cons (Or.inr rfl) (sub_cons (Or.inr rfl) (sub_cons (Or.inr rfl) (sub_cons (Or.inr rfl) (sub_cons (Or.inl rfl) (sub_cons (Or.inr rfl) (sub_cons (Or.inr rfl) (sub_cons (Or.inr rfl) (sub_cons (Or.inl rfl) (sub_cons (Or.inl rfl) (sub_cons (Or.inr rfl) (sub_cons (Or.inl rfl) (sub_cons (Or.inl rfl) (sub_cons (Or.inl rfl) (sub_cons (Or.inl rfl) (sub_cons (Or.inl rfl) (sub_cons (Or.inl rfl) (sub_cons (Or.inl rfl) (sub_cons (Or.inl rfl) (sub_cons (Or.inl rfl) (sub_cons (Or.inl rfl) sub_nil))))))))))))))))))))))) ?_
                exact ih_L704 (fm + 4) _ h10 (by omega) (⟨by omega, by omega, by omega⟩) (by omega) (T10) (N10)
              · skip
                exfalso; omega
        refine x_iload C dL_law_759 rfl ?_
        refine x_if_le C (tgt := 768) dL_law_761 (by decide) ⟨by omega, by omega⟩ (fun c761 => ?_) (fun c761 => ?_)
        · skip
          refine x_iconst C dL_law_768 ?_
          refine x_iload C dL_law_769 rfl ?_
          refine x_if_lt C (tgt := 778) dL_law_771 (by decide) ⟨by omega, by omega⟩ (fun c771 => ?_) (fun c771 => ?_)
          · skip
            refine x_iconst C dL_law_778 ?_
            refine x_icmp_eq C (tgt := 784) dL_law_779 (by decide) (by decide) (by decide) (fun c779 => ?_) (fun c779 => ?_)
            · skip
              exact L784
            · skip
              exfalso; omega
          · skip
            refine x_iconst C dL_law_774 ?_
            refine x_goto C (tgt := 779) dL_law_775 (by decide) ?_
            refine x_icmp_eq C (tgt := 784) dL_law_779 (by decide) (by decide) (by decide) (fun c779 => ?_) (fun c779 => ?_)
            · skip
              exact L784
            · skip
              exfalso; omega
        · skip
          refine x_iconst C dL_law_764 ?_
          refine x_goto C (tgt := 769) dL_law_765 (by decide) ?_
          refine x_iload C dL_law_769 rfl ?_
          refine x_if_lt C (tgt := 778) dL_law_771 (by decide) ⟨by omega, by omega⟩ (fun c771 => ?_) (fun c771 => ?_)
          · skip
            refine x_iconst C dL_law_778 ?_
            refine x_icmp_eq C (tgt := 784) dL_law_779 (by decide) (by decide) (by decide) (fun c779 => ?_) (fun c779 => ?_)
            · skip
              exact L784
            · skip
              exfalso; omega
          · skip
            refine x_iconst C dL_law_774 ?_
            refine x_goto C (tgt := 779) dL_law_775 (by decide) ?_
            refine x_icmp_eq C (tgt := 784) dL_law_779 (by decide) (by decide) (by decide) (fun c779 => ?_) (fun c779 => ?_)
            · skip
              exact L784
            · skip
              exfalso; omega
  exact L704 _ 1 _ h (Nat.lt_succ_self _) (⟨by omega, by omega, by omega⟩) (by omega) (T) (N)
