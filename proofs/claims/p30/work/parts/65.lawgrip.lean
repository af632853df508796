/-! The law: one grip, string by string. -/
theorem b_and1 (p : Bool) : I (b2i p) &&& I 1 = I (b2i p) := by cases p <;> decide
theorem b_and0 (p : Bool) : I (b2i p) &&& I 0 = I (b2i false) := by cases p <;> decide

set_option maxRecDepth 100000 in
set_option maxHeartbeats 4000000 in
theorem law_b {G : xG} {K : xK} {ad : Nat → Nat} {nk b sl mc ms cells slots : Nat} {Q : Ins} {P : Pie} {d : Int} {tm sp : Int} {bf : Int64} {c k a : Nat} {su nn mo : Int} {sm : Bool} (C : xC G K "TablatureLaw" code 23) (hR : xGe K 60 mc ms) (hj : ∀ i j, i < 300 → j < 300 → ad i = ad j → i = j) (hcl : cells ≤ mc) (hsl : slots ≤ ms) (hc : c < P.m) (hk : k < (qL Q P c).length) (ha : a < Q.n) (hn6 : Q.n ≤ 6) (kk : ∀ (h' : PH), TabR G h' ad true Q P → NkR G h' ad nk b sl d Q P → X G K 23 552 [some (.ref b), some (vi tm), some (.ref nk), some (.ref (ad 0)), some (vi sp), some (.long bf), none, some (vi ((P.m : Nat) : Int)), some (vi ((Q.n : Nat) : Int)), some (vi (qT Q P)), some (vi su), some (vi nn), some (vi (c : Int)), some (vi (((qL Q P c).length : Nat) : Int)), none, some (vi (k : Int)), some (vi mo), some (vi (b2i sm)), some (vi (a : Int)), none, none, none, none] [] h' cells slots)  : ∀ h : PH, TabR G h ad true Q P → NkR G h ad nk b sl d Q P → X G K 23 448 [some (.ref b), some (vi tm), some (.ref nk), some (.ref (ad 0)), some (vi sp), some (.long bf), none, some (vi ((P.m : Nat) : Int)), some (vi ((Q.n : Nat) : Int)), some (vi (qT Q P)), some (vi su), some (vi nn), some (vi (c : Int)), some (vi (((qL Q P c).length : Nat) : Int)), none, some (vi (k : Int)), some (vi mo), some (vi (b2i sm)), some (vi (a : Int)), some (vi (fr ((qL Q P c).getD k 0) a)), some (vi (hFin (fr ((qL Q P c).getD k 0)) a)), none, none] [] h cells slots := by
  intro h T N
  have fa1 := fr_bd ((qL Q P c).getD k 0) a
  have fa2 := hFin_rg (fr ((qL Q P c).getD k 0)) a
  refine x_iconst C dL_law_448 ?_
  refine x_istore C (ls' := [some (.ref b), some (vi tm), some (.ref nk), some (.ref (ad 0)), some (vi sp), some (.long bf), none, some (vi ((P.m : Nat) : Int)), some (vi ((Q.n : Nat) : Int)), some (vi (qT Q P)), some (vi su), some (vi nn), some (vi (c : Int)), some (vi (((qL Q P c).length : Nat) : Int)), none, some (vi (k : Int)), some (vi mo), some (vi (b2i sm)), some (vi (a : Int)), some (vi (fr ((qL Q P c).getD k 0) a)), some (vi (hFin (fr ((qL Q P c).getD k 0)) a)), some (vi 0), none]) dL_law_449 (by decide) rfl ?_
  have L451 : ∀ (n0 : Nat) (bb : Nat) (hp : PH), a - bb < n0 → (bb ≤ a) → (TabR G hp ad true Q P) → (NkR G hp ad nk b sl d Q P) → X G K 23 451 [some (.ref b), some (vi tm), some (.ref nk), some (.ref (ad 0)), some (vi sp), some (.long bf), none, some (vi ((P.m : Nat) : Int)), some (vi ((Q.n : Nat) : Int)), some (vi (qT Q P)), some (vi su), some (vi nn), some (vi (c : Int)), some (vi (((qL Q P c).length : Nat) : Int)), none, some (vi (k : Int)), some (vi mo), some (vi (b2i sm)), some (vi (a : Int)), some (vi (fr ((qL Q P c).getD k 0) a)), some (vi (hFin (fr ((qL Q P c).getD k 0)) a)), some (vi (bb : Int)), none] [] hp cells slots := by
    intro n0
    induction n0 with
    | zero => intro bb hp hm; exact absurd hm (Nat.not_lt_zero _)
    | succ n0 ih_L451 =>
      intro bb hp hm i1 Tp Np
      refine x_iload C dL_law_451 rfl ?_
      refine x_iload C dL_law_453 rfl ?_
      refine x_icmp_ge C (tgt := 552) dL_law_455 (by decide) ⟨by omega, by omega⟩ ⟨by omega, by omega⟩ (fun c455 => ?_) (fun c455 => ?_)
      · skip
        refine X.sub (ls' := [some (.ref b), some (vi tm), some (.ref nk), some (.ref (ad 0)), some (vi sp), some (.long bf), none, some (vi ((P.m : Nat) : Int)), some (vi ((Q.n : Nat) : Int)), some (vi (qT Q P)), some (vi su), some (vi nn), some (vi (c : Int)), some (vi (((qL Q P c).length : Nat) : Int)), none, some (vi (k : Int)), some (vi mo), some (vi (b2i sm)), some (vi (a : Int)), none, none, none, none]) (sub_cons (Or.inr rfl) (sub_cons (Or.inr rfl) (sub_cons (Or.inr rfl) (sub_cons (Or.inr rfl) (sub_cons (Or.inr rfl) (sub_cons (Or.inr rfl) (sub_cons (Or.inl rfl) (sub_cons (Or.inr rfl) (sub_cons (Or.inr rfl) (sub_cons (Or.inr rfl) (sub_cons (Or.inr rfl) (sub_cons (Or.inr rfl) (sub_cons (Or.inr rfl) (sub_cons (Or.inr rfl) (sub_cons (Or.inl rfl) (sub_cons (Or.inr rfl) (sub_cons (Or.inr rfl) (sub_cons (Or.inr rfl) (sub_cons (Or.inr rfl) (sub_cons (Or.inl rfl) (sub_cons (Or.inl rfl) (sub_cons (Or.inl rfl) (sub_cons (Or.inl rfl) sub_nil))))))))))))))))))))))) ?_
        exact kk hp (Tp) (Np)
      · skip
        have fb1 := fr_bd ((qL Q P c).getD k 0) bb
        have fb2 := hFin_rg (fr ((qL Q P c).getD k 0)) bb
        refine x_aload_n C dL_law_458 rfl rfl ?_
        refine x_iload C dL_law_459 rfl ?_
        refine x_iload C dL_law_461 rfl ?_
        refine x_iload C dL_law_463 rfl ?_
        refine x_invV C s_Law_63 (st := []) (c_fret hj Tp hc hk (s := bb) (by omega)) (TabR.o Tp).choose_spec rfl rfl (Nat.le_of_ble_eq_true rfl) (xRm_of hR (by omega) (by decide) (by omega) (by omega)) dL_law_465 (fun r9 h1 hq => ?_)
        obtain ⟨rfl, T1, p1⟩ := hq
        have N1 := Np.fr p1
        refine x_istore C (ls' := [some (.ref b), some (vi tm), some (.ref nk), some (.ref (ad 0)), some (vi sp), some (.long bf), none, some (vi ((P.m : Nat) : Int)), some (vi ((Q.n : Nat) : Int)), some (vi (qT Q P)), some (vi su), some (vi nn), some (vi (c : Int)), some (vi (((qL Q P c).length : Nat) : Int)), none, some (vi (k : Int)), some (vi mo), some (vi (b2i sm)), some (vi (a : Int)), some (vi (fr ((qL Q P c).getD k 0) a)), some (vi (hFin (fr ((qL Q P c).getD k 0)) a)), some (vi (bb : Int)), some (vi (fr ((qL Q P c).getD k 0) bb))]) dL_law_468 (by decide) rfl ?_
        refine x_iload C dL_law_470 rfl ?_
        refine x_if_le C (tgt := 546) dL_law_472 (by decide) ⟨by omega, by omega⟩ (fun c472 => ?_) (fun c472 => ?_)
        · skip
          refine x_iinc C (ls' := [some (.ref b), some (vi tm), some (.ref nk), some (.ref (ad 0)), some (vi sp), some (.long bf), none, some (vi ((P.m : Nat) : Int)), some (vi ((Q.n : Nat) : Int)), some (vi (qT Q P)), some (vi su), some (vi nn), some (vi (c : Int)), some (vi (((qL Q P c).length : Nat) : Int)), none, some (vi (k : Int)), some (vi mo), some (vi (b2i sm)), some (vi (a : Int)), some (vi (fr ((qL Q P c).getD k 0) a)), some (vi (hFin (fr ((qL Q P c).getD k 0)) a)), some (vi ((bb : Int) + 1)), some (vi (fr ((qL Q P c).getD k 0) bb))]) dL_law_546 rfl (by decide) (z1 := ((bb : Int) + 1)) rfl rfl ?_
          refine x_goto C (tgt := 451) dL_law_549 (by decide) ?_
          refine X.sub (ls' := [some (.ref b), some (vi tm), some (.ref nk), some (.ref (ad 0)), some (vi sp), some (.long bf), none, some (vi ((P.m : Nat) : Int)), some (vi ((Q.n : Nat) : Int)), some (vi (qT Q P)), some (vi su), some (vi nn), some (vi (c : Int)), some (vi (((qL Q P c).length : Nat) : Int)), none, some (vi (k : Int)), some (vi mo), some (vi (b2i sm)), some (vi (a : Int)), some (vi (fr ((qL Q P c).getD k 0) a)), some (vi (hFin (fr ((qL Q P c).getD k 0)) a)), some (vi ((bb : Int) + 1)), none]) (sub_cons (Or.inr rfl) (sub_cons (Or.inr rfl) (sub_cons (Or.inr rfl) (sub_cons (Or.inr rfl) (sub_cons (Or.inr rfl) (sub_cons (Or.inr rfl) (sub_cons (Or.inl rfl) (sub_cons (Or.inr rfl) (sub_cons (Or.inr rfl) (sub_cons (Or.inr rfl) (sub_cons (Or.inr rfl) (sub_cons (Or.inr rfl) (sub_cons (Or.inr rfl) (sub_cons (Or.inr rfl) (sub_cons (Or.inl rfl) (sub_cons (Or.inr rfl) (sub_cons (Or.inr rfl) (sub_cons (Or.inr rfl) (sub_cons (Or.inr rfl) (sub_cons (Or.inr rfl) (sub_cons (Or.inr rfl) (sub_cons (Or.inr rfl) (sub_cons (Or.inl rfl) sub_nil))))))))))))))))))))))) ?_
          exact ih_L451 (bb + 1) h1 (by omega) (by omega) (T1) (N1)
        · skip
          refine x_iload C dL_law_475 rfl ?_
          refine x_if_le C (tgt := 546) dL_law_477 (by decide) ⟨by omega, by omega⟩ (fun c477 => ?_) (fun c477 => ?_)
          · skip
            refine x_iinc C (ls' := [some (.ref b), some (vi tm), some (.ref nk), some (.ref (ad 0)), some (vi sp), some (.long bf), none, some (vi ((P.m : Nat) : Int)), some (vi ((Q.n : Nat) : Int)), some (vi (qT Q P)), some (vi su), some (vi nn), some (vi (c : Int)), some (vi (((qL Q P c).length : Nat) : Int)), none, some (vi (k : Int)), some (vi mo), some (vi (b2i sm)), some (vi (a : Int)), some (vi (fr ((qL Q P c).getD k 0) a)), some (vi (hFin (fr ((qL Q P c).getD k 0)) a)), some (vi ((bb : Int) + 1)), some (vi (fr ((qL Q P c).getD k 0) bb))]) dL_law_546 rfl (by decide) (z1 := ((bb : Int) + 1)) rfl rfl ?_
            refine x_goto C (tgt := 451) dL_law_549 (by decide) ?_
            refine X.sub (ls' := [some (.ref b), some (vi tm), some (.ref nk), some (.ref (ad 0)), some (vi sp), some (.long bf), none, some (vi ((P.m : Nat) : Int)), some (vi ((Q.n : Nat) : Int)), some (vi (qT Q P)), some (vi su), some (vi nn), some (vi (c : Int)), some (vi (((qL Q P c).length : Nat) : Int)), none, some (vi (k : Int)), some (vi mo), some (vi (b2i sm)), some (vi (a : Int)), some (vi (fr ((qL Q P c).getD k 0) a)), some (vi (hFin (fr ((qL Q P c).getD k 0)) a)), some (vi ((bb : Int) + 1)), none]) (sub_cons (Or.inr rfl) (sub_cons (Or.inr rfl) (sub_cons (Or.inr rfl) (sub_cons (Or.inr rfl) (sub_cons (Or.inr rfl) (sub_cons (Or.inr rfl) (sub_cons (Or.inl rfl) (sub_cons (Or.inr rfl) (sub_cons (Or.inr rfl) (sub_cons (Or.inr rfl) (sub_cons (Or.inr rfl) (sub_cons (Or.inr rfl) (sub_cons (Or.inr rfl) (sub_cons (Or.inr rfl) (sub_cons (Or.inl rfl) (sub_cons (Or.inr rfl) (sub_cons (Or.inr rfl) (sub_cons (Or.inr rfl) (sub_cons (Or.inr rfl) (sub_cons (Or.inr rfl) (sub_cons (Or.inr rfl) (sub_cons (Or.inr rfl) (sub_cons (Or.inl rfl) sub_nil))))))))))))))))))))))) ?_
            exact ih_L451 (bb + 1) h1 (by omega) (by omega) (T1) (N1)
          · skip
            have fm1 : (fr ((qL Q P c).getD k 0) bb) < (fr ((qL Q P c).getD k 0) a) ∨ (fr ((qL Q P c).getD k 0) bb) = (fr ((qL Q P c).getD k 0) a) → (hFin (fr ((qL Q P c).getD k 0)) bb) ≤ (hFin (fr ((qL Q P c).getD k 0)) a) ∧ ((fr ((qL Q P c).getD k 0) bb) < (fr ((qL Q P c).getD k 0) a) → (hFin (fr ((qL Q P c).getD k 0)) bb) < (hFin (fr ((qL Q P c).getD k 0)) a)) := fun q => fin_mono (f := fr ((qL Q P c).getD k 0)) (by omega) (by omega) c477 (q.imp_right (fun e => ⟨e, by omega⟩))
            have fm2 : (fr ((qL Q P c).getD k 0) a) < (fr ((qL Q P c).getD k 0) bb) → (hFin (fr ((qL Q P c).getD k 0)) a) < (hFin (fr ((qL Q P c).getD k 0)) bb) := fun q => (fin_mono (f := fr ((qL Q P c).getD k 0)) (by omega) (by omega) c472 (Or.inl q)).2 q
            refine x_iload C dL_law_480 rfl ?_
            refine x_iload C dL_law_482 rfl ?_
            refine x_icmp_le C (tgt := 491) dL_law_484 (by decide) ⟨by omega, by omega⟩ ⟨by omega, by omega⟩ (fun c484 => ?_) (fun c484 => ?_)
            · skip
              refine x_iconst C dL_law_491 ?_
              refine x_iload C dL_law_492 rfl ?_
              refine x_aload_n C dL_law_494 rfl rfl ?_
              refine x_iload C dL_law_495 rfl ?_
              refine x_iload C dL_law_497 rfl ?_
              refine x_iload C dL_law_499 rfl ?_
              refine x_invV C s_Law_66 (st := [vi (hFin (fr ((qL Q P c).getD k 0)) a), vi 0]) (c_finger hj T1 hc hk (s := bb) (by omega)) (TabR.o T1).choose_spec rfl rfl (Nat.le_of_ble_eq_true rfl) (xRm_of hR (by omega) (by decide) (by omega) (by omega)) dL_law_501 (fun r9 h2 hq => ?_)
              obtain ⟨rfl, T2, p2⟩ := hq
              have N2 := N1.fr p2
              refine x_icmp_le C (tgt := 511) dL_law_504 (by decide) ⟨by omega, by omega⟩ ⟨by omega, by omega⟩ (fun c504 => ?_) (fun c504 => ?_)
              · skip
                refine x_iconst C dL_law_511 ?_
                refine x_icmp_eq C (tgt := 522) dL_law_512 (by decide) (by decide) (by decide) (fun c512 => ?_) (fun c512 => ?_)
                · skip
                  refine x_iload C dL_law_522 rfl ?_
                  refine x_iload C dL_law_524 rfl ?_
                  refine x_icmp_ne C (tgt := 546) dL_law_526 (by decide) ⟨by omega, by omega⟩ ⟨by omega, by omega⟩ (fun c526 => ?_) (fun c526 => ?_)
                  · skip
                    refine x_iinc C (ls' := [some (.ref b), some (vi tm), some (.ref nk), some (.ref (ad 0)), some (vi sp), some (.long bf), none, some (vi ((P.m : Nat) : Int)), some (vi ((Q.n : Nat) : Int)), some (vi (qT Q P)), some (vi su), some (vi nn), some (vi (c : Int)), some (vi (((qL Q P c).length : Nat) : Int)), none, some (vi (k : Int)), some (vi mo), some (vi (b2i sm)), some (vi (a : Int)), some (vi (fr ((qL Q P c).getD k 0) a)), some (vi (hFin (fr ((qL Q P c).getD k 0)) a)), some (vi ((bb : Int) + 1)), some (vi (fr ((qL Q P c).getD k 0) bb))]) dL_law_546 rfl (by decide) (z1 := ((bb : Int) + 1)) rfl rfl ?_
                    refine x_goto C (tgt := 451) dL_law_549 (by decide) ?_
                    refine X.sub (ls' := [some (.ref b), some (vi tm), some (.ref nk), some (.ref (ad 0)), some (vi sp), some (.long bf), none, some (vi ((P.m : Nat) : Int)), some (vi ((Q.n : Nat) : Int)), some (vi (qT Q P)), some (vi su), some (vi nn), some (vi (c : Int)), some (vi (((qL Q P c).length : Nat) : Int)), none, some (vi (k : Int)), some (vi mo), some (vi (b2i sm)), some (vi (a : Int)), some (vi (fr ((qL Q P c).getD k 0) a)), some (vi (hFin (fr ((qL Q P c).getD k 0)) a)), some (vi ((bb : Int) + 1)), none]) (sub_cons (Or.inr rfl) (sub_cons (Or.inr rfl) (sub_cons (Or.inr rfl) (sub_cons (Or.inr rfl) (sub_cons (Or.inr rfl) (sub_cons (Or.inr rfl) (sub_cons (Or.inl rfl) (sub_cons (Or.inr rfl) (sub_cons (Or.inr rfl) (sub_cons (Or.inr rfl) (sub_cons (Or.inr rfl) (sub_cons (Or.inr rfl) (sub_cons (Or.inr rfl) (sub_cons (Or.inr rfl) (sub_cons (Or.inl rfl) (sub_cons (Or.inr rfl) (sub_cons (Or.inr rfl) (sub_cons (Or.inr rfl) (sub_cons (Or.inr rfl) (sub_cons (Or.inr rfl) (sub_cons (Or.inr rfl) (sub_cons (Or.inr rfl) (sub_cons (Or.inl rfl) sub_nil))))))))))))))))))))))) ?_
                    exact ih_L451 (bb + 1) h2 (by omega) (by omega) (T2) (N2)
                  · skip
                    refine x_iload C dL_law_529 rfl ?_
                    refine x_aload_n C dL_law_531 rfl rfl ?_
                    refine x_iload C dL_law_532 rfl ?_
                    refine x_iload C dL_law_534 rfl ?_
                    refine x_iload C dL_law_536 rfl ?_
                    refine x_invV C s_Law_66 (st := [vi (hFin (fr ((qL Q P c).getD k 0)) a)]) (c_finger hj T2 hc hk (s := bb) (by omega)) (TabR.o T2).choose_spec rfl rfl (Nat.le_of_ble_eq_true rfl) (xRm_of hR (by omega) (by decide) (by omega) (by omega)) dL_law_538 (fun r9 h3 hq => ?_)
                    obtain ⟨rfl, T3, p3⟩ := hq
                    have N3 := N2.fr p3
                    refine x_icmp_ge C (tgt := 546) dL_law_541 (by decide) ⟨by omega, by omega⟩ ⟨by omega, by omega⟩ (fun c541 => ?_) (fun c541 => ?_)
                    · skip
                      refine x_iinc C (ls' := [some (.ref b), some (vi tm), some (.ref nk), some (.ref (ad 0)), some (vi sp), some (.long bf), none, some (vi ((P.m : Nat) : Int)), some (vi ((Q.n : Nat) : Int)), some (vi (qT Q P)), some (vi su), some (vi nn), some (vi (c : Int)), some (vi (((qL Q P c).length : Nat) : Int)), none, some (vi (k : Int)), some (vi mo), some (vi (b2i sm)), some (vi (a : Int)), some (vi (fr ((qL Q P c).getD k 0) a)), some (vi (hFin (fr ((qL Q P c).getD k 0)) a)), some (vi ((bb : Int) + 1)), some (vi (fr ((qL Q P c).getD k 0) bb))]) dL_law_546 rfl (by decide) (z1 := ((bb : Int) + 1)) rfl rfl ?_
                      refine x_goto C (tgt := 451) dL_law_549 (by decide) ?_
                      refine X.sub (ls' := [some (.ref b), some (vi tm), some (.ref nk), some (.ref (ad 0)), some (vi sp), some (.long bf), none, some (vi ((P.m : Nat) : Int)), some (vi ((Q.n : Nat) : Int)), some (vi (qT Q P)), some (vi su), some (vi nn), some (vi (c : Int)), some (vi (((qL Q P c).length : Nat) : Int)), none, some (vi (k : Int)), some (vi mo), some (vi (b2i sm)), some (vi (a : Int)), some (vi (fr ((qL Q P c).getD k 0) a)), some (vi (hFin (fr ((qL Q P c).getD k 0)) a)), some (vi ((bb : Int) + 1)), none]) (sub_cons (Or.inr rfl) (sub_cons (Or.inr rfl) (sub_cons (Or.inr rfl) (sub_cons (Or.inr rfl) (sub_cons (Or.inr rfl) (sub_cons (Or.inr rfl) (sub_cons (Or.inl rfl) (sub_cons (Or.inr rfl) (sub_cons (Or.inr rfl) (sub_cons (Or.inr rfl) (sub_cons (Or.inr rfl) (sub_cons (Or.inr rfl) (sub_cons (Or.inr rfl) (sub_cons (Or.inr rfl) (sub_cons (Or.inl rfl) (sub_cons (Or.inr rfl) (sub_cons (Or.inr rfl) (sub_cons (Or.inr rfl) (sub_cons (Or.inr rfl) (sub_cons (Or.inr rfl) (sub_cons (Or.inr rfl) (sub_cons (Or.inr rfl) (sub_cons (Or.inl rfl) sub_nil))))))))))))))))))))))) ?_
                      exact ih_L451 (bb + 1) h3 (by omega) (by omega) (T3) (N3)
                    · skip
                      exfalso; omega
                · skip
                  refine x_iload C dL_law_515 rfl ?_
                  refine x_iload C dL_law_517 rfl ?_
                  refine x_icmp_ne C (tgt := 544) dL_law_519 (by decide) ⟨by omega, by omega⟩ ⟨by omega, by omega⟩ (fun c519 => ?_) (fun c519 => ?_)
                  · skip
                    exfalso; omega
                  · skip
                    refine x_iload C dL_law_522 rfl ?_
                    refine x_iload C dL_law_524 rfl ?_
                    refine x_icmp_ne C (tgt := 546) dL_law_526 (by decide) ⟨by omega, by omega⟩ ⟨by omega, by omega⟩ (fun c526 => ?_) (fun c526 => ?_)
                    · skip
                      refine x_iinc C (ls' := [some (.ref b), some (vi tm), some (.ref nk), some (.ref (ad 0)), some (vi sp), some (.long bf), none, some (vi ((P.m : Nat) : Int)), some (vi ((Q.n : Nat) : Int)), some (vi (qT Q P)), some (vi su), some (vi nn), some (vi (c : Int)), some (vi (((qL Q P c).length : Nat) : Int)), none, some (vi (k : Int)), some (vi mo), some (vi (b2i sm)), some (vi (a : Int)), some (vi (fr ((qL Q P c).getD k 0) a)), some (vi (hFin (fr ((qL Q P c).getD k 0)) a)), some (vi ((bb : Int) + 1)), some (vi (fr ((qL Q P c).getD k 0) bb))]) dL_law_546 rfl (by decide) (z1 := ((bb : Int) + 1)) rfl rfl ?_
                      refine x_goto C (tgt := 451) dL_law_549 (by decide) ?_
                      refine X.sub (ls' := [some (.ref b), some (vi tm), some (.ref nk), some (.ref (ad 0)), some (vi sp), some (.long bf), none, some (vi ((P.m : Nat) : Int)), some (vi ((Q.n : Nat) : Int)), some (vi (qT Q P)), some (vi su), some (vi nn), some (vi (c : Int)), some (vi (((qL Q P c).length : Nat) : Int)), none, some (vi (k : Int)), some (vi mo), some (vi (b2i sm)), some (vi (a : Int)), some (vi (fr ((qL Q P c).getD k 0) a)), some (vi (hFin (fr ((qL Q P c).getD k 0)) a)), some (vi ((bb : Int) + 1)), none]) (sub_cons (Or.inr rfl) (sub_cons (Or.inr rfl) (sub_cons (Or.inr rfl) (sub_cons (Or.inr rfl) (sub_cons (Or.inr rfl) (sub_cons (Or.inr rfl) (sub_cons (Or.inl rfl) (sub_cons (Or.inr rfl) (sub_cons (Or.inr rfl) (sub_cons (Or.inr rfl) (sub_cons (Or.inr rfl) (sub_cons (Or.inr rfl) (sub_cons (Or.inr rfl) (sub_cons (Or.inr rfl) (sub_cons (Or.inl rfl) (sub_cons (Or.inr rfl) (sub_cons (Or.inr rfl) (sub_cons (Or.inr rfl) (sub_cons (Or.inr rfl) (sub_cons (Or.inr rfl) (sub_cons (Or.inr rfl) (sub_cons (Or.inr rfl) (sub_cons (Or.inl rfl) sub_nil))))))))))))))))))))))) ?_
                      exact ih_L451 (bb + 1) h2 (by omega) (by omega) (T2) (N2)
                    · skip
                      refine x_iload C dL_law_529 rfl ?_
                      refine x_aload_n C dL_law_531 rfl rfl ?_
                      refine x_iload C dL_law_532 rfl ?_
                      refine x_iload C dL_law_534 rfl ?_
                      refine x_iload C dL_law_536 rfl ?_
                      refine x_invV C s_Law_66 (st := [vi (hFin (fr ((qL Q P c).getD k 0)) a)]) (c_finger hj T2 hc hk (s := bb) (by omega)) (TabR.o T2).choose_spec rfl rfl (Nat.le_of_ble_eq_true rfl) (xRm_of hR (by omega) (by decide) (by omega) (by omega)) dL_law_538 (fun r9 h4 hq => ?_)
                      obtain ⟨rfl, T4, p4⟩ := hq
                      have N4 := N2.fr p4
                      refine x_icmp_ge C (tgt := 546) dL_law_541 (by decide) ⟨by omega, by omega⟩ ⟨by omega, by omega⟩ (fun c541 => ?_) (fun c541 => ?_)
                      · skip
                        refine x_iinc C (ls' := [some (.ref b), some (vi tm), some (.ref nk), some (.ref (ad 0)), some (vi sp), some (.long bf), none, some (vi ((P.m : Nat) : Int)), some (vi ((Q.n : Nat) : Int)), some (vi (qT Q P)), some (vi su), some (vi nn), some (vi (c : Int)), some (vi (((qL Q P c).length : Nat) : Int)), none, some (vi (k : Int)), some (vi mo), some (vi (b2i sm)), some (vi (a : Int)), some (vi (fr ((qL Q P c).getD k 0) a)), some (vi (hFin (fr ((qL Q P c).getD k 0)) a)), some (vi ((bb : Int) + 1)), some (vi (fr ((qL Q P c).getD k 0) bb))]) dL_law_546 rfl (by decide) (z1 := ((bb : Int) + 1)) rfl rfl ?_
                        refine x_goto C (tgt := 451) dL_law_549 (by decide) ?_
                        refine X.sub (ls' := [some (.ref b), some (vi tm), some (.ref nk), some (.ref (ad 0)), some (vi sp), some (.long bf), none, some (vi ((P.m : Nat) : Int)), some (vi ((Q.n : Nat) : Int)), some (vi (qT Q P)), some (vi su), some (vi nn), some (vi (c : Int)), some (vi (((qL Q P c).length : Nat) : Int)), none, some (vi (k : Int)), some (vi mo), some (vi (b2i sm)), some (vi (a : Int)), some (vi (fr ((qL Q P c).getD k 0) a)), some (vi (hFin (fr ((qL Q P c).getD k 0)) a)), some (vi ((bb : Int) + 1)), none]) (sub_cons (Or.inr rfl) (sub_cons (Or.inr rfl) (sub_cons (Or.inr rfl) (sub_cons (Or.inr rfl) (sub_cons (Or.inr rfl) (sub_cons (Or.inr rfl) (sub_cons (Or.inl rfl) (sub_cons (Or.inr rfl) (sub_cons (Or.inr rfl) (sub_cons (Or.inr rfl) (sub_cons (Or.inr rfl) (sub_cons (Or.inr rfl) (sub_cons (Or.inr rfl) (sub_cons (Or.inr rfl) (sub_cons (Or.inl rfl) (sub_cons (Or.inr rfl) (sub_cons (Or.inr rfl) (sub_cons (Or.inr rfl) (sub_cons (Or.inr rfl) (sub_cons (Or.inr rfl) (sub_cons (Or.inr rfl) (sub_cons (Or.inr rfl) (sub_cons (Or.inl rfl) sub_nil))))))))))))))))))))))) ?_
                        exact ih_L451 (bb + 1) h4 (by omega) (by omega) (T4) (N4)
                      · skip
                        exfalso; omega
              · skip
                refine x_iconst C dL_law_507 ?_
                refine x_goto C (tgt := 512) dL_law_508 (by decide) ?_
                refine x_icmp_eq C (tgt := 522) dL_law_512 (by decide) (by decide) (by decide) (fun c512 => ?_) (fun c512 => ?_)
                · skip
                  refine x_iload C dL_law_522 rfl ?_
                  refine x_iload C dL_law_524 rfl ?_
                  refine x_icmp_ne C (tgt := 546) dL_law_526 (by decide) ⟨by omega, by omega⟩ ⟨by omega, by omega⟩ (fun c526 => ?_) (fun c526 => ?_)
                  · skip
                    refine x_iinc C (ls' := [some (.ref b), some (vi tm), some (.ref nk), some (.ref (ad 0)), some (vi sp), some (.long bf), none, some (vi ((P.m : Nat) : Int)), some (vi ((Q.n : Nat) : Int)), some (vi (qT Q P)), some (vi su), some (vi nn), some (vi (c : Int)), some (vi (((qL Q P c).length : Nat) : Int)), none, some (vi (k : Int)), some (vi mo), some (vi (b2i sm)), some (vi (a : Int)), some (vi (fr ((qL Q P c).getD k 0) a)), some (vi (hFin (fr ((qL Q P c).getD k 0)) a)), some (vi ((bb : Int) + 1)), some (vi (fr ((qL Q P c).getD k 0) bb))]) dL_law_546 rfl (by decide) (z1 := ((bb : Int) + 1)) rfl rfl ?_
                    refine x_goto C (tgt := 451) dL_law_549 (by decide) ?_
                    refine X.sub (ls' := [some (.ref b), some (vi tm), some (.ref nk), some (.ref (ad 0)), some (vi sp), some (.long bf), none, some (vi ((P.m : Nat) : Int)), some (vi ((Q.n : Nat) : Int)), some (vi (qT Q P)), some (vi su), some (vi nn), some (vi (c : Int)), some (vi (((qL Q P c).length : Nat) : Int)), none, some (vi (k : Int)), some (vi mo), some (vi (b2i sm)), some (vi (a : Int)), some (vi (fr ((qL Q P c).getD k 0) a)), some (vi (hFin (fr ((qL Q P c).getD k 0)) a)), some (vi ((bb : Int) + 1)), none]) (sub_cons (Or.inr rfl) (sub_cons (Or.inr rfl) (sub_cons (Or.inr rfl) (sub_cons (Or.inr rfl) (sub_cons (Or.inr rfl) (sub_cons (Or.inr rfl) (sub_cons (Or.inl rfl) (sub_cons (Or.inr rfl) (sub_cons (Or.inr rfl) (sub_cons (Or.inr rfl) (sub_cons (Or.inr rfl) (sub_cons (Or.inr rfl) (sub_cons (Or.inr rfl) (sub_cons (Or.inr rfl) (sub_cons (Or.inl rfl) (sub_cons (Or.inr rfl) (sub_cons (Or.inr rfl) (sub_cons (Or.inr rfl) (sub_cons (Or.inr rfl) (sub_cons (Or.inr rfl) (sub_cons (Or.inr rfl) (sub_cons (Or.inr rfl) (sub_cons (Or.inl rfl) sub_nil))))))))))))))))))))))) ?_
                    exact ih_L451 (bb + 1) h2 (by omega) (by omega) (T2) (N2)
                  · skip
                    refine x_iload C dL_law_529 rfl ?_
                    refine x_aload_n C dL_law_531 rfl rfl ?_
                    refine x_iload C dL_law_532 rfl ?_
                    refine x_iload C dL_law_534 rfl ?_
                    refine x_iload C dL_law_536 rfl ?_
                    refine x_invV C s_Law_66 (st := [vi (hFin (fr ((qL Q P c).getD k 0)) a)]) (c_finger hj T2 hc hk (s := bb) (by omega)) (TabR.o T2).choose_spec rfl rfl (Nat.le_of_ble_eq_true rfl) (xRm_of hR (by omega) (by decide) (by omega) (by omega)) dL_law_538 (fun r9 h5 hq => ?_)
                    obtain ⟨rfl, T5, p5⟩ := hq
                    have N5 := N2.fr p5
                    refine x_icmp_ge C (tgt := 546) dL_law_541 (by decide) ⟨by omega, by omega⟩ ⟨by omega, by omega⟩ (fun c541 => ?_) (fun c541 => ?_)
                    · skip
                      refine x_iinc C (ls' := [some (.ref b), some (vi tm), some (.ref nk), some (.ref (ad 0)), some (vi sp), some (.long bf), none, some (vi ((P.m : Nat) : Int)), some (vi ((Q.n : Nat) : Int)), some (vi (qT Q P)), some (vi su), some (vi nn), some (vi (c : Int)), some (vi (((qL Q P c).length : Nat) : Int)), none, some (vi (k : Int)), some (vi mo), some (vi (b2i sm)), some (vi (a : Int)), some (vi (fr ((qL Q P c).getD k 0) a)), some (vi (hFin (fr ((qL Q P c).getD k 0)) a)), some (vi ((bb : Int) + 1)), some (vi (fr ((qL Q P c).getD k 0) bb))]) dL_law_546 rfl (by decide) (z1 := ((bb : Int) + 1)) rfl rfl ?_
                      refine x_goto C (tgt := 451) dL_law_549 (by decide) ?_
                      refine X.sub (ls' := [some (.ref b), some (vi tm), some (.ref nk), some (.ref (ad 0)), some (vi sp), some (.long bf), none, some (vi ((P.m : Nat) : Int)), some (vi ((Q.n : Nat) : Int)), some (vi (qT Q P)), some (vi su), some (vi nn), some (vi (c : Int)), some (vi (((qL Q P c).length : Nat) : Int)), none, some (vi (k : Int)), some (vi mo), some (vi (b2i sm)), some (vi (a : Int)), some (vi (fr ((qL Q P c).getD k 0) a)), some (vi (hFin (fr ((qL Q P c).getD k 0)) a)), some (vi ((bb : Int) + 1)), none]) (sub_cons (Or.inr rfl) (sub_cons (Or.inr rfl) (sub_cons (Or.inr rfl) (sub_cons (Or.inr rfl) (sub_cons (Or.inr rfl) (sub_cons (Or.inr rfl) (sub_cons (Or.inl rfl) (sub_cons (Or.inr rfl) (sub_cons (Or.inr rfl) (sub_cons (Or.inr rfl) (sub_cons (Or.inr rfl) (sub_cons (Or.inr rfl) (sub_cons (Or.inr rfl) (sub_cons (Or.inr rfl) (sub_cons (Or.inl rfl) (sub_cons (Or.inr rfl) (sub_cons (Or.inr rfl) (sub_cons (Or.inr rfl) (sub_cons (Or.inr rfl) (sub_cons (Or.inr rfl) (sub_cons (Or.inr rfl) (sub_cons (Or.inr rfl) (sub_cons (Or.inl rfl) sub_nil))))))))))))))))))))))) ?_
                      exact ih_L451 (bb + 1) h5 (by omega) (by omega) (T5) (N5)
                    · skip
                      exfalso; omega
                · skip
                  refine x_iload C dL_law_515 rfl ?_
                  refine x_iload C dL_law_517 rfl ?_
                  refine x_icmp_ne C (tgt := 544) dL_law_519 (by decide) ⟨by omega, by omega⟩ ⟨by omega, by omega⟩ (fun c519 => ?_) (fun c519 => ?_)
                  · skip
                    exfalso; omega
                  · skip
                    refine x_iload C dL_law_522 rfl ?_
                    refine x_iload C dL_law_524 rfl ?_
                    refine x_icmp_ne C (tgt := 546) dL_law_526 (by decide) ⟨by omega, by omega⟩ ⟨by omega, by omega⟩ (fun c526 => ?_) (fun c526 => ?_)
                    · skip
                      refine x_iinc C (ls' := [some (.ref b), some (vi tm), some (.ref nk), some (.ref (ad 0)), some (vi sp), some (.long bf), none, some (vi ((P.m : Nat) : Int)), some (vi ((Q.n : Nat) : Int)), some (vi (qT Q P)), some (vi su), some (vi nn), some (vi (c : Int)), some (vi (((qL Q P c).length : Nat) : Int)), none, some (vi (k : Int)), some (vi mo), some (vi (b2i sm)), some (vi (a : Int)), some (vi (fr ((qL Q P c).getD k 0) a)), some (vi (hFin (fr ((qL Q P c).getD k 0)) a)), some (vi ((bb : Int) + 1)), some (vi (fr ((qL Q P c).getD k 0) bb))]) dL_law_546 rfl (by decide) (z1 := ((bb : Int) + 1)) rfl rfl ?_
                      refine x_goto C (tgt := 451) dL_law_549 (by decide) ?_
                      refine X.sub (ls' := [some (.ref b), some (vi tm), some (.ref nk), some (.ref (ad 0)), some (vi sp), some (.long bf), none, some (vi ((P.m : Nat) : Int)), some (vi ((Q.n : Nat) : Int)), some (vi (qT Q P)), some (vi su), some (vi nn), some (vi (c : Int)), some (vi (((qL Q P c).length : Nat) : Int)), none, some (vi (k : Int)), some (vi mo), some (vi (b2i sm)), some (vi (a : Int)), some (vi (fr ((qL Q P c).getD k 0) a)), some (vi (hFin (fr ((qL Q P c).getD k 0)) a)), some (vi ((bb : Int) + 1)), none]) (sub_cons (Or.inr rfl) (sub_cons (Or.inr rfl) (sub_cons (Or.inr rfl) (sub_cons (Or.inr rfl) (sub_cons (Or.inr rfl) (sub_cons (Or.inr rfl) (sub_cons (Or.inl rfl) (sub_cons (Or.inr rfl) (sub_cons (Or.inr rfl) (sub_cons (Or.inr rfl) (sub_cons (Or.inr rfl) (sub_cons (Or.inr rfl) (sub_cons (Or.inr rfl) (sub_cons (Or.inr rfl) (sub_cons (Or.inl rfl) (sub_cons (Or.inr rfl) (sub_cons (Or.inr rfl) (sub_cons (Or.inr rfl) (sub_cons (Or.inr rfl) (sub_cons (Or.inr rfl) (sub_cons (Or.inr rfl) (sub_cons (Or.inr rfl) (sub_cons (Or.inl rfl) sub_nil))))))))))))))))))))))) ?_
                      exact ih_L451 (bb + 1) h2 (by omega) (by omega) (T2) (N2)
                    · skip
                      refine x_iload C dL_law_529 rfl ?_
                      refine x_aload_n C dL_law_531 rfl rfl ?_
                      refine x_iload C dL_law_532 rfl ?_
                      refine x_iload C dL_law_534 rfl ?_
                      refine x_iload C dL_law_536 rfl ?_
                      refine x_invV C s_Law_66 (st := [vi (hFin (fr ((qL Q P c).getD k 0)) a)]) (c_finger hj T2 hc hk (s := bb) (by omega)) (TabR.o T2).choose_spec rfl rfl (Nat.le_of_ble_eq_true rfl) (xRm_of hR (by omega) (by decide) (by omega) (by omega)) dL_law_538 (fun r9 h6 hq => ?_)
                      obtain ⟨rfl, T6, p6⟩ := hq
                      have N6 := N2.fr p6
                      refine x_icmp_ge C (tgt := 546) dL_law_541 (by decide) ⟨by omega, by omega⟩ ⟨by omega, by omega⟩ (fun c541 => ?_) (fun c541 => ?_)
                      · skip
                        refine x_iinc C (ls' := [some (.ref b), some (vi tm), some (.ref nk), some (.ref (ad 0)), some (vi sp), some (.long bf), none, some (vi ((P.m : Nat) : Int)), some (vi ((Q.n : Nat) : Int)), some (vi (qT Q P)), some (vi su), some (vi nn), some (vi (c : Int)), some (vi (((qL Q P c).length : Nat) : Int)), none, some (vi (k : Int)), some (vi mo), some (vi (b2i sm)), some (vi (a : Int)), some (vi (fr ((qL Q P c).getD k 0) a)), some (vi (hFin (fr ((qL Q P c).getD k 0)) a)), some (vi ((bb : Int) + 1)), some (vi (fr ((qL Q P c).getD k 0) bb))]) dL_law_546 rfl (by decide) (z1 := ((bb : Int) + 1)) rfl rfl ?_
                        refine x_goto C (tgt := 451) dL_law_549 (by decide) ?_
                        refine X.sub (ls' := [some (.ref b), some (vi tm), some (.ref nk), some (.ref (ad 0)), some (vi sp), some (.long bf), none, some (vi ((P.m : Nat) : Int)), some (vi ((Q.n : Nat) : Int)), some (vi (qT Q P)), some (vi su), some (vi nn), some (vi (c : Int)), some (vi (((qL Q P c).length : Nat) : Int)), none, some (vi (k : Int)), some (vi mo), some (vi (b2i sm)), some (vi (a : Int)), some (vi (fr ((qL Q P c).getD k 0) a)), some (vi (hFin (fr ((qL Q P c).getD k 0)) a)), some (vi ((bb : Int) + 1)), none]) (sub_cons (Or.inr rfl) (sub_cons (Or.inr rfl) (sub_cons (Or.inr rfl) (sub_cons (Or.inr rfl) (sub_cons (Or.inr rfl) (sub_cons (Or.inr rfl) (sub_cons (Or.inl rfl) (sub_cons (Or.inr rfl) (sub_cons (Or.inr rfl) (sub_cons (Or.inr rfl) (sub_cons (Or.inr rfl) (sub_cons (Or.inr rfl) (sub_cons (Or.inr rfl) (sub_cons (Or.inr rfl) (sub_cons (Or.inl rfl) (sub_cons (Or.inr rfl) (sub_cons (Or.inr rfl) (sub_cons (Or.inr rfl) (sub_cons (Or.inr rfl) (sub_cons (Or.inr rfl) (sub_cons (Or.inr rfl) (sub_cons (Or.inr rfl) (sub_cons (Or.inl rfl) sub_nil))))))))))))))))))))))) ?_
                        exact ih_L451 (bb + 1) h6 (by omega) (by omega) (T6) (N6)
                      · skip
                        exfalso; omega
            · skip
              refine x_iconst C dL_law_487 ?_
              refine x_goto C (tgt := 492) dL_law_488 (by decide) ?_
              refine x_iload C dL_law_492 rfl ?_
              refine x_aload_n C dL_law_494 rfl rfl ?_
              refine x_iload C dL_law_495 rfl ?_
              refine x_iload C dL_law_497 rfl ?_
              refine x_iload C dL_law_499 rfl ?_
              refine x_invV C s_Law_66 (st := [vi (hFin (fr ((qL Q P c).getD k 0)) a), vi 1]) (c_finger hj T1 hc hk (s := bb) (by omega)) (TabR.o T1).choose_spec rfl rfl (Nat.le_of_ble_eq_true rfl) (xRm_of hR (by omega) (by decide) (by omega) (by omega)) dL_law_501 (fun r9 h7 hq => ?_)
              obtain ⟨rfl, T7, p7⟩ := hq
              have N7 := N1.fr p7
              refine x_icmp_le C (tgt := 511) dL_law_504 (by decide) ⟨by omega, by omega⟩ ⟨by omega, by omega⟩ (fun c504 => ?_) (fun c504 => ?_)
              · skip
                refine x_iconst C dL_law_511 ?_
                refine x_icmp_eq C (tgt := 522) dL_law_512 (by decide) (by decide) (by decide) (fun c512 => ?_) (fun c512 => ?_)
                · skip
                  refine x_iload C dL_law_522 rfl ?_
                  refine x_iload C dL_law_524 rfl ?_
                  refine x_icmp_ne C (tgt := 546) dL_law_526 (by decide) ⟨by omega, by omega⟩ ⟨by omega, by omega⟩ (fun c526 => ?_) (fun c526 => ?_)
                  · skip
                    refine x_iinc C (ls' := [some (.ref b), some (vi tm), some (.ref nk), some (.ref (ad 0)), some (vi sp), some (.long bf), none, some (vi ((P.m : Nat) : Int)), some (vi ((Q.n : Nat) : Int)), some (vi (qT Q P)), some (vi su), some (vi nn), some (vi (c : Int)), some (vi (((qL Q P c).length : Nat) : Int)), none, some (vi (k : Int)), some (vi mo), some (vi (b2i sm)), some (vi (a : Int)), some (vi (fr ((qL Q P c).getD k 0) a)), some (vi (hFin (fr ((qL Q P c).getD k 0)) a)), some (vi ((bb : Int) + 1)), some (vi (fr ((qL Q P c).getD k 0) bb))]) dL_law_546 rfl (by decide) (z1 := ((bb : Int) + 1)) rfl rfl ?_
                    refine x_goto C (tgt := 451) dL_law_549 (by decide) ?_
                    refine X.sub (ls' := [some (.ref b), some (vi tm), some (.ref nk), some (.ref (ad 0)), some (vi sp), some (.long bf), none, some (vi ((P.m : Nat) : Int)), some (vi ((Q.n : Nat) : Int)), some (vi (qT Q P)), some (vi su), some (vi nn), some (vi (c : Int)), some (vi (((qL Q P c).length : Nat) : Int)), none, some (vi (k : Int)), some (vi mo), some (vi (b2i sm)), some (vi (a : Int)), some (vi (fr ((qL Q P c).getD k 0) a)), some (vi (hFin (fr ((qL Q P c).getD k 0)) a)), some (vi ((bb : Int) + 1)), none]) (sub_cons (Or.inr rfl) (sub_cons (Or.inr rfl) (sub_cons (Or.inr rfl) (sub_cons (Or.inr rfl) (sub_cons (Or.inr rfl) (sub_cons (Or.inr rfl) (sub_cons (Or.inl rfl) (sub_cons (Or.inr rfl) (sub_cons (Or.inr rfl) (sub_cons (Or.inr rfl) (sub_cons (Or.inr rfl) (sub_cons (Or.inr rfl) (sub_cons (Or.inr rfl) (sub_cons (Or.inr rfl) (sub_cons (Or.inl rfl) (sub_cons (Or.inr rfl) (sub_cons (Or.inr rfl) (sub_cons (Or.inr rfl) (sub_cons (Or.inr rfl) (sub_cons (Or.inr rfl) (sub_cons (Or.inr rfl) (sub_cons (Or.inr rfl) (sub_cons (Or.inl rfl) sub_nil))))))))))))))))))))))) ?_
                    exact ih_L451 (bb + 1) h7 (by omega) (by omega) (T7) (N7)
                  · skip
                    refine x_iload C dL_law_529 rfl ?_
                    refine x_aload_n C dL_law_531 rfl rfl ?_
                    refine x_iload C dL_law_532 rfl ?_
                    refine x_iload C dL_law_534 rfl ?_
                    refine x_iload C dL_law_536 rfl ?_
                    refine x_invV C s_Law_66 (st := [vi (hFin (fr ((qL Q P c).getD k 0)) a)]) (c_finger hj T7 hc hk (s := bb) (by omega)) (TabR.o T7).choose_spec rfl rfl (Nat.le_of_ble_eq_true rfl) (xRm_of hR (by omega) (by decide) (by omega) (by omega)) dL_law_538 (fun r9 h8 hq => ?_)
                    obtain ⟨rfl, T8, p8⟩ := hq
                    have N8 := N7.fr p8
                    refine x_icmp_ge C (tgt := 546) dL_law_541 (by decide) ⟨by omega, by omega⟩ ⟨by omega, by omega⟩ (fun c541 => ?_) (fun c541 => ?_)
                    · skip
                      refine x_iinc C (ls' := [some (.ref b), some (vi tm), some (.ref nk), some (.ref (ad 0)), some (vi sp), some (.long bf), none, some (vi ((P.m : Nat) : Int)), some (vi ((Q.n : Nat) : Int)), some (vi (qT Q P)), some (vi su), some (vi nn), some (vi (c : Int)), some (vi (((qL Q P c).length : Nat) : Int)), none, some (vi (k : Int)), some (vi mo), some (vi (b2i sm)), some (vi (a : Int)), some (vi (fr ((qL Q P c).getD k 0) a)), some (vi (hFin (fr ((qL Q P c).getD k 0)) a)), some (vi ((bb : Int) + 1)), some (vi (fr ((qL Q P c).getD k 0) bb))]) dL_law_546 rfl (by decide) (z1 := ((bb : Int) + 1)) rfl rfl ?_
                      refine x_goto C (tgt := 451) dL_law_549 (by decide) ?_
                      refine X.sub (ls' := [some (.ref b), some (vi tm), some (.ref nk), some (.ref (ad 0)), some (vi sp), some (.long bf), none, some (vi ((P.m : Nat) : Int)), some (vi ((Q.n : Nat) : Int)), some (vi (qT Q P)), some (vi su), some (vi nn), some (vi (c : Int)), some (vi (((qL Q P c).length : Nat) : Int)), none, some (vi (k : Int)), some (vi mo), some (vi (b2i sm)), some (vi (a : Int)), some (vi (fr ((qL Q P c).getD k 0) a)), some (vi (hFin (fr ((qL Q P c).getD k 0)) a)), some (vi ((bb : Int) + 1)), none]) (sub_cons (Or.inr rfl) (sub_cons (Or.inr rfl) (sub_cons (Or.inr rfl) (sub_cons (Or.inr rfl) (sub_cons (Or.inr rfl) (sub_cons (Or.inr rfl) (sub_cons (Or.inl rfl) (sub_cons (Or.inr rfl) (sub_cons (Or.inr rfl) (sub_cons (Or.inr rfl) (sub_cons (Or.inr rfl) (sub_cons (Or.inr rfl) (sub_cons (Or.inr rfl) (sub_cons (Or.inr rfl) (sub_cons (Or.inl rfl) (sub_cons (Or.inr rfl) (sub_cons (Or.inr rfl) (sub_cons (Or.inr rfl) (sub_cons (Or.inr rfl) (sub_cons (Or.inr rfl) (sub_cons (Or.inr rfl) (sub_cons (Or.inr rfl) (sub_cons (Or.inl rfl) sub_nil))))))))))))))))))))))) ?_
                      exact ih_L451 (bb + 1) h8 (by omega) (by omega) (T8) (N8)
                    · skip
                      exfalso; omega
                · skip
                  refine x_iload C dL_law_515 rfl ?_
                  refine x_iload C dL_law_517 rfl ?_
                  refine x_icmp_ne C (tgt := 544) dL_law_519 (by decide) ⟨by omega, by omega⟩ ⟨by omega, by omega⟩ (fun c519 => ?_) (fun c519 => ?_)
                  · skip
                    exfalso; omega
                  · skip
                    refine x_iload C dL_law_522 rfl ?_
                    refine x_iload C dL_law_524 rfl ?_
                    refine x_icmp_ne C (tgt := 546) dL_law_526 (by decide) ⟨by omega, by omega⟩ ⟨by omega, by omega⟩ (fun c526 => ?_) (fun c526 => ?_)
                    · skip
                      refine x_iinc C (ls' := [some (.ref b), some (vi tm), some (.ref nk), some (.ref (ad 0)), some (vi sp), some (.long bf), none, some (vi ((P.m : Nat) : Int)), some (vi ((Q.n : Nat) : Int)), some (vi (qT Q P)), some (vi su), some (vi nn), some (vi (c : Int)), some (vi (((qL Q P c).length : Nat) : Int)), none, some (vi (k : Int)), some (vi mo), some (vi (b2i sm)), some (vi (a : Int)), some (vi (fr ((qL Q P c).getD k 0) a)), some (vi (hFin (fr ((qL Q P c).getD k 0)) a)), some (vi ((bb : Int) + 1)), some (vi (fr ((qL Q P c).getD k 0) bb))]) dL_law_546 rfl (by decide) (z1 := ((bb : Int) + 1)) rfl rfl ?_
                      refine x_goto C (tgt := 451) dL_law_549 (by decide) ?_
                      refine X.sub (ls' := [some (.ref b), some (vi tm), some (.ref nk), some (.ref (ad 0)), some (vi sp), some (.long bf), none, some (vi ((P.m : Nat) : Int)), some (vi ((Q.n : Nat) : Int)), some (vi (qT Q P)), some (vi su), some (vi nn), some (vi (c : Int)), some (vi (((qL Q P c).length : Nat) : Int)), none, some (vi (k : Int)), some (vi mo), some (vi (b2i sm)), some (vi (a : Int)), some (vi (fr ((qL Q P c).getD k 0) a)), some (vi (hFin (fr ((qL Q P c).getD k 0)) a)), some (vi ((bb : Int) + 1)), none]) (sub_cons (Or.inr rfl) (sub_cons (Or.inr rfl) (sub_cons (Or.inr rfl) (sub_cons (Or.inr rfl) (sub_cons (Or.inr rfl) (sub_cons (Or.inr rfl) (sub_cons (Or.inl rfl) (sub_cons (Or.inr rfl) (sub_cons (Or.inr rfl) (sub_cons (Or.inr rfl) (sub_cons (Or.inr rfl) (sub_cons (Or.inr rfl) (sub_cons (Or.inr rfl) (sub_cons (Or.inr rfl) (sub_cons (Or.inl rfl) (sub_cons (Or.inr rfl) (sub_cons (Or.inr rfl) (sub_cons (Or.inr rfl) (sub_cons (Or.inr rfl) (sub_cons (Or.inr rfl) (sub_cons (Or.inr rfl) (sub_cons (Or.inr rfl) (sub_cons (Or.inl rfl) sub_nil))))))))))))))))))))))) ?_
                      exact ih_L451 (bb + 1) h7 (by omega) (by omega) (T7) (N7)
                    · skip
                      refine x_iload C dL_law_529 rfl ?_
                      refine x_aload_n C dL_law_531 rfl rfl ?_
                      refine x_iload C dL_law_532 rfl ?_
                      refine x_iload C dL_law_534 rfl ?_
                      refine x_iload C dL_law_536 rfl ?_
                      refine x_invV C s_Law_66 (st := [vi (hFin (fr ((qL Q P c).getD k 0)) a)]) (c_finger hj T7 hc hk (s := bb) (by omega)) (TabR.o T7).choose_spec rfl rfl (Nat.le_of_ble_eq_true rfl) (xRm_of hR (by omega) (by decide) (by omega) (by omega)) dL_law_538 (fun r9 h9 hq => ?_)
                      obtain ⟨rfl, T9, p9⟩ := hq
                      have N9 := N7.fr p9
                      refine x_icmp_ge C (tgt := 546) dL_law_541 (by decide) ⟨by omega, by omega⟩ ⟨by omega, by omega⟩ (fun c541 => ?_) (fun c541 => ?_)
                      · skip
                        refine x_iinc C (ls' := [some (.ref b), some (vi tm), some (.ref nk), some (.ref (ad 0)), some (vi sp), some (.long bf), none, some (vi ((P.m : Nat) : Int)), some (vi ((Q.n : Nat) : Int)), some (vi (qT Q P)), some (vi su), some (vi nn), some (vi (c : Int)), some (vi (((qL Q P c).length : Nat) : Int)), none, some (vi (k : Int)), some (vi mo), some (vi (b2i sm)), some (vi (a : Int)), some (vi (fr ((qL Q P c).getD k 0) a)), some (vi (hFin (fr ((qL Q P c).getD k 0)) a)), some (vi ((bb : Int) + 1)), some (vi (fr ((qL Q P c).getD k 0) bb))]) dL_law_546 rfl (by decide) (z1 := ((bb : Int) + 1)) rfl rfl ?_
                        refine x_goto C (tgt := 451) dL_law_549 (by decide) ?_
                        refine X.sub (ls' := [some (.ref b), some (vi tm), some (.ref nk), some (.ref (ad 0)), some (vi sp), some (.long bf), none, some (vi ((P.m : Nat) : Int)), some (vi ((Q.n : Nat) : Int)), some (vi (qT Q P)), some (vi su), some (vi nn), some (vi (c : Int)), some (vi (((qL Q P c).length : Nat) : Int)), none, some (vi (k : Int)), some (vi mo), some (vi (b2i sm)), some (vi (a : Int)), some (vi (fr ((qL Q P c).getD k 0) a)), some (vi (hFin (fr ((qL Q P c).getD k 0)) a)), some (vi ((bb : Int) + 1)), none]) (sub_cons (Or.inr rfl) (sub_cons (Or.inr rfl) (sub_cons (Or.inr rfl) (sub_cons (Or.inr rfl) (sub_cons (Or.inr rfl) (sub_cons (Or.inr rfl) (sub_cons (Or.inl rfl) (sub_cons (Or.inr rfl) (sub_cons (Or.inr rfl) (sub_cons (Or.inr rfl) (sub_cons (Or.inr rfl) (sub_cons (Or.inr rfl) (sub_cons (Or.inr rfl) (sub_cons (Or.inr rfl) (sub_cons (Or.inl rfl) (sub_cons (Or.inr rfl) (sub_cons (Or.inr rfl) (sub_cons (Or.inr rfl) (sub_cons (Or.inr rfl) (sub_cons (Or.inr rfl) (sub_cons (Or.inr rfl) (sub_cons (Or.inr rfl) (sub_cons (Or.inl rfl) sub_nil))))))))))))))))))))))) ?_
                        exact ih_L451 (bb + 1) h9 (by omega) (by omega) (T9) (N9)
                      · skip
                        exfalso; omega
              · skip
                refine x_iconst C dL_law_507 ?_
                refine x_goto C (tgt := 512) dL_law_508 (by decide) ?_
                refine x_icmp_eq C (tgt := 522) dL_law_512 (by decide) (by decide) (by decide) (fun c512 => ?_) (fun c512 => ?_)
                · skip
                  refine x_iload C dL_law_522 rfl ?_
                  refine x_iload C dL_law_524 rfl ?_
                  refine x_icmp_ne C (tgt := 546) dL_law_526 (by decide) ⟨by omega, by omega⟩ ⟨by omega, by omega⟩ (fun c526 => ?_) (fun c526 => ?_)
                  · skip
                    refine x_iinc C (ls' := [some (.ref b), some (vi tm), some (.ref nk), some (.ref (ad 0)), some (vi sp), some (.long bf), none, some (vi ((P.m : Nat) : Int)), some (vi ((Q.n : Nat) : Int)), some (vi (qT Q P)), some (vi su), some (vi nn), some (vi (c : Int)), some (vi (((qL Q P c).length : Nat) : Int)), none, some (vi (k : Int)), some (vi mo), some (vi (b2i sm)), some (vi (a : Int)), some (vi (fr ((qL Q P c).getD k 0) a)), some (vi (hFin (fr ((qL Q P c).getD k 0)) a)), some (vi ((bb : Int) + 1)), some (vi (fr ((qL Q P c).getD k 0) bb))]) dL_law_546 rfl (by decide) (z1 := ((bb : Int) + 1)) rfl rfl ?_
                    refine x_goto C (tgt := 451) dL_law_549 (by decide) ?_
                    refine X.sub (ls' := [some (.ref b), some (vi tm), some (.ref nk), some (.ref (ad 0)), some (vi sp), some (.long bf), none, some (vi ((P.m : Nat) : Int)), some (vi ((Q.n : Nat) : Int)), some (vi (qT Q P)), some (vi su), some (vi nn), some (vi (c : Int)), some (vi (((qL Q P c).length : Nat) : Int)), none, some (vi (k : Int)), some (vi mo), some (vi (b2i sm)), some (vi (a : Int)), some (vi (fr ((qL Q P c).getD k 0) a)), some (vi (hFin (fr ((qL Q P c).getD k 0)) a)), some (vi ((bb : Int) + 1)), none]) (sub_cons (Or.inr rfl) (sub_cons (Or.inr rfl) (sub_cons (Or.inr rfl) (sub_cons (Or.inr rfl) (sub_cons (Or.inr rfl) (sub_cons (Or.inr rfl) (sub_cons (Or.inl rfl) (sub_cons (Or.inr rfl) (sub_cons (Or.inr rfl) (sub_cons (Or.inr rfl) (sub_cons (Or.inr rfl) (sub_cons (Or.inr rfl) (sub_cons (Or.inr rfl) (sub_cons (Or.inr rfl) (sub_cons (Or.inl rfl) (sub_cons (Or.inr rfl) (sub_cons (Or.inr rfl) (sub_cons (Or.inr rfl) (sub_cons (Or.inr rfl) (sub_cons (Or.inr rfl) (sub_cons (Or.inr rfl) (sub_cons (Or.inr rfl) (sub_cons (Or.inl rfl) sub_nil))))))))))))))))))))))) ?_
                    exact ih_L451 (bb + 1) h7 (by omega) (by omega) (T7) (N7)
                  · skip
                    refine x_iload C dL_law_529 rfl ?_
                    refine x_aload_n C dL_law_531 rfl rfl ?_
                    refine x_iload C dL_law_532 rfl ?_
                    refine x_iload C dL_law_534 rfl ?_
                    refine x_iload C dL_law_536 rfl ?_
                    refine x_invV C s_Law_66 (st := [vi (hFin (fr ((qL Q P c).getD k 0)) a)]) (c_finger hj T7 hc hk (s := bb) (by omega)) (TabR.o T7).choose_spec rfl rfl (Nat.le_of_ble_eq_true rfl) (xRm_of hR (by omega) (by decide) (by omega) (by omega)) dL_law_538 (fun r9 h10 hq => ?_)
                    obtain ⟨rfl, T10, p10⟩ := hq
                    have N10 := N7.fr p10
                    refine x_icmp_ge C (tgt := 546) dL_law_541 (by decide) ⟨by omega, by omega⟩ ⟨by omega, by omega⟩ (fun c541 => ?_) (fun c541 => ?_)
                    · skip
                      refine x_iinc C (ls' := [some (.ref b), some (vi tm), some (.ref nk), some (.ref (ad 0)), some (vi sp), some (.long bf), none, some (vi ((P.m : Nat) : Int)), some (vi ((Q.n : Nat) : Int)), some (vi (qT Q P)), some (vi su), some (vi nn), some (vi (c : Int)), some (vi (((qL Q P c).length : Nat) : Int)), none, some (vi (k : Int)), some (vi mo), some (vi (b2i sm)), some (vi (a : Int)), some (vi (fr ((qL Q P c).getD k 0) a)), some (vi (hFin (fr ((qL Q P c).getD k 0)) a)), some (vi ((bb : Int) + 1)), some (vi (fr ((qL Q P c).getD k 0) bb))]) dL_law_546 rfl (by decide) (z1 := ((bb : Int) + 1)) rfl rfl ?_
                      refine x_goto C (tgt := 451) dL_law_549 (by decide) ?_
                      refine X.sub (ls' := [some (.ref b), some (vi tm), some (.ref nk), some (.ref (ad 0)), some (vi sp), some (.long bf), none, some (vi ((P.m : Nat) : Int)), some (vi ((Q.n : Nat) : Int)), some (vi (qT Q P)), some (vi su), some (vi nn), some (vi (c : Int)), some (vi (((qL Q P c).length : Nat) : Int)), none, some (vi (k : Int)), some (vi mo), some (vi (b2i sm)), some (vi (a : Int)), some (vi (fr ((qL Q P c).getD k 0) a)), some (vi (hFin (fr ((qL Q P c).getD k 0)) a)), some (vi ((bb : Int) + 1)), none]) (sub_cons (Or.inr rfl) (sub_cons (Or.inr rfl) (sub_cons (Or.inr rfl) (sub_cons (Or.inr rfl) (sub_cons (Or.inr rfl) (sub_cons (Or.inr rfl) (sub_cons (Or.inl rfl) (sub_cons (Or.inr rfl) (sub_cons (Or.inr rfl) (sub_cons (Or.inr rfl) (sub_cons (Or.inr rfl) (sub_cons (Or.inr rfl) (sub_cons (Or.inr rfl) (sub_cons (Or.inr rfl) (sub_cons (Or.inl rfl) (sub_cons (Or.inr rfl) (sub_cons (Or.inr rfl) (sub_cons (Or.inr rfl) (sub_cons (Or.inr rfl) (sub_cons (Or.inr rfl) (sub_cons (Or.inr rfl) (sub_cons (Or.inr rfl) (sub_cons (Or.inl rfl) sub_nil))))))))))))))))))))))) ?_
                      exact ih_L451 (bb + 1) h10 (by omega) (by omega) (T10) (N10)
                    · skip
                      exfalso; omega
                · skip
                  refine x_iload C dL_law_515 rfl ?_
                  refine x_iload C dL_law_517 rfl ?_
                  refine x_icmp_ne C (tgt := 544) dL_law_519 (by decide) ⟨by omega, by omega⟩ ⟨by omega, by omega⟩ (fun c519 => ?_) (fun c519 => ?_)
                  · skip
                    exfalso; omega
                  · skip
                    refine x_iload C dL_law_522 rfl ?_
                    refine x_iload C dL_law_524 rfl ?_
                    refine x_icmp_ne C (tgt := 546) dL_law_526 (by decide) ⟨by omega, by omega⟩ ⟨by omega, by omega⟩ (fun c526 => ?_) (fun c526 => ?_)
                    · skip
                      refine x_iinc C (ls' := [some (.ref b), some (vi tm), some (.ref nk), some (.ref (ad 0)), some (vi sp), some (.long bf), none, some (vi ((P.m : Nat) : Int)), some (vi ((Q.n : Nat) : Int)), some (vi (qT Q P)), some (vi su), some (vi nn), some (vi (c : Int)), some (vi (((qL Q P c).length : Nat) : Int)), none, some (vi (k : Int)), some (vi mo), some (vi (b2i sm)), some (vi (a : Int)), some (vi (fr ((qL Q P c).getD k 0) a)), some (vi (hFin (fr ((qL Q P c).getD k 0)) a)), some (vi ((bb : Int) + 1)), some (vi (fr ((qL Q P c).getD k 0) bb))]) dL_law_546 rfl (by decide) (z1 := ((bb : Int) + 1)) rfl rfl ?_
                      refine x_goto C (tgt := 451) dL_law_549 (by decide) ?_
                      refine X.sub (ls' := [some (.ref b), some (vi tm), some (.ref nk), some (.ref (ad 0)), some (vi sp), some (.long bf), none, some (vi ((P.m : Nat) : Int)), some (vi ((Q.n : Nat) : Int)), some (vi (qT Q P)), some (vi su), some (vi nn), some (vi (c : Int)), some (vi (((qL Q P c).length : Nat) : Int)), none, some (vi (k : Int)), some (vi mo), some (vi (b2i sm)), some (vi (a : Int)), some (vi (fr ((qL Q P c).getD k 0) a)), some (vi (hFin (fr ((qL Q P c).getD k 0)) a)), some (vi ((bb : Int) + 1)), none]) (sub_cons (Or.inr rfl) (sub_cons (Or.inr rfl) (sub_cons (Or.inr rfl) (sub_cons (Or.inr rfl) (sub_cons (Or.inr rfl) (sub_cons (Or.inr rfl) (sub_cons (Or.inl rfl) (sub_cons (Or.inr rfl) (sub_cons (Or.inr rfl) (sub_cons (Or.inr rfl) (sub_cons (Or.inr rfl) (sub_cons (Or.inr rfl) (sub_cons (Or.inr rfl) (sub_cons (Or.inr rfl) (sub_cons (Or.inl rfl) (sub_cons (Or.inr rfl) (sub_cons (Or.inr rfl) (sub_cons (Or.inr rfl) (sub_cons (Or.inr rfl) (sub_cons (Or.inr rfl) (sub_cons (Or.inr rfl) (sub_cons (Or.inr rfl) (sub_cons (Or.inl rfl) sub_nil))))))))))))))))))))))) ?_
                      exact ih_L451 (bb + 1) h7 (by omega) (by omega) (T7) (N7)
                    · skip
                      refine x_iload C dL_law_529 rfl ?_
                      refine x_aload_n C dL_law_531 rfl rfl ?_
                      refine x_iload C dL_law_532 rfl ?_
                      refine x_iload C dL_law_534 rfl ?_
                      refine x_iload C dL_law_536 rfl ?_
                      refine x_invV C s_Law_66 (st := [vi (hFin (fr ((qL Q P c).getD k 0)) a)]) (c_finger hj T7 hc hk (s := bb) (by omega)) (TabR.o T7).choose_spec rfl rfl (Nat.le_of_ble_eq_true rfl) (xRm_of hR (by omega) (by decide) (by omega) (by omega)) dL_law_538 (fun r9 h11 hq => ?_)
                      obtain ⟨rfl, T11, p11⟩ := hq
                      have N11 := N7.fr p11
                      refine x_icmp_ge C (tgt := 546) dL_law_541 (by decide) ⟨by omega, by omega⟩ ⟨by omega, by omega⟩ (fun c541 => ?_) (fun c541 => ?_)
                      · skip
                        refine x_iinc C (ls' := [some (.ref b), some (vi tm), some (.ref nk), some (.ref (ad 0)), some (vi sp), some (.long bf), none, some (vi ((P.m : Nat) : Int)), some (vi ((Q.n : Nat) : Int)), some (vi (qT Q P)), some (vi su), some (vi nn), some (vi (c : Int)), some (vi (((qL Q P c).length : Nat) : Int)), none, some (vi (k : Int)), some (vi mo), some (vi (b2i sm)), some (vi (a : Int)), some (vi (fr ((qL Q P c).getD k 0) a)), some (vi (hFin (fr ((qL Q P c).getD k 0)) a)), some (vi ((bb : Int) + 1)), some (vi (fr ((qL Q P c).getD k 0) bb))]) dL_law_546 rfl (by decide) (z1 := ((bb : Int) + 1)) rfl rfl ?_
                        refine x_goto C (tgt := 451) dL_law_549 (by decide) ?_
                        refine X.sub (ls' := [some (.ref b), some (vi tm), some (.ref nk), some (.ref (ad 0)), some (vi sp), some (.long bf), none, some (vi ((P.m : Nat) : Int)), some (vi ((Q.n : Nat) : Int)), some (vi (qT Q P)), some (vi su), some (vi nn), some (vi (c : Int)), some (vi (((qL Q P c).length : Nat) : Int)), none, some (vi (k : Int)), some (vi mo), some (vi (b2i sm)), some (vi (a : Int)), some (vi (fr ((qL Q P c).getD k 0) a)), some (vi (hFin (fr ((qL Q P c).getD k 0)) a)), some (vi ((bb : Int) + 1)), none]) (sub_cons (Or.inr rfl) (sub_cons (Or.inr rfl) (sub_cons (Or.inr rfl) (sub_cons (Or.inr rfl) (sub_cons (Or.inr rfl) (sub_cons (Or.inr rfl) (sub_cons (Or.inl rfl) (sub_cons (Or.inr rfl) (sub_cons (Or.inr rfl) (sub_cons (Or.inr rfl) (sub_cons (Or.inr rfl) (sub_cons (Or.inr rfl) (sub_cons (Or.inr rfl) (sub_cons (Or.inr rfl) (sub_cons (Or.inl rfl) (sub_cons (Or.inr rfl) (sub_cons (Or.inr rfl) (sub_cons (Or.inr rfl) (sub_cons (Or.inr rfl) (sub_cons (Or.inr rfl) (sub_cons (Or.inr rfl) (sub_cons (Or.inr rfl) (sub_cons (Or.inl rfl) sub_nil))))))))))))))))))))))) ?_
                        exact ih_L451 (bb + 1) h11 (by omega) (by omega) (T11) (N11)
                      · skip
                        exfalso; omega
  exact L451 _ 0 h (Nat.lt_succ_self _) (Nat.zero_le _) (T) (N)

set_option maxRecDepth 100000 in
set_option maxHeartbeats 4000000 in
theorem law_a {G : xG} {K : xK} {ad : Nat → Nat} {nk b sl mc ms cells slots : Nat} {Q : Ins} {P : Pie} {d : Int} {tm sp : Int} {bf : Int64} {c k : Nat} {su nn : Int} (C : xC G K "TablatureLaw" code 23) (hR : xGe K 60 mc ms) (hj : ∀ i j, i < 300 → j < 300 → ad i = ad j → i = j) (hcl : cells ≤ mc) (hsl : slots ≤ ms) (hc : c < P.m) (hk : k < (qL Q P c).length) (kk : ∀ (h' : PH) (sm : Bool), (sm = true ↔ (k + 1 < (qL Q P c).length ∧ ∀ j, j < Q.n → fr ((qL Q P c).getD (k + 1) 0) j = fr ((qL Q P c).getD k 0) j)) → TabR G h' ad true Q P → NkR G h' ad nk b sl d Q P → X G K 23 558 [some (.ref b), some (vi tm), some (.ref nk), some (.ref (ad 0)), some (vi sp), some (.long bf), none, some (vi ((P.m : Nat) : Int)), some (vi ((Q.n : Nat) : Int)), some (vi (qT Q P)), some (vi su), some (vi nn), some (vi (c : Int)), some (vi (((qL Q P c).length : Nat) : Int)), none, some (vi (k : Int)), some (vi (mxF (hFin (fr ((qL Q P c).getD k 0))) Q.n)), some (vi (b2i sm)), none, none, none, none, none] [] h' cells slots)  : ∀ (h : PH) (sm0 : Bool), (sm0 = true ↔ k + 1 < (qL Q P c).length) → TabR G h ad true Q P → NkR G h ad nk b sl d Q P → X G K 23 306 [some (.ref b), some (vi tm), some (.ref nk), some (.ref (ad 0)), some (vi sp), some (.long bf), none, some (vi ((P.m : Nat) : Int)), some (vi ((Q.n : Nat) : Int)), some (vi (qT Q P)), some (vi su), some (vi nn), some (vi (c : Int)), some (vi (((qL Q P c).length : Nat) : Int)), none, some (vi (k : Int)), some (vi 0), some (vi (b2i sm0)), none, none, none, none, none] [] h cells slots := by
  intro h sm0 hs T N
  obtain ⟨IV1, CV1⟩ := T.iv
  have PV1 := N.d0.2.2
  have hl30 := qL_len IV1 CV1 PV1 hc
  have IVn := IV1.1
  obtain ⟨ivc1, ivc2⟩ := IV1.2.2.1
  refine x_iconst C dL_law_306 ?_
  refine x_istore C (ls' := [some (.ref b), some (vi tm), some (.ref nk), some (.ref (ad 0)), some (vi sp), some (.long bf), none, some (vi ((P.m : Nat) : Int)), some (vi ((Q.n : Nat) : Int)), some (vi (qT Q P)), some (vi su), some (vi nn), some (vi (c : Int)), some (vi (((qL Q P c).length : Nat) : Int)), none, some (vi (k : Int)), some (vi 0), some (vi (b2i sm0)), some (vi 0), none, none, none, none]) dL_law_307 (by decide) rfl ?_
  have L309 : ∀ (n0 : Nat) (a : Nat) (sm : Bool) (hp : PH), Q.n - a < n0 → (a ≤ Q.n) → (sm = true ↔ (k + 1 < (qL Q P c).length ∧ ∀ j, j < a → fr ((qL Q P c).getD (k + 1) 0) j = fr ((qL Q P c).getD k 0) j)) → (TabR G hp ad true Q P) → (NkR G hp ad nk b sl d Q P) → X G K 23 309 [some (.ref b), some (vi tm), some (.ref nk), some (.ref (ad 0)), some (vi sp), some (.long bf), none, some (vi ((P.m : Nat) : Int)), some (vi ((Q.n : Nat) : Int)), some (vi (qT Q P)), some (vi su), some (vi nn), some (vi (c : Int)), some (vi (((qL Q P c).length : Nat) : Int)), none, some (vi (k : Int)), some (vi (mxF (hFin (fr ((qL Q P c).getD k 0))) a)), some (vi (b2i sm)), some (vi (a : Int)), none, none, none, none] [] hp cells slots := by
    intro n0
    induction n0 with
    | zero => intro a sm hp hm; exact absurd hm (Nat.not_lt_zero _)
    | succ n0 ih_L309 =>
      intro a sm hp hm i1 i2 Tp Np
      refine x_iload C dL_law_309 rfl ?_
      refine x_iload C dL_law_311 rfl ?_
      refine x_icmp_ge C (tgt := 558) dL_law_313 (by decide) ⟨by omega, by omega⟩ ⟨by omega, by omega⟩ (fun c313 => ?_) (fun c313 => ?_)
      · skip
        have haq : Q.n = a := by omega
        rw [← haq]
        refine X.sub (ls' := [some (.ref b), some (vi tm), some (.ref nk), some (.ref (ad 0)), some (vi sp), some (.long bf), none, some (vi ((P.m : Nat) : Int)), some (vi ((Q.n : Nat) : Int)), some (vi (qT Q P)), some (vi su), some (vi nn), some (vi (c : Int)), some (vi (((qL Q P c).length : Nat) : Int)), none, some (vi (k : Int)), some (vi (mxF (hFin (fr ((qL Q P c).getD k 0))) Q.n)), some (vi (b2i sm)), none, none, none, none, none]) (sub_cons (Or.inr rfl) (sub_cons (Or.inr rfl) (sub_cons (Or.inr rfl) (sub_cons (Or.inr rfl) (sub_cons (Or.inr rfl) (sub_cons (Or.inr rfl) (sub_cons (Or.inl rfl) (sub_cons (Or.inr rfl) (sub_cons (Or.inr rfl) (sub_cons (Or.inr rfl) (sub_cons (Or.inr rfl) (sub_cons (Or.inr rfl) (sub_cons (Or.inr rfl) (sub_cons (Or.inr rfl) (sub_cons (Or.inl rfl) (sub_cons (Or.inr rfl) (sub_cons (Or.inr rfl) (sub_cons (Or.inr rfl) (sub_cons (Or.inl rfl) (sub_cons (Or.inl rfl) (sub_cons (Or.inl rfl) (sub_cons (Or.inl rfl) (sub_cons (Or.inl rfl) sub_nil))))))))))))))))))))))) ?_
        exact kk hp sm (by rw [haq]; exact i2) (Tp) (Np)
      · skip
        have hg := qL_get IV1 CV1 PV1 hc hk
        have fa1 := fr_bd ((qL Q P c).getD k 0) a
        have fa2 := hFin_rg (fr ((qL Q P c).getD k 0)) a
        have fa3 := mxF_rg (f := hFin (fr ((qL Q P c).getD k 0))) a (fun j _ => (hFin_rg _ j).2)
        refine x_aload_n C dL_law_316 rfl rfl ?_
        refine x_iload C dL_law_317 rfl ?_
        refine x_iload C dL_law_319 rfl ?_
        refine x_iload C dL_law_321 rfl ?_
        refine x_invV C s_Law_63 (st := []) (c_fret hj Tp hc hk (s := a) (by omega)) (TabR.o Tp).choose_spec rfl rfl (Nat.le_of_ble_eq_true rfl) (xRm_of hR (by omega) (by decide) (by omega) (by omega)) dL_law_323 (fun r9 h12 hq => ?_)
        obtain ⟨rfl, T12, p12⟩ := hq
        have N12 := Np.fr p12
        refine x_istore C (ls' := [some (.ref b), some (vi tm), some (.ref nk), some (.ref (ad 0)), some (vi sp), some (.long bf), none, some (vi ((P.m : Nat) : Int)), some (vi ((Q.n : Nat) : Int)), some (vi (qT Q P)), some (vi su), some (vi nn), some (vi (c : Int)), some (vi (((qL Q P c).length : Nat) : Int)), none, some (vi (k : Int)), some (vi (mxF (hFin (fr ((qL Q P c).getD k 0))) a)), some (vi (b2i sm)), some (vi (a : Int)), some (vi (fr ((qL Q P c).getD k 0) a)), none, none, none]) dL_law_326 (by decide) rfl ?_
        refine x_aload_n C dL_law_328 rfl rfl ?_
        refine x_iload C dL_law_329 rfl ?_
        refine x_iload C dL_law_331 rfl ?_
        refine x_iload C dL_law_333 rfl ?_
        refine x_invV C s_Law_66 (st := []) (c_finger hj T12 hc hk (s := a) (by omega)) (TabR.o T12).choose_spec rfl rfl (Nat.le_of_ble_eq_true rfl) (xRm_of hR (by omega) (by decide) (by omega) (by omega)) dL_law_335 (fun r9 h13 hq => ?_)
        obtain ⟨rfl, T13, p13⟩ := hq
        have N13 := N12.fr p13
        refine x_istore C (ls' := [some (.ref b), some (vi tm), some (.ref nk), some (.ref (ad 0)), some (vi sp), some (.long bf), none, some (vi ((P.m : Nat) : Int)), some (vi ((Q.n : Nat) : Int)), some (vi (qT Q P)), some (vi su), some (vi nn), some (vi (c : Int)), some (vi (((qL Q P c).length : Nat) : Int)), none, some (vi (k : Int)), some (vi (mxF (hFin (fr ((qL Q P c).getD k 0))) a)), some (vi (b2i sm)), some (vi (a : Int)), some (vi (fr ((qL Q P c).getD k 0) a)), some (vi (hFin (fr ((qL Q P c).getD k 0)) a)), none, none]) dL_law_338 (by decide) rfl ?_
        refine x_iload C dL_law_340 rfl ?_
        refine x_iload C dL_law_342 rfl ?_
        refine x_max C s_Law_69 static_Math_max i_Math code_Math_max ⟨by omega, by omega⟩ ⟨by omega, by omega⟩ (Nat.le_of_ble_eq_true rfl) hR (by omega) (by omega) (by omega) dL_law_344 ?_
        refine x_re (b := (mxF (hFin (fr ((qL Q P c).getD k 0))) (a + 1))) (rfl) ?_
        refine x_istore C (ls' := [some (.ref b), some (vi tm), some (.ref nk), some (.ref (ad 0)), some (vi sp), some (.long bf), none, some (vi ((P.m : Nat) : Int)), some (vi ((Q.n : Nat) : Int)), some (vi (qT Q P)), some (vi su), some (vi nn), some (vi (c : Int)), some (vi (((qL Q P c).length : Nat) : Int)), none, some (vi (k : Int)), some (vi (mxF (hFin (fr ((qL Q P c).getD k 0))) (a + 1))), some (vi (b2i sm)), some (vi (a : Int)), some (vi (fr ((qL Q P c).getD k 0) a)), some (vi (hFin (fr ((qL Q P c).getD k 0)) a)), none, none]) dL_law_347 (by decide) rfl ?_
        have L385 : ∀ (sm : Bool) (hq : PH), (sm = true ↔ (k + 1 < (qL Q P c).length ∧ ∀ j, j < (a + 1) → fr ((qL Q P c).getD (k + 1) 0) j = fr ((qL Q P c).getD k 0) j)) → (TabR G hq ad true Q P) → (NkR G hq ad nk b sl d Q P) → X G K 23 385 [some (.ref b), some (vi tm), some (.ref nk), some (.ref (ad 0)), some (vi sp), some (.long bf), none, some (vi ((P.m : Nat) : Int)), some (vi ((Q.n : Nat) : Int)), some (vi (qT Q P)), some (vi su), some (vi nn), some (vi (c : Int)), some (vi (((qL Q P c).length : Nat) : Int)), none, some (vi (k : Int)), some (vi (mxF (hFin (fr ((qL Q P c).getD k 0))) (a + 1))), some (vi (b2i sm)), some (vi (a : Int)), some (vi (fr ((qL Q P c).getD k 0) a)), some (vi (hFin (fr ((qL Q P c).getD k 0)) a)), none, none] [] hq cells slots := by
          intro sm hq iq Tq Nq
          have ga : (fr ((qL Q P c).getD k 0) a) = -1 ∨ 0 ≤ (fr ((qL Q P c).getD k 0) a) ∧ (fr ((qL Q P c).getD k 0) a) ≤ 12 - Q.cp := by rcases hg.2.1 a (by omega) with w | w; exact Or.inl w; exact Or.inr ⟨w.2.2.1, w.2.2.2⟩
          have gs : Q.sl a = true → (fr ((qL Q P c).getD k 0) a) = -1 := fun q => by rcases hg.2.1 a (by omega) with w | w; exact w; exact absurd (w.2.1.symm.trans q) (by decide)
          have gl : 0 < (fr ((qL Q P c).getD k 0) a) → hLow (fr ((qL Q P c).getD k 0)) ≤ (fr ((qL Q P c).getD k 0) a) ∧ (fr ((qL Q P c).getD k 0) a) ≤ hHigh (fr ((qL Q P c).getD k 0)) := fun q => (hLow_in (by omega) q).2
          have gh := hHigh_0 (fr ((qL Q P c).getD k 0))
          obtain ⟨oa, ca, la, fa, fo, ln2, hN, hO, hS, -⟩ := id Nq
          have hlr := hLow_rg (f := fun j => if j < 6 then fr ((qL Q P c).getD k 0) j else -1) (fun j => by split; (rcases hg.2.1 j (by assumption) with w | w <;> omega); omega)
          have hhr := hHigh_rg (f := fun j => if j < 6 then fr ((qL Q P c).getD k 0) j else -1) (fun j => by split; (rcases hg.2.1 j (by assumption) with w | w <;> omega); omega)
          have hcg := h_cong (f := fun j => if j < 6 then fr ((qL Q P c).getD k 0) j else -1) (g := fr ((qL Q P c).getD k 0)) (fun j hj => if_pos hj)
          have hc2 := hcg.2.1
          have hc3 := hcg.2.2.1
          refine x_aload_n C dL_law_385 rfl rfl ?_
          refine x_get C f_Law_74 hN rfl dL_law_386 ?_
          refine x_iload C dL_law_389 rfl ?_
          refine x_zald C hS ⟨by omega, by omega, by omega⟩ (v := (Q.sl a)) rfl dL_law_391 ?_
          refine x_ifeqB C (tgt := 400) dL_law_392 (by decide) (fun c392 => ?_) (fun c392 => ?_)
          · skip
            refine x_iload C dL_law_400 rfl ?_
            refine x_bipush C (z := 12) dL_law_402 (by decide) ?_
            refine x_aload_n C dL_law_404 rfl rfl ?_
            refine x_iconst C dL_law_405 ?_
            refine x_invV C s_Law_42 (st := [vi 12, vi (fr ((qL Q P c).getD k 0) a)]) (c_many2 hj Tq) (TabR.o Tq).choose_spec rfl rfl (Nat.le_of_ble_eq_true rfl) (xRm_of hR (by omega) (by decide) (by omega) (by omega)) dL_law_406 (fun r9 h14 hq => ?_)
            obtain ⟨rfl, T14, p14⟩ := hq
            have N14 := Nq.fr p14
            refine x_isub C dL_law_409 ?_
            refine x_icmp_gt C (tgt := 446) dL_law_410 (by decide) ⟨by omega, by omega⟩ ⟨by omega, by omega⟩ (fun c410 => ?_) (fun c410 => ?_)
            · skip
              exfalso; omega
            · skip
              refine x_iload C dL_law_413 rfl ?_
              refine x_aload_n C dL_law_415 rfl rfl ?_
              refine x_iload C dL_law_416 rfl ?_
              refine x_iload C dL_law_418 rfl ?_
              refine x_iconst C dL_law_420 ?_
              refine x_invV C s_Law_56 (st := [vi (fr ((qL Q P c).getD k 0) a)]) (c_ofGrip2 hj T14 hc hk) (TabR.o T14).choose_spec rfl rfl (Nat.le_of_ble_eq_true rfl) (xRm_of hR (by omega) (by decide) (by omega) (by omega)) dL_law_421 (fun r9 h15 hq => ?_)
              obtain ⟨rfl, T15, p15⟩ := hq
              have N15 := N14.fr p15
              refine x_icmp_gt C (tgt := 446) dL_law_424 (by decide) ⟨by omega, by omega⟩ ⟨by omega, by omega⟩ (fun c424 => ?_) (fun c424 => ?_)
              · skip
                exfalso; omega
              · skip
                refine x_iload C dL_law_427 rfl ?_
                refine x_if_le C (tgt := 448) dL_law_429 (by decide) ⟨by omega, by omega⟩ (fun c429 => ?_) (fun c429 => ?_)
                · skip
                  refine law_b C hR hj hcl hsl hc hk (by omega) IVn (fun h16 T16 N16 => ?_) _ T15 N15
                  refine x_iinc C (ls' := [some (.ref b), some (vi tm), some (.ref nk), some (.ref (ad 0)), some (vi sp), some (.long bf), none, some (vi ((P.m : Nat) : Int)), some (vi ((Q.n : Nat) : Int)), some (vi (qT Q P)), some (vi su), some (vi nn), some (vi (c : Int)), some (vi (((qL Q P c).length : Nat) : Int)), none, some (vi (k : Int)), some (vi (mxF (hFin (fr ((qL Q P c).getD k 0))) (a + 1))), some (vi (b2i sm)), some (vi ((a : Int) + 1)), none, none, none, none]) dL_law_552 rfl (by decide) (z1 := ((a : Int) + 1)) rfl rfl ?_
                  refine x_goto C (tgt := 309) dL_law_555 (by decide) ?_
                  exact ih_L309 (a + 1) sm h16 (by omega) (by omega) (iq) (T16) (N16)
                · skip
                  refine x_iload C dL_law_432 rfl ?_
                  refine x_aload_n C dL_law_434 rfl rfl ?_
                  refine x_iload C dL_law_435 rfl ?_
                  refine x_iload C dL_law_437 rfl ?_
                  refine x_iconst C dL_law_439 ?_
                  refine x_invV C s_Law_56 (st := [vi (fr ((qL Q P c).getD k 0) a)]) (c_ofGrip1 hj T15 hc hk) (TabR.o T15).choose_spec rfl rfl (Nat.le_of_ble_eq_true rfl) (xRm_of hR (by omega) (by decide) (by omega) (by omega)) dL_law_440 (fun r9 h17 hq => ?_)
                  obtain ⟨rfl, T17, p17⟩ := hq
                  have N17 := N15.fr p17
                  refine x_icmp_ge C (tgt := 448) dL_law_443 (by decide) ⟨by omega, by omega⟩ ⟨by omega, by omega⟩ (fun c443 => ?_) (fun c443 => ?_)
                  · skip
                    refine law_b C hR hj hcl hsl hc hk (by omega) IVn (fun h18 T18 N18 => ?_) _ T17 N17
                    refine x_iinc C (ls' := [some (.ref b), some (vi tm), some (.ref nk), some (.ref (ad 0)), some (vi sp), some (.long bf), none, some (vi ((P.m : Nat) : Int)), some (vi ((Q.n : Nat) : Int)), some (vi (qT Q P)), some (vi su), some (vi nn), some (vi (c : Int)), some (vi (((qL Q P c).length : Nat) : Int)), none, some (vi (k : Int)), some (vi (mxF (hFin (fr ((qL Q P c).getD k 0))) (a + 1))), some (vi (b2i sm)), some (vi ((a : Int) + 1)), none, none, none, none]) dL_law_552 rfl (by decide) (z1 := ((a : Int) + 1)) rfl rfl ?_
                    refine x_goto C (tgt := 309) dL_law_555 (by decide) ?_
                    exact ih_L309 (a + 1) sm h18 (by omega) (by omega) (iq) (T18) (N18)
                  · skip
                    exfalso; omega
          · skip
            have gs1 := gs c392
            refine x_iload C dL_law_395 rfl ?_
            refine x_if_ge C (tgt := 446) dL_law_397 (by decide) ⟨by omega, by omega⟩ (fun c397 => ?_) (fun c397 => ?_)
            · skip
              exfalso; omega
            · skip
              refine x_iload C dL_law_400 rfl ?_
              refine x_bipush C (z := 12) dL_law_402 (by decide) ?_
              refine x_aload_n C dL_law_404 rfl rfl ?_
              refine x_iconst C dL_law_405 ?_
              refine x_invV C s_Law_42 (st := [vi 12, vi (fr ((qL Q P c).getD k 0) a)]) (c_many2 hj Tq) (TabR.o Tq).choose_spec rfl rfl (Nat.le_of_ble_eq_true rfl) (xRm_of hR (by omega) (by decide) (by omega) (by omega)) dL_law_406 (fun r9 h19 hq => ?_)
              obtain ⟨rfl, T19, p19⟩ := hq
              have N19 := Nq.fr p19
              refine x_isub C dL_law_409 ?_
              refine x_icmp_gt C (tgt := 446) dL_law_410 (by decide) ⟨by omega, by omega⟩ ⟨by omega, by omega⟩ (fun c410 => ?_) (fun c410 => ?_)
              · skip
                exfalso; omega
              · skip
                refine x_iload C dL_law_413 rfl ?_
                refine x_aload_n C dL_law_415 rfl rfl ?_
                refine x_iload C dL_law_416 rfl ?_
                refine x_iload C dL_law_418 rfl ?_
                refine x_iconst C dL_law_420 ?_
                refine x_invV C s_Law_56 (st := [vi (fr ((qL Q P c).getD k 0) a)]) (c_ofGrip2 hj T19 hc hk) (TabR.o T19).choose_spec rfl rfl (Nat.le_of_ble_eq_true rfl) (xRm_of hR (by omega) (by decide) (by omega) (by omega)) dL_law_421 (fun r9 h20 hq => ?_)
                obtain ⟨rfl, T20, p20⟩ := hq
                have N20 := N19.fr p20
                refine x_icmp_gt C (tgt := 446) dL_law_424 (by decide) ⟨by omega, by omega⟩ ⟨by omega, by omega⟩ (fun c424 => ?_) (fun c424 => ?_)
                · skip
                  exfalso; omega
                · skip
                  refine x_iload C dL_law_427 rfl ?_
                  refine x_if_le C (tgt := 448) dL_law_429 (by decide) ⟨by omega, by omega⟩ (fun c429 => ?_) (fun c429 => ?_)
                  · skip
                    refine law_b C hR hj hcl hsl hc hk (by omega) IVn (fun h21 T21 N21 => ?_) _ T20 N20
                    refine x_iinc C (ls' := [some (.ref b), some (vi tm), some (.ref nk), some (.ref (ad 0)), some (vi sp), some (.long bf), none, some (vi ((P.m : Nat) : Int)), some (vi ((Q.n : Nat) : Int)), some (vi (qT Q P)), some (vi su), some (vi nn), some (vi (c : Int)), some (vi (((qL Q P c).length : Nat) : Int)), none, some (vi (k : Int)), some (vi (mxF (hFin (fr ((qL Q P c).getD k 0))) (a + 1))), some (vi (b2i sm)), some (vi ((a : Int) + 1)), none, none, none, none]) dL_law_552 rfl (by decide) (z1 := ((a : Int) + 1)) rfl rfl ?_
                    refine x_goto C (tgt := 309) dL_law_555 (by decide) ?_
                    exact ih_L309 (a + 1) sm h21 (by omega) (by omega) (iq) (T21) (N21)
                  · skip
                    refine x_iload C dL_law_432 rfl ?_
                    refine x_aload_n C dL_law_434 rfl rfl ?_
                    refine x_iload C dL_law_435 rfl ?_
                    refine x_iload C dL_law_437 rfl ?_
                    refine x_iconst C dL_law_439 ?_
                    refine x_invV C s_Law_56 (st := [vi (fr ((qL Q P c).getD k 0) a)]) (c_ofGrip1 hj T20 hc hk) (TabR.o T20).choose_spec rfl rfl (Nat.le_of_ble_eq_true rfl) (xRm_of hR (by omega) (by decide) (by omega) (by omega)) dL_law_440 (fun r9 h22 hq => ?_)
                    obtain ⟨rfl, T22, p22⟩ := hq
                    have N22 := N20.fr p22
                    refine x_icmp_ge C (tgt := 448) dL_law_443 (by decide) ⟨by omega, by omega⟩ ⟨by omega, by omega⟩ (fun c443 => ?_) (fun c443 => ?_)
                    · skip
                      refine law_b C hR hj hcl hsl hc hk (by omega) IVn (fun h23 T23 N23 => ?_) _ T22 N22
                      refine x_iinc C (ls' := [some (.ref b), some (vi tm), some (.ref nk), some (.ref (ad 0)), some (vi sp), some (.long bf), none, some (vi ((P.m : Nat) : Int)), some (vi ((Q.n : Nat) : Int)), some (vi (qT Q P)), some (vi su), some (vi nn), some (vi (c : Int)), some (vi (((qL Q P c).length : Nat) : Int)), none, some (vi (k : Int)), some (vi (mxF (hFin (fr ((qL Q P c).getD k 0))) (a + 1))), some (vi (b2i sm)), some (vi ((a : Int) + 1)), none, none, none, none]) dL_law_552 rfl (by decide) (z1 := ((a : Int) + 1)) rfl rfl ?_
                      refine x_goto C (tgt := 309) dL_law_555 (by decide) ?_
                      exact ih_L309 (a + 1) sm h23 (by omega) (by omega) (iq) (T23) (N23)
                    · skip
                      exfalso; omega
        have fa4 := fr_bd ((qL Q P c).getD (k + 1) 0) a
        refine x_iload C dL_law_349 rfl ?_
        refine x_iload C dL_law_351 rfl ?_
        refine x_iconst C dL_law_353 ?_
        refine x_iadd C dL_law_354 ?_
        refine x_iload C dL_law_355 rfl ?_
        refine x_icmp_ge C (tgt := 381) dL_law_357 (by decide) ⟨by omega, by omega⟩ ⟨by omega, by omega⟩ (fun c357 => ?_) (fun c357 => ?_)
        · skip
          refine x_iconst C dL_law_381 ?_
          refine x_iand C (c := (b2i false)) dL_law_382 (b_and0 sm) ?_
          refine x_istore C (ls' := [some (.ref b), some (vi tm), some (.ref nk), some (.ref (ad 0)), some (vi sp), some (.long bf), none, some (vi ((P.m : Nat) : Int)), some (vi ((Q.n : Nat) : Int)), some (vi (qT Q P)), some (vi su), some (vi nn), some (vi (c : Int)), some (vi (((qL Q P c).length : Nat) : Int)), none, some (vi (k : Int)), some (vi (mxF (hFin (fr ((qL Q P c).getD k 0))) (a + 1))), some (vi (b2i false)), some (vi (a : Int)), some (vi (fr ((qL Q P c).getD k 0) a)), some (vi (hFin (fr ((qL Q P c).getD k 0)) a)), none, none]) dL_law_383 (by decide) rfl ?_
          exact L385 false h13 (⟨fun q => absurd q (by decide), fun q => by have := q.1; omega⟩) (T13) (N13)
        · skip
          refine x_aload_n C dL_law_360 rfl rfl ?_
          refine x_iload C dL_law_361 rfl ?_
          refine x_iload C dL_law_363 rfl ?_
          refine x_iconst C dL_law_365 ?_
          refine x_iadd C dL_law_366 ?_
          refine x_iload C dL_law_367 rfl ?_
          refine x_invV C s_Law_63 (st := [vi (b2i sm)]) (c_fret hj T13 hc (g := k + 1) (by omega) (s := a) (by omega)) (TabR.o T13).choose_spec rfl rfl (Nat.le_of_ble_eq_true rfl) (xRm_of hR (by omega) (by decide) (by omega) (by omega)) dL_law_369 (fun r9 h24 hq => ?_)
          obtain ⟨rfl, T24, p24⟩ := hq
          have N24 := N13.fr p24
          refine x_iload C dL_law_372 rfl ?_
          refine x_icmp_ne C (tgt := 381) dL_law_374 (by decide) ⟨by omega, by omega⟩ ⟨by omega, by omega⟩ (fun c374 => ?_) (fun c374 => ?_)
          · skip
            refine x_iconst C dL_law_381 ?_
            refine x_iand C (c := (b2i false)) dL_law_382 (b_and0 sm) ?_
            refine x_istore C (ls' := [some (.ref b), some (vi tm), some (.ref nk), some (.ref (ad 0)), some (vi sp), some (.long bf), none, some (vi ((P.m : Nat) : Int)), some (vi ((Q.n : Nat) : Int)), some (vi (qT Q P)), some (vi su), some (vi nn), some (vi (c : Int)), some (vi (((qL Q P c).length : Nat) : Int)), none, some (vi (k : Int)), some (vi (mxF (hFin (fr ((qL Q P c).getD k 0))) (a + 1))), some (vi (b2i false)), some (vi (a : Int)), some (vi (fr ((qL Q P c).getD k 0) a)), some (vi (hFin (fr ((qL Q P c).getD k 0)) a)), none, none]) dL_law_383 (by decide) rfl ?_
            exact L385 false h24 (⟨fun q => absurd q (by decide), fun q => absurd (q.2 a (Nat.lt_succ_self a)) c374⟩) (T24) (N24)
          · skip
            refine x_iconst C dL_law_377 ?_
            refine x_goto C (tgt := 382) dL_law_378 (by decide) ?_
            refine x_iand C (c := (b2i sm)) dL_law_382 (b_and1 sm) ?_
            refine x_istore C (ls' := [some (.ref b), some (vi tm), some (.ref nk), some (.ref (ad 0)), some (vi sp), some (.long bf), none, some (vi ((P.m : Nat) : Int)), some (vi ((Q.n : Nat) : Int)), some (vi (qT Q P)), some (vi su), some (vi nn), some (vi (c : Int)), some (vi (((qL Q P c).length : Nat) : Int)), none, some (vi (k : Int)), some (vi (mxF (hFin (fr ((qL Q P c).getD k 0))) (a + 1))), some (vi (b2i sm)), some (vi (a : Int)), some (vi (fr ((qL Q P c).getD k 0) a)), some (vi (hFin (fr ((qL Q P c).getD k 0)) a)), none, none]) dL_law_383 (by decide) rfl ?_
            exact L385 sm h24 (⟨fun q => ⟨(i2.mp q).1, fun j hj => by by_cases w : j = a; rw [w]; exact c374; exact (i2.mp q).2 j (by omega)⟩, fun q => i2.mpr ⟨q.1, fun j hj => q.2 j (by omega)⟩⟩) (T24) (N24)
  exact L309 _ 0 sm0 h (Nat.lt_succ_self _) (Nat.zero_le _) (⟨fun q => ⟨hs.mp q, fun j hj => absurd hj (Nat.not_lt_zero _)⟩, fun q => hs.mpr q.1⟩) (T) (N)
