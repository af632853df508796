/-! The digest. -/
theorem foldR {α : Type} {f : α → Nat → α} {d q : α} {k : Nat} (h : q = (List.range k).foldl f d) : f q k = (List.range (k + 1)).foldl f d := by
  rw [List.range_succ, List.foldl_append, ← h]; rfl
theorem fold0 {α : Type} {f : α → Nat → α} {d q : α} (h : q = d) : q = (List.range 0).foldl f d := by
  subst h; simp
def dmx (d : Int64) (v : Int) : Int64 := d * 31 + (I v).toInt64
def dGr (n cd : Nat) (d : Int64) : Int64 := (List.range n).foldl (fun d s => dmx (dmx d (fr cd s)) (hFin (fr cd) s)) ((List.range 6).foldl (fun d (w : Nat) => dmx d (aH (fr cd) (w : Int))) d)
def dCh (Q : Ins) (P : Pie) (d : Int64) (c : Nat) : Int64 :=
  if 0 ≤ qC Q P c ∧ qC Q P c < (((qL Q P c).length : Nat) : Int) then dGr Q.n ((qL Q P c).getD (qC Q P c).toNat 0) (dmx ((List.range 6).foldl (fun d (w : Nat) => dmx d (aC Q P c (w : Int))) d) (qC Q P c)) else dmx ((List.range 6).foldl (fun d (w : Nat) => dmx d (aC Q P c (w : Int))) d) (qC Q P c)
def dAll (Q : Ins) (P : Pie) : Int64 :=
  dmx (dmx ((List.range Q.n).foldl (fun d s => dmx d (qT (Q.n, Q.op, va_up Q.sl s true, Q.cp, Q.rc) P)) (dmx (dmx (dmx ((List.range P.m).foldl (dCh Q P) ((List.range 8).foldl (fun d (w : Nat) => dmx d (aW Q P (w : Int))) 58104)) (qT Q P)) (qHd Q P)) (bC Q P 8).1)) (shA Q.n Q.op Q.sl Q.cp Q.rc 145 0 1).1) (shA Q.n Q.op Q.sl Q.cp Q.rc 145 0 1).2.1

set_option maxRecDepth 100000 in
set_option maxHeartbeats 4000000 in
theorem c_mixGrip {G : xG} {h : PH} {ad : Nat → Nat} (hj : ∀ i j, i < 300 → j < 300 → ad i = ad j → i = j) {fq : Bool} {Q : Ins} {P : Pie} (T : TabR G h ad fq Q P) {d : Int64} {cd : Nat} (hcd : cd < 16777216) : Cn G m_Tab_mixGrip 4 0 0 [.ref (ad 0), .long d, vi (cd : Int)] h (fun r h' => r = some (.long (dGr Q.n cd d)) ∧ TabR G h' ad fq Q P ∧ frO ad h h') := by
  refine Cn_of (by decide) (Nat.le_of_ble_eq_true rfl) (fun K C hR E => ?_)
  obtain ⟨st, hst, h0, hPA, hPF⟩ := id T.1
  have IV1 := T.2.2.2.2.2.2.2.1
  have CV1 := T.2.2.2.2.2.2.2.2
  have IVn := IV1.1
  have CVm := CV1.1
  obtain ⟨lo, hi, so, pr, pl, sk, ba, g0, hU, hW⟩ := id T.2.2.2.2.1
  show X G K 7 0 [some (.ref (ad 0)), some (.long d), none, some (vi (cd : Int)), none, none, none] [] h 0 0
  refine x_lload_n C dX8_mixGrip_0 rfl rfl ?_
  refine x_lstore C (ls' := [some (.ref (ad 0)), some (.long d), none, some (vi (cd : Int)), some (.long d), none, none]) dX8_mixGrip_1 (by decide) rfl ?_
  refine x_aload_n C dX8_mixGrip_3 rfl rfl ?_
  refine x_get C f_Tab_46 h0 rfl dX8_mixGrip_4 ?_
  refine x_iload_n C dX8_mixGrip_7 rfl rfl ?_
  refine x_invV C s_Tab_174 (st := []) (c_hold (c := cd) (by omega) hU hW (adne hj (by omega) (by omega) (by omega))) hU rfl rfl (Nat.le_of_ble_eq_true rfl) (xRm_of hR (by omega) (by decide) (by omega) (by omega)) dX8_mixGrip_8 (fun r9 h9 hq => ?_)
  obtain ⟨rfl, e9⟩ := hq
  have e9 := e9.symm
  subst e9
  have T2 : TabR G (va_up (va_up h (ad 12) (xO 2 [vi (hLow (fr cd)), vi (hHigh (fr cd)), vi (hSnd (fr cd)), vi (b2i (hBar (fr cd))), .ref (ad 13), vi (hPr (fr cd)), vi (hPal (fr cd)), vi (hSkp (fr cd))])) (ad 13) (xI G 6 (fr cd))) ad fq Q P := TabR.small (h1 := (va_up (va_up h (ad 12) (xO 2 [vi (hLow (fr cd)), vi (hHigh (fr cd)), vi (hSnd (fr cd)), vi (b2i (hBar (fr cd))), .ref (ad 13), vi (hPr (fr cd)), vi (hPal (fr cd)), vi (hSkp (fr cd))])) (ad 13) (xI G 6 (fr cd)))) T (HH.of ((up_n (adne hj (by omega) (by omega) (by omega))).trans up_s) up_s) (T.2.2.2.2.2.2.1.kept (fun i hi => ((up_n (adne hj (by omega) (by omega) (by omega))).trans ((up_n (adne hj (by omega) (by omega) (by omega))).trans rfl)))) (fun i ho n0 => ((up_n (adne hj (by omega) (own_lt ho) (by omega))).trans ((up_n (adne hj (by omega) (own_lt ho) (by omega))).trans rfl)))
  refine x_iconst C dX8_mixGrip_11 ?_
  refine x_istore C (ls' := [some (.ref (ad 0)), some (.long d), none, some (vi (cd : Int)), some (.long d), none, some (vi 0)]) dX8_mixGrip_12 (by decide) rfl ?_
  have L14 : ∀ (n0 : Nat) (k : Nat) (q : Int64), 6 - k < n0 → (k ≤ 6) → (q = (List.range k).foldl (fun d (w : Nat) => dmx d (aH (fr cd) (w : Int))) d) → X G K 7 14 [some (.ref (ad 0)), some (.long d), none, some (vi (cd : Int)), some (.long q), none, some (vi (k : Int))] [] (va_up (va_up h (ad 12) (xO 2 [vi (hLow (fr cd)), vi (hHigh (fr cd)), vi (hSnd (fr cd)), vi (b2i (hBar (fr cd))), .ref (ad 13), vi (hPr (fr cd)), vi (hPal (fr cd)), vi (hSkp (fr cd))])) (ad 13) (xI G 6 (fr cd))) 0 0 := by
    intro n0
    induction n0 with
    | zero => intro k q hm; exact absurd hm (Nat.not_lt_zero _)
    | succ n0 ih_L14 =>
      intro k q hm i1 i2
      refine x_iload C dX8_mixGrip_14 rfl ?_
      refine x_iconst C dX8_mixGrip_16 ?_
      refine x_icmp_gt C (tgt := 39) dX8_mixGrip_17 (by decide) ⟨by omega, by omega⟩ (by decide) (fun c17 => ?_) (fun c17 => ?_)
      · skip
        refine x_iconst C dX8_mixGrip_39 ?_
        refine x_istore C (ls' := [some (.ref (ad 0)), some (.long d), none, some (vi (cd : Int)), some (.long q), none, some (vi 0)]) dX8_mixGrip_40 (by decide) rfl ?_
        have L42 : ∀ (n0 : Nat) (k : Nat) (q : Int64), Q.n - k < n0 → (k ≤ Q.n) → (q = (List.range k).foldl (fun d s => dmx (dmx d (fr cd s)) (hFin (fr cd) s)) ((List.range 6).foldl (fun d (w : Nat) => dmx d (aH (fr cd) (w : Int))) d)) → X G K 7 42 [some (.ref (ad 0)), some (.long d), none, some (vi (cd : Int)), some (.long q), none, some (vi (k : Int))] [] (va_up (va_up h (ad 12) (xO 2 [vi (hLow (fr cd)), vi (hHigh (fr cd)), vi (hSnd (fr cd)), vi (b2i (hBar (fr cd))), .ref (ad 13), vi (hPr (fr cd)), vi (hPal (fr cd)), vi (hSkp (fr cd))])) (ad 13) (xI G 6 (fr cd))) 0 0 := by
          intro n0
          induction n0 with
          | zero => intro k q hm; exact absurd hm (Nat.not_lt_zero _)
          | succ n0 ih_L42 =>
            intro k q hm i1 i2
            refine x_iload C dX8_mixGrip_42 rfl ?_
            refine x_aload_n C dX8_mixGrip_44 rfl rfl ?_
            refine x_get C f_Tab_10 ((up_n (adne hj (by omega) (by omega) (by omega))).trans ((up_n (adne hj (by omega) (by omega) (by omega))).trans h0)) rfl dX8_mixGrip_45 ?_
            refine x_get C f_Tab_58 ((up_n (adne hj (by omega) (by omega) (by omega))).trans ((up_n (adne hj (by omega) (by omega) (by omega))).trans T.2.1.1)) rfl dX8_mixGrip_48 ?_
            refine x_icmp_ge C (tgt := 89) dX8_mixGrip_51 (by decide) ⟨by omega, by omega⟩ ⟨by omega, by omega⟩ (fun c51 => ?_) (fun c51 => ?_)
            · skip
              refine x_lload C dX8_mixGrip_89 rfl ?_
              have e0 : k = Q.n := by omega
              have e8 : dGr Q.n cd d = q := by unfold dGr; rw [i2, e0]
              exact x_lret C E rfl (by omega) (by omega) dX8_mixGrip_91 (⟨by rw [e8], T2, (frO.up (frO.up (frO.refl ad h) (i := 12) (by unfold own; omega) _) (i := 13) (by unfold own; omega) _)⟩)
            · skip
              refine x_lload C dX8_mixGrip_54 rfl ?_
              refine x_iload_n C dX8_mixGrip_56 rfl rfl ?_
              refine x_iload C dX8_mixGrip_57 rfl ?_
              refine x_invS C s_Tab_180 (st := [.long q]) (c_fretAt (c := cd) (by omega) (s := k) (by omega)) rfl rfl (Nat.le_of_ble_eq_true rfl) (xRm_of hR (by omega) (by decide) (by omega) (by omega)) dX8_mixGrip_59 (fun r9 h9 hq => ?_)
              obtain ⟨rfl, e9⟩ := hq
              have e9 := e9.symm
              subst e9
              refine x_invS C s_Tab_241 (st := []) (c_mix (d := q) (v := (fr cd k))) rfl rfl (Nat.le_of_ble_eq_true rfl) (xRm_of hR (by omega) (by decide) (by omega) (by omega)) dX8_mixGrip_62 (fun r9 h9 hq => ?_)
              obtain ⟨rfl, e9⟩ := hq
              have e9 := e9.symm
              subst e9
              refine x_lstore C (ls' := [some (.ref (ad 0)), some (.long d), none, some (vi (cd : Int)), some (.long (dmx q (fr cd k))), none, some (vi (k : Int))]) dX8_mixGrip_65 (by decide) rfl ?_
              refine x_lload C dX8_mixGrip_67 rfl ?_
              refine x_aload_n C dX8_mixGrip_69 rfl rfl ?_
              refine x_get C f_Tab_46 ((up_n (adne hj (by omega) (by omega) (by omega))).trans ((up_n (adne hj (by omega) (by omega) (by omega))).trans h0)) rfl dX8_mixGrip_70 ?_
              refine x_iload C dX8_mixGrip_73 rfl ?_
              refine x_invV C s_Tab_185 (st := [.long (dmx q (fr cd k))]) (c_fingerOn (s := k) (by omega) ((up_n (adne hj (by omega) (by omega) (by omega))).trans up_s) (fr_fbd _) up_s) ((up_n (adne hj (by omega) (by omega) (by omega))).trans up_s) rfl rfl (Nat.le_of_ble_eq_true rfl) (xRm_of hR (by omega) (by decide) (by omega) (by omega)) dX8_mixGrip_75 (fun r9 h9 hq => ?_)
              obtain ⟨rfl, e9⟩ := hq
              have e9 := e9.symm
              subst e9
              refine x_invS C s_Tab_241 (st := []) (c_mix (d := (dmx q (fr cd k))) (v := (hFin (fr cd) k))) rfl rfl (Nat.le_of_ble_eq_true rfl) (xRm_of hR (by omega) (by decide) (by omega) (by omega)) dX8_mixGrip_78 (fun r9 h9 hq => ?_)
              obtain ⟨rfl, e9⟩ := hq
              have e9 := e9.symm
              subst e9
              refine x_lstore C (ls' := [some (.ref (ad 0)), some (.long d), none, some (vi (cd : Int)), some (.long (dmx (dmx q (fr cd k)) (hFin (fr cd) k))), none, some (vi (k : Int))]) dX8_mixGrip_81 (by decide) rfl ?_
              refine x_iinc C (ls' := [some (.ref (ad 0)), some (.long d), none, some (vi (cd : Int)), some (.long (dmx (dmx q (fr cd k)) (hFin (fr cd) k))), none, some (vi ((k : Int) + 1))]) dX8_mixGrip_83 rfl (by decide) (z1 := ((k : Int) + 1)) rfl rfl ?_
              refine x_goto C (tgt := 42) dX8_mixGrip_86 (by decide) ?_
              exact ih_L42 (k + 1) (dmx (dmx q (fr cd k)) (hFin (fr cd) k)) (by omega) (by omega) (foldR i2)
        exact L42 _ 0 q (Nat.lt_succ_self _) (Nat.zero_le _) (fold0 (by rw [i2, show k = 6 by omega]))
      · skip
        refine x_lload C dX8_mixGrip_20 rfl ?_
        refine x_aload_n C dX8_mixGrip_22 rfl rfl ?_
        refine x_iload C dX8_mixGrip_23 rfl ?_
        refine x_invV C s_Tab_177 (st := [.long q]) (c_askHand hj T2 (f := (fr cd)) ((up_n (adne hj (by omega) (by omega) (by omega))).trans up_s) (fr_fbd _) (w := (k : Int)) ⟨by omega, by omega⟩) ((up_n (adne hj (by omega) (by omega) (by omega))).trans ((up_n (adne hj (by omega) (by omega) (by omega))).trans h0)) rfl rfl (Nat.le_of_ble_eq_true rfl) (xRm_of hR (by omega) (by decide) (by omega) (by omega)) dX8_mixGrip_25 (fun r9 h9 hq => ?_)
        obtain ⟨rfl, e9⟩ := hq
        have e9 := e9.symm
        subst e9
        refine x_invS C s_Tab_241 (st := []) (c_mix (d := q) (v := (aH (fr cd) (k : Int)))) rfl rfl (Nat.le_of_ble_eq_true rfl) (xRm_of hR (by omega) (by decide) (by omega) (by omega)) dX8_mixGrip_28 (fun r9 h9 hq => ?_)
        obtain ⟨rfl, e9⟩ := hq
        have e9 := e9.symm
        subst e9
        refine x_lstore C (ls' := [some (.ref (ad 0)), some (.long d), none, some (vi (cd : Int)), some (.long (dmx q (aH (fr cd) (k : Int)))), none, some (vi (k : Int))]) dX8_mixGrip_31 (by decide) rfl ?_
        refine x_iinc C (ls' := [some (.ref (ad 0)), some (.long d), none, some (vi (cd : Int)), some (.long (dmx q (aH (fr cd) (k : Int)))), none, some (vi ((k : Int) + 1))]) dX8_mixGrip_33 rfl (by decide) (z1 := ((k : Int) + 1)) rfl rfl ?_
        refine x_goto C (tgt := 14) dX8_mixGrip_36 (by decide) ?_
        exact ih_L14 (k + 1) (dmx q (aH (fr cd) (k : Int))) (by omega) (by omega) (foldR i2)
  exact L14 _ 0 d (Nat.lt_succ_self _) (Nat.zero_le _) (fold0 rfl)

set_option maxRecDepth 100000 in
set_option maxHeartbeats 4000000 in
theorem c_mixChord {G : xG} {h : PH} {ad : Nat → Nat} (hj : ∀ i j, i < 300 → j < 300 → ad i = ad j → i = j) {Q : Ins} {P : Pie} (T : TabR G h ad true Q P) {d : Int64} {c : Nat} (hc : c < P.m) : Cn G m_Tab_mixChord 5 0 0 [.ref (ad 0), .long d, vi (c : Int)] h (fun r h' => r = some (.long (dCh Q P d c)) ∧ TabR G h' ad true Q P ∧ frO ad h h') := by
  refine Cn_of (by decide) (Nat.le_of_ble_eq_true rfl) (fun K C hR E => ?_)
  obtain ⟨h0, Ls, fx, ln, ch, rs, PQ, VQ, AQ⟩ := T.plR
  have IV1 := T.2.2.2.2.2.2.2.1
  have CV1 := T.2.2.2.2.2.2.2.2
  have IVn := IV1.1
  have CVm := CV1.1
  have hlc := ((AQ c hc).1.1).symm
  have hl30 := LT_len Q.n Q.op Q.sl Q.cp Q.rc P.si P.pt c
  have hl32 : (qL Q P c).length ≤ 30 := hl30
  have hl31 : (Ls c).length ≤ 30 := by rw [← hlc]; exact hl30
  show X G K 7 0 [some (.ref (ad 0)), some (.long d), none, some (vi (c : Int)), none, none, none] [] h 0 0
  refine x_lload_n C dX8_mixChord_0 rfl rfl ?_
  refine x_lstore C (ls' := [some (.ref (ad 0)), some (.long d), none, some (vi (c : Int)), some (.long d), none, none]) dX8_mixChord_1 (by decide) rfl ?_
  refine x_iconst C dX8_mixChord_3 ?_
  refine x_istore C (ls' := [some (.ref (ad 0)), some (.long d), none, some (vi (c : Int)), some (.long d), none, some (vi 0)]) dX8_mixChord_4 (by decide) rfl ?_
  have L6 : ∀ (n0 : Nat) (k : Nat) (q : Int64), 6 - k < n0 → (k ≤ 6) → (q = (List.range k).foldl (fun d (w : Nat) => dmx d (aC Q P c (w : Int))) d) → X G K 7 6 [some (.ref (ad 0)), some (.long d), none, some (vi (c : Int)), some (.long q), none, some (vi (k : Int))] [] h 0 0 := by
    intro n0
    induction n0 with
    | zero => intro k q hm; exact absurd hm (Nat.not_lt_zero _)
    | succ n0 ih_L6 =>
      intro k q hm i1 i2
      refine x_iload C dX8_mixChord_6 rfl ?_
      refine x_iconst C dX8_mixChord_8 ?_
      refine x_icmp_gt C (tgt := 32) dX8_mixChord_9 (by decide) ⟨by omega, by omega⟩ (by decide) (fun c9 => ?_) (fun c9 => ?_)
      · skip
        have e6 : k = 6 := by omega
        have hq6 : q = ((List.range 6).foldl (fun d (w : Nat) => dmx d (aC Q P c (w : Int))) d) := by rw [i2, e6]
        refine x_aload_n C dX8_mixChord_32 rfl rfl ?_
        refine x_get C f_Tab_29 h0 rfl dX8_mixChord_33 ?_
        refine x_get C f_Tab_192 PQ.1 rfl dX8_mixChord_36 ?_
        refine x_iload_n C dX8_mixChord_39 rfl rfl ?_
        refine x_iald C PQ.2.2.2.1 ⟨by omega, by omega, by omega⟩ (v := (ch c)) rfl dX8_mixChord_40 ?_
        refine x_re (b := (qC Q P c)) ((AQ c hc).2.2) ?_
        refine x_istore C (ls' := [some (.ref (ad 0)), some (.long d), none, some (vi (c : Int)), some (.long q), none, some (vi (qC Q P c))]) dX8_mixChord_41 (by decide) rfl ?_
        refine x_lload C dX8_mixChord_43 rfl ?_
        refine x_iload C dX8_mixChord_45 rfl ?_
        refine x_invS C s_Tab_241 (st := []) (c_mix (d := q) (v := (qC Q P c))) rfl rfl (Nat.le_of_ble_eq_true rfl) (xRm_of hR (by omega) (by decide) (by omega) (by omega)) dX8_mixChord_47 (fun r9 h9 hq => ?_)
        obtain ⟨rfl, e9⟩ := hq
        have e9 := e9.symm
        subst e9
        refine x_lstore C (ls' := [some (.ref (ad 0)), some (.long d), none, some (vi (c : Int)), some (.long (dmx q (qC Q P c))), none, some (vi (qC Q P c))]) dX8_mixChord_50 (by decide) rfl ?_
        refine x_aload_n C dX8_mixChord_52 rfl rfl ?_
        refine x_get C f_Tab_29 h0 rfl dX8_mixChord_53 ?_
        refine x_get C f_Tab_254 PQ.1 rfl dX8_mixChord_56 ?_
        refine x_iload_n C dX8_mixChord_59 rfl rfl ?_
        refine x_aald C (t := 5) rfl rfl PQ.2.1 ⟨by omega, by omega, by omega⟩ (b := (ad (100 + 8 + c))) rfl dX8_mixChord_60 ?_
        refine x_iload C dX8_mixChord_61 rfl ?_
        refine x_invV C s_Tab_258 (st := []) (c_Grips_has (PQ.2.2.2.2.2.2.2.1 c (by omega)).obj hl31 (z := qC Q P c) (by have := (VQ.1 c).2.2; rw [(AQ c hc).2.2] at this; exact this)) (PQ.2.2.2.2.2.2.2.1 c (by omega)).obj rfl rfl (Nat.le_of_ble_eq_true rfl) (xRm_of hR (by omega) (by decide) (by omega) (by omega)) dX8_mixChord_63 (fun r9 h9 hq => ?_)
        obtain ⟨rfl, e9⟩ := hq
        have e9 := e9.symm
        subst e9
        rw [← hlc]
        refine x_ifeqB C (tgt := 93) dX8_mixChord_66 (by decide) (fun c66 => ?_) (fun c66 => ?_)
        · skip
          rw [decide_eq_false_iff_not] at c66
          refine x_lload C dX8_mixChord_93 rfl ?_
          have e8 : dCh Q P d c = dmx q (qC Q P c) := by unfold dCh; rw [if_neg c66, hq6]
          exact x_lret C E rfl (by omega) (by omega) dX8_mixChord_95 (⟨by rw [e8], T, frO.refl ad h⟩)
        · skip
          rw [decide_eq_true_eq] at c66
          have hsm := getD_lt (PQ.2.2.2.2.2.2.2.1 c (by omega)).small (qC Q P c).toNat
          rw [← hlc] at hsm
          refine x_aload_n C dX8_mixChord_69 rfl rfl ?_
          refine x_lload C dX8_mixChord_70 rfl ?_
          refine x_aload_n C dX8_mixChord_72 rfl rfl ?_
          refine x_get C f_Tab_29 h0 rfl dX8_mixChord_73 ?_
          refine x_get C f_Tab_254 PQ.1 rfl dX8_mixChord_76 ?_
          refine x_iload_n C dX8_mixChord_79 rfl rfl ?_
          refine x_aald C (t := 5) rfl rfl PQ.2.1 ⟨by omega, by omega, by omega⟩ (b := (ad (100 + 8 + c))) rfl dX8_mixChord_80 ?_
          refine x_get C f_Tab_149 (PQ.2.2.2.2.2.2.2.1 c (by omega)).obj rfl dX8_mixChord_81 ?_
          obtain ⟨gbc, gec, glc, -, hgbc, hgec, hglc, hGLc⟩ := PQ.2.2.2.2.2.2.2.1 c (by omega)
          refine x_iload C dX8_mixChord_84 rfl ?_
          refine x_iald C hgbc ⟨by omega, by omega, by omega⟩ (v := (gbc (qC Q P c).toNat)) rfl dX8_mixChord_86 ?_
          refine x_re (b := ((((qL Q P c).getD (qC Q P c).toNat 0) : Nat) : Int)) ((hGLc.2.1 _ (by rw [← hlc]; omega)).1.trans (by rw [← hlc])) ?_
          refine x_invV C s_Tab_261 (st := []) (c_mixGrip hj T (d := dmx q (qC Q P c)) (cd := ((qL Q P c).getD (qC Q P c).toNat 0)) hsm) h0 rfl rfl (Nat.le_of_ble_eq_true rfl) (xRm_of hR (by omega) (by decide) (by omega) (by omega)) dX8_mixChord_87 (fun r9 h9 hq => ?_)
          obtain ⟨rfl, T2, F2⟩ := hq
          obtain ⟨st2, hst2, h02, hPA2, hPF2⟩ := id T2.1
          refine x_goto C (tgt := 95) dX8_mixChord_90 (by decide) ?_
          have e8 : dCh Q P d c = dGr Q.n ((qL Q P c).getD (qC Q P c).toNat 0) (dmx q (qC Q P c)) := by unfold dCh; rw [if_pos c66, hq6]
          exact x_lret C E rfl (by omega) (by omega) dX8_mixChord_95 (⟨by rw [e8], T2, F2⟩)
      · skip
        refine x_lload C dX8_mixChord_12 rfl ?_
        refine x_aload_n C dX8_mixChord_14 rfl rfl ?_
        refine x_iload_n C dX8_mixChord_15 rfl rfl ?_
        refine x_iload C dX8_mixChord_16 rfl ?_
        refine x_invV C s_Tab_171 (st := [.long q]) (c_askChord hj T hc (w := (k : Int)) ⟨by omega, by omega⟩) h0 rfl rfl (Nat.le_of_ble_eq_true rfl) (xRm_of hR (by omega) (by decide) (by omega) (by omega)) dX8_mixChord_18 (fun r9 h9 hq => ?_)
        obtain ⟨rfl, e9⟩ := hq
        have e9 := e9.symm
        subst e9
        refine x_invS C s_Tab_241 (st := []) (c_mix (d := q) (v := (aC Q P c (k : Int)))) rfl rfl (Nat.le_of_ble_eq_true rfl) (xRm_of hR (by omega) (by decide) (by omega) (by omega)) dX8_mixChord_21 (fun r9 h9 hq => ?_)
        obtain ⟨rfl, e9⟩ := hq
        have e9 := e9.symm
        subst e9
        refine x_lstore C (ls' := [some (.ref (ad 0)), some (.long d), none, some (vi (c : Int)), some (.long (dmx q (aC Q P c (k : Int)))), none, some (vi (k : Int))]) dX8_mixChord_24 (by decide) rfl ?_
        refine x_iinc C (ls' := [some (.ref (ad 0)), some (.long d), none, some (vi (c : Int)), some (.long (dmx q (aC Q P c (k : Int)))), none, some (vi ((k : Int) + 1))]) dX8_mixChord_26 rfl (by decide) (z1 := ((k : Int) + 1)) rfl rfl ?_
        refine x_goto C (tgt := 6) dX8_mixChord_29 (by decide) ?_
        exact ih_L6 (k + 1) (dmx q (aC Q P c (k : Int))) (by omega) (by omega) (foldR i2)
  exact L6 _ 0 d (Nat.lt_succ_self _) (Nat.zero_le _) (fold0 rfl)

set_option maxRecDepth 100000 in
set_option maxHeartbeats 4000000 in
theorem c_digest {G : xG} {h : PH} {ad : Nat → Nat} (hj : ∀ i j, i < 300 → j < 300 → ad i = ad j → i = j) {fq : Bool} {Q : Ins} {P : Pie} (T : TabR G h ad fq Q P)  : Cn G m_Tab_digest 14 0 0 [.ref (ad 0)] h (fun r h' => r = some (.long (dAll Q P)) ∧ TabR G h' ad true Q P ∧ frO ad h h') := by
  refine Cn_of (by decide) (Nat.le_of_ble_eq_true rfl) (fun K C hR E => ?_)
  obtain ⟨st, hst, h0, hPA, hPF⟩ := id T.1
  have IV1 := T.2.2.2.2.2.2.2.1
  have CV1 := T.2.2.2.2.2.2.2.2
  have IVn := IV1.1
  have CVm := CV1.1
  show X G K 4 0 [some (.ref (ad 0)), none, none, none] [] h 0 0
  refine x_aload_n C dX8_digest_0 rfl rfl ?_
  refine x_invV C s_Tab_168 (st := []) (c_refresh hj T) h0 rfl rfl (Nat.le_of_ble_eq_true rfl) (xRm_of hR (by omega) (by decide) (by omega) (by omega)) dX8_digest_1 (fun r9 h9 hq => ?_)
  obtain ⟨rfl, T1, F1⟩ := hq
  obtain ⟨h01, Ls1, fx1, ln1, ch1, rs1, PQ1, VQ1, AQ1⟩ := T1.plR
  refine x_ldc2 C (v := 58104) k_Tab_239 dX8_digest_4 ?_
  refine x_lstore_n C (ls' := [some (.ref (ad 0)), some (.long 58104), none, none]) dX8_digest_7 rfl (by decide) rfl ?_
  refine x_iconst C dX8_digest_8 ?_
  refine x_istore_n C (ls' := [some (.ref (ad 0)), some (.long 58104), none, some (vi 0)]) dX8_digest_9 rfl (by decide) rfl ?_
  have L10 : ∀ (n0 : Nat) (k : Nat) (q : Int64), 8 - k < n0 → (k ≤ 8) → (q = (List.range k).foldl (fun d (w : Nat) => dmx d (aW Q P (w : Int))) 58104) → X G K 4 10 [some (.ref (ad 0)), some (.long q), none, some (vi (k : Int))] [] h9 0 0 := by
    intro n0
    induction n0 with
    | zero => intro k q hm; exact absurd hm (Nat.not_lt_zero _)
    | succ n0 ih_L10 =>
      intro k q hm i1 i2
      refine x_iload_n C dX8_digest_10 rfl rfl ?_
      refine x_bipush C (z := 7) dX8_digest_11 (by decide) ?_
      refine x_icmp_gt C (tgt := 32) dX8_digest_13 (by decide) ⟨by omega, by omega⟩ (by decide) (fun c13 => ?_) (fun c13 => ?_)
      · skip
        refine x_iconst C dX8_digest_32 ?_
        refine x_istore_n C (ls' := [some (.ref (ad 0)), some (.long q), none, some (vi 0)]) dX8_digest_33 rfl (by decide) rfl ?_
        have L34 : ∀ (n0 : Nat) (k : Nat) (hp : PH) (q : Int64), P.m - k < n0 → (k ≤ P.m) → (TabR G hp ad true Q P) → (frO ad h hp) → (q = (List.range k).foldl (dCh Q P) ((List.range 8).foldl (fun d (w : Nat) => dmx d (aW Q P (w : Int))) 58104)) → X G K 4 34 [some (.ref (ad 0)), some (.long q), none, some (vi (k : Int))] [] hp 0 0 := by
          intro n0
          induction n0 with
          | zero => intro k hp q hm; exact absurd hm (Nat.not_lt_zero _)
          | succ n0 ih_L34 =>
            intro k hp q hm i1 T2 F2 i2
            obtain ⟨h02, Ls2, fx2, ln2, ch2, rs2, PQ2, VQ2, AQ2⟩ := T2.plR
            refine x_iload_n C dX8_digest_34 rfl rfl ?_
            refine x_aload_n C dX8_digest_35 rfl rfl ?_
            refine x_get C f_Tab_22 h02 rfl dX8_digest_36 ?_
            refine x_get C f_Tab_127 T2.2.2.2.1.1 rfl dX8_digest_39 ?_
            refine x_icmp_ge C (tgt := 58) dX8_digest_42 (by decide) ⟨by omega, by omega⟩ ⟨by omega, by omega⟩ (fun c42 => ?_) (fun c42 => ?_)
            · skip
              have e0 : k = P.m := by omega
              have hq5 : q = ((List.range P.m).foldl (dCh Q P) ((List.range 8).foldl (fun d (w : Nat) => dmx d (aW Q P (w : Int))) 58104)) := by rw [i2, e0]
              refine x_lload_n C dX8_digest_58 rfl rfl ?_
              refine x_aload_n C dX8_digest_59 rfl rfl ?_
              refine x_get C f_Tab_29 h02 rfl dX8_digest_60 ?_
              refine x_get C f_Tab_195 PQ2.1 rfl dX8_digest_63 ?_
              refine x_invS C s_Tab_241 (st := []) (c_mix (d := q) (v := (qT Q P))) rfl rfl (Nat.le_of_ble_eq_true rfl) (xRm_of hR (by omega) (by decide) (by omega) (by omega)) dX8_digest_66 (fun r9 h9 hq => ?_)
              obtain ⟨rfl, e9⟩ := hq
              have e9 := e9.symm
              subst e9
              refine x_lstore_n C (ls' := [some (.ref (ad 0)), some (.long (dmx q (qT Q P))), none, some (vi (k : Int))]) dX8_digest_69 rfl (by decide) rfl ?_
              refine x_lload_n C dX8_digest_70 rfl rfl ?_
              refine x_aload_n C dX8_digest_71 rfl rfl ?_
              refine x_get C f_Tab_29 h02 rfl dX8_digest_72 ?_
              refine x_invV C s_Tab_198 (st := [.long (dmx q (qT Q P))]) (c_hardestMove hj (Or.inl rfl) PQ2 VQ2) PQ2.1 rfl rfl (Nat.le_of_ble_eq_true rfl) (xRm_of hR (by omega) (by decide) (by omega) (by omega)) dX8_digest_75 (fun r9 h9 hq => ?_)
              obtain ⟨rfl, e9⟩ := hq
              have e9 := e9.symm
              subst e9
              refine x_re (b := (qHd Q P)) (by unfold qHd; rw [hdF_cong (fun c hc => (AQ2 c hc).1) (fun c hc => (AQ2 c hc).2.2) (P.m - 1) (Nat.le_refl _)]) ?_
              refine x_invS C s_Tab_241 (st := []) (c_mix (d := (dmx q (qT Q P))) (v := (qHd Q P))) rfl rfl (Nat.le_of_ble_eq_true rfl) (xRm_of hR (by omega) (by decide) (by omega) (by omega)) dX8_digest_78 (fun r9 h9 hq => ?_)
              obtain ⟨rfl, e9⟩ := hq
              have e9 := e9.symm
              subst e9
              refine x_lstore_n C (ls' := [some (.ref (ad 0)), some (.long (dmx (dmx q (qT Q P)) (qHd Q P))), none, some (vi (k : Int))]) dX8_digest_81 rfl (by decide) rfl ?_
              refine x_lload_n C dX8_digest_82 rfl rfl ?_
              refine x_aload_n C dX8_digest_83 rfl rfl ?_
              refine x_invV C s_Tab_248 (st := [.long (dmx (dmx q (qT Q P)) (qHd Q P))]) (c_bestCapo hj T2) h02 rfl rfl (Nat.le_of_ble_eq_true rfl) (xRm_of hR (by omega) (by decide) (by omega) (by omega)) dX8_digest_84 (fun r9 h9 hq => ?_)
              obtain ⟨rfl, T3, F3⟩ := hq
              obtain ⟨st3, hst3, h03, hPA3, hPF3⟩ := id T3.1
              refine x_invS C s_Tab_241 (st := []) (c_mix (d := (dmx (dmx q (qT Q P)) (qHd Q P))) (v := (bC Q P 8).1)) rfl rfl (Nat.le_of_ble_eq_true rfl) (xRm_of hR (by omega) (by decide) (by omega) (by omega)) dX8_digest_87 (fun r9 h9 hq => ?_)
              obtain ⟨rfl, e9⟩ := hq
              have e9 := e9.symm
              subst e9
              refine x_lstore_n C (ls' := [some (.ref (ad 0)), some (.long (dmx (dmx (dmx q (qT Q P)) (qHd Q P)) (bC Q P 8).1)), none, some (vi (k : Int))]) dX8_digest_90 rfl (by decide) rfl ?_
              refine x_iconst C dX8_digest_91 ?_
              refine x_istore_n C (ls' := [some (.ref (ad 0)), some (.long (dmx (dmx (dmx q (qT Q P)) (qHd Q P)) (bC Q P 8).1)), none, some (vi 0)]) dX8_digest_92 rfl (by decide) rfl ?_
              have L93 : ∀ (n0 : Nat) (k : Nat) (hp4 : PH) (q : Int64), Q.n - k < n0 → (k ≤ Q.n) → (TabR G hp4 ad true Q P) → (frO ad h hp4) → (q = (List.range k).foldl (fun d s => dmx d (qT (Q.n, Q.op, va_up Q.sl s true, Q.cp, Q.rc) P)) (dmx (dmx (dmx ((List.range P.m).foldl (dCh Q P) ((List.range 8).foldl (fun d (w : Nat) => dmx d (aW Q P (w : Int))) 58104)) (qT Q P)) (qHd Q P)) (bC Q P 8).1)) → X G K 4 93 [some (.ref (ad 0)), some (.long q), none, some (vi (k : Int))] [] hp4 0 0 := by
                intro n0
                induction n0 with
                | zero => intro k hp4 q hm; exact absurd hm (Nat.not_lt_zero _)
                | succ n0 ih_L93 =>
                  intro k hp4 q hm i1 T4 F4 i2
                  obtain ⟨st4, hst4, h04, hPA4, hPF4⟩ := id T4.1
                  refine x_iload_n C dX8_digest_93 rfl rfl ?_
                  refine x_aload_n C dX8_digest_94 rfl rfl ?_
                  refine x_get C f_Tab_10 h04 rfl dX8_digest_95 ?_
                  refine x_get C f_Tab_58 T4.2.1.1 rfl dX8_digest_98 ?_
                  refine x_icmp_ge C (tgt := 120) dX8_digest_101 (by decide) ⟨by omega, by omega⟩ ⟨by omega, by omega⟩ (fun c101 => ?_) (fun c101 => ?_)
                  · skip
                    refine x_aload_n C dX8_digest_120 rfl rfl ?_
                    refine x_sipush C (z := 145) dX8_digest_121 (by decide) ?_
                    refine x_iconst C dX8_digest_124 ?_
                    refine x_iconst C dX8_digest_125 ?_
                    refine x_invV C s_Tab_211 (st := []) (c_freshVoicing hj T4 (cls := 145) (bass := 0) (fm := 1) (by decide)) h04 rfl rfl (Nat.le_of_ble_eq_true rfl) (xRm_of hR (by omega) (by decide) (by omega) (by omega)) dX8_digest_126 (fun r9 h9 hq => ?_)
                    obtain ⟨rfl, T6, hv, F6⟩ := hq
                    obtain ⟨st6, hst6, h06, hPA6, hPF6⟩ := id T6.1
                    refine x_astore_n C (ls' := [some (.ref (ad 0)), some (.long q), none, some (.ref (ad 9))]) dX8_digest_129 rfl (by decide) rfl ?_
                    refine x_lload_n C dX8_digest_130 rfl rfl ?_
                    refine x_aload_n C dX8_digest_131 rfl rfl ?_
                    refine x_get C f_Tab_215 hv rfl dX8_digest_132 ?_
                    refine x_invS C s_Tab_241 (st := []) (c_mix (d := q) (v := (shA Q.n Q.op Q.sl Q.cp Q.rc 145 0 1).1)) rfl rfl (Nat.le_of_ble_eq_true rfl) (xRm_of hR (by omega) (by decide) (by omega) (by omega)) dX8_digest_135 (fun r9 h9 hq => ?_)
                    obtain ⟨rfl, e9⟩ := hq
                    have e9 := e9.symm
                    subst e9
                    refine x_lstore_n C (ls' := [some (.ref (ad 0)), some (.long (dmx q (shA Q.n Q.op Q.sl Q.cp Q.rc 145 0 1).1)), none, some (.ref (ad 9))]) dX8_digest_138 rfl (by decide) rfl ?_
                    refine x_lload_n C dX8_digest_139 rfl rfl ?_
                    refine x_aload_n C dX8_digest_140 rfl rfl ?_
                    refine x_get C f_Tab_216 hv rfl dX8_digest_141 ?_
                    refine x_invS C s_Tab_241 (st := []) (c_mix (d := (dmx q (shA Q.n Q.op Q.sl Q.cp Q.rc 145 0 1).1)) (v := (shA Q.n Q.op Q.sl Q.cp Q.rc 145 0 1).2.1)) rfl rfl (Nat.le_of_ble_eq_true rfl) (xRm_of hR (by omega) (by decide) (by omega) (by omega)) dX8_digest_144 (fun r9 h9 hq => ?_)
                    obtain ⟨rfl, e9⟩ := hq
                    have e9 := e9.symm
                    subst e9
                    have e0 : k = Q.n := by omega
                    have hq7 : q = (List.range Q.n).foldl (fun d s => dmx d (qT (Q.n, Q.op, va_up Q.sl s true, Q.cp, Q.rc) P)) (dmx (dmx (dmx ((List.range P.m).foldl (dCh Q P) ((List.range 8).foldl (fun d (w : Nat) => dmx d (aW Q P (w : Int))) 58104)) (qT Q P)) (qHd Q P)) (bC Q P 8).1) := by rw [i2, e0]
                    have e8 : dAll Q P = dmx (dmx q (shA Q.n Q.op Q.sl Q.cp Q.rc 145 0 1).1) (shA Q.n Q.op Q.sl Q.cp Q.rc 145 0 1).2.1 := by unfold dAll; rw [hq7]
                    exact x_lret C E rfl (by omega) (by omega) dX8_digest_147 (⟨by rw [e8]; rfl, T6, F4.trans F6⟩)
                  · skip
                    refine x_lload_n C dX8_digest_104 rfl rfl ?_
                    refine x_aload_n C dX8_digest_105 rfl rfl ?_
                    refine x_iload_n C dX8_digest_106 rfl rfl ?_
                    refine x_invV C s_Tab_251 (st := [.long q]) (c_totalWithout hj T4 (s := k) (by omega)) h04 rfl rfl (Nat.le_of_ble_eq_true rfl) (xRm_of hR (by omega) (by decide) (by omega) (by omega)) dX8_digest_107 (fun r9 h9 hq => ?_)
                    obtain ⟨rfl, T5, F5⟩ := hq
                    obtain ⟨st5, hst5, h05, hPA5, hPF5⟩ := id T5.1
                    refine x_invS C s_Tab_241 (st := []) (c_mix (d := q) (v := (qT (Q.n, Q.op, va_up Q.sl k true, Q.cp, Q.rc) P))) rfl rfl (Nat.le_of_ble_eq_true rfl) (xRm_of hR (by omega) (by decide) (by omega) (by omega)) dX8_digest_110 (fun r9 h9 hq => ?_)
                    obtain ⟨rfl, e9⟩ := hq
                    have e9 := e9.symm
                    subst e9
                    refine x_lstore_n C (ls' := [some (.ref (ad 0)), some (.long (dmx q (qT (Q.n, Q.op, va_up Q.sl k true, Q.cp, Q.rc) P))), none, some (vi (k : Int))]) dX8_digest_113 rfl (by decide) rfl ?_
                    refine x_iinc C (ls' := [some (.ref (ad 0)), some (.long (dmx q (qT (Q.n, Q.op, va_up Q.sl k true, Q.cp, Q.rc) P))), none, some (vi ((k : Int) + 1))]) dX8_digest_114 rfl (by decide) (z1 := ((k : Int) + 1)) rfl rfl ?_
                    refine x_goto C (tgt := 93) dX8_digest_117 (by decide) ?_
                    exact ih_L93 (k + 1) h9 (dmx q (qT (Q.n, Q.op, va_up Q.sl k true, Q.cp, Q.rc) P)) (by omega) (by omega) (T5) (F4.trans F5) (foldR i2)
              exact L93 _ 0 h9 (dmx (dmx (dmx q (qT Q P)) (qHd Q P)) (bC Q P 8).1) (Nat.lt_succ_self _) (Nat.zero_le _) (T3) (F2.trans F3) (fold0 (by rw [hq5]))
            · skip
              refine x_aload_n C dX8_digest_45 rfl rfl ?_
              refine x_lload_n C dX8_digest_46 rfl rfl ?_
              refine x_iload_n C dX8_digest_47 rfl rfl ?_
              refine x_invV C s_Tab_245 (st := []) (c_mixChord hj T2 (d := q) (c := k) (by omega)) h02 rfl rfl (Nat.le_of_ble_eq_true rfl) (xRm_of hR (by omega) (by decide) (by omega) (by omega)) dX8_digest_48 (fun r9 h9 hq => ?_)
              obtain ⟨rfl, T3, F3⟩ := hq
              obtain ⟨h03, Ls3, fx3, ln3, ch3, rs3, PQ3, VQ3, AQ3⟩ := T3.plR
              refine x_lstore_n C (ls' := [some (.ref (ad 0)), some (.long (dCh Q P q k)), none, some (vi (k : Int))]) dX8_digest_51 rfl (by decide) rfl ?_
              refine x_iinc C (ls' := [some (.ref (ad 0)), some (.long (dCh Q P q k)), none, some (vi ((k : Int) + 1))]) dX8_digest_52 rfl (by decide) (z1 := ((k : Int) + 1)) rfl rfl ?_
              refine x_goto C (tgt := 34) dX8_digest_55 (by decide) ?_
              exact ih_L34 (k + 1) h9 (dCh Q P q k) (by omega) (by omega) (T3) (F2.trans F3) (foldR i2)
        exact L34 _ 0 h9 q (Nat.lt_succ_self _) (Nat.zero_le _) (T1) (F1) (fold0 (by rw [i2, show k = 8 by omega]))
      · skip
        refine x_lload_n C dX8_digest_16 rfl rfl ?_
        refine x_aload_n C dX8_digest_17 rfl rfl ?_
        refine x_iload_n C dX8_digest_18 rfl rfl ?_
        refine x_invV C s_Tab_201 (st := [.long q]) (c_askWhole hj T1 (w := (k : Int)) ⟨by omega, by omega⟩) h01 rfl rfl (Nat.le_of_ble_eq_true rfl) (xRm_of hR (by omega) (by decide) (by omega) (by omega)) dX8_digest_19 (fun r9 h9 hq => ?_)
        obtain ⟨rfl, e9⟩ := hq
        have e9 := e9.symm
        subst e9
        refine x_invS C s_Tab_241 (st := []) (c_mix (d := q) (v := (aW Q P (k : Int)))) rfl rfl (Nat.le_of_ble_eq_true rfl) (xRm_of hR (by omega) (by decide) (by omega) (by omega)) dX8_digest_22 (fun r9 h9 hq => ?_)
        obtain ⟨rfl, e9⟩ := hq
        have e9 := e9.symm
        subst e9
        refine x_lstore_n C (ls' := [some (.ref (ad 0)), some (.long (dmx q (aW Q P (k : Int)))), none, some (vi (k : Int))]) dX8_digest_25 rfl (by decide) rfl ?_
        refine x_iinc C (ls' := [some (.ref (ad 0)), some (.long (dmx q (aW Q P (k : Int)))), none, some (vi ((k : Int) + 1))]) dX8_digest_26 rfl (by decide) (z1 := ((k : Int) + 1)) rfl rfl ?_
        refine x_goto C (tgt := 10) dX8_digest_29 (by decide) ?_
        exact ih_L10 (k + 1) (dmx q (aW Q P (k : Int))) (by omega) (by omega) (foldR i2)
  exact L10 _ 0 58104 (Nat.lt_succ_self _) (Nat.zero_le _) (fold0 rfl)
