/-! Tablature: what it is told and asked. -/
theorem op_up {op : Nat → Int} {k : Nat} {p : Int} (h : ∀ j : Nat, j < 6 → 0 ≤ op j ∧ op j ≤ 60) (hp : 0 ≤ p ∧ p ≤ 60) : ∀ j : Nat, j < 6 → 0 ≤ va_up op k p j ∧ va_up op k p j ≤ 60 := by
  intro j hj
  by_cases q : j = k
  · subst q; rw [up_s]; exact hp
  · rw [up_n q]; exact h j hj

set_option maxRecDepth 100000 in
set_option maxHeartbeats 4000000 in
theorem c_string {G : xG} {h : PH} {ad : Nat → Nat} (hj : ∀ i j, i < 300 → j < 300 → ad i = ad j → i = j) {fq : Bool} {Q : Ins} {P : Pie} (T : TabR G h ad fq Q P) {p : Int} (hp : 0 ≤ p ∧ p ≤ 60) (hn : Q.n < 6) : Cn G m_Tab_string 2 0 0 [.ref (ad 0), vi p] h (fun r h' => r = some (vi (Q.n : Int)) ∧ TabR G h' ad false (Q.n + 1, va_up Q.op Q.n p, va_up Q.sl Q.n false, Q.cp, Q.rc) P ∧ frO ad h h') := by
  refine Cn_of (by decide) (Nat.le_of_ble_eq_true rfl) (fun K C hR E => ?_)
  obtain ⟨st, hst, h0, hPA, hPF⟩ := id T.1
  have IV1 := T.2.2.2.2.2.2.2.1
  have CV1 := T.2.2.2.2.2.2.2.2
  have IVn := IV1.1
  have CVm := CV1.1
  obtain ⟨hvH, p9, cls9, bass9, fm9, hv0, hv1, hv2, hv3⟩ := id T.2.2.2.2.2.2.1
  show X G K 3 0 [some (.ref (ad 0)), some (vi p), none] [] h 0 0
  refine x_iload_n C dX8_string_0 rfl rfl ?_
  refine x_invS C s_Tab_54 (st := []) (c_needOpen hp) rfl rfl (Nat.le_of_ble_eq_true rfl) (xRm_of hR (by omega) (by decide) (by omega) (by omega)) dX8_string_1 (fun r9 h9 hq => ?_)
  obtain ⟨rfl, e9⟩ := hq
  have e9 := e9.symm
  subst e9
  refine x_aload_n C dX8_string_4 rfl rfl ?_
  refine x_get C f_Tab_10 h0 rfl dX8_string_5 ?_
  refine x_get C f_Tab_58 T.2.1.1 rfl dX8_string_8 ?_
  refine x_bipush C (z := 6) dX8_string_11 (by decide) ?_
  refine x_icmp_lt C (tgt := 26) dX8_string_13 (by decide) ⟨by omega, by omega⟩ (by decide) (fun c13 => ?_) (fun c13 => ?_)
  · skip
    refine x_aload_n C dX8_string_26 rfl rfl ?_
    refine x_get C f_Tab_10 h0 rfl dX8_string_27 ?_
    refine x_iload_n C dX8_string_30 rfl rfl ?_
    refine x_invV C s_Tab_69 (st := []) (c_Instr_draw T.2.1.1 hn T.2.1.2.1 T.2.1.2.2 (adne hj (by omega) (by omega) (by omega)) (adne hj (by omega) (by omega) (by omega)) (adne hj (by omega) (by omega) (by omega)) (p := p)) T.2.1.1 rfl rfl (Nat.le_of_ble_eq_true rfl) (xRm_of hR (by omega) (by decide) (by omega) (by omega)) dX8_string_31 (fun r9 h9 hq => ?_)
    obtain ⟨rfl, e9⟩ := hq
    have e9 := e9.symm
    subst e9
    refine x_istore_n C (ls' := [some (.ref (ad 0)), some (vi p), some (vi (Q.n : Int))]) dX8_string_34 rfl (by decide) rfl ?_
    refine x_aload_n C dX8_string_35 rfl rfl ?_
    refine x_invV C s_Tab_73 (st := []) (c_instrChanged hj ((up_n (adne hj (by omega) (by omega) (by omega))).trans ((up_n (adne hj (by omega) (by omega) (by omega))).trans ((up_n (adne hj (by omega) (by omega) (by omega))).trans h0))) ((up_n (adne hj (by omega) (by omega) (by omega))).trans ((up_n (adne hj (by omega) (by omega) (by omega))).trans ((up_n (adne hj (by omega) (by omega) (by omega))).trans hv0)))) ((up_n (adne hj (by omega) (by omega) (by omega))).trans ((up_n (adne hj (by omega) (by omega) (by omega))).trans ((up_n (adne hj (by omega) (by omega) (by omega))).trans h0))) rfl rfl (Nat.le_of_ble_eq_true rfl) (xRm_of hR (by omega) (by decide) (by omega) (by omega)) dX8_string_36 (fun r9 h9 hq => ?_)
    obtain ⟨rfl, e9⟩ := hq
    have e9 := e9.symm
    subst e9
    refine x_iload_n C dX8_string_39 rfl rfl ?_
    have hk : ∀ i, own i → i ≠ 0 → i ≠ 1 → i ≠ 2 → i ≠ 3 → i ≠ 9 → (va_up (va_up (va_up (va_up (va_up h (ad 1) (xO 3 [.ref (ad (1 + 1)), .ref (ad (1 + 2)), vi ((Q.n : Int) + 1), vi Q.cp, vi Q.rc])) (ad (1 + 1)) (xI G 6 (va_up Q.op Q.n p))) (ad (1 + 2)) (xZ G 6 (va_up Q.sl Q.n false))) (ad 0) (xO 7 [.ref (ad 1), .ref (ad 4), .ref (ad 7), .ref (ad 100), .ref (ad 200), .ref (ad 9), .ref (ad 12), vi (b2i true)])) (ad 9) (xO 6 [vi p9.1, vi p9.2.1, vi p9.2.2.1, vi ((p9.2.2.2 : Nat) : Int), vi ((0 : Nat) : Int), vi (bass9 : Int), vi (fm9 : Int), .ref (ad 10)])) (ad i) = h (ad i) := fun i ho n0 n1 n2 n3 n9 => ((up_n (adne hj (by omega) (own_lt ho) (by omega))).trans ((up_n (adne hj (by omega) (own_lt ho) (by omega))).trans ((up_n (adne hj (by omega) (own_lt ho) (by omega))).trans ((up_n (adne hj (by omega) (own_lt ho) (by omega))).trans ((up_n (adne hj (by omega) (own_lt ho) (by omega))).trans rfl)))))
    have IV2 : IV (Ins.n (Q.n + 1, va_up Q.op Q.n p, va_up Q.sl Q.n false, Q.cp, Q.rc)) (Ins.op (Q.n + 1, va_up Q.op Q.n p, va_up Q.sl Q.n false, Q.cp, Q.rc)) (Ins.cp (Q.n + 1, va_up Q.op Q.n p, va_up Q.sl Q.n false, Q.cp, Q.rc)) (Ins.rc (Q.n + 1, va_up Q.op Q.n p, va_up Q.sl Q.n false, Q.cp, Q.rc)) := ⟨by show Q.n + 1 ≤ 6; omega, op_up IV1.2.1 hp, IV1.2.2⟩
    exact x_iret C E rfl (by omega) (by omega) dX8_string_40 (⟨rfl, TabR.instr (h1 := (va_up (va_up (va_up (va_up (va_up h (ad 1) (xO 3 [.ref (ad (1 + 1)), .ref (ad (1 + 2)), vi ((Q.n : Int) + 1), vi Q.cp, vi Q.rc])) (ad (1 + 1)) (xI G 6 (va_up Q.op Q.n p))) (ad (1 + 2)) (xZ G 6 (va_up Q.sl Q.n false))) (ad 0) (xO 7 [.ref (ad 1), .ref (ad 4), .ref (ad 7), .ref (ad 100), .ref (ad 200), .ref (ad 9), .ref (ad 12), vi (b2i true)])) (ad 9) (xO 6 [vi p9.1, vi p9.2.1, vi p9.2.2.1, vi ((p9.2.2.2 : Nat) : Int), vi ((0 : Nat) : Int), vi (bass9 : Int), vi (fm9 : Int), .ref (ad 10)]))) (I2 := (Q.n + 1, va_up Q.op Q.n p, va_up Q.sl Q.n false, Q.cp, Q.rc)) T ((up_n (adne hj (by omega) (by omega) (by omega))).trans up_s) ⟨((up_n (adne hj (by omega) (by omega) (by omega))).trans ((up_n (adne hj (by omega) (by omega) (by omega))).trans ((up_n (adne hj (by omega) (by omega) (by omega))).trans ((up_n (adne hj (by omega) (by omega) (by omega))).trans up_s)))), ((up_n (adne hj (by omega) (by omega) (by omega))).trans ((up_n (adne hj (by omega) (by omega) (by omega))).trans ((up_n (adne hj (by omega) (by omega) (by omega))).trans up_s))), ((up_n (adne hj (by omega) (by omega) (by omega))).trans ((up_n (adne hj (by omega) (by omega) (by omega))).trans up_s))⟩ ⟨p9, bass9, fm9, up_s, hv1, hv2.2.1, hv2.2.2⟩ hk IV2, (frO.up (frO.up (frO.up (frO.up (frO.up (frO.refl ad h) (i := 1) (by unfold own; omega) _) (i := (1 + 1)) (by unfold own; omega) _) (i := (1 + 2)) (by unfold own; omega) _) (i := 0) (by unfold own; omega) _) (i := 9) (by unfold own; omega) _)⟩)
  · skip
    exfalso; omega

set_option maxRecDepth 100000 in
set_option maxHeartbeats 4000000 in
theorem c_tune {G : xG} {h : PH} {ad : Nat → Nat} (hj : ∀ i j, i < 300 → j < 300 → ad i = ad j → i = j) {fq : Bool} {Q : Ins} {P : Pie} (T : TabR G h ad fq Q P) {s : Nat} (hs : s < Q.n) {p : Int} (hp : 0 ≤ p ∧ p ≤ 60) : Cn G m_Tab_tune 2 0 0 [.ref (ad 0), vi (s : Int), vi p] h (fun r h' => r = some (vi (Q.op s)) ∧ TabR G h' ad false (Q.n, va_up Q.op s p, Q.sl, Q.cp, Q.rc) P ∧ frO ad h h') := by
  refine Cn_of (by decide) (Nat.le_of_ble_eq_true rfl) (fun K C hR E => ?_)
  obtain ⟨st, hst, h0, hPA, hPF⟩ := id T.1
  have IV1 := T.2.2.2.2.2.2.2.1
  have CV1 := T.2.2.2.2.2.2.2.2
  have IVn := IV1.1
  have CVm := CV1.1
  obtain ⟨hvH, p9, cls9, bass9, fm9, hv0, hv1, hv2, hv3⟩ := id T.2.2.2.2.2.2.1
  show X G K 4 0 [some (.ref (ad 0)), some (vi (s : Int)), some (vi p), none] [] h 0 0
  refine x_aload_n C dX8_tune_0 rfl rfl ?_
  refine x_iload_n C dX8_tune_1 rfl rfl ?_
  refine x_invV C s_Tab_76 (st := []) (c_needString hj T hs) h0 rfl rfl (Nat.le_of_ble_eq_true rfl) (xRm_of hR (by omega) (by decide) (by omega) (by omega)) dX8_tune_2 (fun r9 h9 hq => ?_)
  obtain ⟨rfl, e9⟩ := hq
  have e9 := e9.symm
  subst e9
  refine x_iload_n C dX8_tune_5 rfl rfl ?_
  refine x_invS C s_Tab_54 (st := []) (c_needOpen hp) rfl rfl (Nat.le_of_ble_eq_true rfl) (xRm_of hR (by omega) (by decide) (by omega) (by omega)) dX8_tune_6 (fun r9 h9 hq => ?_)
  obtain ⟨rfl, e9⟩ := hq
  have e9 := e9.symm
  subst e9
  refine x_aload_n C dX8_tune_9 rfl rfl ?_
  refine x_get C f_Tab_10 h0 rfl dX8_tune_10 ?_
  refine x_get C f_Tab_79 T.2.1.1 rfl dX8_tune_13 ?_
  refine x_iload_n C dX8_tune_16 rfl rfl ?_
  refine x_iald C T.2.1.2.1 ⟨by omega, by omega, by omega⟩ (v := (Q.op s)) rfl dX8_tune_17 ?_
  refine x_istore_n C (ls' := [some (.ref (ad 0)), some (vi (s : Int)), some (vi p), some (vi (Q.op s))]) dX8_tune_18 rfl (by decide) rfl ?_
  refine x_aload_n C dX8_tune_19 rfl rfl ?_
  refine x_get C f_Tab_10 h0 rfl dX8_tune_20 ?_
  refine x_get C f_Tab_79 T.2.1.1 rfl dX8_tune_23 ?_
  refine x_iload_n C dX8_tune_26 rfl rfl ?_
  refine x_iload_n C dX8_tune_27 rfl rfl ?_
  refine x_iast C T.2.1.2.1 ⟨by omega, by omega, by omega⟩ (h1 := (va_up h (ad (1 + 1)) (xI G 6 (va_up Q.op s p)))) rfl dX8_tune_28 ?_
  refine x_aload_n C dX8_tune_29 rfl rfl ?_
  refine x_invV C s_Tab_73 (st := []) (c_instrChanged hj ((up_n (adne hj (by omega) (by omega) (by omega))).trans h0) ((up_n (adne hj (by omega) (by omega) (by omega))).trans hv0)) ((up_n (adne hj (by omega) (by omega) (by omega))).trans h0) rfl rfl (Nat.le_of_ble_eq_true rfl) (xRm_of hR (by omega) (by decide) (by omega) (by omega)) dX8_tune_30 (fun r9 h9 hq => ?_)
  obtain ⟨rfl, e9⟩ := hq
  have e9 := e9.symm
  subst e9
  refine x_iload_n C dX8_tune_33 rfl rfl ?_
  have hk : ∀ i, own i → i ≠ 0 → i ≠ 1 → i ≠ 2 → i ≠ 3 → i ≠ 9 → (va_up (va_up (va_up h (ad (1 + 1)) (xI G 6 (va_up Q.op s p))) (ad 0) (xO 7 [.ref (ad 1), .ref (ad 4), .ref (ad 7), .ref (ad 100), .ref (ad 200), .ref (ad 9), .ref (ad 12), vi (b2i true)])) (ad 9) (xO 6 [vi p9.1, vi p9.2.1, vi p9.2.2.1, vi ((p9.2.2.2 : Nat) : Int), vi ((0 : Nat) : Int), vi (bass9 : Int), vi (fm9 : Int), .ref (ad 10)])) (ad i) = h (ad i) := fun i ho n0 n1 n2 n3 n9 => ((up_n (adne hj (by omega) (own_lt ho) (by omega))).trans ((up_n (adne hj (by omega) (own_lt ho) (by omega))).trans ((up_n (adne hj (by omega) (own_lt ho) (by omega))).trans rfl)))
  have IV2 : IV (Ins.n (Q.n, va_up Q.op s p, Q.sl, Q.cp, Q.rc)) (Ins.op (Q.n, va_up Q.op s p, Q.sl, Q.cp, Q.rc)) (Ins.cp (Q.n, va_up Q.op s p, Q.sl, Q.cp, Q.rc)) (Ins.rc (Q.n, va_up Q.op s p, Q.sl, Q.cp, Q.rc)) := ⟨IV1.1, op_up IV1.2.1 hp, IV1.2.2⟩
  exact x_iret C E rfl (by omega) (by omega) dX8_tune_34 (⟨rfl, TabR.instr (h1 := (va_up (va_up (va_up h (ad (1 + 1)) (xI G 6 (va_up Q.op s p))) (ad 0) (xO 7 [.ref (ad 1), .ref (ad 4), .ref (ad 7), .ref (ad 100), .ref (ad 200), .ref (ad 9), .ref (ad 12), vi (b2i true)])) (ad 9) (xO 6 [vi p9.1, vi p9.2.1, vi p9.2.2.1, vi ((p9.2.2.2 : Nat) : Int), vi ((0 : Nat) : Int), vi (bass9 : Int), vi (fm9 : Int), .ref (ad 10)]))) (I2 := (Q.n, va_up Q.op s p, Q.sl, Q.cp, Q.rc)) T ((up_n (adne hj (by omega) (by omega) (by omega))).trans up_s) ⟨((up_n (adne hj (by omega) (by omega) (by omega))).trans ((up_n (adne hj (by omega) (by omega) (by omega))).trans ((up_n (adne hj (by omega) (by omega) (by omega))).trans T.2.1.1))), ((up_n (adne hj (by omega) (by omega) (by omega))).trans ((up_n (adne hj (by omega) (by omega) (by omega))).trans up_s)), ((up_n (adne hj (by omega) (by omega) (by omega))).trans ((up_n (adne hj (by omega) (by omega) (by omega))).trans ((up_n (adne hj (by omega) (by omega) (by omega))).trans T.2.1.2.2)))⟩ ⟨p9, bass9, fm9, up_s, hv1, hv2.2.1, hv2.2.2⟩ hk IV2, (frO.up (frO.up (frO.up (frO.refl ad h) (i := (1 + 1)) (by unfold own; omega) _) (i := 0) (by unfold own; omega) _) (i := 9) (by unfold own; omega) _)⟩)

set_option maxRecDepth 100000 in
set_option maxHeartbeats 4000000 in
theorem c_slacken {G : xG} {h : PH} {ad : Nat → Nat} (hj : ∀ i j, i < 300 → j < 300 → ad i = ad j → i = j) {fq : Bool} {Q : Ins} {P : Pie} (T : TabR G h ad fq Q P) {s : Nat} (hs : s < Q.n) {b : Bool} : Cn G m_Tab_slacken 2 0 0 [.ref (ad 0), vi (s : Int), vi (b2i b)] h (fun r h' => r = some (vi ((Q.n : Int) - slk (va_up Q.sl s b) 6)) ∧ TabR G h' ad false (Q.n, Q.op, va_up Q.sl s b, Q.cp, Q.rc) P ∧ frO ad h h') := by
  refine Cn_of (by decide) (Nat.le_of_ble_eq_true rfl) (fun K C hR E => ?_)
  obtain ⟨st, hst, h0, hPA, hPF⟩ := id T.1
  have IV1 := T.2.2.2.2.2.2.2.1
  have CV1 := T.2.2.2.2.2.2.2.2
  have IVn := IV1.1
  have CVm := CV1.1
  obtain ⟨hvH, p9, cls9, bass9, fm9, hv0, hv1, hv2, hv3⟩ := id T.2.2.2.2.2.2.1
  show X G K 3 0 [some (.ref (ad 0)), some (vi (s : Int)), some (vi (b2i b))] [] h 0 0
  refine x_aload_n C dX8_slacken_0 rfl rfl ?_
  refine x_iload_n C dX8_slacken_1 rfl rfl ?_
  refine x_invV C s_Tab_76 (st := []) (c_needString hj T hs) h0 rfl rfl (Nat.le_of_ble_eq_true rfl) (xRm_of hR (by omega) (by decide) (by omega) (by omega)) dX8_slacken_2 (fun r9 h9 hq => ?_)
  obtain ⟨rfl, e9⟩ := hq
  have e9 := e9.symm
  subst e9
  refine x_aload_n C dX8_slacken_5 rfl rfl ?_
  refine x_get C f_Tab_10 h0 rfl dX8_slacken_6 ?_
  refine x_get C f_Tab_83 T.2.1.1 rfl dX8_slacken_9 ?_
  refine x_iload_n C dX8_slacken_12 rfl rfl ?_
  refine x_iload_n C dX8_slacken_13 rfl rfl ?_
  refine x_zast C (z := b) T.2.1.2.2 ⟨by omega, by omega, by omega⟩ (h1 := (va_up h (ad (1 + 2)) (xZ G 6 (va_up Q.sl s b)))) rfl dX8_slacken_14 ?_
  refine x_aload_n C dX8_slacken_15 rfl rfl ?_
  refine x_invV C s_Tab_73 (st := []) (c_instrChanged hj ((up_n (adne hj (by omega) (by omega) (by omega))).trans h0) ((up_n (adne hj (by omega) (by omega) (by omega))).trans hv0)) ((up_n (adne hj (by omega) (by omega) (by omega))).trans h0) rfl rfl (Nat.le_of_ble_eq_true rfl) (xRm_of hR (by omega) (by decide) (by omega) (by omega)) dX8_slacken_16 (fun r9 h9 hq => ?_)
  obtain ⟨rfl, e9⟩ := hq
  have e9 := e9.symm
  subst e9
  refine x_aload_n C dX8_slacken_19 rfl rfl ?_
  refine x_get C f_Tab_10 ((up_n (adne hj (by omega) (by omega) (by omega))).trans up_s) rfl dX8_slacken_20 ?_
  refine x_get C f_Tab_58 ((up_n (adne hj (by omega) (by omega) (by omega))).trans ((up_n (adne hj (by omega) (by omega) (by omega))).trans ((up_n (adne hj (by omega) (by omega) (by omega))).trans T.2.1.1))) rfl dX8_slacken_23 ?_
  refine x_aload_n C dX8_slacken_26 rfl rfl ?_
  refine x_get C f_Tab_10 ((up_n (adne hj (by omega) (by omega) (by omega))).trans up_s) rfl dX8_slacken_27 ?_
  refine x_invV C s_Tab_87 (st := [vi (Q.n : Int)]) (c_Instr_slackCount ((up_n (adne hj (by omega) (by omega) (by omega))).trans ((up_n (adne hj (by omega) (by omega) (by omega))).trans ((up_n (adne hj (by omega) (by omega) (by omega))).trans T.2.1.1))) ((up_n (adne hj (by omega) (by omega) (by omega))).trans ((up_n (adne hj (by omega) (by omega) (by omega))).trans up_s))) ((up_n (adne hj (by omega) (by omega) (by omega))).trans ((up_n (adne hj (by omega) (by omega) (by omega))).trans ((up_n (adne hj (by omega) (by omega) (by omega))).trans T.2.1.1))) rfl rfl (Nat.le_of_ble_eq_true rfl) (xRm_of hR (by omega) (by decide) (by omega) (by omega)) dX8_slacken_30 (fun r9 h9 hq => ?_)
  obtain ⟨rfl, e9⟩ := hq
  have e9 := e9.symm
  subst e9
  refine x_isub C dX8_slacken_33 ?_
  have hk : ∀ i, own i → i ≠ 0 → i ≠ 1 → i ≠ 2 → i ≠ 3 → i ≠ 9 → (va_up (va_up (va_up h (ad (1 + 2)) (xZ G 6 (va_up Q.sl s b))) (ad 0) (xO 7 [.ref (ad 1), .ref (ad 4), .ref (ad 7), .ref (ad 100), .ref (ad 200), .ref (ad 9), .ref (ad 12), vi (b2i true)])) (ad 9) (xO 6 [vi p9.1, vi p9.2.1, vi p9.2.2.1, vi ((p9.2.2.2 : Nat) : Int), vi ((0 : Nat) : Int), vi (bass9 : Int), vi (fm9 : Int), .ref (ad 10)])) (ad i) = h (ad i) := fun i ho n0 n1 n2 n3 n9 => ((up_n (adne hj (by omega) (own_lt ho) (by omega))).trans ((up_n (adne hj (by omega) (own_lt ho) (by omega))).trans ((up_n (adne hj (by omega) (own_lt ho) (by omega))).trans rfl)))
  have IV2 : IV (Ins.n (Q.n, Q.op, va_up Q.sl s b, Q.cp, Q.rc)) (Ins.op (Q.n, Q.op, va_up Q.sl s b, Q.cp, Q.rc)) (Ins.cp (Q.n, Q.op, va_up Q.sl s b, Q.cp, Q.rc)) (Ins.rc (Q.n, Q.op, va_up Q.sl s b, Q.cp, Q.rc)) := IV1
  exact x_iret C E rfl (by omega) (by omega) dX8_slacken_34 (⟨rfl, TabR.instr (h1 := (va_up (va_up (va_up h (ad (1 + 2)) (xZ G 6 (va_up Q.sl s b))) (ad 0) (xO 7 [.ref (ad 1), .ref (ad 4), .ref (ad 7), .ref (ad 100), .ref (ad 200), .ref (ad 9), .ref (ad 12), vi (b2i true)])) (ad 9) (xO 6 [vi p9.1, vi p9.2.1, vi p9.2.2.1, vi ((p9.2.2.2 : Nat) : Int), vi ((0 : Nat) : Int), vi (bass9 : Int), vi (fm9 : Int), .ref (ad 10)]))) (I2 := (Q.n, Q.op, va_up Q.sl s b, Q.cp, Q.rc)) T ((up_n (adne hj (by omega) (by omega) (by omega))).trans up_s) ⟨((up_n (adne hj (by omega) (by omega) (by omega))).trans ((up_n (adne hj (by omega) (by omega) (by omega))).trans ((up_n (adne hj (by omega) (by omega) (by omega))).trans T.2.1.1))), ((up_n (adne hj (by omega) (by omega) (by omega))).trans ((up_n (adne hj (by omega) (by omega) (by omega))).trans ((up_n (adne hj (by omega) (by omega) (by omega))).trans T.2.1.2.1))), ((up_n (adne hj (by omega) (by omega) (by omega))).trans ((up_n (adne hj (by omega) (by omega) (by omega))).trans up_s))⟩ ⟨p9, bass9, fm9, up_s, hv1, hv2.2.1, hv2.2.2⟩ hk IV2, (frO.up (frO.up (frO.up (frO.refl ad h) (i := (1 + 2)) (by unfold own; omega) _) (i := 0) (by unfold own; omega) _) (i := 9) (by unfold own; omega) _)⟩)

set_option maxRecDepth 100000 in
set_option maxHeartbeats 4000000 in
theorem c_capo {G : xG} {h : PH} {ad : Nat → Nat} (hj : ∀ i j, i < 300 → j < 300 → ad i = ad j → i = j) {fq : Bool} {Q : Ins} {P : Pie} (T : TabR G h ad fq Q P) {z : Int} (hz : 0 ≤ z ∧ z ≤ 7) : Cn G m_Tab_capo 2 0 0 [.ref (ad 0), vi z] h (fun r h' => r = some (vi Q.cp) ∧ TabR G h' ad false (Q.n, Q.op, Q.sl, z, Q.rc) P ∧ frO ad h h') := by
  refine Cn_of (by decide) (Nat.le_of_ble_eq_true rfl) (fun K C hR E => ?_)
  obtain ⟨st, hst, h0, hPA, hPF⟩ := id T.1
  have IV1 := T.2.2.2.2.2.2.2.1
  have CV1 := T.2.2.2.2.2.2.2.2
  have IVn := IV1.1
  have CVm := CV1.1
  obtain ⟨hvH, p9, cls9, bass9, fm9, hv0, hv1, hv2, hv3⟩ := id T.2.2.2.2.2.2.1
  show X G K 3 0 [some (.ref (ad 0)), some (vi z), none] [] h 0 0
  refine x_iload_n C dX8_capo_0 rfl rfl ?_
  refine x_invS C s_Tab_91 (st := []) (c_needCapo hz) rfl rfl (Nat.le_of_ble_eq_true rfl) (xRm_of hR (by omega) (by decide) (by omega) (by omega)) dX8_capo_1 (fun r9 h9 hq => ?_)
  obtain ⟨rfl, e9⟩ := hq
  have e9 := e9.symm
  subst e9
  refine x_aload_n C dX8_capo_4 rfl rfl ?_
  refine x_get C f_Tab_10 h0 rfl dX8_capo_5 ?_
  refine x_get C f_Tab_94 T.2.1.1 rfl dX8_capo_8 ?_
  refine x_istore_n C (ls' := [some (.ref (ad 0)), some (vi z), some (vi Q.cp)]) dX8_capo_11 rfl (by decide) rfl ?_
  refine x_aload_n C dX8_capo_12 rfl rfl ?_
  refine x_get C f_Tab_10 h0 rfl dX8_capo_13 ?_
  refine x_iload_n C dX8_capo_16 rfl rfl ?_
  refine x_put C p_Tab_94 T.2.1.1 (fit_int _) (Nat.le_of_ble_eq_true rfl) (h1 := (va_up h (ad 1) (xO 3 [.ref (ad (1 + 1)), .ref (ad (1 + 2)), vi (Q.n : Int), vi z, vi Q.rc]))) rfl dX8_capo_17 ?_
  refine x_aload_n C dX8_capo_20 rfl rfl ?_
  refine x_invV C s_Tab_73 (st := []) (c_instrChanged hj ((up_n (adne hj (by omega) (by omega) (by omega))).trans h0) ((up_n (adne hj (by omega) (by omega) (by omega))).trans hv0)) ((up_n (adne hj (by omega) (by omega) (by omega))).trans h0) rfl rfl (Nat.le_of_ble_eq_true rfl) (xRm_of hR (by omega) (by decide) (by omega) (by omega)) dX8_capo_21 (fun r9 h9 hq => ?_)
  obtain ⟨rfl, e9⟩ := hq
  have e9 := e9.symm
  subst e9
  refine x_iload_n C dX8_capo_24 rfl rfl ?_
  have hk : ∀ i, own i → i ≠ 0 → i ≠ 1 → i ≠ 2 → i ≠ 3 → i ≠ 9 → (va_up (va_up (va_up h (ad 1) (xO 3 [.ref (ad (1 + 1)), .ref (ad (1 + 2)), vi (Q.n : Int), vi z, vi Q.rc])) (ad 0) (xO 7 [.ref (ad 1), .ref (ad 4), .ref (ad 7), .ref (ad 100), .ref (ad 200), .ref (ad 9), .ref (ad 12), vi (b2i true)])) (ad 9) (xO 6 [vi p9.1, vi p9.2.1, vi p9.2.2.1, vi ((p9.2.2.2 : Nat) : Int), vi ((0 : Nat) : Int), vi (bass9 : Int), vi (fm9 : Int), .ref (ad 10)])) (ad i) = h (ad i) := fun i ho n0 n1 n2 n3 n9 => ((up_n (adne hj (by omega) (own_lt ho) (by omega))).trans ((up_n (adne hj (by omega) (own_lt ho) (by omega))).trans ((up_n (adne hj (by omega) (own_lt ho) (by omega))).trans rfl)))
  have IV2 : IV (Ins.n (Q.n, Q.op, Q.sl, z, Q.rc)) (Ins.op (Q.n, Q.op, Q.sl, z, Q.rc)) (Ins.cp (Q.n, Q.op, Q.sl, z, Q.rc)) (Ins.rc (Q.n, Q.op, Q.sl, z, Q.rc)) := ⟨IV1.1, IV1.2.1, hz, IV1.2.2.2⟩
  exact x_iret C E rfl (by omega) (by omega) dX8_capo_25 (⟨rfl, TabR.instr (h1 := (va_up (va_up (va_up h (ad 1) (xO 3 [.ref (ad (1 + 1)), .ref (ad (1 + 2)), vi (Q.n : Int), vi z, vi Q.rc])) (ad 0) (xO 7 [.ref (ad 1), .ref (ad 4), .ref (ad 7), .ref (ad 100), .ref (ad 200), .ref (ad 9), .ref (ad 12), vi (b2i true)])) (ad 9) (xO 6 [vi p9.1, vi p9.2.1, vi p9.2.2.1, vi ((p9.2.2.2 : Nat) : Int), vi ((0 : Nat) : Int), vi (bass9 : Int), vi (fm9 : Int), .ref (ad 10)]))) (I2 := (Q.n, Q.op, Q.sl, z, Q.rc)) T ((up_n (adne hj (by omega) (by omega) (by omega))).trans up_s) ⟨((up_n (adne hj (by omega) (by omega) (by omega))).trans ((up_n (adne hj (by omega) (by omega) (by omega))).trans up_s)), ((up_n (adne hj (by omega) (by omega) (by omega))).trans ((up_n (adne hj (by omega) (by omega) (by omega))).trans ((up_n (adne hj (by omega) (by omega) (by omega))).trans T.2.1.2.1))), ((up_n (adne hj (by omega) (by omega) (by omega))).trans ((up_n (adne hj (by omega) (by omega) (by omega))).trans ((up_n (adne hj (by omega) (by omega) (by omega))).trans T.2.1.2.2)))⟩ ⟨p9, bass9, fm9, up_s, hv1, hv2.2.1, hv2.2.2⟩ hk IV2, (frO.up (frO.up (frO.up (frO.refl ad h) (i := 1) (by unfold own; omega) _) (i := 0) (by unfold own; omega) _) (i := 9) (by unfold own; omega) _)⟩)

set_option maxRecDepth 100000 in
set_option maxHeartbeats 4000000 in
theorem c_reach {G : xG} {h : PH} {ad : Nat → Nat} (hj : ∀ i j, i < 300 → j < 300 → ad i = ad j → i = j) {fq : Bool} {Q : Ins} {P : Pie} (T : TabR G h ad fq Q P) {z : Int} (hz : 1 ≤ z ∧ z ≤ 6) : Cn G m_Tab_reach 2 0 0 [.ref (ad 0), vi z] h (fun r h' => r = some (vi Q.rc) ∧ TabR G h' ad false (Q.n, Q.op, Q.sl, Q.cp, z) P ∧ frO ad h h') := by
  refine Cn_of (by decide) (Nat.le_of_ble_eq_true rfl) (fun K C hR E => ?_)
  obtain ⟨st, hst, h0, hPA, hPF⟩ := id T.1
  have IV1 := T.2.2.2.2.2.2.2.1
  have CV1 := T.2.2.2.2.2.2.2.2
  have IVn := IV1.1
  have CVm := CV1.1
  obtain ⟨hvH, p9, cls9, bass9, fm9, hv0, hv1, hv2, hv3⟩ := id T.2.2.2.2.2.2.1
  show X G K 3 0 [some (.ref (ad 0)), some (vi z), none] [] h 0 0
  refine x_iload_n C dX8_reach_0 rfl rfl ?_
  refine x_invS C s_Tab_97 (st := []) (c_needReach hz) rfl rfl (Nat.le_of_ble_eq_true rfl) (xRm_of hR (by omega) (by decide) (by omega) (by omega)) dX8_reach_1 (fun r9 h9 hq => ?_)
  obtain ⟨rfl, e9⟩ := hq
  have e9 := e9.symm
  subst e9
  refine x_aload_n C dX8_reach_4 rfl rfl ?_
  refine x_get C f_Tab_10 h0 rfl dX8_reach_5 ?_
  refine x_get C f_Tab_100 T.2.1.1 rfl dX8_reach_8 ?_
  refine x_istore_n C (ls' := [some (.ref (ad 0)), some (vi z), some (vi Q.rc)]) dX8_reach_11 rfl (by decide) rfl ?_
  refine x_aload_n C dX8_reach_12 rfl rfl ?_
  refine x_get C f_Tab_10 h0 rfl dX8_reach_13 ?_
  refine x_iload_n C dX8_reach_16 rfl rfl ?_
  refine x_put C p_Tab_100 T.2.1.1 (fit_int _) (Nat.le_of_ble_eq_true rfl) (h1 := (va_up h (ad 1) (xO 3 [.ref (ad (1 + 1)), .ref (ad (1 + 2)), vi (Q.n : Int), vi Q.cp, vi z]))) rfl dX8_reach_17 ?_
  refine x_aload_n C dX8_reach_20 rfl rfl ?_
  refine x_invV C s_Tab_73 (st := []) (c_instrChanged hj ((up_n (adne hj (by omega) (by omega) (by omega))).trans h0) ((up_n (adne hj (by omega) (by omega) (by omega))).trans hv0)) ((up_n (adne hj (by omega) (by omega) (by omega))).trans h0) rfl rfl (Nat.le_of_ble_eq_true rfl) (xRm_of hR (by omega) (by decide) (by omega) (by omega)) dX8_reach_21 (fun r9 h9 hq => ?_)
  obtain ⟨rfl, e9⟩ := hq
  have e9 := e9.symm
  subst e9
  refine x_iload_n C dX8_reach_24 rfl rfl ?_
  have hk : ∀ i, own i → i ≠ 0 → i ≠ 1 → i ≠ 2 → i ≠ 3 → i ≠ 9 → (va_up (va_up (va_up h (ad 1) (xO 3 [.ref (ad (1 + 1)), .ref (ad (1 + 2)), vi (Q.n : Int), vi Q.cp, vi z])) (ad 0) (xO 7 [.ref (ad 1), .ref (ad 4), .ref (ad 7), .ref (ad 100), .ref (ad 200), .ref (ad 9), .ref (ad 12), vi (b2i true)])) (ad 9) (xO 6 [vi p9.1, vi p9.2.1, vi p9.2.2.1, vi ((p9.2.2.2 : Nat) : Int), vi ((0 : Nat) : Int), vi (bass9 : Int), vi (fm9 : Int), .ref (ad 10)])) (ad i) = h (ad i) := fun i ho n0 n1 n2 n3 n9 => ((up_n (adne hj (by omega) (own_lt ho) (by omega))).trans ((up_n (adne hj (by omega) (own_lt ho) (by omega))).trans ((up_n (adne hj (by omega) (own_lt ho) (by omega))).trans rfl)))
  have IV2 : IV (Ins.n (Q.n, Q.op, Q.sl, Q.cp, z)) (Ins.op (Q.n, Q.op, Q.sl, Q.cp, z)) (Ins.cp (Q.n, Q.op, Q.sl, Q.cp, z)) (Ins.rc (Q.n, Q.op, Q.sl, Q.cp, z)) := ⟨IV1.1, IV1.2.1, IV1.2.2.1, hz⟩
  exact x_iret C E rfl (by omega) (by omega) dX8_reach_25 (⟨rfl, TabR.instr (h1 := (va_up (va_up (va_up h (ad 1) (xO 3 [.ref (ad (1 + 1)), .ref (ad (1 + 2)), vi (Q.n : Int), vi Q.cp, vi z])) (ad 0) (xO 7 [.ref (ad 1), .ref (ad 4), .ref (ad 7), .ref (ad 100), .ref (ad 200), .ref (ad 9), .ref (ad 12), vi (b2i true)])) (ad 9) (xO 6 [vi p9.1, vi p9.2.1, vi p9.2.2.1, vi ((p9.2.2.2 : Nat) : Int), vi ((0 : Nat) : Int), vi (bass9 : Int), vi (fm9 : Int), .ref (ad 10)]))) (I2 := (Q.n, Q.op, Q.sl, Q.cp, z)) T ((up_n (adne hj (by omega) (by omega) (by omega))).trans up_s) ⟨((up_n (adne hj (by omega) (by omega) (by omega))).trans ((up_n (adne hj (by omega) (by omega) (by omega))).trans up_s)), ((up_n (adne hj (by omega) (by omega) (by omega))).trans ((up_n (adne hj (by omega) (by omega) (by omega))).trans ((up_n (adne hj (by omega) (by omega) (by omega))).trans T.2.1.2.1))), ((up_n (adne hj (by omega) (by omega) (by omega))).trans ((up_n (adne hj (by omega) (by omega) (by omega))).trans ((up_n (adne hj (by omega) (by omega) (by omega))).trans T.2.1.2.2)))⟩ ⟨p9, bass9, fm9, up_s, hv1, hv2.2.1, hv2.2.2⟩ hk IV2, (frO.up (frO.up (frO.up (frO.refl ad h) (i := 1) (by unfold own; omega) _) (i := 0) (by unfold own; omega) _) (i := 9) (by unfold own; omega) _)⟩)

def addP (p : Int) (x : Nat × (Nat → Int)) : Nat × (Nat → Int) := if p = -1 then x else (x.1 + 1, va_up x.2 x.1 p)
theorem addP_1 (p : Int) (x : Nat × (Nat → Int)) : (if p = -1 then (x.1 : Int) else (x.1 : Int) + 1) = ((addP p x).1 : Int) := by
  unfold addP
  by_cases q : p = -1
  · rw [if_pos q, if_pos q]
  · rw [if_neg q, if_neg q]; rfl
theorem addP_2 (p : Int) (x : Nat × (Nat → Int)) : (if p = -1 then x.2 else va_up x.2 x.1 p) = (addP p x).2 := by
  unfold addP
  by_cases q : p = -1
  · rw [if_pos q, if_pos q]
  · rw [if_neg q, if_neg q]
theorem addP_le (p : Int) (x : Nat × (Nat → Int)) : (addP p x).1 ≤ x.1 + 1 := by
  unfold addP
  split
  · omega
  · exact Nat.le_refl _
theorem addP_V {p : Int} {x : Nat × (Nat → Int)} (hp : -1 ≤ p ∧ p ≤ 80) (h : (∀ j, bd (x.2 j)) ∧ ∀ j, j < x.1 → 0 ≤ x.2 j ∧ x.2 j ≤ 80) : (∀ j, bd ((addP p x).2 j)) ∧ ∀ j, j < (addP p x).1 → 0 ≤ (addP p x).2 j ∧ (addP p x).2 j ≤ 80 := by
  unfold addP
  by_cases q : p = -1
  · rw [if_pos q]; exact h
  · rw [if_neg q]
    refine ⟨up_bd h.1 ⟨by omega, by omega⟩, fun j hj => ?_⟩
    have hj : j < x.1 + 1 := hj
    show 0 ≤ va_up x.2 x.1 p j ∧ va_up x.2 x.1 p j ≤ 80
    by_cases w : j = x.1
    · subst w; rw [up_s]; omega
    · rw [up_n w]; exact h.2 j (by omega)
theorem PieceR.put {G : xG} {h h1 : PH} {ad : Nat → Nat} {m m2 : Nat} {si : Nat → Nat} {pt : Nat → Nat → Int} {cl cf : Nat → Int} (P : PieceR G h ad m si pt cl cf) {c k : Nat} {q : Nat → Int} {l z : Int} (h7 : h1 (ad 7) = xO 4 [.ref (ad 8), vi (m2 : Int)]) (h8 : h1 (ad 8) = h (ad 8)) (hc1 : h1 (ad (20 + c)) = xO 0 [.ref (ad (40 + c)), vi (k : Int), vi l, vi z]) (hc2 : h1 (ad (40 + c)) = xI G 4 q) (hk : ∀ d, d < 12 → d ≠ c → h1 (ad (20 + d)) = h (ad (20 + d)) ∧ h1 (ad (40 + d)) = h (ad (40 + d))) : PieceR G h1 ad m2 (va_up si c k) (va_up pt c q) (va_up cl c l) (va_up cf c z) := by
  refine ⟨h7, h8.trans P.2.1, fun d hd => ?_⟩
  by_cases w : d = c
  · subst w
    rw [up_s, up_s, up_s, up_s]
    exact ⟨hc1, hc2⟩
  · rw [up_n w, up_n w, up_n w, up_n w]
    exact ⟨(hk d hd w).1.trans (P.2.2 d hd).1, (hk d hd w).2.trans (P.2.2 d hd).2⟩

set_option maxRecDepth 100000 in
set_option maxHeartbeats 4000000 in
theorem c_append {G : xG} {h : PH} {ad : Nat → Nat} (hj : ∀ i j, i < 300 → j < 300 → ad i = ad j → i = j) {fq : Bool} {Q : Ins} {P : Pie} (T : TabR G h ad fq Q P) (hm : P.m < 12) {l : Int} : Cn G m_Piece_append 1 0 0 [.ref (ad 7), vi l] h (fun r h' => r = some (.ref (ad (20 + P.m))) ∧ h' = va_up (va_up h (ad (20 + P.m)) (xO 0 [.ref (ad (40 + P.m)), vi 0, vi l, vi (-1)])) (ad 7) (xO 4 [.ref (ad 8), vi ((P.m : Int) + 1)])) := by
  refine Cn_of (by decide) (Nat.le_of_ble_eq_true rfl) (fun K C hR E => ?_)
  have IV1 := T.2.2.2.2.2.2.2.1
  have CV1 := T.2.2.2.2.2.2.2.2
  have IVn := IV1.1
  have CVm := CV1.1
  show X G K 3 0 [some (.ref (ad 7)), some (vi l), none] [] h 0 0
  refine x_aload_n C dX5_append_0 rfl rfl ?_
  refine x_get C f_Piece_17 T.2.2.2.1.1 rfl dX5_append_1 ?_
  refine x_bipush C (z := 11) dX5_append_4 (by decide) ?_
  refine x_min C s_Piece_22 static_Math_min i_Math code_Math_min ⟨by omega, by omega⟩ (by decide) (Nat.le_of_ble_eq_true rfl) hR (by omega) (by omega) (by omega) dX5_append_6 ?_
  refine x_re (b := (P.m : Int)) (by split <;> omega) ?_
  refine x_istore_n C (ls' := [some (.ref (ad 7)), some (vi l), some (vi (P.m : Int))]) dX5_append_9 rfl (by decide) rfl ?_
  refine x_aload_n C dX5_append_10 rfl rfl ?_
  refine x_get C f_Piece_11 T.2.2.2.1.1 rfl dX5_append_11 ?_
  refine x_iload_n C dX5_append_14 rfl rfl ?_
  refine x_aald C (t := 4) rfl rfl T.2.2.2.1.2.1 ⟨by omega, by omega, by omega⟩ (b := (ad (20 + (P.m : Int).toNat))) rfl dX5_append_15 ?_
  refine x_iload_n C dX5_append_16 rfl rfl ?_
  refine x_invV C s_Piece_28 (st := []) (c_Chord_clear (T.2.2.2.1.2.2 P.m (by omega)).1 (n2 := l)) (T.2.2.2.1.2.2 (P.m : Int).toNat (by omega)).1 rfl rfl (Nat.le_of_ble_eq_true rfl) (xRm_of hR (by omega) (by decide) (by omega) (by omega)) dX5_append_17 (fun r9 h9 hq => ?_)
  obtain ⟨rfl, e9⟩ := hq
  have e9 := e9.symm
  subst e9
  refine x_aload_n C dX5_append_20 rfl rfl ?_
  refine x_iload_n C dX5_append_21 rfl rfl ?_
  refine x_iconst C dX5_append_22 ?_
  refine x_iadd C dX5_append_23 ?_
  refine x_put C p_Piece_17 ((up_n (adne hj (by omega) (by omega) (by omega))).trans T.2.2.2.1.1) (fit_int _) (Nat.le_of_ble_eq_true rfl) (h1 := (va_up (va_up h (ad (20 + P.m)) (xO 0 [.ref (ad (40 + P.m)), vi 0, vi l, vi (-1)])) (ad 7) (xO 4 [.ref (ad 8), vi ((P.m : Int) + 1)]))) rfl dX5_append_24 ?_
  refine x_aload_n C dX5_append_27 rfl rfl ?_
  refine x_get C f_Piece_11 up_s rfl dX5_append_28 ?_
  refine x_iload_n C dX5_append_31 rfl rfl ?_
  refine x_aald C (t := 4) rfl rfl ((up_n (adne hj (by omega) (by omega) (by omega))).trans ((up_n (adne hj (by omega) (by omega) (by omega))).trans T.2.2.2.1.2.1)) ⟨by omega, by omega, by omega⟩ (b := (ad (20 + (P.m : Int).toNat))) rfl dX5_append_32 ?_
  exact x_aret C E rfl (by first | exact Or.inl ⟨_, rfl⟩ | exact Or.inr ⟨_, rfl⟩) (by omega) (by omega) dX5_append_33 (⟨rfl, rfl⟩)

set_option maxRecDepth 100000 in
set_option maxHeartbeats 4000000 in
theorem c_chord {G : xG} {h : PH} {ad : Nat → Nat} (hj : ∀ i j, i < 300 → j < 300 → ad i = ad j → i = j) {fq : Bool} {Q : Ins} {P : Pie} (T : TabR G h ad fq Q P) {a b c d l : Int} (ha : 0 ≤ a ∧ a ≤ 80) (hb : -1 ≤ b ∧ b ≤ 80) (hc : -1 ≤ c ∧ c ≤ 80) (hd9 : -1 ≤ d ∧ d ≤ 80) (ht : twice a b c d = false) (hl : 1 ≤ l ∧ l ≤ 8) (hm : P.m < 12) : Cn G m_Tab_chord 3 0 0 [.ref (ad 0), vi a, vi b, vi c, vi d, vi l] h (fun r h' => r = some (vi (P.m : Int)) ∧ TabR G h' ad false Q (P.m + 1, va_up P.si P.m (addP d (addP c (addP b (addP a ((0, P.pt P.m) : Nat × (Nat → Int)))))).1, va_up P.pt P.m (addP d (addP c (addP b (addP a ((0, P.pt P.m) : Nat × (Nat → Int)))))).2, va_up P.cl P.m l, va_up P.cf P.m (-1)) ∧ frO ad h h') := by
  refine Cn_of (by decide) (Nat.le_of_ble_eq_true rfl) (fun K C hR E => ?_)
  obtain ⟨st, hst, h0, hPA, hPF⟩ := id T.1
  have IV1 := T.2.2.2.2.2.2.2.1
  have CV1 := T.2.2.2.2.2.2.2.2
  have IVn := IV1.1
  have CVm := CV1.1
  have xl1 := addP_le a ((0, P.pt P.m) : Nat × (Nat → Int))
  have xl2 := addP_le b (addP a ((0, P.pt P.m) : Nat × (Nat → Int)))
  have xl3 := addP_le c (addP b (addP a ((0, P.pt P.m) : Nat × (Nat → Int))))
  have xl4 := addP_le d (addP c (addP b (addP a ((0, P.pt P.m) : Nat × (Nat → Int)))))
  have xl0 : ((0, P.pt P.m) : Nat × (Nat → Int)).1 = 0 := rfl
  have xv := addP_V (p := d) (x := (addP c (addP b (addP a ((0, P.pt P.m) : Nat × (Nat → Int)))))) hd9 (addP_V (p := c) (x := (addP b (addP a ((0, P.pt P.m) : Nat × (Nat → Int))))) hc (addP_V (p := b) (x := (addP a ((0, P.pt P.m) : Nat × (Nat → Int)))) hb (addP_V (p := a) (x := ((0, P.pt P.m) : Nat × (Nat → Int))) ⟨by omega, ha.2⟩ ⟨fun j => CV1.2.2.1 P.m j, fun j hj9 => absurd hj9 (Nat.not_lt_zero _)⟩)))
  have CV2 : CV (Pie.m (P.m + 1, va_up P.si P.m (addP d (addP c (addP b (addP a ((0, P.pt P.m) : Nat × (Nat → Int)))))).1, va_up P.pt P.m (addP d (addP c (addP b (addP a ((0, P.pt P.m) : Nat × (Nat → Int)))))).2, va_up P.cl P.m l, va_up P.cf P.m (-1))) (Pie.si (P.m + 1, va_up P.si P.m (addP d (addP c (addP b (addP a ((0, P.pt P.m) : Nat × (Nat → Int)))))).1, va_up P.pt P.m (addP d (addP c (addP b (addP a ((0, P.pt P.m) : Nat × (Nat → Int)))))).2, va_up P.cl P.m l, va_up P.cf P.m (-1))) (Pie.pt (P.m + 1, va_up P.si P.m (addP d (addP c (addP b (addP a ((0, P.pt P.m) : Nat × (Nat → Int)))))).1, va_up P.pt P.m (addP d (addP c (addP b (addP a ((0, P.pt P.m) : Nat × (Nat → Int)))))).2, va_up P.cl P.m l, va_up P.cf P.m (-1))) (Pie.cl (P.m + 1, va_up P.si P.m (addP d (addP c (addP b (addP a ((0, P.pt P.m) : Nat × (Nat → Int)))))).1, va_up P.pt P.m (addP d (addP c (addP b (addP a ((0, P.pt P.m) : Nat × (Nat → Int)))))).2, va_up P.cl P.m l, va_up P.cf P.m (-1))) (Pie.cf (P.m + 1, va_up P.si P.m (addP d (addP c (addP b (addP a ((0, P.pt P.m) : Nat × (Nat → Int)))))).1, va_up P.pt P.m (addP d (addP c (addP b (addP a ((0, P.pt P.m) : Nat × (Nat → Int)))))).2, va_up P.cl P.m l, va_up P.cf P.m (-1))) := by
    refine ⟨by show P.m + 1 ≤ 12; omega, fun e => ?_, fun e j => ?_, fun e j he hj9 => ?_, fun e => ?_⟩
    · show va_up P.si P.m _ e ≤ 4
      by_cases w : e = P.m
      · subst w; rw [up_s]; omega
      · rw [up_n w]; exact CV1.2.1 e
    · show bd (va_up P.pt P.m _ e j)
      by_cases w : e = P.m
      · subst w; rw [up_s]; exact xv.1 j
      · rw [up_n w]; exact CV1.2.2.1 e j
    · have he : e < P.m + 1 := he
      have hj9 : j < va_up P.si P.m _ e := hj9
      show 0 ≤ va_up P.pt P.m _ e j ∧ va_up P.pt P.m _ e j ≤ 80
      by_cases w : e = P.m
      · subst w; rw [up_s] at hj9 ⊢; exact xv.2 j hj9
      · rw [up_n w] at hj9 ⊢; exact CV1.2.2.2.1 e j (by omega) hj9
    · show bd (va_up P.cl P.m l e) ∧ bd (va_up P.cf P.m (-1) e)
      exact ⟨up_bd (fun e => (CV1.2.2.2.2 e).1) ⟨by omega, by omega⟩ e, up_bd (fun e => (CV1.2.2.2.2 e).2) ⟨by decide, by decide⟩ e⟩
  show X G K 7 0 [some (.ref (ad 0)), some (vi a), some (vi b), some (vi c), some (vi d), some (vi l), none] [] h 0 0
  refine x_iload_n C dX8_chord_0 rfl rfl ?_
  refine x_invS C s_Tab_103 (st := []) (c_isPitch (v := a) ⟨by omega, by omega⟩) rfl rfl (Nat.le_of_ble_eq_true rfl) (xRm_of hR (by omega) (by decide) (by omega) (by omega)) dX8_chord_1 (fun r9 h9 hq => ?_)
  obtain ⟨rfl, e9⟩ := hq
  have e9 := e9.symm
  subst e9
  rw [show decide (0 ≤ a ∧ a ≤ 80) = true from decide_eq_true ha]
  refine x_ifeqB C (tgt := 29) dX8_chord_4 (by decide) (fun c4 => ?_) (fun c4 => ?_)
  · skip
    exact absurd c4 (by decide)
  · skip
    refine x_iload_n C dX8_chord_7 rfl rfl ?_
    refine x_invS C s_Tab_116 (st := []) (c_isPitchOrNone (v := b) ⟨by omega, by omega⟩) rfl rfl (Nat.le_of_ble_eq_true rfl) (xRm_of hR (by omega) (by decide) (by omega) (by omega)) dX8_chord_8 (fun r9 h9 hq => ?_)
    obtain ⟨rfl, e9⟩ := hq
    have e9 := e9.symm
    subst e9
    rw [show decide (-1 ≤ b ∧ b ≤ 80) = true from decide_eq_true hb]
    refine x_ifeqB C (tgt := 29) dX8_chord_11 (by decide) (fun c11 => ?_) (fun c11 => ?_)
    · skip
      exact absurd c11 (by decide)
    · skip
      refine x_iload_n C dX8_chord_14 rfl rfl ?_
      refine x_invS C s_Tab_116 (st := []) (c_isPitchOrNone (v := c) ⟨by omega, by omega⟩) rfl rfl (Nat.le_of_ble_eq_true rfl) (xRm_of hR (by omega) (by decide) (by omega) (by omega)) dX8_chord_15 (fun r9 h9 hq => ?_)
      obtain ⟨rfl, e9⟩ := hq
      have e9 := e9.symm
      subst e9
      rw [show decide (-1 ≤ c ∧ c ≤ 80) = true from decide_eq_true hc]
      refine x_ifeqB C (tgt := 29) dX8_chord_18 (by decide) (fun c18 => ?_) (fun c18 => ?_)
      · skip
        exact absurd c18 (by decide)
      · skip
        refine x_iload C dX8_chord_21 rfl ?_
        refine x_invS C s_Tab_116 (st := []) (c_isPitchOrNone (v := d) ⟨by omega, by omega⟩) rfl rfl (Nat.le_of_ble_eq_true rfl) (xRm_of hR (by omega) (by decide) (by omega) (by omega)) dX8_chord_23 (fun r9 h9 hq => ?_)
        obtain ⟨rfl, e9⟩ := hq
        have e9 := e9.symm
        subst e9
        rw [show decide (-1 ≤ d ∧ d ≤ 80) = true from decide_eq_true hd9]
        refine x_ifneB C (tgt := 39) dX8_chord_26 (by decide) (fun c26 => ?_) (fun c26 => ?_)
        · skip
          refine x_iload_n C dX8_chord_39 rfl rfl ?_
          refine x_iload_n C dX8_chord_40 rfl rfl ?_
          refine x_iload_n C dX8_chord_41 rfl rfl ?_
          refine x_iload C dX8_chord_42 rfl ?_
          refine x_invS C s_Tab_119 (st := []) (c_hasTwice ⟨by omega, by omega⟩ ⟨by omega, by omega⟩ ⟨by omega, by omega⟩ ⟨by omega, by omega⟩) rfl rfl (Nat.le_of_ble_eq_true rfl) (xRm_of hR (by omega) (by decide) (by omega) (by omega)) dX8_chord_44 (fun r9 h9 hq => ?_)
          obtain ⟨rfl, e9⟩ := hq
          have e9 := e9.symm
          subst e9
          refine x_ifeqB C (tgt := 60) dX8_chord_47 (by decide) (fun c47 => ?_) (fun c47 => ?_)
          · skip
            refine x_iload C dX8_chord_60 rfl ?_
            refine x_iconst C dX8_chord_62 ?_
            refine x_icmp_lt C (tgt := 73) dX8_chord_63 (by decide) ⟨by omega, by omega⟩ (by decide) (fun c63 => ?_) (fun c63 => ?_)
            · skip
              exfalso; omega
            · skip
              refine x_iload C dX8_chord_66 rfl ?_
              refine x_bipush C (z := 8) dX8_chord_68 (by decide) ?_
              refine x_icmp_le C (tgt := 83) dX8_chord_70 (by decide) ⟨by omega, by omega⟩ (by decide) (fun c70 => ?_) (fun c70 => ?_)
              · skip
                refine x_aload_n C dX8_chord_83 rfl rfl ?_
                refine x_get C f_Tab_22 h0 rfl dX8_chord_84 ?_
                refine x_get C f_Tab_127 T.2.2.2.1.1 rfl dX8_chord_87 ?_
                refine x_bipush C (z := 12) dX8_chord_90 (by decide) ?_
                refine x_icmp_lt C (tgt := 105) dX8_chord_92 (by decide) ⟨by omega, by omega⟩ (by decide) (fun c92 => ?_) (fun c92 => ?_)
                · skip
                  refine x_aload_n C dX8_chord_105 rfl rfl ?_
                  refine x_get C f_Tab_22 h0 rfl dX8_chord_106 ?_
                  refine x_iload C dX8_chord_109 rfl ?_
                  refine x_invV C s_Tab_130 (st := []) (c_append hj T hm (l := l)) T.2.2.2.1.1 rfl rfl (Nat.le_of_ble_eq_true rfl) (xRm_of hR (by omega) (by decide) (by omega) (by omega)) dX8_chord_111 (fun r9 h9 hq => ?_)
                  obtain ⟨rfl, e9⟩ := hq
                  have e9 := e9.symm
                  subst e9
                  refine x_astore C (ls' := [some (.ref (ad 0)), some (vi a), some (vi b), some (vi c), some (vi d), some (vi l), some (.ref (ad (20 + P.m)))]) dX8_chord_114 (by decide) rfl ?_
                  refine x_aload C dX8_chord_116 rfl ?_
                  refine x_iload_n C dX8_chord_118 rfl rfl ?_
                  refine x_invV C s_Tab_134 (st := []) (c_Chord_add (si := ((0, P.pt P.m) : Nat × (Nat → Int)).1) (pt := ((0, P.pt P.m) : Nat × (Nat → Int)).2) ((up_n (adne hj (by omega) (by omega) (by omega))).trans up_s) (by omega) ((up_n (adne hj (by omega) (by omega) (by omega))).trans ((up_n (adne hj (by omega) (by omega) (by omega))).trans (T.2.2.2.1.2.2 P.m (by omega)).2)) (adne hj (by omega) (by omega) (by omega)) (p := a) ⟨by omega, by omega⟩ (Or.inr (by omega))) ((up_n (adne hj (by omega) (by omega) (by omega))).trans up_s) rfl rfl (Nat.le_of_ble_eq_true rfl) (xRm_of hR (by omega) (by decide) (by omega) (by omega)) dX8_chord_119 (fun r9 h9 hq => ?_)
                  obtain ⟨rfl, e9⟩ := hq
                  rw [addP_1 a ((0, P.pt P.m) : Nat × (Nat → Int)), addP_2 a ((0, P.pt P.m) : Nat × (Nat → Int))] at e9
                  have e9 := e9.symm
                  subst e9
                  refine X.heq (h1 := (va_up (va_up (va_up h (ad (20 + P.m)) (xO 0 [.ref (ad (40 + P.m)), vi (((addP a ((0, P.pt P.m) : Nat × (Nat → Int))).1 : Nat) : Int), vi l, vi (-1)])) (ad 7) (xO 4 [.ref (ad 8), vi ((P.m : Int) + 1)])) (ad (40 + P.m)) (xI G 4 ((addP a ((0, P.pt P.m) : Nat × (Nat → Int))).2)))) ((congrArg (fun f => va_up f (ad (20 + P.m)) _) rfl).trans ((up_c _ _ _ (adne hj (by omega) (by omega) (by omega))).trans (congrArg (fun f => va_up f (ad (40 + P.m)) _) ((up_c _ _ _ (adne hj (by omega) (by omega) (by omega))).trans (congrArg (fun f => va_up f (ad 7) _) (up_u _ _ _ _)))))) ?_
                  refine x_aload C dX8_chord_122 rfl ?_
                  refine x_iload_n C dX8_chord_124 rfl rfl ?_
                  refine x_invV C s_Tab_134 (st := []) (c_Chord_add (si := (addP a ((0, P.pt P.m) : Nat × (Nat → Int))).1) (pt := (addP a ((0, P.pt P.m) : Nat × (Nat → Int))).2) ((up_n (adne hj (by omega) (by omega) (by omega))).trans ((up_n (adne hj (by omega) (by omega) (by omega))).trans up_s)) (by omega) up_s (adne hj (by omega) (by omega) (by omega)) (p := b) ⟨by omega, by omega⟩ (Or.inr (by omega))) ((up_n (adne hj (by omega) (by omega) (by omega))).trans ((up_n (adne hj (by omega) (by omega) (by omega))).trans up_s)) rfl rfl (Nat.le_of_ble_eq_true rfl) (xRm_of hR (by omega) (by decide) (by omega) (by omega)) dX8_chord_125 (fun r9 h9 hq => ?_)
                  obtain ⟨rfl, e9⟩ := hq
                  rw [addP_1 b (addP a ((0, P.pt P.m) : Nat × (Nat → Int))), addP_2 b (addP a ((0, P.pt P.m) : Nat × (Nat → Int)))] at e9
                  have e9 := e9.symm
                  subst e9
                  refine X.heq (h1 := (va_up (va_up (va_up h (ad (20 + P.m)) (xO 0 [.ref (ad (40 + P.m)), vi (((addP b (addP a ((0, P.pt P.m) : Nat × (Nat → Int)))).1 : Nat) : Int), vi l, vi (-1)])) (ad 7) (xO 4 [.ref (ad 8), vi ((P.m : Int) + 1)])) (ad (40 + P.m)) (xI G 4 ((addP b (addP a ((0, P.pt P.m) : Nat × (Nat → Int)))).2)))) ((congrArg (fun f => va_up f (ad (20 + P.m)) _) (up_u _ _ _ _)).trans ((up_c _ _ _ (adne hj (by omega) (by omega) (by omega))).trans (congrArg (fun f => va_up f (ad (40 + P.m)) _) ((up_c _ _ _ (adne hj (by omega) (by omega) (by omega))).trans (congrArg (fun f => va_up f (ad 7) _) (up_u _ _ _ _)))))) ?_
                  refine x_aload C dX8_chord_128 rfl ?_
                  refine x_iload_n C dX8_chord_130 rfl rfl ?_
                  refine x_invV C s_Tab_134 (st := []) (c_Chord_add (si := (addP b (addP a ((0, P.pt P.m) : Nat × (Nat → Int)))).1) (pt := (addP b (addP a ((0, P.pt P.m) : Nat × (Nat → Int)))).2) ((up_n (adne hj (by omega) (by omega) (by omega))).trans ((up_n (adne hj (by omega) (by omega) (by omega))).trans up_s)) (by omega) up_s (adne hj (by omega) (by omega) (by omega)) (p := c) ⟨by omega, by omega⟩ (Or.inr (by omega))) ((up_n (adne hj (by omega) (by omega) (by omega))).trans ((up_n (adne hj (by omega) (by omega) (by omega))).trans up_s)) rfl rfl (Nat.le_of_ble_eq_true rfl) (xRm_of hR (by omega) (by decide) (by omega) (by omega)) dX8_chord_131 (fun r9 h9 hq => ?_)
                  obtain ⟨rfl, e9⟩ := hq
                  rw [addP_1 c (addP b (addP a ((0, P.pt P.m) : Nat × (Nat → Int)))), addP_2 c (addP b (addP a ((0, P.pt P.m) : Nat × (Nat → Int))))] at e9
                  have e9 := e9.symm
                  subst e9
                  refine X.heq (h1 := (va_up (va_up (va_up h (ad (20 + P.m)) (xO 0 [.ref (ad (40 + P.m)), vi (((addP c (addP b (addP a ((0, P.pt P.m) : Nat × (Nat → Int))))).1 : Nat) : Int), vi l, vi (-1)])) (ad 7) (xO 4 [.ref (ad 8), vi ((P.m : Int) + 1)])) (ad (40 + P.m)) (xI G 4 ((addP c (addP b (addP a ((0, P.pt P.m) : Nat × (Nat → Int))))).2)))) ((congrArg (fun f => va_up f (ad (20 + P.m)) _) (up_u _ _ _ _)).trans ((up_c _ _ _ (adne hj (by omega) (by omega) (by omega))).trans (congrArg (fun f => va_up f (ad (40 + P.m)) _) ((up_c _ _ _ (adne hj (by omega) (by omega) (by omega))).trans (congrArg (fun f => va_up f (ad 7) _) (up_u _ _ _ _)))))) ?_
                  refine x_aload C dX8_chord_134 rfl ?_
                  refine x_iload C dX8_chord_136 rfl ?_
                  refine x_invV C s_Tab_134 (st := []) (c_Chord_add (si := (addP c (addP b (addP a ((0, P.pt P.m) : Nat × (Nat → Int))))).1) (pt := (addP c (addP b (addP a ((0, P.pt P.m) : Nat × (Nat → Int))))).2) ((up_n (adne hj (by omega) (by omega) (by omega))).trans ((up_n (adne hj (by omega) (by omega) (by omega))).trans up_s)) (by omega) up_s (adne hj (by omega) (by omega) (by omega)) (p := d) ⟨by omega, by omega⟩ (Or.inr (by omega))) ((up_n (adne hj (by omega) (by omega) (by omega))).trans ((up_n (adne hj (by omega) (by omega) (by omega))).trans up_s)) rfl rfl (Nat.le_of_ble_eq_true rfl) (xRm_of hR (by omega) (by decide) (by omega) (by omega)) dX8_chord_138 (fun r9 h9 hq => ?_)
                  obtain ⟨rfl, e9⟩ := hq
                  rw [addP_1 d (addP c (addP b (addP a ((0, P.pt P.m) : Nat × (Nat → Int))))), addP_2 d (addP c (addP b (addP a ((0, P.pt P.m) : Nat × (Nat → Int)))))] at e9
                  have e9 := e9.symm
                  subst e9
                  refine X.heq (h1 := (va_up (va_up (va_up h (ad (20 + P.m)) (xO 0 [.ref (ad (40 + P.m)), vi (((addP d (addP c (addP b (addP a ((0, P.pt P.m) : Nat × (Nat → Int)))))).1 : Nat) : Int), vi l, vi (-1)])) (ad 7) (xO 4 [.ref (ad 8), vi ((P.m : Int) + 1)])) (ad (40 + P.m)) (xI G 4 ((addP d (addP c (addP b (addP a ((0, P.pt P.m) : Nat × (Nat → Int)))))).2)))) ((congrArg (fun f => va_up f (ad (20 + P.m)) _) (up_u _ _ _ _)).trans ((up_c _ _ _ (adne hj (by omega) (by omega) (by omega))).trans (congrArg (fun f => va_up f (ad (40 + P.m)) _) ((up_c _ _ _ (adne hj (by omega) (by omega) (by omega))).trans (congrArg (fun f => va_up f (ad 7) _) (up_u _ _ _ _)))))) ?_
                  refine x_aload_n C dX8_chord_141 rfl rfl ?_
                  refine x_iconst C dX8_chord_142 ?_
                  refine x_put C p_Tab_50 ((up_n (adne hj (by omega) (by omega) (by omega))).trans ((up_n (adne hj (by omega) (by omega) (by omega))).trans ((up_n (adne hj (by omega) (by omega) (by omega))).trans h0))) (fit_bool true) (Nat.le_of_ble_eq_true rfl) (h1 := (va_up (va_up (va_up (va_up h (ad (20 + P.m)) (xO 0 [.ref (ad (40 + P.m)), vi (((addP d (addP c (addP b (addP a ((0, P.pt P.m) : Nat × (Nat → Int)))))).1 : Nat) : Int), vi l, vi (-1)])) (ad 7) (xO 4 [.ref (ad 8), vi ((P.m : Int) + 1)])) (ad (40 + P.m)) (xI G 4 ((addP d (addP c (addP b (addP a ((0, P.pt P.m) : Nat × (Nat → Int)))))).2))) (ad 0) (xO 7 [.ref (ad 1), .ref (ad 4), .ref (ad 7), .ref (ad 100), .ref (ad 200), .ref (ad 9), .ref (ad 12), vi (b2i true)]))) rfl dX8_chord_143 ?_
                  refine x_aload_n C dX8_chord_146 rfl rfl ?_
                  refine x_get C f_Tab_22 up_s rfl dX8_chord_147 ?_
                  refine x_get C f_Tab_127 ((up_n (adne hj (by omega) (by omega) (by omega))).trans ((up_n (adne hj (by omega) (by omega) (by omega))).trans up_s)) rfl dX8_chord_150 ?_
                  refine x_iconst C dX8_chord_153 ?_
                  refine x_isub C dX8_chord_154 ?_
                  have hk : ∀ i, own i → i ≠ 0 → i ≠ 7 → i ≠ 8 → i < 20 ∨ 52 ≤ i → (va_up (va_up (va_up (va_up h (ad (20 + P.m)) (xO 0 [.ref (ad (40 + P.m)), vi (((addP d (addP c (addP b (addP a ((0, P.pt P.m) : Nat × (Nat → Int)))))).1 : Nat) : Int), vi l, vi (-1)])) (ad 7) (xO 4 [.ref (ad 8), vi ((P.m : Int) + 1)])) (ad (40 + P.m)) (xI G 4 ((addP d (addP c (addP b (addP a ((0, P.pt P.m) : Nat × (Nat → Int)))))).2))) (ad 0) (xO 7 [.ref (ad 1), .ref (ad 4), .ref (ad 7), .ref (ad 100), .ref (ad 200), .ref (ad 9), .ref (ad 12), vi (b2i true)])) (ad i) = h (ad i) := fun i ho n0 n7 n8 n20 => ((up_n (adne hj (by omega) (own_lt ho) (by omega))).trans ((up_n (adne hj (by omega) (own_lt ho) (by omega))).trans ((up_n (adne hj (by omega) (own_lt ho) (by omega))).trans ((up_n (adne hj (by omega) (own_lt ho) (by omega))).trans rfl))))
                  have hd : ∀ e, e < 12 → e ≠ P.m → (va_up (va_up (va_up (va_up h (ad (20 + P.m)) (xO 0 [.ref (ad (40 + P.m)), vi (((addP d (addP c (addP b (addP a ((0, P.pt P.m) : Nat × (Nat → Int)))))).1 : Nat) : Int), vi l, vi (-1)])) (ad 7) (xO 4 [.ref (ad 8), vi ((P.m : Int) + 1)])) (ad (40 + P.m)) (xI G 4 ((addP d (addP c (addP b (addP a ((0, P.pt P.m) : Nat × (Nat → Int)))))).2))) (ad 0) (xO 7 [.ref (ad 1), .ref (ad 4), .ref (ad 7), .ref (ad 100), .ref (ad 200), .ref (ad 9), .ref (ad 12), vi (b2i true)])) (ad (20 + e)) = h (ad (20 + e)) ∧ (va_up (va_up (va_up (va_up h (ad (20 + P.m)) (xO 0 [.ref (ad (40 + P.m)), vi (((addP d (addP c (addP b (addP a ((0, P.pt P.m) : Nat × (Nat → Int)))))).1 : Nat) : Int), vi l, vi (-1)])) (ad 7) (xO 4 [.ref (ad 8), vi ((P.m : Int) + 1)])) (ad (40 + P.m)) (xI G 4 ((addP d (addP c (addP b (addP a ((0, P.pt P.m) : Nat × (Nat → Int)))))).2))) (ad 0) (xO 7 [.ref (ad 1), .ref (ad 4), .ref (ad 7), .ref (ad 100), .ref (ad 200), .ref (ad 9), .ref (ad 12), vi (b2i true)])) (ad (40 + e)) = h (ad (40 + e)) := fun e he9 hn => ⟨((up_n (adne hj (by omega) (by omega) (by omega))).trans ((up_n (adne hj (by omega) (by omega) (by omega))).trans ((up_n (adne hj (by omega) (by omega) (by omega))).trans ((up_n (adne hj (by omega) (by omega) (by omega))).trans rfl)))), ((up_n (adne hj (by omega) (by omega) (by omega))).trans ((up_n (adne hj (by omega) (by omega) (by omega))).trans ((up_n (adne hj (by omega) (by omega) (by omega))).trans ((up_n (adne hj (by omega) (by omega) (by omega))).trans rfl))))⟩
                  have PP2 := T.2.2.2.1.put (h1 := (va_up (va_up (va_up (va_up h (ad (20 + P.m)) (xO 0 [.ref (ad (40 + P.m)), vi (((addP d (addP c (addP b (addP a ((0, P.pt P.m) : Nat × (Nat → Int)))))).1 : Nat) : Int), vi l, vi (-1)])) (ad 7) (xO 4 [.ref (ad 8), vi ((P.m : Int) + 1)])) (ad (40 + P.m)) (xI G 4 ((addP d (addP c (addP b (addP a ((0, P.pt P.m) : Nat × (Nat → Int)))))).2))) (ad 0) (xO 7 [.ref (ad 1), .ref (ad 4), .ref (ad 7), .ref (ad 100), .ref (ad 200), .ref (ad 9), .ref (ad 12), vi (b2i true)]))) (c := P.m) (m2 := P.m + 1) ((up_n (adne hj (by omega) (by omega) (by omega))).trans ((up_n (adne hj (by omega) (by omega) (by omega))).trans up_s)) ((up_n (adne hj (by omega) (by omega) (by omega))).trans ((up_n (adne hj (by omega) (by omega) (by omega))).trans ((up_n (adne hj (by omega) (by omega) (by omega))).trans ((up_n (adne hj (by omega) (by omega) (by omega))).trans rfl)))) ((up_n (adne hj (by omega) (by omega) (by omega))).trans ((up_n (adne hj (by omega) (by omega) (by omega))).trans ((up_n (adne hj (by omega) (by omega) (by omega))).trans up_s))) ((up_n (adne hj (by omega) (by omega) (by omega))).trans up_s) hd
                  exact x_iret C E rfl (by omega) (by omega) dX8_chord_155 (⟨by rw [show (P.m : Int) + 1 - 1 = (P.m : Int) by omega], TabR.piece (h1 := (va_up (va_up (va_up (va_up h (ad (20 + P.m)) (xO 0 [.ref (ad (40 + P.m)), vi (((addP d (addP c (addP b (addP a ((0, P.pt P.m) : Nat × (Nat → Int)))))).1 : Nat) : Int), vi l, vi (-1)])) (ad 7) (xO 4 [.ref (ad 8), vi ((P.m : Int) + 1)])) (ad (40 + P.m)) (xI G 4 ((addP d (addP c (addP b (addP a ((0, P.pt P.m) : Nat × (Nat → Int)))))).2))) (ad 0) (xO 7 [.ref (ad 1), .ref (ad 4), .ref (ad 7), .ref (ad 100), .ref (ad 200), .ref (ad 9), .ref (ad 12), vi (b2i true)]))) (P2 := (P.m + 1, va_up P.si P.m (addP d (addP c (addP b (addP a ((0, P.pt P.m) : Nat × (Nat → Int)))))).1, va_up P.pt P.m (addP d (addP c (addP b (addP a ((0, P.pt P.m) : Nat × (Nat → Int)))))).2, va_up P.cl P.m l, va_up P.cf P.m (-1))) T up_s PP2 hk CV2, (frO.up (frO.up (frO.up (frO.up (frO.refl ad h) (i := (20 + P.m)) (by unfold own; omega) _) (i := 7) (by unfold own; omega) _) (i := (40 + P.m)) (by unfold own; omega) _) (i := 0) (by unfold own; omega) _)⟩)
                · skip
                  exfalso; omega
              · skip
                exfalso; omega
          · skip
            exfalso; rw [ht] at c47; exact absurd c47 (by decide)
        · skip
          exact absurd c26 (by decide)

theorem up_slf {α : Type} (f : Nat → α) {k : Nat} : va_up f k (f k) = f := by
  funext x
  by_cases q : x = k
  · subst q; rw [up_s]
  · rw [up_n q]

set_option maxRecDepth 100000 in
set_option maxHeartbeats 4000000 in
theorem c_fix_none {G : xG} {h : PH} {ad : Nat → Nat} (hj : ∀ i j, i < 300 → j < 300 → ad i = ad j → i = j) {fq : Bool} {Q : Ins} {P : Pie} (T : TabR G h ad fq Q P) {c : Nat} (hc : c < P.m) : Cn G m_Tab_fix 11 0 0 [.ref (ad 0), vi (c : Int), vi (-1)] h (fun r h' => r = some (vi 0) ∧ TabR G h' ad false Q (P.m, P.si, P.pt, P.cl, va_up P.cf c (-1)) ∧ frO ad h h') := by
  refine Cn_of (by decide) (Nat.le_of_ble_eq_true rfl) (fun K C hR E => ?_)
  obtain ⟨st, hst, h0, hPA, hPF⟩ := id T.1
  have IV1 := T.2.2.2.2.2.2.2.1
  have CV1 := T.2.2.2.2.2.2.2.2
  have IVn := IV1.1
  have CVm := CV1.1
  show X G K 6 0 [some (.ref (ad 0)), some (vi (c : Int)), some (vi (-1)), none, none, none] [] h 0 0
  refine x_aload_n C dX8_fix_0 rfl rfl ?_
  refine x_iload_n C dX8_fix_1 rfl rfl ?_
  refine x_invV C s_Tab_139 (st := []) (c_needChord hj T hc) h0 rfl rfl (Nat.le_of_ble_eq_true rfl) (xRm_of hR (by omega) (by decide) (by omega) (by omega)) dX8_fix_2 (fun r9 h9 hq => ?_)
  obtain ⟨rfl, e9⟩ := hq
  have e9 := e9.symm
  subst e9
  refine x_iconst C dX8_fix_5 ?_
  refine x_istore_n C (ls' := [some (.ref (ad 0)), some (vi (c : Int)), some (vi (-1)), some (vi (-1)), none, none]) dX8_fix_6 rfl (by decide) rfl ?_
  refine x_iconst C dX8_fix_7 ?_
  refine x_istore C (ls' := [some (.ref (ad 0)), some (vi (c : Int)), some (vi (-1)), some (vi (-1)), some (vi 0), none]) dX8_fix_8 (by decide) rfl ?_
  refine x_iload_n C dX8_fix_10 rfl rfl ?_
  refine x_iconst C dX8_fix_11 ?_
  refine x_icmp_eq C (tgt := 40) dX8_fix_12 (by decide) (by decide) (by decide) (fun c12 => ?_) (fun c12 => ?_)
  · skip
    refine x_aload_n C dX8_fix_40 rfl rfl ?_
    refine x_get C f_Tab_22 h0 rfl dX8_fix_41 ?_
    refine x_get C f_Tab_157 T.2.2.2.1.1 rfl dX8_fix_44 ?_
    refine x_iload_n C dX8_fix_47 rfl rfl ?_
    refine x_aald C (t := 4) rfl rfl T.2.2.2.1.2.1 ⟨by omega, by omega, by omega⟩ (b := (ad (20 + c))) rfl dX8_fix_48 ?_
    refine x_iload_n C dX8_fix_49 rfl rfl ?_
    refine x_put C p_Tab_161 (T.2.2.2.1.2.2 c (by omega)).1 (fit_int _) (Nat.le_of_ble_eq_true rfl) (h1 := (va_up h (ad (20 + c)) (xO 0 [.ref (ad (40 + c)), vi (P.si c : Int), vi (P.cl c), vi (-1)]))) rfl dX8_fix_50 ?_
    refine x_aload_n C dX8_fix_53 rfl rfl ?_
    refine x_iconst C dX8_fix_54 ?_
    refine x_put C p_Tab_50 ((up_n (adne hj (by omega) (by omega) (by omega))).trans h0) (fit_bool true) (Nat.le_of_ble_eq_true rfl) (h1 := (va_up (va_up h (ad (20 + c)) (xO 0 [.ref (ad (40 + c)), vi (P.si c : Int), vi (P.cl c), vi (-1)])) (ad 0) (xO 7 [.ref (ad 1), .ref (ad 4), .ref (ad 7), .ref (ad 100), .ref (ad 200), .ref (ad 9), .ref (ad 12), vi (b2i true)]))) rfl dX8_fix_55 ?_
    refine x_iload C dX8_fix_58 rfl ?_
    have hk : ∀ i, own i → i ≠ 0 → i ≠ 7 → i ≠ 8 → i < 20 ∨ 52 ≤ i → (va_up (va_up h (ad (20 + c)) (xO 0 [.ref (ad (40 + c)), vi (P.si c : Int), vi (P.cl c), vi (-1)])) (ad 0) (xO 7 [.ref (ad 1), .ref (ad 4), .ref (ad 7), .ref (ad 100), .ref (ad 200), .ref (ad 9), .ref (ad 12), vi (b2i true)])) (ad i) = h (ad i) := fun i ho n0 n7 n8 n20 => ((up_n (adne hj (by omega) (own_lt ho) (by omega))).trans ((up_n (adne hj (by omega) (own_lt ho) (by omega))).trans rfl))
    have hd : ∀ d, d < 12 → d ≠ c → (va_up (va_up h (ad (20 + c)) (xO 0 [.ref (ad (40 + c)), vi (P.si c : Int), vi (P.cl c), vi (-1)])) (ad 0) (xO 7 [.ref (ad 1), .ref (ad 4), .ref (ad 7), .ref (ad 100), .ref (ad 200), .ref (ad 9), .ref (ad 12), vi (b2i true)])) (ad (20 + d)) = h (ad (20 + d)) ∧ (va_up (va_up h (ad (20 + c)) (xO 0 [.ref (ad (40 + c)), vi (P.si c : Int), vi (P.cl c), vi (-1)])) (ad 0) (xO 7 [.ref (ad 1), .ref (ad 4), .ref (ad 7), .ref (ad 100), .ref (ad 200), .ref (ad 9), .ref (ad 12), vi (b2i true)])) (ad (40 + d)) = h (ad (40 + d)) := fun d hd9 hn => ⟨((up_n (adne hj (by omega) (by omega) (by omega))).trans ((up_n (adne hj (by omega) (by omega) (by omega))).trans rfl)), ((up_n (adne hj (by omega) (by omega) (by omega))).trans ((up_n (adne hj (by omega) (by omega) (by omega))).trans rfl))⟩
    have PP2 := T.2.2.2.1.put (h1 := (va_up (va_up h (ad (20 + c)) (xO 0 [.ref (ad (40 + c)), vi (P.si c : Int), vi (P.cl c), vi (-1)])) (ad 0) (xO 7 [.ref (ad 1), .ref (ad 4), .ref (ad 7), .ref (ad 100), .ref (ad 200), .ref (ad 9), .ref (ad 12), vi (b2i true)]))) (c := c) (m2 := P.m) ((up_n (adne hj (by omega) (by omega) (by omega))).trans ((up_n (adne hj (by omega) (by omega) (by omega))).trans T.2.2.2.1.1)) ((up_n (adne hj (by omega) (by omega) (by omega))).trans ((up_n (adne hj (by omega) (by omega) (by omega))).trans rfl)) ((up_n (adne hj (by omega) (by omega) (by omega))).trans up_s) ((up_n (adne hj (by omega) (by omega) (by omega))).trans ((up_n (adne hj (by omega) (by omega) (by omega))).trans (T.2.2.2.1.2.2 c (by omega)).2)) hd
    rw [up_slf P.si, up_slf P.pt, up_slf P.cl] at PP2
    have CV2 : CV P.m P.si P.pt P.cl (va_up P.cf c (-1)) := ⟨CV1.1, CV1.2.1, CV1.2.2.1, CV1.2.2.2.1, fun e => ⟨(CV1.2.2.2.2 e).1, up_bd (fun e => (CV1.2.2.2.2 e).2) ⟨by omega, by omega⟩ e⟩⟩
    exact x_iret C E rfl (by omega) (by omega) dX8_fix_60 (⟨rfl, TabR.piece (h1 := (va_up (va_up h (ad (20 + c)) (xO 0 [.ref (ad (40 + c)), vi (P.si c : Int), vi (P.cl c), vi (-1)])) (ad 0) (xO 7 [.ref (ad 1), .ref (ad 4), .ref (ad 7), .ref (ad 100), .ref (ad 200), .ref (ad 9), .ref (ad 12), vi (b2i true)]))) (P2 := (P.m, P.si, P.pt, P.cl, va_up P.cf c (-1))) T up_s PP2 hk CV2, (frO.up (frO.up (frO.refl ad h) (i := (20 + c)) (by unfold own; omega) _) (i := 0) (by unfold own; omega) _)⟩)
  · skip
    exfalso; omega

set_option maxRecDepth 100000 in
set_option maxHeartbeats 4000000 in
theorem c_fix {G : xG} {h : PH} {ad : Nat → Nat} (hj : ∀ i j, i < 300 → j < 300 → ad i = ad j → i = j) {fq : Bool} {Q : Ins} {P : Pie} (T : TabR G h ad fq Q P) {c g : Nat} (hc : c < P.m) (hg : g < (qL Q P c).length) : Cn G m_Tab_fix 11 0 0 [.ref (ad 0), vi (c : Int), vi (g : Int)] h (fun r h' => r = some (vi (hEff (fr ((qL Q P c).getD g 0)))) ∧ TabR G h' ad false Q (P.m, P.si, P.pt, P.cl, va_up P.cf c (((qL Q P c).getD g 0 : Nat) : Int)) ∧ frO ad h h') := by
  refine Cn_of (by decide) (Nat.le_of_ble_eq_true rfl) (fun K C hR E => ?_)
  obtain ⟨st, hst, h0, hPA, hPF⟩ := id T.1
  have IV1 := T.2.2.2.2.2.2.2.1
  have CV1 := T.2.2.2.2.2.2.2.2
  have IVn := IV1.1
  have CVm := CV1.1
  have hl30 := LT_len Q.n Q.op Q.sl Q.cp Q.rc P.si P.pt c
  have hg30 : g < 30 := Nat.lt_of_lt_of_le hg hl30
  show X G K 6 0 [some (.ref (ad 0)), some (vi (c : Int)), some (vi (g : Int)), none, none, none] [] h 0 0
  refine x_aload_n C dX8_fix_0 rfl rfl ?_
  refine x_iload_n C dX8_fix_1 rfl rfl ?_
  refine x_invV C s_Tab_139 (st := []) (c_needChord hj T hc) h0 rfl rfl (Nat.le_of_ble_eq_true rfl) (xRm_of hR (by omega) (by decide) (by omega) (by omega)) dX8_fix_2 (fun r9 h9 hq => ?_)
  obtain ⟨rfl, e9⟩ := hq
  have e9 := e9.symm
  subst e9
  refine x_iconst C dX8_fix_5 ?_
  refine x_istore_n C (ls' := [some (.ref (ad 0)), some (vi (c : Int)), some (vi (g : Int)), some (vi (-1)), none, none]) dX8_fix_6 rfl (by decide) rfl ?_
  refine x_iconst C dX8_fix_7 ?_
  refine x_istore C (ls' := [some (.ref (ad 0)), some (vi (c : Int)), some (vi (g : Int)), some (vi (-1)), some (vi 0), none]) dX8_fix_8 (by decide) rfl ?_
  refine x_iload_n C dX8_fix_10 rfl rfl ?_
  refine x_iconst C dX8_fix_11 ?_
  refine x_icmp_eq C (tgt := 40) dX8_fix_12 (by decide) ⟨by omega, by omega⟩ (by decide) (fun c12 => ?_) (fun c12 => ?_)
  · skip
    exfalso; omega
  · skip
    refine x_aload_n C dX8_fix_15 rfl rfl ?_
    refine x_iload_n C dX8_fix_16 rfl rfl ?_
    refine x_iload_n C dX8_fix_17 rfl rfl ?_
    refine x_invV C s_Tab_145 (st := []) (c_needGrip hj T hc hg) h0 rfl rfl (Nat.le_of_ble_eq_true rfl) (xRm_of hR (by omega) (by decide) (by omega) (by omega)) dX8_fix_18 (fun r9 h9 hq => ?_)
    obtain ⟨rfl, T1, F1⟩ := hq
    obtain ⟨h01, Ls1, fx1, ln1, ch1, rs1, PQ1, VQ1, AQ1⟩ := T1.plR
    have hlc := ((AQ1 c hc).1.1).symm
    have hl30 := LT_len Q.n Q.op Q.sl Q.cp Q.rc P.si P.pt c
    have hg2 : g < (Ls1 c).length := by rw [← hlc]; exact hg
    have hl31 : (Ls1 c).length ≤ 30 := by rw [← hlc]; exact hl30
    have hsm := getD_lt (PQ1.2.2.2.2.2.2.2.1 c (by omega)).small g
    rw [← hlc] at hsm
    obtain ⟨gbc, gec, glc, -, hgbc, hgec, hglc, hGLc⟩ := PQ1.2.2.2.2.2.2.2.1 c (by omega)
    refine x_astore C (ls' := [some (.ref (ad 0)), some (vi (c : Int)), some (vi (g : Int)), some (vi (-1)), some (vi 0), some (.ref (ad (100 + 8 + c)))]) dX8_fix_21 (by decide) rfl ?_
    refine x_aload C dX8_fix_23 rfl ?_
    refine x_get C f_Tab_149 (PQ1.2.2.2.2.2.2.2.1 c (by omega)).obj rfl dX8_fix_25 ?_
    refine x_iload_n C dX8_fix_28 rfl rfl ?_
    refine x_iald C hgbc ⟨by omega, by omega, by omega⟩ (v := (gbc g)) rfl dX8_fix_29 ?_
    refine x_re (b := (((qL Q P c).getD g 0 : Nat) : Int)) ((hGLc.2.1 g hg2).1.trans (by rw [← hlc])) ?_
    refine x_istore_n C (ls' := [some (.ref (ad 0)), some (vi (c : Int)), some (vi (g : Int)), some (vi (((qL Q P c).getD g 0 : Nat) : Int)), some (vi 0), some (.ref (ad (100 + 8 + c)))]) dX8_fix_30 rfl (by decide) rfl ?_
    refine x_aload C dX8_fix_31 rfl ?_
    refine x_get C f_Tab_154 (PQ1.2.2.2.2.2.2.2.1 c (by omega)).obj rfl dX8_fix_33 ?_
    refine x_iload_n C dX8_fix_36 rfl rfl ?_
    refine x_iald C hgec ⟨by omega, by omega, by omega⟩ (v := (gec g)) rfl dX8_fix_37 ?_
    refine x_re (b := (hEff (fr ((qL Q P c).getD g 0)))) ((hGLc.2.1 g hg2).2.1.trans (by rw [← hlc])) ?_
    refine x_istore C (ls' := [some (.ref (ad 0)), some (vi (c : Int)), some (vi (g : Int)), some (vi (((qL Q P c).getD g 0 : Nat) : Int)), some (vi (hEff (fr ((qL Q P c).getD g 0)))), some (.ref (ad (100 + 8 + c)))]) dX8_fix_38 (by decide) rfl ?_
    refine x_aload_n C dX8_fix_40 rfl rfl ?_
    refine x_get C f_Tab_22 h01 rfl dX8_fix_41 ?_
    refine x_get C f_Tab_157 T1.2.2.2.1.1 rfl dX8_fix_44 ?_
    refine x_iload_n C dX8_fix_47 rfl rfl ?_
    refine x_aald C (t := 4) rfl rfl T1.2.2.2.1.2.1 ⟨by omega, by omega, by omega⟩ (b := (ad (20 + c))) rfl dX8_fix_48 ?_
    refine x_iload_n C dX8_fix_49 rfl rfl ?_
    refine x_put C p_Tab_161 (T1.2.2.2.1.2.2 c (by omega)).1 (fit_int _) (Nat.le_of_ble_eq_true rfl) (h1 := (va_up h9 (ad (20 + c)) (xO 0 [.ref (ad (40 + c)), vi (P.si c : Int), vi (P.cl c), vi (((qL Q P c).getD g 0 : Nat) : Int)]))) rfl dX8_fix_50 ?_
    refine x_aload_n C dX8_fix_53 rfl rfl ?_
    refine x_iconst C dX8_fix_54 ?_
    refine x_put C p_Tab_50 ((up_n (adne hj (by omega) (by omega) (by omega))).trans h01) (fit_bool true) (Nat.le_of_ble_eq_true rfl) (h1 := (va_up (va_up h9 (ad (20 + c)) (xO 0 [.ref (ad (40 + c)), vi (P.si c : Int), vi (P.cl c), vi (((qL Q P c).getD g 0 : Nat) : Int)])) (ad 0) (xO 7 [.ref (ad 1), .ref (ad 4), .ref (ad 7), .ref (ad 100), .ref (ad 200), .ref (ad 9), .ref (ad 12), vi (b2i true)]))) rfl dX8_fix_55 ?_
    refine x_iload C dX8_fix_58 rfl ?_
    have hk : ∀ i, own i → i ≠ 0 → i ≠ 7 → i ≠ 8 → i < 20 ∨ 52 ≤ i → (va_up (va_up h9 (ad (20 + c)) (xO 0 [.ref (ad (40 + c)), vi (P.si c : Int), vi (P.cl c), vi (((qL Q P c).getD g 0 : Nat) : Int)])) (ad 0) (xO 7 [.ref (ad 1), .ref (ad 4), .ref (ad 7), .ref (ad 100), .ref (ad 200), .ref (ad 9), .ref (ad 12), vi (b2i true)])) (ad i) = h9 (ad i) := fun i ho n0 n7 n8 n20 => ((up_n (adne hj (by omega) (own_lt ho) (by omega))).trans ((up_n (adne hj (by omega) (own_lt ho) (by omega))).trans rfl))
    have hd : ∀ d, d < 12 → d ≠ c → (va_up (va_up h9 (ad (20 + c)) (xO 0 [.ref (ad (40 + c)), vi (P.si c : Int), vi (P.cl c), vi (((qL Q P c).getD g 0 : Nat) : Int)])) (ad 0) (xO 7 [.ref (ad 1), .ref (ad 4), .ref (ad 7), .ref (ad 100), .ref (ad 200), .ref (ad 9), .ref (ad 12), vi (b2i true)])) (ad (20 + d)) = h9 (ad (20 + d)) ∧ (va_up (va_up h9 (ad (20 + c)) (xO 0 [.ref (ad (40 + c)), vi (P.si c : Int), vi (P.cl c), vi (((qL Q P c).getD g 0 : Nat) : Int)])) (ad 0) (xO 7 [.ref (ad 1), .ref (ad 4), .ref (ad 7), .ref (ad 100), .ref (ad 200), .ref (ad 9), .ref (ad 12), vi (b2i true)])) (ad (40 + d)) = h9 (ad (40 + d)) := fun d hd9 hn => ⟨((up_n (adne hj (by omega) (by omega) (by omega))).trans ((up_n (adne hj (by omega) (by omega) (by omega))).trans rfl)), ((up_n (adne hj (by omega) (by omega) (by omega))).trans ((up_n (adne hj (by omega) (by omega) (by omega))).trans rfl))⟩
    have PP2 := T1.2.2.2.1.put (h1 := (va_up (va_up h9 (ad (20 + c)) (xO 0 [.ref (ad (40 + c)), vi (P.si c : Int), vi (P.cl c), vi (((qL Q P c).getD g 0 : Nat) : Int)])) (ad 0) (xO 7 [.ref (ad 1), .ref (ad 4), .ref (ad 7), .ref (ad 100), .ref (ad 200), .ref (ad 9), .ref (ad 12), vi (b2i true)]))) (c := c) (m2 := P.m) ((up_n (adne hj (by omega) (by omega) (by omega))).trans ((up_n (adne hj (by omega) (by omega) (by omega))).trans T1.2.2.2.1.1)) ((up_n (adne hj (by omega) (by omega) (by omega))).trans ((up_n (adne hj (by omega) (by omega) (by omega))).trans rfl)) ((up_n (adne hj (by omega) (by omega) (by omega))).trans up_s) ((up_n (adne hj (by omega) (by omega) (by omega))).trans ((up_n (adne hj (by omega) (by omega) (by omega))).trans (T1.2.2.2.1.2.2 c (by omega)).2)) hd
    rw [up_slf P.si, up_slf P.pt, up_slf P.cl] at PP2
    have CV2 : CV P.m P.si P.pt P.cl (va_up P.cf c (((qL Q P c).getD g 0 : Nat) : Int)) := ⟨CV1.1, CV1.2.1, CV1.2.2.1, CV1.2.2.2.1, fun e => ⟨(CV1.2.2.2.2 e).1, up_bd (fun e => (CV1.2.2.2.2 e).2) ⟨by omega, by omega⟩ e⟩⟩
    exact x_iret C E rfl (by omega) (by omega) dX8_fix_60 (⟨rfl, TabR.piece (h1 := (va_up (va_up h9 (ad (20 + c)) (xO 0 [.ref (ad (40 + c)), vi (P.si c : Int), vi (P.cl c), vi (((qL Q P c).getD g 0 : Nat) : Int)])) (ad 0) (xO 7 [.ref (ad 1), .ref (ad 4), .ref (ad 7), .ref (ad 100), .ref (ad 200), .ref (ad 9), .ref (ad 12), vi (b2i true)]))) (P2 := (P.m, P.si, P.pt, P.cl, va_up P.cf c (((qL Q P c).getD g 0 : Nat) : Int))) T1 up_s PP2 hk CV2, (F1.trans (frO.up (frO.up (frO.refl ad h9) (i := (20 + c)) (by unfold own; omega) _) (i := 0) (by unfold own; omega) _))⟩)

set_option maxRecDepth 100000 in
set_option maxHeartbeats 4000000 in
theorem c_ofChord {G : xG} {h : PH} {ad : Nat → Nat} (hj : ∀ i j, i < 300 → j < 300 → ad i = ad j → i = j) {fq : Bool} {Q : Ins} {P : Pie} (T : TabR G h ad fq Q P) {c : Nat} (hc : c < P.m) {w : Int} (hw : 0 ≤ w ∧ w ≤ 5) : Cn G m_Tab_ofChord 10 0 0 [.ref (ad 0), vi (c : Int), vi w] h (fun r h' => r = some (vi (aC Q P c w)) ∧ TabR G h' ad true Q P ∧ frO ad h h') := by
  refine Cn_of (by decide) (Nat.le_of_ble_eq_true rfl) (fun K C hR E => ?_)
  obtain ⟨st, hst, h0, hPA, hPF⟩ := id T.1
  have IV1 := T.2.2.2.2.2.2.2.1
  have CV1 := T.2.2.2.2.2.2.2.2
  have IVn := IV1.1
  have CVm := CV1.1
  show X G K 3 0 [some (.ref (ad 0)), some (vi (c : Int)), some (vi w)] [] h 0 0
  refine x_aload_n C dX8_ofChord_0 rfl rfl ?_
  refine x_iload_n C dX8_ofChord_1 rfl rfl ?_
  refine x_invV C s_Tab_139 (st := []) (c_needChord hj T hc) h0 rfl rfl (Nat.le_of_ble_eq_true rfl) (xRm_of hR (by omega) (by decide) (by omega) (by omega)) dX8_ofChord_2 (fun r9 h9 hq => ?_)
  obtain ⟨rfl, e9⟩ := hq
  have e9 := e9.symm
  subst e9
  refine x_iload_n C dX8_ofChord_5 rfl rfl ?_
  refine x_iconst C dX8_ofChord_6 ?_
  refine x_invS C s_Tab_164 (st := []) (c_needQuestion ⟨by omega, by omega, by omega⟩) rfl rfl (Nat.le_of_ble_eq_true rfl) (xRm_of hR (by omega) (by decide) (by omega) (by omega)) dX8_ofChord_7 (fun r9 h9 hq => ?_)
  obtain ⟨rfl, e9⟩ := hq
  have e9 := e9.symm
  subst e9
  refine x_aload_n C dX8_ofChord_10 rfl rfl ?_
  refine x_invV C s_Tab_168 (st := []) (c_refresh hj T) h0 rfl rfl (Nat.le_of_ble_eq_true rfl) (xRm_of hR (by omega) (by decide) (by omega) (by omega)) dX8_ofChord_11 (fun r9 h9 hq => ?_)
  obtain ⟨rfl, T1, F1⟩ := hq
  obtain ⟨h01, Ls1, fx1, ln1, ch1, rs1, PQ1, VQ1, AQ1⟩ := T1.plR
  refine x_aload_n C dX8_ofChord_14 rfl rfl ?_
  refine x_iload_n C dX8_ofChord_15 rfl rfl ?_
  refine x_iload_n C dX8_ofChord_16 rfl rfl ?_
  refine x_invV C s_Tab_171 (st := []) (c_askChord hj T1 hc hw) h01 rfl rfl (Nat.le_of_ble_eq_true rfl) (xRm_of hR (by omega) (by decide) (by omega) (by omega)) dX8_ofChord_17 (fun r9 h9 hq => ?_)
  obtain ⟨rfl, e9⟩ := hq
  have e9 := e9.symm
  subst e9
  exact x_iret C E rfl (by omega) (by omega) dX8_ofChord_20 (⟨rfl, T1, F1⟩)

set_option maxRecDepth 100000 in
set_option maxHeartbeats 4000000 in
theorem c_ofGrip {G : xG} {h : PH} {ad : Nat → Nat} (hj : ∀ i j, i < 300 → j < 300 → ad i = ad j → i = j) {fq : Bool} {Q : Ins} {P : Pie} (T : TabR G h ad fq Q P) {c g : Nat} (hc : c < P.m) (hg : g < (qL Q P c).length) {w : Int} (hw : 0 ≤ w ∧ w ≤ 5) : Cn G m_Tab_ofGrip 11 0 0 [.ref (ad 0), vi (c : Int), vi (g : Int), vi w] h (fun r h' => r = some (vi (aH (fr ((qL Q P c).getD g 0)) w)) ∧ TabR G h' ad true Q P ∧ frO ad h h') := by
  refine Cn_of (by decide) (Nat.le_of_ble_eq_true rfl) (fun K C hR E => ?_)
  obtain ⟨st, hst, h0, hPA, hPF⟩ := id T.1
  have IV1 := T.2.2.2.2.2.2.2.1
  have CV1 := T.2.2.2.2.2.2.2.2
  have IVn := IV1.1
  have CVm := CV1.1
  have hl30 := LT_len Q.n Q.op Q.sl Q.cp Q.rc P.si P.pt c
  have hg30 : g < 30 := Nat.lt_of_lt_of_le hg hl30
  show X G K 5 0 [some (.ref (ad 0)), some (vi (c : Int)), some (vi (g : Int)), some (vi w), none] [] h 0 0
  refine x_aload_n C dX8_ofGrip_0 rfl rfl ?_
  refine x_iload_n C dX8_ofGrip_1 rfl rfl ?_
  refine x_iload_n C dX8_ofGrip_2 rfl rfl ?_
  refine x_invV C s_Tab_145 (st := []) (c_needGrip hj T hc hg) h0 rfl rfl (Nat.le_of_ble_eq_true rfl) (xRm_of hR (by omega) (by decide) (by omega) (by omega)) dX8_ofGrip_3 (fun r9 h9 hq => ?_)
  obtain ⟨rfl, T1, F1⟩ := hq
  obtain ⟨h01, Ls1, fx1, ln1, ch1, rs1, PQ1, VQ1, AQ1⟩ := T1.plR
  have hlc := ((AQ1 c hc).1.1).symm
  have hl30 := LT_len Q.n Q.op Q.sl Q.cp Q.rc P.si P.pt c
  have hg2 : g < (Ls1 c).length := by rw [← hlc]; exact hg
  have hl31 : (Ls1 c).length ≤ 30 := by rw [← hlc]; exact hl30
  have hsm := getD_lt (PQ1.2.2.2.2.2.2.2.1 c (by omega)).small g
  rw [← hlc] at hsm
  obtain ⟨lo, hi, so, pr, pl, sk, ba, g0, hU, hW⟩ := id T1.2.2.2.2.1
  obtain ⟨gbc, gec, glc, -, hgbc, hgec, hglc, hGLc⟩ := PQ1.2.2.2.2.2.2.2.1 c (by omega)
  refine x_astore C (ls' := [some (.ref (ad 0)), some (vi (c : Int)), some (vi (g : Int)), some (vi w), some (.ref (ad (100 + 8 + c)))]) dX8_ofGrip_6 (by decide) rfl ?_
  refine x_iload_n C dX8_ofGrip_8 rfl rfl ?_
  refine x_iconst C dX8_ofGrip_9 ?_
  refine x_invS C s_Tab_164 (st := []) (c_needQuestion ⟨by omega, by omega, by omega⟩) rfl rfl (Nat.le_of_ble_eq_true rfl) (xRm_of hR (by omega) (by decide) (by omega) (by omega)) dX8_ofGrip_10 (fun r9 h9 hq => ?_)
  obtain ⟨rfl, e9⟩ := hq
  have e9 := e9.symm
  subst e9
  refine x_aload_n C dX8_ofGrip_13 rfl rfl ?_
  refine x_get C f_Tab_46 h01 rfl dX8_ofGrip_14 ?_
  refine x_aload C dX8_ofGrip_17 rfl ?_
  refine x_get C f_Tab_149 (PQ1.2.2.2.2.2.2.2.1 c (by omega)).obj rfl dX8_ofGrip_19 ?_
  refine x_iload_n C dX8_ofGrip_22 rfl rfl ?_
  refine x_iald C hgbc ⟨by omega, by omega, by omega⟩ (v := (gbc g)) rfl dX8_ofGrip_23 ?_
  refine x_re (b := (((qL Q P c).getD g 0 : Nat) : Int)) ((hGLc.2.1 g hg2).1.trans (by rw [← hlc])) ?_
  refine x_invV C s_Tab_174 (st := []) (c_hold (c := (qL Q P c).getD g 0) (by omega) hU hW (adne hj (by omega) (by omega) (by omega))) hU rfl rfl (Nat.le_of_ble_eq_true rfl) (xRm_of hR (by omega) (by decide) (by omega) (by omega)) dX8_ofGrip_24 (fun r9 h9 hq => ?_)
  obtain ⟨rfl, e9⟩ := hq
  have e9 := e9.symm
  subst e9
  have T2 : TabR G (va_up (va_up h9 (ad 12) (xO 2 [vi (hLow (fr ((qL Q P c).getD g 0))), vi (hHigh (fr ((qL Q P c).getD g 0))), vi (hSnd (fr ((qL Q P c).getD g 0))), vi (b2i (hBar (fr ((qL Q P c).getD g 0)))), .ref (ad 13), vi (hPr (fr ((qL Q P c).getD g 0))), vi (hPal (fr ((qL Q P c).getD g 0))), vi (hSkp (fr ((qL Q P c).getD g 0)))])) (ad 13) (xI G 6 (fr ((qL Q P c).getD g 0)))) ad true Q P := TabR.small (h1 := (va_up (va_up h9 (ad 12) (xO 2 [vi (hLow (fr ((qL Q P c).getD g 0))), vi (hHigh (fr ((qL Q P c).getD g 0))), vi (hSnd (fr ((qL Q P c).getD g 0))), vi (b2i (hBar (fr ((qL Q P c).getD g 0)))), .ref (ad 13), vi (hPr (fr ((qL Q P c).getD g 0))), vi (hPal (fr ((qL Q P c).getD g 0))), vi (hSkp (fr ((qL Q P c).getD g 0)))])) (ad 13) (xI G 6 (fr ((qL Q P c).getD g 0))))) T1 (HH.of ((up_n (adne hj (by omega) (by omega) (by omega))).trans up_s) up_s) (T1.2.2.2.2.2.2.1.kept (fun i hi => ((up_n (adne hj (by omega) (by omega) (by omega))).trans ((up_n (adne hj (by omega) (by omega) (by omega))).trans rfl)))) (fun i ho n0 => ((up_n (adne hj (by omega) (own_lt ho) (by omega))).trans ((up_n (adne hj (by omega) (own_lt ho) (by omega))).trans rfl)))
  refine x_aload_n C dX8_ofGrip_27 rfl rfl ?_
  refine x_iload_n C dX8_ofGrip_28 rfl rfl ?_
  refine x_invV C s_Tab_177 (st := []) (c_askHand hj T2 (f := (fr ((qL Q P c).getD g 0))) ((up_n (adne hj (by omega) (by omega) (by omega))).trans up_s) (fr_fbd _) hw) ((up_n (adne hj (by omega) (by omega) (by omega))).trans ((up_n (adne hj (by omega) (by omega) (by omega))).trans h01)) rfl rfl (Nat.le_of_ble_eq_true rfl) (xRm_of hR (by omega) (by decide) (by omega) (by omega)) dX8_ofGrip_29 (fun r9 h9 hq => ?_)
  obtain ⟨rfl, e9⟩ := hq
  have e9 := e9.symm
  subst e9
  exact x_iret C E rfl (by omega) (by omega) dX8_ofGrip_32 (⟨rfl, T2, F1.trans (frO.up (frO.up (frO.refl ad h9) (i := 12) (by unfold own; omega) _) (i := 13) (by unfold own; omega) _)⟩)


set_option maxRecDepth 100000 in
set_option maxHeartbeats 4000000 in
theorem c_fret {G : xG} {h : PH} {ad : Nat → Nat} (hj : ∀ i j, i < 300 → j < 300 → ad i = ad j → i = j) {fq : Bool} {Q : Ins} {P : Pie} (T : TabR G h ad fq Q P) {c g s : Nat} (hc : c < P.m) (hg : g < (qL Q P c).length) (hs : s < Q.n) : Cn G m_Tab_fret 11 0 0 [.ref (ad 0), vi (c : Int), vi (g : Int), vi (s : Int)] h (fun r h' => r = some (vi (fr ((qL Q P c).getD g 0) s)) ∧ TabR G h' ad true Q P ∧ frO ad h h') := by
  refine Cn_of (by decide) (Nat.le_of_ble_eq_true rfl) (fun K C hR E => ?_)
  obtain ⟨st, hst, h0, hPA, hPF⟩ := id T.1
  have IV1 := T.2.2.2.2.2.2.2.1
  have CV1 := T.2.2.2.2.2.2.2.2
  have IVn := IV1.1
  have CVm := CV1.1
  have hl30 := LT_len Q.n Q.op Q.sl Q.cp Q.rc P.si P.pt c
  have hg30 : g < 30 := Nat.lt_of_lt_of_le hg hl30
  show X G K 5 0 [some (.ref (ad 0)), some (vi (c : Int)), some (vi (g : Int)), some (vi (s : Int)), none] [] h 0 0
  refine x_aload_n C dX8_fret_0 rfl rfl ?_
  refine x_iload_n C dX8_fret_1 rfl rfl ?_
  refine x_iload_n C dX8_fret_2 rfl rfl ?_
  refine x_invV C s_Tab_145 (st := []) (c_needGrip hj T hc hg) h0 rfl rfl (Nat.le_of_ble_eq_true rfl) (xRm_of hR (by omega) (by decide) (by omega) (by omega)) dX8_fret_3 (fun r9 h9 hq => ?_)
  obtain ⟨rfl, T1, F1⟩ := hq
  obtain ⟨h01, Ls1, fx1, ln1, ch1, rs1, PQ1, VQ1, AQ1⟩ := T1.plR
  have hlc := ((AQ1 c hc).1.1).symm
  have hl30 := LT_len Q.n Q.op Q.sl Q.cp Q.rc P.si P.pt c
  have hg2 : g < (Ls1 c).length := by rw [← hlc]; exact hg
  have hl31 : (Ls1 c).length ≤ 30 := by rw [← hlc]; exact hl30
  have hsm := getD_lt (PQ1.2.2.2.2.2.2.2.1 c (by omega)).small g
  rw [← hlc] at hsm
  obtain ⟨gbc, gec, glc, -, hgbc, hgec, hglc, hGLc⟩ := PQ1.2.2.2.2.2.2.2.1 c (by omega)
  refine x_astore C (ls' := [some (.ref (ad 0)), some (vi (c : Int)), some (vi (g : Int)), some (vi (s : Int)), some (.ref (ad (100 + 8 + c)))]) dX8_fret_6 (by decide) rfl ?_
  refine x_aload_n C dX8_fret_8 rfl rfl ?_
  refine x_iload_n C dX8_fret_9 rfl rfl ?_
  refine x_invV C s_Tab_76 (st := []) (c_needString hj T1 hs) h01 rfl rfl (Nat.le_of_ble_eq_true rfl) (xRm_of hR (by omega) (by decide) (by omega) (by omega)) dX8_fret_10 (fun r9 h9 hq => ?_)
  obtain ⟨rfl, e9⟩ := hq
  have e9 := e9.symm
  subst e9
  refine x_aload C dX8_fret_13 rfl ?_
  refine x_get C f_Tab_149 (PQ1.2.2.2.2.2.2.2.1 c (by omega)).obj rfl dX8_fret_15 ?_
  refine x_iload_n C dX8_fret_18 rfl rfl ?_
  refine x_iald C hgbc ⟨by omega, by omega, by omega⟩ (v := (gbc g)) rfl dX8_fret_19 ?_
  refine x_re (b := (((qL Q P c).getD g 0 : Nat) : Int)) ((hGLc.2.1 g hg2).1.trans (by rw [← hlc])) ?_
  refine x_iload_n C dX8_fret_20 rfl rfl ?_
  refine x_invS C s_Tab_180 (st := []) (c_fretAt (c := (qL Q P c).getD g 0) (by omega) (s := s) (by omega)) rfl rfl (Nat.le_of_ble_eq_true rfl) (xRm_of hR (by omega) (by decide) (by omega) (by omega)) dX8_fret_21 (fun r9 h9 hq => ?_)
  obtain ⟨rfl, e9⟩ := hq
  have e9 := e9.symm
  subst e9
  exact x_iret C E rfl (by omega) (by omega) dX8_fret_24 (⟨rfl, T1, F1⟩)

set_option maxRecDepth 100000 in
set_option maxHeartbeats 4000000 in
theorem c_finger {G : xG} {h : PH} {ad : Nat → Nat} (hj : ∀ i j, i < 300 → j < 300 → ad i = ad j → i = j) {fq : Bool} {Q : Ins} {P : Pie} (T : TabR G h ad fq Q P) {c g s : Nat} (hc : c < P.m) (hg : g < (qL Q P c).length) (hs : s < Q.n) : Cn G m_Tab_finger 11 0 0 [.ref (ad 0), vi (c : Int), vi (g : Int), vi (s : Int)] h (fun r h' => r = some (vi (hFin (fr ((qL Q P c).getD g 0)) s)) ∧ TabR G h' ad true Q P ∧ frO ad h h') := by
  refine Cn_of (by decide) (Nat.le_of_ble_eq_true rfl) (fun K C hR E => ?_)
  obtain ⟨st, hst, h0, hPA, hPF⟩ := id T.1
  have IV1 := T.2.2.2.2.2.2.2.1
  have CV1 := T.2.2.2.2.2.2.2.2
  have IVn := IV1.1
  have CVm := CV1.1
  have hl30 := LT_len Q.n Q.op Q.sl Q.cp Q.rc P.si P.pt c
  have hg30 : g < 30 := Nat.lt_of_lt_of_le hg hl30
  show X G K 5 0 [some (.ref (ad 0)), some (vi (c : Int)), some (vi (g : Int)), some (vi (s : Int)), none] [] h 0 0
  refine x_aload_n C dX8_finger_0 rfl rfl ?_
  refine x_iload_n C dX8_finger_1 rfl rfl ?_
  refine x_iload_n C dX8_finger_2 rfl rfl ?_
  refine x_invV C s_Tab_145 (st := []) (c_needGrip hj T hc hg) h0 rfl rfl (Nat.le_of_ble_eq_true rfl) (xRm_of hR (by omega) (by decide) (by omega) (by omega)) dX8_finger_3 (fun r9 h9 hq => ?_)
  obtain ⟨rfl, T1, F1⟩ := hq
  obtain ⟨h01, Ls1, fx1, ln1, ch1, rs1, PQ1, VQ1, AQ1⟩ := T1.plR
  have hlc := ((AQ1 c hc).1.1).symm
  have hl30 := LT_len Q.n Q.op Q.sl Q.cp Q.rc P.si P.pt c
  have hg2 : g < (Ls1 c).length := by rw [← hlc]; exact hg
  have hl31 : (Ls1 c).length ≤ 30 := by rw [← hlc]; exact hl30
  have hsm := getD_lt (PQ1.2.2.2.2.2.2.2.1 c (by omega)).small g
  rw [← hlc] at hsm
  obtain ⟨lo, hi, so, pr, pl, sk, ba, g0, hU, hW⟩ := id T1.2.2.2.2.1
  obtain ⟨gbc, gec, glc, -, hgbc, hgec, hglc, hGLc⟩ := PQ1.2.2.2.2.2.2.2.1 c (by omega)
  refine x_astore C (ls' := [some (.ref (ad 0)), some (vi (c : Int)), some (vi (g : Int)), some (vi (s : Int)), some (.ref (ad (100 + 8 + c)))]) dX8_finger_6 (by decide) rfl ?_
  refine x_aload_n C dX8_finger_8 rfl rfl ?_
  refine x_iload_n C dX8_finger_9 rfl rfl ?_
  refine x_invV C s_Tab_76 (st := []) (c_needString hj T1 hs) h01 rfl rfl (Nat.le_of_ble_eq_true rfl) (xRm_of hR (by omega) (by decide) (by omega) (by omega)) dX8_finger_10 (fun r9 h9 hq => ?_)
  obtain ⟨rfl, e9⟩ := hq
  have e9 := e9.symm
  subst e9
  refine x_aload_n C dX8_finger_13 rfl rfl ?_
  refine x_get C f_Tab_46 h01 rfl dX8_finger_14 ?_
  refine x_aload C dX8_finger_17 rfl ?_
  refine x_get C f_Tab_149 (PQ1.2.2.2.2.2.2.2.1 c (by omega)).obj rfl dX8_finger_19 ?_
  refine x_iload_n C dX8_finger_22 rfl rfl ?_
  refine x_iald C hgbc ⟨by omega, by omega, by omega⟩ (v := (gbc g)) rfl dX8_finger_23 ?_
  refine x_re (b := (((qL Q P c).getD g 0 : Nat) : Int)) ((hGLc.2.1 g hg2).1.trans (by rw [← hlc])) ?_
  refine x_invV C s_Tab_174 (st := []) (c_hold (c := (qL Q P c).getD g 0) (by omega) hU hW (adne hj (by omega) (by omega) (by omega))) hU rfl rfl (Nat.le_of_ble_eq_true rfl) (xRm_of hR (by omega) (by decide) (by omega) (by omega)) dX8_finger_24 (fun r9 h9 hq => ?_)
  obtain ⟨rfl, e9⟩ := hq
  have e9 := e9.symm
  subst e9
  have T2 : TabR G (va_up (va_up h9 (ad 12) (xO 2 [vi (hLow (fr ((qL Q P c).getD g 0))), vi (hHigh (fr ((qL Q P c).getD g 0))), vi (hSnd (fr ((qL Q P c).getD g 0))), vi (b2i (hBar (fr ((qL Q P c).getD g 0)))), .ref (ad 13), vi (hPr (fr ((qL Q P c).getD g 0))), vi (hPal (fr ((qL Q P c).getD g 0))), vi (hSkp (fr ((qL Q P c).getD g 0)))])) (ad 13) (xI G 6 (fr ((qL Q P c).getD g 0)))) ad true Q P := TabR.small (h1 := (va_up (va_up h9 (ad 12) (xO 2 [vi (hLow (fr ((qL Q P c).getD g 0))), vi (hHigh (fr ((qL Q P c).getD g 0))), vi (hSnd (fr ((qL Q P c).getD g 0))), vi (b2i (hBar (fr ((qL Q P c).getD g 0)))), .ref (ad 13), vi (hPr (fr ((qL Q P c).getD g 0))), vi (hPal (fr ((qL Q P c).getD g 0))), vi (hSkp (fr ((qL Q P c).getD g 0)))])) (ad 13) (xI G 6 (fr ((qL Q P c).getD g 0))))) T1 (HH.of ((up_n (adne hj (by omega) (by omega) (by omega))).trans up_s) up_s) (T1.2.2.2.2.2.2.1.kept (fun i hi => ((up_n (adne hj (by omega) (by omega) (by omega))).trans ((up_n (adne hj (by omega) (by omega) (by omega))).trans rfl)))) (fun i ho n0 => ((up_n (adne hj (by omega) (own_lt ho) (by omega))).trans ((up_n (adne hj (by omega) (own_lt ho) (by omega))).trans rfl)))
  refine x_aload_n C dX8_finger_27 rfl rfl ?_
  refine x_get C f_Tab_46 ((up_n (adne hj (by omega) (by omega) (by omega))).trans ((up_n (adne hj (by omega) (by omega) (by omega))).trans h01)) rfl dX8_finger_28 ?_
  refine x_iload_n C dX8_finger_31 rfl rfl ?_
  refine x_invV C s_Tab_185 (st := []) (c_fingerOn (s := s) (by omega) ((up_n (adne hj (by omega) (by omega) (by omega))).trans up_s) (fr_fbd _) up_s) ((up_n (adne hj (by omega) (by omega) (by omega))).trans up_s) rfl rfl (Nat.le_of_ble_eq_true rfl) (xRm_of hR (by omega) (by decide) (by omega) (by omega)) dX8_finger_32 (fun r9 h9 hq => ?_)
  obtain ⟨rfl, e9⟩ := hq
  have e9 := e9.symm
  subst e9
  exact x_iret C E rfl (by omega) (by omega) dX8_finger_35 (⟨rfl, T2, F1.trans (frO.up (frO.up (frO.refl ad h9) (i := 12) (by unfold own; omega) _) (i := 13) (by unfold own; omega) _)⟩)


set_option maxRecDepth 100000 in
set_option maxHeartbeats 4000000 in
theorem c_move {G : xG} {h : PH} {ad : Nat → Nat} (hj : ∀ i j, i < 300 → j < 300 → ad i = ad j → i = j) {fq : Bool} {Q : Ins} {P : Pie} (T : TabR G h ad fq Q P) {c g k : Nat} (hc1 : c + 1 < P.m) (hg : g < (qL Q P c).length) (hg1 : k < (qL Q P (c + 1)).length) : Cn G m_Tab_move 11 0 0 [.ref (ad 0), vi (c : Int), vi (g : Int), vi (k : Int)] h (fun r h' => r = some (vi (mvF (qL Q P) P.cl P.m (c : Int) (g : Int) (k : Int))) ∧ TabR G h' ad true Q P ∧ frO ad h h') := by
  refine Cn_of (by decide) (Nat.le_of_ble_eq_true rfl) (fun K C hR E => ?_)
  obtain ⟨st, hst, h0, hPA, hPF⟩ := id T.1
  have IV1 := T.2.2.2.2.2.2.2.1
  have CV1 := T.2.2.2.2.2.2.2.2
  have IVn := IV1.1
  have CVm := CV1.1
  have hc : c < P.m := by omega
  have hl30 := LT_len Q.n Q.op Q.sl Q.cp Q.rc P.si P.pt c
  have hg30 : g < 30 := Nat.lt_of_lt_of_le hg hl30
  have hl30k := LT_len Q.n Q.op Q.sl Q.cp Q.rc P.si P.pt (c + 1)
  have hk30 : k < 30 := Nat.lt_of_lt_of_le hg1 hl30k
  show X G K 4 0 [some (.ref (ad 0)), some (vi (c : Int)), some (vi (g : Int)), some (vi (k : Int))] [] h 0 0
  refine x_aload_n C dX8_move_0 rfl rfl ?_
  refine x_iload_n C dX8_move_1 rfl rfl ?_
  refine x_iload_n C dX8_move_2 rfl rfl ?_
  refine x_invV C s_Tab_145 (st := []) (c_needGrip hj T hc hg) h0 rfl rfl (Nat.le_of_ble_eq_true rfl) (xRm_of hR (by omega) (by decide) (by omega) (by omega)) dX8_move_3 (fun r9 h9 hq => ?_)
  obtain ⟨rfl, T1, F1⟩ := hq
  obtain ⟨h01, Ls1, fx1, ln1, ch1, rs1, PQ1, VQ1, AQ1⟩ := T1.plR
  have hlc := ((AQ1 c hc).1.1).symm
  have hl30 := LT_len Q.n Q.op Q.sl Q.cp Q.rc P.si P.pt c
  have hg2 : g < (Ls1 c).length := by rw [← hlc]; exact hg
  have hl31 : (Ls1 c).length ≤ 30 := by rw [← hlc]; exact hl30
  have hsm := getD_lt (PQ1.2.2.2.2.2.2.2.1 c (by omega)).small g
  rw [← hlc] at hsm
  refine x_pop C dX8_move_6 rfl ?_
  refine x_aload_n C dX8_move_7 rfl rfl ?_
  refine x_iload_n C dX8_move_8 rfl rfl ?_
  refine x_iconst C dX8_move_9 ?_
  refine x_iadd C dX8_move_10 ?_
  refine x_iload_n C dX8_move_11 rfl rfl ?_
  refine x_invV C s_Tab_145 (st := []) (c_needGrip hj T1 hc1 hg1) h01 rfl rfl (Nat.le_of_ble_eq_true rfl) (xRm_of hR (by omega) (by decide) (by omega) (by omega)) dX8_move_12 (fun r9 h9 hq => ?_)
  obtain ⟨rfl, T3, F3⟩ := hq
  obtain ⟨h03, Ls3, fx3, ln3, ch3, rs3, PQ3, VQ3, AQ3⟩ := T3.plR
  have hlc3 := ((AQ3 c (by omega)).1.1).symm
  have hld3 := ((AQ3 (c + 1) hc1).1.1).symm
  refine x_pop C dX8_move_15 rfl ?_
  refine x_aload_n C dX8_move_16 rfl rfl ?_
  refine x_get C f_Tab_29 h03 rfl dX8_move_17 ?_
  refine x_iload_n C dX8_move_20 rfl rfl ?_
  refine x_iload_n C dX8_move_21 rfl rfl ?_
  refine x_iload_n C dX8_move_22 rfl rfl ?_
  refine x_invV C s_Tab_188 (st := []) (c_moveCost hj (Or.inl rfl) PQ3 VQ3 (c := (c : Int)) (g := (g : Int)) (n := (k : Int)) ⟨by omega, by omega⟩ ⟨by omega, by omega⟩ ⟨by omega, by omega⟩) PQ3.1 rfl rfl (Nat.le_of_ble_eq_true rfl) (xRm_of hR (by omega) (by decide) (by omega) (by omega)) dX8_move_23 (fun r9 h9 hq => ?_)
  obtain ⟨rfl, e9⟩ := hq
  have e9 := e9.symm
  subst e9
  refine x_re (b := (mvF (qL Q P) P.cl P.m (c : Int) (g : Int) (k : Int))) (mvF_cong (fun d hd => (AQ3 d hd).1) _ _ _) ?_
  exact x_iret C E rfl (by omega) (by omega) dX8_move_26 (⟨rfl, T3, F1.trans F3⟩)

set_option maxRecDepth 100000 in
set_option maxHeartbeats 4000000 in
theorem c_plan {G : xG} {h : PH} {ad : Nat → Nat} (hj : ∀ i j, i < 300 → j < 300 → ad i = ad j → i = j) {fq : Bool} {Q : Ins} {P : Pie} (T : TabR G h ad fq Q P) {c : Nat} (hc : c < P.m) : Cn G m_Tab_plan 10 0 0 [.ref (ad 0), vi (c : Int)] h (fun r h' => r = some (vi (qC Q P c)) ∧ TabR G h' ad true Q P ∧ frO ad h h') := by
  refine Cn_of (by decide) (Nat.le_of_ble_eq_true rfl) (fun K C hR E => ?_)
  obtain ⟨st, hst, h0, hPA, hPF⟩ := id T.1
  have IV1 := T.2.2.2.2.2.2.2.1
  have CV1 := T.2.2.2.2.2.2.2.2
  have IVn := IV1.1
  have CVm := CV1.1
  show X G K 2 0 [some (.ref (ad 0)), some (vi (c : Int))] [] h 0 0
  refine x_aload_n C dX8_plan_0 rfl rfl ?_
  refine x_iload_n C dX8_plan_1 rfl rfl ?_
  refine x_invV C s_Tab_139 (st := []) (c_needChord hj T hc) h0 rfl rfl (Nat.le_of_ble_eq_true rfl) (xRm_of hR (by omega) (by decide) (by omega) (by omega)) dX8_plan_2 (fun r9 h9 hq => ?_)
  obtain ⟨rfl, e9⟩ := hq
  have e9 := e9.symm
  subst e9
  refine x_aload_n C dX8_plan_5 rfl rfl ?_
  refine x_invV C s_Tab_168 (st := []) (c_refresh hj T) h0 rfl rfl (Nat.le_of_ble_eq_true rfl) (xRm_of hR (by omega) (by decide) (by omega) (by omega)) dX8_plan_6 (fun r9 h9 hq => ?_)
  obtain ⟨rfl, T1, F1⟩ := hq
  obtain ⟨h01, Ls1, fx1, ln1, ch1, rs1, PQ1, VQ1, AQ1⟩ := T1.plR
  refine x_aload_n C dX8_plan_9 rfl rfl ?_
  refine x_get C f_Tab_29 h01 rfl dX8_plan_10 ?_
  refine x_get C f_Tab_192 PQ1.1 rfl dX8_plan_13 ?_
  refine x_iload_n C dX8_plan_16 rfl rfl ?_
  refine x_iald C PQ1.2.2.2.1 ⟨by omega, by omega, by omega⟩ (v := (ch1 c)) rfl dX8_plan_17 ?_
  refine x_re (b := (qC Q P c)) ((AQ1 c hc).2.2) ?_
  exact x_iret C E rfl (by omega) (by omega) dX8_plan_18 (⟨rfl, T1, F1⟩)

set_option maxRecDepth 100000 in
set_option maxHeartbeats 4000000 in
theorem c_total {G : xG} {h : PH} {ad : Nat → Nat} (hj : ∀ i j, i < 300 → j < 300 → ad i = ad j → i = j) {fq : Bool} {Q : Ins} {P : Pie} (T : TabR G h ad fq Q P)  : Cn G m_Tab_total 10 0 0 [.ref (ad 0)] h (fun r h' => r = some (vi (qT Q P)) ∧ TabR G h' ad true Q P ∧ frO ad h h') := by
  refine Cn_of (by decide) (Nat.le_of_ble_eq_true rfl) (fun K C hR E => ?_)
  obtain ⟨st, hst, h0, hPA, hPF⟩ := id T.1
  have IV1 := T.2.2.2.2.2.2.2.1
  have CV1 := T.2.2.2.2.2.2.2.2
  have IVn := IV1.1
  have CVm := CV1.1
  show X G K 1 0 [some (.ref (ad 0))] [] h 0 0
  refine x_aload_n C dX8_total_0 rfl rfl ?_
  refine x_invV C s_Tab_168 (st := []) (c_refresh hj T) h0 rfl rfl (Nat.le_of_ble_eq_true rfl) (xRm_of hR (by omega) (by decide) (by omega) (by omega)) dX8_total_1 (fun r9 h9 hq => ?_)
  obtain ⟨rfl, T1, F1⟩ := hq
  obtain ⟨h01, Ls1, fx1, ln1, ch1, rs1, PQ1, VQ1, AQ1⟩ := T1.plR
  refine x_aload_n C dX8_total_4 rfl rfl ?_
  refine x_get C f_Tab_29 h01 rfl dX8_total_5 ?_
  refine x_get C f_Tab_195 PQ1.1 rfl dX8_total_8 ?_
  exact x_iret C E rfl (by omega) (by omega) dX8_total_11 (⟨rfl, T1, F1⟩)

set_option maxRecDepth 100000 in
set_option maxHeartbeats 4000000 in
theorem c_many {G : xG} {h : PH} {ad : Nat → Nat} (hj : ∀ i j, i < 300 → j < 300 → ad i = ad j → i = j) {fq : Bool} {Q : Ins} {P : Pie} (T : TabR G h ad fq Q P) {w : Int} (hw : 0 ≤ w ∧ w ≤ 7) : Cn G m_Tab_many 10 0 0 [.ref (ad 0), vi w] h (fun r h' => r = some (vi (aW Q P w)) ∧ TabR G h' ad true Q P ∧ frO ad h h') := by
  refine Cn_of (by decide) (Nat.le_of_ble_eq_true rfl) (fun K C hR E => ?_)
  obtain ⟨st, hst, h0, hPA, hPF⟩ := id T.1
  have IV1 := T.2.2.2.2.2.2.2.1
  have CV1 := T.2.2.2.2.2.2.2.2
  have IVn := IV1.1
  have CVm := CV1.1
  show X G K 2 0 [some (.ref (ad 0)), some (vi w)] [] h 0 0
  refine x_iload_n C dX8_many_0 rfl rfl ?_
  refine x_bipush C (z := 7) dX8_many_1 (by decide) ?_
  refine x_invS C s_Tab_164 (st := []) (c_needQuestion ⟨by omega, by omega, by omega⟩) rfl rfl (Nat.le_of_ble_eq_true rfl) (xRm_of hR (by omega) (by decide) (by omega) (by omega)) dX8_many_3 (fun r9 h9 hq => ?_)
  obtain ⟨rfl, e9⟩ := hq
  have e9 := e9.symm
  subst e9
  refine x_aload_n C dX8_many_6 rfl rfl ?_
  refine x_invV C s_Tab_168 (st := []) (c_refresh hj T) h0 rfl rfl (Nat.le_of_ble_eq_true rfl) (xRm_of hR (by omega) (by decide) (by omega) (by omega)) dX8_many_7 (fun r9 h9 hq => ?_)
  obtain ⟨rfl, T1, F1⟩ := hq
  obtain ⟨h01, Ls1, fx1, ln1, ch1, rs1, PQ1, VQ1, AQ1⟩ := T1.plR
  refine x_aload_n C dX8_many_10 rfl rfl ?_
  refine x_iload_n C dX8_many_11 rfl rfl ?_
  refine x_invV C s_Tab_201 (st := []) (c_askWhole hj T1 hw) h01 rfl rfl (Nat.le_of_ble_eq_true rfl) (xRm_of hR (by omega) (by decide) (by omega) (by omega)) dX8_many_12 (fun r9 h9 hq => ?_)
  obtain ⟨rfl, e9⟩ := hq
  have e9 := e9.symm
  subst e9
  exact x_iret C E rfl (by omega) (by omega) dX8_many_15 (⟨rfl, T1, F1⟩)

set_option maxRecDepth 100000 in
set_option maxHeartbeats 4000000 in
theorem c_needVoicing {G : xG} {h : PH} {cls bass fm : Nat} (hq : 1 ≤ cls ∧ cls ≤ 4095 ∧ bass ≤ 11 ∧ 1 ≤ fm ∧ fm ≤ 9) (hb : bci cls ≤ 4) (h2 : cls / 2 ^ bass % 2 = 1) : Cn G m_Tab_needVoicing 1 0 0 [vi (cls : Int), vi (bass : Int), vi (fm : Int)] h (fun r h' => r = none ∧ h' = h) := by
  refine Cn_of (by decide) (Nat.le_of_ble_eq_true rfl) (fun K C hR E => ?_)
  have hbr := bci_rg cls
  have hdl : cls / 2 ^ bass ≤ cls := Nat.div_le_self _ _
  show X G K 3 0 [some (vi (cls : Int)), some (vi (bass : Int)), some (vi (fm : Int))] [] h 0 0
  refine x_iload_n C dX8_needVoicing_0 rfl rfl ?_
  refine x_iconst C dX8_needVoicing_1 ?_
  refine x_icmp_lt C (tgt := 20) dX8_needVoicing_2 (by decide) ⟨by omega, by omega⟩ (by decide) (fun c2 => ?_) (fun c2 => ?_)
  · skip
    exfalso; omega
  · skip
    refine x_iload_n C dX8_needVoicing_5 rfl rfl ?_
    refine x_sipush C (z := 4095) dX8_needVoicing_6 (by decide) ?_
    refine x_icmp_gt C (tgt := 20) dX8_needVoicing_9 (by decide) ⟨by omega, by omega⟩ (by decide) (fun c9 => ?_) (fun c9 => ?_)
    · skip
      exfalso; omega
    · skip
      refine x_iload_n C dX8_needVoicing_12 rfl rfl ?_
      refine x_invS C s_Tab_334 (st := []) (c_bitCount (I (cls : Int))) rfl rfl (Nat.le_of_ble_eq_true rfl) (xRm_of hR (by omega) (by decide) (by omega) (by omega)) dX8_needVoicing_13 (fun r9 h9 hq => ?_)
      obtain ⟨rfl, e9⟩ := hq
      have e9 := e9.symm
      subst e9
      rw [(bci_rg cls).2.2]
      refine x_iconst C dX8_needVoicing_16 ?_
      refine x_icmp_le C (tgt := 31) dX8_needVoicing_17 (by decide) ⟨by omega, by omega⟩ (by decide) (fun c17 => ?_) (fun c17 => ?_)
      · skip
        refine x_iload_n C dX8_needVoicing_31 rfl rfl ?_
        refine x_if_lt C (tgt := 49) dX8_needVoicing_32 (by decide) ⟨by omega, by omega⟩ (fun c32 => ?_) (fun c32 => ?_)
        · skip
          exfalso; omega
        · skip
          refine x_iload_n C dX8_needVoicing_35 rfl rfl ?_
          refine x_bipush C (z := 12) dX8_needVoicing_36 (by decide) ?_
          refine x_icmp_ge C (tgt := 49) dX8_needVoicing_38 (by decide) ⟨by omega, by omega⟩ (by decide) (fun c38 => ?_) (fun c38 => ?_)
          · skip
            exfalso; omega
          · skip
            refine x_iload_n C dX8_needVoicing_41 rfl rfl ?_
            refine x_iload_n C dX8_needVoicing_42 rfl rfl ?_
            refine x_ishr C (c := ((cls / 2 ^ bass : Nat) : Int)) dX8_needVoicing_43 (sh_r (by omega) (by omega)) ?_
            refine x_iconst C dX8_needVoicing_44 ?_
            refine x_iand C (c := ((cls / 2 ^ bass % 2 : Nat) : Int)) dX8_needVoicing_45 (by rw [show (1 : Int) = ((1 : Nat) : Int) from rfl, I_and]; exact congrArg (fun n : Nat => I (n : Int)) (Nat.and_two_pow_sub_one_eq_mod _ 1)) ?_
            refine x_if_ne C (tgt := 60) dX8_needVoicing_46 (by decide) (by have : cls / 2 ^ bass % 2 < 2 := Nat.mod_lt _ (by decide); exact ⟨by omega, by omega⟩) (fun c46 => ?_) (fun c46 => ?_)
            · skip
              refine x_iload_n C dX8_needVoicing_60 rfl rfl ?_
              refine x_iconst C dX8_needVoicing_61 ?_
              refine x_icmp_lt C (tgt := 71) dX8_needVoicing_62 (by decide) ⟨by omega, by omega⟩ (by decide) (fun c62 => ?_) (fun c62 => ?_)
              · skip
                exfalso; omega
              · skip
                refine x_iload_n C dX8_needVoicing_65 rfl rfl ?_
                refine x_bipush C (z := 9) dX8_needVoicing_66 (by decide) ?_
                refine x_icmp_le C (tgt := 82) dX8_needVoicing_68 (by decide) ⟨by omega, by omega⟩ (by decide) (fun c68 => ?_) (fun c68 => ?_)
                · skip
                  exact x_vret C E rfl (by omega) (by omega) dX8_needVoicing_82 (⟨rfl, rfl⟩)
                · skip
                  exfalso; omega
            · skip
              exfalso; omega
      · skip
        exfalso; omega

set_option maxRecDepth 100000 in
set_option maxHeartbeats 4000000 in
theorem c_shapes {G : xG} {h : PH} {ad : Nat → Nat} (hj : ∀ i j, i < 300 → j < 300 → ad i = ad j → i = j) {fq : Bool} {Q : Ins} {P : Pie} (T : TabR G h ad fq Q P) {cls bass fm : Nat} (hq : 1 ≤ cls ∧ cls ≤ 4095 ∧ bass ≤ 11 ∧ 1 ≤ fm ∧ fm ≤ 9) (hb : bci cls ≤ 4) (h2 : cls / 2 ^ bass % 2 = 1) : Cn G m_Tab_shapes 13 0 0 [.ref (ad 0), vi (cls : Int), vi (bass : Int), vi (fm : Int)] h (fun r h' => r = some (vi (shA Q.n Q.op Q.sl Q.cp Q.rc cls bass fm).1) ∧ TabR G h' ad fq Q P ∧ frO ad h h') := by
  refine Cn_of (by decide) (Nat.le_of_ble_eq_true rfl) (fun K C hR E => ?_)
  obtain ⟨st, hst, h0, hPA, hPF⟩ := id T.1
  have IV1 := T.2.2.2.2.2.2.2.1
  have CV1 := T.2.2.2.2.2.2.2.2
  have IVn := IV1.1
  have CVm := CV1.1
  show X G K 4 0 [some (.ref (ad 0)), some (vi (cls : Int)), some (vi (bass : Int)), some (vi (fm : Int))] [] h 0 0
  refine x_iload_n C dX8_shapes_0 rfl rfl ?_
  refine x_iload_n C dX8_shapes_1 rfl rfl ?_
  refine x_iload_n C dX8_shapes_2 rfl rfl ?_
  refine x_invS C s_Tab_207 (st := []) (c_needVoicing hq hb h2) rfl rfl (Nat.le_of_ble_eq_true rfl) (xRm_of hR (by omega) (by decide) (by omega) (by omega)) dX8_shapes_3 (fun r9 h9 hq => ?_)
  obtain ⟨rfl, e9⟩ := hq
  have e9 := e9.symm
  subst e9
  refine x_aload_n C dX8_shapes_6 rfl rfl ?_
  refine x_iload_n C dX8_shapes_7 rfl rfl ?_
  refine x_iload_n C dX8_shapes_8 rfl rfl ?_
  refine x_iload_n C dX8_shapes_9 rfl rfl ?_
  refine x_invV C s_Tab_211 (st := []) (c_freshVoicing hj T hq) h0 rfl rfl (Nat.le_of_ble_eq_true rfl) (xRm_of hR (by omega) (by decide) (by omega) (by omega)) dX8_shapes_10 (fun r9 h9 hq => ?_)
  obtain ⟨rfl, T1, hv, F1⟩ := hq
  obtain ⟨st1, hst1, h01, hPA1, hPF1⟩ := id T1.1
  refine x_get C f_Tab_215 hv rfl dX8_shapes_13 ?_
  exact x_iret C E rfl (by omega) (by omega) dX8_shapes_16 (⟨rfl, T1, F1⟩)

set_option maxRecDepth 100000 in
set_option maxHeartbeats 4000000 in
theorem c_shapeEffort {G : xG} {h : PH} {ad : Nat → Nat} (hj : ∀ i j, i < 300 → j < 300 → ad i = ad j → i = j) {fq : Bool} {Q : Ins} {P : Pie} (T : TabR G h ad fq Q P) {cls bass fm : Nat} (hq : 1 ≤ cls ∧ cls ≤ 4095 ∧ bass ≤ 11 ∧ 1 ≤ fm ∧ fm ≤ 9) (hb : bci cls ≤ 4) (h2 : cls / 2 ^ bass % 2 = 1) : Cn G m_Tab_shapeEffort 13 0 0 [.ref (ad 0), vi (cls : Int), vi (bass : Int), vi (fm : Int)] h (fun r h' => r = some (vi (shA Q.n Q.op Q.sl Q.cp Q.rc cls bass fm).2.1) ∧ TabR G h' ad fq Q P ∧ frO ad h h') := by
  refine Cn_of (by decide) (Nat.le_of_ble_eq_true rfl) (fun K C hR E => ?_)
  obtain ⟨st, hst, h0, hPA, hPF⟩ := id T.1
  have IV1 := T.2.2.2.2.2.2.2.1
  have CV1 := T.2.2.2.2.2.2.2.2
  have IVn := IV1.1
  have CVm := CV1.1
  show X G K 4 0 [some (.ref (ad 0)), some (vi (cls : Int)), some (vi (bass : Int)), some (vi (fm : Int))] [] h 0 0
  refine x_iload_n C dX8_shapeEffort_0 rfl rfl ?_
  refine x_iload_n C dX8_shapeEffort_1 rfl rfl ?_
  refine x_iload_n C dX8_shapeEffort_2 rfl rfl ?_
  refine x_invS C s_Tab_207 (st := []) (c_needVoicing hq hb h2) rfl rfl (Nat.le_of_ble_eq_true rfl) (xRm_of hR (by omega) (by decide) (by omega) (by omega)) dX8_shapeEffort_3 (fun r9 h9 hq => ?_)
  obtain ⟨rfl, e9⟩ := hq
  have e9 := e9.symm
  subst e9
  refine x_aload_n C dX8_shapeEffort_6 rfl rfl ?_
  refine x_iload_n C dX8_shapeEffort_7 rfl rfl ?_
  refine x_iload_n C dX8_shapeEffort_8 rfl rfl ?_
  refine x_iload_n C dX8_shapeEffort_9 rfl rfl ?_
  refine x_invV C s_Tab_211 (st := []) (c_freshVoicing hj T hq) h0 rfl rfl (Nat.le_of_ble_eq_true rfl) (xRm_of hR (by omega) (by decide) (by omega) (by omega)) dX8_shapeEffort_10 (fun r9 h9 hq => ?_)
  obtain ⟨rfl, T1, hv, F1⟩ := hq
  obtain ⟨st1, hst1, h01, hPA1, hPF1⟩ := id T1.1
  refine x_get C f_Tab_216 hv rfl dX8_shapeEffort_13 ?_
  exact x_iret C E rfl (by omega) (by omega) dX8_shapeEffort_16 (⟨rfl, T1, F1⟩)

set_option maxRecDepth 100000 in
set_option maxHeartbeats 4000000 in
theorem c_shapeFret {G : xG} {h : PH} {ad : Nat → Nat} (hj : ∀ i j, i < 300 → j < 300 → ad i = ad j → i = j) {fq : Bool} {Q : Ins} {P : Pie} (T : TabR G h ad fq Q P) {cls bass fm : Nat} (hq : 1 ≤ cls ∧ cls ≤ 4095 ∧ bass ≤ 11 ∧ 1 ≤ fm ∧ fm ≤ 9) (hb : bci cls ≤ 4) (h2 : cls / 2 ^ bass % 2 = 1) {s : Nat} (hs : s < Q.n) : Cn G m_Tab_shapeFret 13 0 0 [.ref (ad 0), vi (cls : Int), vi (bass : Int), vi (fm : Int), vi (s : Int)] h (fun r h' => r = some (vi (fr (shA Q.n Q.op Q.sl Q.cp Q.rc cls bass fm).2.2.2 s)) ∧ TabR G h' ad fq Q P ∧ frO ad h h') := by
  refine Cn_of (by decide) (Nat.le_of_ble_eq_true rfl) (fun K C hR E => ?_)
  obtain ⟨st, hst, h0, hPA, hPF⟩ := id T.1
  have IV1 := T.2.2.2.2.2.2.2.1
  have CV1 := T.2.2.2.2.2.2.2.2
  have IVn := IV1.1
  have CVm := CV1.1
  show X G K 5 0 [some (.ref (ad 0)), some (vi (cls : Int)), some (vi (bass : Int)), some (vi (fm : Int)), some (vi (s : Int))] [] h 0 0
  refine x_aload_n C dX8_shapeFret_0 rfl rfl ?_
  refine x_iload C dX8_shapeFret_1 rfl ?_
  refine x_invV C s_Tab_76 (st := []) (c_needString hj T hs) h0 rfl rfl (Nat.le_of_ble_eq_true rfl) (xRm_of hR (by omega) (by decide) (by omega) (by omega)) dX8_shapeFret_3 (fun r9 h9 hq => ?_)
  obtain ⟨rfl, e9⟩ := hq
  have e9 := e9.symm
  subst e9
  refine x_iload_n C dX8_shapeFret_6 rfl rfl ?_
  refine x_iload_n C dX8_shapeFret_7 rfl rfl ?_
  refine x_iload_n C dX8_shapeFret_8 rfl rfl ?_
  refine x_invS C s_Tab_207 (st := []) (c_needVoicing hq hb h2) rfl rfl (Nat.le_of_ble_eq_true rfl) (xRm_of hR (by omega) (by decide) (by omega) (by omega)) dX8_shapeFret_9 (fun r9 h9 hq => ?_)
  obtain ⟨rfl, e9⟩ := hq
  have e9 := e9.symm
  subst e9
  refine x_aload_n C dX8_shapeFret_12 rfl rfl ?_
  refine x_iload_n C dX8_shapeFret_13 rfl rfl ?_
  refine x_iload_n C dX8_shapeFret_14 rfl rfl ?_
  refine x_iload_n C dX8_shapeFret_15 rfl rfl ?_
  refine x_invV C s_Tab_211 (st := []) (c_freshVoicing hj T hq) h0 rfl rfl (Nat.le_of_ble_eq_true rfl) (xRm_of hR (by omega) (by decide) (by omega) (by omega)) dX8_shapeFret_16 (fun r9 h9 hq => ?_)
  obtain ⟨rfl, T1, hv, F1⟩ := hq
  obtain ⟨st1, hst1, h01, hPA1, hPF1⟩ := id T1.1
  refine x_iload C dX8_shapeFret_19 rfl ?_
  refine x_invV C s_Tab_219 (st := []) (c_Sh_bestFret hv (shA_V _ _ _ _ _ _ _ IV1.2.2.1) (z := s) (by omega)) hv rfl rfl (Nat.le_of_ble_eq_true rfl) (xRm_of hR (by omega) (by decide) (by omega) (by omega)) dX8_shapeFret_21 (fun r9 h9 hq => ?_)
  obtain ⟨rfl, e9⟩ := hq
  have e9 := e9.symm
  subst e9
  exact x_iret C E rfl (by omega) (by omega) dX8_shapeFret_24 (⟨rfl, T1, F1⟩)

set_option maxRecDepth 100000 in
set_option maxHeartbeats 4000000 in
theorem c_totalWith {G : xG} {h : PH} {ad : Nat → Nat} (hj : ∀ i j, i < 300 → j < 300 → ad i = ad j → i = j) {fq : Bool} {Q : Ins} {P : Pie} (T : TabR G h ad fq Q P) {cp2 rc2 : Int} (hcp : 0 ≤ cp2 ∧ cp2 ≤ 7) (hrc : 1 ≤ rc2 ∧ rc2 ≤ 6) : Cn G m_Tab_totalWith 10 0 0 [.ref (ad 0), vi cp2, vi rc2] h (fun r h' => r = some (vi (qT (Q.n, Q.op, Q.sl, cp2, rc2) P)) ∧ TabR G h' ad fq Q P ∧ frO ad h h') := by
  refine Cn_of (by decide) (Nat.le_of_ble_eq_true rfl) (fun K C hR E => ?_)
  obtain ⟨st, hst, h0, hPA, hPF⟩ := id T.1
  have IV1 := T.2.2.2.2.2.2.2.1
  have CV1 := T.2.2.2.2.2.2.2.2
  have IVn := IV1.1
  have CVm := CV1.1
  show X G K 3 0 [some (.ref (ad 0)), some (vi cp2), some (vi rc2)] [] h 0 0
  refine x_iload_n C dX8_totalWith_0 rfl rfl ?_
  refine x_invS C s_Tab_91 (st := []) (c_needCapo hcp) rfl rfl (Nat.le_of_ble_eq_true rfl) (xRm_of hR (by omega) (by decide) (by omega) (by omega)) dX8_totalWith_1 (fun r9 h9 hq => ?_)
  obtain ⟨rfl, e9⟩ := hq
  have e9 := e9.symm
  subst e9
  refine x_iload_n C dX8_totalWith_4 rfl rfl ?_
  refine x_invS C s_Tab_97 (st := []) (c_needReach hrc) rfl rfl (Nat.le_of_ble_eq_true rfl) (xRm_of hR (by omega) (by decide) (by omega) (by omega)) dX8_totalWith_5 (fun r9 h9 hq => ?_)
  obtain ⟨rfl, e9⟩ := hq
  have e9 := e9.symm
  subst e9
  refine x_aload_n C dX8_totalWith_8 rfl rfl ?_
  refine x_iload_n C dX8_totalWith_9 rfl rfl ?_
  refine x_iload_n C dX8_totalWith_10 rfl rfl ?_
  refine x_invV C s_Tab_222 (st := []) (c_totalUnder hj T hcp hrc) h0 rfl rfl (Nat.le_of_ble_eq_true rfl) (xRm_of hR (by omega) (by decide) (by omega) (by omega)) dX8_totalWith_11 (fun r9 h9 hq => ?_)
  obtain ⟨rfl, T1, F1⟩ := hq
  obtain ⟨st1, hst1, h01, hPA1, hPF1⟩ := id T1.1
  exact x_iret C E rfl (by omega) (by omega) dX8_totalWith_14 (⟨rfl, T1, F1⟩)
