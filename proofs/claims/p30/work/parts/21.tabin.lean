/-! Tablature: what its own methods ask of each other. -/
theorem own_lt {i : Nat} (h : own i) : i < 300 := by unfold own at h; omega

set_option maxRecDepth 100000 in
set_option maxHeartbeats 4000000 in
theorem c_instrChanged {G : xG} {h : PH} {ad : Nat → Nat} (hj : ∀ i j, i < 300 → j < 300 → ad i = ad j → i = j) {st0 : Bool} {p : ShS} {cls bass fm : Nat} (h0 : h (ad 0) = insS ad st0) (h9 : h (ad 9) = xSh p cls bass fm (ad 10)) : Cn G m_Tab_instrumentChanged 1 0 0 [.ref (ad 0)] h (fun r h' => r = none ∧ h' = va_up (va_up h (ad 0) (insS ad true)) (ad 9) (xSh p 0 bass fm (ad 10))) := by
  refine Cn_of (by decide) (Nat.le_of_ble_eq_true rfl) (fun K C hR E => ?_)
  show X G K 1 0 [some (.ref (ad 0))] [] h 0 0
  refine x_aload_n C dX8_instrumentChanged_0 rfl rfl ?_
  refine x_iconst C dX8_instrumentChanged_1 ?_
  refine x_put C p_Tab_50 h0 (fit_bool true) (Nat.le_of_ble_eq_true rfl) (h1 := (va_up h (ad 0) (xO 7 [.ref (ad 1), .ref (ad 4), .ref (ad 7), .ref (ad 100), .ref (ad 200), .ref (ad 9), .ref (ad 12), vi (b2i true)]))) rfl dX8_instrumentChanged_2 ?_
  refine x_aload_n C dX8_instrumentChanged_5 rfl rfl ?_
  refine x_get C f_Tab_39 up_s rfl dX8_instrumentChanged_6 ?_
  refine x_invV C s_Tab_306 (st := []) (c_Sh_forget ((up_n (adne hj (by omega) (by omega) (by omega))).trans h9)) ((up_n (adne hj (by omega) (by omega) (by omega))).trans h9) rfl rfl (Nat.le_of_ble_eq_true rfl) (xRm_of hR (by omega) (by decide) (by omega) (by omega)) dX8_instrumentChanged_9 (fun r9 h9 hq => ?_)
  obtain ⟨rfl, e9⟩ := hq
  have e9 := e9.symm
  subst e9
  exact x_vret C E rfl (by omega) (by omega) dX8_instrumentChanged_12 (⟨rfl, rfl⟩)

set_option maxRecDepth 100000 in
set_option maxHeartbeats 4000000 in
theorem c_needString {G : xG} {h : PH} {ad : Nat → Nat} (hj : ∀ i j, i < 300 → j < 300 → ad i = ad j → i = j) {fq : Bool} {Q : Ins} {P : Pie} (T : TabR G h ad fq Q P) {s : Nat} (hs : s < Q.n) : Cn G m_Tab_needString 0 0 0 [.ref (ad 0), vi (s : Int)] h (fun r h' => r = none ∧ h' = h) := by
  refine Cn_of (by decide) (Nat.le_of_ble_eq_true rfl) (fun K C hR E => ?_)
  obtain ⟨st, hst, h0, hPA, hPF⟩ := id T.1
  have IV1 := T.2.2.2.2.2.2.2.1
  have CV1 := T.2.2.2.2.2.2.2.2
  have IVn := IV1.1
  have CVm := CV1.1
  show X G K 2 0 [some (.ref (ad 0)), some (vi (s : Int))] [] h 0 0
  refine x_iload_n C dX8_needString_0 rfl rfl ?_
  refine x_if_lt C (tgt := 15) dX8_needString_1 (by decide) ⟨by omega, by omega⟩ (fun c1 => ?_) (fun c1 => ?_)
  · skip
    exfalso; omega
  · skip
    refine x_iload_n C dX8_needString_4 rfl rfl ?_
    refine x_aload_n C dX8_needString_5 rfl rfl ?_
    refine x_get C f_Tab_10 h0 rfl dX8_needString_6 ?_
    refine x_get C f_Tab_58 T.2.1.1 rfl dX8_needString_9 ?_
    refine x_icmp_lt C (tgt := 26) dX8_needString_12 (by decide) ⟨by omega, by omega⟩ ⟨by omega, by omega⟩ (fun c12 => ?_) (fun c12 => ?_)
    · skip
      exact x_vret C E rfl (by omega) (by omega) dX8_needString_26 (⟨rfl, rfl⟩)
    · skip
      exfalso; omega

set_option maxRecDepth 100000 in
set_option maxHeartbeats 4000000 in
theorem c_needChord {G : xG} {h : PH} {ad : Nat → Nat} (hj : ∀ i j, i < 300 → j < 300 → ad i = ad j → i = j) {fq : Bool} {Q : Ins} {P : Pie} (T : TabR G h ad fq Q P) {c : Nat} (hc : c < P.m) : Cn G m_Tab_needChord 0 0 0 [.ref (ad 0), vi (c : Int)] h (fun r h' => r = none ∧ h' = h) := by
  refine Cn_of (by decide) (Nat.le_of_ble_eq_true rfl) (fun K C hR E => ?_)
  obtain ⟨st, hst, h0, hPA, hPF⟩ := id T.1
  have IV1 := T.2.2.2.2.2.2.2.1
  have CV1 := T.2.2.2.2.2.2.2.2
  have IVn := IV1.1
  have CVm := CV1.1
  show X G K 2 0 [some (.ref (ad 0)), some (vi (c : Int))] [] h 0 0
  refine x_iload_n C dX8_needChord_0 rfl rfl ?_
  refine x_if_lt C (tgt := 15) dX8_needChord_1 (by decide) ⟨by omega, by omega⟩ (fun c1 => ?_) (fun c1 => ?_)
  · skip
    exfalso; omega
  · skip
    refine x_iload_n C dX8_needChord_4 rfl rfl ?_
    refine x_aload_n C dX8_needChord_5 rfl rfl ?_
    refine x_get C f_Tab_22 h0 rfl dX8_needChord_6 ?_
    refine x_get C f_Tab_127 T.2.2.2.1.1 rfl dX8_needChord_9 ?_
    refine x_icmp_lt C (tgt := 26) dX8_needChord_12 (by decide) ⟨by omega, by omega⟩ ⟨by omega, by omega⟩ (fun c12 => ?_) (fun c12 => ?_)
    · skip
      exact x_vret C E rfl (by omega) (by omega) dX8_needChord_26 (⟨rfl, rfl⟩)
    · skip
      exfalso; omega

theorem numL_bd (L : List Nat) (z : Int) (h : L.length ≤ 30) : bd (numL L z) := by
  have := numL_rg L z
  exact ⟨by omega, by omega⟩
theorem insL_len30 {L : List Nat} (c : Nat) (h : L.length ≤ 30) : (insL L c).length ≤ 30 := by
  unfold insL
  split
  · simp only [List.length_take]; omega
  · exact h
theorem plc_len (n : Nat) (op : Nat → Int) (sl : Nat → Bool) (cp rc : Int) : ∀ (l : List Int) (cd : Nat) (L : List Nat), L.length ≤ 30 → (plc n op sl cp rc l cd L).length ≤ 30
  | [], cd, L, h => by
    unfold plc
    split
    · exact insL_len30 _ h
    · exact h
  | p :: l, cd, L, h => by
    unfold plc
    refine foldl_V (P := fun L : List Nat => L.length ≤ 30) _ _ h (fun a k _ ha => ?_)
    split
    · exact plc_len n op sl cp rc l _ _ ha
    · exact ha
theorem LT_len (n : Nat) (op : Nat → Int) (sl : Nat → Bool) (cp rc : Int) (si : Nat → Nat) (pt : Nat → Nat → Int) (c : Nat) : (LT n op sl cp rc si pt c).length ≤ 30 := plc_len n op sl cp rc _ _ _ (by decide)
theorem PV_read {fx ln ch : Nat → Int} {tot : Int} {cnt : Nat} {rs : Nat → Nat → Int} {m : Nat} {si : Nat → Nat} {pt : Nat → Nat → Int} {cl cf g : Nat → Int} (V : PV fx ln ch tot cnt rs) (C : CV m si pt cl cf) (hg : ∀ c, bd (g c)) : PV (upk m g fx) (upk m cl ln) ch tot m rs :=
  ⟨fun c => ⟨upk_bd hg (fun c => (V.1 c).1) c, upk_bd (fun c => (C.2.2.2.2 c).1) (fun c => (V.1 c).2.1) c, (V.1 c).2.2⟩, V.2.1, C.1, V.2.2.2⟩

set_option maxRecDepth 100000 in
set_option maxHeartbeats 4000000 in
theorem c_refresh {G : xG} {h : PH} {ad : Nat → Nat} (hj : ∀ i j, i < 300 → j < 300 → ad i = ad j → i = j) {fq : Bool} {Q : Ins} {P : Pie} (T : TabR G h ad fq Q P)  : Cn G m_Tab_refreshPlan 9 0 0 [.ref (ad 0)] h (fun r h' => r = none ∧ TabR G h' ad true Q P ∧ frO ad h h') := by
  refine Cn_of (by decide) (Nat.le_of_ble_eq_true rfl) (fun K C hR E => ?_)
  obtain ⟨st, hst, h0, hPA, hPF⟩ := id T.1
  have IV1 := T.2.2.2.2.2.2.2.1
  have CV1 := T.2.2.2.2.2.2.2.2
  have IVn := IV1.1
  have CVm := CV1.1
  obtain ⟨Ls0, fx0, ln0, ch0, tot0, cnt0, rs0, PA, VA⟩ := id hPA
  show X G K 1 0 [some (.ref (ad 0))] [] h 0 0
  refine x_aload_n C dX8_refreshPlan_0 rfl rfl ?_
  refine x_get C f_Tab_50 h0 rfl dX8_refreshPlan_1 ?_
  refine x_ifeqB C (tgt := 34) dX8_refreshPlan_4 (by decide) (fun c4 => ?_) (fun c4 => ?_)
  · skip
    exact x_vret C E rfl (by omega) (by omega) dX8_refreshPlan_34 (⟨rfl, ⟨⟨st, fun _ => c4, h0, hPA, hPF⟩, T.2⟩, frO.refl ad h⟩)
  · skip
    refine x_aload_n C dX8_refreshPlan_7 rfl rfl ?_
    refine x_get C f_Tab_29 h0 rfl dX8_refreshPlan_8 ?_
    refine x_aload_n C dX8_refreshPlan_11 rfl rfl ?_
    refine x_get C f_Tab_10 h0 rfl dX8_refreshPlan_12 ?_
    refine x_aload_n C dX8_refreshPlan_15 rfl rfl ?_
    refine x_get C f_Tab_22 h0 rfl dX8_refreshPlan_16 ?_
    refine x_invV C s_Tab_229 (st := []) (c_read hj (Or.inl rfl) PA VA (jI := 1) (Or.inl rfl) T.2.1 IV1 T.2.2.2.1 CV1) PA.1 rfl rfl (Nat.le_of_ble_eq_true rfl) (xRm_of hR (by omega) (by decide) (by omega) (by omega)) dX8_refreshPlan_19 (fun r9 h9 hq => ?_)
    obtain ⟨rfl, P1, F1⟩ := hq
    have V1 : PV (upk P.m (qF Q P) fx0) (upk P.m P.cl ln0) ch0 tot0 P.m rs0 := PV_read VA CV1 (fun c => numL_bd _ _ (LT_len _ _ _ _ _ _ _ _))
    refine x_aload_n C dX8_refreshPlan_22 rfl rfl ?_
    refine x_get C f_Tab_29 ((F1.ad hj (Or.inl rfl) (i := 0) (by omega) (by omega)).trans h0) rfl dX8_refreshPlan_23 ?_
    refine x_invV C s_Tab_233 (st := []) (c_solve hj (Or.inl rfl) P1 V1) P1.1 rfl rfl (Nat.le_of_ble_eq_true rfl) (xRm_of hR (by omega) (by decide) (by omega) (by omega)) dX8_refreshPlan_26 (fun r9 h9 hq => ?_)
    obtain ⟨rfl, rs2, P2, V2, F2⟩ := hq
    refine x_aload_n C dX8_refreshPlan_29 rfl rfl ?_
    refine x_iconst C dX8_refreshPlan_30 ?_
    refine x_put C p_Tab_50 ((F2.ad hj (Or.inl rfl) (i := 0) (by omega) (by omega)).trans ((F1.ad hj (Or.inl rfl) (i := 0) (by omega) (by omega)).trans h0)) (fit_bool false) (Nat.le_of_ble_eq_true rfl) (h1 := (va_up h9 (ad 0) (xO 7 [.ref (ad 1), .ref (ad 4), .ref (ad 7), .ref (ad 100), .ref (ad 200), .ref (ad 9), .ref (ad 12), vi (b2i false)]))) rfl dX8_refreshPlan_31 ?_
    have hk : ∀ i, own i → i ≠ 0 → i < 100 ∨ 168 ≤ i → (va_up h9 (ad 0) (xO 7 [.ref (ad 1), .ref (ad 4), .ref (ad 7), .ref (ad 100), .ref (ad 200), .ref (ad 9), .ref (ad 12), vi (b2i false)])) (ad i) = h (ad i) := fun i ho n0 n1 => (up_n (adne hj n0 (own_lt ho) (by omega))).trans ((F2.ad hj (Or.inl rfl) (own_lt ho) (by omega)).trans (F1.ad hj (Or.inl rfl) (own_lt ho) (by omega)))
    have hPR : PlanR G h9 ad Q P := PlanR.of P2 V2
    exact x_vret C E rfl (by omega) (by omega) dX8_refreshPlan_34 (⟨rfl, TabR.plan (h1 := (va_up h9 (ad 0) (xO 7 [.ref (ad 1), .ref (ad 4), .ref (ad 7), .ref (ad 100), .ref (ad 200), .ref (ad 9), .ref (ad 12), vi (b2i false)]))) T up_s (hPR.kept (fun i hi => up_n (adne hj (by omega) (by omega) (by omega)))) hk, frO.up (((frO.refl ad h).B (Or.inl rfl) F1).B (Or.inl rfl) F2) (i := 0) (by unfold own; omega) _⟩)

set_option maxRecDepth 100000 in
set_option maxHeartbeats 4000000 in
theorem c_needGrip {G : xG} {h : PH} {ad : Nat → Nat} (hj : ∀ i j, i < 300 → j < 300 → ad i = ad j → i = j) {fq : Bool} {Q : Ins} {P : Pie} (T : TabR G h ad fq Q P) {c g : Nat} (hc : c < P.m) (hg : g < (qL Q P c).length) : Cn G m_Tab_needGrip 10 0 0 [.ref (ad 0), vi (c : Int), vi (g : Int)] h (fun r h' => r = some (.ref (ad (100 + 8 + c))) ∧ TabR G h' ad true Q P ∧ frO ad h h') := by
  refine Cn_of (by decide) (Nat.le_of_ble_eq_true rfl) (fun K C hR E => ?_)
  obtain ⟨st, hst, h0, hPA, hPF⟩ := id T.1
  have IV1 := T.2.2.2.2.2.2.2.1
  have CV1 := T.2.2.2.2.2.2.2.2
  have IVn := IV1.1
  have CVm := CV1.1
  show X G K 3 0 [some (.ref (ad 0)), some (vi (c : Int)), some (vi (g : Int))] [] h 0 0
  refine x_aload_n C dX8_needGrip_0 rfl rfl ?_
  refine x_iload_n C dX8_needGrip_1 rfl rfl ?_
  refine x_invV C s_Tab_139 (st := []) (c_needChord hj T hc) h0 rfl rfl (Nat.le_of_ble_eq_true rfl) (xRm_of hR (by omega) (by decide) (by omega) (by omega)) dX8_needGrip_2 (fun r9 h9 hq => ?_)
  obtain ⟨rfl, e9⟩ := hq
  have e9 := e9.symm
  subst e9
  refine x_aload_n C dX8_needGrip_5 rfl rfl ?_
  refine x_invV C s_Tab_168 (st := []) (c_refresh hj T) h0 rfl rfl (Nat.le_of_ble_eq_true rfl) (xRm_of hR (by omega) (by decide) (by omega) (by omega)) dX8_needGrip_6 (fun r9 h9 hq => ?_)
  obtain ⟨rfl, T1, F1⟩ := hq
  obtain ⟨h01, Ls1, fx1, ln1, ch1, rs1, PQ1, VQ1, AQ1⟩ := T1.plR
  have hlc := ((AQ1 c hc).1.1).symm
  have hl30 := LT_len Q.n Q.op Q.sl Q.cp Q.rc P.si P.pt c
  have hg2 : g < (Ls1 c).length := by rw [← hlc]; exact hg
  have hl31 : (Ls1 c).length ≤ 30 := by rw [← hlc]; exact hl30
  refine x_aload_n C dX8_needGrip_9 rfl rfl ?_
  refine x_get C f_Tab_29 h01 rfl dX8_needGrip_10 ?_
  refine x_get C f_Tab_254 PQ1.1 rfl dX8_needGrip_13 ?_
  refine x_iload_n C dX8_needGrip_16 rfl rfl ?_
  refine x_aald C (t := 5) rfl rfl PQ1.2.1 ⟨by omega, by omega, by omega⟩ (b := (ad (100 + 8 + c))) rfl dX8_needGrip_17 ?_
  refine x_iload_n C dX8_needGrip_18 rfl rfl ?_
  refine x_invV C s_Tab_258 (st := []) (c_Grips_has (PQ1.2.2.2.2.2.2.2.1 c (by omega)).obj hl31 ⟨by omega, by omega⟩) (PQ1.2.2.2.2.2.2.2.1 c (by omega)).obj rfl rfl (Nat.le_of_ble_eq_true rfl) (xRm_of hR (by omega) (by decide) (by omega) (by omega)) dX8_needGrip_19 (fun r9 h9 hq => ?_)
  obtain ⟨rfl, e9⟩ := hq
  have e9 := e9.symm
  subst e9
  refine x_ifneB C (tgt := 36) dX8_needGrip_22 (by decide) (fun c22 => ?_) (fun c22 => ?_)
  · skip
    refine x_aload_n C dX8_needGrip_36 rfl rfl ?_
    refine x_get C f_Tab_29 h01 rfl dX8_needGrip_37 ?_
    refine x_get C f_Tab_254 PQ1.1 rfl dX8_needGrip_40 ?_
    refine x_iload_n C dX8_needGrip_43 rfl rfl ?_
    refine x_aald C (t := 5) rfl rfl PQ1.2.1 ⟨by omega, by omega, by omega⟩ (b := (ad (100 + 8 + c))) rfl dX8_needGrip_44 ?_
    exact x_aret C E rfl (by first | exact Or.inl ⟨_, rfl⟩ | exact Or.inr ⟨_, rfl⟩) (by omega) (by omega) dX8_needGrip_45 (⟨rfl, T1, F1⟩)
  · skip
    exfalso; rw [decide_eq_false_iff_not] at c22; omega

def aW (Q : Ins) (P : Pie) (w : Int) : Int := if w = 0 then (Q.n : Int) else if w = 1 then slk Q.sl 6 else if w = 2 then Q.cp else if w = 3 then Q.rc else if w = 4 then (P.m : Int) else if w = 5 then gless (qL Q P) P.m else if w = 6 then fixd (qF Q P) P.m else qSm Q P
def aC (Q : Ins) (P : Pie) (c : Nat) (w : Int) : Int := if w = 0 then (P.si c : Int) else if w = 1 then lowP (P.pt c) (P.si c) else if w = 2 then highP (P.pt c) (P.si c) else if w = 3 then P.cl c else if w = 4 then (((qL Q P c).length : Nat) : Int) else qF Q P c
def aH (f : Nat → Int) (w : Int) : Int := if w = 0 then hEff f else if w = 1 then hLow f else if w = 2 then hHigh f else if w = 3 then hFc f else if w = 4 then (if hBar f = true then 1 else 0) else hSnd f

set_option maxRecDepth 100000 in
set_option maxHeartbeats 4000000 in
theorem c_askWhole {G : xG} {h : PH} {ad : Nat → Nat} (hj : ∀ i j, i < 300 → j < 300 → ad i = ad j → i = j) {Q : Ins} {P : Pie} (T : TabR G h ad true Q P) {w : Int} (hw : 0 ≤ w ∧ w ≤ 7) : Cn G m_Tab_askWhole 3 0 0 [.ref (ad 0), vi w] h (fun r h' => r = some (vi (aW Q P w)) ∧ h' = h) := by
  refine Cn_of (by decide) (Nat.le_of_ble_eq_true rfl) (fun K C hR E => ?_)
  obtain ⟨h0, Ls, fx, ln, ch, rs, PQ, VQ, AQ⟩ := T.plR
  have IV1 := T.2.2.2.2.2.2.2.1
  have CV1 := T.2.2.2.2.2.2.2.2
  have IVn := IV1.1
  have CVm := CV1.1
  show X G K 2 0 [some (.ref (ad 0)), some (vi w)] [] h 0 0
  refine x_iload_n C dX8_askWhole_0 rfl rfl ?_
  obtain rfl | rfl | rfl | rfl | rfl | rfl | rfl | rfl : w = 0 ∨ w = 1 ∨ w = 2 ∨ w = 3 ∨ w = 4 ∨ w = 5 ∨ w = 6 ∨ w = 7 := by omega
  ·
    refine x_tsw C (tgt := 44) dX8_askWhole_1 (by decide) (by decide) (by decide) rfl (by decide) ?_
    refine x_aload_n C dX8_askWhole_44 rfl rfl ?_
    refine x_get C f_Tab_10 h0 rfl dX8_askWhole_45 ?_
    refine x_get C f_Tab_58 T.2.1.1 rfl dX8_askWhole_48 ?_
    exact x_iret C E rfl (by omega) (by omega) dX8_askWhole_51 (⟨rfl, rfl⟩)
  ·
    refine x_tsw C (tgt := 52) dX8_askWhole_1 (by decide) (by decide) (by decide) rfl (by decide) ?_
    refine x_aload_n C dX8_askWhole_52 rfl rfl ?_
    refine x_get C f_Tab_10 h0 rfl dX8_askWhole_53 ?_
    refine x_invV C s_Tab_87 (st := []) (c_Instr_slackCount T.2.1.1 T.2.1.2.2) T.2.1.1 rfl rfl (Nat.le_of_ble_eq_true rfl) (xRm_of hR (by omega) (by decide) (by omega) (by omega)) dX8_askWhole_56 (fun r9 h9 hq => ?_)
    obtain ⟨rfl, e9⟩ := hq
    have e9 := e9.symm
    subst e9
    exact x_iret C E rfl (by omega) (by omega) dX8_askWhole_59 (⟨rfl, rfl⟩)
  ·
    refine x_tsw C (tgt := 60) dX8_askWhole_1 (by decide) (by decide) (by decide) rfl (by decide) ?_
    refine x_aload_n C dX8_askWhole_60 rfl rfl ?_
    refine x_get C f_Tab_10 h0 rfl dX8_askWhole_61 ?_
    refine x_get C f_Tab_94 T.2.1.1 rfl dX8_askWhole_64 ?_
    exact x_iret C E rfl (by omega) (by omega) dX8_askWhole_67 (⟨rfl, rfl⟩)
  ·
    refine x_tsw C (tgt := 68) dX8_askWhole_1 (by decide) (by decide) (by decide) rfl (by decide) ?_
    refine x_aload_n C dX8_askWhole_68 rfl rfl ?_
    refine x_get C f_Tab_10 h0 rfl dX8_askWhole_69 ?_
    refine x_get C f_Tab_100 T.2.1.1 rfl dX8_askWhole_72 ?_
    exact x_iret C E rfl (by omega) (by omega) dX8_askWhole_75 (⟨rfl, rfl⟩)
  ·
    refine x_tsw C (tgt := 76) dX8_askWhole_1 (by decide) (by decide) (by decide) rfl (by decide) ?_
    refine x_aload_n C dX8_askWhole_76 rfl rfl ?_
    refine x_get C f_Tab_22 h0 rfl dX8_askWhole_77 ?_
    refine x_get C f_Tab_127 T.2.2.2.1.1 rfl dX8_askWhole_80 ?_
    exact x_iret C E rfl (by omega) (by omega) dX8_askWhole_83 (⟨rfl, rfl⟩)
  ·
    refine x_tsw C (tgt := 84) dX8_askWhole_1 (by decide) (by decide) (by decide) rfl (by decide) ?_
    refine x_aload_n C dX8_askWhole_84 rfl rfl ?_
    refine x_get C f_Tab_29 h0 rfl dX8_askWhole_85 ?_
    refine x_invV C s_Tab_266 (st := []) (c_gripless hj (Or.inl rfl) PQ VQ) PQ.1 rfl rfl (Nat.le_of_ble_eq_true rfl) (xRm_of hR (by omega) (by decide) (by omega) (by omega)) dX8_askWhole_88 (fun r9 h9 hq => ?_)
    obtain ⟨rfl, e9⟩ := hq
    have e9 := e9.symm
    subst e9
    refine x_re (b := (gless (qL Q P) P.m)) (gless_cong (fun c hc => (AQ c hc).1.1) P.m (Nat.le_refl _)) ?_
    exact x_iret C E rfl (by omega) (by omega) dX8_askWhole_91 (⟨rfl, rfl⟩)
  ·
    refine x_tsw C (tgt := 92) dX8_askWhole_1 (by decide) (by decide) (by decide) rfl (by decide) ?_
    refine x_aload_n C dX8_askWhole_92 rfl rfl ?_
    refine x_get C f_Tab_29 h0 rfl dX8_askWhole_93 ?_
    refine x_invV C s_Tab_269 (st := []) (c_fixedCount hj (Or.inl rfl) PQ VQ) PQ.1 rfl rfl (Nat.le_of_ble_eq_true rfl) (xRm_of hR (by omega) (by decide) (by omega) (by omega)) dX8_askWhole_96 (fun r9 h9 hq => ?_)
    obtain ⟨rfl, e9⟩ := hq
    have e9 := e9.symm
    subst e9
    refine x_re (b := (fixd (qF Q P) P.m)) (fixd_cong (fun c hc => (AQ c hc).2.1) P.m (Nat.le_refl _)) ?_
    exact x_iret C E rfl (by omega) (by omega) dX8_askWhole_99 (⟨rfl, rfl⟩)
  ·
    refine x_tswD C (tgt := 100) dX8_askWhole_1 (by decide) (by decide) (by decide) ?_
    refine x_aload_n C dX8_askWhole_100 rfl rfl ?_
    refine x_get C f_Tab_29 h0 rfl dX8_askWhole_101 ?_
    refine x_invV C s_Tab_272 (st := []) (c_sumOfMoves hj (Or.inl rfl) PQ VQ) PQ.1 rfl rfl (Nat.le_of_ble_eq_true rfl) (xRm_of hR (by omega) (by decide) (by omega) (by omega)) dX8_askWhole_104 (fun r9 h9 hq => ?_)
    obtain ⟨rfl, e9⟩ := hq
    have e9 := e9.symm
    subst e9
    refine x_re (b := (qSm Q P)) (by unfold qSm; rw [smF_cong (fun c hc => (AQ c hc).1) (fun c hc => (AQ c hc).2.2) (P.m - 1) (Nat.le_refl _)]) ?_
    exact x_iret C E rfl (by omega) (by omega) dX8_askWhole_107 (⟨rfl, rfl⟩)

set_option maxRecDepth 100000 in
set_option maxHeartbeats 4000000 in
theorem c_askChord {G : xG} {h : PH} {ad : Nat → Nat} (hj : ∀ i j, i < 300 → j < 300 → ad i = ad j → i = j) {Q : Ins} {P : Pie} (T : TabR G h ad true Q P) {c : Nat} (hc : c < P.m) {w : Int} (hw : 0 ≤ w ∧ w ≤ 5) : Cn G m_Tab_askChord 2 0 0 [.ref (ad 0), vi (c : Int), vi w] h (fun r h' => r = some (vi (aC Q P c w)) ∧ h' = h) := by
  refine Cn_of (by decide) (Nat.le_of_ble_eq_true rfl) (fun K C hR E => ?_)
  obtain ⟨h0, Ls, fx, ln, ch, rs, PQ, VQ, AQ⟩ := T.plR
  have IV1 := T.2.2.2.2.2.2.2.1
  have CV1 := T.2.2.2.2.2.2.2.2
  have IVn := IV1.1
  have CVm := CV1.1
  show X G K 4 0 [some (.ref (ad 0)), some (vi (c : Int)), some (vi w), none] [] h 0 0
  refine x_aload_n C dX8_askChord_0 rfl rfl ?_
  refine x_get C f_Tab_22 h0 rfl dX8_askChord_1 ?_
  refine x_get C f_Tab_157 T.2.2.2.1.1 rfl dX8_askChord_4 ?_
  refine x_iload_n C dX8_askChord_7 rfl rfl ?_
  refine x_aald C (t := 4) rfl rfl T.2.2.2.1.2.1 ⟨by omega, by omega, by omega⟩ (b := (ad (20 + c))) rfl dX8_askChord_8 ?_
  refine x_astore_n C (ls' := [some (.ref (ad 0)), some (vi (c : Int)), some (vi w), some (.ref (ad (20 + c)))]) dX8_askChord_9 rfl (by decide) rfl ?_
  refine x_iload_n C dX8_askChord_10 rfl rfl ?_
  obtain rfl | rfl | rfl | rfl | rfl | rfl : w = 0 ∨ w = 1 ∨ w = 2 ∨ w = 3 ∨ w = 4 ∨ w = 5 := by omega
  ·
    refine x_tsw C (tgt := 44) dX8_askChord_11 (by decide) (by decide) (by decide) rfl (by decide) ?_
    refine x_aload_n C dX8_askChord_44 rfl rfl ?_
    refine x_get C f_Tab_275 (T.2.2.2.1.2.2 c (by omega)).1 rfl dX8_askChord_45 ?_
    exact x_iret C E rfl (by omega) (by omega) dX8_askChord_48 (⟨rfl, rfl⟩)
  ·
    refine x_tsw C (tgt := 49) dX8_askChord_11 (by decide) (by decide) (by decide) rfl (by decide) ?_
    refine x_aload_n C dX8_askChord_49 rfl rfl ?_
    refine x_invV C s_Tab_278 (st := []) (c_Chord_lowest (T.2.2.2.1.2.2 c (by omega)).1 (CV1.2.1 c) (T.2.2.2.1.2.2 c (by omega)).2 (adne hj (by omega) (by omega) (by omega)) (fun j _ => CV1.2.2.1 c j)) (T.2.2.2.1.2.2 c (by omega)).1 rfl rfl (Nat.le_of_ble_eq_true rfl) (xRm_of hR (by omega) (by decide) (by omega) (by omega)) dX8_askChord_50 (fun r9 h9 hq => ?_)
    obtain ⟨rfl, e9⟩ := hq
    have e9 := e9.symm
    subst e9
    exact x_iret C E rfl (by omega) (by omega) dX8_askChord_53 (⟨rfl, rfl⟩)
  ·
    refine x_tsw C (tgt := 54) dX8_askChord_11 (by decide) (by decide) (by decide) rfl (by decide) ?_
    refine x_aload_n C dX8_askChord_54 rfl rfl ?_
    refine x_invV C s_Tab_281 (st := []) (c_Chord_highest (T.2.2.2.1.2.2 c (by omega)).1 (CV1.2.1 c) (T.2.2.2.1.2.2 c (by omega)).2 (adne hj (by omega) (by omega) (by omega)) (fun j _ => CV1.2.2.1 c j)) (T.2.2.2.1.2.2 c (by omega)).1 rfl rfl (Nat.le_of_ble_eq_true rfl) (xRm_of hR (by omega) (by decide) (by omega) (by omega)) dX8_askChord_55 (fun r9 h9 hq => ?_)
    obtain ⟨rfl, e9⟩ := hq
    have e9 := e9.symm
    subst e9
    exact x_iret C E rfl (by omega) (by omega) dX8_askChord_58 (⟨rfl, rfl⟩)
  ·
    refine x_tsw C (tgt := 59) dX8_askChord_11 (by decide) (by decide) (by decide) rfl (by decide) ?_
    refine x_aload_n C dX8_askChord_59 rfl rfl ?_
    refine x_get C f_Tab_284 (T.2.2.2.1.2.2 c (by omega)).1 rfl dX8_askChord_60 ?_
    exact x_iret C E rfl (by omega) (by omega) dX8_askChord_63 (⟨rfl, rfl⟩)
  ·
    refine x_tsw C (tgt := 64) dX8_askChord_11 (by decide) (by decide) (by decide) rfl (by decide) ?_
    refine x_aload_n C dX8_askChord_64 rfl rfl ?_
    refine x_get C f_Tab_29 h0 rfl dX8_askChord_65 ?_
    refine x_get C f_Tab_254 PQ.1 rfl dX8_askChord_68 ?_
    refine x_iload_n C dX8_askChord_71 rfl rfl ?_
    refine x_aald C (t := 5) rfl rfl PQ.2.1 ⟨by omega, by omega, by omega⟩ (b := (ad (100 + 8 + c))) rfl dX8_askChord_72 ?_
    refine x_get C f_Tab_287 (PQ.2.2.2.2.2.2.2.1 c (by omega)).obj rfl dX8_askChord_73 ?_
    refine x_re (b := ((((qL Q P c).length : Nat)) : Int)) (by rw [(AQ c hc).1.1]) ?_
    exact x_iret C E rfl (by omega) (by omega) dX8_askChord_76 (⟨rfl, rfl⟩)
  ·
    refine x_tswD C (tgt := 77) dX8_askChord_11 (by decide) (by decide) (by decide) ?_
    refine x_aload_n C dX8_askChord_77 rfl rfl ?_
    refine x_get C f_Tab_29 h0 rfl dX8_askChord_78 ?_
    refine x_get C f_Tab_236 PQ.1 rfl dX8_askChord_81 ?_
    refine x_iload_n C dX8_askChord_84 rfl rfl ?_
    refine x_iald C PQ.2.2.1 ⟨by omega, by omega, by omega⟩ (v := (fx c)) rfl dX8_askChord_85 ?_
    refine x_re (b := (qF Q P c)) ((AQ c hc).2.1) ?_
    exact x_iret C E rfl (by omega) (by omega) dX8_askChord_86 (⟨rfl, rfl⟩)

set_option maxRecDepth 100000 in
set_option maxHeartbeats 4000000 in
theorem c_askHand {G : xG} {h : PH} {ad : Nat → Nat} (hj : ∀ i j, i < 300 → j < 300 → ad i = ad j → i = j) {fq : Bool} {Q : Ins} {P : Pie} (T : TabR G h ad fq Q P) {f : Nat → Int} (hH : h (ad 12) = xHd (ad 13) f) (hf : fbd f) {w : Int} (hw : 0 ≤ w ∧ w ≤ 5) : Cn G m_Tab_askHand 2 0 0 [.ref (ad 0), vi w] h (fun r h' => r = some (vi (aH f w)) ∧ h' = h) := by
  refine Cn_of (by decide) (Nat.le_of_ble_eq_true rfl) (fun K C hR E => ?_)
  obtain ⟨st, hst, h0, hPA, hPF⟩ := id T.1
  show X G K 2 0 [some (.ref (ad 0)), some (vi w)] [] h 0 0
  refine x_iload_n C dX8_askHand_0 rfl rfl ?_
  obtain rfl | rfl | rfl | rfl | rfl | rfl : w = 0 ∨ w = 1 ∨ w = 2 ∨ w = 3 ∨ w = 4 ∨ w = 5 := by omega
  ·
    refine x_tsw C (tgt := 36) dX8_askHand_1 (by decide) (by decide) (by decide) rfl (by decide) ?_
    refine x_aload_n C dX8_askHand_36 rfl rfl ?_
    refine x_get C f_Tab_46 h0 rfl dX8_askHand_37 ?_
    refine x_invV C s_Tab_288 (st := []) (c_effort hH hf) hH rfl rfl (Nat.le_of_ble_eq_true rfl) (xRm_of hR (by omega) (by decide) (by omega) (by omega)) dX8_askHand_40 (fun r9 h9 hq => ?_)
    obtain ⟨rfl, e9⟩ := hq
    have e9 := e9.symm
    subst e9
    exact x_iret C E rfl (by omega) (by omega) dX8_askHand_43 (⟨rfl, rfl⟩)
  ·
    refine x_tsw C (tgt := 44) dX8_askHand_1 (by decide) (by decide) (by decide) rfl (by decide) ?_
    refine x_aload_n C dX8_askHand_44 rfl rfl ?_
    refine x_get C f_Tab_46 h0 rfl dX8_askHand_45 ?_
    refine x_get C f_Tab_291 hH rfl dX8_askHand_48 ?_
    exact x_iret C E rfl (by omega) (by omega) dX8_askHand_51 (⟨rfl, rfl⟩)
  ·
    refine x_tsw C (tgt := 52) dX8_askHand_1 (by decide) (by decide) (by decide) rfl (by decide) ?_
    refine x_aload_n C dX8_askHand_52 rfl rfl ?_
    refine x_get C f_Tab_46 h0 rfl dX8_askHand_53 ?_
    refine x_get C f_Tab_294 hH rfl dX8_askHand_56 ?_
    exact x_iret C E rfl (by omega) (by omega) dX8_askHand_59 (⟨rfl, rfl⟩)
  ·
    refine x_tsw C (tgt := 60) dX8_askHand_1 (by decide) (by decide) (by decide) rfl (by decide) ?_
    refine x_aload_n C dX8_askHand_60 rfl rfl ?_
    refine x_get C f_Tab_46 h0 rfl dX8_askHand_61 ?_
    refine x_invV C s_Tab_297 (st := []) (c_fingerCount hH hf) hH rfl rfl (Nat.le_of_ble_eq_true rfl) (xRm_of hR (by omega) (by decide) (by omega) (by omega)) dX8_askHand_64 (fun r9 h9 hq => ?_)
    obtain ⟨rfl, e9⟩ := hq
    have e9 := e9.symm
    subst e9
    exact x_iret C E rfl (by omega) (by omega) dX8_askHand_67 (⟨rfl, rfl⟩)
  ·
    refine x_tsw C (tgt := 68) dX8_askHand_1 (by decide) (by decide) (by decide) rfl (by decide) ?_
    refine x_aload_n C dX8_askHand_68 rfl rfl ?_
    refine x_get C f_Tab_46 h0 rfl dX8_askHand_69 ?_
    refine x_get C f_Tab_300 hH rfl dX8_askHand_72 ?_
    refine x_ifeqB C (tgt := 82) dX8_askHand_75 (by decide) (fun c75 => ?_) (fun c75 => ?_)
    · skip
      refine x_iconst C dX8_askHand_82 ?_
      have e9 : aH f 4 = 0 := (show aH f 4 = (if hBar f = true then 1 else 0) from rfl).trans (if_neg (by rw [c75]; decide))
      exact x_iret C E rfl (by omega) (by omega) dX8_askHand_83 (⟨by rw [e9], rfl⟩)
    · skip
      refine x_iconst C dX8_askHand_78 ?_
      refine x_goto C (tgt := 83) dX8_askHand_79 (by decide) ?_
      have e9 : aH f 4 = 1 := (show aH f 4 = (if hBar f = true then 1 else 0) from rfl).trans (if_pos c75)
      exact x_iret C E rfl (by omega) (by omega) dX8_askHand_83 (⟨by rw [e9], rfl⟩)
  ·
    refine x_tswD C (tgt := 84) dX8_askHand_1 (by decide) (by decide) (by decide) ?_
    refine x_aload_n C dX8_askHand_84 rfl rfl ?_
    refine x_get C f_Tab_46 h0 rfl dX8_askHand_85 ?_
    refine x_get C f_Tab_303 hH rfl dX8_askHand_88 ?_
    exact x_iret C E rfl (by omega) (by omega) dX8_askHand_91 (⟨rfl, rfl⟩)

set_option maxRecDepth 100000 in
set_option maxHeartbeats 4000000 in
theorem c_totalUnder {G : xG} {h : PH} {ad : Nat → Nat} (hj : ∀ i j, i < 300 → j < 300 → ad i = ad j → i = j) {fq : Bool} {Q : Ins} {P : Pie} (T : TabR G h ad fq Q P) {cp2 rc2 : Int} (hcp : 0 ≤ cp2 ∧ cp2 ≤ 7) (hrc : 1 ≤ rc2 ∧ rc2 ≤ 6) : Cn G m_Tab_totalUnder 9 0 0 [.ref (ad 0), vi cp2, vi rc2] h (fun r h' => r = some (vi (qT (Q.n, Q.op, Q.sl, cp2, rc2) P)) ∧ TabR G h' ad fq Q P ∧ frO ad h h') := by
  refine Cn_of (by decide) (Nat.le_of_ble_eq_true rfl) (fun K C hR E => ?_)
  obtain ⟨st, hst, h0, hPA, hPF⟩ := id T.1
  have IV1 := T.2.2.2.2.2.2.2.1
  have CV1 := T.2.2.2.2.2.2.2.2
  have IVn := IV1.1
  have CVm := CV1.1
  obtain ⟨n4, op4, sl4, cp4, rc4, T4⟩ := id T.2.2.1
  obtain ⟨Ls0, fx0, ln0, ch0, tot0, cnt0, rs0, PB, VB⟩ := id T.2.2.2.2.2.1
  have IV2 : IV Q.n Q.op cp2 rc2 := ⟨IV1.1, IV1.2.1, hcp, hrc⟩
  show X G K 3 0 [some (.ref (ad 0)), some (vi cp2), some (vi rc2)] [] h 0 0
  refine x_aload_n C dX8_totalUnder_0 rfl rfl ?_
  refine x_get C f_Tab_16 h0 rfl dX8_totalUnder_1 ?_
  refine x_aload_n C dX8_totalUnder_4 rfl rfl ?_
  refine x_get C f_Tab_10 h0 rfl dX8_totalUnder_5 ?_
  refine x_invV C s_Tab_225 (st := []) (c_Instr_copy T4.1 T4.2.1 T4.2.2 T.2.1.1 T.2.1.2.1 T.2.1.2.2 (adne hj (by omega) (by omega) (by omega)) (adne hj (by omega) (by omega) (by omega)) (adne hj (by omega) (by omega) (by omega)) (adne hj (by omega) (by omega) (by omega)) (adne hj (by omega) (by omega) (by omega)) (adne hj (by omega) (by omega) (by omega)) (adne hj (by omega) (by omega) (by omega)) (adne hj (by omega) (by omega) (by omega)) (adne hj (by omega) (by omega) (by omega)) (adne hj (by omega) (by omega) (by omega)) (adne hj (by omega) (by omega) (by omega)) (adne hj (by omega) (by omega) (by omega))) T4.1 rfl rfl (Nat.le_of_ble_eq_true rfl) (xRm_of hR (by omega) (by decide) (by omega) (by omega)) dX8_totalUnder_8 (fun r9 h9 hq => ?_)
  obtain ⟨rfl, e9⟩ := hq
  have e9 := e9.symm
  subst e9
  refine x_aload_n C dX8_totalUnder_11 rfl rfl ?_
  refine x_get C f_Tab_16 ((up_n (adne hj (by omega) (by omega) (by omega))).trans ((up_n (adne hj (by omega) (by omega) (by omega))).trans ((up_n (adne hj (by omega) (by omega) (by omega))).trans h0))) rfl dX8_totalUnder_12 ?_
  refine x_iload_n C dX8_totalUnder_15 rfl rfl ?_
  refine x_put C p_Tab_94 ((up_n (adne hj (by omega) (by omega) (by omega))).trans ((up_n (adne hj (by omega) (by omega) (by omega))).trans up_s)) (fit_int _) (Nat.le_of_ble_eq_true rfl) (h1 := (va_up (va_up (va_up h (ad 4) (xO 3 [.ref (ad (4 + 1)), .ref (ad (4 + 2)), vi (Q.n : Int), vi cp2, vi Q.rc])) (ad (4 + 1)) (xI G 6 Q.op)) (ad (4 + 2)) (xZ G 6 Q.sl))) ((up_c _ _ _ (adne hj (by omega) (by omega) (by omega))).trans (congrArg (fun f => va_up f (ad (4 + 2)) _) ((up_c _ _ _ (adne hj (by omega) (by omega) (by omega))).trans (congrArg (fun f => va_up f (ad (4 + 1)) _) (up_u _ _ _ _))))) dX8_totalUnder_16 ?_
  refine x_aload_n C dX8_totalUnder_19 rfl rfl ?_
  refine x_get C f_Tab_16 ((up_n (adne hj (by omega) (by omega) (by omega))).trans ((up_n (adne hj (by omega) (by omega) (by omega))).trans ((up_n (adne hj (by omega) (by omega) (by omega))).trans h0))) rfl dX8_totalUnder_20 ?_
  refine x_iload_n C dX8_totalUnder_23 rfl rfl ?_
  refine x_put C p_Tab_100 ((up_n (adne hj (by omega) (by omega) (by omega))).trans ((up_n (adne hj (by omega) (by omega) (by omega))).trans up_s)) (fit_int _) (Nat.le_of_ble_eq_true rfl) (h1 := (va_up (va_up (va_up h (ad 4) (xO 3 [.ref (ad (4 + 1)), .ref (ad (4 + 2)), vi (Q.n : Int), vi cp2, vi rc2])) (ad (4 + 1)) (xI G 6 Q.op)) (ad (4 + 2)) (xZ G 6 Q.sl))) ((up_c _ _ _ (adne hj (by omega) (by omega) (by omega))).trans (congrArg (fun f => va_up f (ad (4 + 2)) _) ((up_c _ _ _ (adne hj (by omega) (by omega) (by omega))).trans (congrArg (fun f => va_up f (ad (4 + 1)) _) (up_u _ _ _ _))))) dX8_totalUnder_24 ?_
  refine x_aload_n C dX8_totalUnder_27 rfl rfl ?_
  refine x_get C f_Tab_33 ((up_n (adne hj (by omega) (by omega) (by omega))).trans ((up_n (adne hj (by omega) (by omega) (by omega))).trans ((up_n (adne hj (by omega) (by omega) (by omega))).trans h0))) rfl dX8_totalUnder_28 ?_
  refine x_aload_n C dX8_totalUnder_31 rfl rfl ?_
  refine x_get C f_Tab_16 ((up_n (adne hj (by omega) (by omega) (by omega))).trans ((up_n (adne hj (by omega) (by omega) (by omega))).trans ((up_n (adne hj (by omega) (by omega) (by omega))).trans h0))) rfl dX8_totalUnder_32 ?_
  refine x_aload_n C dX8_totalUnder_35 rfl rfl ?_
  refine x_get C f_Tab_22 ((up_n (adne hj (by omega) (by omega) (by omega))).trans ((up_n (adne hj (by omega) (by omega) (by omega))).trans ((up_n (adne hj (by omega) (by omega) (by omega))).trans h0))) rfl dX8_totalUnder_36 ?_
  have PB1 : PR G (va_up (va_up (va_up h (ad 4) (xO 3 [.ref (ad (4 + 1)), .ref (ad (4 + 2)), vi (Q.n : Int), vi cp2, vi rc2])) (ad (4 + 1)) (xI G 6 Q.op)) (ad (4 + 2)) (xZ G 6 Q.sl)) ad 200 Ls0 fx0 ln0 ch0 tot0 cnt0 rs0 := (PB.kept (fun i hi => ((up_n (adne hj (by omega) (by omega) (by omega))).trans ((up_n (adne hj (by omega) (by omega) (by omega))).trans ((up_n (adne hj (by omega) (by omega) (by omega))).trans rfl)))))
  have PI1 : InstR G (va_up (va_up (va_up h (ad 4) (xO 3 [.ref (ad (4 + 1)), .ref (ad (4 + 2)), vi (Q.n : Int), vi cp2, vi rc2])) (ad (4 + 1)) (xI G 6 Q.op)) (ad (4 + 2)) (xZ G 6 Q.sl)) ad 4 (Ins.n (Q.n, Q.op, Q.sl, cp2, rc2)) (Ins.op (Q.n, Q.op, Q.sl, cp2, rc2)) (Ins.sl (Q.n, Q.op, Q.sl, cp2, rc2)) (Ins.cp (Q.n, Q.op, Q.sl, cp2, rc2)) (Ins.rc (Q.n, Q.op, Q.sl, cp2, rc2)) := ⟨((up_n (adne hj (by omega) (by omega) (by omega))).trans ((up_n (adne hj (by omega) (by omega) (by omega))).trans up_s)), ((up_n (adne hj (by omega) (by omega) (by omega))).trans up_s), up_s⟩
  have PP1 : PieceR G (va_up (va_up (va_up h (ad 4) (xO 3 [.ref (ad (4 + 1)), .ref (ad (4 + 2)), vi (Q.n : Int), vi cp2, vi rc2])) (ad (4 + 1)) (xI G 6 Q.op)) (ad (4 + 2)) (xZ G 6 Q.sl)) ad P.m P.si P.pt P.cl P.cf := (T.2.2.2.1.kept ((up_n (adne hj (by omega) (by omega) (by omega))).trans ((up_n (adne hj (by omega) (by omega) (by omega))).trans ((up_n (adne hj (by omega) (by omega) (by omega))).trans rfl))) ((up_n (adne hj (by omega) (by omega) (by omega))).trans ((up_n (adne hj (by omega) (by omega) (by omega))).trans ((up_n (adne hj (by omega) (by omega) (by omega))).trans rfl))) (fun c hc => ⟨((up_n (adne hj (by omega) (by omega) (by omega))).trans ((up_n (adne hj (by omega) (by omega) (by omega))).trans ((up_n (adne hj (by omega) (by omega) (by omega))).trans rfl))), ((up_n (adne hj (by omega) (by omega) (by omega))).trans ((up_n (adne hj (by omega) (by omega) (by omega))).trans ((up_n (adne hj (by omega) (by omega) (by omega))).trans rfl)))⟩))
  refine x_invV C s_Tab_229 (st := []) (c_read hj (Or.inr rfl) PB1 VB (jI := 4) (Or.inr rfl) PI1 IV2 PP1 CV1) ((up_n (adne hj (by omega) (by omega) (by omega))).trans ((up_n (adne hj (by omega) (by omega) (by omega))).trans ((up_n (adne hj (by omega) (by omega) (by omega))).trans PB.1))) rfl rfl (Nat.le_of_ble_eq_true rfl) (xRm_of hR (by omega) (by decide) (by omega) (by omega)) dX8_totalUnder_39 (fun r9 h9 hq => ?_)
  obtain ⟨rfl, P1, F1⟩ := hq
  have V1 : PV (upk P.m (qF (Q.n, Q.op, Q.sl, cp2, rc2) P) fx0) (upk P.m P.cl ln0) ch0 tot0 P.m rs0 := PV_read VB CV1 (fun c => numL_bd _ _ (LT_len _ _ _ _ _ _ _ _))
  refine x_aload_n C dX8_totalUnder_42 rfl rfl ?_
  refine x_get C f_Tab_33 ((F1.ad hj (Or.inr rfl) (i := 0) (by omega) (by omega)).trans ((up_n (adne hj (by omega) (by omega) (by omega))).trans ((up_n (adne hj (by omega) (by omega) (by omega))).trans ((up_n (adne hj (by omega) (by omega) (by omega))).trans h0)))) rfl dX8_totalUnder_43 ?_
  refine x_invV C s_Tab_233 (st := []) (c_solve hj (Or.inr rfl) P1 V1) P1.1 rfl rfl (Nat.le_of_ble_eq_true rfl) (xRm_of hR (by omega) (by decide) (by omega) (by omega)) dX8_totalUnder_46 (fun r9 h9 hq => ?_)
  obtain ⟨rfl, rs2, P2, V2, F2⟩ := hq
  refine x_aload_n C dX8_totalUnder_49 rfl rfl ?_
  refine x_get C f_Tab_33 ((F2.ad hj (Or.inr rfl) (i := 0) (by omega) (by omega)).trans ((F1.ad hj (Or.inr rfl) (i := 0) (by omega) (by omega)).trans ((up_n (adne hj (by omega) (by omega) (by omega))).trans ((up_n (adne hj (by omega) (by omega) (by omega))).trans ((up_n (adne hj (by omega) (by omega) (by omega))).trans h0))))) rfl dX8_totalUnder_50 ?_
  refine x_get C f_Tab_195 P2.1 rfl dX8_totalUnder_53 ?_
  refine x_re (b := (qT (Q.n, Q.op, Q.sl, cp2, rc2) P)) (totU) ?_
  have hk : ∀ i, own i → i < 200 → i ≠ 4 → i ≠ 5 → i ≠ 6 → h9 (ad i) = h (ad i) := fun i ho n1 n4 n5 n6 => (F2.ad hj (Or.inr rfl) (own_lt ho) (by omega)).trans ((F1.ad hj (Or.inr rfl) (own_lt ho) (by omega)).trans ((up_n (adne hj (by omega) (own_lt ho) (by omega))).trans ((up_n (adne hj (by omega) (own_lt ho) (by omega))).trans ((up_n (adne hj (by omega) (own_lt ho) (by omega))).trans rfl))))
  exact x_iret C E rfl (by omega) (by omega) dX8_totalUnder_56 (⟨rfl, TabR.trial (h1 := h9) T ⟨_, _, _, _, _, ((F2.ad hj (Or.inr rfl) (i := 4) (by omega) (by omega)).trans ((F1.ad hj (Or.inr rfl) (i := 4) (by omega) (by omega)).trans ((up_n (adne hj (by omega) (by omega) (by omega))).trans ((up_n (adne hj (by omega) (by omega) (by omega))).trans up_s)))), ((F2.ad hj (Or.inr rfl) (i := (4 + 1)) (by omega) (by omega)).trans ((F1.ad hj (Or.inr rfl) (i := (4 + 1)) (by omega) (by omega)).trans ((up_n (adne hj (by omega) (by omega) (by omega))).trans up_s))), ((F2.ad hj (Or.inr rfl) (i := (4 + 2)) (by omega) (by omega)).trans ((F1.ad hj (Or.inr rfl) (i := (4 + 2)) (by omega) (by omega)).trans up_s))⟩ ⟨_, _, _, _, _, _, _, P2, V2⟩ hk, ((frO.up (frO.up (frO.up (frO.refl ad h) (i := 4) (by unfold own; omega) _) (i := (4 + 1)) (by unfold own; omega) _) (i := (4 + 2)) (by unfold own; omega) _).B (Or.inr rfl) F1).B (Or.inr rfl) F2⟩)

set_option maxRecDepth 100000 in
set_option maxHeartbeats 4000000 in
theorem c_totalWithout {G : xG} {h : PH} {ad : Nat → Nat} (hj : ∀ i j, i < 300 → j < 300 → ad i = ad j → i = j) {fq : Bool} {Q : Ins} {P : Pie} (T : TabR G h ad fq Q P) {s : Nat} (hs : s < Q.n) : Cn G m_Tab_totalWithout 9 0 0 [.ref (ad 0), vi (s : Int)] h (fun r h' => r = some (vi (qT (Q.n, Q.op, va_up Q.sl s true, Q.cp, Q.rc) P)) ∧ TabR G h' ad fq Q P ∧ frO ad h h') := by
  refine Cn_of (by decide) (Nat.le_of_ble_eq_true rfl) (fun K C hR E => ?_)
  obtain ⟨st, hst, h0, hPA, hPF⟩ := id T.1
  have IV1 := T.2.2.2.2.2.2.2.1
  have CV1 := T.2.2.2.2.2.2.2.2
  have IVn := IV1.1
  have CVm := CV1.1
  obtain ⟨n4, op4, sl4, cp4, rc4, T4⟩ := id T.2.2.1
  obtain ⟨Ls0, fx0, ln0, ch0, tot0, cnt0, rs0, PB, VB⟩ := id T.2.2.2.2.2.1
  have IV2 : IV Q.n Q.op Q.cp Q.rc := IV1
  show X G K 2 0 [some (.ref (ad 0)), some (vi (s : Int))] [] h 0 0
  refine x_aload_n C dX8_totalWithout_0 rfl rfl ?_
  refine x_iload_n C dX8_totalWithout_1 rfl rfl ?_
  refine x_invV C s_Tab_76 (st := []) (c_needString hj T hs) h0 rfl rfl (Nat.le_of_ble_eq_true rfl) (xRm_of hR (by omega) (by decide) (by omega) (by omega)) dX8_totalWithout_2 (fun r9 h9 hq => ?_)
  obtain ⟨rfl, e9⟩ := hq
  have e9 := e9.symm
  subst e9
  refine x_aload_n C dX8_totalWithout_5 rfl rfl ?_
  refine x_get C f_Tab_16 h0 rfl dX8_totalWithout_6 ?_
  refine x_aload_n C dX8_totalWithout_9 rfl rfl ?_
  refine x_get C f_Tab_10 h0 rfl dX8_totalWithout_10 ?_
  refine x_invV C s_Tab_225 (st := []) (c_Instr_copy T4.1 T4.2.1 T4.2.2 T.2.1.1 T.2.1.2.1 T.2.1.2.2 (adne hj (by omega) (by omega) (by omega)) (adne hj (by omega) (by omega) (by omega)) (adne hj (by omega) (by omega) (by omega)) (adne hj (by omega) (by omega) (by omega)) (adne hj (by omega) (by omega) (by omega)) (adne hj (by omega) (by omega) (by omega)) (adne hj (by omega) (by omega) (by omega)) (adne hj (by omega) (by omega) (by omega)) (adne hj (by omega) (by omega) (by omega)) (adne hj (by omega) (by omega) (by omega)) (adne hj (by omega) (by omega) (by omega)) (adne hj (by omega) (by omega) (by omega))) T4.1 rfl rfl (Nat.le_of_ble_eq_true rfl) (xRm_of hR (by omega) (by decide) (by omega) (by omega)) dX8_totalWithout_13 (fun r9 h9 hq => ?_)
  obtain ⟨rfl, e9⟩ := hq
  have e9 := e9.symm
  subst e9
  refine x_aload_n C dX8_totalWithout_16 rfl rfl ?_
  refine x_get C f_Tab_16 ((up_n (adne hj (by omega) (by omega) (by omega))).trans ((up_n (adne hj (by omega) (by omega) (by omega))).trans ((up_n (adne hj (by omega) (by omega) (by omega))).trans h0))) rfl dX8_totalWithout_17 ?_
  refine x_get C f_Tab_83 ((up_n (adne hj (by omega) (by omega) (by omega))).trans ((up_n (adne hj (by omega) (by omega) (by omega))).trans up_s)) rfl dX8_totalWithout_20 ?_
  refine x_iload_n C dX8_totalWithout_23 rfl rfl ?_
  refine x_iconst C dX8_totalWithout_24 ?_
  refine x_zast C (z := true) up_s ⟨by omega, by omega, by omega⟩ (h1 := (va_up (va_up (va_up h (ad 4) (xO 3 [.ref (ad (4 + 1)), .ref (ad (4 + 2)), vi (Q.n : Int), vi Q.cp, vi Q.rc])) (ad (4 + 1)) (xI G 6 Q.op)) (ad (4 + 2)) (xZ G 6 (va_up Q.sl s true)))) (up_u _ _ _ _) dX8_totalWithout_25 ?_
  refine x_aload_n C dX8_totalWithout_26 rfl rfl ?_
  refine x_get C f_Tab_33 ((up_n (adne hj (by omega) (by omega) (by omega))).trans ((up_n (adne hj (by omega) (by omega) (by omega))).trans ((up_n (adne hj (by omega) (by omega) (by omega))).trans h0))) rfl dX8_totalWithout_27 ?_
  refine x_aload_n C dX8_totalWithout_30 rfl rfl ?_
  refine x_get C f_Tab_16 ((up_n (adne hj (by omega) (by omega) (by omega))).trans ((up_n (adne hj (by omega) (by omega) (by omega))).trans ((up_n (adne hj (by omega) (by omega) (by omega))).trans h0))) rfl dX8_totalWithout_31 ?_
  refine x_aload_n C dX8_totalWithout_34 rfl rfl ?_
  refine x_get C f_Tab_22 ((up_n (adne hj (by omega) (by omega) (by omega))).trans ((up_n (adne hj (by omega) (by omega) (by omega))).trans ((up_n (adne hj (by omega) (by omega) (by omega))).trans h0))) rfl dX8_totalWithout_35 ?_
  have PB1 : PR G (va_up (va_up (va_up h (ad 4) (xO 3 [.ref (ad (4 + 1)), .ref (ad (4 + 2)), vi (Q.n : Int), vi Q.cp, vi Q.rc])) (ad (4 + 1)) (xI G 6 Q.op)) (ad (4 + 2)) (xZ G 6 (va_up Q.sl s true))) ad 200 Ls0 fx0 ln0 ch0 tot0 cnt0 rs0 := (PB.kept (fun i hi => ((up_n (adne hj (by omega) (by omega) (by omega))).trans ((up_n (adne hj (by omega) (by omega) (by omega))).trans ((up_n (adne hj (by omega) (by omega) (by omega))).trans rfl)))))
  have PI1 : InstR G (va_up (va_up (va_up h (ad 4) (xO 3 [.ref (ad (4 + 1)), .ref (ad (4 + 2)), vi (Q.n : Int), vi Q.cp, vi Q.rc])) (ad (4 + 1)) (xI G 6 Q.op)) (ad (4 + 2)) (xZ G 6 (va_up Q.sl s true))) ad 4 (Ins.n (Q.n, Q.op, va_up Q.sl s true, Q.cp, Q.rc)) (Ins.op (Q.n, Q.op, va_up Q.sl s true, Q.cp, Q.rc)) (Ins.sl (Q.n, Q.op, va_up Q.sl s true, Q.cp, Q.rc)) (Ins.cp (Q.n, Q.op, va_up Q.sl s true, Q.cp, Q.rc)) (Ins.rc (Q.n, Q.op, va_up Q.sl s true, Q.cp, Q.rc)) := ⟨((up_n (adne hj (by omega) (by omega) (by omega))).trans ((up_n (adne hj (by omega) (by omega) (by omega))).trans up_s)), ((up_n (adne hj (by omega) (by omega) (by omega))).trans up_s), up_s⟩
  have PP1 : PieceR G (va_up (va_up (va_up h (ad 4) (xO 3 [.ref (ad (4 + 1)), .ref (ad (4 + 2)), vi (Q.n : Int), vi Q.cp, vi Q.rc])) (ad (4 + 1)) (xI G 6 Q.op)) (ad (4 + 2)) (xZ G 6 (va_up Q.sl s true))) ad P.m P.si P.pt P.cl P.cf := (T.2.2.2.1.kept ((up_n (adne hj (by omega) (by omega) (by omega))).trans ((up_n (adne hj (by omega) (by omega) (by omega))).trans ((up_n (adne hj (by omega) (by omega) (by omega))).trans rfl))) ((up_n (adne hj (by omega) (by omega) (by omega))).trans ((up_n (adne hj (by omega) (by omega) (by omega))).trans ((up_n (adne hj (by omega) (by omega) (by omega))).trans rfl))) (fun c hc => ⟨((up_n (adne hj (by omega) (by omega) (by omega))).trans ((up_n (adne hj (by omega) (by omega) (by omega))).trans ((up_n (adne hj (by omega) (by omega) (by omega))).trans rfl))), ((up_n (adne hj (by omega) (by omega) (by omega))).trans ((up_n (adne hj (by omega) (by omega) (by omega))).trans ((up_n (adne hj (by omega) (by omega) (by omega))).trans rfl)))⟩))
  refine x_invV C s_Tab_229 (st := []) (c_read hj (Or.inr rfl) PB1 VB (jI := 4) (Or.inr rfl) PI1 IV2 PP1 CV1) ((up_n (adne hj (by omega) (by omega) (by omega))).trans ((up_n (adne hj (by omega) (by omega) (by omega))).trans ((up_n (adne hj (by omega) (by omega) (by omega))).trans PB.1))) rfl rfl (Nat.le_of_ble_eq_true rfl) (xRm_of hR (by omega) (by decide) (by omega) (by omega)) dX8_totalWithout_38 (fun r9 h9 hq => ?_)
  obtain ⟨rfl, P1, F1⟩ := hq
  have V1 : PV (upk P.m (qF (Q.n, Q.op, va_up Q.sl s true, Q.cp, Q.rc) P) fx0) (upk P.m P.cl ln0) ch0 tot0 P.m rs0 := PV_read VB CV1 (fun c => numL_bd _ _ (LT_len _ _ _ _ _ _ _ _))
  refine x_aload_n C dX8_totalWithout_41 rfl rfl ?_
  refine x_get C f_Tab_33 ((F1.ad hj (Or.inr rfl) (i := 0) (by omega) (by omega)).trans ((up_n (adne hj (by omega) (by omega) (by omega))).trans ((up_n (adne hj (by omega) (by omega) (by omega))).trans ((up_n (adne hj (by omega) (by omega) (by omega))).trans h0)))) rfl dX8_totalWithout_42 ?_
  refine x_invV C s_Tab_233 (st := []) (c_solve hj (Or.inr rfl) P1 V1) P1.1 rfl rfl (Nat.le_of_ble_eq_true rfl) (xRm_of hR (by omega) (by decide) (by omega) (by omega)) dX8_totalWithout_45 (fun r9 h9 hq => ?_)
  obtain ⟨rfl, rs2, P2, V2, F2⟩ := hq
  refine x_aload_n C dX8_totalWithout_48 rfl rfl ?_
  refine x_get C f_Tab_33 ((F2.ad hj (Or.inr rfl) (i := 0) (by omega) (by omega)).trans ((F1.ad hj (Or.inr rfl) (i := 0) (by omega) (by omega)).trans ((up_n (adne hj (by omega) (by omega) (by omega))).trans ((up_n (adne hj (by omega) (by omega) (by omega))).trans ((up_n (adne hj (by omega) (by omega) (by omega))).trans h0))))) rfl dX8_totalWithout_49 ?_
  refine x_get C f_Tab_195 P2.1 rfl dX8_totalWithout_52 ?_
  refine x_re (b := (qT (Q.n, Q.op, va_up Q.sl s true, Q.cp, Q.rc) P)) (totU) ?_
  have hk : ∀ i, own i → i < 200 → i ≠ 4 → i ≠ 5 → i ≠ 6 → h9 (ad i) = h (ad i) := fun i ho n1 n4 n5 n6 => (F2.ad hj (Or.inr rfl) (own_lt ho) (by omega)).trans ((F1.ad hj (Or.inr rfl) (own_lt ho) (by omega)).trans ((up_n (adne hj (by omega) (own_lt ho) (by omega))).trans ((up_n (adne hj (by omega) (own_lt ho) (by omega))).trans ((up_n (adne hj (by omega) (own_lt ho) (by omega))).trans rfl))))
  exact x_iret C E rfl (by omega) (by omega) dX8_totalWithout_55 (⟨rfl, TabR.trial (h1 := h9) T ⟨_, _, _, _, _, ((F2.ad hj (Or.inr rfl) (i := 4) (by omega) (by omega)).trans ((F1.ad hj (Or.inr rfl) (i := 4) (by omega) (by omega)).trans ((up_n (adne hj (by omega) (by omega) (by omega))).trans ((up_n (adne hj (by omega) (by omega) (by omega))).trans up_s)))), ((F2.ad hj (Or.inr rfl) (i := (4 + 1)) (by omega) (by omega)).trans ((F1.ad hj (Or.inr rfl) (i := (4 + 1)) (by omega) (by omega)).trans ((up_n (adne hj (by omega) (by omega) (by omega))).trans up_s))), ((F2.ad hj (Or.inr rfl) (i := (4 + 2)) (by omega) (by omega)).trans ((F1.ad hj (Or.inr rfl) (i := (4 + 2)) (by omega) (by omega)).trans up_s))⟩ ⟨_, _, _, _, _, _, _, P2, V2⟩ hk, ((frO.up (frO.up (frO.up (frO.refl ad h) (i := 4) (by unfold own; omega) _) (i := (4 + 1)) (by unfold own; omega) _) (i := (4 + 2)) (by unfold own; omega) _).B (Or.inr rfl) F1).B (Or.inr rfl) F2⟩)

def qTF (Q : Ins) (P : Pie) (c : Nat) (g : Int) : Int := totS (qL Q P) (va_up (qF Q P) c g) P.cl P.m
theorem totUF {Q : Ins} {P : Pie} {Ls : Nat → List Nat} {fx ln : Nat → Int} {c : Nat} {g : Int} (_hc : c < P.m) : totS (upk P.m (qL Q P) Ls) (va_up (upk P.m (qF Q P) fx) c g) (upk P.m P.cl ln) P.m = qTF Q P c g := totS_cong (fun c hc => ⟨upk_lt _ _ hc, upk_lt _ _ hc⟩) (fun d hd => by
  by_cases q : d = c
  · subst q; rw [up_s, up_s]
  · rw [up_n q, up_n q, upk_lt _ _ hd])

theorem up_bd {f : Nat → Int} {k : Nat} {v : Int} (hf : ∀ d, bd (f d)) (hv : bd v) : ∀ d, bd (va_up f k v d) := by
  intro d
  by_cases q : d = k
  · subst q; rw [up_s]; exact hv
  · rw [up_n q]; exact hf d

set_option maxRecDepth 100000 in
set_option maxHeartbeats 4000000 in
theorem c_totalFixed {G : xG} {h : PH} {ad : Nat → Nat} (hj : ∀ i j, i < 300 → j < 300 → ad i = ad j → i = j) {fq : Bool} {Q : Ins} {P : Pie} (T : TabR G h ad fq Q P) {c g : Nat} (hc : c < P.m) (hg : g < (qL Q P c).length) : Cn G m_Tab_totalFixed 11 0 0 [.ref (ad 0), vi (c : Int), vi (g : Int)] h (fun r h' => r = some (vi (qTF Q P c (g : Int))) ∧ TabR G h' ad true Q P ∧ frO ad h h') := by
  refine Cn_of (by decide) (Nat.le_of_ble_eq_true rfl) (fun K C hR E => ?_)
  obtain ⟨st, hst, h0, hPA, hPF⟩ := id T.1
  have IV1 := T.2.2.2.2.2.2.2.1
  have CV1 := T.2.2.2.2.2.2.2.2
  have IVn := IV1.1
  have CVm := CV1.1
  have hl30 := LT_len Q.n Q.op Q.sl Q.cp Q.rc P.si P.pt c
  have hg30 : g < 30 := Nat.lt_of_lt_of_le hg hl30
  show X G K 3 0 [some (.ref (ad 0)), some (vi (c : Int)), some (vi (g : Int))] [] h 0 0
  refine x_aload_n C dX8_totalFixed_0 rfl rfl ?_
  refine x_iload_n C dX8_totalFixed_1 rfl rfl ?_
  refine x_iload_n C dX8_totalFixed_2 rfl rfl ?_
  refine x_invV C s_Tab_145 (st := []) (c_needGrip hj T hc hg) h0 rfl rfl (Nat.le_of_ble_eq_true rfl) (xRm_of hR (by omega) (by decide) (by omega) (by omega)) dX8_totalFixed_3 (fun r9 h9 hq => ?_)
  obtain ⟨rfl, T1, F0⟩ := hq
  obtain ⟨st1, hst1, h01, hPA1, hPF1⟩ := id T1.1
  obtain ⟨n4, op4, sl4, cp4, rc4, T4⟩ := id T1.2.2.1
  obtain ⟨Ls0, fx0, ln0, ch0, tot0, cnt0, rs0, PB, VB⟩ := id T1.2.2.2.2.2.1
  refine x_pop C dX8_totalFixed_6 rfl ?_
  refine x_aload_n C dX8_totalFixed_7 rfl rfl ?_
  refine x_get C f_Tab_33 h01 rfl dX8_totalFixed_8 ?_
  refine x_aload_n C dX8_totalFixed_11 rfl rfl ?_
  refine x_get C f_Tab_10 h01 rfl dX8_totalFixed_12 ?_
  refine x_aload_n C dX8_totalFixed_15 rfl rfl ?_
  refine x_get C f_Tab_22 h01 rfl dX8_totalFixed_16 ?_
  refine x_invV C s_Tab_229 (st := []) (c_read hj (Or.inr rfl) PB VB (jI := 1) (Or.inl rfl) T1.2.1 IV1 T1.2.2.2.1 CV1) PB.1 rfl rfl (Nat.le_of_ble_eq_true rfl) (xRm_of hR (by omega) (by decide) (by omega) (by omega)) dX8_totalFixed_19 (fun r9 h9 hq => ?_)
  obtain ⟨rfl, P1, F1⟩ := hq
  have V1 : PV (upk P.m (qF Q P) fx0) (upk P.m P.cl ln0) ch0 tot0 P.m rs0 := PV_read VB CV1 (fun c => numL_bd _ _ (LT_len _ _ _ _ _ _ _ _))
  refine x_aload_n C dX8_totalFixed_22 rfl rfl ?_
  refine x_get C f_Tab_33 ((F1.ad hj (Or.inr rfl) (i := 0) (by omega) (by omega)).trans h01) rfl dX8_totalFixed_23 ?_
  refine x_get C f_Tab_236 P1.1 rfl dX8_totalFixed_26 ?_
  refine x_iload_n C dX8_totalFixed_29 rfl rfl ?_
  refine x_iload_n C dX8_totalFixed_30 rfl rfl ?_
  refine x_iast C P1.2.2.1 ⟨by omega, by omega, by omega⟩ (h1 := (va_up h9 (ad (200 + 2)) (xI G 12 (va_up (upk P.m (qF Q P) fx0) c (g : Int))))) rfl dX8_totalFixed_31 ?_
  refine x_aload_n C dX8_totalFixed_32 rfl rfl ?_
  refine x_get C f_Tab_33 ((up_n (adne hj (by omega) (by omega) (by omega))).trans ((F1.ad hj (Or.inr rfl) (i := 0) (by omega) (by omega)).trans h01)) rfl dX8_totalFixed_33 ?_
  refine x_invV C s_Tab_233 (st := []) (c_solve hj (Or.inr rfl) (PR.fixs hj (Or.inr rfl) P1 (va_up (upk P.m (qF Q P) fx0) c (g : Int))) (show PV (va_up (upk P.m (qF Q P) fx0) c (g : Int)) (upk P.m P.cl ln0) ch0 tot0 P.m rs0 from ⟨fun d => ⟨up_bd (fun d => (V1.1 d).1) ⟨by omega, by omega⟩ d, (V1.1 d).2⟩, V1.2⟩)) ((up_n (adne hj (by omega) (by omega) (by omega))).trans P1.1) rfl rfl (Nat.le_of_ble_eq_true rfl) (xRm_of hR (by omega) (by decide) (by omega) (by omega)) dX8_totalFixed_36 (fun r9 h9 hq => ?_)
  obtain ⟨rfl, rs2, P2, V2, F2⟩ := hq
  refine x_aload_n C dX8_totalFixed_39 rfl rfl ?_
  refine x_get C f_Tab_33 ((F2.ad hj (Or.inr rfl) (i := 0) (by omega) (by omega)).trans ((up_n (adne hj (by omega) (by omega) (by omega))).trans ((F1.ad hj (Or.inr rfl) (i := 0) (by omega) (by omega)).trans h01))) rfl dX8_totalFixed_40 ?_
  refine x_get C f_Tab_195 P2.1 rfl dX8_totalFixed_43 ?_
  refine x_re (b := (qTF Q P c (g : Int))) (totUF hc) ?_
  have hk : ∀ i, own i → i < 200 → i ≠ 4 → i ≠ 5 → i ≠ 6 → h9 (ad i) = _ := fun i ho n1 n4 n5 n6 => (F2.ad hj (Or.inr rfl) (own_lt ho) (by omega)).trans ((up_n (adne hj (by omega) (own_lt ho) (by omega))).trans (F1.ad hj (Or.inr rfl) (own_lt ho) (by omega)))
  exact x_iret C E rfl (by omega) (by omega) dX8_totalFixed_46 (⟨rfl, TabR.trial (h1 := h9) T1 ⟨_, _, _, _, _, ((F2.ad hj (Or.inr rfl) (i := 4) (by omega) (by omega)).trans ((up_n (adne hj (by omega) (by omega) (by omega))).trans ((F1.ad hj (Or.inr rfl) (i := 4) (by omega) (by omega)).trans T4.1))), ((F2.ad hj (Or.inr rfl) (i := (4 + 1)) (by omega) (by omega)).trans ((up_n (adne hj (by omega) (by omega) (by omega))).trans ((F1.ad hj (Or.inr rfl) (i := (4 + 1)) (by omega) (by omega)).trans T4.2.1))), ((F2.ad hj (Or.inr rfl) (i := (4 + 2)) (by omega) (by omega)).trans ((up_n (adne hj (by omega) (by omega) (by omega))).trans ((F1.ad hj (Or.inr rfl) (i := (4 + 2)) (by omega) (by omega)).trans T4.2.2)))⟩ ⟨_, _, _, _, _, _, _, P2, V2⟩ hk, (((F0.B (Or.inr rfl) F1).up (i := 200 + 2) (by unfold own; omega) _).B (Or.inr rfl) F2)⟩)

def bCs (Q : Ins) (P : Pie) (k : Nat) (p : Int × Int) : Int × Int := if ¬ qT (Q.n, Q.op, Q.sl, (k : Int), Q.rc) P = -1 ∧ (p.1 = -1 ∨ qT (Q.n, Q.op, Q.sl, (k : Int), Q.rc) P < p.2) then ((k : Int), qT (Q.n, Q.op, Q.sl, (k : Int), Q.rc) P) else p
def bC (Q : Ins) (P : Pie) : Nat → Int × Int
  | 0 => (-1, -1)
  | k + 1 => bCs Q P k (bC Q P k)
theorem qT_rg (Q : Ins) (P : Pie) (h : P.m ≤ 12) : -100 ≤ qT Q P ∧ qT Q P ≤ 12000 := totS_rg _ _ _ h

set_option maxRecDepth 100000 in
set_option maxHeartbeats 4000000 in
theorem c_bestCapo {G : xG} {h : PH} {ad : Nat → Nat} (hj : ∀ i j, i < 300 → j < 300 → ad i = ad j → i = j) {fq : Bool} {Q : Ins} {P : Pie} (T : TabR G h ad fq Q P)  : Cn G m_Tab_bestCapo 10 0 0 [.ref (ad 0)] h (fun r h' => r = some (vi (bC Q P 8).1) ∧ TabR G h' ad fq Q P ∧ frO ad h h') := by
  refine Cn_of (by decide) (Nat.le_of_ble_eq_true rfl) (fun K C hR E => ?_)
  obtain ⟨st, hst, h0, hPA, hPF⟩ := id T.1
  have IV1 := T.2.2.2.2.2.2.2.1
  have CV1 := T.2.2.2.2.2.2.2.2
  have IVn := IV1.1
  have CVm := CV1.1
  have hcpv := IV1.2.2.1
  have hrcv := IV1.2.2.2
  show X G K 5 0 [some (.ref (ad 0)), none, none, none, none] [] h 0 0
  refine x_iconst C dX8_bestCapo_0 ?_
  refine x_istore_n C (ls' := [some (.ref (ad 0)), some (vi (-1)), none, none, none]) dX8_bestCapo_1 rfl (by decide) rfl ?_
  refine x_iconst C dX8_bestCapo_2 ?_
  refine x_istore_n C (ls' := [some (.ref (ad 0)), some (vi (-1)), some (vi (-1)), none, none]) dX8_bestCapo_3 rfl (by decide) rfl ?_
  refine x_iconst C dX8_bestCapo_4 ?_
  refine x_istore_n C (ls' := [some (.ref (ad 0)), some (vi (-1)), some (vi (-1)), some (vi 0), none]) dX8_bestCapo_5 rfl (by decide) rfl ?_
  have L6 : ∀ (n0 : Nat) (k : Nat) (hp : PH) (b1 : Int) (b2 : Int), 8 - k < n0 → (k ≤ 8) → (TabR G hp ad fq Q P) → (frO ad h hp) → (bC Q P k = (b1, b2)) → (-1 ≤ b1 ∧ b1 ≤ 8) → (-100 ≤ b2 ∧ b2 ≤ 12000) → X G K 5 6 [some (.ref (ad 0)), some (vi b1), some (vi b2), some (vi (k : Int)), none] [] hp 0 0 := by
    intro n0
    induction n0 with
    | zero => intro k hp b1 b2 hm; exact absurd hm (Nat.not_lt_zero _)
    | succ n0 ih_L6 =>
      intro k hp b1 b2 hm i1 T1 F1 i2 i3 i4
      obtain ⟨st1, hst1, h01, hPA1, hPF1⟩ := id T1.1
      have hqt := qT_rg (Q.n, Q.op, Q.sl, (k : Int), Q.rc) P CVm
      refine x_iload_n C dX8_bestCapo_6 rfl rfl ?_
      refine x_bipush C (z := 7) dX8_bestCapo_7 (by decide) ?_
      refine x_icmp_gt C (tgt := 54) dX8_bestCapo_9 (by decide) ⟨by omega, by omega⟩ (by decide) (fun c9 => ?_) (fun c9 => ?_)
      · skip
        refine x_iload_n C dX8_bestCapo_54 rfl rfl ?_
        have e0 : k = 8 := by omega
        subst e0
        exact x_iret C E rfl (by omega) (by omega) dX8_bestCapo_55 (⟨by rw [i2], T1, F1⟩)
      · skip
        refine x_aload_n C dX8_bestCapo_12 rfl rfl ?_
        refine x_iload_n C dX8_bestCapo_13 rfl rfl ?_
        refine x_aload_n C dX8_bestCapo_14 rfl rfl ?_
        refine x_get C f_Tab_10 h01 rfl dX8_bestCapo_15 ?_
        refine x_get C f_Tab_100 T1.2.1.1 rfl dX8_bestCapo_18 ?_
        refine x_invV C s_Tab_222 (st := []) (c_totalUnder hj T1 (cp2 := (k : Int)) (rc2 := Q.rc) ⟨by omega, by omega⟩ hrcv) h01 rfl rfl (Nat.le_of_ble_eq_true rfl) (xRm_of hR (by omega) (by decide) (by omega) (by omega)) dX8_bestCapo_21 (fun r9 h9 hq => ?_)
        obtain ⟨rfl, T2, F2⟩ := hq
        obtain ⟨st2, hst2, h02, hPA2, hPF2⟩ := id T2.1
        refine x_istore C (ls' := [some (.ref (ad 0)), some (vi b1), some (vi b2), some (vi (k : Int)), some (vi (qT (Q.n, Q.op, Q.sl, (k : Int), Q.rc) P))]) dX8_bestCapo_24 (by decide) rfl ?_
        refine x_iload C dX8_bestCapo_26 rfl ?_
        refine x_iconst C dX8_bestCapo_28 ?_
        refine x_icmp_eq C (tgt := 48) dX8_bestCapo_29 (by decide) ⟨by omega, by omega⟩ (by decide) (fun c29 => ?_) (fun c29 => ?_)
        · skip
          refine x_iinc C (ls' := [some (.ref (ad 0)), some (vi b1), some (vi b2), some (vi ((k : Int) + 1)), some (vi (qT (Q.n, Q.op, Q.sl, (k : Int), Q.rc) P))]) dX8_bestCapo_48 rfl (by decide) (z1 := ((k : Int) + 1)) rfl rfl ?_
          refine x_goto C (tgt := 6) dX8_bestCapo_51 (by decide) ?_
          refine X.sub (ls' := [some (.ref (ad 0)), some (vi b1), some (vi b2), some (vi ((k : Int) + 1)), none]) (sub_cons (Or.inr rfl) (sub_cons (Or.inr rfl) (sub_cons (Or.inr rfl) (sub_cons (Or.inr rfl) (sub_cons (Or.inl rfl) sub_nil))))) ?_
          exact ih_L6 (k + 1) h9 b1 b2 (by omega) (by omega) (T2) (F1.trans F2) (by show bCs Q P k (bC Q P k) = _; rw [i2]; exact if_neg (by dsimp only; omega)) (⟨by omega, by omega⟩) (⟨by omega, by omega⟩)
        · skip
          refine x_iload_n C dX8_bestCapo_32 rfl rfl ?_
          refine x_iconst C dX8_bestCapo_33 ?_
          refine x_icmp_eq C (tgt := 43) dX8_bestCapo_34 (by decide) ⟨by omega, by omega⟩ (by decide) (fun c34 => ?_) (fun c34 => ?_)
          · skip
            refine x_iload_n C dX8_bestCapo_43 rfl rfl ?_
            refine x_istore_n C (ls' := [some (.ref (ad 0)), some (vi (k : Int)), some (vi b2), some (vi (k : Int)), some (vi (qT (Q.n, Q.op, Q.sl, (k : Int), Q.rc) P))]) dX8_bestCapo_44 rfl (by decide) rfl ?_
            refine x_iload C dX8_bestCapo_45 rfl ?_
            refine x_istore_n C (ls' := [some (.ref (ad 0)), some (vi (k : Int)), some (vi (qT (Q.n, Q.op, Q.sl, (k : Int), Q.rc) P)), some (vi (k : Int)), some (vi (qT (Q.n, Q.op, Q.sl, (k : Int), Q.rc) P))]) dX8_bestCapo_47 rfl (by decide) rfl ?_
            refine x_iinc C (ls' := [some (.ref (ad 0)), some (vi (k : Int)), some (vi (qT (Q.n, Q.op, Q.sl, (k : Int), Q.rc) P)), some (vi ((k : Int) + 1)), some (vi (qT (Q.n, Q.op, Q.sl, (k : Int), Q.rc) P))]) dX8_bestCapo_48 rfl (by decide) (z1 := ((k : Int) + 1)) rfl rfl ?_
            refine x_goto C (tgt := 6) dX8_bestCapo_51 (by decide) ?_
            refine X.sub (ls' := [some (.ref (ad 0)), some (vi (k : Int)), some (vi (qT (Q.n, Q.op, Q.sl, (k : Int), Q.rc) P)), some (vi ((k : Int) + 1)), none]) (sub_cons (Or.inr rfl) (sub_cons (Or.inr rfl) (sub_cons (Or.inr rfl) (sub_cons (Or.inr rfl) (sub_cons (Or.inl rfl) sub_nil))))) ?_
            exact ih_L6 (k + 1) h9 (k : Int) (qT (Q.n, Q.op, Q.sl, (k : Int), Q.rc) P) (by omega) (by omega) (T2) (F1.trans F2) (by show bCs Q P k (bC Q P k) = _; rw [i2]; exact if_pos ⟨by omega, by dsimp only; omega⟩) (⟨by omega, by omega⟩) (⟨by omega, by omega⟩)
          · skip
            refine x_iload C dX8_bestCapo_37 rfl ?_
            refine x_iload_n C dX8_bestCapo_39 rfl rfl ?_
            refine x_icmp_ge C (tgt := 48) dX8_bestCapo_40 (by decide) ⟨by omega, by omega⟩ ⟨by omega, by omega⟩ (fun c40 => ?_) (fun c40 => ?_)
            · skip
              refine x_iinc C (ls' := [some (.ref (ad 0)), some (vi b1), some (vi b2), some (vi ((k : Int) + 1)), some (vi (qT (Q.n, Q.op, Q.sl, (k : Int), Q.rc) P))]) dX8_bestCapo_48 rfl (by decide) (z1 := ((k : Int) + 1)) rfl rfl ?_
              refine x_goto C (tgt := 6) dX8_bestCapo_51 (by decide) ?_
              refine X.sub (ls' := [some (.ref (ad 0)), some (vi b1), some (vi b2), some (vi ((k : Int) + 1)), none]) (sub_cons (Or.inr rfl) (sub_cons (Or.inr rfl) (sub_cons (Or.inr rfl) (sub_cons (Or.inr rfl) (sub_cons (Or.inl rfl) sub_nil))))) ?_
              exact ih_L6 (k + 1) h9 b1 b2 (by omega) (by omega) (T2) (F1.trans F2) (by show bCs Q P k (bC Q P k) = _; rw [i2]; exact if_neg (by dsimp only; omega)) (⟨by omega, by omega⟩) (⟨by omega, by omega⟩)
            · skip
              refine x_iload_n C dX8_bestCapo_43 rfl rfl ?_
              refine x_istore_n C (ls' := [some (.ref (ad 0)), some (vi (k : Int)), some (vi b2), some (vi (k : Int)), some (vi (qT (Q.n, Q.op, Q.sl, (k : Int), Q.rc) P))]) dX8_bestCapo_44 rfl (by decide) rfl ?_
              refine x_iload C dX8_bestCapo_45 rfl ?_
              refine x_istore_n C (ls' := [some (.ref (ad 0)), some (vi (k : Int)), some (vi (qT (Q.n, Q.op, Q.sl, (k : Int), Q.rc) P)), some (vi (k : Int)), some (vi (qT (Q.n, Q.op, Q.sl, (k : Int), Q.rc) P))]) dX8_bestCapo_47 rfl (by decide) rfl ?_
              refine x_iinc C (ls' := [some (.ref (ad 0)), some (vi (k : Int)), some (vi (qT (Q.n, Q.op, Q.sl, (k : Int), Q.rc) P)), some (vi ((k : Int) + 1)), some (vi (qT (Q.n, Q.op, Q.sl, (k : Int), Q.rc) P))]) dX8_bestCapo_48 rfl (by decide) (z1 := ((k : Int) + 1)) rfl rfl ?_
              refine x_goto C (tgt := 6) dX8_bestCapo_51 (by decide) ?_
              refine X.sub (ls' := [some (.ref (ad 0)), some (vi (k : Int)), some (vi (qT (Q.n, Q.op, Q.sl, (k : Int), Q.rc) P)), some (vi ((k : Int) + 1)), none]) (sub_cons (Or.inr rfl) (sub_cons (Or.inr rfl) (sub_cons (Or.inr rfl) (sub_cons (Or.inr rfl) (sub_cons (Or.inl rfl) sub_nil))))) ?_
              exact ih_L6 (k + 1) h9 (k : Int) (qT (Q.n, Q.op, Q.sl, (k : Int), Q.rc) P) (by omega) (by omega) (T2) (F1.trans F2) (by show bCs Q P k (bC Q P k) = _; rw [i2]; exact if_pos ⟨by omega, by dsimp only; omega⟩) (⟨by omega, by omega⟩) (⟨by omega, by omega⟩)
  exact L6 _ 0 h (-1) (-1) (Nat.lt_succ_self _) (by omega) (T) (frO.refl ad h) (rfl) (⟨by omega, by omega⟩) (⟨by omega, by omega⟩)

theorem ndpV {ad : Nat → Nat} (hj : ∀ i j, i < 300 → j < 300 → ad i = ad j → i = j) : ndp [ad 9, ad 10, ad 11] [ad 1, ad (1 + 1), ad (1 + 2)] := by
  have k : ∀ i j, i ≠ j → i < 300 → j < 300 → ad i ≠ ad j := fun i j h1 h2 h3 => adne hj h1 h2 h3
  refine ⟨?_, ?_, ?_, ?_, ?_, ?_, trivial⟩ <;> (intro y hy; simp only [List.mem_cons, List.not_mem_nil, or_false] at hy)
  · rcases hy with rfl | rfl <;> exact k _ _ (by omega) (by omega) (by omega)
  · rcases hy with rfl | rfl | rfl <;> exact k _ _ (by omega) (by omega) (by omega)
  · subst hy; exact k _ _ (by omega) (by omega) (by omega)
  · rcases hy with rfl | rfl | rfl <;> exact k _ _ (by omega) (by omega) (by omega)
  · rcases hy with rfl | rfl | rfl <;> exact k _ _ (by omega) (by omega) (by omega)

set_option maxRecDepth 100000 in
set_option maxHeartbeats 4000000 in
theorem c_freshVoicing {G : xG} {h : PH} {ad : Nat → Nat} (hj : ∀ i j, i < 300 → j < 300 → ad i = ad j → i = j) {fq : Bool} {Q : Ins} {P : Pie} (T : TabR G h ad fq Q P) {cls bass fm : Nat} (hq : 1 ≤ cls ∧ cls ≤ 4095 ∧ bass ≤ 11 ∧ 1 ≤ fm ∧ fm ≤ 9) : Cn G m_Tab_freshVoicing 12 0 0 [.ref (ad 0), vi (cls : Int), vi (bass : Int), vi (fm : Int)] h (fun r h' => r = some (.ref (ad 9)) ∧ TabR G h' ad fq Q P ∧ h' (ad 9) = xSh (shA Q.n Q.op Q.sl Q.cp Q.rc cls bass fm) cls bass fm (ad 10) ∧ frO ad h h') := by
  refine Cn_of (by decide) (Nat.le_of_ble_eq_true rfl) (fun K C hR E => ?_)
  obtain ⟨st, hst, h0, hPA, hPF⟩ := id T.1
  have IV1 := T.2.2.2.2.2.2.2.1
  have CV1 := T.2.2.2.2.2.2.2.2
  have IVn := IV1.1
  have CVm := CV1.1
  obtain ⟨hvH, p, cls0, bass0, fm0, hv0, hv1, hv2, hv3⟩ := id T.2.2.2.2.2.2.1
  show X G K 4 0 [some (.ref (ad 0)), some (vi (cls : Int)), some (vi (bass : Int)), some (vi (fm : Int))] [] h 0 0
  refine x_aload_n C dX8_freshVoicing_0 rfl rfl ?_
  refine x_get C f_Tab_39 h0 rfl dX8_freshVoicing_1 ?_
  refine x_iload_n C dX8_freshVoicing_4 rfl rfl ?_
  refine x_iload_n C dX8_freshVoicing_5 rfl rfl ?_
  refine x_iload_n C dX8_freshVoicing_6 rfl rfl ?_
  refine x_invV C s_Tab_309 (st := []) (c_Sh_isOf hv0 (z1 := (cls : Int)) (z2 := (bass : Int)) (z3 := (fm : Int)) ⟨by omega, by omega⟩ ⟨by omega, by omega⟩ ⟨by omega, by omega⟩ hv2.1 (by omega) (by omega)) hv0 rfl rfl (Nat.le_of_ble_eq_true rfl) (xRm_of hR (by omega) (by decide) (by omega) (by omega)) dX8_freshVoicing_7 (fun r9 h9 hq => ?_)
  obtain ⟨rfl, e9⟩ := hq
  have e9 := e9.symm
  subst e9
  refine x_ifneB C (tgt := 27) dX8_freshVoicing_10 (by decide) (fun c10 => ?_) (fun c10 => ?_)
  · skip
    refine x_aload_n C dX8_freshVoicing_27 rfl rfl ?_
    refine x_get C f_Tab_39 h0 rfl dX8_freshVoicing_28 ?_
    rw [decide_eq_true_eq] at c10
    have e1 : cls0 = cls := by omega
    have e2 : bass0 = bass := by omega
    have e3 : fm0 = fm := by omega
    subst e1 e2 e3
    exact x_aret C E rfl (by first | exact Or.inl ⟨_, rfl⟩ | exact Or.inr ⟨_, rfl⟩) (by omega) (by omega) dX8_freshVoicing_31 (⟨rfl, T, by rw [← hv3 (by omega)]; exact hv0, frO.refl ad h⟩)
  · skip
    refine x_aload_n C dX8_freshVoicing_13 rfl rfl ?_
    refine x_get C f_Tab_39 h0 rfl dX8_freshVoicing_14 ?_
    refine x_aload_n C dX8_freshVoicing_17 rfl rfl ?_
    refine x_get C f_Tab_10 h0 rfl dX8_freshVoicing_18 ?_
    refine x_iload_n C dX8_freshVoicing_21 rfl rfl ?_
    refine x_iload_n C dX8_freshVoicing_22 rfl rfl ?_
    refine x_iload_n C dX8_freshVoicing_23 rfl rfl ?_
    refine x_invV C s_Tab_313 (st := []) (c_Sh_seek hv0 hvH T.2.1 ⟨IV1.1, IV1.2.1, IV1.2.2.1, by have := IV1.2.2.2; exact ⟨by omega, by omega⟩⟩ hq.2 (ndpV hj)) hv0 rfl rfl (Nat.le_of_ble_eq_true rfl) (xRm_of hR (by omega) (by decide) (by omega) (by omega)) dX8_freshVoicing_24 (fun r9 h9 hq => ?_)
    obtain ⟨rfl, hX2, hH2, F2⟩ := hq
    refine x_aload_n C dX8_freshVoicing_27 rfl rfl ?_
    refine x_get C f_Tab_39 ((F2 (ad 0) (adne hj (by omega) (by omega) (by omega)) (adne hj (by omega) (by omega) (by omega)) (adne hj (by omega) (by omega) (by omega))).trans h0) rfl dX8_freshVoicing_28 ?_
    have hk : ∀ i, own i → i < 9 ∨ 14 ≤ i → h9 (ad i) = h (ad i) := fun i ho n1 => F2 _ (adne hj (by omega) (own_lt ho) (by omega)) (adne hj (by omega) (own_lt ho) (by omega)) (adne hj (by omega) (own_lt ho) (by omega))
    exact x_aret C E rfl (by first | exact Or.inl ⟨_, rfl⟩ | exact Or.inr ⟨_, rfl⟩) (by omega) (by omega) dX8_freshVoicing_31 (⟨rfl, TabR.small (h1 := h9) T (T.2.2.2.2.1.kept (F2 _ (adne hj (by omega) (by omega) (by omega)) (adne hj (by omega) (by omega) (by omega)) (adne hj (by omega) (by omega) (by omega))) (F2 _ (adne hj (by omega) (by omega) (by omega)) (adne hj (by omega) (by omega) (by omega)) (adne hj (by omega) (by omega) (by omega)))) ⟨hH2, _, cls, bass, fm, hX2, shA_V _ _ _ _ _ _ _ IV1.2.2.1, ⟨by omega, by omega, by omega⟩, fun _ => rfl⟩ hk, hX2, fun x hx => F2 x (hx 9 (by unfold own; omega)) (hx 10 (by unfold own; omega)) (hx 11 (by unfold own; omega))⟩)
