/-! Neck.fix; what a chord's grips are. -/
theorem qL_nk {Q : Ins} {P : Pie} (hI : IV Q.n Q.op Q.cp Q.rc) (hC : CV P.m P.si P.pt P.cl P.cf) (hV : PiV P) {c : Nat} (hc : c < P.m) : srt (nkL (P.pt c) (P.si c) Q.n Q.op Q.sl Q.cp Q.rc) ∧ (∀ y, y ∈ nkL (P.pt c) (P.si c) Q.n Q.op Q.sl Q.cp Q.rc ↔ Ext Q.n Q.op Q.sl Q.cp (rwL (P.pt c) (P.si c)) 0 y ∧ hPlay (fr y) Q.rc = true) ∧ qL Q P c = (nkL (P.pt c) (P.si c) Q.n Q.op Q.sl Q.cp Q.rc).take 30 := by
  have h := nkL_spec (p := P.pt c) (Ln := P.si c) (op := Q.op) (sl := Q.sl) (cp := Q.cp) hI.1 (by have := hC.2.1 c; omega) (hV c hc).2 hI.2.2.1.1 Q.rc
  refine ⟨h.1, h.2.1, ?_⟩
  rw [← h.2.2]
  unfold qL LT
  have e : ptL (P.pt c) 0 (P.si c) = rwL (P.pt c) (P.si c) := by
    unfold ptL rwL
    refine List.map_congr_left (fun t _ => ?_)
    rw [Nat.zero_add]
  rw [e]
theorem qL_len {Q : Ins} {P : Pie} (hI : IV Q.n Q.op Q.cp Q.rc) (hC : CV P.m P.si P.pt P.cl P.cf) (hV : PiV P) {c : Nat} (hc : c < P.m) : (qL Q P c).length ≤ 30 := by
  rw [(qL_nk hI hC hV hc).2.2, List.length_take]
  omega
theorem qL_get {Q : Ins} {P : Pie} (hI : IV Q.n Q.op Q.cp Q.rc) (hC : CV P.m P.si P.pt P.cl P.cf) (hV : PiV P) {c : Nat} (hc : c < P.m) {g : Nat} (hg : g < (qL Q P c).length) : (qL Q P c).getD g 0 < 16777216 ∧ (∀ s, s < 6 → fr ((qL Q P c).getD g 0) s = -1 ∨ (s < Q.n ∧ Q.sl s = false ∧ 0 ≤ fr ((qL Q P c).getD g 0) s ∧ fr ((qL Q P c).getD g 0) s ≤ 12 - Q.cp)) ∧ hPlay (fr ((qL Q P c).getD g 0)) Q.rc = true := by
  have hm : (qL Q P c).getD g 0 ∈ qL Q P c := by
    rw [List.getD_eq_getElem?_getD, List.getElem?_eq_getElem hg]
    exact List.getElem_mem _
  obtain ⟨h1, h2, h3⟩ := qL_nk hI hC hV hc
  have hm2 : (qL Q P c).getD g 0 ∈ nkL (P.pt c) (P.si c) Q.n Q.op Q.sl Q.cp Q.rc := List.mem_of_mem_take (by rw [← h3]; exact hm)
  obtain ⟨⟨e1, e2, -⟩, e4⟩ := (h2 _).mp hm2
  refine ⟨e1, fun s hs => ?_, e4⟩
  rcases e2 s hs with q | ⟨-, q1, q2, q3, -⟩
  · exact Or.inl (q.trans (fr_0 s))
  · exact Or.inr ⟨(used_n q1).1, (used_n q1).2, q2, q3⟩
theorem qL_cd {Q : Ins} {P : Pie} (hI : IV Q.n Q.op Q.cp Q.rc) (hC : CV P.m P.si P.pt P.cl P.cf) (hV : PiV P) {c : Nat} (hc : c < P.m) {g : Nat} (hg : g < (qL Q P c).length) : cdG Q.n ((qL Q P c).getD g 0) := by
  obtain ⟨h1, h2, -⟩ := qL_get hI hC hV hc hg
  have hcp := hI.2.2.1.1
  refine ⟨h1, fun t ht => ?_, fun t a b => ?_⟩
  · rcases h2 t ht with q | q <;> omega
  · rcases h2 t b with q | q
    · exact q
    · omega
theorem qL_klt {Q : Ins} {P : Pie} (hI : IV Q.n Q.op Q.cp Q.rc) (hC : CV P.m P.si P.pt P.cl P.cf) (hV : PiV P) {c : Nat} (hc : c < P.m) {i j : Nat} (hij : i < j) (hj : j < (qL Q P c).length) : klt ((qL Q P c).getD i 0) ((qL Q P c).getD j 0) := by
  obtain ⟨h1, -, h3⟩ := qL_nk hI hC hV hc
  exact srt_get (h3 ▸ srt_take 30 h1) i j hij hj

set_option maxRecDepth 100000 in
set_option maxHeartbeats 4000000 in
theorem c_N_fix {G : xG} {h : PH} {ad : Nat → Nat} {nk b L sl : Nat} {dr : Int} {xs : Nat → Int32} {fq : Bool} {Q : Ins} {P : Pie} (hj : ∀ i j, i < 300 → j < 300 → ad i = ad j → i = j) (T : TabR G h ad fq Q P) (NN : NkR G h ad nk b sl dr Q P) (hdr : dr < 90000) (hm : 0 < P.m) (hn : Q.n < 5) (hn0 : 0 < Q.n) : Sn G (b, L, xs) m_Neck_fix 15 2660 16920 [.ref nk] h (fun r h' => r = some (vi (b2i true)) ∧ NP G h' ad nk b sl Q.n P.m (dr + 2)) := by
  refine Sn_of (by decide) (Nat.le_of_ble_eq_true rfl) (fun K C hR E hX hbl hL => ?_)
  have hX : va_X b L xs (ks K) (ks K).heap := hX
  have hbl : b < gN G := hbl
  have hL : L ≤ 260 := hL
  obtain ⟨oa, ca, la, fa, fo, ln2, hN, hO, hS, hSv, ⟨cf, hCa, hCr⟩, hLa, ⟨ff, hFa, hFr⟩, ⟨av0, av1, av2, av3, av4, av5, av6, av7, av8, av9⟩, ⟨hd1, hd2⟩, hV⟩ := id NN
  have IV1 := T.2.2.2.2.2.2.2.1
  have CV1 := T.2.2.2.2.2.2.2.2
  have IVn := IV1.1
  obtain ⟨ivc1, ivc2⟩ := IV1.2.2.1
  obtain ⟨ivr1, ivr2⟩ := IV1.2.2.2
  have CVm := CV1.1
  show X G K 4 0 [some (.ref nk), none, none, none] [] h 0 0
  refine x_aload_n C dX9_fix_0 rfl rfl ?_
  refine x_get C f_Neck_29 hN rfl dX9_fix_1 ?_
  refine x_alen C (t := 3) rfl hCa dX9_fix_4 ?_
  refine x_if_ne C (tgt := 10) dX9_fix_5 (by decide) ⟨by omega, by omega⟩ (fun c5 => ?_) (fun c5 => ?_)
  · skip
    refine x_aload_n C dX9_fix_10 rfl rfl ?_
    refine x_aload_n C dX9_fix_11 rfl rfl ?_
    refine x_get C f_Neck_29 hN rfl dX9_fix_12 ?_
    refine x_alen C (t := 3) rfl hCa dX9_fix_15 ?_
    refine x_invVX C (Sc := (b, L, xs)) hX hbl hL s_Neck_64 (st := []) (c_N_draw hN ⟨by omega, by omega⟩ (n := (P.m : Int)) (⟨by omega, by omega⟩)) hN rfl rfl (Nat.le_of_ble_eq_true rfl) (xRm_of hR (by omega) (by decide) (by omega) (by omega)) dX9_fix_16 (fun r9 h9 hq => ?_)
    obtain ⟨c, rfl, hc, e9⟩ := hq
    subst e9
    refine x_istore_n C (ls' := [some (.ref nk), some (vi (c : Int)), none, none]) dX9_fix_19 rfl (by decide) rfl ?_
    have hcP : c < P.m := by omega
    obtain ⟨ra, r1, r2, r3⟩ := hCr c hcP
    skip
    have hGV : goV (P.si c) Q.n (P.pt c) Q.op Q.cp Q.rc := ⟨IV1.1, by have := CV1.2.1 c; omega, ⟨by omega, by omega⟩, ⟨by omega, by omega⟩, fun t ht => by have := IV1.2.1 t (by omega); omega, fun k hk => by have := CV1.2.2.2.1 c k hcP hk; omega⟩
    refine x_aload_n C dX9_fix_20 rfl rfl ?_
    refine x_iload_n C dX9_fix_21 rfl rfl ?_
    refine x_invV C s_Neck_140 (st := []) (c_N_grips up_s ((up_n (ne_kd hO hN rfl)).trans hO) ((up_n (ne_kd hS hN rfl)).trans hS) ((up_n (ne_kd hCa hN rfl)).trans hCa) ⟨hcP, by omega⟩ r1 ((up_n r2.1).trans r3) hGV hn) up_s rfl rfl (Nat.le_of_ble_eq_true rfl) (xRm_of hR (by omega) (by decide) (by omega) (by omega)) dX9_fix_22 (fun r9 h9g hq => ?_)
    obtain ⟨q, fo1, rfl, H1, HR, zq, K0⟩ := hq
    rw [← (qL_nk IV1 CV1 hV hcP).2.2] at HR
    obtain ⟨gf, g1, g2⟩ := HR
    have hl30 := qL_len IV1 CV1 hV hcP
    have alT : ∀ i, own i → alv (va_up h nk (xO 8 [.ref (ad 0), .ref b, vi (dr + 1), .ref oa, .ref sl, vi Q.cp, vi Q.rc, .ref ca, .ref la, .ref fa, .ref fo])) (ad i) := fun i hi => alv_up (T.al i hi)
    have hTg : ∀ i, own i → h9g (ad i) = h (ad i) := fun i hi => (K0 _ (alT i hi) (Ne.symm (av0 i hi))).trans (up_n (Ne.symm (av0 i hi)))
    have z0q : h q = none := (up_n (fun e => by rw [e] at zq; exact absurd (zq.symm.trans up_s) (by intro z9; cases z9))).symm.trans zq
    have oq : ∀ i, own i → q ≠ ad i := fun i hi e => T.al i hi (by rw [← e]; exact z0q)
    have hKg : ∀ x, alv h x → x ≠ nk → h9g x = h x := fun x a n => (K0 x (alv_up a) n).trans (up_n n)
    have ne_oa_q : oa ≠ q := fun e => alv_of hO (by rw [e]; exact z0q)
    have ne_sl_q : sl ≠ q := fun e => alv_of hS (by rw [e]; exact z0q)
    have ne_la_q : la ≠ q := fun e => alv_of hLa (by rw [e]; exact z0q)
    have ne_ca_q : ca ≠ q := fun e => alv_of hCa (by rw [e]; exact z0q)
    have ne_fa_q : fa ≠ q := fun e => alv_of hFa (by rw [e]; exact z0q)
    have ne_nk_q : nk ≠ q := fun e => alv_of hN (by rw [e]; exact z0q)
    refine x_astore_n C (ls' := [some (.ref nk), some (vi (c : Int)), some (.ref q), none]) dX9_fix_25 rfl (by decide) rfl ?_
    refine x_aload_n C dX9_fix_26 rfl rfl ?_
    refine x_aload_n C dX9_fix_27 rfl rfl ?_
    refine x_alen C (t := 3) rfl g1 dX9_fix_28 ?_
    refine x_iconst C dX9_fix_29 ?_
    refine x_iadd C dX9_fix_30 ?_
    refine x_invVX C (Sc := (b, L, xs)) hX hbl hL s_Neck_64 (st := []) (c_N_draw H1 ⟨by omega, by omega⟩ (n := (((qL Q P c).length : Nat) + 1 : Int)) (⟨by omega, by omega⟩)) H1 rfl rfl (Nat.le_of_ble_eq_true rfl) (xRm_of hR (by omega) (by decide) (by omega) (by omega)) dX9_fix_31 (fun r9 h9 hq => ?_)
    obtain ⟨z, rfl, hz, e9⟩ := hq
    subst e9
    refine x_iconst C dX9_fix_34 ?_
    refine x_isub C dX9_fix_35 ?_
    refine x_istore_n C (ls' := [some (.ref nk), some (vi (c : Int)), some (.ref q), some (vi ((z : Int) - 1))]) dX9_fix_36 rfl (by decide) rfl ?_
    refine x_aload_n C dX9_fix_37 rfl rfl ?_
    refine x_get C f_Neck_36 up_s rfl dX9_fix_38 ?_
    refine x_iload_n C dX9_fix_41 rfl rfl ?_
    refine x_iload_n C dX9_fix_42 rfl rfl ?_
    refine x_if_ge C (tgt := 52) dX9_fix_43 (by decide) ⟨by omega, by omega⟩ (fun c43 => ?_) (fun c43 => ?_)
    · skip
      have hgl : (((z : Int) - 1).toNat) < (qL Q P c).length := by omega
      obtain ⟨q2, u2, e1, e2, e3, e4⟩ := g2 (((z : Int) - 1).toNat) hgl
      have z0q2 : h q2 = none := (up_n (fun e => by rw [e] at e2; exact absurd (e2.symm.trans up_s) (by intro z9; cases z9))).symm.trans e2
      have oq2 : ∀ i, own i → q2 ≠ ad i := fun i hi e => T.al i hi (by rw [← e]; exact z0q2)
      have ne_q2_nk : q2 ≠ nk := fun e => alv_of hN (by rw [← e]; exact z0q2)
      have ne_oa_q2 : oa ≠ q2 := fun e => alv_of hO (by rw [e]; exact z0q2)
      have ne_sl_q2 : sl ≠ q2 := fun e => alv_of hS (by rw [e]; exact z0q2)
      have ne_la_q2 : la ≠ q2 := fun e => alv_of hLa (by rw [e]; exact z0q2)
      have ne_ca_q2 : ca ≠ q2 := fun e => alv_of hCa (by rw [e]; exact z0q2)
      have ne_fa_q2 : fa ≠ q2 := fun e => alv_of hFa (by rw [e]; exact z0q2)
      have hcd := qL_cd IV1 CV1 hV hcP hgl
      have heq := (h_cong (fe_cd e4 hcd)).1
      have hcb := fe_cb IV1.1 e4 hcd
      have her := hEff_rg (fr_fbd ((qL Q P c).getD (((z : Int) - 1).toNat) 0))
      skip
      refine x_aload_n C dX9_fix_52 rfl rfl ?_
      refine x_iload_n C dX9_fix_53 rfl rfl ?_
      refine x_aald C (t := 3) rfl rfl ((up_n (Ne.symm ne_nk_q)).trans g1) ⟨by omega, by omega, by omega⟩ (b := q2) e1 dX9_fix_54 ?_
      refine x_aastA C ((up_n (ne_kd hFa hN rfl)).trans (K0.at ((up_n (ne_kd hFa hN rfl)).trans hFa) (ne_kd hFa hN rfl))) ((up_n ne_q2_nk).trans e3) ⟨by omega, by omega, by omega⟩ (h1 := (va_up (va_up h9g nk (xO 8 [.ref (ad 0), .ref b, vi ((dr + 1) + 1), .ref oa, .ref sl, vi Q.cp, vi Q.rc, .ref ca, .ref la, .ref fa, .ref fo1])) fa (xQ G 3 P.m (va_up ff c (some q2))))) rfl dX9_fix_55 ?_
      have T2 := T.kept (h1 := (va_up (va_up h9g nk (xO 8 [.ref (ad 0), .ref b, vi ((dr + 1) + 1), .ref oa, .ref sl, vi Q.cp, vi Q.rc, .ref ca, .ref la, .ref fa, .ref fo1])) fa (xQ G 3 P.m (va_up ff c (some q2))))) (fun i hi => ((up_n (Ne.symm (av5 i hi))).trans ((up_n (Ne.symm (av0 i hi))).trans (hTg i hi))))
      refine x_aload_n C dX9_fix_56 rfl rfl ?_
      refine x_get C f_Neck_10 ((up_n (ne_kd hN hFa rfl)).trans up_s) rfl dX9_fix_57 ?_
      refine x_iload_n C dX9_fix_60 rfl rfl ?_
      refine x_iload_n C dX9_fix_61 rfl rfl ?_
      skip
      refine x_re (b := (((((z : Int) - 1).toNat) : Nat) : Int)) (by omega) ?_
      refine x_invV C s_Neck_144 (st := []) (c_fix hj T2 (c := c) (g := (((z : Int) - 1).toNat)) hcP hgl) (TabR.o T2).choose_spec rfl rfl (Nat.le_of_ble_eq_true rfl) (xRm_of hR (by omega) (by decide) (by omega) (by omega)) dX9_fix_62 (fun r9 h92 hq => ?_)
      obtain ⟨rfl, T2b, p2⟩ := hq
      refine x_iload_n C dX9_fix_65 rfl rfl ?_
      refine x_if_ge C (tgt := 73) dX9_fix_66 (by decide) ⟨by omega, by omega⟩ (fun c66 => ?_) (fun c66 => ?_)
      · skip
        refine x_aload_n C dX9_fix_73 rfl rfl ?_
        refine x_iload_n C dX9_fix_74 rfl rfl ?_
        refine x_aald C (t := 3) rfl rfl ((p2 q oq).trans ((up_n (Ne.symm ne_fa_q)).trans ((up_n (Ne.symm ne_nk_q)).trans g1))) ⟨by omega, by omega, by omega⟩ (b := q2) e1 dX9_fix_75 ?_
        refine x_invS C s_Neck_129 (st := [vi (hEff (fr ((qL Q P c).getD (((z : Int) - 1).toNat) 0)))]) (c_N_effort ((p2 q2 oq2).trans ((up_n (Ne.symm ne_fa_q2)).trans ((up_n ne_q2_nk).trans e3))) IV1.1 hcb) rfl rfl (Nat.le_of_ble_eq_true rfl) (xRm_of hR (by omega) (by decide) (by omega) (by omega)) dX9_fix_76 (fun r9 h8 hq => ?_)
        obtain ⟨rfl, hk8⟩ := hq
        refine x_icmp_ne C (tgt := 86) dX9_fix_79 (by decide) ⟨by omega, by omega⟩ ⟨by omega, by omega⟩ (fun c79 => ?_) (fun c79 => ?_)
        · skip
          exfalso; omega
        · skip
          refine x_iconst C dX9_fix_82 ?_
          refine x_goto C (tgt := 87) dX9_fix_83 (by decide) ?_
          have kS : KpS (fun x => EX ad nk oa sl x ∧ x ≠ fa) h h8 := fun x ax sx => (hk8 x (by show h92 x ≠ none; rw [(p2 x sx.1.2.2.2).trans ((up_n (sx.2)).trans ((up_n (sx.1.1)).trans (hKg x ax sx.1.1)))]; exact ax)).trans ((p2 x sx.1.2.2.2).trans ((up_n (sx.2)).trans ((up_n (sx.1.1)).trans (hKg x ax sx.1.1))))
          have T3 := T2b.kept (h1 := h8) (fun i hi => hk8 _ (T2b.al i hi))
          exact x_zret C E rfl (by omega) (by omega) (z := true) dX9_fix_87 (⟨rfl, Q, (P.m, P.si, P.pt, P.cl, va_up P.cf c (((qL Q P c).getD (((z : Int) - 1).toNat) 0 : Nat) : Int)), _, T3, ⟨oa, ca, la, fa, fo1, ln2, (hk8.at ((p2 nk av0).trans ((up_n (ne_kd hN hFa rfl)).trans up_s))), (hk8.at ((p2 oa av1).trans ((up_n (ne_kd hO hFa rfl)).trans ((up_n (ne_kd hO hN rfl)).trans (K0.at ((up_n (ne_kd hO hN rfl)).trans hO) (ne_kd hO hN rfl)))))), (hk8.at ((p2 sl av2).trans ((up_n (ne_kd hS hFa rfl)).trans ((up_n (ne_kd hS hN rfl)).trans (K0.at ((up_n (ne_kd hS hN rfl)).trans hS) (ne_kd hS hN rfl)))))), hSv, ⟨cf, (hk8.at ((p2 ca av3).trans ((up_n av9).trans ((up_n (ne_kd hCa hN rfl)).trans (K0.at ((up_n (ne_kd hCa hN rfl)).trans hCa) (ne_kd hCa hN rfl)))))), fun c9 hc9 => by obtain ⟨q9, a1, a2, a3⟩ := hCr c9 hc9; exact ⟨q9, a1, a2, (kS q9 (alv_of a3) ⟨a2, ne_kd a3 hFa rfl⟩).trans a3⟩⟩, (hk8.at ((p2 la av4).trans ((up_n (ne_kd hLa hFa rfl)).trans ((up_n (ne_kd hLa hN rfl)).trans (K0.at ((up_n (ne_kd hLa hN rfl)).trans hLa) (ne_kd hLa hN rfl)))))), ⟨_, (hk8.at ((p2 fa av5).trans up_s)), fun c9 hc9 => by by_cases w : c9 = c; rw [w]; exact ⟨q2, Q.n, _, up_s, ⟨ne_q2_nk, Ne.symm ne_oa_q2, Ne.symm ne_sl_q2, oq2⟩, (hk8.at ((p2 q2 oq2).trans ((up_n (Ne.symm ne_fa_q2)).trans ((up_n ne_q2_nk).trans e3)))), IVn, fun w => absurd w (by omega)⟩; obtain ⟨q9, n9, u9, a1, a2, a3, a4⟩ := hFr c9 hc9; exact ⟨q9, n9, u9, (up_n w).trans a1, a2, (kS q9 (alv_of a3) ⟨a2, ne_kd a3 hFa rfl⟩).trans a3, a4.1, fun z9 => (up_n w).trans (a4.2 z9)⟩⟩, ⟨av0, av1, av2, av3, av4, av5, av6, av7, av8, av9⟩, ⟨by omega, by omega⟩, hV⟩, rfl, rfl, by omega⟩)
      · skip
        exfalso; omega
    · skip
      refine x_iconst C dX9_fix_46 ?_
      refine x_newI C (n := 0) ⟨by omega, by omega⟩ arrayClass_int hR (by omega) (by omega) dX9_fix_47 (fun e0 ze0 => ?_)
      have ne_nk_e0 : nk ≠ e0 := fun e => by rw [← e] at ze0; exact absurd (ze0.symm.trans up_s) (by intro h9; cases h9)
      have ne_oa_e0 : oa ≠ e0 := fun e => by rw [← e] at ze0; exact absurd (ze0.symm.trans ((up_n (ne_kd hO hN rfl)).trans (K0.at ((up_n (ne_kd hO hN rfl)).trans hO) (ne_kd hO hN rfl)))) (by intro h9; cases h9)
      have ne_sl_e0 : sl ≠ e0 := fun e => by rw [← e] at ze0; exact absurd (ze0.symm.trans ((up_n (ne_kd hS hN rfl)).trans (K0.at ((up_n (ne_kd hS hN rfl)).trans hS) (ne_kd hS hN rfl)))) (by intro h9; cases h9)
      have ne_ca_e0 : ca ≠ e0 := fun e => by rw [← e] at ze0; exact absurd (ze0.symm.trans ((up_n (ne_kd hCa hN rfl)).trans (K0.at ((up_n (ne_kd hCa hN rfl)).trans hCa) (ne_kd hCa hN rfl)))) (by intro h9; cases h9)
      have ne_la_e0 : la ≠ e0 := fun e => by rw [← e] at ze0; exact absurd (ze0.symm.trans ((up_n (ne_kd hLa hN rfl)).trans (K0.at ((up_n (ne_kd hLa hN rfl)).trans hLa) (ne_kd hLa hN rfl)))) (by intro h9; cases h9)
      have ne_fa_e0 : fa ≠ e0 := fun e => by rw [← e] at ze0; exact absurd (ze0.symm.trans ((up_n (ne_kd hFa hN rfl)).trans (K0.at ((up_n (ne_kd hFa hN rfl)).trans hFa) (ne_kd hFa hN rfl)))) (by intro h9; cases h9)
      have ne_q_e0 : q ≠ e0 := fun e => by rw [← e] at ze0; exact absurd (ze0.symm.trans ((up_n (Ne.symm ne_nk_q)).trans g1)) (by intro h9; cases h9)
      have zge0 : h9g e0 = none := ((up_n (Ne.symm ne_nk_e0)).symm.trans ze0)
      have z0e0 : h e0 = none := by
        by_cases a9 : h e0 = none
        · exact a9
        · exact absurd zge0 (by rw [hKg e0 a9 (Ne.symm ne_nk_e0)]; exact a9)
      have oe0 : ∀ i, own i → e0 ≠ ad i := fun i hi e => T.al i hi (by rw [← e]; exact z0e0)
      refine x_goto C (tgt := 55) dX9_fix_49 (by decide) ?_
      refine x_aastA C ((up_n ne_fa_e0).trans ((up_n (ne_kd hFa hN rfl)).trans (K0.at ((up_n (ne_kd hFa hN rfl)).trans hFa) (ne_kd hFa hN rfl)))) up_s ⟨by omega, by omega, by omega⟩ (h1 := (va_up (va_up (va_up h9g nk (xO 8 [.ref (ad 0), .ref b, vi ((dr + 1) + 1), .ref oa, .ref sl, vi Q.cp, vi Q.rc, .ref ca, .ref la, .ref fa, .ref fo1])) e0 (xI G 0 (fun _ => 0))) fa (xQ G 3 P.m (va_up ff c (some e0))))) rfl dX9_fix_55 ?_
      have T2 := T.kept (h1 := (va_up (va_up (va_up h9g nk (xO 8 [.ref (ad 0), .ref b, vi ((dr + 1) + 1), .ref oa, .ref sl, vi Q.cp, vi Q.rc, .ref ca, .ref la, .ref fa, .ref fo1])) e0 (xI G 0 (fun _ => 0))) fa (xQ G 3 P.m (va_up ff c (some e0))))) (fun i hi => ((up_n (Ne.symm (av5 i hi))).trans ((up_n (Ne.symm (oe0 i hi))).trans ((up_n (Ne.symm (av0 i hi))).trans (hTg i hi)))))
      refine x_aload_n C dX9_fix_56 rfl rfl ?_
      refine x_get C f_Neck_10 ((up_n (ne_kd hN hFa rfl)).trans ((up_n ne_nk_e0).trans up_s)) rfl dX9_fix_57 ?_
      refine x_iload_n C dX9_fix_60 rfl rfl ?_
      refine x_iload_n C dX9_fix_61 rfl rfl ?_
      skip
      refine x_re (b := (-1)) (by omega) ?_
      refine x_invV C s_Neck_144 (st := []) (c_fix_none hj T2 (c := c) hcP) (TabR.o T2).choose_spec rfl rfl (Nat.le_of_ble_eq_true rfl) (xRm_of hR (by omega) (by decide) (by omega) (by omega)) dX9_fix_62 (fun r9 h92 hq => ?_)
      obtain ⟨rfl, T2b, p2⟩ := hq
      refine x_iload_n C dX9_fix_65 rfl rfl ?_
      refine x_if_ge C (tgt := 73) dX9_fix_66 (by decide) ⟨by omega, by omega⟩ (fun c66 => ?_) (fun c66 => ?_)
      · skip
        exfalso; omega
      · skip
        refine x_iconst C dX9_fix_69 ?_
        refine x_goto C (tgt := 79) dX9_fix_70 (by decide) ?_
        refine x_icmp_ne C (tgt := 86) dX9_fix_79 (by decide) (by decide) (by decide) (fun c79 => ?_) (fun c79 => ?_)
        · skip
          exfalso; omega
        · skip
          refine x_iconst C dX9_fix_82 ?_
          refine x_goto C (tgt := 87) dX9_fix_83 (by decide) ?_
          have kS : KpS (fun x => EX ad nk oa sl x ∧ x ≠ fa) h h92 := fun x ax sx => (p2 x sx.1.2.2.2).trans ((up_n (sx.2)).trans ((up_n (fun e => ax (by rw [e]; exact z0e0))).trans ((up_n (sx.1.1)).trans (hKg x ax sx.1.1))))
          exact x_zret C E rfl (by omega) (by omega) (z := true) dX9_fix_87 (⟨rfl, Q, (P.m, P.si, P.pt, P.cl, va_up P.cf c (-1)), _, T2b, ⟨oa, ca, la, fa, fo1, ln2, ((p2 nk av0).trans ((up_n (ne_kd hN hFa rfl)).trans ((up_n ne_nk_e0).trans up_s))), ((p2 oa av1).trans ((up_n (ne_kd hO hFa rfl)).trans ((up_n ne_oa_e0).trans ((up_n (ne_kd hO hN rfl)).trans (K0.at ((up_n (ne_kd hO hN rfl)).trans hO) (ne_kd hO hN rfl)))))), ((p2 sl av2).trans ((up_n (ne_kd hS hFa rfl)).trans ((up_n ne_sl_e0).trans ((up_n (ne_kd hS hN rfl)).trans (K0.at ((up_n (ne_kd hS hN rfl)).trans hS) (ne_kd hS hN rfl)))))), hSv, ⟨cf, ((p2 ca av3).trans ((up_n av9).trans ((up_n ne_ca_e0).trans ((up_n (ne_kd hCa hN rfl)).trans (K0.at ((up_n (ne_kd hCa hN rfl)).trans hCa) (ne_kd hCa hN rfl)))))), fun c9 hc9 => by obtain ⟨q9, a1, a2, a3⟩ := hCr c9 hc9; exact ⟨q9, a1, a2, (kS q9 (alv_of a3) ⟨a2, ne_kd a3 hFa rfl⟩).trans a3⟩⟩, ((p2 la av4).trans ((up_n (ne_kd hLa hFa rfl)).trans ((up_n ne_la_e0).trans ((up_n (ne_kd hLa hN rfl)).trans (K0.at ((up_n (ne_kd hLa hN rfl)).trans hLa) (ne_kd hLa hN rfl)))))), ⟨_, ((p2 fa av5).trans up_s), fun c9 hc9 => by by_cases w : c9 = c; rw [w]; exact ⟨e0, (Int.toNat 0), _, up_s, ⟨Ne.symm ne_nk_e0, Ne.symm ne_oa_e0, Ne.symm ne_sl_e0, oe0⟩, ((p2 e0 oe0).trans ((up_n (Ne.symm ne_fa_e0)).trans up_s)), by decide, fun _ => up_s⟩; obtain ⟨q9, n9, u9, a1, a2, a3, a4⟩ := hFr c9 hc9; exact ⟨q9, n9, u9, (up_n w).trans a1, a2, (kS q9 (alv_of a3) ⟨a2, ne_kd a3 hFa rfl⟩).trans a3, a4.1, fun z9 => (up_n w).trans (a4.2 z9)⟩⟩, ⟨av0, av1, av2, av3, av4, av5, av6, av7, av8, av9⟩, ⟨by omega, by omega⟩, hV⟩, rfl, rfl, by omega⟩)
  · skip
    exfalso; omega
