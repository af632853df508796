/-! Planner: what it asks. -/
theorem mvF_c (Ls : Nat → List Nat) (ln : Nat → Int) (cnt m : Nat) (g n : Int) : mvF Ls ln cnt (m : Int) g n = if 0 ≤ (m : Int) ∧ (m : Int) + 1 < cnt ∧ (0 ≤ g ∧ g < (Ls m).length) ∧ 0 ≤ n ∧ n < (Ls (m + 1)).length then mvG ((Ls m).getD g.toNat 0) ((Ls (m + 1)).getD n.toNat 0) (ln m) else 0 := rfl

set_option maxRecDepth 100000 in
set_option maxHeartbeats 4000000 in
theorem c_gripless {G : xG} {h : PH} {ad : Nat → Nat} {B : Nat} {Ls : Nat → List Nat} {fx ln ch : Nat → Int} {tot : Int} {cnt : Nat} {rs : Nat → Nat → Int} (hj : ∀ i j, i < 300 → j < 300 → ad i = ad j → i = j) (hB : B = 100 ∨ B = 200) (P : PR G h ad B Ls fx ln ch tot cnt rs) (V : PV fx ln ch tot cnt rs) : Cn G m_Plan_griplessCount 0 0 0 [.ref (ad B)] h (fun r h' => r = some (vi (gless Ls cnt)) ∧ h' = h) := by
  refine Cn_of (by decide) (Nat.le_of_ble_eq_true rfl) (fun K C hR E => ?_)
  have V3 := V.2.2.1
  show X G K 3 0 [some (.ref (ad B)), none, none] [] h 0 0
  refine x_iconst C dX6_griplessCount_0 ?_
  refine x_istore_n C (ls' := [some (.ref (ad B)), some (vi 0), none]) dX6_griplessCount_1 rfl (by decide) rfl ?_
  refine x_iconst C dX6_griplessCount_2 ?_
  refine x_istore_n C (ls' := [some (.ref (ad B)), some (vi 0), some (vi 0)]) dX6_griplessCount_3 rfl (by decide) rfl ?_
  have L : ∀ (n0 : Nat) (k : Nat) (p1 : Int), cnt - k < n0 → (k ≤ cnt) → (gless Ls k = p1) → X G K 3 4 [some (.ref (ad B)), some (vi p1), some (vi (k : Int))] [] h 0 0 := by
    intro n0
    induction n0 with
    | zero => intro k p1 hm; exact absurd hm (Nat.not_lt_zero _)
    | succ n0 ih_L =>
      intro k p1 hm i1 i2
      refine x_iload_n C dX6_griplessCount_4 rfl rfl ?_
      refine x_aload_n C dX6_griplessCount_5 rfl rfl ?_
      refine x_get C f_Plan_43 P.1 rfl dX6_griplessCount_6 ?_
      refine x_icmp_ge C (tgt := 33) dX6_griplessCount_9 (by decide) ⟨by omega, by omega⟩ ⟨by omega, by omega⟩ (fun c9 => ?_) (fun c9 => ?_)
      · skip
        refine x_iload_n C dX6_griplessCount_33 rfl rfl ?_
        have e0 : k = cnt := by omega
        subst e0
        exact x_iret C E rfl (by omega) (by omega) dX6_griplessCount_34 (⟨by rw [i2], rfl⟩)
      · skip
        have hlk := (P.2.2.2.2.2.2.2.1 k (by omega)).len
        refine x_aload_n C dX6_griplessCount_12 rfl rfl ?_
        refine x_get C f_Plan_11 P.1 rfl dX6_griplessCount_13 ?_
        refine x_iload_n C dX6_griplessCount_16 rfl rfl ?_
        refine x_aald C (t := 5) rfl rfl P.2.1 ⟨by omega, by omega, by omega⟩ (b := (ad (B + 8 + k))) rfl dX6_griplessCount_17 ?_
        refine x_get C f_Plan_60 (P.2.2.2.2.2.2.2.1 k (by omega)).obj rfl dX6_griplessCount_18 ?_
        refine x_if_ne C (tgt := 27) dX6_griplessCount_21 (by decide) ⟨by omega, by omega⟩ (fun c21 => ?_) (fun c21 => ?_)
        · skip
          refine x_iinc C (ls' := [some (.ref (ad B)), some (vi p1), some (vi ((k : Int) + 1))]) dX6_griplessCount_27 rfl (by decide) (z1 := ((k : Int) + 1)) rfl rfl ?_
          refine x_goto C (tgt := 4) dX6_griplessCount_30 (by decide) ?_
          exact ih_L (k + 1) p1 (by omega) (by omega) (by show (if _ then _ else _) = _; rw [i2]; first | exact if_pos c21 | exact if_neg c21)
        · skip
          refine x_iinc C (ls' := [some (.ref (ad B)), some (vi (p1 + 1)), some (vi (k : Int))]) dX6_griplessCount_24 rfl (by decide) (z1 := (p1 + 1)) rfl rfl ?_
          refine x_iinc C (ls' := [some (.ref (ad B)), some (vi (p1 + 1)), some (vi ((k : Int) + 1))]) dX6_griplessCount_27 rfl (by decide) (z1 := ((k : Int) + 1)) rfl rfl ?_
          refine x_goto C (tgt := 4) dX6_griplessCount_30 (by decide) ?_
          exact ih_L (k + 1) (p1 + 1) (by omega) (by omega) (by show (if _ then _ else _) = _; rw [i2]; first | exact if_pos c21 | exact if_neg c21)
  exact L _ 0 0 (Nat.lt_succ_self _) (by omega) (rfl)

set_option maxRecDepth 100000 in
set_option maxHeartbeats 4000000 in
theorem c_fixedCount {G : xG} {h : PH} {ad : Nat → Nat} {B : Nat} {Ls : Nat → List Nat} {fx ln ch : Nat → Int} {tot : Int} {cnt : Nat} {rs : Nat → Nat → Int} (hj : ∀ i j, i < 300 → j < 300 → ad i = ad j → i = j) (hB : B = 100 ∨ B = 200) (P : PR G h ad B Ls fx ln ch tot cnt rs) (V : PV fx ln ch tot cnt rs) : Cn G m_Plan_fixedCount 0 0 0 [.ref (ad B)] h (fun r h' => r = some (vi (fixd fx cnt)) ∧ h' = h) := by
  refine Cn_of (by decide) (Nat.le_of_ble_eq_true rfl) (fun K C hR E => ?_)
  have V3 := V.2.2.1
  show X G K 3 0 [some (.ref (ad B)), none, none] [] h 0 0
  refine x_iconst C dX6_fixedCount_0 ?_
  refine x_istore_n C (ls' := [some (.ref (ad B)), some (vi 0), none]) dX6_fixedCount_1 rfl (by decide) rfl ?_
  refine x_iconst C dX6_fixedCount_2 ?_
  refine x_istore_n C (ls' := [some (.ref (ad B)), some (vi 0), some (vi 0)]) dX6_fixedCount_3 rfl (by decide) rfl ?_
  have L : ∀ (n0 : Nat) (k : Nat) (p1 : Int), cnt - k < n0 → (k ≤ cnt) → (fixd fx k = p1) → X G K 3 4 [some (.ref (ad B)), some (vi p1), some (vi (k : Int))] [] h 0 0 := by
    intro n0
    induction n0 with
    | zero => intro k p1 hm; exact absurd hm (Nat.not_lt_zero _)
    | succ n0 ih_L =>
      intro k p1 hm i1 i2
      refine x_iload_n C dX6_fixedCount_4 rfl rfl ?_
      refine x_aload_n C dX6_fixedCount_5 rfl rfl ?_
      refine x_get C f_Plan_43 P.1 rfl dX6_fixedCount_6 ?_
      refine x_icmp_ge C (tgt := 31) dX6_fixedCount_9 (by decide) ⟨by omega, by omega⟩ ⟨by omega, by omega⟩ (fun c9 => ?_) (fun c9 => ?_)
      · skip
        refine x_iload_n C dX6_fixedCount_31 rfl rfl ?_
        have e0 : k = cnt := by omega
        subst e0
        exact x_iret C E rfl (by omega) (by omega) dX6_fixedCount_32 (⟨by rw [i2], rfl⟩)
      · skip
        refine x_aload_n C dX6_fixedCount_12 rfl rfl ?_
        refine x_get C f_Plan_17 P.1 rfl dX6_fixedCount_13 ?_
        refine x_iload_n C dX6_fixedCount_16 rfl rfl ?_
        refine x_iald C P.2.2.1 ⟨by omega, by omega, by omega⟩ (v := (fx k)) rfl dX6_fixedCount_17 ?_
        refine x_iconst C dX6_fixedCount_18 ?_
        refine x_icmp_eq C (tgt := 25) dX6_fixedCount_19 (by decide) (V.1 k).1 (by decide) (fun c19 => ?_) (fun c19 => ?_)
        · skip
          refine x_iinc C (ls' := [some (.ref (ad B)), some (vi p1), some (vi ((k : Int) + 1))]) dX6_fixedCount_25 rfl (by decide) (z1 := ((k : Int) + 1)) rfl rfl ?_
          refine x_goto C (tgt := 4) dX6_fixedCount_28 (by decide) ?_
          exact ih_L (k + 1) p1 (by omega) (by omega) (by show (if _ then _ else _) = _; rw [i2]; first | exact if_pos c19 | exact if_neg c19)
        · skip
          refine x_iinc C (ls' := [some (.ref (ad B)), some (vi (p1 + 1)), some (vi (k : Int))]) dX6_fixedCount_22 rfl (by decide) (z1 := (p1 + 1)) rfl rfl ?_
          refine x_iinc C (ls' := [some (.ref (ad B)), some (vi (p1 + 1)), some (vi ((k : Int) + 1))]) dX6_fixedCount_25 rfl (by decide) (z1 := ((k : Int) + 1)) rfl rfl ?_
          refine x_goto C (tgt := 4) dX6_fixedCount_28 (by decide) ?_
          exact ih_L (k + 1) (p1 + 1) (by omega) (by omega) (by show (if _ then _ else _) = _; rw [i2]; first | exact if_pos c19 | exact if_neg c19)
  exact L _ 0 0 (Nat.lt_succ_self _) (by omega) (rfl)

set_option maxRecDepth 100000 in
set_option maxHeartbeats 4000000 in
theorem c_moveCost {G : xG} {h : PH} {ad : Nat → Nat} {B : Nat} {Ls : Nat → List Nat} {fx ln ch : Nat → Int} {tot : Int} {cnt : Nat} {rs : Nat → Nat → Int} (hj : ∀ i j, i < 300 → j < 300 → ad i = ad j → i = j) (hB : B = 100 ∨ B = 200) (P : PR G h ad B Ls fx ln ch tot cnt rs) (V : PV fx ln ch tot cnt rs) {c g n : Int} (hc : -1 ≤ c ∧ c ≤ 12) (hg : bd g) (hn : bd n) : Cn G m_Plan_moveCost 1 0 0 [.ref (ad B), vi c, vi g, vi n] h (fun r h' => r = some (vi (mvF Ls ln cnt c g n)) ∧ h' = h) := by
  refine Cn_of (by decide) (Nat.le_of_ble_eq_true rfl) (fun K C hR E => ?_)
  have V3 := V.2.2.1
  show X G K 8 0 [some (.ref (ad B)), some (vi c), some (vi g), some (vi n), none, none, none, none] [] h 0 0
  refine x_iload_n C dX6_moveCost_0 rfl rfl ?_
  refine x_if_lt C (tgt := 42) dX6_moveCost_1 (by decide) ⟨by omega, by omega⟩ (fun c1 => ?_) (fun c1 => ?_)
  · skip
    refine x_iconst C dX6_moveCost_42 ?_
    exact x_iret C E rfl (by omega) (by omega) dX6_moveCost_43 (⟨by unfold mvF; rw [if_neg (by omega)], rfl⟩)
  · skip
    refine x_iload_n C dX6_moveCost_4 rfl rfl ?_
    refine x_iconst C dX6_moveCost_5 ?_
    refine x_iadd C dX6_moveCost_6 ?_
    refine x_aload_n C dX6_moveCost_7 rfl rfl ?_
    refine x_get C f_Plan_43 P.1 rfl dX6_moveCost_8 ?_
    refine x_icmp_ge C (tgt := 42) dX6_moveCost_11 (by decide) ⟨by omega, by omega⟩ ⟨by omega, by omega⟩ (fun c11 => ?_) (fun c11 => ?_)
    · skip
      refine x_iconst C dX6_moveCost_42 ?_
      exact x_iret C E rfl (by omega) (by omega) dX6_moveCost_43 (⟨by unfold mvF; rw [if_neg (by omega)], rfl⟩)
    · skip
      obtain ⟨m, rfl⟩ : ∃ m : Nat, c = m := ⟨c.toNat, by omega⟩
      refine x_aload_n C dX6_moveCost_14 rfl rfl ?_
      refine x_get C f_Plan_11 P.1 rfl dX6_moveCost_15 ?_
      refine x_iload_n C dX6_moveCost_18 rfl rfl ?_
      refine x_aald C (t := 5) rfl rfl P.2.1 ⟨by omega, by omega, by omega⟩ (b := (ad (B + 8 + m))) rfl dX6_moveCost_19 ?_
      refine x_iload_n C dX6_moveCost_20 rfl rfl ?_
      refine x_invV C s_Plan_132 (st := []) (c_Grips_has (P.2.2.2.2.2.2.2.1 m (by omega)).obj (P.2.2.2.2.2.2.2.1 m (by omega)).len hg) (P.2.2.2.2.2.2.2.1 m (by omega)).obj rfl rfl (Nat.le_of_ble_eq_true rfl) (xRm_of hR (by omega) (by decide) (by omega) (by omega)) dX6_moveCost_21 (fun r9 h9 hq => ?_)
      obtain ⟨rfl, e9⟩ := hq
      have e9 := e9.symm
      subst e9
      refine x_ifeqB C (tgt := 42) dX6_moveCost_24 (by decide) (fun c24 => ?_) (fun c24 => ?_)
      · skip
        rw [decide_eq_false_iff_not] at c24
        refine x_iconst C dX6_moveCost_42 ?_
        exact x_iret C E rfl (by omega) (by omega) dX6_moveCost_43 (⟨by rw [mvF_c, if_neg (by omega)], rfl⟩)
      · skip
        rw [decide_eq_true_eq] at c24
        obtain ⟨x, rfl⟩ : ∃ x : Nat, g = x := ⟨g.toNat, by omega⟩
        refine x_aload_n C dX6_moveCost_27 rfl rfl ?_
        refine x_get C f_Plan_11 P.1 rfl dX6_moveCost_28 ?_
        refine x_iload_n C dX6_moveCost_31 rfl rfl ?_
        refine x_iconst C dX6_moveCost_32 ?_
        refine x_iadd C dX6_moveCost_33 ?_
        refine x_aald C (t := 5) rfl rfl P.2.1 ⟨by omega, by omega, by omega⟩ (b := (ad (B + 8 + (m + 1)))) rfl dX6_moveCost_34 ?_
        refine x_iload_n C dX6_moveCost_35 rfl rfl ?_
        refine x_invV C s_Plan_132 (st := []) (c_Grips_has (P.2.2.2.2.2.2.2.1 (m + 1) (by omega)).obj (P.2.2.2.2.2.2.2.1 (m + 1) (by omega)).len hn) (P.2.2.2.2.2.2.2.1 (m + 1) (by omega)).obj rfl rfl (Nat.le_of_ble_eq_true rfl) (xRm_of hR (by omega) (by decide) (by omega) (by omega)) dX6_moveCost_36 (fun r9 h9 hq => ?_)
        obtain ⟨rfl, e9⟩ := hq
        have e9 := e9.symm
        subst e9
        refine x_ifneB C (tgt := 44) dX6_moveCost_39 (by decide) (fun c39 => ?_) (fun c39 => ?_)
        · skip
          rw [decide_eq_true_eq] at c39
          obtain ⟨y, rfl⟩ : ∃ y : Nat, n = y := ⟨n.toNat, by omega⟩
          obtain ⟨gb1, ge1, gl1, -, hgb1, hge1, hgl1, hGL1⟩ := P.2.2.2.2.2.2.2.1 m (by omega)
          obtain ⟨gb2, ge2, gl2, -, hgb2, hge2, hgl2, hGL2⟩ := P.2.2.2.2.2.2.2.1 (m + 1) (by omega)
          have ha := hrg (fr_fbd ((Ls m).getD x 0))
          have hb := hrg (fr_fbd ((Ls (m + 1)).getD y 0))
          have l1 := hGL1.1
          have l2 := hGL2.1
          have sa := getD_lt hGL1.2.2.2 x
          have sb := getD_lt hGL2.2.2.2 y
          refine x_aload_n C dX6_moveCost_44 rfl rfl ?_
          refine x_get C f_Plan_11 P.1 rfl dX6_moveCost_45 ?_
          refine x_iload_n C dX6_moveCost_48 rfl rfl ?_
          refine x_aald C (t := 5) rfl rfl P.2.1 ⟨by omega, by omega, by omega⟩ (b := (ad (B + 8 + m))) rfl dX6_moveCost_49 ?_
          refine x_get C f_Plan_135 (P.2.2.2.2.2.2.2.1 m (by omega)).obj rfl dX6_moveCost_50 ?_
          refine x_iload_n C dX6_moveCost_53 rfl rfl ?_
          refine x_iald C hgl1 ⟨by omega, by omega, by omega⟩ (v := (gl1 x)) rfl dX6_moveCost_54 ?_
          refine x_re (b := (hLow (fr ((Ls m).getD x 0)))) ((hGL1.2.1 x (by omega)).2.2) ?_
          refine x_istore C (ls' := [some (.ref (ad B)), some (vi (m : Int)), some (vi (x : Int)), some (vi (y : Int)), some (vi (hLow (fr ((Ls m).getD x 0)))), none, none, none]) dX6_moveCost_55 (by decide) rfl ?_
          refine x_aload_n C dX6_moveCost_57 rfl rfl ?_
          refine x_get C f_Plan_11 P.1 rfl dX6_moveCost_58 ?_
          refine x_iload_n C dX6_moveCost_61 rfl rfl ?_
          refine x_iconst C dX6_moveCost_62 ?_
          refine x_iadd C dX6_moveCost_63 ?_
          refine x_aald C (t := 5) rfl rfl P.2.1 ⟨by omega, by omega, by omega⟩ (b := (ad (B + 8 + (m + 1)))) rfl dX6_moveCost_64 ?_
          refine x_get C f_Plan_135 (P.2.2.2.2.2.2.2.1 (m + 1) (by omega)).obj rfl dX6_moveCost_65 ?_
          refine x_iload_n C dX6_moveCost_68 rfl rfl ?_
          refine x_iald C hgl2 ⟨by omega, by omega, by omega⟩ (v := (gl2 y)) rfl dX6_moveCost_69 ?_
          refine x_re (b := (hLow (fr ((Ls (m + 1)).getD y 0)))) ((hGL2.2.1 y (by omega)).2.2) ?_
          refine x_istore C (ls' := [some (.ref (ad B)), some (vi (m : Int)), some (vi (x : Int)), some (vi (y : Int)), some (vi (hLow (fr ((Ls m).getD x 0)))), some (vi (hLow (fr ((Ls (m + 1)).getD y 0)))), none, none]) dX6_moveCost_70 (by decide) rfl ?_
          refine x_iload C dX6_moveCost_72 rfl ?_
          refine x_if_eq C (tgt := 82) dX6_moveCost_74 (by decide) ⟨by omega, by omega⟩ (fun c74 => ?_) (fun c74 => ?_)
          · skip
            refine x_iconst C dX6_moveCost_82 ?_
            have e0 : mvF Ls ln cnt (m : Int) (x : Int) (y : Int) = 0 := by rw [mvF_c, if_pos ⟨by omega, by omega, ⟨by omega, by omega⟩, by omega, by omega⟩]; show mvG ((Ls m).getD x 0) ((Ls (m + 1)).getD y 0) (ln m) = 0; unfold mvG; rw [if_pos (by omega)]
            exact x_iret C E rfl (by omega) (by omega) dX6_moveCost_83 (⟨by rw [e0], rfl⟩)
          · skip
            refine x_iload C dX6_moveCost_77 rfl ?_
            refine x_if_ne C (tgt := 84) dX6_moveCost_79 (by decide) ⟨by omega, by omega⟩ (fun c79 => ?_) (fun c79 => ?_)
            · skip
              refine x_aload_n C dX6_moveCost_84 rfl rfl ?_
              refine x_get C f_Plan_28 P.1 rfl dX6_moveCost_85 ?_
              refine x_iload_n C dX6_moveCost_88 rfl rfl ?_
              refine x_iald C P.2.2.2.2.1 ⟨by omega, by omega, by omega⟩ (v := (ln m)) rfl dX6_moveCost_89 ?_
              refine x_iconst C dX6_moveCost_90 ?_
              refine x_icmp_ne C (tgt := 99) dX6_moveCost_91 (by decide) (V.1 m).2.1 (by decide) (fun c91 => ?_) (fun c91 => ?_)
              · skip
                refine x_iconst C dX6_moveCost_99 ?_
                refine x_istore C (ls' := [some (.ref (ad B)), some (vi (m : Int)), some (vi (x : Int)), some (vi (y : Int)), some (vi (hLow (fr ((Ls m).getD x 0)))), some (vi (hLow (fr ((Ls (m + 1)).getD y 0)))), some (vi 3), none]) dX6_moveCost_100 (by decide) rfl ?_
                refine x_aload_n C dX6_moveCost_102 rfl rfl ?_
                refine x_get C f_Plan_11 P.1 rfl dX6_moveCost_103 ?_
                refine x_iload_n C dX6_moveCost_106 rfl rfl ?_
                refine x_aald C (t := 5) rfl rfl P.2.1 ⟨by omega, by omega, by omega⟩ (b := (ad (B + 8 + m))) rfl dX6_moveCost_107 ?_
                refine x_get C f_Plan_138 (P.2.2.2.2.2.2.2.1 m (by omega)).obj rfl dX6_moveCost_108 ?_
                refine x_iload_n C dX6_moveCost_111 rfl rfl ?_
                refine x_iald C hgb1 ⟨by omega, by omega, by omega⟩ (v := (gb1 x)) rfl dX6_moveCost_112 ?_
                refine x_re (b := (((Ls m).getD x 0 : Nat) : Int)) ((hGL1.2.1 x (by omega)).1) ?_
                refine x_aload_n C dX6_moveCost_113 rfl rfl ?_
                refine x_get C f_Plan_11 P.1 rfl dX6_moveCost_114 ?_
                refine x_iload_n C dX6_moveCost_117 rfl rfl ?_
                refine x_iconst C dX6_moveCost_118 ?_
                refine x_iadd C dX6_moveCost_119 ?_
                refine x_aald C (t := 5) rfl rfl P.2.1 ⟨by omega, by omega, by omega⟩ (b := (ad (B + 8 + (m + 1)))) rfl dX6_moveCost_120 ?_
                refine x_get C f_Plan_138 (P.2.2.2.2.2.2.2.1 (m + 1) (by omega)).obj rfl dX6_moveCost_121 ?_
                refine x_iload_n C dX6_moveCost_124 rfl rfl ?_
                refine x_iald C hgb2 ⟨by omega, by omega, by omega⟩ (v := (gb2 y)) rfl dX6_moveCost_125 ?_
                refine x_re (b := (((Ls (m + 1)).getD y 0 : Nat) : Int)) ((hGL2.2.1 y (by omega)).1) ?_
                refine x_invS C s_Plan_141 (st := []) (c_newlyPressed (c := (Ls m).getD x 0) (d := (Ls (m + 1)).getD y 0) (by omega) (by omega)) rfl rfl (Nat.le_of_ble_eq_true rfl) (xRm_of hR (by omega) (by decide) (by omega) (by omega)) dX6_moveCost_126 (fun r9 h9 hq => ?_)
                obtain ⟨rfl, e9⟩ := hq
                have e9 := e9.symm
                subst e9
                refine x_istore C (ls' := [some (.ref (ad B)), some (vi (m : Int)), some (vi (x : Int)), some (vi (y : Int)), some (vi (hLow (fr ((Ls m).getD x 0)))), some (vi (hLow (fr ((Ls (m + 1)).getD y 0)))), some (vi 3), some (vi ((np ((Ls m).getD x 0) ((Ls (m + 1)).getD y 0) : Nat) : Int))]) dX6_moveCost_129 (by decide) rfl ?_
                refine x_iload C dX6_moveCost_131 rfl ?_
                refine x_iload C dX6_moveCost_133 rfl ?_
                refine x_iload C dX6_moveCost_135 rfl ?_
                refine x_isub C dX6_moveCost_137 ?_
                refine x_abs C s_Plan_144 static_Math_abs i_Math code_Math_abs ⟨by omega, by omega⟩ (Nat.le_of_ble_eq_true rfl) hR (by omega) (by omega) (by omega) dX6_moveCost_138 ?_
                refine x_imul C dX6_moveCost_141 ?_
                refine x_iload C dX6_moveCost_142 rfl ?_
                refine x_invS C s_Plan_147 (st := [vi (3 * (if 0 ≤ ((hLow (fr ((Ls (m + 1)).getD y 0))) - (hLow (fr ((Ls m).getD x 0)))) then ((hLow (fr ((Ls (m + 1)).getD y 0))) - (hLow (fr ((Ls m).getD x 0)))) else 0 - ((hLow (fr ((Ls (m + 1)).getD y 0))) - (hLow (fr ((Ls m).getD x 0))))))]) (c_bitCount (I ((np ((Ls m).getD x 0) ((Ls (m + 1)).getD y 0) : Nat) : Int))) rfl rfl (Nat.le_of_ble_eq_true rfl) (xRm_of hR (by omega) (by decide) (by omega) (by omega)) dX6_moveCost_144 (fun r9 h9 hq => ?_)
                obtain ⟨rfl, e9⟩ := hq
                have e9 := e9.symm
                subst e9
                rw [(bci_rg (np ((Ls m).getD x 0) ((Ls (m + 1)).getD y 0))).2.2]
                refine x_iadd C dX6_moveCost_147 ?_
                have e0 : mvF Ls ln cnt (m : Int) (x : Int) (y : Int) = mvG ((Ls m).getD x 0) ((Ls (m + 1)).getD y 0) (ln m) := by rw [mvF_c, if_pos ⟨by omega, by omega, ⟨by omega, by omega⟩, by omega, by omega⟩]; rfl
                exact x_iret C E rfl (by omega) (by omega) dX6_moveCost_148 (⟨by rw [e0]; unfold mvG; rw [if_neg (show ¬ (hLow (fr ((Ls m).getD x 0)) = 0 ∨ hLow (fr ((Ls (m + 1)).getD y 0)) = 0) by omega), if_neg c91], rfl⟩)
              · skip
                refine x_bipush C (z := 6) dX6_moveCost_94 (by decide) ?_
                refine x_goto C (tgt := 100) dX6_moveCost_96 (by decide) ?_
                refine x_istore C (ls' := [some (.ref (ad B)), some (vi (m : Int)), some (vi (x : Int)), some (vi (y : Int)), some (vi (hLow (fr ((Ls m).getD x 0)))), some (vi (hLow (fr ((Ls (m + 1)).getD y 0)))), some (vi 6), none]) dX6_moveCost_100 (by decide) rfl ?_
                refine x_aload_n C dX6_moveCost_102 rfl rfl ?_
                refine x_get C f_Plan_11 P.1 rfl dX6_moveCost_103 ?_
                refine x_iload_n C dX6_moveCost_106 rfl rfl ?_
                refine x_aald C (t := 5) rfl rfl P.2.1 ⟨by omega, by omega, by omega⟩ (b := (ad (B + 8 + m))) rfl dX6_moveCost_107 ?_
                refine x_get C f_Plan_138 (P.2.2.2.2.2.2.2.1 m (by omega)).obj rfl dX6_moveCost_108 ?_
                refine x_iload_n C dX6_moveCost_111 rfl rfl ?_
                refine x_iald C hgb1 ⟨by omega, by omega, by omega⟩ (v := (gb1 x)) rfl dX6_moveCost_112 ?_
                refine x_re (b := (((Ls m).getD x 0 : Nat) : Int)) ((hGL1.2.1 x (by omega)).1) ?_
                refine x_aload_n C dX6_moveCost_113 rfl rfl ?_
                refine x_get C f_Plan_11 P.1 rfl dX6_moveCost_114 ?_
                refine x_iload_n C dX6_moveCost_117 rfl rfl ?_
                refine x_iconst C dX6_moveCost_118 ?_
                refine x_iadd C dX6_moveCost_119 ?_
                refine x_aald C (t := 5) rfl rfl P.2.1 ⟨by omega, by omega, by omega⟩ (b := (ad (B + 8 + (m + 1)))) rfl dX6_moveCost_120 ?_
                refine x_get C f_Plan_138 (P.2.2.2.2.2.2.2.1 (m + 1) (by omega)).obj rfl dX6_moveCost_121 ?_
                refine x_iload_n C dX6_moveCost_124 rfl rfl ?_
                refine x_iald C hgb2 ⟨by omega, by omega, by omega⟩ (v := (gb2 y)) rfl dX6_moveCost_125 ?_
                refine x_re (b := (((Ls (m + 1)).getD y 0 : Nat) : Int)) ((hGL2.2.1 y (by omega)).1) ?_
                refine x_invS C s_Plan_141 (st := []) (c_newlyPressed (c := (Ls m).getD x 0) (d := (Ls (m + 1)).getD y 0) (by omega) (by omega)) rfl rfl (Nat.le_of_ble_eq_true rfl) (xRm_of hR (by omega) (by decide) (by omega) (by omega)) dX6_moveCost_126 (fun r9 h9 hq => ?_)
                obtain ⟨rfl, e9⟩ := hq
                have e9 := e9.symm
                subst e9
                refine x_istore C (ls' := [some (.ref (ad B)), some (vi (m : Int)), some (vi (x : Int)), some (vi (y : Int)), some (vi (hLow (fr ((Ls m).getD x 0)))), some (vi (hLow (fr ((Ls (m + 1)).getD y 0)))), some (vi 6), some (vi ((np ((Ls m).getD x 0) ((Ls (m + 1)).getD y 0) : Nat) : Int))]) dX6_moveCost_129 (by decide) rfl ?_
                refine x_iload C dX6_moveCost_131 rfl ?_
                refine x_iload C dX6_moveCost_133 rfl ?_
                refine x_iload C dX6_moveCost_135 rfl ?_
                refine x_isub C dX6_moveCost_137 ?_
                refine x_abs C s_Plan_144 static_Math_abs i_Math code_Math_abs ⟨by omega, by omega⟩ (Nat.le_of_ble_eq_true rfl) hR (by omega) (by omega) (by omega) dX6_moveCost_138 ?_
                refine x_imul C dX6_moveCost_141 ?_
                refine x_iload C dX6_moveCost_142 rfl ?_
                refine x_invS C s_Plan_147 (st := [vi (6 * (if 0 ≤ ((hLow (fr ((Ls (m + 1)).getD y 0))) - (hLow (fr ((Ls m).getD x 0)))) then ((hLow (fr ((Ls (m + 1)).getD y 0))) - (hLow (fr ((Ls m).getD x 0)))) else 0 - ((hLow (fr ((Ls (m + 1)).getD y 0))) - (hLow (fr ((Ls m).getD x 0))))))]) (c_bitCount (I ((np ((Ls m).getD x 0) ((Ls (m + 1)).getD y 0) : Nat) : Int))) rfl rfl (Nat.le_of_ble_eq_true rfl) (xRm_of hR (by omega) (by decide) (by omega) (by omega)) dX6_moveCost_144 (fun r9 h9 hq => ?_)
                obtain ⟨rfl, e9⟩ := hq
                have e9 := e9.symm
                subst e9
                rw [(bci_rg (np ((Ls m).getD x 0) ((Ls (m + 1)).getD y 0))).2.2]
                refine x_iadd C dX6_moveCost_147 ?_
                have e0 : mvF Ls ln cnt (m : Int) (x : Int) (y : Int) = mvG ((Ls m).getD x 0) ((Ls (m + 1)).getD y 0) (ln m) := by rw [mvF_c, if_pos ⟨by omega, by omega, ⟨by omega, by omega⟩, by omega, by omega⟩]; rfl
                exact x_iret C E rfl (by omega) (by omega) dX6_moveCost_148 (⟨by rw [e0]; unfold mvG; rw [if_neg (show ¬ (hLow (fr ((Ls m).getD x 0)) = 0 ∨ hLow (fr ((Ls (m + 1)).getD y 0)) = 0) by omega), if_pos c91], rfl⟩)
            · skip
              refine x_iconst C dX6_moveCost_82 ?_
              have e0 : mvF Ls ln cnt (m : Int) (x : Int) (y : Int) = 0 := by rw [mvF_c, if_pos ⟨by omega, by omega, ⟨by omega, by omega⟩, by omega, by omega⟩]; show mvG ((Ls m).getD x 0) ((Ls (m + 1)).getD y 0) (ln m) = 0; unfold mvG; rw [if_pos (by omega)]
              exact x_iret C E rfl (by omega) (by omega) dX6_moveCost_83 (⟨by rw [e0], rfl⟩)
        · skip
          rw [decide_eq_false_iff_not] at c39
          refine x_iconst C dX6_moveCost_42 ?_
          exact x_iret C E rfl (by omega) (by omega) dX6_moveCost_43 (⟨by rw [mvF_c, if_neg (by omega)], rfl⟩)

set_option maxRecDepth 100000 in
set_option maxHeartbeats 4000000 in
theorem c_bestAt {G : xG} {h : PH} {ad : Nat → Nat} {B : Nat} {Ls : Nat → List Nat} {fx ln ch : Nat → Int} {tot : Int} {cnt : Nat} {rs : Nat → Nat → Int} (hj : ∀ i j, i < 300 → j < 300 → ad i = ad j → i = j) (hB : B = 100 ∨ B = 200) (P : PR G h ad B Ls fx ln ch tot cnt rs) (V : PV fx ln ch tot cnt rs) {c : Nat} {before : Int} (hc : c ≤ 12) (hb : bd before) : Cn G m_Plan_bestAt 2 0 0 [.ref (ad B), vi (c : Int), vi before] h (fun r h' => r = some (vi (bestF Ls fx ln cnt rs c before)) ∧ h' = h) := by
  refine Cn_of (by decide) (Nat.le_of_ble_eq_true rfl) (fun K C hR E => ?_)
  have V3 := V.2.2.1
  show X G K 7 0 [some (.ref (ad B)), some (vi (c : Int)), some (vi before), none, none, none, none] [] h 0 0
  refine x_iload_n C dX6_bestAt_0 rfl rfl ?_
  refine x_aload_n C dX6_bestAt_1 rfl rfl ?_
  refine x_get C f_Plan_43 P.1 rfl dX6_bestAt_2 ?_
  refine x_icmp_lt C (tgt := 10) dX6_bestAt_5 (by decide) ⟨by omega, by omega⟩ ⟨by omega, by omega⟩ (fun c5 => ?_) (fun c5 => ?_)
  · skip
    refine x_iconst C dX6_bestAt_10 ?_
    refine x_istore_n C (ls' := [some (.ref (ad B)), some (vi (c : Int)), some (vi before), some (vi (-1)), none, none, none]) dX6_bestAt_11 rfl (by decide) rfl ?_
    refine x_iconst C dX6_bestAt_12 ?_
    refine x_istore C (ls' := [some (.ref (ad B)), some (vi (c : Int)), some (vi before), some (vi (-1)), some (vi 0), none, none]) dX6_bestAt_13 (by decide) rfl ?_
    refine x_iconst C dX6_bestAt_15 ?_
    refine x_istore C (ls' := [some (.ref (ad B)), some (vi (c : Int)), some (vi before), some (vi (-1)), some (vi 0), some (vi 0), none]) dX6_bestAt_16 (by decide) rfl ?_
    have L : ∀ (n0 : Nat) (k : Nat) (b1 : Int) (l1 : Int), (Ls c).length - k < n0 → (k ≤ (Ls c).length) → (bst (fx c) (fun g => rs c g + mvF Ls ln cnt ((c : Int) - 1) before g) k = (b1, l1)) → X G K 7 18 [some (.ref (ad B)), some (vi (c : Int)), some (vi before), some (vi b1), some (vi l1), some (vi (k : Int)), none] [] h 0 0 := by
      intro n0
      induction n0 with
      | zero => intro k b1 l1 hm; exact absurd hm (Nat.not_lt_zero _)
      | succ n0 ih_L =>
        intro k b1 l1 hm i1 i2
        have hlc0 := (P.2.2.2.2.2.2.2.1 c (by omega)).len
        refine x_iload C dX6_bestAt_18 rfl ?_
        refine x_aload_n C dX6_bestAt_20 rfl rfl ?_
        refine x_get C f_Plan_11 P.1 rfl dX6_bestAt_21 ?_
        refine x_iload_n C dX6_bestAt_24 rfl rfl ?_
        refine x_aald C (t := 5) rfl rfl P.2.1 ⟨by omega, by omega, by omega⟩ (b := (ad (B + 8 + c))) rfl dX6_bestAt_25 ?_
        refine x_get C f_Plan_60 (P.2.2.2.2.2.2.2.1 c (by omega)).obj rfl dX6_bestAt_26 ?_
        refine x_icmp_ge C (tgt := 103) dX6_bestAt_29 (by decide) ⟨by omega, by omega⟩ ⟨by omega, by omega⟩ (fun c29 => ?_) (fun c29 => ?_)
        · skip
          refine x_iload_n C dX6_bestAt_103 rfl rfl ?_
          have e0 : k = (Ls c).length := by omega
          have e1 : (bst (fx c) (fun g => rs c g + mvF Ls ln cnt ((c : Int) - 1) before g) (Ls c).length).1 = b1 := by rw [← e0, i2]
          exact x_iret C E rfl (by omega) (by omega) dX6_bestAt_104 (⟨by unfold bestF; rw [if_neg (by omega), e1], rfl⟩)
        · skip
          have hlc := (P.2.2.2.2.2.2.2.1 c (by omega)).len
          have hr1 := V.2.2.2 c k
          have hr2 := mvF_rg Ls ln cnt ((c : Int) - 1) before k
          have hr3 := bst_cost (fx := fx c) (cost := (fun g => rs c g + mvF Ls ln cnt ((c : Int) - 1) before g)) (lo := -1000000) (hi := 1000700) (by omega) (fun n => by have a1 := V.2.2.2 c n; have a2 := mvF_rg Ls ln cnt ((c : Int) - 1) before n; omega) k
          rw [i2] at hr3
          have hr4 := bst_rg (fx c) (fun g => rs c g + mvF Ls ln cnt ((c : Int) - 1) before g) k
          rw [i2] at hr4
          dsimp only at hr3 hr4
          have hfx := (V.1 c).1
          refine x_aload_n C dX6_bestAt_32 rfl rfl ?_
          refine x_get C f_Plan_17 P.1 rfl dX6_bestAt_33 ?_
          refine x_iload_n C dX6_bestAt_36 rfl rfl ?_
          refine x_iald C P.2.2.1 ⟨by omega, by omega, by omega⟩ (v := (fx c)) rfl dX6_bestAt_37 ?_
          refine x_iconst C dX6_bestAt_38 ?_
          refine x_icmp_eq C (tgt := 56) dX6_bestAt_39 (by decide) hfx (by decide) (fun c39 => ?_) (fun c39 => ?_)
          · skip
            refine x_aload_n C dX6_bestAt_56 rfl rfl ?_
            refine x_get C f_Plan_33 P.1 rfl dX6_bestAt_57 ?_
            refine x_iload_n C dX6_bestAt_60 rfl rfl ?_
            refine x_aald C (t := 3) rfl rfl P.2.2.2.2.2.1 ⟨by omega, by omega, by omega⟩ (b := (ad (B + 56 + c))) rfl dX6_bestAt_61 ?_
            refine x_iload C dX6_bestAt_62 rfl ?_
            refine x_iald C (P.2.2.2.2.2.2.2.2 c (by omega)) ⟨by omega, by omega, by omega⟩ (v := ((rs c) k)) rfl dX6_bestAt_64 ?_
            refine x_aload_n C dX6_bestAt_65 rfl rfl ?_
            refine x_iload_n C dX6_bestAt_66 rfl rfl ?_
            refine x_iconst C dX6_bestAt_67 ?_
            refine x_isub C dX6_bestAt_68 ?_
            refine x_iload_n C dX6_bestAt_69 rfl rfl ?_
            refine x_iload C dX6_bestAt_70 rfl ?_
            refine x_invV C s_Plan_126 (st := [vi ((rs c) k)]) (c_moveCost hj hB P V (c := (c : Int) - 1) (g := before) (n := (k : Int)) ⟨by omega, by omega⟩ hb ⟨by omega, by omega⟩) P.1 rfl rfl (Nat.le_of_ble_eq_true rfl) (xRm_of hR (by omega) (by decide) (by omega) (by omega)) dX6_bestAt_72 (fun r9 h9 hq => ?_)
            obtain ⟨rfl, e9⟩ := hq
            have e9 := e9.symm
            subst e9
            refine x_iadd C dX6_bestAt_75 ?_
            refine x_istore C (ls' := [some (.ref (ad B)), some (vi (c : Int)), some (vi before), some (vi b1), some (vi l1), some (vi (k : Int)), some (vi (((rs c) k) + (mvF Ls ln cnt ((c : Int) - 1) before (k : Int))))]) dX6_bestAt_76 (by decide) rfl ?_
            refine x_iload_n C dX6_bestAt_78 rfl rfl ?_
            refine x_iconst C dX6_bestAt_79 ?_
            refine x_icmp_eq C (tgt := 90) dX6_bestAt_80 (by decide) ⟨by omega, by omega⟩ (by decide) (fun c80 => ?_) (fun c80 => ?_)
            · skip
              refine x_iload C dX6_bestAt_90 rfl ?_
              refine x_istore_n C (ls' := [some (.ref (ad B)), some (vi (c : Int)), some (vi before), some (vi (k : Int)), some (vi l1), some (vi (k : Int)), some (vi (((rs c) k) + (mvF Ls ln cnt ((c : Int) - 1) before (k : Int))))]) dX6_bestAt_92 rfl (by decide) rfl ?_
              refine x_iload C dX6_bestAt_93 rfl ?_
              refine x_istore C (ls' := [some (.ref (ad B)), some (vi (c : Int)), some (vi before), some (vi (k : Int)), some (vi (((rs c) k) + (mvF Ls ln cnt ((c : Int) - 1) before (k : Int)))), some (vi (k : Int)), some (vi (((rs c) k) + (mvF Ls ln cnt ((c : Int) - 1) before (k : Int))))]) dX6_bestAt_95 (by decide) rfl ?_
              refine x_iinc C (ls' := [some (.ref (ad B)), some (vi (c : Int)), some (vi before), some (vi (k : Int)), some (vi (((rs c) k) + (mvF Ls ln cnt ((c : Int) - 1) before (k : Int)))), some (vi ((k : Int) + 1)), some (vi (((rs c) k) + (mvF Ls ln cnt ((c : Int) - 1) before (k : Int))))]) dX6_bestAt_97 rfl (by decide) (z1 := ((k : Int) + 1)) rfl rfl ?_
              refine x_goto C (tgt := 18) dX6_bestAt_100 (by decide) ?_
              refine X.sub (ls' := [some (.ref (ad B)), some (vi (c : Int)), some (vi before), some (vi (k : Int)), some (vi (((rs c) k) + (mvF Ls ln cnt ((c : Int) - 1) before (k : Int)))), some (vi ((k : Int) + 1)), none]) (sub_cons (Or.inr rfl) (sub_cons (Or.inr rfl) (sub_cons (Or.inr rfl) (sub_cons (Or.inr rfl) (sub_cons (Or.inr rfl) (sub_cons (Or.inr rfl) (sub_cons (Or.inl rfl) sub_nil))))))) ?_
              exact ih_L (k + 1) (k : Int) (((rs c) k) + (mvF Ls ln cnt ((c : Int) - 1) before (k : Int))) (by omega) (by omega) (by show bstS (fx c) (rs c k + mvF Ls ln cnt ((c : Int) - 1) before k) k (bst (fx c) (fun g => rs c g + mvF Ls ln cnt ((c : Int) - 1) before g) k) = _; rw [i2]; unfold bstS; simp_all; try omega)
            · skip
              refine x_iload C dX6_bestAt_83 rfl ?_
              refine x_iload C dX6_bestAt_85 rfl ?_
              refine x_icmp_ge C (tgt := 97) dX6_bestAt_87 (by decide) ⟨by omega, by omega⟩ ⟨by omega, by omega⟩ (fun c87 => ?_) (fun c87 => ?_)
              · skip
                refine x_iinc C (ls' := [some (.ref (ad B)), some (vi (c : Int)), some (vi before), some (vi b1), some (vi l1), some (vi ((k : Int) + 1)), some (vi (((rs c) k) + (mvF Ls ln cnt ((c : Int) - 1) before (k : Int))))]) dX6_bestAt_97 rfl (by decide) (z1 := ((k : Int) + 1)) rfl rfl ?_
                refine x_goto C (tgt := 18) dX6_bestAt_100 (by decide) ?_
                refine X.sub (ls' := [some (.ref (ad B)), some (vi (c : Int)), some (vi before), some (vi b1), some (vi l1), some (vi ((k : Int) + 1)), none]) (sub_cons (Or.inr rfl) (sub_cons (Or.inr rfl) (sub_cons (Or.inr rfl) (sub_cons (Or.inr rfl) (sub_cons (Or.inr rfl) (sub_cons (Or.inr rfl) (sub_cons (Or.inl rfl) sub_nil))))))) ?_
                exact ih_L (k + 1) b1 l1 (by omega) (by omega) (by show bstS (fx c) (rs c k + mvF Ls ln cnt ((c : Int) - 1) before k) k (bst (fx c) (fun g => rs c g + mvF Ls ln cnt ((c : Int) - 1) before g) k) = _; rw [i2]; unfold bstS; simp_all; try omega)
              · skip
                refine x_iload C dX6_bestAt_90 rfl ?_
                refine x_istore_n C (ls' := [some (.ref (ad B)), some (vi (c : Int)), some (vi before), some (vi (k : Int)), some (vi l1), some (vi (k : Int)), some (vi (((rs c) k) + (mvF Ls ln cnt ((c : Int) - 1) before (k : Int))))]) dX6_bestAt_92 rfl (by decide) rfl ?_
                refine x_iload C dX6_bestAt_93 rfl ?_
                refine x_istore C (ls' := [some (.ref (ad B)), some (vi (c : Int)), some (vi before), some (vi (k : Int)), some (vi (((rs c) k) + (mvF Ls ln cnt ((c : Int) - 1) before (k : Int)))), some (vi (k : Int)), some (vi (((rs c) k) + (mvF Ls ln cnt ((c : Int) - 1) before (k : Int))))]) dX6_bestAt_95 (by decide) rfl ?_
                refine x_iinc C (ls' := [some (.ref (ad B)), some (vi (c : Int)), some (vi before), some (vi (k : Int)), some (vi (((rs c) k) + (mvF Ls ln cnt ((c : Int) - 1) before (k : Int)))), some (vi ((k : Int) + 1)), some (vi (((rs c) k) + (mvF Ls ln cnt ((c : Int) - 1) before (k : Int))))]) dX6_bestAt_97 rfl (by decide) (z1 := ((k : Int) + 1)) rfl rfl ?_
                refine x_goto C (tgt := 18) dX6_bestAt_100 (by decide) ?_
                refine X.sub (ls' := [some (.ref (ad B)), some (vi (c : Int)), some (vi before), some (vi (k : Int)), some (vi (((rs c) k) + (mvF Ls ln cnt ((c : Int) - 1) before (k : Int)))), some (vi ((k : Int) + 1)), none]) (sub_cons (Or.inr rfl) (sub_cons (Or.inr rfl) (sub_cons (Or.inr rfl) (sub_cons (Or.inr rfl) (sub_cons (Or.inr rfl) (sub_cons (Or.inr rfl) (sub_cons (Or.inl rfl) sub_nil))))))) ?_
                exact ih_L (k + 1) (k : Int) (((rs c) k) + (mvF Ls ln cnt ((c : Int) - 1) before (k : Int))) (by omega) (by omega) (by show bstS (fx c) (rs c k + mvF Ls ln cnt ((c : Int) - 1) before k) k (bst (fx c) (fun g => rs c g + mvF Ls ln cnt ((c : Int) - 1) before g) k) = _; rw [i2]; unfold bstS; simp_all; try omega)
          · skip
            refine x_aload_n C dX6_bestAt_42 rfl rfl ?_
            refine x_get C f_Plan_17 P.1 rfl dX6_bestAt_43 ?_
            refine x_iload_n C dX6_bestAt_46 rfl rfl ?_
            refine x_iald C P.2.2.1 ⟨by omega, by omega, by omega⟩ (v := (fx c)) rfl dX6_bestAt_47 ?_
            refine x_iload C dX6_bestAt_48 rfl ?_
            refine x_icmp_eq C (tgt := 56) dX6_bestAt_50 (by decide) hfx ⟨by omega, by omega⟩ (fun c50 => ?_) (fun c50 => ?_)
            · skip
              refine x_aload_n C dX6_bestAt_56 rfl rfl ?_
              refine x_get C f_Plan_33 P.1 rfl dX6_bestAt_57 ?_
              refine x_iload_n C dX6_bestAt_60 rfl rfl ?_
              refine x_aald C (t := 3) rfl rfl P.2.2.2.2.2.1 ⟨by omega, by omega, by omega⟩ (b := (ad (B + 56 + c))) rfl dX6_bestAt_61 ?_
              refine x_iload C dX6_bestAt_62 rfl ?_
              refine x_iald C (P.2.2.2.2.2.2.2.2 c (by omega)) ⟨by omega, by omega, by omega⟩ (v := ((rs c) k)) rfl dX6_bestAt_64 ?_
              refine x_aload_n C dX6_bestAt_65 rfl rfl ?_
              refine x_iload_n C dX6_bestAt_66 rfl rfl ?_
              refine x_iconst C dX6_bestAt_67 ?_
              refine x_isub C dX6_bestAt_68 ?_
              refine x_iload_n C dX6_bestAt_69 rfl rfl ?_
              refine x_iload C dX6_bestAt_70 rfl ?_
              refine x_invV C s_Plan_126 (st := [vi ((rs c) k)]) (c_moveCost hj hB P V (c := (c : Int) - 1) (g := before) (n := (k : Int)) ⟨by omega, by omega⟩ hb ⟨by omega, by omega⟩) P.1 rfl rfl (Nat.le_of_ble_eq_true rfl) (xRm_of hR (by omega) (by decide) (by omega) (by omega)) dX6_bestAt_72 (fun r9 h9 hq => ?_)
              obtain ⟨rfl, e9⟩ := hq
              have e9 := e9.symm
              subst e9
              refine x_iadd C dX6_bestAt_75 ?_
              refine x_istore C (ls' := [some (.ref (ad B)), some (vi (c : Int)), some (vi before), some (vi b1), some (vi l1), some (vi (k : Int)), some (vi (((rs c) k) + (mvF Ls ln cnt ((c : Int) - 1) before (k : Int))))]) dX6_bestAt_76 (by decide) rfl ?_
              refine x_iload_n C dX6_bestAt_78 rfl rfl ?_
              refine x_iconst C dX6_bestAt_79 ?_
              refine x_icmp_eq C (tgt := 90) dX6_bestAt_80 (by decide) ⟨by omega, by omega⟩ (by decide) (fun c80 => ?_) (fun c80 => ?_)
              · skip
                refine x_iload C dX6_bestAt_90 rfl ?_
                refine x_istore_n C (ls' := [some (.ref (ad B)), some (vi (c : Int)), some (vi before), some (vi (k : Int)), some (vi l1), some (vi (k : Int)), some (vi (((rs c) k) + (mvF Ls ln cnt ((c : Int) - 1) before (k : Int))))]) dX6_bestAt_92 rfl (by decide) rfl ?_
                refine x_iload C dX6_bestAt_93 rfl ?_
                refine x_istore C (ls' := [some (.ref (ad B)), some (vi (c : Int)), some (vi before), some (vi (k : Int)), some (vi (((rs c) k) + (mvF Ls ln cnt ((c : Int) - 1) before (k : Int)))), some (vi (k : Int)), some (vi (((rs c) k) + (mvF Ls ln cnt ((c : Int) - 1) before (k : Int))))]) dX6_bestAt_95 (by decide) rfl ?_
                refine x_iinc C (ls' := [some (.ref (ad B)), some (vi (c : Int)), some (vi before), some (vi (k : Int)), some (vi (((rs c) k) + (mvF Ls ln cnt ((c : Int) - 1) before (k : Int)))), some (vi ((k : Int) + 1)), some (vi (((rs c) k) + (mvF Ls ln cnt ((c : Int) - 1) before (k : Int))))]) dX6_bestAt_97 rfl (by decide) (z1 := ((k : Int) + 1)) rfl rfl ?_
                refine x_goto C (tgt := 18) dX6_bestAt_100 (by decide) ?_
                refine X.sub (ls' := [some (.ref (ad B)), some (vi (c : Int)), some (vi before), some (vi (k : Int)), some (vi (((rs c) k) + (mvF Ls ln cnt ((c : Int) - 1) before (k : Int)))), some (vi ((k : Int) + 1)), none]) (sub_cons (Or.inr rfl) (sub_cons (Or.inr rfl) (sub_cons (Or.inr rfl) (sub_cons (Or.inr rfl) (sub_cons (Or.inr rfl) (sub_cons (Or.inr rfl) (sub_cons (Or.inl rfl) sub_nil))))))) ?_
                exact ih_L (k + 1) (k : Int) (((rs c) k) + (mvF Ls ln cnt ((c : Int) - 1) before (k : Int))) (by omega) (by omega) (by show bstS (fx c) (rs c k + mvF Ls ln cnt ((c : Int) - 1) before k) k (bst (fx c) (fun g => rs c g + mvF Ls ln cnt ((c : Int) - 1) before g) k) = _; rw [i2]; unfold bstS; simp_all; try omega)
              · skip
                refine x_iload C dX6_bestAt_83 rfl ?_
                refine x_iload C dX6_bestAt_85 rfl ?_
                refine x_icmp_ge C (tgt := 97) dX6_bestAt_87 (by decide) ⟨by omega, by omega⟩ ⟨by omega, by omega⟩ (fun c87 => ?_) (fun c87 => ?_)
                · skip
                  refine x_iinc C (ls' := [some (.ref (ad B)), some (vi (c : Int)), some (vi before), some (vi b1), some (vi l1), some (vi ((k : Int) + 1)), some (vi (((rs c) k) + (mvF Ls ln cnt ((c : Int) - 1) before (k : Int))))]) dX6_bestAt_97 rfl (by decide) (z1 := ((k : Int) + 1)) rfl rfl ?_
                  refine x_goto C (tgt := 18) dX6_bestAt_100 (by decide) ?_
                  refine X.sub (ls' := [some (.ref (ad B)), some (vi (c : Int)), some (vi before), some (vi b1), some (vi l1), some (vi ((k : Int) + 1)), none]) (sub_cons (Or.inr rfl) (sub_cons (Or.inr rfl) (sub_cons (Or.inr rfl) (sub_cons (Or.inr rfl) (sub_cons (Or.inr rfl) (sub_cons (Or.inr rfl) (sub_cons (Or.inl rfl) sub_nil))))))) ?_
                  exact ih_L (k + 1) b1 l1 (by omega) (by omega) (by show bstS (fx c) (rs c k + mvF Ls ln cnt ((c : Int) - 1) before k) k (bst (fx c) (fun g => rs c g + mvF Ls ln cnt ((c : Int) - 1) before g) k) = _; rw [i2]; unfold bstS; simp_all; try omega)
                · skip
                  refine x_iload C dX6_bestAt_90 rfl ?_
                  refine x_istore_n C (ls' := [some (.ref (ad B)), some (vi (c : Int)), some (vi before), some (vi (k : Int)), some (vi l1), some (vi (k : Int)), some (vi (((rs c) k) + (mvF Ls ln cnt ((c : Int) - 1) before (k : Int))))]) dX6_bestAt_92 rfl (by decide) rfl ?_
                  refine x_iload C dX6_bestAt_93 rfl ?_
                  refine x_istore C (ls' := [some (.ref (ad B)), some (vi (c : Int)), some (vi before), some (vi (k : Int)), some (vi (((rs c) k) + (mvF Ls ln cnt ((c : Int) - 1) before (k : Int)))), some (vi (k : Int)), some (vi (((rs c) k) + (mvF Ls ln cnt ((c : Int) - 1) before (k : Int))))]) dX6_bestAt_95 (by decide) rfl ?_
                  refine x_iinc C (ls' := [some (.ref (ad B)), some (vi (c : Int)), some (vi before), some (vi (k : Int)), some (vi (((rs c) k) + (mvF Ls ln cnt ((c : Int) - 1) before (k : Int)))), some (vi ((k : Int) + 1)), some (vi (((rs c) k) + (mvF Ls ln cnt ((c : Int) - 1) before (k : Int))))]) dX6_bestAt_97 rfl (by decide) (z1 := ((k : Int) + 1)) rfl rfl ?_
                  refine x_goto C (tgt := 18) dX6_bestAt_100 (by decide) ?_
                  refine X.sub (ls' := [some (.ref (ad B)), some (vi (c : Int)), some (vi before), some (vi (k : Int)), some (vi (((rs c) k) + (mvF Ls ln cnt ((c : Int) - 1) before (k : Int)))), some (vi ((k : Int) + 1)), none]) (sub_cons (Or.inr rfl) (sub_cons (Or.inr rfl) (sub_cons (Or.inr rfl) (sub_cons (Or.inr rfl) (sub_cons (Or.inr rfl) (sub_cons (Or.inr rfl) (sub_cons (Or.inl rfl) sub_nil))))))) ?_
                  exact ih_L (k + 1) (k : Int) (((rs c) k) + (mvF Ls ln cnt ((c : Int) - 1) before (k : Int))) (by omega) (by omega) (by show bstS (fx c) (rs c k + mvF Ls ln cnt ((c : Int) - 1) before k) k (bst (fx c) (fun g => rs c g + mvF Ls ln cnt ((c : Int) - 1) before g) k) = _; rw [i2]; unfold bstS; simp_all; try omega)
            · skip
              refine x_goto C (tgt := 97) dX6_bestAt_53 (by decide) ?_
              refine x_iinc C (ls' := [some (.ref (ad B)), some (vi (c : Int)), some (vi before), some (vi b1), some (vi l1), some (vi ((k : Int) + 1)), none]) dX6_bestAt_97 rfl (by decide) (z1 := ((k : Int) + 1)) rfl rfl ?_
              refine x_goto C (tgt := 18) dX6_bestAt_100 (by decide) ?_
              exact ih_L (k + 1) b1 l1 (by omega) (by omega) (by show bstS (fx c) (rs c k + mvF Ls ln cnt ((c : Int) - 1) before k) k (bst (fx c) (fun g => rs c g + mvF Ls ln cnt ((c : Int) - 1) before g) k) = _; rw [i2]; unfold bstS; simp_all; try omega)
    exact L _ 0 (-1) 0 (Nat.lt_succ_self _) (Nat.zero_le _) (rfl)
  · skip
    refine x_iconst C dX6_bestAt_8 ?_
    exact x_iret C E rfl (by omega) (by omega) dX6_bestAt_9 (⟨by unfold bestF; rw [if_pos (by omega)], rfl⟩)

/-- the moves of a plan, the hardest one -/
def smF (Ls : Nat → List Nat) (ln ch : Nat → Int) (cnt : Nat) : Nat → Int
  | 0 => 0
  | n + 1 => smF Ls ln ch cnt n + mvF Ls ln cnt (n : Int) (ch n) (ch (n + 1))
def hdS (c n : Int) (p : Int × Int) : Int × Int := if p.2 < c then (n, c) else p
def hdF (Ls : Nat → List Nat) (ln ch : Nat → Int) (cnt : Nat) : Nat → Int × Int
  | 0 => (-1, -1)
  | n + 1 => hdS (mvF Ls ln cnt (n : Int) (ch n) (ch (n + 1))) (n : Int) (hdF Ls ln ch cnt n)
theorem hdF_rg (Ls : Nat → List Nat) (ln ch : Nat → Int) (cnt : Nat) : ∀ n, -1 ≤ (hdF Ls ln ch cnt n).2 ∧ (hdF Ls ln ch cnt n).2 ≤ 700
  | 0 => by simp [hdF]
  | n + 1 => by
    have h := hdF_rg Ls ln ch cnt n
    have h2 := mvF_rg Ls ln cnt (n : Int) (ch n) (ch (n + 1))
    unfold hdF hdS
    split
    · dsimp only; omega
    · exact h

set_option maxRecDepth 100000 in
set_option maxHeartbeats 4000000 in
theorem c_sumOfMoves {G : xG} {h : PH} {ad : Nat → Nat} {B : Nat} {Ls : Nat → List Nat} {fx ln ch : Nat → Int} {tot : Int} {cnt : Nat} {rs : Nat → Nat → Int} (hj : ∀ i j, i < 300 → j < 300 → ad i = ad j → i = j) (hB : B = 100 ∨ B = 200) (P : PR G h ad B Ls fx ln ch tot cnt rs) (V : PV fx ln ch tot cnt rs) : Cn G m_Plan_sumOfMoves 2 0 0 [.ref (ad B)] h (fun r h' => r = some (vi (if tot = -1 then -1 else smF Ls ln ch cnt (cnt - 1))) ∧ h' = h) := by
  refine Cn_of (by decide) (Nat.le_of_ble_eq_true rfl) (fun K C hR E => ?_)
  have V3 := V.2.2.1
  show X G K 3 0 [some (.ref (ad B)), none, none] [] h 0 0
  refine x_aload_n C dX6_sumOfMoves_0 rfl rfl ?_
  refine x_get C f_Plan_24 P.1 rfl dX6_sumOfMoves_1 ?_
  refine x_iconst C dX6_sumOfMoves_4 ?_
  refine x_icmp_ne C (tgt := 10) dX6_sumOfMoves_5 (by decide) V.2.1 (by decide) (fun c5 => ?_) (fun c5 => ?_)
  · skip
    refine x_iconst C dX6_sumOfMoves_10 ?_
    refine x_istore_n C (ls' := [some (.ref (ad B)), some (vi 0), none]) dX6_sumOfMoves_11 rfl (by decide) rfl ?_
    refine x_iconst C dX6_sumOfMoves_12 ?_
    refine x_istore_n C (ls' := [some (.ref (ad B)), some (vi 0), some (vi 0)]) dX6_sumOfMoves_13 rfl (by decide) rfl ?_
    have L : ∀ (n0 : Nat) (k : Nat) (p1 : Int), cnt - k < n0 → (k ≤ cnt - 1) → (smF Ls ln ch cnt k = p1) → X G K 3 14 [some (.ref (ad B)), some (vi p1), some (vi (k : Int))] [] h 0 0 := by
      intro n0
      induction n0 with
      | zero => intro k p1 hm; exact absurd hm (Nat.not_lt_zero _)
      | succ n0 ih_L =>
        intro k p1 hm i1 i2
        refine x_iload_n C dX6_sumOfMoves_14 rfl rfl ?_
        refine x_iconst C dX6_sumOfMoves_15 ?_
        refine x_iadd C dX6_sumOfMoves_16 ?_
        refine x_aload_n C dX6_sumOfMoves_17 rfl rfl ?_
        refine x_get C f_Plan_43 P.1 rfl dX6_sumOfMoves_18 ?_
        refine x_icmp_ge C (tgt := 52) dX6_sumOfMoves_21 (by decide) ⟨by omega, by omega⟩ ⟨by omega, by omega⟩ (fun c21 => ?_) (fun c21 => ?_)
        · skip
          refine x_iload_n C dX6_sumOfMoves_52 rfl rfl ?_
          have e0 : k = cnt - 1 := by omega
          exact x_iret C E rfl (by omega) (by omega) dX6_sumOfMoves_53 (⟨by rw [if_neg c5, ← e0, i2], rfl⟩)
        · skip
          refine x_iload_n C dX6_sumOfMoves_24 rfl rfl ?_
          refine x_aload_n C dX6_sumOfMoves_25 rfl rfl ?_
          refine x_iload_n C dX6_sumOfMoves_26 rfl rfl ?_
          refine x_aload_n C dX6_sumOfMoves_27 rfl rfl ?_
          refine x_get C f_Plan_21 P.1 rfl dX6_sumOfMoves_28 ?_
          refine x_iload_n C dX6_sumOfMoves_31 rfl rfl ?_
          refine x_iald C P.2.2.2.1 ⟨by omega, by omega, by omega⟩ (v := (ch k)) rfl dX6_sumOfMoves_32 ?_
          refine x_aload_n C dX6_sumOfMoves_33 rfl rfl ?_
          refine x_get C f_Plan_21 P.1 rfl dX6_sumOfMoves_34 ?_
          refine x_iload_n C dX6_sumOfMoves_37 rfl rfl ?_
          refine x_iconst C dX6_sumOfMoves_38 ?_
          refine x_iadd C dX6_sumOfMoves_39 ?_
          refine x_iald C P.2.2.2.1 ⟨by omega, by omega, by omega⟩ (v := (ch (k + 1))) rfl dX6_sumOfMoves_40 ?_
          refine x_invV C s_Plan_126 (st := [vi p1]) (c_moveCost hj hB P V (c := (k : Int)) (g := ch k) (n := ch (k + 1)) ⟨by omega, by omega⟩ (V.1 k).2.2 (V.1 (k + 1)).2.2) P.1 rfl rfl (Nat.le_of_ble_eq_true rfl) (xRm_of hR (by omega) (by decide) (by omega) (by omega)) dX6_sumOfMoves_41 (fun r9 h9 hq => ?_)
          obtain ⟨rfl, e9⟩ := hq
          have e9 := e9.symm
          subst e9
          refine x_iadd C dX6_sumOfMoves_44 ?_
          refine x_istore_n C (ls' := [some (.ref (ad B)), some (vi (p1 + (mvF Ls ln cnt (k : Int) (ch k) (ch (k + 1))))), some (vi (k : Int))]) dX6_sumOfMoves_45 rfl (by decide) rfl ?_
          refine x_iinc C (ls' := [some (.ref (ad B)), some (vi (p1 + (mvF Ls ln cnt (k : Int) (ch k) (ch (k + 1))))), some (vi ((k : Int) + 1))]) dX6_sumOfMoves_46 rfl (by decide) (z1 := ((k : Int) + 1)) rfl rfl ?_
          refine x_goto C (tgt := 14) dX6_sumOfMoves_49 (by decide) ?_
          exact ih_L (k + 1) (p1 + (mvF Ls ln cnt (k : Int) (ch k) (ch (k + 1)))) (by omega) (by omega) (by show _ + _ = _; rw [i2])
    exact L _ 0 0 (Nat.lt_succ_self _) (by omega) (rfl)
  · skip
    refine x_iconst C dX6_sumOfMoves_8 ?_
    exact x_iret C E rfl (by omega) (by omega) dX6_sumOfMoves_9 (⟨by rw [if_pos c5], rfl⟩)

set_option maxRecDepth 100000 in
set_option maxHeartbeats 4000000 in
theorem c_hardestMove {G : xG} {h : PH} {ad : Nat → Nat} {B : Nat} {Ls : Nat → List Nat} {fx ln ch : Nat → Int} {tot : Int} {cnt : Nat} {rs : Nat → Nat → Int} (hj : ∀ i j, i < 300 → j < 300 → ad i = ad j → i = j) (hB : B = 100 ∨ B = 200) (P : PR G h ad B Ls fx ln ch tot cnt rs) (V : PV fx ln ch tot cnt rs) : Cn G m_Plan_hardestMove 2 0 0 [.ref (ad B)] h (fun r h' => r = some (vi (if tot = -1 then -1 else (hdF Ls ln ch cnt (cnt - 1)).1)) ∧ h' = h) := by
  refine Cn_of (by decide) (Nat.le_of_ble_eq_true rfl) (fun K C hR E => ?_)
  have V3 := V.2.2.1
  show X G K 5 0 [some (.ref (ad B)), none, none, none, none] [] h 0 0
  refine x_aload_n C dX6_hardestMove_0 rfl rfl ?_
  refine x_get C f_Plan_24 P.1 rfl dX6_hardestMove_1 ?_
  refine x_iconst C dX6_hardestMove_4 ?_
  refine x_icmp_ne C (tgt := 10) dX6_hardestMove_5 (by decide) V.2.1 (by decide) (fun c5 => ?_) (fun c5 => ?_)
  · skip
    refine x_iconst C dX6_hardestMove_10 ?_
    refine x_istore_n C (ls' := [some (.ref (ad B)), some (vi (-1)), none, none, none]) dX6_hardestMove_11 rfl (by decide) rfl ?_
    refine x_iconst C dX6_hardestMove_12 ?_
    refine x_istore_n C (ls' := [some (.ref (ad B)), some (vi (-1)), some (vi (-1)), none, none]) dX6_hardestMove_13 rfl (by decide) rfl ?_
    refine x_iconst C dX6_hardestMove_14 ?_
    refine x_istore_n C (ls' := [some (.ref (ad B)), some (vi (-1)), some (vi (-1)), some (vi 0), none]) dX6_hardestMove_15 rfl (by decide) rfl ?_
    have L : ∀ (n0 : Nat) (k : Nat) (p1 : Int) (p2 : Int), cnt - k < n0 → (k ≤ cnt - 1) → (hdF Ls ln ch cnt k = (p1, p2)) → X G K 5 16 [some (.ref (ad B)), some (vi p1), some (vi p2), some (vi (k : Int)), none] [] h 0 0 := by
      intro n0
      induction n0 with
      | zero => intro k p1 p2 hm; exact absurd hm (Nat.not_lt_zero _)
      | succ n0 ih_L =>
        intro k p1 p2 hm i1 i2
        refine x_iload_n C dX6_hardestMove_16 rfl rfl ?_
        refine x_iconst C dX6_hardestMove_17 ?_
        refine x_iadd C dX6_hardestMove_18 ?_
        refine x_aload_n C dX6_hardestMove_19 rfl rfl ?_
        refine x_get C f_Plan_43 P.1 rfl dX6_hardestMove_20 ?_
        refine x_icmp_ge C (tgt := 64) dX6_hardestMove_23 (by decide) ⟨by omega, by omega⟩ ⟨by omega, by omega⟩ (fun c23 => ?_) (fun c23 => ?_)
        · skip
          refine x_iload_n C dX6_hardestMove_64 rfl rfl ?_
          have e0 : k = cnt - 1 := by omega
          exact x_iret C E rfl (by omega) (by omega) dX6_hardestMove_65 (⟨by rw [if_neg c5, ← e0, i2], rfl⟩)
        · skip
          have hr := hdF_rg Ls ln ch cnt k
          rw [i2] at hr
          dsimp only at hr
          have hr2 := mvF_rg Ls ln cnt (k : Int) (ch k) (ch (k + 1))
          refine x_aload_n C dX6_hardestMove_26 rfl rfl ?_
          refine x_iload_n C dX6_hardestMove_27 rfl rfl ?_
          refine x_aload_n C dX6_hardestMove_28 rfl rfl ?_
          refine x_get C f_Plan_21 P.1 rfl dX6_hardestMove_29 ?_
          refine x_iload_n C dX6_hardestMove_32 rfl rfl ?_
          refine x_iald C P.2.2.2.1 ⟨by omega, by omega, by omega⟩ (v := (ch k)) rfl dX6_hardestMove_33 ?_
          refine x_aload_n C dX6_hardestMove_34 rfl rfl ?_
          refine x_get C f_Plan_21 P.1 rfl dX6_hardestMove_35 ?_
          refine x_iload_n C dX6_hardestMove_38 rfl rfl ?_
          refine x_iconst C dX6_hardestMove_39 ?_
          refine x_iadd C dX6_hardestMove_40 ?_
          refine x_iald C P.2.2.2.1 ⟨by omega, by omega, by omega⟩ (v := (ch (k + 1))) rfl dX6_hardestMove_41 ?_
          refine x_invV C s_Plan_126 (st := []) (c_moveCost hj hB P V (c := (k : Int)) (g := ch k) (n := ch (k + 1)) ⟨by omega, by omega⟩ (V.1 k).2.2 (V.1 (k + 1)).2.2) P.1 rfl rfl (Nat.le_of_ble_eq_true rfl) (xRm_of hR (by omega) (by decide) (by omega) (by omega)) dX6_hardestMove_42 (fun r9 h9 hq => ?_)
          obtain ⟨rfl, e9⟩ := hq
          have e9 := e9.symm
          subst e9
          refine x_istore C (ls' := [some (.ref (ad B)), some (vi p1), some (vi p2), some (vi (k : Int)), some (vi (mvF Ls ln cnt (k : Int) (ch k) (ch (k + 1))))]) dX6_hardestMove_45 (by decide) rfl ?_
          refine x_iload C dX6_hardestMove_47 rfl ?_
          refine x_iload_n C dX6_hardestMove_49 rfl rfl ?_
          refine x_icmp_le C (tgt := 58) dX6_hardestMove_50 (by decide) ⟨by omega, by omega⟩ ⟨by omega, by omega⟩ (fun c50 => ?_) (fun c50 => ?_)
          · skip
            refine x_iinc C (ls' := [some (.ref (ad B)), some (vi p1), some (vi p2), some (vi ((k : Int) + 1)), some (vi (mvF Ls ln cnt (k : Int) (ch k) (ch (k + 1))))]) dX6_hardestMove_58 rfl (by decide) (z1 := ((k : Int) + 1)) rfl rfl ?_
            refine x_goto C (tgt := 16) dX6_hardestMove_61 (by decide) ?_
            refine X.sub (ls' := [some (.ref (ad B)), some (vi p1), some (vi p2), some (vi ((k : Int) + 1)), none]) (sub_cons (Or.inr rfl) (sub_cons (Or.inr rfl) (sub_cons (Or.inr rfl) (sub_cons (Or.inr rfl) (sub_cons (Or.inl rfl) sub_nil))))) ?_
            exact ih_L (k + 1) p1 p2 (by omega) (by omega) (by show hdS _ _ _ = _; rw [i2]; unfold hdS; first | exact if_pos c50 | exact if_neg (by omega))
          · skip
            refine x_iload_n C dX6_hardestMove_53 rfl rfl ?_
            refine x_istore_n C (ls' := [some (.ref (ad B)), some (vi (k : Int)), some (vi p2), some (vi (k : Int)), some (vi (mvF Ls ln cnt (k : Int) (ch k) (ch (k + 1))))]) dX6_hardestMove_54 rfl (by decide) rfl ?_
            refine x_iload C dX6_hardestMove_55 rfl ?_
            refine x_istore_n C (ls' := [some (.ref (ad B)), some (vi (k : Int)), some (vi (mvF Ls ln cnt (k : Int) (ch k) (ch (k + 1)))), some (vi (k : Int)), some (vi (mvF Ls ln cnt (k : Int) (ch k) (ch (k + 1))))]) dX6_hardestMove_57 rfl (by decide) rfl ?_
            refine x_iinc C (ls' := [some (.ref (ad B)), some (vi (k : Int)), some (vi (mvF Ls ln cnt (k : Int) (ch k) (ch (k + 1)))), some (vi ((k : Int) + 1)), some (vi (mvF Ls ln cnt (k : Int) (ch k) (ch (k + 1))))]) dX6_hardestMove_58 rfl (by decide) (z1 := ((k : Int) + 1)) rfl rfl ?_
            refine x_goto C (tgt := 16) dX6_hardestMove_61 (by decide) ?_
            refine X.sub (ls' := [some (.ref (ad B)), some (vi (k : Int)), some (vi (mvF Ls ln cnt (k : Int) (ch k) (ch (k + 1)))), some (vi ((k : Int) + 1)), none]) (sub_cons (Or.inr rfl) (sub_cons (Or.inr rfl) (sub_cons (Or.inr rfl) (sub_cons (Or.inr rfl) (sub_cons (Or.inl rfl) sub_nil))))) ?_
            exact ih_L (k + 1) (k : Int) (mvF Ls ln cnt (k : Int) (ch k) (ch (k + 1))) (by omega) (by omega) (by show hdS _ _ _ = _; rw [i2]; unfold hdS; first | exact if_pos c50 | exact if_neg (by omega))
    exact L _ 0 (-1) (-1) (Nat.lt_succ_self _) (by omega) (rfl)
  · skip
    refine x_iconst C dX6_hardestMove_8 ?_
    exact x_iret C E rfl (by omega) (by omega) dX6_hardestMove_9 (⟨by rw [if_pos c5], rfl⟩)
