/-! Grips, Chord, Instrument. -/
/-- the place of a grip among n: behind the last one that isn't greater -/
def apos (ge gb : Nat → Int) (ef cd : Int) : Nat → Nat
  | 0 => 0
  | n + 1 => if ef < ge n ∨ ef = ge n ∧ cd < gb n then apos ge gb ef cd n else n + 1
theorem apos_le (ge gb : Nat → Int) (ef cd : Int) : ∀ n, apos ge gb ef cd n ≤ n
  | 0 => Nat.le_refl _
  | n + 1 => by
    unfold apos
    split
    · exact Nat.le_succ_of_le (apos_le ge gb ef cd n)
    · exact Nat.le_refl _
def insA (g : Nat → Int) (p n : Nat) (x : Int) : Nat → Int := fun j => if j < p then g j else if j = p then x else if j < n then g (j - 1) else g j
def iA (p cnt : Nat) (x : Int) (g : Nat → Int) : Nat → Int := if p < 30 then insA g p (min (cnt + 1) 30) x else g
def iN (p cnt : Nat) : Nat := if p < 30 then min (cnt + 1) 30 else cnt
theorem shL {g g1 : Nat → Int} {t n : Nat} (hi : ∀ j, g1 j = if t < j ∧ j < n then g (j - 1) else g j) (h0 : 0 < t) (h1 : t < n) : ∀ j, va_up g1 t (g1 (t - 1)) j = if t - 1 < j ∧ j < n then g (j - 1) else g j := by
  intro j
  by_cases q : j = t
  · subst q
    rw [up_s, hi (j - 1), if_neg (by omega), if_pos (by omega)]
  · rw [up_n q, hi j]
    by_cases c : t < j ∧ j < n
    · rw [if_pos c, if_pos (by omega)]
    · rw [if_neg c, if_neg (by omega)]
theorem shE {g g1 : Nat → Int} {t n : Nat} {x : Int} (hi : ∀ j, g1 j = if t < j ∧ j < n then g (j - 1) else g j) : va_up g1 t x = insA g t n x := by
  funext j
  unfold insA
  by_cases q : j = t
  · subst q
    rw [up_s, if_neg (Nat.lt_irrefl _), if_pos rfl]
  · rw [up_n q, hi j]
    by_cases c : j < t
    · rw [if_neg (by omega), if_pos c]
    · rw [if_neg c, if_neg q]
      by_cases d : j < n
      · rw [if_pos (by omega), if_pos d]
      · rw [if_neg (by omega), if_neg d]
/-- the number of a code among n, -1 without it -/
def nOf (g : Nat → Int) (cd : Int) (n : Nat) : Nat → Int
  | 0 => -1
  | m + 1 => if g (n - (m + 1)) = cd then ((n - (m + 1) : Nat) : Int) else nOf g cd n m
theorem nOf_s (g : Nat → Int) (cd : Int) (n m : Nat) : nOf g cd n (m + 1) = if g (n - (m + 1)) = cd then ((n - (m + 1) : Nat) : Int) else nOf g cd n m := rfl
theorem apos_s (ge gb : Nat → Int) (ef cd : Int) (n : Nat) : apos ge gb ef cd (n + 1) = if ef < ge n ∨ ef = ge n ∧ cd < gb n then apos ge gb ef cd n else n + 1 := rfl
abbrev num (g : Nat → Int) (cd : Int) (n : Nat) : Int := nOf g cd n n

set_option maxRecDepth 100000 in
set_option maxHeartbeats 4000000 in
theorem c_Grips_init {G : xG} {h : PH} {a : Nat} (hA : h a = xO 1 [.null, .null, .null, vi 0]) : Cn G m_Grips_init 1 3 90 [.ref a] h (fun r h' => r = none ∧ ∃ b e l, h b = none ∧ h e = none ∧ h l = none ∧ b ≠ e ∧ b ≠ l ∧ e ≠ l ∧ h' = va_up (va_up (va_up (va_up h a (xO 1 [.ref b, .ref e, .ref l, vi 0])) b (xI G 30 (fun _ => 0))) e (xI G 30 (fun _ => 0))) l (xI G 30 (fun _ => 0))) := by
  refine Cn_of (by decide) (Nat.le_of_ble_eq_true rfl) (fun K C hR E => ?_)
  show X G K 1 0 [some (.ref a)] [] h 0 0
  refine X.heq (up_self hA).symm ?_
  refine x_aload_n C dX2_init_0 rfl rfl ?_
  refine x_objI C s_Grips_3 o_inst o_code (Nat.le_of_ble_eq_true rfl) hR (by omega) dX2_init_1 ?_
  refine x_aload_n C dX2_init_4 rfl rfl ?_
  refine x_bipush C (z := 30) dX2_init_5 (by decide) ?_
  refine x_newI C (n := 30) ⟨by omega, by omega⟩ arrayClass_int hR (by omega) (by omega) dX2_init_7 (fun b zb => ?_)
  have ne_a_b : a ≠ b := fun e => by rw [← e] at zb; exact absurd (zb.symm.trans up_s) (by intro h9; cases h9)
  refine x_putF C p_Grips_9 E.2.1 ((up_n ne_a_b).trans up_s) (fit_arr _ _) (Nat.le_of_ble_eq_true rfl) (h1 := (va_up (va_up h a (xO 1 [.ref b, .null, .null, vi 0])) b (xI G 30 (fun _ => 0)))) ((up_c _ _ _ (Ne.symm ne_a_b)).trans (congrArg (fun f => va_up f b _) (up_u _ _ _ _))) dX2_init_9 ?_
  refine x_aload_n C dX2_init_12 rfl rfl ?_
  refine x_bipush C (z := 30) dX2_init_13 (by decide) ?_
  refine x_newI C (n := 30) ⟨by omega, by omega⟩ arrayClass_int hR (by omega) (by omega) dX2_init_15 (fun e ze => ?_)
  have ne_a_e : a ≠ e := fun e => by rw [← e] at ze; exact absurd (ze.symm.trans ((up_n ne_a_b).trans up_s)) (by intro h9; cases h9)
  have ne_b_e : b ≠ e := fun e => by rw [← e] at ze; exact absurd (ze.symm.trans up_s) (by intro h9; cases h9)
  refine x_putF C p_Grips_15 E.2.1 ((up_n ne_a_e).trans ((up_n ne_a_b).trans up_s)) (fit_arr _ _) (Nat.le_of_ble_eq_true rfl) (h1 := (va_up (va_up (va_up h a (xO 1 [.ref b, .ref e, .null, vi 0])) b (xI G 30 (fun _ => 0))) e (xI G 30 (fun _ => 0)))) ((up_c _ _ _ (Ne.symm ne_a_e)).trans (congrArg (fun f => va_up f e _) ((up_c _ _ _ (Ne.symm ne_a_b)).trans (congrArg (fun f => va_up f b _) (up_u _ _ _ _))))) dX2_init_17 ?_
  refine x_aload_n C dX2_init_20 rfl rfl ?_
  refine x_bipush C (z := 30) dX2_init_21 (by decide) ?_
  refine x_newI C (n := 30) ⟨by omega, by omega⟩ arrayClass_int hR (by omega) (by omega) dX2_init_23 (fun l zl => ?_)
  have ne_a_l : a ≠ l := fun e => by rw [← e] at zl; exact absurd (zl.symm.trans ((up_n ne_a_e).trans ((up_n ne_a_b).trans up_s))) (by intro h9; cases h9)
  have ne_b_l : b ≠ l := fun e => by rw [← e] at zl; exact absurd (zl.symm.trans ((up_n ne_b_e).trans up_s)) (by intro h9; cases h9)
  have ne_e_l : e ≠ l := fun e => by rw [← e] at zl; exact absurd (zl.symm.trans up_s) (by intro h9; cases h9)
  refine x_putF C p_Grips_18 E.2.1 ((up_n ne_a_l).trans ((up_n ne_a_e).trans ((up_n ne_a_b).trans up_s))) (fit_arr _ _) (Nat.le_of_ble_eq_true rfl) (h1 := (va_up (va_up (va_up (va_up h a (xO 1 [.ref b, .ref e, .ref l, vi 0])) b (xI G 30 (fun _ => 0))) e (xI G 30 (fun _ => 0))) l (xI G 30 (fun _ => 0)))) ((up_c _ _ _ (Ne.symm ne_a_l)).trans (congrArg (fun f => va_up f l _) ((up_c _ _ _ (Ne.symm ne_a_e)).trans (congrArg (fun f => va_up f e _) ((up_c _ _ _ (Ne.symm ne_a_b)).trans (congrArg (fun f => va_up f b _) (up_u _ _ _ _))))))) dX2_init_25 ?_
  refine x_aload_n C dX2_init_28 rfl rfl ?_
  refine x_iconst C dX2_init_29 ?_
  refine x_put C p_Grips_21 ((up_n ne_a_l).trans ((up_n ne_a_e).trans ((up_n ne_a_b).trans up_s))) (fit_int _) (Nat.le_of_ble_eq_true rfl) (h1 := (va_up (va_up (va_up (va_up h a (xO 1 [.ref b, .ref e, .ref l, vi 0])) b (xI G 30 (fun _ => 0))) e (xI G 30 (fun _ => 0))) l (xI G 30 (fun _ => 0)))) ((up_c _ _ _ (Ne.symm ne_a_l)).trans (congrArg (fun f => va_up f l _) ((up_c _ _ _ (Ne.symm ne_a_e)).trans (congrArg (fun f => va_up f e _) ((up_c _ _ _ (Ne.symm ne_a_b)).trans (congrArg (fun f => va_up f b _) (up_u _ _ _ _))))))) dX2_init_30 ?_
  have fb : h b = none := by rw [← zb]; exact (up_n (Ne.symm ne_a_b)).symm
  have fe : h e = none := by rw [← ze]; exact ((up_n (Ne.symm ne_b_e)).trans (up_n (Ne.symm ne_a_e))).symm
  have fl : h l = none := by rw [← zl]; exact ((up_n (Ne.symm ne_e_l)).trans ((up_n (Ne.symm ne_b_l)).trans (up_n (Ne.symm ne_a_l)))).symm
  exact x_vret C E rfl (by omega) (by omega) dX2_init_33 (⟨rfl, b, e, l, fb, fe, fl, ne_b_e, ne_b_l, ne_e_l, rfl⟩)

set_option maxRecDepth 100000 in
set_option maxHeartbeats 4000000 in
theorem c_Grips_has {G : xG} {h : PH} {a b e l cnt : Nat} (hA : h a = xO 1 [.ref b, .ref e, .ref l, vi (cnt : Int)]) (h1 : cnt ≤ 30) {z : Int} (hz : bd z) : Cn G m_Grips_has 0 0 0 [.ref a, vi z] h (fun r h' => r = some (vi (b2i (decide (0 ≤ z ∧ z < (cnt : Int))))) ∧ h' = h) := by
  refine Cn_of (by decide) (Nat.le_of_ble_eq_true rfl) (fun K C hR E => ?_)
  show X G K 2 0 [some (.ref a), some (vi z)] [] h 0 0
  refine x_iload_n C dX2_has_0 rfl rfl ?_
  refine x_if_lt C (tgt := 22) dX2_has_1 (by decide) ⟨by omega, by omega⟩ (fun c1 => ?_) (fun c1 => ?_)
  · skip
    refine x_iconst C dX2_has_22 ?_
    exact x_zret C E rfl (by omega) (by omega) (z := false) dX2_has_23 (⟨by rw [show decide (0 ≤ z ∧ z < (cnt : Int)) = false by simp; try omega], rfl⟩)
  · skip
    refine x_iload_n C dX2_has_4 rfl rfl ?_
    refine x_aload_n C dX2_has_5 rfl rfl ?_
    refine x_get C f_Grips_21 hA rfl dX2_has_6 ?_
    refine x_icmp_ge C (tgt := 22) dX2_has_9 (by decide) ⟨by omega, by omega⟩ ⟨by omega, by omega⟩ (fun c9 => ?_) (fun c9 => ?_)
    · skip
      refine x_iconst C dX2_has_22 ?_
      exact x_zret C E rfl (by omega) (by omega) (z := false) dX2_has_23 (⟨by rw [show decide (0 ≤ z ∧ z < (cnt : Int)) = false by simp; try omega], rfl⟩)
    · skip
      refine x_iload_n C dX2_has_12 rfl rfl ?_
      refine x_bipush C (z := 30) dX2_has_13 (by decide) ?_
      refine x_icmp_ge C (tgt := 22) dX2_has_15 (by decide) ⟨by omega, by omega⟩ (by decide) (fun c15 => ?_) (fun c15 => ?_)
      · skip
        exfalso; omega
      · skip
        refine x_iconst C dX2_has_18 ?_
        refine x_goto C (tgt := 23) dX2_has_19 (by decide) ?_
        exact x_zret C E rfl (by omega) (by omega) (z := true) dX2_has_23 (⟨by rw [show decide (0 ≤ z ∧ z < (cnt : Int)) = true by simp; try omega], rfl⟩)

set_option maxRecDepth 100000 in
set_option maxHeartbeats 4000000 in
theorem c_Grips_numberOf {G : xG} {h : PH} {a b e l cnt : Nat} {gb : Nat → Int} (hA : h a = xO 1 [.ref b, .ref e, .ref l, vi (cnt : Int)]) (h1 : cnt ≤ 30) (hB : h b = xI G 30 gb) (hg : ∀ j : Nat, j < 30 → bd (gb j)) {cd : Int} (h2 : bd cd) : Cn G m_Grips_numberOf 0 0 0 [.ref a, vi cd] h (fun r h' => r = some (vi (num gb cd cnt)) ∧ h' = h) := by
  refine Cn_of (by decide) (Nat.le_of_ble_eq_true rfl) (fun K C hR E => ?_)
  show X G K 3 0 [some (.ref a), some (vi cd), none] [] h 0 0
  refine x_iconst C dX2_numberOf_0 ?_
  refine x_istore_n C (ls' := [some (.ref a), some (vi cd), some (vi 0)]) dX2_numberOf_1 rfl (by decide) rfl ?_
  have L2 : ∀ (n0 : Nat) (k : Nat), cnt - k < n0 → (k ≤ cnt) → (num gb cd cnt = nOf gb cd cnt (cnt - k)) → X G K 3 2 [some (.ref a), some (vi cd), some (vi (k : Int))] [] h 0 0 := by
    intro n0
    induction n0 with
    | zero => intro k hm; exact absurd hm (Nat.not_lt_zero _)
    | succ n0 ih_L2 =>
      intro k hm i1 i2
      refine x_iload_n C dX2_numberOf_2 rfl rfl ?_
      refine x_aload_n C dX2_numberOf_3 rfl rfl ?_
      refine x_get C f_Grips_21 hA rfl dX2_numberOf_4 ?_
      refine x_icmp_ge C (tgt := 28) dX2_numberOf_7 (by decide) ⟨by omega, by omega⟩ ⟨by omega, by omega⟩ (fun c7 => ?_) (fun c7 => ?_)
      · skip
        refine x_iconst C dX2_numberOf_28 ?_
        have e0 : cnt - k = 0 := by omega
        exact x_iret C E rfl (by omega) (by omega) dX2_numberOf_29 (⟨by rw [i2, e0]; rfl, rfl⟩)
      · skip
        have e0 : cnt - k = (cnt - (k + 1)) + 1 := by omega
        have e1 : cnt - ((cnt - (k + 1)) + 1) = k := by omega
        rw [e0, nOf_s, e1] at i2
        refine x_aload_n C dX2_numberOf_10 rfl rfl ?_
        refine x_get C f_Grips_9 hA rfl dX2_numberOf_11 ?_
        refine x_iload_n C dX2_numberOf_14 rfl rfl ?_
        refine x_iald C hB ⟨by omega, by omega, by omega⟩ (v := (gb k)) rfl dX2_numberOf_15 ?_
        refine x_iload_n C dX2_numberOf_16 rfl rfl ?_
        refine x_icmp_ne C (tgt := 22) dX2_numberOf_17 (by decide) (hg _ (by omega)) h2 (fun c17 => ?_) (fun c17 => ?_)
        · skip
          refine x_iinc C (ls' := [some (.ref a), some (vi cd), some (vi ((k : Int) + 1))]) dX2_numberOf_22 rfl (by decide) (z1 := ((k : Int) + 1)) rfl rfl ?_
          refine x_goto C (tgt := 2) dX2_numberOf_25 (by decide) ?_
          exact ih_L2 (k + 1) (by omega) (by omega) (by rw [i2, if_neg c17])
        · skip
          refine x_iload_n C dX2_numberOf_20 rfl rfl ?_
          exact x_iret C E rfl (by omega) (by omega) dX2_numberOf_21 (⟨by rw [i2, if_pos c17], rfl⟩)
  exact L2 _ 0 (Nat.lt_succ_self _) (by omega) (by rw [Nat.sub_zero])

set_option maxRecDepth 100000 in
set_option maxHeartbeats 4000000 in
theorem c_Grips_insert {G : xG} {h : PH} {a b e l cnt : Nat} {gb ge gl : Nat → Int} (hA : h a = xO 1 [.ref b, .ref e, .ref l, vi (cnt : Int)]) (h1 : cnt ≤ 30) (hB : h b = xI G 30 gb) (hE : h e = xI G 30 ge) (hL : h l = xI G 30 gl) (nab : a ≠ b) (nae : a ≠ e) (nal : a ≠ l) (nbe : b ≠ e) (nbl : b ≠ l) (nel : e ≠ l) (hb : ∀ j : Nat, j < 30 → bd (gb j)) (he : ∀ j : Nat, j < 30 → bd (ge j)) {cd ef lo : Int} (h2 : bd cd) (h3 : bd ef) {p : Nat} (hp : p = apos ge gb ef cd cnt) : Cn G m_Grips_insert 1 0 0 [.ref a, vi cd, vi ef, vi lo] h (fun r h' => r = none ∧ h' = va_up (va_up (va_up (va_up h a (xO 1 [.ref b, .ref e, .ref l, vi ((iN p cnt : Nat) : Int)])) b (xI G 30 (iA p cnt cd gb))) e (xI G 30 (iA p cnt ef ge))) l (xI G 30 (iA p cnt lo gl))) := by
  refine Cn_of (by decide) (Nat.le_of_ble_eq_true rfl) (fun K C hR E => ?_)
  show X G K 6 0 [some (.ref a), some (vi cd), some (vi ef), some (vi lo), none, none] [] h 0 0
  refine X.heq (up_self hA).symm ?_
  refine X.heq (up_self ((up_n (Ne.symm nab)).trans hB)).symm ?_
  refine X.heq (up_self ((up_n (Ne.symm nbe)).trans ((up_n (Ne.symm nae)).trans hE))).symm ?_
  refine X.heq (up_self ((up_n (Ne.symm nel)).trans ((up_n (Ne.symm nbl)).trans ((up_n (Ne.symm nal)).trans hL)))).symm ?_
  have L56 : (p ≤ cnt) → X G K 6 56 [some (.ref a), some (vi cd), some (vi ef), some (vi lo), some (vi (p : Int)), none] [] (va_up (va_up (va_up (va_up h a (xO 1 [.ref b, .ref e, .ref l, vi (cnt : Int)])) b (xI G 30 gb)) e (xI G 30 ge)) l (xI G 30 gl)) 0 0 := by
    intro  i3
    refine x_iload C dX2_insert_56 rfl ?_
    refine x_bipush C (z := 30) dX2_insert_58 (by decide) ?_
    refine x_icmp_lt C (tgt := 64) dX2_insert_60 (by decide) ⟨by omega, by omega⟩ (by decide) (fun c60 => ?_) (fun c60 => ?_)
    · skip
      obtain ⟨n, hn⟩ : ∃ n : Nat, n = min (cnt + 1) 30 := ⟨_, rfl⟩
      refine x_aload_n C dX2_insert_64 rfl rfl ?_
      refine x_aload_n C dX2_insert_65 rfl rfl ?_
      refine x_get C f_Grips_21 ((up_n nal).trans ((up_n nae).trans ((up_n nab).trans up_s))) rfl dX2_insert_66 ?_
      refine x_iconst C dX2_insert_69 ?_
      refine x_iadd C dX2_insert_70 ?_
      refine x_bipush C (z := 30) dX2_insert_71 (by decide) ?_
      refine x_min C s_Grips_25 static_Math_min i_Math code_Math_min ⟨by omega, by omega⟩ ⟨by omega, by omega⟩ (Nat.le_of_ble_eq_true rfl) hR (by omega) (by omega) (by omega) dX2_insert_73 ?_
      refine x_re (b := (n : Int)) (by split <;> omega) ?_
      refine x_put C p_Grips_21 ((up_n nal).trans ((up_n nae).trans ((up_n nab).trans up_s))) (fit_int _) (Nat.le_of_ble_eq_true rfl) (h1 := (va_up (va_up (va_up (va_up h a (xO 1 [.ref b, .ref e, .ref l, vi (n : Int)])) b (xI G 30 gb)) e (xI G 30 ge)) l (xI G 30 gl))) ((up_c _ _ _ (Ne.symm nal)).trans (congrArg (fun f => va_up f l _) ((up_c _ _ _ (Ne.symm nae)).trans (congrArg (fun f => va_up f e _) ((up_c _ _ _ (Ne.symm nab)).trans (congrArg (fun f => va_up f b _) (up_u _ _ _ _))))))) dX2_insert_76 ?_
      refine x_aload_n C dX2_insert_79 rfl rfl ?_
      refine x_get C f_Grips_21 ((up_n nal).trans ((up_n nae).trans ((up_n nab).trans up_s))) rfl dX2_insert_80 ?_
      refine x_iconst C dX2_insert_83 ?_
      refine x_isub C dX2_insert_84 ?_
      refine x_re (b := ((n - 1 : Nat) : Int)) (by omega) ?_
      refine x_istore C (ls' := [some (.ref a), some (vi cd), some (vi ef), some (vi lo), some (vi (p : Int)), some (vi ((n - 1 : Nat) : Int))]) dX2_insert_85 (by decide) rfl ?_
      have L87 : ∀ (n0 : Nat) (v : Nat) (g1 : Nat → Int) (g2 : Nat → Int) (g3 : Nat → Int), v < n0 → (p ≤ v ∧ v < n) → (∀ j, g1 j = if v < j ∧ j < n then gb (j - 1) else gb j) → (∀ j, g2 j = if v < j ∧ j < n then ge (j - 1) else ge j) → (∀ j, g3 j = if v < j ∧ j < n then gl (j - 1) else gl j) → X G K 6 87 [some (.ref a), some (vi cd), some (vi ef), some (vi lo), some (vi (p : Int)), some (vi (v : Int))] [] (va_up (va_up (va_up (va_up h a (xO 1 [.ref b, .ref e, .ref l, vi (n : Int)])) b (xI G 30 g1)) e (xI G 30 g2)) l (xI G 30 g3)) 0 0 := by
        intro n0
        induction n0 with
        | zero => intro v g1 g2 g3 hm; exact absurd hm (Nat.not_lt_zero _)
        | succ n0 ih_L87 =>
          intro v g1 g2 g3 hm j1 j2 j3 j4
          refine x_iload C dX2_insert_87 rfl ?_
          refine x_iload C dX2_insert_89 rfl ?_
          refine x_icmp_le C (tgt := 148) dX2_insert_91 (by decide) ⟨by omega, by omega⟩ ⟨by omega, by omega⟩ (fun c91 => ?_) (fun c91 => ?_)
          · skip
            refine x_aload_n C dX2_insert_148 rfl rfl ?_
            refine x_get C f_Grips_9 ((up_n nal).trans ((up_n nae).trans ((up_n nab).trans up_s))) rfl dX2_insert_149 ?_
            refine x_iload C dX2_insert_152 rfl ?_
            refine x_iload_n C dX2_insert_154 rfl rfl ?_
            refine x_iast C ((up_n nbl).trans ((up_n nbe).trans up_s)) ⟨by omega, by omega, by omega⟩ (h1 := (va_up (va_up (va_up (va_up h a (xO 1 [.ref b, .ref e, .ref l, vi (n : Int)])) b (xI G 30 (va_up g1 p cd))) e (xI G 30 g2)) l (xI G 30 g3))) ((up_c _ _ _ (Ne.symm nbl)).trans (congrArg (fun f => va_up f l _) ((up_c _ _ _ (Ne.symm nbe)).trans (congrArg (fun f => va_up f e _) (up_u _ _ _ _))))) dX2_insert_155 ?_
            refine x_aload_n C dX2_insert_156 rfl rfl ?_
            refine x_get C f_Grips_15 ((up_n nal).trans ((up_n nae).trans ((up_n nab).trans up_s))) rfl dX2_insert_157 ?_
            refine x_iload C dX2_insert_160 rfl ?_
            refine x_iload_n C dX2_insert_162 rfl rfl ?_
            refine x_iast C ((up_n nel).trans up_s) ⟨by omega, by omega, by omega⟩ (h1 := (va_up (va_up (va_up (va_up h a (xO 1 [.ref b, .ref e, .ref l, vi (n : Int)])) b (xI G 30 (va_up g1 p cd))) e (xI G 30 (va_up g2 p ef))) l (xI G 30 g3))) ((up_c _ _ _ (Ne.symm nel)).trans (congrArg (fun f => va_up f l _) (up_u _ _ _ _))) dX2_insert_163 ?_
            refine x_aload_n C dX2_insert_164 rfl rfl ?_
            refine x_get C f_Grips_18 ((up_n nal).trans ((up_n nae).trans ((up_n nab).trans up_s))) rfl dX2_insert_165 ?_
            refine x_iload C dX2_insert_168 rfl ?_
            refine x_iload_n C dX2_insert_170 rfl rfl ?_
            refine x_iast C up_s ⟨by omega, by omega, by omega⟩ (h1 := (va_up (va_up (va_up (va_up h a (xO 1 [.ref b, .ref e, .ref l, vi (n : Int)])) b (xI G 30 (va_up g1 p cd))) e (xI G 30 (va_up g2 p ef))) l (xI G 30 (va_up g3 p lo)))) (up_u _ _ _ _) dX2_insert_171 ?_
            have e0 : v = p := by omega
            subst e0
            exact x_vret C E rfl (by omega) (by omega) dX2_insert_172 (⟨rfl, by unfold iA iN; rw [if_pos (by omega), if_pos (by omega), if_pos (by omega), if_pos (by omega), ← hn, shE j2, shE j3, shE j4]⟩)
          · skip
            refine x_aload_n C dX2_insert_94 rfl rfl ?_
            refine x_get C f_Grips_9 ((up_n nal).trans ((up_n nae).trans ((up_n nab).trans up_s))) rfl dX2_insert_95 ?_
            refine x_iload C dX2_insert_98 rfl ?_
            refine x_aload_n C dX2_insert_100 rfl rfl ?_
            refine x_get C f_Grips_9 ((up_n nal).trans ((up_n nae).trans ((up_n nab).trans up_s))) rfl dX2_insert_101 ?_
            refine x_iload C dX2_insert_104 rfl ?_
            refine x_iconst C dX2_insert_106 ?_
            refine x_isub C dX2_insert_107 ?_
            refine x_re (b := ((v - 1 : Nat) : Int)) (by omega) ?_
            refine x_iald C ((up_n nbl).trans ((up_n nbe).trans up_s)) ⟨by omega, by omega, by omega⟩ (v := (g1 (v - 1))) rfl dX2_insert_108 ?_
            refine x_iast C ((up_n nbl).trans ((up_n nbe).trans up_s)) ⟨by omega, by omega, by omega⟩ (h1 := (va_up (va_up (va_up (va_up h a (xO 1 [.ref b, .ref e, .ref l, vi (n : Int)])) b (xI G 30 (va_up g1 v (g1 (v - 1))))) e (xI G 30 g2)) l (xI G 30 g3))) ((up_c _ _ _ (Ne.symm nbl)).trans (congrArg (fun f => va_up f l _) ((up_c _ _ _ (Ne.symm nbe)).trans (congrArg (fun f => va_up f e _) (up_u _ _ _ _))))) dX2_insert_109 ?_
            refine x_aload_n C dX2_insert_110 rfl rfl ?_
            refine x_get C f_Grips_15 ((up_n nal).trans ((up_n nae).trans ((up_n nab).trans up_s))) rfl dX2_insert_111 ?_
            refine x_iload C dX2_insert_114 rfl ?_
            refine x_aload_n C dX2_insert_116 rfl rfl ?_
            refine x_get C f_Grips_15 ((up_n nal).trans ((up_n nae).trans ((up_n nab).trans up_s))) rfl dX2_insert_117 ?_
            refine x_iload C dX2_insert_120 rfl ?_
            refine x_iconst C dX2_insert_122 ?_
            refine x_isub C dX2_insert_123 ?_
            refine x_re (b := ((v - 1 : Nat) : Int)) (by omega) ?_
            refine x_iald C ((up_n nel).trans up_s) ⟨by omega, by omega, by omega⟩ (v := (g2 (v - 1))) rfl dX2_insert_124 ?_
            refine x_iast C ((up_n nel).trans up_s) ⟨by omega, by omega, by omega⟩ (h1 := (va_up (va_up (va_up (va_up h a (xO 1 [.ref b, .ref e, .ref l, vi (n : Int)])) b (xI G 30 (va_up g1 v (g1 (v - 1))))) e (xI G 30 (va_up g2 v (g2 (v - 1))))) l (xI G 30 g3))) ((up_c _ _ _ (Ne.symm nel)).trans (congrArg (fun f => va_up f l _) (up_u _ _ _ _))) dX2_insert_125 ?_
            refine x_aload_n C dX2_insert_126 rfl rfl ?_
            refine x_get C f_Grips_18 ((up_n nal).trans ((up_n nae).trans ((up_n nab).trans up_s))) rfl dX2_insert_127 ?_
            refine x_iload C dX2_insert_130 rfl ?_
            refine x_aload_n C dX2_insert_132 rfl rfl ?_
            refine x_get C f_Grips_18 ((up_n nal).trans ((up_n nae).trans ((up_n nab).trans up_s))) rfl dX2_insert_133 ?_
            refine x_iload C dX2_insert_136 rfl ?_
            refine x_iconst C dX2_insert_138 ?_
            refine x_isub C dX2_insert_139 ?_
            refine x_re (b := ((v - 1 : Nat) : Int)) (by omega) ?_
            refine x_iald C up_s ⟨by omega, by omega, by omega⟩ (v := (g3 (v - 1))) rfl dX2_insert_140 ?_
            refine x_iast C up_s ⟨by omega, by omega, by omega⟩ (h1 := (va_up (va_up (va_up (va_up h a (xO 1 [.ref b, .ref e, .ref l, vi (n : Int)])) b (xI G 30 (va_up g1 v (g1 (v - 1))))) e (xI G 30 (va_up g2 v (g2 (v - 1))))) l (xI G 30 (va_up g3 v (g3 (v - 1)))))) (up_u _ _ _ _) dX2_insert_141 ?_
            refine x_iinc C (ls' := [some (.ref a), some (vi cd), some (vi ef), some (vi lo), some (vi (p : Int)), some (vi ((v - 1 : Nat) : Int))]) dX2_insert_142 rfl (by decide) (z1 := ((v - 1 : Nat) : Int)) (by omega) rfl ?_
            refine x_goto C (tgt := 87) dX2_insert_145 (by decide) ?_
            exact ih_L87 (v - 1) (va_up g1 v (g1 (v - 1))) (va_up g2 v (g2 (v - 1))) (va_up g3 v (g3 (v - 1))) (by omega) (by omega) (shL j2 (by omega) (by omega)) (shL j3 (by omega) (by omega)) (shL j4 (by omega) (by omega))
      exact L87 _ (n - 1) gb ge gl (Nat.lt_succ_self _) (by omega) (fun j => by rw [if_neg (by omega)]) (fun j => by rw [if_neg (by omega)]) (fun j => by rw [if_neg (by omega)])
    · skip
      exact x_vret C E rfl (by omega) (by omega) dX2_insert_63 (⟨rfl, by unfold iA iN; rw [if_neg (by omega), if_neg (by omega), if_neg (by omega), if_neg (by omega)]⟩)
  refine x_aload_n C dX2_insert_0 rfl rfl ?_
  refine x_get C f_Grips_21 ((up_n nal).trans ((up_n nae).trans ((up_n nab).trans up_s))) rfl dX2_insert_1 ?_
  refine x_istore C (ls' := [some (.ref a), some (vi cd), some (vi ef), some (vi lo), some (vi (cnt : Int)), none]) dX2_insert_4 (by decide) rfl ?_
  have L6 : ∀ (n0 : Nat) (t : Nat), t < n0 → (t ≤ cnt) → (p = apos ge gb ef cd t) → X G K 6 6 [some (.ref a), some (vi cd), some (vi ef), some (vi lo), some (vi (t : Int)), none] [] (va_up (va_up (va_up (va_up h a (xO 1 [.ref b, .ref e, .ref l, vi (cnt : Int)])) b (xI G 30 gb)) e (xI G 30 ge)) l (xI G 30 gl)) 0 0 := by
    intro n0
    induction n0 with
    | zero => intro t hm; exact absurd hm (Nat.not_lt_zero _)
    | succ n0 ih_L6 =>
      intro t hm i1 i2
      refine x_iload C dX2_insert_6 rfl ?_
      refine x_if_le C (tgt := 56) dX2_insert_8 (by decide) ⟨by omega, by omega⟩ (fun c8 => ?_) (fun c8 => ?_)
      · skip
        have e0 : t = 0 := by omega
        subst e0
        have e1 : p = 0 := i2
        subst e1
        exact L56  (by omega)
      · skip
        obtain ⟨u, rfl⟩ : ∃ u, t = u + 1 := ⟨t - 1, by omega⟩
        have hx := he u (by omega)
        have hy := hb u (by omega)
        have i3 := i2
        rw [apos_s] at i3
        refine x_iload_n C dX2_insert_11 rfl rfl ?_
        refine x_aload_n C dX2_insert_12 rfl rfl ?_
        refine x_get C f_Grips_15 ((up_n nal).trans ((up_n nae).trans ((up_n nab).trans up_s))) rfl dX2_insert_13 ?_
        refine x_iload C dX2_insert_16 rfl ?_
        refine x_iconst C dX2_insert_18 ?_
        refine x_isub C dX2_insert_19 ?_
        refine x_re (b := (u : Int)) (by omega) ?_
        refine x_iald C ((up_n nel).trans up_s) ⟨by omega, by omega, by omega⟩ (v := (ge u)) rfl dX2_insert_20 ?_
        refine x_icmp_lt C (tgt := 50) dX2_insert_21 (by decide) h3 hx (fun c21 => ?_) (fun c21 => ?_)
        · skip
          refine x_iinc C (ls' := [some (.ref a), some (vi cd), some (vi ef), some (vi lo), some (vi (u : Int)), none]) dX2_insert_50 rfl (by decide) (z1 := (u : Int)) (by omega) rfl ?_
          refine x_goto C (tgt := 6) dX2_insert_53 (by decide) ?_
          exact ih_L6 u (by omega) (by omega) (by rw [i3, if_pos (by omega)])
        · skip
          refine x_iload_n C dX2_insert_24 rfl rfl ?_
          refine x_aload_n C dX2_insert_25 rfl rfl ?_
          refine x_get C f_Grips_15 ((up_n nal).trans ((up_n nae).trans ((up_n nab).trans up_s))) rfl dX2_insert_26 ?_
          refine x_iload C dX2_insert_29 rfl ?_
          refine x_iconst C dX2_insert_31 ?_
          refine x_isub C dX2_insert_32 ?_
          refine x_re (b := (u : Int)) (by omega) ?_
          refine x_iald C ((up_n nel).trans up_s) ⟨by omega, by omega, by omega⟩ (v := (ge u)) rfl dX2_insert_33 ?_
          refine x_icmp_ne C (tgt := 56) dX2_insert_34 (by decide) h3 hx (fun c34 => ?_) (fun c34 => ?_)
          · skip
            have e1 : p = u + 1 := by rw [i3, if_neg (by omega)]
            subst e1
            exact L56  (by omega)
          · skip
            refine x_iload_n C dX2_insert_37 rfl rfl ?_
            refine x_aload_n C dX2_insert_38 rfl rfl ?_
            refine x_get C f_Grips_9 ((up_n nal).trans ((up_n nae).trans ((up_n nab).trans up_s))) rfl dX2_insert_39 ?_
            refine x_iload C dX2_insert_42 rfl ?_
            refine x_iconst C dX2_insert_44 ?_
            refine x_isub C dX2_insert_45 ?_
            refine x_re (b := (u : Int)) (by omega) ?_
            refine x_iald C ((up_n nbl).trans ((up_n nbe).trans up_s)) ⟨by omega, by omega, by omega⟩ (v := (gb u)) rfl dX2_insert_46 ?_
            refine x_icmp_ge C (tgt := 56) dX2_insert_47 (by decide) h2 hy (fun c47 => ?_) (fun c47 => ?_)
            · skip
              have e1 : p = u + 1 := by rw [i3, if_neg (by omega)]
              subst e1
              exact L56  (by omega)
            · skip
              refine x_iinc C (ls' := [some (.ref a), some (vi cd), some (vi ef), some (vi lo), some (vi (u : Int)), none]) dX2_insert_50 rfl (by decide) (z1 := (u : Int)) (by omega) rfl ?_
              refine x_goto C (tgt := 6) dX2_insert_53 (by decide) ?_
              exact ih_L6 u (by omega) (by omega) (by rw [i3, if_pos (by omega)])
  exact L6 _ cnt (Nat.lt_succ_self _) (Nat.le_refl _) (hp)
