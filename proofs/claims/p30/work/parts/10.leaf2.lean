/-! Chord, Instrument, bits. -/
def lowP (pt : Nat → Int) : Nat → Int
  | 0 => 80
  | n + 1 => if pt n < lowP pt n then pt n else lowP pt n
def highP (pt : Nat → Int) : Nat → Int
  | 0 => 0
  | n + 1 => if highP pt n < pt n then pt n else highP pt n
theorem lowP_bd {pt : Nat → Int} (hp : ∀ j : Nat, j < 4 → bd (pt j)) : ∀ n, n ≤ 4 → bd (lowP pt n)
  | 0, _ => (show bd 80 from ⟨by decide, by decide⟩)
  | n + 1, h => by
    unfold lowP
    split
    · exact hp n (by omega)
    · exact lowP_bd hp n (by omega)
theorem highP_bd {pt : Nat → Int} (hp : ∀ j : Nat, j < 4 → bd (pt j)) : ∀ n, n ≤ 4 → bd (highP pt n)
  | 0, _ => (show bd 0 from ⟨by decide, by decide⟩)
  | n + 1, h => by
    unfold highP
    split
    · exact hp n (by omega)
    · exact highP_bd hp n (by omega)
def slk (sl : Nat → Bool) : Nat → Int
  | 0 => 0
  | n + 1 => if sl n = true then slk sl n + 1 else slk sl n
theorem slk_rg (sl : Nat → Bool) : ∀ n, 0 ≤ slk sl n ∧ slk sl n ≤ n
  | 0 => by simp [slk]
  | n + 1 => by
    have := slk_rg sl n
    unfold slk
    split <;> omega
def used (n : Nat) (sl : Nat → Bool) (s : Nat) : Bool := decide (s < n) && !sl s
/-- the fret with which a string sounds a pitch, or -1 -/
def fretF (n : Nat) (op : Nat → Int) (sl : Nat → Bool) (cp : Int) (s : Nat) (p : Int) : Int := if used n sl s = true ∧ 0 ≤ p - op s - cp ∧ p - op s - cp ≤ 12 - cp then p - op s - cp else -1

set_option maxRecDepth 100000 in
set_option maxHeartbeats 4000000 in
theorem c_Chord_init {G : xG} {h : PH} {a : Nat} (hA : h a = xO 0 [.null, vi 0, vi 0, vi 0]) : Cn G m_Chord_init 1 1 4 [.ref a] h (fun r h' => r = none ∧ ∃ q, h q = none ∧ h' = va_up (va_up h a (xO 0 [.ref q, vi 0, vi 1, vi (-1)])) q (xI G 4 (fun _ => 0))) := by
  refine Cn_of (by decide) (Nat.le_of_ble_eq_true rfl) (fun K C hR E => ?_)
  show X G K 1 0 [some (.ref a)] [] h 0 0
  refine X.heq (up_self hA).symm ?_
  refine x_aload_n C dX0_init_0 rfl rfl ?_
  refine x_objI C s_Chord_3 o_inst o_code (Nat.le_of_ble_eq_true rfl) hR (by omega) dX0_init_1 ?_
  refine x_aload_n C dX0_init_4 rfl rfl ?_
  refine x_iconst C dX0_init_5 ?_
  refine x_newI C (n := 4) ⟨by omega, by omega⟩ arrayClass_int hR (by omega) (by omega) dX0_init_6 (fun q zq => ?_)
  have ne_a_q : a ≠ q := fun e => by rw [← e] at zq; exact absurd (zq.symm.trans up_s) (by intro h9; cases h9)
  refine x_putF C p_Chord_9 E.2.1 ((up_n ne_a_q).trans up_s) (fit_arr _ _) (Nat.le_of_ble_eq_true rfl) (h1 := (va_up (va_up h a (xO 0 [.ref q, vi 0, vi 0, vi 0])) q (xI G 4 (fun _ => 0)))) ((up_c _ _ _ (Ne.symm ne_a_q)).trans (congrArg (fun f => va_up f q _) (up_u _ _ _ _))) dX0_init_8 ?_
  refine x_aload_n C dX0_init_11 rfl rfl ?_
  refine x_iconst C dX0_init_12 ?_
  refine x_put C p_Chord_15 ((up_n ne_a_q).trans up_s) (fit_int _) (Nat.le_of_ble_eq_true rfl) (h1 := (va_up (va_up h a (xO 0 [.ref q, vi 0, vi 0, vi 0])) q (xI G 4 (fun _ => 0)))) ((up_c _ _ _ (Ne.symm ne_a_q)).trans (congrArg (fun f => va_up f q _) (up_u _ _ _ _))) dX0_init_13 ?_
  refine x_aload_n C dX0_init_16 rfl rfl ?_
  refine x_iconst C dX0_init_17 ?_
  refine x_put C p_Chord_19 ((up_n ne_a_q).trans up_s) (fit_int _) (Nat.le_of_ble_eq_true rfl) (h1 := (va_up (va_up h a (xO 0 [.ref q, vi 0, vi 1, vi 0])) q (xI G 4 (fun _ => 0)))) ((up_c _ _ _ (Ne.symm ne_a_q)).trans (congrArg (fun f => va_up f q _) (up_u _ _ _ _))) dX0_init_18 ?_
  refine x_aload_n C dX0_init_21 rfl rfl ?_
  refine x_iconst C dX0_init_22 ?_
  refine x_put C p_Chord_22 ((up_n ne_a_q).trans up_s) (fit_int _) (Nat.le_of_ble_eq_true rfl) (h1 := (va_up (va_up h a (xO 0 [.ref q, vi 0, vi 1, vi (-1)])) q (xI G 4 (fun _ => 0)))) ((up_c _ _ _ (Ne.symm ne_a_q)).trans (congrArg (fun f => va_up f q _) (up_u _ _ _ _))) dX0_init_23 ?_
  exact x_vret C E rfl (by omega) (by omega) dX0_init_26 (⟨rfl, q, by rw [← zq]; exact (up_n (Ne.symm ne_a_q)).symm, rfl⟩)

set_option maxRecDepth 100000 in
set_option maxHeartbeats 4000000 in
theorem c_Chord_clear {G : xG} {h : PH} {a q : Nat} {si ln fx n2 : Int} (hA : h a = xO 0 [.ref q, vi si, vi ln, vi fx]) : Cn G m_Chord_clear 0 0 0 [.ref a, vi n2] h (fun r h' => r = none ∧ h' = va_up h a (xO 0 [.ref q, vi 0, vi n2, vi (-1)])) := by
  refine Cn_of (by decide) (Nat.le_of_ble_eq_true rfl) (fun K C hR E => ?_)
  show X G K 2 0 [some (.ref a), some (vi n2)] [] h 0 0
  refine x_aload_n C dX0_clear_0 rfl rfl ?_
  refine x_iconst C dX0_clear_1 ?_
  refine x_put C p_Chord_15 hA (fit_int _) (Nat.le_of_ble_eq_true rfl) (h1 := (va_up h a (xO 0 [.ref q, vi 0, vi ln, vi fx]))) rfl dX0_clear_2 ?_
  refine x_aload_n C dX0_clear_5 rfl rfl ?_
  refine x_iload_n C dX0_clear_6 rfl rfl ?_
  refine x_put C p_Chord_19 up_s (fit_int _) (Nat.le_of_ble_eq_true rfl) (h1 := (va_up h a (xO 0 [.ref q, vi 0, vi n2, vi fx]))) (up_u _ _ _ _) dX0_clear_7 ?_
  refine x_aload_n C dX0_clear_10 rfl rfl ?_
  refine x_iconst C dX0_clear_11 ?_
  refine x_put C p_Chord_22 up_s (fit_int _) (Nat.le_of_ble_eq_true rfl) (h1 := (va_up h a (xO 0 [.ref q, vi 0, vi n2, vi (-1)]))) (up_u _ _ _ _) dX0_clear_12 ?_
  exact x_vret C E rfl (by omega) (by omega) dX0_clear_15 (⟨rfl, rfl⟩)

set_option maxRecDepth 100000 in
set_option maxHeartbeats 4000000 in
theorem c_Chord_add {G : xG} {h : PH} {a q si : Nat} {ln fx : Int} {pt : Nat → Int} (hA : h a = xO 0 [.ref q, vi (si : Int), vi ln, vi fx]) (h1 : si ≤ 4) (hB : h q = xI G 4 pt) (naq : a ≠ q) {p : Int} (hp : bd p) (h2 : p = -1 ∨ si < 4) : Cn G m_Chord_add 0 0 0 [.ref a, vi p] h (fun r h' => r = none ∧ h' = va_up (va_up h q (xI G 4 (if p = -1 then pt else va_up pt si p))) a (xO 0 [.ref q, vi (if p = -1 then (si : Int) else (si : Int) + 1), vi ln, vi fx])) := by
  refine Cn_of (by decide) (Nat.le_of_ble_eq_true rfl) (fun K C hR E => ?_)
  show X G K 2 0 [some (.ref a), some (vi p)] [] h 0 0
  refine X.heq (up_self hB).symm ?_
  refine X.heq (up_self ((up_n naq).trans hA)).symm ?_
  refine x_iload_n C dX0_add_0 rfl rfl ?_
  refine x_iconst C dX0_add_1 ?_
  refine x_icmp_eq C (tgt := 33) dX0_add_2 (by decide) hp (by decide) (fun c2 => ?_) (fun c2 => ?_)
  · skip
    exact x_vret C E rfl (by omega) (by omega) dX0_add_33 (⟨rfl, by rw [if_pos c2, if_pos c2]⟩)
  · skip
    refine x_aload_n C dX0_add_5 rfl rfl ?_
    refine x_get C f_Chord_15 up_s rfl dX0_add_6 ?_
    refine x_iconst C dX0_add_9 ?_
    refine x_icmp_ge C (tgt := 33) dX0_add_10 (by decide) ⟨by omega, by omega⟩ (by decide) (fun c10 => ?_) (fun c10 => ?_)
    · skip
      exfalso; omega
    · skip
      refine x_aload_n C dX0_add_13 rfl rfl ?_
      refine x_get C f_Chord_9 up_s rfl dX0_add_14 ?_
      refine x_aload_n C dX0_add_17 rfl rfl ?_
      refine x_get C f_Chord_15 up_s rfl dX0_add_18 ?_
      refine x_iload_n C dX0_add_21 rfl rfl ?_
      refine x_iast C ((up_n (Ne.symm naq)).trans up_s) ⟨by omega, by omega, by omega⟩ (h1 := (va_up (va_up h q (xI G 4 (va_up pt si p))) a (xO 0 [.ref q, vi (si : Int), vi ln, vi fx]))) ((up_c _ _ _ naq).trans (congrArg (fun f => va_up f a _) (up_u _ _ _ _))) dX0_add_22 ?_
      refine x_aload_n C dX0_add_23 rfl rfl ?_
      refine x_dup C dX0_add_24 rfl ?_
      refine x_get C f_Chord_15 up_s rfl dX0_add_25 ?_
      refine x_iconst C dX0_add_28 ?_
      refine x_iadd C dX0_add_29 ?_
      refine x_put C p_Chord_15 up_s (fit_int _) (Nat.le_of_ble_eq_true rfl) (h1 := (va_up (va_up h q (xI G 4 (va_up pt si p))) a (xO 0 [.ref q, vi ((si : Int) + 1), vi ln, vi fx]))) (up_u _ _ _ _) dX0_add_30 ?_
      exact x_vret C E rfl (by omega) (by omega) dX0_add_33 (⟨rfl, by rw [if_neg c2, if_neg c2]⟩)

set_option maxRecDepth 100000 in
set_option maxHeartbeats 4000000 in
theorem c_Chord_lowest {G : xG} {h : PH} {a q si : Nat} {ln fx : Int} {pt : Nat → Int} (hA : h a = xO 0 [.ref q, vi (si : Int), vi ln, vi fx]) (h1 : si ≤ 4) (hB : h q = xI G 4 pt) (naq : a ≠ q) (hpt : ∀ j : Nat, j < 4 → bd (pt j)) : Cn G m_Chord_lowest 1 0 0 [.ref a] h (fun r h' => r = some (vi (lowP pt si)) ∧ h' = h) := by
  refine Cn_of (by decide) (Nat.le_of_ble_eq_true rfl) (fun K C hR E => ?_)
  show X G K 3 0 [some (.ref a), none, none] [] h 0 0
  refine x_bipush C (z := 80) dX0_lowest_0 (by decide) ?_
  refine x_istore_n C (ls' := [some (.ref a), some (vi 80), none]) dX0_lowest_2 rfl (by decide) rfl ?_
  refine x_iconst C dX0_lowest_3 ?_
  refine x_istore_n C (ls' := [some (.ref a), some (vi 80), some (vi 0)]) dX0_lowest_4 rfl (by decide) rfl ?_
  have L : ∀ (n0 : Nat) (k : Nat) (p1 : Int), si - k < n0 → (k ≤ si) → (lowP pt k = p1) → X G K 3 5 [some (.ref a), some (vi p1), some (vi (k : Int))] [] h 0 0 := by
    intro n0
    induction n0 with
    | zero => intro k p1 hm; exact absurd hm (Nat.not_lt_zero _)
    | succ n0 ih_L =>
      intro k p1 hm i1 i2
      refine x_iload_n C dX0_lowest_5 rfl rfl ?_
      refine x_aload_n C dX0_lowest_6 rfl rfl ?_
      refine x_get C f_Chord_15 hA rfl dX0_lowest_7 ?_
      refine x_icmp_ge C (tgt := 30) dX0_lowest_10 (by decide) ⟨by omega, by omega⟩ ⟨by omega, by omega⟩ (fun c10 => ?_) (fun c10 => ?_)
      · skip
        refine x_iload_n C dX0_lowest_30 rfl rfl ?_
        have e0 : k = si := by omega
        subst e0
        exact x_iret C E rfl (by omega) (by omega) dX0_lowest_31 (⟨by rw [i2], rfl⟩)
      · skip
        have hb1 : bd p1 := by rw [← i2]; exact lowP_bd hpt _ (by omega)
        have hb2 := hpt k (by omega)
        refine x_iload_n C dX0_lowest_13 rfl rfl ?_
        refine x_aload_n C dX0_lowest_14 rfl rfl ?_
        refine x_get C f_Chord_9 hA rfl dX0_lowest_15 ?_
        refine x_iload_n C dX0_lowest_18 rfl rfl ?_
        refine x_iald C hB ⟨by omega, by omega, by omega⟩ (v := (pt k)) rfl dX0_lowest_19 ?_
        refine x_min C s_Chord_25 static_Math_min i_Math code_Math_min hb1 hb2 (Nat.le_of_ble_eq_true rfl) hR (by omega) (by omega) (by omega) dX0_lowest_20 ?_
        refine x_istore_n C (ls' := [some (.ref a), some (vi (if (pt k) < p1 then (pt k) else p1)), some (vi (k : Int))]) dX0_lowest_23 rfl (by decide) rfl ?_
        refine x_iinc C (ls' := [some (.ref a), some (vi (if (pt k) < p1 then (pt k) else p1)), some (vi ((k : Int) + 1))]) dX0_lowest_24 rfl (by decide) (z1 := ((k : Int) + 1)) rfl rfl ?_
        refine x_goto C (tgt := 5) dX0_lowest_27 (by decide) ?_
        exact ih_L (k + 1) (if (pt k) < p1 then (pt k) else p1) (by omega) (by omega) (by show (if _ < _ then _ else _) = _; rw [i2])
  exact L _ 0 80 (Nat.lt_succ_self _) (by omega) (rfl)

set_option maxRecDepth 100000 in
set_option maxHeartbeats 4000000 in
theorem c_Chord_highest {G : xG} {h : PH} {a q si : Nat} {ln fx : Int} {pt : Nat → Int} (hA : h a = xO 0 [.ref q, vi (si : Int), vi ln, vi fx]) (h1 : si ≤ 4) (hB : h q = xI G 4 pt) (naq : a ≠ q) (hpt : ∀ j : Nat, j < 4 → bd (pt j)) : Cn G m_Chord_highest 1 0 0 [.ref a] h (fun r h' => r = some (vi (highP pt si)) ∧ h' = h) := by
  refine Cn_of (by decide) (Nat.le_of_ble_eq_true rfl) (fun K C hR E => ?_)
  show X G K 3 0 [some (.ref a), none, none] [] h 0 0
  refine x_iconst C dX0_highest_0 ?_
  refine x_istore_n C (ls' := [some (.ref a), some (vi 0), none]) dX0_highest_1 rfl (by decide) rfl ?_
  refine x_iconst C dX0_highest_2 ?_
  refine x_istore_n C (ls' := [some (.ref a), some (vi 0), some (vi 0)]) dX0_highest_3 rfl (by decide) rfl ?_
  have L : ∀ (n0 : Nat) (k : Nat) (p1 : Int), si - k < n0 → (k ≤ si) → (highP pt k = p1) → X G K 3 4 [some (.ref a), some (vi p1), some (vi (k : Int))] [] h 0 0 := by
    intro n0
    induction n0 with
    | zero => intro k p1 hm; exact absurd hm (Nat.not_lt_zero _)
    | succ n0 ih_L =>
      intro k p1 hm i1 i2
      refine x_iload_n C dX0_highest_4 rfl rfl ?_
      refine x_aload_n C dX0_highest_5 rfl rfl ?_
      refine x_get C f_Chord_15 hA rfl dX0_highest_6 ?_
      refine x_icmp_ge C (tgt := 29) dX0_highest_9 (by decide) ⟨by omega, by omega⟩ ⟨by omega, by omega⟩ (fun c9 => ?_) (fun c9 => ?_)
      · skip
        refine x_iload_n C dX0_highest_29 rfl rfl ?_
        have e0 : k = si := by omega
        subst e0
        exact x_iret C E rfl (by omega) (by omega) dX0_highest_30 (⟨by rw [i2], rfl⟩)
      · skip
        have hb1 : bd p1 := by rw [← i2]; exact highP_bd hpt _ (by omega)
        have hb2 := hpt k (by omega)
        refine x_iload_n C dX0_highest_12 rfl rfl ?_
        refine x_aload_n C dX0_highest_13 rfl rfl ?_
        refine x_get C f_Chord_9 hA rfl dX0_highest_14 ?_
        refine x_iload_n C dX0_highest_17 rfl rfl ?_
        refine x_iald C hB ⟨by omega, by omega, by omega⟩ (v := (pt k)) rfl dX0_highest_18 ?_
        refine x_max C s_Chord_31 static_Math_max i_Math code_Math_max hb1 hb2 (Nat.le_of_ble_eq_true rfl) hR (by omega) (by omega) (by omega) dX0_highest_19 ?_
        refine x_istore_n C (ls' := [some (.ref a), some (vi (if p1 < (pt k) then (pt k) else p1)), some (vi (k : Int))]) dX0_highest_22 rfl (by decide) rfl ?_
        refine x_iinc C (ls' := [some (.ref a), some (vi (if p1 < (pt k) then (pt k) else p1)), some (vi ((k : Int) + 1))]) dX0_highest_23 rfl (by decide) (z1 := ((k : Int) + 1)) rfl rfl ?_
        refine x_goto C (tgt := 4) dX0_highest_26 (by decide) ?_
        exact ih_L (k + 1) (if p1 < (pt k) then (pt k) else p1) (by omega) (by omega) (by show (if _ < _ then _ else _) = _; rw [i2])
  exact L _ 0 0 (Nat.lt_succ_self _) (by omega) (rfl)

set_option maxRecDepth 100000 in
set_option maxHeartbeats 4000000 in
theorem c_Instr_init {G : xG} {h : PH} {a : Nat} (hA : h a = xO 3 [.null, .null, vi 0, vi 0, vi 0]) : Cn G m_Instr_init 1 2 12 [.ref a] h (fun r h' => r = none ∧ ∃ o s, h o = none ∧ h s = none ∧ o ≠ s ∧ h' = va_up (va_up (va_up h a (xO 3 [.ref o, .ref s, vi 0, vi 0, vi 3])) o (xI G 6 (fun _ => 0))) s (xZ G 6 (fun _ => false))) := by
  refine Cn_of (by decide) (Nat.le_of_ble_eq_true rfl) (fun K C hR E => ?_)
  show X G K 1 0 [some (.ref a)] [] h 0 0
  refine X.heq (up_self hA).symm ?_
  refine x_aload_n C dX4_init_0 rfl rfl ?_
  refine x_objI C s_Instr_3 o_inst o_code (Nat.le_of_ble_eq_true rfl) hR (by omega) dX4_init_1 ?_
  refine x_aload_n C dX4_init_4 rfl rfl ?_
  refine x_bipush C (z := 6) dX4_init_5 (by decide) ?_
  refine x_newI C (n := 6) ⟨by omega, by omega⟩ arrayClass_int hR (by omega) (by omega) dX4_init_7 (fun o zo => ?_)
  have ne_a_o : a ≠ o := fun e => by rw [← e] at zo; exact absurd (zo.symm.trans up_s) (by intro h9; cases h9)
  refine x_putF C p_Instr_9 E.2.1 ((up_n ne_a_o).trans up_s) (fit_arr _ _) (Nat.le_of_ble_eq_true rfl) (h1 := (va_up (va_up h a (xO 3 [.ref o, .null, vi 0, vi 0, vi 0])) o (xI G 6 (fun _ => 0)))) ((up_c _ _ _ (Ne.symm ne_a_o)).trans (congrArg (fun f => va_up f o _) (up_u _ _ _ _))) dX4_init_9 ?_
  refine x_aload_n C dX4_init_12 rfl rfl ?_
  refine x_bipush C (z := 6) dX4_init_13 (by decide) ?_
  refine x_newZ C (n := 6) ⟨by omega, by omega⟩ arrayClass_boolean hR (by omega) (by omega) dX4_init_15 (fun s zs => ?_)
  have ne_a_s : a ≠ s := fun e => by rw [← e] at zs; exact absurd (zs.symm.trans ((up_n ne_a_o).trans up_s)) (by intro h9; cases h9)
  have ne_o_s : o ≠ s := fun e => by rw [← e] at zs; exact absurd (zs.symm.trans up_s) (by intro h9; cases h9)
  refine x_putF C p_Instr_15 E.2.1 ((up_n ne_a_s).trans ((up_n ne_a_o).trans up_s)) (fit_arr _ _) (Nat.le_of_ble_eq_true rfl) (h1 := (va_up (va_up (va_up h a (xO 3 [.ref o, .ref s, vi 0, vi 0, vi 0])) o (xI G 6 (fun _ => 0))) s (xZ G 6 (fun _ => false)))) ((up_c _ _ _ (Ne.symm ne_a_s)).trans (congrArg (fun f => va_up f s _) ((up_c _ _ _ (Ne.symm ne_a_o)).trans (congrArg (fun f => va_up f o _) (up_u _ _ _ _))))) dX4_init_17 ?_
  refine x_aload_n C dX4_init_20 rfl rfl ?_
  refine x_iconst C dX4_init_21 ?_
  refine x_put C p_Instr_19 ((up_n ne_a_s).trans ((up_n ne_a_o).trans up_s)) (fit_int _) (Nat.le_of_ble_eq_true rfl) (h1 := (va_up (va_up (va_up h a (xO 3 [.ref o, .ref s, vi 0, vi 0, vi 0])) o (xI G 6 (fun _ => 0))) s (xZ G 6 (fun _ => false)))) ((up_c _ _ _ (Ne.symm ne_a_s)).trans (congrArg (fun f => va_up f s _) ((up_c _ _ _ (Ne.symm ne_a_o)).trans (congrArg (fun f => va_up f o _) (up_u _ _ _ _))))) dX4_init_22 ?_
  refine x_aload_n C dX4_init_25 rfl rfl ?_
  refine x_iconst C dX4_init_26 ?_
  refine x_put C p_Instr_23 ((up_n ne_a_s).trans ((up_n ne_a_o).trans up_s)) (fit_int _) (Nat.le_of_ble_eq_true rfl) (h1 := (va_up (va_up (va_up h a (xO 3 [.ref o, .ref s, vi 0, vi 0, vi 0])) o (xI G 6 (fun _ => 0))) s (xZ G 6 (fun _ => false)))) ((up_c _ _ _ (Ne.symm ne_a_s)).trans (congrArg (fun f => va_up f s _) ((up_c _ _ _ (Ne.symm ne_a_o)).trans (congrArg (fun f => va_up f o _) (up_u _ _ _ _))))) dX4_init_27 ?_
  refine x_aload_n C dX4_init_30 rfl rfl ?_
  refine x_iconst C dX4_init_31 ?_
  refine x_put C p_Instr_26 ((up_n ne_a_s).trans ((up_n ne_a_o).trans up_s)) (fit_int _) (Nat.le_of_ble_eq_true rfl) (h1 := (va_up (va_up (va_up h a (xO 3 [.ref o, .ref s, vi 0, vi 0, vi 3])) o (xI G 6 (fun _ => 0))) s (xZ G 6 (fun _ => false)))) ((up_c _ _ _ (Ne.symm ne_a_s)).trans (congrArg (fun f => va_up f s _) ((up_c _ _ _ (Ne.symm ne_a_o)).trans (congrArg (fun f => va_up f o _) (up_u _ _ _ _))))) dX4_init_32 ?_
  have fo : h o = none := by rw [← zo]; exact (up_n (Ne.symm ne_a_o)).symm
  have fs : h s = none := by rw [← zs]; exact ((up_n (Ne.symm ne_o_s)).trans (up_n (Ne.symm ne_a_s))).symm
  exact x_vret C E rfl (by omega) (by omega) dX4_init_35 (⟨rfl, o, s, fo, fs, ne_o_s, rfl⟩)

set_option maxRecDepth 100000 in
set_option maxHeartbeats 4000000 in
theorem c_Instr_draw {G : xG} {h : PH} {a o s n : Nat} {cp rc : Int} {op : Nat → Int} {sl : Nat → Bool} (hA : h a = xO 3 [.ref o, .ref s, vi (n : Int), vi cp, vi rc]) (hn : n < 6) (hO : h o = xI G 6 op) (hS : h s = xZ G 6 sl) (nao : a ≠ o) (nas : a ≠ s) (nos : o ≠ s) {p : Int} : Cn G m_Instr_draw 0 0 0 [.ref a, vi p] h (fun r h' => r = some (vi (n : Int)) ∧ h' = va_up (va_up (va_up h a (xO 3 [.ref o, .ref s, vi ((n : Int) + 1), vi cp, vi rc])) o (xI G 6 (va_up op n p))) s (xZ G 6 (va_up sl n false))) := by
  refine Cn_of (by decide) (Nat.le_of_ble_eq_true rfl) (fun K C hR E => ?_)
  show X G K 2 0 [some (.ref a), some (vi p)] [] h 0 0
  refine X.heq (up_self hA).symm ?_
  refine X.heq (up_self ((up_n (Ne.symm nao)).trans hO)).symm ?_
  refine X.heq (up_self ((up_n (Ne.symm nos)).trans ((up_n (Ne.symm nas)).trans hS))).symm ?_
  refine x_aload_n C dX4_draw_0 rfl rfl ?_
  refine x_get C f_Instr_19 ((up_n nas).trans ((up_n nao).trans up_s)) rfl dX4_draw_1 ?_
  refine x_bipush C (z := 6) dX4_draw_4 (by decide) ?_
  refine x_icmp_lt C (tgt := 11) dX4_draw_6 (by decide) ⟨by omega, by omega⟩ (by decide) (fun c6 => ?_) (fun c6 => ?_)
  · skip
    refine x_aload_n C dX4_draw_11 rfl rfl ?_
    refine x_get C f_Instr_9 ((up_n nas).trans ((up_n nao).trans up_s)) rfl dX4_draw_12 ?_
    refine x_aload_n C dX4_draw_15 rfl rfl ?_
    refine x_get C f_Instr_19 ((up_n nas).trans ((up_n nao).trans up_s)) rfl dX4_draw_16 ?_
    refine x_iload_n C dX4_draw_19 rfl rfl ?_
    refine x_iast C ((up_n nos).trans up_s) ⟨by omega, by omega, by omega⟩ (h1 := (va_up (va_up (va_up h a (xO 3 [.ref o, .ref s, vi (n : Int), vi cp, vi rc])) o (xI G 6 (va_up op n p))) s (xZ G 6 sl))) ((up_c _ _ _ (Ne.symm nos)).trans (congrArg (fun f => va_up f s _) (up_u _ _ _ _))) dX4_draw_20 ?_
    refine x_aload_n C dX4_draw_21 rfl rfl ?_
    refine x_get C f_Instr_15 ((up_n nas).trans ((up_n nao).trans up_s)) rfl dX4_draw_22 ?_
    refine x_aload_n C dX4_draw_25 rfl rfl ?_
    refine x_get C f_Instr_19 ((up_n nas).trans ((up_n nao).trans up_s)) rfl dX4_draw_26 ?_
    refine x_iconst C dX4_draw_29 ?_
    refine x_zast C (z := false) up_s ⟨by omega, by omega, by omega⟩ (h1 := (va_up (va_up (va_up h a (xO 3 [.ref o, .ref s, vi (n : Int), vi cp, vi rc])) o (xI G 6 (va_up op n p))) s (xZ G 6 (va_up sl n false)))) (up_u _ _ _ _) dX4_draw_30 ?_
    refine x_aload_n C dX4_draw_31 rfl rfl ?_
    refine x_dup C dX4_draw_32 rfl ?_
    refine x_get C f_Instr_19 ((up_n nas).trans ((up_n nao).trans up_s)) rfl dX4_draw_33 ?_
    refine x_iconst C dX4_draw_36 ?_
    refine x_iadd C dX4_draw_37 ?_
    refine x_put C p_Instr_19 ((up_n nas).trans ((up_n nao).trans up_s)) (fit_int _) (Nat.le_of_ble_eq_true rfl) (h1 := (va_up (va_up (va_up h a (xO 3 [.ref o, .ref s, vi ((n : Int) + 1), vi cp, vi rc])) o (xI G 6 (va_up op n p))) s (xZ G 6 (va_up sl n false)))) ((up_c _ _ _ (Ne.symm nas)).trans (congrArg (fun f => va_up f s _) ((up_c _ _ _ (Ne.symm nao)).trans (congrArg (fun f => va_up f o _) (up_u _ _ _ _))))) dX4_draw_38 ?_
    refine x_aload_n C dX4_draw_41 rfl rfl ?_
    refine x_get C f_Instr_19 ((up_n nas).trans ((up_n nao).trans up_s)) rfl dX4_draw_42 ?_
    refine x_iconst C dX4_draw_45 ?_
    refine x_isub C dX4_draw_46 ?_
    refine x_re (b := (n : Int)) (by omega) ?_
    exact x_iret C E rfl (by omega) (by omega) dX4_draw_47 (⟨rfl, rfl⟩)
  · skip
    exfalso; omega

set_option maxRecDepth 100000 in
set_option maxHeartbeats 4000000 in
theorem c_Instr_slackCount {G : xG} {h : PH} {a o s n : Nat} {cp rc : Int} {sl : Nat → Bool} (hA : h a = xO 3 [.ref o, .ref s, vi (n : Int), vi cp, vi rc]) (hS : h s = xZ G 6 sl) : Cn G m_Instr_slackCount 0 0 0 [.ref a] h (fun r h' => r = some (vi (slk sl 6)) ∧ h' = h) := by
  refine Cn_of (by decide) (Nat.le_of_ble_eq_true rfl) (fun K C hR E => ?_)
  show X G K 3 0 [some (.ref a), none, none] [] h 0 0
  refine x_iconst C dX4_slackCount_0 ?_
  refine x_istore_n C (ls' := [some (.ref a), some (vi 0), none]) dX4_slackCount_1 rfl (by decide) rfl ?_
  refine x_iconst C dX4_slackCount_2 ?_
  refine x_istore_n C (ls' := [some (.ref a), some (vi 0), some (vi 0)]) dX4_slackCount_3 rfl (by decide) rfl ?_
  have L : ∀ (n0 : Nat) (k : Nat) (p1 : Int), 6 - k < n0 → (k ≤ 6) → (slk sl k = p1) → X G K 3 4 [some (.ref a), some (vi p1), some (vi (k : Int))] [] h 0 0 := by
    intro n0
    induction n0 with
    | zero => intro k p1 hm; exact absurd hm (Nat.not_lt_zero _)
    | succ n0 ih_L =>
      intro k p1 hm i1 i2
      refine x_iload_n C dX4_slackCount_4 rfl rfl ?_
      refine x_bipush C (z := 6) dX4_slackCount_5 (by decide) ?_
      refine x_icmp_ge C (tgt := 28) dX4_slackCount_7 (by decide) ⟨by omega, by omega⟩ (by decide) (fun c7 => ?_) (fun c7 => ?_)
      · skip
        refine x_iload_n C dX4_slackCount_28 rfl rfl ?_
        have e0 : k = 6 := by omega
        subst e0
        exact x_iret C E rfl (by omega) (by omega) dX4_slackCount_29 (⟨by rw [i2], rfl⟩)
      · skip
        refine x_aload_n C dX4_slackCount_10 rfl rfl ?_
        refine x_get C f_Instr_15 hA rfl dX4_slackCount_11 ?_
        refine x_iload_n C dX4_slackCount_14 rfl rfl ?_
        refine x_zald C hS ⟨by omega, by omega, by omega⟩ (v := (sl k)) rfl dX4_slackCount_15 ?_
        refine x_ifeqB C (tgt := 22) dX4_slackCount_16 (by decide) (fun c16 => ?_) (fun c16 => ?_)
        · skip
          refine x_iinc C (ls' := [some (.ref a), some (vi p1), some (vi ((k : Int) + 1))]) dX4_slackCount_22 rfl (by decide) (z1 := ((k : Int) + 1)) rfl rfl ?_
          refine x_goto C (tgt := 4) dX4_slackCount_25 (by decide) ?_
          exact ih_L (k + 1) p1 (by omega) (by omega) (by show (if _ then _ else _) = _; rw [i2]; simp [c16])
        · skip
          refine x_iinc C (ls' := [some (.ref a), some (vi (p1 + 1)), some (vi (k : Int))]) dX4_slackCount_19 rfl (by decide) (z1 := (p1 + 1)) rfl rfl ?_
          refine x_iinc C (ls' := [some (.ref a), some (vi (p1 + 1)), some (vi ((k : Int) + 1))]) dX4_slackCount_22 rfl (by decide) (z1 := ((k : Int) + 1)) rfl rfl ?_
          refine x_goto C (tgt := 4) dX4_slackCount_25 (by decide) ?_
          exact ih_L (k + 1) (p1 + 1) (by omega) (by omega) (by show (if _ then _ else _) = _; rw [i2]; simp [c16])
  exact L _ 0 0 (Nat.lt_succ_self _) (by omega) (rfl)

set_option maxRecDepth 100000 in
set_option maxHeartbeats 4000000 in
theorem c_Instr_isUsed {G : xG} {h : PH} {a o s n : Nat} {cp rc : Int} {sl : Nat → Bool} (hA : h a = xO 3 [.ref o, .ref s, vi (n : Int), vi cp, vi rc]) {z : Nat} (hz : z < 6) (hn : n ≤ 6) (hS : h s = xZ G 6 sl) : Cn G m_Instr_isUsed 0 0 0 [.ref a, vi (z : Int)] h (fun r h' => r = some (vi (b2i (used n sl z))) ∧ h' = h) := by
  refine Cn_of (by decide) (Nat.le_of_ble_eq_true rfl) (fun K C hR E => ?_)
  show X G K 2 0 [some (.ref a), some (vi (z : Int))] [] h 0 0
  refine x_iload_n C dX4_isUsed_0 rfl rfl ?_
  refine x_if_lt C (tgt := 31) dX4_isUsed_1 (by decide) ⟨by omega, by omega⟩ (fun c1 => ?_) (fun c1 => ?_)
  · skip
    exfalso; omega
  · skip
    refine x_iload_n C dX4_isUsed_4 rfl rfl ?_
    refine x_aload_n C dX4_isUsed_5 rfl rfl ?_
    refine x_get C f_Instr_19 hA rfl dX4_isUsed_6 ?_
    refine x_icmp_ge C (tgt := 31) dX4_isUsed_9 (by decide) ⟨by omega, by omega⟩ ⟨by omega, by omega⟩ (fun c9 => ?_) (fun c9 => ?_)
    · skip
      refine x_iconst C dX4_isUsed_31 ?_
      exact x_zret C E rfl (by omega) (by omega) (z := false) dX4_isUsed_32 (⟨by rw [show used n sl z = false by unfold used; simp_all; try omega], rfl⟩)
    · skip
      refine x_iload_n C dX4_isUsed_12 rfl rfl ?_
      refine x_bipush C (z := 6) dX4_isUsed_13 (by decide) ?_
      refine x_icmp_ge C (tgt := 31) dX4_isUsed_15 (by decide) ⟨by omega, by omega⟩ (by decide) (fun c15 => ?_) (fun c15 => ?_)
      · skip
        exfalso; omega
      · skip
        refine x_aload_n C dX4_isUsed_18 rfl rfl ?_
        refine x_get C f_Instr_15 hA rfl dX4_isUsed_19 ?_
        refine x_iload_n C dX4_isUsed_22 rfl rfl ?_
        refine x_zald C hS ⟨by omega, by omega, by omega⟩ (v := (sl z)) rfl dX4_isUsed_23 ?_
        refine x_ifneB C (tgt := 31) dX4_isUsed_24 (by decide) (fun c24 => ?_) (fun c24 => ?_)
        · skip
          refine x_iconst C dX4_isUsed_31 ?_
          exact x_zret C E rfl (by omega) (by omega) (z := false) dX4_isUsed_32 (⟨by rw [show used n sl z = false by unfold used; simp_all; try omega], rfl⟩)
        · skip
          refine x_iconst C dX4_isUsed_27 ?_
          refine x_goto C (tgt := 32) dX4_isUsed_28 (by decide) ?_
          exact x_zret C E rfl (by omega) (by omega) (z := true) dX4_isUsed_32 (⟨by rw [show used n sl z = true by unfold used; simp_all; try omega], rfl⟩)

set_option maxRecDepth 100000 in
set_option maxHeartbeats 4000000 in
theorem c_Instr_lastFret {G : xG} {h : PH} {a : Nat} {v1 v2 : Value} {n cp rc : Int} (hA : h a = xO 3 [v1, v2, vi n, vi cp, vi rc]) : Cn G m_Instr_lastFret 0 0 0 [.ref a] h (fun r h' => r = some (vi (12 - cp)) ∧ h' = h) := by
  refine Cn_of (by decide) (Nat.le_of_ble_eq_true rfl) (fun K C hR E => ?_)
  show X G K 1 0 [some (.ref a)] [] h 0 0
  refine x_bipush C (z := 12) dX4_lastFret_0 (by decide) ?_
  refine x_aload_n C dX4_lastFret_2 rfl rfl ?_
  refine x_get C f_Instr_23 hA rfl dX4_lastFret_3 ?_
  refine x_isub C dX4_lastFret_6 ?_
  exact x_iret C E rfl (by omega) (by omega) dX4_lastFret_7 (⟨rfl, rfl⟩)

set_option maxRecDepth 100000 in
set_option maxHeartbeats 4000000 in
theorem c_Instr_pitchOf {G : xG} {h : PH} {a o s n : Nat} {cp rc : Int} {op : Nat → Int} {sl : Nat → Bool} (hA : h a = xO 3 [.ref o, .ref s, vi (n : Int), vi cp, vi rc]) (hO : h o = xI G 6 op) (hS : h s = xZ G 6 sl) (hn : n ≤ 6) {z : Nat} (hz : z < 6) {f : Int} : Cn G m_Instr_pitchOf 1 0 0 [.ref a, vi (z : Int), vi f] h (fun r h' => r = some (vi (if used n sl z = true then op z + cp + f else -1)) ∧ h' = h) := by
  refine Cn_of (by decide) (Nat.le_of_ble_eq_true rfl) (fun K C hR E => ?_)
  show X G K 3 0 [some (.ref a), some (vi (z : Int)), some (vi f)] [] h 0 0
  refine x_aload_n C dX4_pitchOf_0 rfl rfl ?_
  refine x_iload_n C dX4_pitchOf_1 rfl rfl ?_
  refine x_invV C s_Instr_29 (st := []) (c_Instr_isUsed hA hz hn hS) hA rfl rfl (Nat.le_of_ble_eq_true rfl) (xRm_of hR (by omega) (by decide) (by omega) (by omega)) dX4_pitchOf_2 (fun r9 h9 hq => ?_)
  obtain ⟨rfl, e9⟩ := hq
  have e9 := e9.symm
  subst e9
  refine x_ifeqB C (tgt := 24) dX4_pitchOf_5 (by decide) (fun c5 => ?_) (fun c5 => ?_)
  · skip
    refine x_iconst C dX4_pitchOf_24 ?_
    exact x_iret C E rfl (by omega) (by omega) dX4_pitchOf_25 (⟨by rw [if_neg (by rw [c5]; decide)], rfl⟩)
  · skip
    refine x_aload_n C dX4_pitchOf_8 rfl rfl ?_
    refine x_get C f_Instr_9 hA rfl dX4_pitchOf_9 ?_
    refine x_iload_n C dX4_pitchOf_12 rfl rfl ?_
    refine x_iald C hO ⟨by omega, by omega, by omega⟩ (v := (op z)) rfl dX4_pitchOf_13 ?_
    refine x_aload_n C dX4_pitchOf_14 rfl rfl ?_
    refine x_get C f_Instr_23 hA rfl dX4_pitchOf_15 ?_
    refine x_iadd C dX4_pitchOf_18 ?_
    refine x_iload_n C dX4_pitchOf_19 rfl rfl ?_
    refine x_iadd C dX4_pitchOf_20 ?_
    refine x_goto C (tgt := 25) dX4_pitchOf_21 (by decide) ?_
    exact x_iret C E rfl (by omega) (by omega) dX4_pitchOf_25 (⟨by rw [if_pos c5], rfl⟩)

set_option maxRecDepth 100000 in
set_option maxHeartbeats 4000000 in
theorem c_Instr_fretFor {G : xG} {h : PH} {a o s n : Nat} {cp rc : Int} {op : Nat → Int} {sl : Nat → Bool} (hA : h a = xO 3 [.ref o, .ref s, vi (n : Int), vi cp, vi rc]) (hO : h o = xI G 6 op) (hS : h s = xZ G 6 sl) (hn : n ≤ 6) {z : Nat} (hz : z < 6) {p : Int} (hop : ∀ j : Nat, j < 6 → 0 ≤ op j ∧ op j ≤ 1000) (hcp : 0 ≤ cp ∧ cp ≤ 12) (hp : 0 ≤ p ∧ p ≤ 1000) : Cn G m_Instr_fretFor 1 0 0 [.ref a, vi (z : Int), vi p] h (fun r h' => r = some (vi (fretF n op sl cp z p)) ∧ h' = h) := by
  refine Cn_of (by decide) (Nat.le_of_ble_eq_true rfl) (fun K C hR E => ?_)
  show X G K 4 0 [some (.ref a), some (vi (z : Int)), some (vi p), none] [] h 0 0
  have hoz := hop z hz
  refine x_aload_n C dX4_fretFor_0 rfl rfl ?_
  refine x_iload_n C dX4_fretFor_1 rfl rfl ?_
  refine x_invV C s_Instr_29 (st := []) (c_Instr_isUsed hA hz hn hS) hA rfl rfl (Nat.le_of_ble_eq_true rfl) (xRm_of hR (by omega) (by decide) (by omega) (by omega)) dX4_fretFor_2 (fun r9 h9 hq => ?_)
  obtain ⟨rfl, e9⟩ := hq
  have e9 := e9.symm
  subst e9
  refine x_ifneB C (tgt := 10) dX4_fretFor_5 (by decide) (fun c5 => ?_) (fun c5 => ?_)
  · skip
    refine x_iload_n C dX4_fretFor_10 rfl rfl ?_
    refine x_aload_n C dX4_fretFor_11 rfl rfl ?_
    refine x_get C f_Instr_9 hA rfl dX4_fretFor_12 ?_
    refine x_iload_n C dX4_fretFor_15 rfl rfl ?_
    refine x_iald C hO ⟨by omega, by omega, by omega⟩ (v := (op z)) rfl dX4_fretFor_16 ?_
    refine x_isub C dX4_fretFor_17 ?_
    refine x_aload_n C dX4_fretFor_18 rfl rfl ?_
    refine x_get C f_Instr_23 hA rfl dX4_fretFor_19 ?_
    refine x_isub C dX4_fretFor_22 ?_
    refine x_istore_n C (ls' := [some (.ref a), some (vi (z : Int)), some (vi p), some (vi ((p - (op z)) - cp))]) dX4_fretFor_23 rfl (by decide) rfl ?_
    refine x_iload_n C dX4_fretFor_24 rfl rfl ?_
    refine x_if_lt C (tgt := 40) dX4_fretFor_25 (by decide) ⟨by omega, by omega⟩ (fun c25 => ?_) (fun c25 => ?_)
    · skip
      refine x_iconst C dX4_fretFor_40 ?_
      exact x_iret C E rfl (by omega) (by omega) dX4_fretFor_41 (⟨by unfold fretF; rw [if_neg (by intro q; omega)], rfl⟩)
    · skip
      refine x_iload_n C dX4_fretFor_28 rfl rfl ?_
      refine x_aload_n C dX4_fretFor_29 rfl rfl ?_
      refine x_invV C s_Instr_33 (st := [vi ((p - (op z)) - cp)]) (c_Instr_lastFret hA) hA rfl rfl (Nat.le_of_ble_eq_true rfl) (xRm_of hR (by omega) (by decide) (by omega) (by omega)) dX4_fretFor_30 (fun r9 h9 hq => ?_)
      obtain ⟨rfl, e9⟩ := hq
      have e9 := e9.symm
      subst e9
      refine x_icmp_gt C (tgt := 40) dX4_fretFor_33 (by decide) ⟨by omega, by omega⟩ ⟨by omega, by omega⟩ (fun c33 => ?_) (fun c33 => ?_)
      · skip
        refine x_iconst C dX4_fretFor_40 ?_
        exact x_iret C E rfl (by omega) (by omega) dX4_fretFor_41 (⟨by unfold fretF; rw [if_neg (by intro q; omega)], rfl⟩)
      · skip
        refine x_iload_n C dX4_fretFor_36 rfl rfl ?_
        refine x_goto C (tgt := 41) dX4_fretFor_37 (by decide) ?_
        exact x_iret C E rfl (by omega) (by omega) dX4_fretFor_41 (⟨by unfold fretF; rw [if_pos ⟨c5, by omega, by omega⟩], rfl⟩)
  · skip
    refine x_iconst C dX4_fretFor_8 ?_
    exact x_iret C E rfl (by omega) (by omega) dX4_fretFor_9 (⟨by unfold fretF; rw [if_neg (by rw [c5]; intro q; exact absurd q.1 (by decide))], rfl⟩)

set_option maxRecDepth 100000 in
set_option maxHeartbeats 4000000 in
theorem c_Instr_copy {G : xG} {h : PH} {a o s n : Nat} {cp rc : Int} {op : Nat → Int} {sl : Nat → Bool} (hA : h a = xO 3 [.ref o, .ref s, vi (n : Int), vi cp, vi rc]) (hO : h o = xI G 6 op) (hS : h s = xZ G 6 sl) {a2 o2 s2 n2 : Nat} {cp2 rc2 : Int} {op2 : Nat → Int} {sl2 : Nat → Bool} (hA2 : h a2 = xO 3 [.ref o2, .ref s2, vi (n2 : Int), vi cp2, vi rc2]) (hO2 : h o2 = xI G 6 op2) (hS2 : h s2 = xZ G 6 sl2) (nao : a ≠ o) (nas : a ≠ s) (nos : o ≠ s) (na2 : a2 ≠ a) (na2o : a2 ≠ o) (na2s : a2 ≠ s) (no2a : o2 ≠ a) (no2o : o2 ≠ o) (no2s : o2 ≠ s) (ns2a : s2 ≠ a) (ns2o : s2 ≠ o) (ns2s : s2 ≠ s) : Cn G m_Instr_copy 0 0 0 [.ref a, .ref a2] h (fun r h' => r = none ∧ h' = va_up (va_up (va_up h a (xO 3 [.ref o, .ref s, vi (n2 : Int), vi cp2, vi rc2])) o (xI G 6 op2)) s (xZ G 6 sl2)) := by
  refine Cn_of (by decide) (Nat.le_of_ble_eq_true rfl) (fun K C hR E => ?_)
  show X G K 3 0 [some (.ref a), some (.ref a2), none] [] h 0 0
  refine X.heq (up_self hA).symm ?_
  refine X.heq (up_self ((up_n (Ne.symm nao)).trans hO)).symm ?_
  refine X.heq (up_self ((up_n (Ne.symm nos)).trans ((up_n (Ne.symm nas)).trans hS))).symm ?_
  refine x_iconst C dX4_copy_0 ?_
  refine x_istore_n C (ls' := [some (.ref a), some (.ref a2), some (vi 0)]) dX4_copy_1 rfl (by decide) rfl ?_
  have L : ∀ (n0 : Nat) (k : Nat) (g1 : Nat → Int) (g2 : Nat → Bool), 6 - k < n0 → (k ≤ 6) → (∀ j : Nat, j < k → g1 j = op2 j ∧ g2 j = sl2 j) → X G K 3 2 [some (.ref a), some (.ref a2), some (vi (k : Int))] [] (va_up (va_up (va_up h a (xO 3 [.ref o, .ref s, vi (n : Int), vi cp, vi rc])) o (xI G 6 g1)) s (xZ G 6 g2)) 0 0 := by
    intro n0
    induction n0 with
    | zero => intro k g1 g2 hm; exact absurd hm (Nat.not_lt_zero _)
    | succ n0 ih_L =>
      intro k g1 g2 hm i1 i2
      refine x_iload_n C dX4_copy_2 rfl rfl ?_
      refine x_bipush C (z := 6) dX4_copy_3 (by decide) ?_
      refine x_icmp_ge C (tgt := 38) dX4_copy_5 (by decide) ⟨by omega, by omega⟩ (by decide) (fun c5 => ?_) (fun c5 => ?_)
      · skip
        refine X.aeq (g' := op2) ((up_n nos).trans up_s) (fun j hj => (i2 j (by omega)).1) ?_
        refine X.heq (h1 := (va_up (va_up (va_up h a (xO 3 [.ref o, .ref s, vi (n : Int), vi cp, vi rc])) o (xI G 6 op2)) s (xZ G 6 g2))) ((up_c _ _ _ (Ne.symm nos)).trans (congrArg (fun f => va_up f s _) (up_u _ _ _ _))) ?_
        refine X.zeq (g' := sl2) up_s (fun j hj => (i2 j (by omega)).2) ?_
        refine X.heq (h1 := (va_up (va_up (va_up h a (xO 3 [.ref o, .ref s, vi (n : Int), vi cp, vi rc])) o (xI G 6 op2)) s (xZ G 6 sl2))) (up_u _ _ _ _) ?_
        refine x_aload_n C dX4_copy_38 rfl rfl ?_
        refine x_aload_n C dX4_copy_39 rfl rfl ?_
        refine x_get C f_Instr_19 ((up_n na2s).trans ((up_n na2o).trans ((up_n na2).trans hA2))) rfl dX4_copy_40 ?_
        refine x_put C p_Instr_19 ((up_n nas).trans ((up_n nao).trans up_s)) (fit_int _) (Nat.le_of_ble_eq_true rfl) (h1 := (va_up (va_up (va_up h a (xO 3 [.ref o, .ref s, vi (n2 : Int), vi cp, vi rc])) o (xI G 6 op2)) s (xZ G 6 sl2))) ((up_c _ _ _ (Ne.symm nas)).trans (congrArg (fun f => va_up f s _) ((up_c _ _ _ (Ne.symm nao)).trans (congrArg (fun f => va_up f o _) (up_u _ _ _ _))))) dX4_copy_43 ?_
        refine x_aload_n C dX4_copy_46 rfl rfl ?_
        refine x_aload_n C dX4_copy_47 rfl rfl ?_
        refine x_get C f_Instr_23 ((up_n na2s).trans ((up_n na2o).trans ((up_n na2).trans hA2))) rfl dX4_copy_48 ?_
        refine x_put C p_Instr_23 ((up_n nas).trans ((up_n nao).trans up_s)) (fit_int _) (Nat.le_of_ble_eq_true rfl) (h1 := (va_up (va_up (va_up h a (xO 3 [.ref o, .ref s, vi (n2 : Int), vi cp2, vi rc])) o (xI G 6 op2)) s (xZ G 6 sl2))) ((up_c _ _ _ (Ne.symm nas)).trans (congrArg (fun f => va_up f s _) ((up_c _ _ _ (Ne.symm nao)).trans (congrArg (fun f => va_up f o _) (up_u _ _ _ _))))) dX4_copy_51 ?_
        refine x_aload_n C dX4_copy_54 rfl rfl ?_
        refine x_aload_n C dX4_copy_55 rfl rfl ?_
        refine x_get C f_Instr_26 ((up_n na2s).trans ((up_n na2o).trans ((up_n na2).trans hA2))) rfl dX4_copy_56 ?_
        refine x_put C p_Instr_26 ((up_n nas).trans ((up_n nao).trans up_s)) (fit_int _) (Nat.le_of_ble_eq_true rfl) (h1 := (va_up (va_up (va_up h a (xO 3 [.ref o, .ref s, vi (n2 : Int), vi cp2, vi rc2])) o (xI G 6 op2)) s (xZ G 6 sl2))) ((up_c _ _ _ (Ne.symm nas)).trans (congrArg (fun f => va_up f s _) ((up_c _ _ _ (Ne.symm nao)).trans (congrArg (fun f => va_up f o _) (up_u _ _ _ _))))) dX4_copy_59 ?_
        exact x_vret C E rfl (by omega) (by omega) dX4_copy_62 (⟨rfl, rfl⟩)
      · skip
        refine x_aload_n C dX4_copy_8 rfl rfl ?_
        refine x_get C f_Instr_9 ((up_n nas).trans ((up_n nao).trans up_s)) rfl dX4_copy_9 ?_
        refine x_iload_n C dX4_copy_12 rfl rfl ?_
        refine x_aload_n C dX4_copy_13 rfl rfl ?_
        refine x_get C f_Instr_9 ((up_n na2s).trans ((up_n na2o).trans ((up_n na2).trans hA2))) rfl dX4_copy_14 ?_
        refine x_iload_n C dX4_copy_17 rfl rfl ?_
        refine x_iald C ((up_n no2s).trans ((up_n no2o).trans ((up_n no2a).trans hO2))) ⟨by omega, by omega, by omega⟩ (v := (op2 k)) rfl dX4_copy_18 ?_
        refine x_iast C ((up_n nos).trans up_s) ⟨by omega, by omega, by omega⟩ (h1 := (va_up (va_up (va_up h a (xO 3 [.ref o, .ref s, vi (n : Int), vi cp, vi rc])) o (xI G 6 (va_up g1 k (op2 k)))) s (xZ G 6 g2))) ((up_c _ _ _ (Ne.symm nos)).trans (congrArg (fun f => va_up f s _) (up_u _ _ _ _))) dX4_copy_19 ?_
        refine x_aload_n C dX4_copy_20 rfl rfl ?_
        refine x_get C f_Instr_15 ((up_n nas).trans ((up_n nao).trans up_s)) rfl dX4_copy_21 ?_
        refine x_iload_n C dX4_copy_24 rfl rfl ?_
        refine x_aload_n C dX4_copy_25 rfl rfl ?_
        refine x_get C f_Instr_15 ((up_n na2s).trans ((up_n na2o).trans ((up_n na2).trans hA2))) rfl dX4_copy_26 ?_
        refine x_iload_n C dX4_copy_29 rfl rfl ?_
        refine x_zald C ((up_n ns2s).trans ((up_n ns2o).trans ((up_n ns2a).trans hS2))) ⟨by omega, by omega, by omega⟩ (v := (sl2 k)) rfl dX4_copy_30 ?_
        refine x_zast C (z := (sl2 k)) up_s ⟨by omega, by omega, by omega⟩ (h1 := (va_up (va_up (va_up h a (xO 3 [.ref o, .ref s, vi (n : Int), vi cp, vi rc])) o (xI G 6 (va_up g1 k (op2 k)))) s (xZ G 6 (va_up g2 k (sl2 k))))) (up_u _ _ _ _) dX4_copy_31 ?_
        refine x_iinc C (ls' := [some (.ref a), some (.ref a2), some (vi ((k : Int) + 1))]) dX4_copy_32 rfl (by decide) (z1 := ((k : Int) + 1)) rfl rfl ?_
        refine x_goto C (tgt := 2) dX4_copy_35 (by decide) ?_
        exact ih_L (k + 1) (va_up g1 k (op2 k)) (va_up g2 k (sl2 k)) (by omega) (by omega) (fun j hj => by
          by_cases q : j = k
          · rw [q, up_s, up_s]; exact ⟨rfl, rfl⟩
          · rw [up_n q, up_n q]; exact i2 j (by omega))
  exact L _ 0 op sl (Nat.lt_succ_self _) (by omega) (fun j hj => absurd hj (Nat.not_lt_zero _))

/-- what Integer.bitCount reckons -/
def bcU (x k : Int32) : Int32 := (x.toUInt32 >>> (k.toUInt32 &&& Int32.toUInt32 31)).toInt32
def bc1 (x : Int32) : Int32 := x - (bcU x (I 1) &&& I 1431655765)
def bc2 (x : Int32) : Int32 := (x &&& I 858993459) + (bcU x (I 2) &&& I 858993459)
def bc3 (x : Int32) : Int32 := (x + bcU x (I 4)) &&& I 252645135
def bc4 (x : Int32) : Int32 := x + bcU x (I 8)
def bc5 (x : Int32) : Int32 := x + bcU x (I 16)
def bc (x : Int32) : Int32 := bc5 (bc4 (bc3 (bc2 (bc1 x)))) &&& I 63
set_option maxRecDepth 100000 in
theorem c_bitCount {G : xG} {h : PH} (x : Int32) : Cn G m_Integer_bitCount 0 0 0 [.int x] h (fun r h' => r = some (.int (bc x)) ∧ h' = h) := by
  refine Cn_of (by decide) (Nat.le_of_ble_eq_true rfl) (fun K C hR E => ?_)
  show X G K 1 0 [some (.int x)] [] h 0 0
  refine x_iload_n C dJ6_bitCount_0f7a4_0 rfl rfl ?_
  refine x_iload_n C dJ6_bitCount_0f7a4_1 rfl rfl ?_
  refine x_iconst C dJ6_bitCount_0f7a4_2 ?_
  refine xr_iushr C dJ6_bitCount_0f7a4_3 ?_
  refine x_ldcw C (z := 1431655765) k_Integer_265 dJ6_bitCount_0f7a4_4 ?_
  refine xr_iand C dJ6_bitCount_0f7a4_7 ?_
  refine xr_isub C dJ6_bitCount_0f7a4_8 ?_
  refine x_istore_n C (ls' := [some (.int (bc1 x))]) dJ6_bitCount_0f7a4_9 rfl (by decide) rfl ?_
  refine x_iload_n C dJ6_bitCount_0f7a4_10 rfl rfl ?_
  refine x_ldcw C (z := 858993459) k_Integer_266 dJ6_bitCount_0f7a4_11 ?_
  refine xr_iand C dJ6_bitCount_0f7a4_14 ?_
  refine x_iload_n C dJ6_bitCount_0f7a4_15 rfl rfl ?_
  refine x_iconst C dJ6_bitCount_0f7a4_16 ?_
  refine xr_iushr C dJ6_bitCount_0f7a4_17 ?_
  refine x_ldcw C (z := 858993459) k_Integer_266 dJ6_bitCount_0f7a4_18 ?_
  refine xr_iand C dJ6_bitCount_0f7a4_21 ?_
  refine xr_iadd C dJ6_bitCount_0f7a4_22 ?_
  refine x_istore_n C (ls' := [some (.int (bc2 (bc1 x)))]) dJ6_bitCount_0f7a4_23 rfl (by decide) rfl ?_
  refine x_iload_n C dJ6_bitCount_0f7a4_24 rfl rfl ?_
  refine x_iload_n C dJ6_bitCount_0f7a4_25 rfl rfl ?_
  refine x_iconst C dJ6_bitCount_0f7a4_26 ?_
  refine xr_iushr C dJ6_bitCount_0f7a4_27 ?_
  refine xr_iadd C dJ6_bitCount_0f7a4_28 ?_
  refine x_ldcw C (z := 252645135) k_Integer_267 dJ6_bitCount_0f7a4_29 ?_
  refine xr_iand C dJ6_bitCount_0f7a4_32 ?_
  refine x_istore_n C (ls' := [some (.int (bc3 (bc2 (bc1 x))))]) dJ6_bitCount_0f7a4_33 rfl (by decide) rfl ?_
  refine x_iload_n C dJ6_bitCount_0f7a4_34 rfl rfl ?_
  refine x_iload_n C dJ6_bitCount_0f7a4_35 rfl rfl ?_
  refine x_bipush C (z := 8) dJ6_bitCount_0f7a4_36 (by decide) ?_
  refine xr_iushr C dJ6_bitCount_0f7a4_38 ?_
  refine xr_iadd C dJ6_bitCount_0f7a4_39 ?_
  refine x_istore_n C (ls' := [some (.int (bc4 (bc3 (bc2 (bc1 x)))))]) dJ6_bitCount_0f7a4_40 rfl (by decide) rfl ?_
  refine x_iload_n C dJ6_bitCount_0f7a4_41 rfl rfl ?_
  refine x_iload_n C dJ6_bitCount_0f7a4_42 rfl rfl ?_
  refine x_bipush C (z := 16) dJ6_bitCount_0f7a4_43 (by decide) ?_
  refine xr_iushr C dJ6_bitCount_0f7a4_45 ?_
  refine xr_iadd C dJ6_bitCount_0f7a4_46 ?_
  refine x_istore_n C (ls' := [some (.int (bc5 (bc4 (bc3 (bc2 (bc1 x))))))]) dJ6_bitCount_0f7a4_47 rfl (by decide) rfl ?_
  refine x_iload_n C dJ6_bitCount_0f7a4_48 rfl rfl ?_
  refine x_bipush C (z := 63) dJ6_bitCount_0f7a4_49 (by decide) ?_
  refine xr_iand C dJ6_bitCount_0f7a4_51 ?_
  exact x_iret C E rfl (by omega) (by omega) dJ6_bitCount_0f7a4_52 ⟨rfl, rfl⟩
theorem bc_rg (x : Int32) : ∃ z : Int, bc x = I z ∧ 0 ≤ z ∧ z ≤ 63 := by
  refine ⟨(((bc5 (bc4 (bc3 (bc2 (bc1 x))))).toBitVec.toNat % 2 ^ 6 : Nat) : Int), pk_and _ 6 (by decide), ?_, ?_⟩
  · omega
  · omega
/-- the strings pressed anew: a bit for each -/
def npC (c d : Nat) : Nat := (((c ^^^ d) ||| (c ^^^ d) / 2 ^ 1) ||| (c ^^^ d) / 2 ^ 2) ||| (c ^^^ d) / 2 ^ 3
def npP (d : Nat) : Nat := (d / 2 ^ 1 ||| d / 2 ^ 2) ||| d / 2 ^ 3
def np (c d : Nat) : Nat := (npC c d &&& npP d) &&& 1118481

set_option maxRecDepth 100000 in
set_option maxHeartbeats 4000000 in
theorem c_newlyPressed {G : xG} {h : PH} {c d : Nat} (hc : c < 2 ^ 31) (hd9 : d < 2 ^ 31) : Cn G m_Code_newlyPressed 0 0 0 [vi (c : Int), vi (d : Int)] h (fun r h' => r = some (vi ((np c d : Nat) : Int)) ∧ h' = h) := by
  refine Cn_of (by decide) (Nat.le_of_ble_eq_true rfl) (fun K C hR E => ?_)
  show X G K 5 0 [some (vi (c : Int)), some (vi (d : Int)), none, none, none] [] h 0 0
  refine x_iload_n C dX1_newlyPressed_0 rfl rfl ?_
  refine x_iload_n C dX1_newlyPressed_1 rfl rfl ?_
  refine x_ixor C (c := ((c ^^^ d : Nat) : Int)) dX1_newlyPressed_2 (I_xor _ _) ?_
  refine x_istore_n C (ls' := [some (vi (c : Int)), some (vi (d : Int)), some (vi ((c ^^^ d : Nat) : Int)), none, none]) dX1_newlyPressed_3 rfl (by decide) rfl ?_
  refine x_iload_n C dX1_newlyPressed_4 rfl rfl ?_
  refine x_iload_n C dX1_newlyPressed_5 rfl rfl ?_
  refine x_iconst C dX1_newlyPressed_6 ?_
  refine x_ishr C (c := (((c ^^^ d) / 2 ^ 1 : Nat) : Int)) dX1_newlyPressed_7 (sh_r (Nat.xor_lt_two_pow hc hd9) (by decide)) ?_
  refine x_ior C (c := (((c ^^^ d) ||| (c ^^^ d) / 2 ^ 1 : Nat) : Int)) dX1_newlyPressed_8 (I_or _ _) ?_
  refine x_iload_n C dX1_newlyPressed_9 rfl rfl ?_
  refine x_iconst C dX1_newlyPressed_10 ?_
  refine x_ishr C (c := (((c ^^^ d) / 2 ^ 2 : Nat) : Int)) dX1_newlyPressed_11 (sh_r (Nat.xor_lt_two_pow hc hd9) (by decide)) ?_
  refine x_ior C (c := ((((c ^^^ d) ||| (c ^^^ d) / 2 ^ 1) ||| (c ^^^ d) / 2 ^ 2 : Nat) : Int)) dX1_newlyPressed_12 (I_or _ _) ?_
  refine x_iload_n C dX1_newlyPressed_13 rfl rfl ?_
  refine x_iconst C dX1_newlyPressed_14 ?_
  refine x_ishr C (c := (((c ^^^ d) / 2 ^ 3 : Nat) : Int)) dX1_newlyPressed_15 (sh_r (Nat.xor_lt_two_pow hc hd9) (by decide)) ?_
  refine x_ior C (c := ((npC c d : Nat) : Int)) dX1_newlyPressed_16 (I_or _ _) ?_
  refine x_istore_n C (ls' := [some (vi (c : Int)), some (vi (d : Int)), some (vi ((c ^^^ d : Nat) : Int)), some (vi ((npC c d : Nat) : Int)), none]) dX1_newlyPressed_17 rfl (by decide) rfl ?_
  refine x_iload_n C dX1_newlyPressed_18 rfl rfl ?_
  refine x_iconst C dX1_newlyPressed_19 ?_
  refine x_ishr C (c := ((d / 2 ^ 1 : Nat) : Int)) dX1_newlyPressed_20 (sh_r hd9 (by decide)) ?_
  refine x_iload_n C dX1_newlyPressed_21 rfl rfl ?_
  refine x_iconst C dX1_newlyPressed_22 ?_
  refine x_ishr C (c := ((d / 2 ^ 2 : Nat) : Int)) dX1_newlyPressed_23 (sh_r hd9 (by decide)) ?_
  refine x_ior C (c := ((d / 2 ^ 1 ||| d / 2 ^ 2 : Nat) : Int)) dX1_newlyPressed_24 (I_or _ _) ?_
  refine x_iload_n C dX1_newlyPressed_25 rfl rfl ?_
  refine x_iconst C dX1_newlyPressed_26 ?_
  refine x_ishr C (c := ((d / 2 ^ 3 : Nat) : Int)) dX1_newlyPressed_27 (sh_r hd9 (by decide)) ?_
  refine x_ior C (c := ((npP d : Nat) : Int)) dX1_newlyPressed_28 (I_or _ _) ?_
  refine x_istore C (ls' := [some (vi (c : Int)), some (vi (d : Int)), some (vi ((c ^^^ d : Nat) : Int)), some (vi ((npC c d : Nat) : Int)), some (vi ((npP d : Nat) : Int))]) dX1_newlyPressed_29 (by decide) rfl ?_
  refine x_iload_n C dX1_newlyPressed_31 rfl rfl ?_
  refine x_iload C dX1_newlyPressed_32 rfl ?_
  refine x_iand C (c := ((npC c d &&& npP d : Nat) : Int)) dX1_newlyPressed_34 (I_and _ _) ?_
  refine x_ldc C (z := 1118481) k_Code_11 dX1_newlyPressed_35 ?_
  refine x_iand C (c := ((np c d : Nat) : Int)) dX1_newlyPressed_37 (I_and _ 1118481) ?_
  exact x_iret C E rfl (by omega) (by omega) dX1_newlyPressed_38 (⟨rfl, rfl⟩)

set_option maxRecDepth 100000 in
set_option maxHeartbeats 4000000 in
theorem c_mix {G : xG} {h : PH} {d : Int64} {v : Int} : Cn G m_Tab_mix 0 0 0 [.long d, vi v] h (fun r h' => r = some (.long (d * 31 + (I v).toInt64)) ∧ h' = h) := by
  refine Cn_of (by decide) (Nat.le_of_ble_eq_true rfl) (fun K C hR E => ?_)
  show X G K 3 0 [some (.long d), none, some (vi v)] [] h 0 0
  refine x_lload_n C dX8_mix_0 rfl rfl ?_
  refine x_ldc2 C (v := 31) k_Tab_264 dX8_mix_1 ?_
  refine x_lmul C dX8_mix_4 ?_
  refine x_iload_n C dX8_mix_5 rfl rfl ?_
  refine x_i2l C dX8_mix_6 ?_
  refine x_ladd C dX8_mix_7 ?_
  exact x_lret C E rfl (by omega) (by omega) dX8_mix_8 (⟨rfl, rfl⟩)

set_option maxRecDepth 100000 in
set_option maxHeartbeats 4000000 in
theorem c_needOpen {G : xG} {h : PH} {v : Int} (hv : 0 ≤ v ∧ v ≤ 60) : Cn G m_Tab_needOpen 0 0 0 [vi v] h (fun r h' => r = none ∧ h' = h) := by
  refine Cn_of (by decide) (Nat.le_of_ble_eq_true rfl) (fun K C hR E => ?_)
  show X G K 1 0 [some (vi v)] [] h 0 0
  refine x_iload_n C dX8_needOpen_0 rfl rfl ?_
  refine x_if_lt C (tgt := 10) dX8_needOpen_1 (by decide) ⟨by omega, by omega⟩ (fun c1 => ?_) (fun c1 => ?_)
  · skip
    exfalso; omega
  · skip
    refine x_iload_n C dX8_needOpen_4 rfl rfl ?_
    refine x_bipush C (z := 60) dX8_needOpen_5 (by decide) ?_
    refine x_icmp_le C (tgt := 21) dX8_needOpen_7 (by decide) ⟨by omega, by omega⟩ (by decide) (fun c7 => ?_) (fun c7 => ?_)
    · skip
      exact x_vret C E rfl (by omega) (by omega) dX8_needOpen_21 (⟨rfl, rfl⟩)
    · skip
      exfalso; omega

set_option maxRecDepth 100000 in
set_option maxHeartbeats 4000000 in
theorem c_needCapo {G : xG} {h : PH} {v : Int} (hv : 0 ≤ v ∧ v ≤ 7) : Cn G m_Tab_needCapo 0 0 0 [vi v] h (fun r h' => r = none ∧ h' = h) := by
  refine Cn_of (by decide) (Nat.le_of_ble_eq_true rfl) (fun K C hR E => ?_)
  show X G K 1 0 [some (vi v)] [] h 0 0
  refine x_iload_n C dX8_needCapo_0 rfl rfl ?_
  refine x_if_lt C (tgt := 10) dX8_needCapo_1 (by decide) ⟨by omega, by omega⟩ (fun c1 => ?_) (fun c1 => ?_)
  · skip
    exfalso; omega
  · skip
    refine x_iload_n C dX8_needCapo_4 rfl rfl ?_
    refine x_bipush C (z := 7) dX8_needCapo_5 (by decide) ?_
    refine x_icmp_le C (tgt := 21) dX8_needCapo_7 (by decide) ⟨by omega, by omega⟩ (by decide) (fun c7 => ?_) (fun c7 => ?_)
    · skip
      exact x_vret C E rfl (by omega) (by omega) dX8_needCapo_21 (⟨rfl, rfl⟩)
    · skip
      exfalso; omega

set_option maxRecDepth 100000 in
set_option maxHeartbeats 4000000 in
theorem c_needReach {G : xG} {h : PH} {v : Int} (hv : 1 ≤ v ∧ v ≤ 6) : Cn G m_Tab_needReach 0 0 0 [vi v] h (fun r h' => r = none ∧ h' = h) := by
  refine Cn_of (by decide) (Nat.le_of_ble_eq_true rfl) (fun K C hR E => ?_)
  show X G K 1 0 [some (vi v)] [] h 0 0
  refine x_iload_n C dX8_needReach_0 rfl rfl ?_
  refine x_iconst C dX8_needReach_1 ?_
  refine x_icmp_lt C (tgt := 11) dX8_needReach_2 (by decide) ⟨by omega, by omega⟩ (by decide) (fun c2 => ?_) (fun c2 => ?_)
  · skip
    exfalso; omega
  · skip
    refine x_iload_n C dX8_needReach_5 rfl rfl ?_
    refine x_bipush C (z := 6) dX8_needReach_6 (by decide) ?_
    refine x_icmp_le C (tgt := 22) dX8_needReach_8 (by decide) ⟨by omega, by omega⟩ (by decide) (fun c8 => ?_) (fun c8 => ?_)
    · skip
      exact x_vret C E rfl (by omega) (by omega) dX8_needReach_22 (⟨rfl, rfl⟩)
    · skip
      exfalso; omega

set_option maxRecDepth 100000 in
set_option maxHeartbeats 4000000 in
theorem c_needQuestion {G : xG} {h : PH} {v m : Int} (hv : 0 ≤ v ∧ v ≤ m ∧ m ≤ 1000) : Cn G m_Tab_needQuestion 0 0 0 [vi v, vi m] h (fun r h' => r = none ∧ h' = h) := by
  refine Cn_of (by decide) (Nat.le_of_ble_eq_true rfl) (fun K C hR E => ?_)
  show X G K 2 0 [some (vi v), some (vi m)] [] h 0 0
  refine x_iload_n C dX8_needQuestion_0 rfl rfl ?_
  refine x_if_lt C (tgt := 9) dX8_needQuestion_1 (by decide) ⟨by omega, by omega⟩ (fun c1 => ?_) (fun c1 => ?_)
  · skip
    exfalso; omega
  · skip
    refine x_iload_n C dX8_needQuestion_4 rfl rfl ?_
    refine x_iload_n C dX8_needQuestion_5 rfl rfl ?_
    refine x_icmp_le C (tgt := 20) dX8_needQuestion_6 (by decide) ⟨by omega, by omega⟩ ⟨by omega, by omega⟩ (fun c6 => ?_) (fun c6 => ?_)
    · skip
      exact x_vret C E rfl (by omega) (by omega) dX8_needQuestion_20 (⟨rfl, rfl⟩)
    · skip
      exfalso; omega

set_option maxRecDepth 100000 in
set_option maxHeartbeats 4000000 in
theorem c_isPitch {G : xG} {h : PH} {v : Int} (hv : bd v) : Cn G m_Tab_isPitch 0 0 0 [vi v] h (fun r h' => r = some (vi (b2i (decide (0 ≤ v ∧ v ≤ 80)))) ∧ h' = h) := by
  refine Cn_of (by decide) (Nat.le_of_ble_eq_true rfl) (fun K C hR E => ?_)
  show X G K 1 0 [some (vi v)] [] h 0 0
  refine x_iload_n C dX8_isPitch_0 rfl rfl ?_
  refine x_if_lt C (tgt := 14) dX8_isPitch_1 (by decide) ⟨by omega, by omega⟩ (fun c1 => ?_) (fun c1 => ?_)
  · skip
    refine x_iconst C dX8_isPitch_14 ?_
    exact x_zret C E rfl (by omega) (by omega) (z := false) dX8_isPitch_15 (⟨by rw [show decide (0 ≤ v ∧ v ≤ 80) = false by simp; try omega], rfl⟩)
  · skip
    refine x_iload_n C dX8_isPitch_4 rfl rfl ?_
    refine x_bipush C (z := 80) dX8_isPitch_5 (by decide) ?_
    refine x_icmp_gt C (tgt := 14) dX8_isPitch_7 (by decide) ⟨by omega, by omega⟩ (by decide) (fun c7 => ?_) (fun c7 => ?_)
    · skip
      refine x_iconst C dX8_isPitch_14 ?_
      exact x_zret C E rfl (by omega) (by omega) (z := false) dX8_isPitch_15 (⟨by rw [show decide (0 ≤ v ∧ v ≤ 80) = false by simp; try omega], rfl⟩)
    · skip
      refine x_iconst C dX8_isPitch_10 ?_
      refine x_goto C (tgt := 15) dX8_isPitch_11 (by decide) ?_
      exact x_zret C E rfl (by omega) (by omega) (z := true) dX8_isPitch_15 (⟨by rw [show decide (0 ≤ v ∧ v ≤ 80) = true by simp; try omega], rfl⟩)

set_option maxRecDepth 100000 in
set_option maxHeartbeats 4000000 in
theorem c_isPitchOrNone {G : xG} {h : PH} {v : Int} (hv : bd v) : Cn G m_Tab_isPitchOrNone 1 0 0 [vi v] h (fun r h' => r = some (vi (b2i (decide (-1 ≤ v ∧ v ≤ 80)))) ∧ h' = h) := by
  refine Cn_of (by decide) (Nat.le_of_ble_eq_true rfl) (fun K C hR E => ?_)
  show X G K 1 0 [some (vi v)] [] h 0 0
  refine x_iload_n C dX8_isPitchOrNone_0 rfl rfl ?_
  refine x_iconst C dX8_isPitchOrNone_1 ?_
  refine x_icmp_eq C (tgt := 12) dX8_isPitchOrNone_2 (by decide) ⟨by omega, by omega⟩ (by decide) (fun c2 => ?_) (fun c2 => ?_)
  · skip
    refine x_iconst C dX8_isPitchOrNone_12 ?_
    refine x_goto C (tgt := 17) dX8_isPitchOrNone_13 (by decide) ?_
    exact x_zret C E rfl (by omega) (by omega) (z := true) dX8_isPitchOrNone_17 (⟨by rw [show decide (-1 ≤ v ∧ v ≤ 80) = true by simp; omega], rfl⟩)
  · skip
    refine x_iload_n C dX8_isPitchOrNone_5 rfl rfl ?_
    refine x_invS C s_Tab_103 (st := []) (c_isPitch hv) rfl rfl (Nat.le_of_ble_eq_true rfl) (xRm_of hR (by omega) (by decide) (by omega) (by omega)) dX8_isPitchOrNone_6 (fun r9 h9 hq => ?_)
    obtain ⟨rfl, e9⟩ := hq
    have e9 := e9.symm
    subst e9
    refine x_ifeqB C (tgt := 16) dX8_isPitchOrNone_9 (by decide) (fun c9 => ?_) (fun c9 => ?_)
    · skip
      rw [decide_eq_false_iff_not] at c9
      refine x_iconst C dX8_isPitchOrNone_16 ?_
      exact x_zret C E rfl (by omega) (by omega) (z := false) dX8_isPitchOrNone_17 (⟨by rw [show decide (-1 ≤ v ∧ v ≤ 80) = false by simp; omega], rfl⟩)
    · skip
      rw [decide_eq_true_eq] at c9
      refine x_iconst C dX8_isPitchOrNone_12 ?_
      refine x_goto C (tgt := 17) dX8_isPitchOrNone_13 (by decide) ?_
      exact x_zret C E rfl (by omega) (by omega) (z := true) dX8_isPitchOrNone_17 (⟨by rw [show decide (-1 ≤ v ∧ v ≤ 80) = true by simp; omega], rfl⟩)

def twice (a b c d : Int) : Bool := decide (a = b ∨ a = c ∨ a = d ∨ (b ≠ -1 ∧ (b = c ∨ b = d)) ∨ (c ≠ -1 ∧ c = d))

set_option maxRecDepth 100000 in
set_option maxHeartbeats 4000000 in
theorem c_hasTwice {G : xG} {h : PH} {a b c d : Int} (ha : bd a) (hb : bd b) (hc : bd c) (hd9 : bd d) : Cn G m_Tab_hasTwice 0 0 0 [vi a, vi b, vi c, vi d] h (fun r h' => r = some (vi (b2i (twice a b c d))) ∧ h' = h) := by
  refine Cn_of (by decide) (Nat.le_of_ble_eq_true rfl) (fun K C hR E => ?_)
  show X G K 4 0 [some (vi a), some (vi b), some (vi c), some (vi d)] [] h 0 0
  refine x_iload_n C dX8_hasTwice_0 rfl rfl ?_
  refine x_iload_n C dX8_hasTwice_1 rfl rfl ?_
  refine x_icmp_eq C (tgt := 40) dX8_hasTwice_2 (by decide) ⟨by omega, by omega⟩ ⟨by omega, by omega⟩ (fun c2 => ?_) (fun c2 => ?_)
  · skip
    refine x_iconst C dX8_hasTwice_40 ?_
    refine x_goto C (tgt := 45) dX8_hasTwice_41 (by decide) ?_
    exact x_zret C E rfl (by omega) (by omega) (z := true) dX8_hasTwice_45 (⟨by rw [show twice a b c d = true by unfold twice; simp; omega], rfl⟩)
  · skip
    refine x_iload_n C dX8_hasTwice_5 rfl rfl ?_
    refine x_iload_n C dX8_hasTwice_6 rfl rfl ?_
    refine x_icmp_eq C (tgt := 40) dX8_hasTwice_7 (by decide) ⟨by omega, by omega⟩ ⟨by omega, by omega⟩ (fun c7 => ?_) (fun c7 => ?_)
    · skip
      refine x_iconst C dX8_hasTwice_40 ?_
      refine x_goto C (tgt := 45) dX8_hasTwice_41 (by decide) ?_
      exact x_zret C E rfl (by omega) (by omega) (z := true) dX8_hasTwice_45 (⟨by rw [show twice a b c d = true by unfold twice; simp; omega], rfl⟩)
    · skip
      refine x_iload_n C dX8_hasTwice_10 rfl rfl ?_
      refine x_iload_n C dX8_hasTwice_11 rfl rfl ?_
      refine x_icmp_eq C (tgt := 40) dX8_hasTwice_12 (by decide) ⟨by omega, by omega⟩ ⟨by omega, by omega⟩ (fun c12 => ?_) (fun c12 => ?_)
      · skip
        refine x_iconst C dX8_hasTwice_40 ?_
        refine x_goto C (tgt := 45) dX8_hasTwice_41 (by decide) ?_
        exact x_zret C E rfl (by omega) (by omega) (z := true) dX8_hasTwice_45 (⟨by rw [show twice a b c d = true by unfold twice; simp; omega], rfl⟩)
      · skip
        refine x_iload_n C dX8_hasTwice_15 rfl rfl ?_
        refine x_iconst C dX8_hasTwice_16 ?_
        refine x_icmp_eq C (tgt := 30) dX8_hasTwice_17 (by decide) ⟨by omega, by omega⟩ (by decide) (fun c17 => ?_) (fun c17 => ?_)
        · skip
          refine x_iload_n C dX8_hasTwice_30 rfl rfl ?_
          refine x_iconst C dX8_hasTwice_31 ?_
          refine x_icmp_eq C (tgt := 44) dX8_hasTwice_32 (by decide) ⟨by omega, by omega⟩ (by decide) (fun c32 => ?_) (fun c32 => ?_)
          · skip
            refine x_iconst C dX8_hasTwice_44 ?_
            exact x_zret C E rfl (by omega) (by omega) (z := false) dX8_hasTwice_45 (⟨by rw [show twice a b c d = false by unfold twice; simp; omega], rfl⟩)
          · skip
            refine x_iload_n C dX8_hasTwice_35 rfl rfl ?_
            refine x_iload_n C dX8_hasTwice_36 rfl rfl ?_
            refine x_icmp_ne C (tgt := 44) dX8_hasTwice_37 (by decide) ⟨by omega, by omega⟩ ⟨by omega, by omega⟩ (fun c37 => ?_) (fun c37 => ?_)
            · skip
              refine x_iconst C dX8_hasTwice_44 ?_
              exact x_zret C E rfl (by omega) (by omega) (z := false) dX8_hasTwice_45 (⟨by rw [show twice a b c d = false by unfold twice; simp; omega], rfl⟩)
            · skip
              refine x_iconst C dX8_hasTwice_40 ?_
              refine x_goto C (tgt := 45) dX8_hasTwice_41 (by decide) ?_
              exact x_zret C E rfl (by omega) (by omega) (z := true) dX8_hasTwice_45 (⟨by rw [show twice a b c d = true by unfold twice; simp; omega], rfl⟩)
        · skip
          refine x_iload_n C dX8_hasTwice_20 rfl rfl ?_
          refine x_iload_n C dX8_hasTwice_21 rfl rfl ?_
          refine x_icmp_eq C (tgt := 40) dX8_hasTwice_22 (by decide) ⟨by omega, by omega⟩ ⟨by omega, by omega⟩ (fun c22 => ?_) (fun c22 => ?_)
          · skip
            refine x_iconst C dX8_hasTwice_40 ?_
            refine x_goto C (tgt := 45) dX8_hasTwice_41 (by decide) ?_
            exact x_zret C E rfl (by omega) (by omega) (z := true) dX8_hasTwice_45 (⟨by rw [show twice a b c d = true by unfold twice; simp; omega], rfl⟩)
          · skip
            refine x_iload_n C dX8_hasTwice_25 rfl rfl ?_
            refine x_iload_n C dX8_hasTwice_26 rfl rfl ?_
            refine x_icmp_eq C (tgt := 40) dX8_hasTwice_27 (by decide) ⟨by omega, by omega⟩ ⟨by omega, by omega⟩ (fun c27 => ?_) (fun c27 => ?_)
            · skip
              refine x_iconst C dX8_hasTwice_40 ?_
              refine x_goto C (tgt := 45) dX8_hasTwice_41 (by decide) ?_
              exact x_zret C E rfl (by omega) (by omega) (z := true) dX8_hasTwice_45 (⟨by rw [show twice a b c d = true by unfold twice; simp; omega], rfl⟩)
            · skip
              refine x_iload_n C dX8_hasTwice_30 rfl rfl ?_
              refine x_iconst C dX8_hasTwice_31 ?_
              refine x_icmp_eq C (tgt := 44) dX8_hasTwice_32 (by decide) ⟨by omega, by omega⟩ (by decide) (fun c32 => ?_) (fun c32 => ?_)
              · skip
                refine x_iconst C dX8_hasTwice_44 ?_
                exact x_zret C E rfl (by omega) (by omega) (z := false) dX8_hasTwice_45 (⟨by rw [show twice a b c d = false by unfold twice; simp; omega], rfl⟩)
              · skip
                refine x_iload_n C dX8_hasTwice_35 rfl rfl ?_
                refine x_iload_n C dX8_hasTwice_36 rfl rfl ?_
                refine x_icmp_ne C (tgt := 44) dX8_hasTwice_37 (by decide) ⟨by omega, by omega⟩ ⟨by omega, by omega⟩ (fun c37 => ?_) (fun c37 => ?_)
                · skip
                  refine x_iconst C dX8_hasTwice_44 ?_
                  exact x_zret C E rfl (by omega) (by omega) (z := false) dX8_hasTwice_45 (⟨by rw [show twice a b c d = false by unfold twice; simp; omega], rfl⟩)
                · skip
                  refine x_iconst C dX8_hasTwice_40 ?_
                  refine x_goto C (tgt := 45) dX8_hasTwice_41 (by decide) ?_
                  exact x_zret C E rfl (by omega) (by omega) (z := true) dX8_hasTwice_45 (⟨by rw [show twice a b c d = true by unfold twice; simp; omega], rfl⟩)
