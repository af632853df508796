/-! GripCode and Hand. -/
/-- what countSounding counts: sounding, skipped, silent since -/
def csS (v : Int) (p : Int × Int × Int) : Int × Int × Int := if v = -1 then (p.1, p.2.1, p.2.2 + 1) else (p.1 + 1, p.2.1 + (if p.1 = 0 then 0 else p.2.2), 0)
def cs (f : Nat → Int) : Nat → Int × Int × Int
  | 0 => (0, 0, 0)
  | n + 1 => csS (f n) (cs f n)
/-- low, high, pressed -/
def cpS (v : Int) (p : Int × Int × Int) : Int × Int × Int := if 0 < v then (if p.1 = 0 ∨ v < p.1 then v else p.1, if p.2.1 < v then v else p.2.1, p.2.2 + 1) else p
def cp (f : Nat → Int) : Nat → Int × Int × Int
  | 0 => (0, 0, 0)
  | n + 1 => cpS (f n) (cp f n)
/-- pressed at low, an open string behind the first one, cut -/
def fbS (low v : Int) (p : Int × Bool × Bool) : Int × Bool × Bool :=
  let ob := if v = 0 ∧ 0 < p.1 then true else p.2.1
  if 0 < v ∧ v = low then (p.1 + 1, ob, ob) else (p.1, ob, p.2.2)
def fb (f : Nat → Int) (low : Int) : Nat → Int × Bool × Bool
  | 0 => (0, false, false)
  | n + 1 => fbS low (f n) (fb f low n)
def hLow (f : Nat → Int) : Int := (cp f 6).1
def hHigh (f : Nat → Int) : Int := (cp f 6).2.1
def hPr (f : Nat → Int) : Int := (cp f 6).2.2
def hSnd (f : Nat → Int) : Int := (cs f 6).1
def hSkp (f : Nat → Int) : Int := (cs f 6).2.1
def hPal (f : Nat → Int) : Int := (fb f (hLow f) 6).1
def hBar (f : Nat → Int) : Bool := decide (2 ≤ hPal f) && !(fb f (hLow f) 6).2.2
def hFc (f : Nat → Int) : Int := if hBar f = true then hPr f - hPal f + 1 else hPr f
def hEff (f : Nat → Int) : Int := 2 * (hHigh f - hLow f) + hFc f + (if hBar f = true then 3 else 0) + hSkp f
def hPlay (f : Nat → Int) (reach : Int) : Bool := decide (hHigh f - hLow f ≤ reach) && decide (hFc f ≤ 4)
/-- how many come before string s -/
def bfS (f : Nat → Int) (s : Nat) (v : Int) (o : Nat) (p : Int) : Int := if 0 < v ∧ (v < f s ∨ v = f s ∧ o < s) then p + 1 else p
def bf (f : Nat → Int) (s : Nat) : Nat → Int
  | 0 => 0
  | n + 1 => bfS f s (f n) n (bf f s n)
def hFin (f : Nat → Int) (s : Nat) : Int := if f s ≤ 0 then 0 else if hBar f = true ∧ f s = hLow f then 1 else if hBar f = true then bf f s 6 - hPal f + 2 else bf f s 6 + 1
/-- the hand's object that holds f -/
abbrev xHd (b : Nat) (f : Nat → Int) : Option va_E := xO 2 [vi (hLow f), vi (hHigh f), vi (hSnd f), vi (b2i (hBar f)), .ref b, vi (hPr f), vi (hPal f), vi (hSkp f)]
abbrev fbd (f : Nat → Int) : Prop := ∀ j : Nat, -1 ≤ f j ∧ f j ≤ 100
theorem cs_rg (f : Nat → Int) : ∀ n, 0 ≤ (cs f n).1 ∧ (cs f n).1 ≤ n ∧ 0 ≤ (cs f n).2.2 ∧ (cs f n).2.2 ≤ n ∧ 0 ≤ (cs f n).2.1 ∧ (cs f n).2.1 + (cs f n).2.2 ≤ n
  | 0 => by simp [cs]
  | n + 1 => by
    have h := cs_rg f n
    unfold cs csS
    by_cases c : f n = -1
    · simp only [c, if_true]; omega
    · simp only [c, if_false]
      by_cases d : (cs f n).1 = 0
      · simp only [d, if_true]; omega
      · simp only [d, if_false]; omega
theorem cp_rg {f : Nat → Int} (hf : fbd f) : ∀ n, 0 ≤ (cp f n).1 ∧ (cp f n).1 ≤ (cp f n).2.1 ∧ (cp f n).2.1 ≤ 100 ∧ 0 ≤ (cp f n).2.2 ∧ (cp f n).2.2 ≤ n ∧ ((cp f n).1 = 0 → (cp f n).2.1 = 0 ∧ (cp f n).2.2 = 0)
  | 0 => by simp [cp]
  | n + 1 => by
    have h := cp_rg hf n
    have h2 := hf n
    unfold cp cpS
    by_cases c : 0 < f n
    · simp only [c, if_true]
      by_cases d : (cp f n).1 = 0 ∨ f n < (cp f n).1 <;> by_cases e : (cp f n).2.1 < f n <;> simp only [d, e, if_true, if_false] <;> omega
    · simp only [c, if_false]; omega
theorem fb_rg (f : Nat → Int) (low : Int) : ∀ n, 0 ≤ (fb f low n).1 ∧ (fb f low n).1 ≤ n
  | 0 => by simp [fb]
  | n + 1 => by
    have h := fb_rg f low n
    unfold fb fbS
    by_cases c : 0 < f n ∧ f n = low
    · rw [if_pos c]; dsimp only; omega
    · rw [if_neg c]; dsimp only; omega
theorem bf_rg (f : Nat → Int) (s : Nat) : ∀ n, 0 ≤ bf f s n ∧ bf f s n ≤ n
  | 0 => by simp [bf]
  | n + 1 => by
    have h := bf_rg f s n
    unfold bf bfS
    by_cases c : 0 < f n ∧ (f n < f s ∨ f n = f s ∧ n < s) <;> simp only [c, if_true, if_false] <;> omega
theorem hrg {f : Nat → Int} (hf : fbd f) : 0 ≤ hLow f ∧ hLow f ≤ hHigh f ∧ hHigh f ≤ 100 ∧ 0 ≤ hPr f ∧ hPr f ≤ 6 ∧ 0 ≤ hSnd f ∧ hSnd f ≤ 6 ∧ 0 ≤ hSkp f ∧ hSkp f ≤ 6 ∧ 0 ≤ hPal f ∧ hPal f ≤ 6 := by
  have h1 := cp_rg hf 6
  have h2 := cs_rg f 6
  have h3 := fb_rg f (hLow f) 6
  have h4 : hLow f = (cp f 6).1 := rfl
  have h5 : hHigh f = (cp f 6).2.1 := rfl
  have h6 : hPr f = (cp f 6).2.2 := rfl
  have h7 : hSnd f = (cs f 6).1 := rfl
  have h8 : hSkp f = (cs f 6).2.1 := rfl
  have h9 : hPal f = (fb f (hLow f) 6).1 := rfl
  omega
theorem fr_fbd (c : Nat) : fbd (fr c) := fun j => by have := fr_bd c j; omega

set_option maxRecDepth 100000 in
set_option maxHeartbeats 4000000 in
theorem c_fretAt {G : xG} {h : PH} {c s : Nat} (hc : c < 2 ^ 31) (hs : s < 6) : Cn G m_Code_fretAt 0 0 0 [vi (c : Int), vi (s : Int)] h (fun r h' => r = some (vi (fr c s)) ∧ h' = h) := by
  refine Cn_of (by decide) (Nat.le_of_ble_eq_true rfl) (fun K C hR E => ?_)
  show X G K 2 0 [some (vi (c : Int)), some (vi (s : Int))] [] h 0 0
  refine x_iload_n C dX1_fretAt_0 rfl rfl ?_
  refine x_iconst C dX1_fretAt_1 ?_
  refine x_iconst C dX1_fretAt_2 ?_
  refine x_iload_n C dX1_fretAt_3 rfl rfl ?_
  refine x_isub C dX1_fretAt_4 ?_
  refine x_imul C dX1_fretAt_5 ?_
  refine x_ishr C (c := ((c / 2 ^ (4 * (5 - s)) : Nat) : Int)) dX1_fretAt_6 (by rw [show (4 * (5 - (s : Int)) : Int) = ((4 * (5 - s) : Nat) : Int) by omega]; exact sh_r hc (by omega)) ?_
  refine x_bipush C (z := 15) dX1_fretAt_7 (by decide) ?_
  refine x_iand C (c := ((c / 2 ^ (4 * (5 - s)) % 16 : Nat) : Int)) dX1_fretAt_9 (by rw [show (15 : Int) = ((15 : Nat) : Int) from rfl, I_and]; exact congrArg (fun n : Nat => I (n : Int)) (Nat.and_two_pow_sub_one_eq_mod _ 4)) ?_
  refine x_iconst C dX1_fretAt_10 ?_
  refine x_isub C dX1_fretAt_11 ?_
  exact x_iret C E rfl (by omega) (by omega) dX1_fretAt_12 (⟨by unfold fr; rw [p16 s hs], rfl⟩)

set_option maxRecDepth 100000 in
set_option maxHeartbeats 4000000 in
theorem c_with {G : xG} {h : PH} {c s : Nat} {f : Int} (hf : 0 ≤ f ∧ f ≤ 14) (hs : s < 6) : Cn G m_Code_with 0 0 0 [vi (c : Int), vi (s : Int), vi f] h (fun r h' => r = some (vi ((wi c s f : Nat) : Int)) ∧ h' = h) := by
  refine Cn_of (by decide) (Nat.le_of_ble_eq_true rfl) (fun K C hR E => ?_)
  show X G K 3 0 [some (vi (c : Int)), some (vi (s : Int)), some (vi f)] [] h 0 0
  refine x_iload_n C dX1_with_0 rfl rfl ?_
  refine x_iload_n C dX1_with_1 rfl rfl ?_
  refine x_iconst C dX1_with_2 ?_
  refine x_iadd C dX1_with_3 ?_
  refine x_iconst C dX1_with_4 ?_
  refine x_iconst C dX1_with_5 ?_
  refine x_iload_n C dX1_with_6 rfl rfl ?_
  refine x_isub C dX1_with_7 ?_
  refine x_imul C dX1_with_8 ?_
  refine x_ishl C (c := (((f + 1).toNat * 16 ^ (5 - s) : Nat) : Int)) dX1_with_9 (by
    have h1 : (f + 1 : Int) = (((f + 1).toNat : Nat) : Int) := by omega
    have h2 : (4 * (5 - (s : Int)) : Int) = ((4 * (5 - s) : Nat) : Int) := by omega
    have h3 : (f + 1).toNat ≤ 15 := by omega
    rw [h1, h2, sh_l (by omega) ?_, p16 s hs]
    · rfl
    · have h4 : 2 ^ (4 * (5 - s)) ≤ 2 ^ 20 := Nat.pow_le_pow_right (by decide) (by omega)
      have h5 : (f + 1).toNat * 2 ^ (4 * (5 - s)) ≤ 15 * 2 ^ 20 := Nat.mul_le_mul h3 h4
      omega) ?_
  refine x_ior C (c := ((wi c s f : Nat) : Int)) dX1_with_10 (I_or _ _) ?_
  exact x_iret C E rfl (by omega) (by omega) dX1_with_11 (⟨rfl, rfl⟩)

set_option maxRecDepth 100000 in
set_option maxHeartbeats 4000000 in
theorem c_countSounding {G : xG} {h : PH} {a b : Nat} {lo hi so pr pl sk : Int} {ba : Bool} {f : Nat → Int} (hA : h a = xO 2 [vi lo, vi hi, vi so, vi (b2i ba), .ref b, vi pr, vi pl, vi sk]) (hB : h b = xI G 6 f) (nab : a ≠ b) (hf : fbd f) : Cn G m_Hand_countSounding 0 0 0 [.ref a] h (fun r h' => r = none ∧ h' = va_up h a (xO 2 [vi lo, vi hi, vi (hSnd f), vi (b2i ba), .ref b, vi pr, vi pl, vi (hSkp f)])) := by
  refine Cn_of (by decide) (Nat.le_of_ble_eq_true rfl) (fun K C hR E => ?_)
  show X G K 3 0 [some (.ref a), none, none] [] h 0 0
  refine x_aload_n C dX3_countSounding_0 rfl rfl ?_
  refine x_iconst C dX3_countSounding_1 ?_
  refine x_put C p_Hand_18 hA (fit_int _) (Nat.le_of_ble_eq_true rfl) (h1 := (va_up h a (xO 2 [vi lo, vi hi, vi 0, vi (b2i ba), .ref b, vi pr, vi pl, vi sk]))) rfl dX3_countSounding_2 ?_
  refine x_aload_n C dX3_countSounding_5 rfl rfl ?_
  refine x_iconst C dX3_countSounding_6 ?_
  refine x_put C p_Hand_35 up_s (fit_int _) (Nat.le_of_ble_eq_true rfl) (h1 := (va_up h a (xO 2 [vi lo, vi hi, vi 0, vi (b2i ba), .ref b, vi pr, vi pl, vi 0]))) (up_u _ _ _ _) dX3_countSounding_7 ?_
  refine x_iconst C dX3_countSounding_10 ?_
  refine x_istore_n C (ls' := [some (.ref a), some (vi 0), none]) dX3_countSounding_11 rfl (by decide) rfl ?_
  refine x_iconst C dX3_countSounding_12 ?_
  refine x_istore_n C (ls' := [some (.ref a), some (vi 0), some (vi 0)]) dX3_countSounding_13 rfl (by decide) rfl ?_
  have L14 : ∀ (n0 : Nat) (k : Nat) (s1 : Int) (k1 : Int) (n1 : Int), 6 - k < n0 → (k ≤ 6) → (cs f k = (s1, k1, n1)) → X G K 3 14 [some (.ref a), some (vi n1), some (vi (k : Int))] [] (va_up h a (xO 2 [vi lo, vi hi, vi s1, vi (b2i ba), .ref b, vi pr, vi pl, vi k1])) 0 0 := by
    intro n0
    induction n0 with
    | zero => intro k s1 k1 n1 hm; exact absurd hm (Nat.not_lt_zero _)
    | succ n0 ih_L14 =>
      intro k s1 k1 n1 hm i1 i2
      refine x_iload_n C dX3_countSounding_14 rfl rfl ?_
      refine x_bipush C (z := 6) dX3_countSounding_15 (by decide) ?_
      refine x_icmp_ge C (tgt := 75) dX3_countSounding_17 (by decide) ⟨by omega, by omega⟩ (by decide) (fun c17 => ?_) (fun c17 => ?_)
      · skip
        have e6 : k = 6 := by omega
        subst e6
        exact x_vret C E rfl (by omega) (by omega) dX3_countSounding_75 (⟨rfl, by unfold hSnd hSkp; rw [i2]⟩)
      · skip
        have hr := cs_rg f k
        rw [i2] at hr
        have hk := hf k
        refine x_aload_n C dX3_countSounding_20 rfl rfl ?_
        refine x_get C f_Hand_25 up_s rfl dX3_countSounding_21 ?_
        refine x_iload_n C dX3_countSounding_24 rfl rfl ?_
        refine x_iald C ((up_n (Ne.symm nab)).trans hB) ⟨by omega, by omega, by omega⟩ (v := (f k)) rfl dX3_countSounding_25 ?_
        refine x_iconst C dX3_countSounding_26 ?_
        refine x_icmp_ne C (tgt := 36) dX3_countSounding_27 (by decide) (by have := hf k; exact ⟨by omega, by omega⟩) (by decide) (fun c27 => ?_) (fun c27 => ?_)
        · skip
          refine x_aload_n C dX3_countSounding_36 rfl rfl ?_
          refine x_dup C dX3_countSounding_37 rfl ?_
          refine x_get C f_Hand_35 up_s rfl dX3_countSounding_38 ?_
          refine x_aload_n C dX3_countSounding_41 rfl rfl ?_
          refine x_get C f_Hand_18 up_s rfl dX3_countSounding_42 ?_
          refine x_if_ne C (tgt := 52) dX3_countSounding_45 (by decide) ⟨by omega, by omega⟩ (fun c45 => ?_) (fun c45 => ?_)
          · skip
            refine x_iload_n C dX3_countSounding_52 rfl rfl ?_
            refine x_iadd C dX3_countSounding_53 ?_
            refine x_put C p_Hand_35 up_s (fit_int _) (Nat.le_of_ble_eq_true rfl) (h1 := (va_up h a (xO 2 [vi lo, vi hi, vi s1, vi (b2i ba), .ref b, vi pr, vi pl, vi (k1 + n1)]))) (up_u _ _ _ _) dX3_countSounding_54 ?_
            refine x_iconst C dX3_countSounding_57 ?_
            refine x_istore_n C (ls' := [some (.ref a), some (vi 0), some (vi (k : Int))]) dX3_countSounding_58 rfl (by decide) rfl ?_
            refine x_aload_n C dX3_countSounding_59 rfl rfl ?_
            refine x_dup C dX3_countSounding_60 rfl ?_
            refine x_get C f_Hand_18 up_s rfl dX3_countSounding_61 ?_
            refine x_iconst C dX3_countSounding_64 ?_
            refine x_iadd C dX3_countSounding_65 ?_
            refine x_put C p_Hand_18 up_s (fit_int _) (Nat.le_of_ble_eq_true rfl) (h1 := (va_up h a (xO 2 [vi lo, vi hi, vi (s1 + 1), vi (b2i ba), .ref b, vi pr, vi pl, vi (k1 + n1)]))) (up_u _ _ _ _) dX3_countSounding_66 ?_
            refine x_iinc C (ls' := [some (.ref a), some (vi 0), some (vi ((k : Int) + 1))]) dX3_countSounding_69 rfl (by decide) (z1 := ((k : Int) + 1)) rfl rfl ?_
            refine x_goto C (tgt := 14) dX3_countSounding_72 (by decide) ?_
            exact ih_L14 (k + 1) (s1 + 1) (k1 + n1) 0 (by omega) (by omega) (by show csS (f k) (cs f k) = _; rw [i2]; simp_all [csS])
          · skip
            refine x_iconst C dX3_countSounding_48 ?_
            refine x_goto C (tgt := 53) dX3_countSounding_49 (by decide) ?_
            refine x_iadd C dX3_countSounding_53 ?_
            refine x_put C p_Hand_35 up_s (fit_int _) (Nat.le_of_ble_eq_true rfl) (h1 := (va_up h a (xO 2 [vi lo, vi hi, vi s1, vi (b2i ba), .ref b, vi pr, vi pl, vi (k1 + 0)]))) (up_u _ _ _ _) dX3_countSounding_54 ?_
            refine x_iconst C dX3_countSounding_57 ?_
            refine x_istore_n C (ls' := [some (.ref a), some (vi 0), some (vi (k : Int))]) dX3_countSounding_58 rfl (by decide) rfl ?_
            refine x_aload_n C dX3_countSounding_59 rfl rfl ?_
            refine x_dup C dX3_countSounding_60 rfl ?_
            refine x_get C f_Hand_18 up_s rfl dX3_countSounding_61 ?_
            refine x_iconst C dX3_countSounding_64 ?_
            refine x_iadd C dX3_countSounding_65 ?_
            refine x_put C p_Hand_18 up_s (fit_int _) (Nat.le_of_ble_eq_true rfl) (h1 := (va_up h a (xO 2 [vi lo, vi hi, vi (s1 + 1), vi (b2i ba), .ref b, vi pr, vi pl, vi (k1 + 0)]))) (up_u _ _ _ _) dX3_countSounding_66 ?_
            refine x_iinc C (ls' := [some (.ref a), some (vi 0), some (vi ((k : Int) + 1))]) dX3_countSounding_69 rfl (by decide) (z1 := ((k : Int) + 1)) rfl rfl ?_
            refine x_goto C (tgt := 14) dX3_countSounding_72 (by decide) ?_
            exact ih_L14 (k + 1) (s1 + 1) (k1 + 0) 0 (by omega) (by omega) (by show csS (f k) (cs f k) = _; rw [i2]; simp_all [csS])
        · skip
          refine x_iinc C (ls' := [some (.ref a), some (vi (n1 + 1)), some (vi (k : Int))]) dX3_countSounding_30 rfl (by decide) (z1 := (n1 + 1)) rfl rfl ?_
          refine x_goto C (tgt := 69) dX3_countSounding_33 (by decide) ?_
          refine x_iinc C (ls' := [some (.ref a), some (vi (n1 + 1)), some (vi ((k : Int) + 1))]) dX3_countSounding_69 rfl (by decide) (z1 := ((k : Int) + 1)) rfl rfl ?_
          refine x_goto C (tgt := 14) dX3_countSounding_72 (by decide) ?_
          exact ih_L14 (k + 1) s1 k1 (n1 + 1) (by omega) (by omega) (by show csS (f k) (cs f k) = _; rw [i2]; simp_all [csS])
  exact L14 _ 0 0 0 0 (Nat.lt_succ_self _) (by omega) (rfl)

set_option maxRecDepth 100000 in
set_option maxHeartbeats 4000000 in
theorem c_countPressed {G : xG} {h : PH} {a b : Nat} {lo hi so pr pl sk : Int} {ba : Bool} {f : Nat → Int} (hA : h a = xO 2 [vi lo, vi hi, vi so, vi (b2i ba), .ref b, vi pr, vi pl, vi sk]) (hB : h b = xI G 6 f) (nab : a ≠ b) (hf : fbd f) : Cn G m_Hand_countPressed 0 0 0 [.ref a] h (fun r h' => r = none ∧ h' = va_up h a (xO 2 [vi (hLow f), vi (hHigh f), vi so, vi (b2i ba), .ref b, vi (hPr f), vi pl, vi sk])) := by
  refine Cn_of (by decide) (Nat.le_of_ble_eq_true rfl) (fun K C hR E => ?_)
  show X G K 3 0 [some (.ref a), none, none] [] h 0 0
  refine x_aload_n C dX3_countPressed_0 rfl rfl ?_
  refine x_iconst C dX3_countPressed_1 ?_
  refine x_put C p_Hand_9 hA (fit_int _) (Nat.le_of_ble_eq_true rfl) (h1 := (va_up h a (xO 2 [vi 0, vi hi, vi so, vi (b2i ba), .ref b, vi pr, vi pl, vi sk]))) rfl dX3_countPressed_2 ?_
  refine x_aload_n C dX3_countPressed_5 rfl rfl ?_
  refine x_iconst C dX3_countPressed_6 ?_
  refine x_put C p_Hand_15 up_s (fit_int _) (Nat.le_of_ble_eq_true rfl) (h1 := (va_up h a (xO 2 [vi 0, vi 0, vi so, vi (b2i ba), .ref b, vi pr, vi pl, vi sk]))) (up_u _ _ _ _) dX3_countPressed_7 ?_
  refine x_aload_n C dX3_countPressed_10 rfl rfl ?_
  refine x_iconst C dX3_countPressed_11 ?_
  refine x_put C p_Hand_29 up_s (fit_int _) (Nat.le_of_ble_eq_true rfl) (h1 := (va_up h a (xO 2 [vi 0, vi 0, vi so, vi (b2i ba), .ref b, vi 0, vi pl, vi sk]))) (up_u _ _ _ _) dX3_countPressed_12 ?_
  refine x_iconst C dX3_countPressed_15 ?_
  refine x_istore_n C (ls' := [some (.ref a), some (vi 0), none]) dX3_countPressed_16 rfl (by decide) rfl ?_
  have L17 : ∀ (n0 : Nat) (k : Nat) (l1 : Int) (h1 : Int) (p1 : Int), 6 - k < n0 → (k ≤ 6) → (cp f k = (l1, h1, p1)) → X G K 3 17 [some (.ref a), some (vi (k : Int)), none] [] (va_up h a (xO 2 [vi l1, vi h1, vi so, vi (b2i ba), .ref b, vi p1, vi pl, vi sk])) 0 0 := by
    intro n0
    induction n0 with
    | zero => intro k l1 h1 p1 hm; exact absurd hm (Nat.not_lt_zero _)
    | succ n0 ih_L17 =>
      intro k l1 h1 p1 hm i1 i2
      refine x_iload_n C dX3_countPressed_17 rfl rfl ?_
      refine x_bipush C (z := 6) dX3_countPressed_18 (by decide) ?_
      refine x_icmp_ge C (tgt := 97) dX3_countPressed_20 (by decide) ⟨by omega, by omega⟩ (by decide) (fun c20 => ?_) (fun c20 => ?_)
      · skip
        have e6 : k = 6 := by omega
        subst e6
        exact x_vret C E rfl (by omega) (by omega) dX3_countPressed_97 (⟨rfl, by unfold hLow hHigh hPr; rw [i2]⟩)
      · skip
        have hr := cp_rg hf k
        rw [i2] at hr
        have hk := hf k
        dsimp only at hr
        refine x_aload_n C dX3_countPressed_23 rfl rfl ?_
        refine x_get C f_Hand_25 up_s rfl dX3_countPressed_24 ?_
        refine x_iload_n C dX3_countPressed_27 rfl rfl ?_
        refine x_iald C ((up_n (Ne.symm nab)).trans hB) ⟨by omega, by omega, by omega⟩ (v := (f k)) rfl dX3_countPressed_28 ?_
        refine x_istore_n C (ls' := [some (.ref a), some (vi (k : Int)), some (vi (f k))]) dX3_countPressed_29 rfl (by decide) rfl ?_
        refine x_iload_n C dX3_countPressed_30 rfl rfl ?_
        refine x_if_le C (tgt := 91) dX3_countPressed_31 (by decide) ⟨by omega, by omega⟩ (fun c31 => ?_) (fun c31 => ?_)
        · skip
          refine x_iinc C (ls' := [some (.ref a), some (vi ((k : Int) + 1)), some (vi (f k))]) dX3_countPressed_91 rfl (by decide) (z1 := ((k : Int) + 1)) rfl rfl ?_
          refine x_goto C (tgt := 17) dX3_countPressed_94 (by decide) ?_
          refine X.sub (ls' := [some (.ref a), some (vi ((k : Int) + 1)), none]) (sub_cons (Or.inr rfl) (sub_cons (Or.inr rfl) (sub_cons (Or.inl rfl) sub_nil))) ?_
          exact ih_L17 (k + 1) l1 h1 p1 (by omega) (by omega) (by show cpS (f k) (cp f k) = _; rw [i2]; unfold cpS; simp_all; try omega)
        · skip
          refine x_aload_n C dX3_countPressed_34 rfl rfl ?_
          refine x_dup C dX3_countPressed_35 rfl ?_
          refine x_get C f_Hand_29 up_s rfl dX3_countPressed_36 ?_
          refine x_iconst C dX3_countPressed_39 ?_
          refine x_iadd C dX3_countPressed_40 ?_
          refine x_put C p_Hand_29 up_s (fit_int _) (Nat.le_of_ble_eq_true rfl) (h1 := (va_up h a (xO 2 [vi l1, vi h1, vi so, vi (b2i ba), .ref b, vi (p1 + 1), vi pl, vi sk]))) (up_u _ _ _ _) dX3_countPressed_41 ?_
          refine x_aload_n C dX3_countPressed_44 rfl rfl ?_
          refine x_aload_n C dX3_countPressed_45 rfl rfl ?_
          refine x_get C f_Hand_9 up_s rfl dX3_countPressed_46 ?_
          refine x_if_eq C (tgt := 60) dX3_countPressed_49 (by decide) ⟨by omega, by omega⟩ (fun c49 => ?_) (fun c49 => ?_)
          · skip
            refine x_iload_n C dX3_countPressed_60 rfl rfl ?_
            refine x_goto C (tgt := 68) dX3_countPressed_61 (by decide) ?_
            refine x_put C p_Hand_9 up_s (fit_int _) (Nat.le_of_ble_eq_true rfl) (h1 := (va_up h a (xO 2 [vi (f k), vi h1, vi so, vi (b2i ba), .ref b, vi (p1 + 1), vi pl, vi sk]))) (up_u _ _ _ _) dX3_countPressed_68 ?_
            refine x_aload_n C dX3_countPressed_71 rfl rfl ?_
            refine x_iload_n C dX3_countPressed_72 rfl rfl ?_
            refine x_aload_n C dX3_countPressed_73 rfl rfl ?_
            refine x_get C f_Hand_15 up_s rfl dX3_countPressed_74 ?_
            refine x_icmp_le C (tgt := 84) dX3_countPressed_77 (by decide) ⟨by omega, by omega⟩ ⟨by omega, by omega⟩ (fun c77 => ?_) (fun c77 => ?_)
            · skip
              refine x_aload_n C dX3_countPressed_84 rfl rfl ?_
              refine x_get C f_Hand_15 up_s rfl dX3_countPressed_85 ?_
              refine x_put C p_Hand_15 up_s (fit_int _) (Nat.le_of_ble_eq_true rfl) (h1 := (va_up h a (xO 2 [vi (f k), vi h1, vi so, vi (b2i ba), .ref b, vi (p1 + 1), vi pl, vi sk]))) (up_u _ _ _ _) dX3_countPressed_88 ?_
              refine x_iinc C (ls' := [some (.ref a), some (vi ((k : Int) + 1)), some (vi (f k))]) dX3_countPressed_91 rfl (by decide) (z1 := ((k : Int) + 1)) rfl rfl ?_
              refine x_goto C (tgt := 17) dX3_countPressed_94 (by decide) ?_
              refine X.sub (ls' := [some (.ref a), some (vi ((k : Int) + 1)), none]) (sub_cons (Or.inr rfl) (sub_cons (Or.inr rfl) (sub_cons (Or.inl rfl) sub_nil))) ?_
              exact ih_L17 (k + 1) (f k) h1 (p1 + 1) (by omega) (by omega) (by show cpS (f k) (cp f k) = _; rw [i2]; unfold cpS; simp_all; try omega)
            · skip
              refine x_iload_n C dX3_countPressed_80 rfl rfl ?_
              refine x_goto C (tgt := 88) dX3_countPressed_81 (by decide) ?_
              refine x_put C p_Hand_15 up_s (fit_int _) (Nat.le_of_ble_eq_true rfl) (h1 := (va_up h a (xO 2 [vi (f k), vi (f k), vi so, vi (b2i ba), .ref b, vi (p1 + 1), vi pl, vi sk]))) (up_u _ _ _ _) dX3_countPressed_88 ?_
              refine x_iinc C (ls' := [some (.ref a), some (vi ((k : Int) + 1)), some (vi (f k))]) dX3_countPressed_91 rfl (by decide) (z1 := ((k : Int) + 1)) rfl rfl ?_
              refine x_goto C (tgt := 17) dX3_countPressed_94 (by decide) ?_
              refine X.sub (ls' := [some (.ref a), some (vi ((k : Int) + 1)), none]) (sub_cons (Or.inr rfl) (sub_cons (Or.inr rfl) (sub_cons (Or.inl rfl) sub_nil))) ?_
              exact ih_L17 (k + 1) (f k) (f k) (p1 + 1) (by omega) (by omega) (by show cpS (f k) (cp f k) = _; rw [i2]; unfold cpS; simp_all; try omega)
          · skip
            refine x_iload_n C dX3_countPressed_52 rfl rfl ?_
            refine x_aload_n C dX3_countPressed_53 rfl rfl ?_
            refine x_get C f_Hand_9 up_s rfl dX3_countPressed_54 ?_
            refine x_icmp_ge C (tgt := 64) dX3_countPressed_57 (by decide) ⟨by omega, by omega⟩ ⟨by omega, by omega⟩ (fun c57 => ?_) (fun c57 => ?_)
            · skip
              refine x_aload_n C dX3_countPressed_64 rfl rfl ?_
              refine x_get C f_Hand_9 up_s rfl dX3_countPressed_65 ?_
              refine x_put C p_Hand_9 up_s (fit_int _) (Nat.le_of_ble_eq_true rfl) (h1 := (va_up h a (xO 2 [vi l1, vi h1, vi so, vi (b2i ba), .ref b, vi (p1 + 1), vi pl, vi sk]))) (up_u _ _ _ _) dX3_countPressed_68 ?_
              refine x_aload_n C dX3_countPressed_71 rfl rfl ?_
              refine x_iload_n C dX3_countPressed_72 rfl rfl ?_
              refine x_aload_n C dX3_countPressed_73 rfl rfl ?_
              refine x_get C f_Hand_15 up_s rfl dX3_countPressed_74 ?_
              refine x_icmp_le C (tgt := 84) dX3_countPressed_77 (by decide) ⟨by omega, by omega⟩ ⟨by omega, by omega⟩ (fun c77 => ?_) (fun c77 => ?_)
              · skip
                refine x_aload_n C dX3_countPressed_84 rfl rfl ?_
                refine x_get C f_Hand_15 up_s rfl dX3_countPressed_85 ?_
                refine x_put C p_Hand_15 up_s (fit_int _) (Nat.le_of_ble_eq_true rfl) (h1 := (va_up h a (xO 2 [vi l1, vi h1, vi so, vi (b2i ba), .ref b, vi (p1 + 1), vi pl, vi sk]))) (up_u _ _ _ _) dX3_countPressed_88 ?_
                refine x_iinc C (ls' := [some (.ref a), some (vi ((k : Int) + 1)), some (vi (f k))]) dX3_countPressed_91 rfl (by decide) (z1 := ((k : Int) + 1)) rfl rfl ?_
                refine x_goto C (tgt := 17) dX3_countPressed_94 (by decide) ?_
                refine X.sub (ls' := [some (.ref a), some (vi ((k : Int) + 1)), none]) (sub_cons (Or.inr rfl) (sub_cons (Or.inr rfl) (sub_cons (Or.inl rfl) sub_nil))) ?_
                exact ih_L17 (k + 1) l1 h1 (p1 + 1) (by omega) (by omega) (by show cpS (f k) (cp f k) = _; rw [i2]; unfold cpS; simp_all; try omega)
              · skip
                refine x_iload_n C dX3_countPressed_80 rfl rfl ?_
                refine x_goto C (tgt := 88) dX3_countPressed_81 (by decide) ?_
                refine x_put C p_Hand_15 up_s (fit_int _) (Nat.le_of_ble_eq_true rfl) (h1 := (va_up h a (xO 2 [vi l1, vi (f k), vi so, vi (b2i ba), .ref b, vi (p1 + 1), vi pl, vi sk]))) (up_u _ _ _ _) dX3_countPressed_88 ?_
                refine x_iinc C (ls' := [some (.ref a), some (vi ((k : Int) + 1)), some (vi (f k))]) dX3_countPressed_91 rfl (by decide) (z1 := ((k : Int) + 1)) rfl rfl ?_
                refine x_goto C (tgt := 17) dX3_countPressed_94 (by decide) ?_
                refine X.sub (ls' := [some (.ref a), some (vi ((k : Int) + 1)), none]) (sub_cons (Or.inr rfl) (sub_cons (Or.inr rfl) (sub_cons (Or.inl rfl) sub_nil))) ?_
                exact ih_L17 (k + 1) l1 (f k) (p1 + 1) (by omega) (by omega) (by show cpS (f k) (cp f k) = _; rw [i2]; unfold cpS; simp_all; try omega)
            · skip
              refine x_iload_n C dX3_countPressed_60 rfl rfl ?_
              refine x_goto C (tgt := 68) dX3_countPressed_61 (by decide) ?_
              refine x_put C p_Hand_9 up_s (fit_int _) (Nat.le_of_ble_eq_true rfl) (h1 := (va_up h a (xO 2 [vi (f k), vi h1, vi so, vi (b2i ba), .ref b, vi (p1 + 1), vi pl, vi sk]))) (up_u _ _ _ _) dX3_countPressed_68 ?_
              refine x_aload_n C dX3_countPressed_71 rfl rfl ?_
              refine x_iload_n C dX3_countPressed_72 rfl rfl ?_
              refine x_aload_n C dX3_countPressed_73 rfl rfl ?_
              refine x_get C f_Hand_15 up_s rfl dX3_countPressed_74 ?_
              refine x_icmp_le C (tgt := 84) dX3_countPressed_77 (by decide) ⟨by omega, by omega⟩ ⟨by omega, by omega⟩ (fun c77 => ?_) (fun c77 => ?_)
              · skip
                refine x_aload_n C dX3_countPressed_84 rfl rfl ?_
                refine x_get C f_Hand_15 up_s rfl dX3_countPressed_85 ?_
                refine x_put C p_Hand_15 up_s (fit_int _) (Nat.le_of_ble_eq_true rfl) (h1 := (va_up h a (xO 2 [vi (f k), vi h1, vi so, vi (b2i ba), .ref b, vi (p1 + 1), vi pl, vi sk]))) (up_u _ _ _ _) dX3_countPressed_88 ?_
                refine x_iinc C (ls' := [some (.ref a), some (vi ((k : Int) + 1)), some (vi (f k))]) dX3_countPressed_91 rfl (by decide) (z1 := ((k : Int) + 1)) rfl rfl ?_
                refine x_goto C (tgt := 17) dX3_countPressed_94 (by decide) ?_
                refine X.sub (ls' := [some (.ref a), some (vi ((k : Int) + 1)), none]) (sub_cons (Or.inr rfl) (sub_cons (Or.inr rfl) (sub_cons (Or.inl rfl) sub_nil))) ?_
                exact ih_L17 (k + 1) (f k) h1 (p1 + 1) (by omega) (by omega) (by show cpS (f k) (cp f k) = _; rw [i2]; unfold cpS; simp_all; try omega)
              · skip
                refine x_iload_n C dX3_countPressed_80 rfl rfl ?_
                refine x_goto C (tgt := 88) dX3_countPressed_81 (by decide) ?_
                refine x_put C p_Hand_15 up_s (fit_int _) (Nat.le_of_ble_eq_true rfl) (h1 := (va_up h a (xO 2 [vi (f k), vi (f k), vi so, vi (b2i ba), .ref b, vi (p1 + 1), vi pl, vi sk]))) (up_u _ _ _ _) dX3_countPressed_88 ?_
                refine x_iinc C (ls' := [some (.ref a), some (vi ((k : Int) + 1)), some (vi (f k))]) dX3_countPressed_91 rfl (by decide) (z1 := ((k : Int) + 1)) rfl rfl ?_
                refine x_goto C (tgt := 17) dX3_countPressed_94 (by decide) ?_
                refine X.sub (ls' := [some (.ref a), some (vi ((k : Int) + 1)), none]) (sub_cons (Or.inr rfl) (sub_cons (Or.inr rfl) (sub_cons (Or.inl rfl) sub_nil))) ?_
                exact ih_L17 (k + 1) (f k) (f k) (p1 + 1) (by omega) (by omega) (by show cpS (f k) (cp f k) = _; rw [i2]; unfold cpS; simp_all; try omega)
  exact L17 _ 0 0 0 0 (Nat.lt_succ_self _) (by omega) (rfl)

set_option maxRecDepth 100000 in
set_option maxHeartbeats 4000000 in
theorem c_findBarre {G : xG} {h : PH} {a b : Nat} {lo hi so pr pl sk : Int} {ba : Bool} {f : Nat → Int} (hA : h a = xO 2 [vi lo, vi hi, vi so, vi (b2i ba), .ref b, vi pr, vi pl, vi sk]) (hB : h b = xI G 6 f) (nab : a ≠ b) (hf : fbd f) (hlo : lo = hLow f) : Cn G m_Hand_findBarre 0 0 0 [.ref a] h (fun r h' => r = none ∧ h' = va_up h a (xO 2 [vi lo, vi hi, vi so, vi (b2i (hBar f)), .ref b, vi pr, vi (hPal f), vi sk])) := by
  refine Cn_of (by decide) (Nat.le_of_ble_eq_true rfl) (fun K C hR E => ?_)
  show X G K 5 0 [some (.ref a), none, none, none, none] [] h 0 0
  refine x_aload_n C dX3_findBarre_0 rfl rfl ?_
  refine x_iconst C dX3_findBarre_1 ?_
  refine x_put C p_Hand_32 hA (fit_int _) (Nat.le_of_ble_eq_true rfl) (h1 := (va_up h a (xO 2 [vi lo, vi hi, vi so, vi (b2i ba), .ref b, vi pr, vi 0, vi sk]))) rfl dX3_findBarre_2 ?_
  refine x_iconst C dX3_findBarre_5 ?_
  refine x_istore_n C (ls' := [some (.ref a), some (vi 0), none, none, none]) dX3_findBarre_6 rfl (by decide) rfl ?_
  refine x_iconst C dX3_findBarre_7 ?_
  refine x_istore_n C (ls' := [some (.ref a), some (vi 0), some (vi 0), none, none]) dX3_findBarre_8 rfl (by decide) rfl ?_
  refine x_iconst C dX3_findBarre_9 ?_
  refine x_istore_n C (ls' := [some (.ref a), some (vi 0), some (vi 0), some (vi 0), none]) dX3_findBarre_10 rfl (by decide) rfl ?_
  have L11 : ∀ (n0 : Nat) (k : Nat) (p1 : Int) (o1 : Bool) (c1 : Bool), 6 - k < n0 → (k ≤ 6) → (fb f (hLow f) k = (p1, o1, c1)) → X G K 5 11 [some (.ref a), some (vi (b2i o1)), some (vi (b2i c1)), some (vi (k : Int)), none] [] (va_up h a (xO 2 [vi lo, vi hi, vi so, vi (b2i ba), .ref b, vi pr, vi p1, vi sk])) 0 0 := by
    intro n0
    induction n0 with
    | zero => intro k p1 o1 c1 hm; exact absurd hm (Nat.not_lt_zero _)
    | succ n0 ih_L11 =>
      intro k p1 o1 c1 hm i1 i2
      refine x_iload_n C dX3_findBarre_11 rfl rfl ?_
      refine x_bipush C (z := 6) dX3_findBarre_12 (by decide) ?_
      refine x_icmp_ge C (tgt := 71) dX3_findBarre_14 (by decide) ⟨by omega, by omega⟩ (by decide) (fun c14 => ?_) (fun c14 => ?_)
      · skip
        have hr := fb_rg f (hLow f) k
        rw [i2] at hr
        dsimp only at hr
        refine x_aload_n C dX3_findBarre_71 rfl rfl ?_
        refine x_aload_n C dX3_findBarre_72 rfl rfl ?_
        refine x_get C f_Hand_32 up_s rfl dX3_findBarre_73 ?_
        refine x_iconst C dX3_findBarre_76 ?_
        refine x_icmp_lt C (tgt := 88) dX3_findBarre_77 (by decide) ⟨by omega, by omega⟩ (by decide) (fun c77 => ?_) (fun c77 => ?_)
        · skip
          refine x_iconst C dX3_findBarre_88 ?_
          refine x_put C p_Hand_21 up_s (fit_bool false) (Nat.le_of_ble_eq_true rfl) (h1 := (va_up h a (xO 2 [vi lo, vi hi, vi so, vi (b2i false), .ref b, vi pr, vi p1, vi sk]))) (up_u _ _ _ _) dX3_findBarre_89 ?_
          have e6 : k = 6 := by omega
          subst e6
          have eb : hBar f = false := by unfold hBar hPal; rw [i2]; simp_all; try omega
          exact x_vret C E rfl (by omega) (by omega) dX3_findBarre_92 (⟨rfl, by rw [eb]; unfold hPal; rw [i2]⟩)
        · skip
          refine x_iload_n C dX3_findBarre_80 rfl rfl ?_
          refine x_ifneB C (tgt := 88) dX3_findBarre_81 (by decide) (fun c81 => ?_) (fun c81 => ?_)
          · skip
            refine x_iconst C dX3_findBarre_88 ?_
            refine x_put C p_Hand_21 up_s (fit_bool false) (Nat.le_of_ble_eq_true rfl) (h1 := (va_up h a (xO 2 [vi lo, vi hi, vi so, vi (b2i false), .ref b, vi pr, vi p1, vi sk]))) (up_u _ _ _ _) dX3_findBarre_89 ?_
            have e6 : k = 6 := by omega
            subst e6
            have eb : hBar f = false := by unfold hBar hPal; rw [i2]; simp_all; try omega
            exact x_vret C E rfl (by omega) (by omega) dX3_findBarre_92 (⟨rfl, by rw [eb]; unfold hPal; rw [i2]⟩)
          · skip
            refine x_iconst C dX3_findBarre_84 ?_
            refine x_goto C (tgt := 89) dX3_findBarre_85 (by decide) ?_
            refine x_put C p_Hand_21 up_s (fit_bool true) (Nat.le_of_ble_eq_true rfl) (h1 := (va_up h a (xO 2 [vi lo, vi hi, vi so, vi (b2i true), .ref b, vi pr, vi p1, vi sk]))) (up_u _ _ _ _) dX3_findBarre_89 ?_
            have e6 : k = 6 := by omega
            subst e6
            have eb : hBar f = true := by unfold hBar hPal; rw [i2]; simp_all; try omega
            exact x_vret C E rfl (by omega) (by omega) dX3_findBarre_92 (⟨rfl, by rw [eb]; unfold hPal; rw [i2]⟩)
      · skip
        have hr := fb_rg f (hLow f) k
        rw [i2] at hr
        have hk := hf k
        have hl := (hrg hf).1
        have hl2 := hrg hf
        dsimp only at hr
        refine x_aload_n C dX3_findBarre_17 rfl rfl ?_
        refine x_get C f_Hand_25 up_s rfl dX3_findBarre_18 ?_
        refine x_iload_n C dX3_findBarre_21 rfl rfl ?_
        refine x_iald C ((up_n (Ne.symm nab)).trans hB) ⟨by omega, by omega, by omega⟩ (v := (f k)) rfl dX3_findBarre_22 ?_
        refine x_istore C (ls' := [some (.ref a), some (vi (b2i o1)), some (vi (b2i c1)), some (vi (k : Int)), some (vi (f k))]) dX3_findBarre_23 (by decide) rfl ?_
        refine x_iload C dX3_findBarre_25 rfl ?_
        refine x_if_ne C (tgt := 39) dX3_findBarre_27 (by decide) ⟨by omega, by omega⟩ (fun c27 => ?_) (fun c27 => ?_)
        · skip
          refine x_iload C dX3_findBarre_39 rfl ?_
          refine x_if_le C (tgt := 65) dX3_findBarre_41 (by decide) ⟨by omega, by omega⟩ (fun c41 => ?_) (fun c41 => ?_)
          · skip
            refine x_iinc C (ls' := [some (.ref a), some (vi (b2i o1)), some (vi (b2i c1)), some (vi ((k : Int) + 1)), some (vi (f k))]) dX3_findBarre_65 rfl (by decide) (z1 := ((k : Int) + 1)) rfl rfl ?_
            refine x_goto C (tgt := 11) dX3_findBarre_68 (by decide) ?_
            refine X.sub (ls' := [some (.ref a), some (vi (b2i o1)), some (vi (b2i c1)), some (vi ((k : Int) + 1)), none]) (sub_cons (Or.inr rfl) (sub_cons (Or.inr rfl) (sub_cons (Or.inr rfl) (sub_cons (Or.inr rfl) (sub_cons (Or.inl rfl) sub_nil))))) ?_
            exact ih_L11 (k + 1) p1 o1 c1 (by omega) (by omega) (by show fbS (hLow f) (f k) (fb f (hLow f) k) = _; rw [i2]; unfold fbS; simp_all; try omega)
          · skip
            refine x_iload C dX3_findBarre_44 rfl ?_
            refine x_aload_n C dX3_findBarre_46 rfl rfl ?_
            refine x_get C f_Hand_9 up_s rfl dX3_findBarre_47 ?_
            refine x_icmp_ne C (tgt := 65) dX3_findBarre_50 (by decide) ⟨by omega, by omega⟩ ⟨by omega, by omega⟩ (fun c50 => ?_) (fun c50 => ?_)
            · skip
              refine x_iinc C (ls' := [some (.ref a), some (vi (b2i o1)), some (vi (b2i c1)), some (vi ((k : Int) + 1)), some (vi (f k))]) dX3_findBarre_65 rfl (by decide) (z1 := ((k : Int) + 1)) rfl rfl ?_
              refine x_goto C (tgt := 11) dX3_findBarre_68 (by decide) ?_
              refine X.sub (ls' := [some (.ref a), some (vi (b2i o1)), some (vi (b2i c1)), some (vi ((k : Int) + 1)), none]) (sub_cons (Or.inr rfl) (sub_cons (Or.inr rfl) (sub_cons (Or.inr rfl) (sub_cons (Or.inr rfl) (sub_cons (Or.inl rfl) sub_nil))))) ?_
              exact ih_L11 (k + 1) p1 o1 c1 (by omega) (by omega) (by show fbS (hLow f) (f k) (fb f (hLow f) k) = _; rw [i2]; unfold fbS; simp_all; try omega)
            · skip
              refine x_aload_n C dX3_findBarre_53 rfl rfl ?_
              refine x_dup C dX3_findBarre_54 rfl ?_
              refine x_get C f_Hand_32 up_s rfl dX3_findBarre_55 ?_
              refine x_iconst C dX3_findBarre_58 ?_
              refine x_iadd C dX3_findBarre_59 ?_
              refine x_put C p_Hand_32 up_s (fit_int _) (Nat.le_of_ble_eq_true rfl) (h1 := (va_up h a (xO 2 [vi lo, vi hi, vi so, vi (b2i ba), .ref b, vi pr, vi (p1 + 1), vi sk]))) (up_u _ _ _ _) dX3_findBarre_60 ?_
              refine x_iload_n C dX3_findBarre_63 rfl rfl ?_
              refine x_istore_n C (ls' := [some (.ref a), some (vi (b2i o1)), some (vi (b2i o1)), some (vi (k : Int)), some (vi (f k))]) dX3_findBarre_64 rfl (by decide) rfl ?_
              refine x_iinc C (ls' := [some (.ref a), some (vi (b2i o1)), some (vi (b2i o1)), some (vi ((k : Int) + 1)), some (vi (f k))]) dX3_findBarre_65 rfl (by decide) (z1 := ((k : Int) + 1)) rfl rfl ?_
              refine x_goto C (tgt := 11) dX3_findBarre_68 (by decide) ?_
              refine X.sub (ls' := [some (.ref a), some (vi (b2i o1)), some (vi (b2i o1)), some (vi ((k : Int) + 1)), none]) (sub_cons (Or.inr rfl) (sub_cons (Or.inr rfl) (sub_cons (Or.inr rfl) (sub_cons (Or.inr rfl) (sub_cons (Or.inl rfl) sub_nil))))) ?_
              exact ih_L11 (k + 1) (p1 + 1) o1 o1 (by omega) (by omega) (by show fbS (hLow f) (f k) (fb f (hLow f) k) = _; rw [i2]; unfold fbS; simp_all; try omega)
        · skip
          refine x_aload_n C dX3_findBarre_30 rfl rfl ?_
          refine x_get C f_Hand_32 up_s rfl dX3_findBarre_31 ?_
          refine x_if_le C (tgt := 39) dX3_findBarre_34 (by decide) ⟨by omega, by omega⟩ (fun c34 => ?_) (fun c34 => ?_)
          · skip
            refine x_iload C dX3_findBarre_39 rfl ?_
            refine x_if_le C (tgt := 65) dX3_findBarre_41 (by decide) ⟨by omega, by omega⟩ (fun c41 => ?_) (fun c41 => ?_)
            · skip
              refine x_iinc C (ls' := [some (.ref a), some (vi (b2i o1)), some (vi (b2i c1)), some (vi ((k : Int) + 1)), some (vi (f k))]) dX3_findBarre_65 rfl (by decide) (z1 := ((k : Int) + 1)) rfl rfl ?_
              refine x_goto C (tgt := 11) dX3_findBarre_68 (by decide) ?_
              refine X.sub (ls' := [some (.ref a), some (vi (b2i o1)), some (vi (b2i c1)), some (vi ((k : Int) + 1)), none]) (sub_cons (Or.inr rfl) (sub_cons (Or.inr rfl) (sub_cons (Or.inr rfl) (sub_cons (Or.inr rfl) (sub_cons (Or.inl rfl) sub_nil))))) ?_
              exact ih_L11 (k + 1) p1 o1 c1 (by omega) (by omega) (by show fbS (hLow f) (f k) (fb f (hLow f) k) = _; rw [i2]; unfold fbS; simp_all; try omega)
            · skip
              refine x_iload C dX3_findBarre_44 rfl ?_
              refine x_aload_n C dX3_findBarre_46 rfl rfl ?_
              refine x_get C f_Hand_9 up_s rfl dX3_findBarre_47 ?_
              refine x_icmp_ne C (tgt := 65) dX3_findBarre_50 (by decide) ⟨by omega, by omega⟩ ⟨by omega, by omega⟩ (fun c50 => ?_) (fun c50 => ?_)
              · skip
                refine x_iinc C (ls' := [some (.ref a), some (vi (b2i o1)), some (vi (b2i c1)), some (vi ((k : Int) + 1)), some (vi (f k))]) dX3_findBarre_65 rfl (by decide) (z1 := ((k : Int) + 1)) rfl rfl ?_
                refine x_goto C (tgt := 11) dX3_findBarre_68 (by decide) ?_
                refine X.sub (ls' := [some (.ref a), some (vi (b2i o1)), some (vi (b2i c1)), some (vi ((k : Int) + 1)), none]) (sub_cons (Or.inr rfl) (sub_cons (Or.inr rfl) (sub_cons (Or.inr rfl) (sub_cons (Or.inr rfl) (sub_cons (Or.inl rfl) sub_nil))))) ?_
                exact ih_L11 (k + 1) p1 o1 c1 (by omega) (by omega) (by show fbS (hLow f) (f k) (fb f (hLow f) k) = _; rw [i2]; unfold fbS; simp_all; try omega)
              · skip
                refine x_aload_n C dX3_findBarre_53 rfl rfl ?_
                refine x_dup C dX3_findBarre_54 rfl ?_
                refine x_get C f_Hand_32 up_s rfl dX3_findBarre_55 ?_
                refine x_iconst C dX3_findBarre_58 ?_
                refine x_iadd C dX3_findBarre_59 ?_
                refine x_put C p_Hand_32 up_s (fit_int _) (Nat.le_of_ble_eq_true rfl) (h1 := (va_up h a (xO 2 [vi lo, vi hi, vi so, vi (b2i ba), .ref b, vi pr, vi (p1 + 1), vi sk]))) (up_u _ _ _ _) dX3_findBarre_60 ?_
                refine x_iload_n C dX3_findBarre_63 rfl rfl ?_
                refine x_istore_n C (ls' := [some (.ref a), some (vi (b2i o1)), some (vi (b2i o1)), some (vi (k : Int)), some (vi (f k))]) dX3_findBarre_64 rfl (by decide) rfl ?_
                refine x_iinc C (ls' := [some (.ref a), some (vi (b2i o1)), some (vi (b2i o1)), some (vi ((k : Int) + 1)), some (vi (f k))]) dX3_findBarre_65 rfl (by decide) (z1 := ((k : Int) + 1)) rfl rfl ?_
                refine x_goto C (tgt := 11) dX3_findBarre_68 (by decide) ?_
                refine X.sub (ls' := [some (.ref a), some (vi (b2i o1)), some (vi (b2i o1)), some (vi ((k : Int) + 1)), none]) (sub_cons (Or.inr rfl) (sub_cons (Or.inr rfl) (sub_cons (Or.inr rfl) (sub_cons (Or.inr rfl) (sub_cons (Or.inl rfl) sub_nil))))) ?_
                exact ih_L11 (k + 1) (p1 + 1) o1 o1 (by omega) (by omega) (by show fbS (hLow f) (f k) (fb f (hLow f) k) = _; rw [i2]; unfold fbS; simp_all; try omega)
          · skip
            refine x_iconst C dX3_findBarre_37 ?_
            refine x_istore_n C (ls' := [some (.ref a), some (vi 1), some (vi (b2i c1)), some (vi (k : Int)), some (vi (f k))]) dX3_findBarre_38 rfl (by decide) rfl ?_
            refine x_iload C dX3_findBarre_39 rfl ?_
            refine x_if_le C (tgt := 65) dX3_findBarre_41 (by decide) ⟨by omega, by omega⟩ (fun c41 => ?_) (fun c41 => ?_)
            · skip
              refine x_iinc C (ls' := [some (.ref a), some (vi 1), some (vi (b2i c1)), some (vi ((k : Int) + 1)), some (vi (f k))]) dX3_findBarre_65 rfl (by decide) (z1 := ((k : Int) + 1)) rfl rfl ?_
              refine x_goto C (tgt := 11) dX3_findBarre_68 (by decide) ?_
              refine X.sub (ls' := [some (.ref a), some (vi 1), some (vi (b2i c1)), some (vi ((k : Int) + 1)), none]) (sub_cons (Or.inr rfl) (sub_cons (Or.inr rfl) (sub_cons (Or.inr rfl) (sub_cons (Or.inr rfl) (sub_cons (Or.inl rfl) sub_nil))))) ?_
              exact ih_L11 (k + 1) p1 true c1 (by omega) (by omega) (by show fbS (hLow f) (f k) (fb f (hLow f) k) = _; rw [i2]; unfold fbS; simp_all; try omega)
            · skip
              refine x_iload C dX3_findBarre_44 rfl ?_
              refine x_aload_n C dX3_findBarre_46 rfl rfl ?_
              refine x_get C f_Hand_9 up_s rfl dX3_findBarre_47 ?_
              refine x_icmp_ne C (tgt := 65) dX3_findBarre_50 (by decide) ⟨by omega, by omega⟩ ⟨by omega, by omega⟩ (fun c50 => ?_) (fun c50 => ?_)
              · skip
                refine x_iinc C (ls' := [some (.ref a), some (vi 1), some (vi (b2i c1)), some (vi ((k : Int) + 1)), some (vi (f k))]) dX3_findBarre_65 rfl (by decide) (z1 := ((k : Int) + 1)) rfl rfl ?_
                refine x_goto C (tgt := 11) dX3_findBarre_68 (by decide) ?_
                refine X.sub (ls' := [some (.ref a), some (vi 1), some (vi (b2i c1)), some (vi ((k : Int) + 1)), none]) (sub_cons (Or.inr rfl) (sub_cons (Or.inr rfl) (sub_cons (Or.inr rfl) (sub_cons (Or.inr rfl) (sub_cons (Or.inl rfl) sub_nil))))) ?_
                exact ih_L11 (k + 1) p1 true c1 (by omega) (by omega) (by show fbS (hLow f) (f k) (fb f (hLow f) k) = _; rw [i2]; unfold fbS; simp_all; try omega)
              · skip
                refine x_aload_n C dX3_findBarre_53 rfl rfl ?_
                refine x_dup C dX3_findBarre_54 rfl ?_
                refine x_get C f_Hand_32 up_s rfl dX3_findBarre_55 ?_
                refine x_iconst C dX3_findBarre_58 ?_
                refine x_iadd C dX3_findBarre_59 ?_
                refine x_put C p_Hand_32 up_s (fit_int _) (Nat.le_of_ble_eq_true rfl) (h1 := (va_up h a (xO 2 [vi lo, vi hi, vi so, vi (b2i ba), .ref b, vi pr, vi (p1 + 1), vi sk]))) (up_u _ _ _ _) dX3_findBarre_60 ?_
                refine x_iload_n C dX3_findBarre_63 rfl rfl ?_
                refine x_istore_n C (ls' := [some (.ref a), some (vi 1), some (vi 1), some (vi (k : Int)), some (vi (f k))]) dX3_findBarre_64 rfl (by decide) rfl ?_
                refine x_iinc C (ls' := [some (.ref a), some (vi 1), some (vi 1), some (vi ((k : Int) + 1)), some (vi (f k))]) dX3_findBarre_65 rfl (by decide) (z1 := ((k : Int) + 1)) rfl rfl ?_
                refine x_goto C (tgt := 11) dX3_findBarre_68 (by decide) ?_
                refine X.sub (ls' := [some (.ref a), some (vi 1), some (vi 1), some (vi ((k : Int) + 1)), none]) (sub_cons (Or.inr rfl) (sub_cons (Or.inr rfl) (sub_cons (Or.inr rfl) (sub_cons (Or.inr rfl) (sub_cons (Or.inl rfl) sub_nil))))) ?_
                exact ih_L11 (k + 1) (p1 + 1) true true (by omega) (by omega) (by show fbS (hLow f) (f k) (fb f (hLow f) k) = _; rw [i2]; unfold fbS; simp_all; try omega)
  exact L11 _ 0 0 false false (Nat.lt_succ_self _) (by omega) (rfl)

set_option maxRecDepth 100000 in
set_option maxHeartbeats 4000000 in
theorem c_fingerCount {G : xG} {h : PH} {a b : Nat} {f : Nat → Int} (hA : h a = xHd b f) (hf : fbd f) : Cn G m_Hand_fingerCount 0 0 0 [.ref a] h (fun r h' => r = some (vi (hFc f)) ∧ h' = h) := by
  refine Cn_of (by decide) (Nat.le_of_ble_eq_true rfl) (fun K C hR E => ?_)
  show X G K 1 0 [some (.ref a)] [] h 0 0
  refine x_aload_n C dX3_fingerCount_0 rfl rfl ?_
  refine x_get C f_Hand_21 hA rfl dX3_fingerCount_1 ?_
  refine x_ifeqB C (tgt := 21) dX3_fingerCount_4 (by decide) (fun c4 => ?_) (fun c4 => ?_)
  · skip
    refine x_aload_n C dX3_fingerCount_21 rfl rfl ?_
    refine x_get C f_Hand_29 hA rfl dX3_fingerCount_22 ?_
    exact x_iret C E rfl (by omega) (by omega) dX3_fingerCount_25 (⟨by unfold hFc; rw [if_neg (by rw [c4]; decide)], rfl⟩)
  · skip
    refine x_aload_n C dX3_fingerCount_7 rfl rfl ?_
    refine x_get C f_Hand_29 hA rfl dX3_fingerCount_8 ?_
    refine x_aload_n C dX3_fingerCount_11 rfl rfl ?_
    refine x_get C f_Hand_32 hA rfl dX3_fingerCount_12 ?_
    refine x_isub C dX3_fingerCount_15 ?_
    refine x_iconst C dX3_fingerCount_16 ?_
    refine x_iadd C dX3_fingerCount_17 ?_
    refine x_goto C (tgt := 25) dX3_fingerCount_18 (by decide) ?_
    exact x_iret C E rfl (by omega) (by omega) dX3_fingerCount_25 (⟨by unfold hFc; rw [if_pos c4], rfl⟩)

theorem hFc_rg {f : Nat → Int} (hf : fbd f) : -6 ≤ hFc f ∧ hFc f ≤ 7 := by
  have := hrg hf
  unfold hFc
  split <;> omega

theorem hEff_rg {f : Nat → Int} (hf : fbd f) : -6 ≤ hEff f ∧ hEff f ≤ 250 := by
  have := hrg hf
  have := hFc_rg hf
  unfold hEff
  split <;> omega

set_option maxRecDepth 100000 in
set_option maxHeartbeats 4000000 in
theorem c_isPlayable {G : xG} {h : PH} {rc : Int} (hrc : bd rc) {a b : Nat} {f : Nat → Int} (hA : h a = xHd b f) (hf : fbd f) : Cn G m_Hand_isPlayable 1 0 0 [.ref a, vi rc] h (fun r h' => r = some (vi (b2i (hPlay f rc))) ∧ h' = h) := by
  refine Cn_of (by decide) (Nat.le_of_ble_eq_true rfl) (fun K C hR E => ?_)
  show X G K 2 0 [some (.ref a), some (vi rc)] [] h 0 0
  have hg := hrg hf
  have hg2 := hFc_rg hf
  refine x_aload_n C dX3_isPlayable_0 rfl rfl ?_
  refine x_get C f_Hand_15 hA rfl dX3_isPlayable_1 ?_
  refine x_aload_n C dX3_isPlayable_4 rfl rfl ?_
  refine x_get C f_Hand_9 hA rfl dX3_isPlayable_5 ?_
  refine x_isub C dX3_isPlayable_8 ?_
  refine x_iload_n C dX3_isPlayable_9 rfl rfl ?_
  refine x_icmp_gt C (tgt := 25) dX3_isPlayable_10 (by decide) ⟨by omega, by omega⟩ ⟨by omega, by omega⟩ (fun c10 => ?_) (fun c10 => ?_)
  · skip
    refine x_iconst C dX3_isPlayable_25 ?_
    exact x_zret C E rfl (by omega) (by omega) (z := false) dX3_isPlayable_26 (⟨by rw [show hPlay f rc = false by unfold hPlay; simp_all; try (intros; omega)], rfl⟩)
  · skip
    refine x_aload_n C dX3_isPlayable_13 rfl rfl ?_
    refine x_invV C s_Hand_53 (st := []) (c_fingerCount hA hf) hA rfl rfl (Nat.le_of_ble_eq_true rfl) (xRm_of hR (by omega) (by decide) (by omega) (by omega)) dX3_isPlayable_14 (fun r9 h9 hq => ?_)
    obtain ⟨rfl, e9⟩ := hq
    have e9 := e9.symm
    subst e9
    refine x_iconst C dX3_isPlayable_17 ?_
    refine x_icmp_gt C (tgt := 25) dX3_isPlayable_18 (by decide) ⟨by omega, by omega⟩ (by decide) (fun c18 => ?_) (fun c18 => ?_)
    · skip
      refine x_iconst C dX3_isPlayable_25 ?_
      exact x_zret C E rfl (by omega) (by omega) (z := false) dX3_isPlayable_26 (⟨by rw [show hPlay f rc = false by unfold hPlay; simp_all; try (intros; omega)], rfl⟩)
    · skip
      refine x_iconst C dX3_isPlayable_21 ?_
      refine x_goto C (tgt := 26) dX3_isPlayable_22 (by decide) ?_
      exact x_zret C E rfl (by omega) (by omega) (z := true) dX3_isPlayable_26 (⟨by rw [show hPlay f rc = true by unfold hPlay; simp_all; try (intros; omega)], rfl⟩)

set_option maxRecDepth 100000 in
set_option maxHeartbeats 4000000 in
theorem c_effort {G : xG} {h : PH} {a b : Nat} {f : Nat → Int} (hA : h a = xHd b f) (hf : fbd f) : Cn G m_Hand_effort 1 0 0 [.ref a] h (fun r h' => r = some (vi (hEff f)) ∧ h' = h) := by
  refine Cn_of (by decide) (Nat.le_of_ble_eq_true rfl) (fun K C hR E => ?_)
  show X G K 1 0 [some (.ref a)] [] h 0 0
  refine x_iconst C dX3_effort_0 ?_
  refine x_aload_n C dX3_effort_1 rfl rfl ?_
  refine x_get C f_Hand_15 hA rfl dX3_effort_2 ?_
  refine x_aload_n C dX3_effort_5 rfl rfl ?_
  refine x_get C f_Hand_9 hA rfl dX3_effort_6 ?_
  refine x_isub C dX3_effort_9 ?_
  refine x_imul C dX3_effort_10 ?_
  refine x_aload_n C dX3_effort_11 rfl rfl ?_
  refine x_invV C s_Hand_53 (st := [vi (2 * ((hHigh f) - (hLow f)))]) (c_fingerCount hA hf) hA rfl rfl (Nat.le_of_ble_eq_true rfl) (xRm_of hR (by omega) (by decide) (by omega) (by omega)) dX3_effort_12 (fun r9 h9 hq => ?_)
  obtain ⟨rfl, e9⟩ := hq
  have e9 := e9.symm
  subst e9
  refine x_iadd C dX3_effort_15 ?_
  refine x_aload_n C dX3_effort_16 rfl rfl ?_
  refine x_get C f_Hand_21 hA rfl dX3_effort_17 ?_
  refine x_ifeqB C (tgt := 27) dX3_effort_20 (by decide) (fun c20 => ?_) (fun c20 => ?_)
  · skip
    refine x_iconst C dX3_effort_27 ?_
    refine x_iadd C dX3_effort_28 ?_
    refine x_aload_n C dX3_effort_29 rfl rfl ?_
    refine x_get C f_Hand_35 hA rfl dX3_effort_30 ?_
    refine x_iadd C dX3_effort_33 ?_
    exact x_iret C E rfl (by omega) (by omega) dX3_effort_34 (⟨by unfold hEff; rw [if_neg (by rw [c20]; decide)], rfl⟩)
  · skip
    refine x_iconst C dX3_effort_23 ?_
    refine x_goto C (tgt := 28) dX3_effort_24 (by decide) ?_
    refine x_iadd C dX3_effort_28 ?_
    refine x_aload_n C dX3_effort_29 rfl rfl ?_
    refine x_get C f_Hand_35 hA rfl dX3_effort_30 ?_
    refine x_iadd C dX3_effort_33 ?_
    exact x_iret C E rfl (by omega) (by omega) dX3_effort_34 (⟨by unfold hEff; rw [if_pos c20], rfl⟩)

set_option maxRecDepth 100000 in
set_option maxHeartbeats 4000000 in
theorem c_fingerOn {G : xG} {h : PH} {s : Nat} (hs : s < 6) {a b : Nat} {f : Nat → Int} (hA : h a = xHd b f) (hf : fbd f) (hB : h b = xI G 6 f) : Cn G m_Hand_fingerOn 0 0 0 [.ref a, vi (s : Int)] h (fun r h' => r = some (vi (hFin f s)) ∧ h' = h) := by
  refine Cn_of (by decide) (Nat.le_of_ble_eq_true rfl) (fun K C hR E => ?_)
  show X G K 6 0 [some (.ref a), some (vi (s : Int)), none, none, none, none] [] h 0 0
  have hg := hrg hf
  have hfs := hf s
  refine x_iload_n C dX3_fingerOn_0 rfl rfl ?_
  refine x_if_lt C (tgt := 19) dX3_fingerOn_1 (by decide) ⟨by omega, by omega⟩ (fun c1 => ?_) (fun c1 => ?_)
  · skip
    exfalso; omega
  · skip
    refine x_iload_n C dX3_fingerOn_4 rfl rfl ?_
    refine x_bipush C (z := 6) dX3_fingerOn_5 (by decide) ?_
    refine x_icmp_ge C (tgt := 19) dX3_fingerOn_7 (by decide) ⟨by omega, by omega⟩ (by decide) (fun c7 => ?_) (fun c7 => ?_)
    · skip
      exfalso; omega
    · skip
      refine x_aload_n C dX3_fingerOn_10 rfl rfl ?_
      refine x_get C f_Hand_25 hA rfl dX3_fingerOn_11 ?_
      refine x_iload_n C dX3_fingerOn_14 rfl rfl ?_
      refine x_iald C hB ⟨by omega, by omega, by omega⟩ (v := (f s)) rfl dX3_fingerOn_15 ?_
      refine x_if_gt C (tgt := 21) dX3_fingerOn_16 (by decide) ⟨by omega, by omega⟩ (fun c16 => ?_) (fun c16 => ?_)
      · skip
        refine x_aload_n C dX3_fingerOn_21 rfl rfl ?_
        refine x_get C f_Hand_25 hA rfl dX3_fingerOn_22 ?_
        refine x_iload_n C dX3_fingerOn_25 rfl rfl ?_
        refine x_iald C hB ⟨by omega, by omega, by omega⟩ (v := (f s)) rfl dX3_fingerOn_26 ?_
        refine x_istore_n C (ls' := [some (.ref a), some (vi (s : Int)), some (vi (f s)), none, none, none]) dX3_fingerOn_27 rfl (by decide) rfl ?_
        refine x_aload_n C dX3_fingerOn_28 rfl rfl ?_
        refine x_get C f_Hand_21 hA rfl dX3_fingerOn_29 ?_
        refine x_ifeqB C (tgt := 45) dX3_fingerOn_32 (by decide) (fun c32 => ?_) (fun c32 => ?_)
        · skip
          refine x_iconst C dX3_fingerOn_45 ?_
          refine x_istore_n C (ls' := [some (.ref a), some (vi (s : Int)), some (vi (f s)), some (vi 0), none, none]) dX3_fingerOn_46 rfl (by decide) rfl ?_
          refine x_iconst C dX3_fingerOn_47 ?_
          refine x_istore C (ls' := [some (.ref a), some (vi (s : Int)), some (vi (f s)), some (vi 0), some (vi 0), none]) dX3_fingerOn_48 (by decide) rfl ?_
          have L50 : ∀ (n0 : Nat) (k : Nat) (p1 : Int), 6 - k < n0 → (k ≤ 6) → (bf f s k = p1) → X G K 6 50 [some (.ref a), some (vi (s : Int)), some (vi (f s)), some (vi p1), some (vi (k : Int)), none] [] h 0 0 := by
            intro n0
            induction n0 with
            | zero => intro k p1 hm; exact absurd hm (Nat.not_lt_zero _)
            | succ n0 ih_L50 =>
              intro k p1 hm i1 i2
              refine x_iload C dX3_fingerOn_50 rfl ?_
              refine x_bipush C (z := 6) dX3_fingerOn_52 (by decide) ?_
              refine x_icmp_ge C (tgt := 98) dX3_fingerOn_54 (by decide) ⟨by omega, by omega⟩ (by decide) (fun c54 => ?_) (fun c54 => ?_)
              · skip
                refine x_aload_n C dX3_fingerOn_98 rfl rfl ?_
                refine x_get C f_Hand_21 hA rfl dX3_fingerOn_99 ?_
                refine x_ifeqB C (tgt := 116) dX3_fingerOn_102 (by decide) (fun c102 => ?_) (fun c102 => ?_)
                · skip
                  refine x_iload_n C dX3_fingerOn_116 rfl rfl ?_
                  refine x_iconst C dX3_fingerOn_117 ?_
                  refine x_iadd C dX3_fingerOn_118 ?_
                  have e6 : k = 6 := by omega
                  subst e6
                  exact x_iret C E rfl (by omega) (by omega) dX3_fingerOn_119 (⟨by unfold hFin; rw [if_neg (by omega), if_neg (by simp_all), if_neg (by simp_all), i2], rfl⟩)
                · skip
                  refine x_iload_n C dX3_fingerOn_105 rfl rfl ?_
                  refine x_aload_n C dX3_fingerOn_106 rfl rfl ?_
                  refine x_get C f_Hand_32 hA rfl dX3_fingerOn_107 ?_
                  refine x_isub C dX3_fingerOn_110 ?_
                  refine x_iconst C dX3_fingerOn_111 ?_
                  refine x_iadd C dX3_fingerOn_112 ?_
                  refine x_goto C (tgt := 119) dX3_fingerOn_113 (by decide) ?_
                  have e6 : k = 6 := by omega
                  subst e6
                  exact x_iret C E rfl (by omega) (by omega) dX3_fingerOn_119 (⟨by unfold hFin; rw [if_neg (by omega), if_neg (by simp_all), if_pos c102, i2], rfl⟩)
              · skip
                have hfk := hf k
                have hr := bf_rg f s k
                refine x_aload_n C dX3_fingerOn_57 rfl rfl ?_
                refine x_get C f_Hand_25 hA rfl dX3_fingerOn_58 ?_
                refine x_iload C dX3_fingerOn_61 rfl ?_
                refine x_iald C hB ⟨by omega, by omega, by omega⟩ (v := (f k)) rfl dX3_fingerOn_63 ?_
                refine x_istore C (ls' := [some (.ref a), some (vi (s : Int)), some (vi (f s)), some (vi p1), some (vi (k : Int)), some (vi (f k))]) dX3_fingerOn_64 (by decide) rfl ?_
                refine x_iload C dX3_fingerOn_66 rfl ?_
                refine x_if_le C (tgt := 92) dX3_fingerOn_68 (by decide) ⟨by omega, by omega⟩ (fun c68 => ?_) (fun c68 => ?_)
                · skip
                  refine x_iinc C (ls' := [some (.ref a), some (vi (s : Int)), some (vi (f s)), some (vi p1), some (vi ((k : Int) + 1)), some (vi (f k))]) dX3_fingerOn_92 rfl (by decide) (z1 := ((k : Int) + 1)) rfl rfl ?_
                  refine x_goto C (tgt := 50) dX3_fingerOn_95 (by decide) ?_
                  refine X.sub (ls' := [some (.ref a), some (vi (s : Int)), some (vi (f s)), some (vi p1), some (vi ((k : Int) + 1)), none]) (sub_cons (Or.inr rfl) (sub_cons (Or.inr rfl) (sub_cons (Or.inr rfl) (sub_cons (Or.inr rfl) (sub_cons (Or.inr rfl) (sub_cons (Or.inl rfl) sub_nil)))))) ?_
                  exact ih_L50 (k + 1) p1 (by omega) (by omega) (by show bfS f s (f k) k (bf f s k) = _; rw [i2]; unfold bfS; simp_all; try omega)
                · skip
                  refine x_iload C dX3_fingerOn_71 rfl ?_
                  refine x_iload_n C dX3_fingerOn_73 rfl rfl ?_
                  refine x_icmp_lt C (tgt := 89) dX3_fingerOn_74 (by decide) ⟨by omega, by omega⟩ ⟨by omega, by omega⟩ (fun c74 => ?_) (fun c74 => ?_)
                  · skip
                    refine x_iinc C (ls' := [some (.ref a), some (vi (s : Int)), some (vi (f s)), some (vi (p1 + 1)), some (vi (k : Int)), some (vi (f k))]) dX3_fingerOn_89 rfl (by decide) (z1 := (p1 + 1)) rfl rfl ?_
                    refine x_iinc C (ls' := [some (.ref a), some (vi (s : Int)), some (vi (f s)), some (vi (p1 + 1)), some (vi ((k : Int) + 1)), some (vi (f k))]) dX3_fingerOn_92 rfl (by decide) (z1 := ((k : Int) + 1)) rfl rfl ?_
                    refine x_goto C (tgt := 50) dX3_fingerOn_95 (by decide) ?_
                    refine X.sub (ls' := [some (.ref a), some (vi (s : Int)), some (vi (f s)), some (vi (p1 + 1)), some (vi ((k : Int) + 1)), none]) (sub_cons (Or.inr rfl) (sub_cons (Or.inr rfl) (sub_cons (Or.inr rfl) (sub_cons (Or.inr rfl) (sub_cons (Or.inr rfl) (sub_cons (Or.inl rfl) sub_nil)))))) ?_
                    exact ih_L50 (k + 1) (p1 + 1) (by omega) (by omega) (by show bfS f s (f k) k (bf f s k) = _; rw [i2]; unfold bfS; simp_all; try omega)
                  · skip
                    refine x_iload C dX3_fingerOn_77 rfl ?_
                    refine x_iload_n C dX3_fingerOn_79 rfl rfl ?_
                    refine x_icmp_ne C (tgt := 92) dX3_fingerOn_80 (by decide) ⟨by omega, by omega⟩ ⟨by omega, by omega⟩ (fun c80 => ?_) (fun c80 => ?_)
                    · skip
                      refine x_iinc C (ls' := [some (.ref a), some (vi (s : Int)), some (vi (f s)), some (vi p1), some (vi ((k : Int) + 1)), some (vi (f k))]) dX3_fingerOn_92 rfl (by decide) (z1 := ((k : Int) + 1)) rfl rfl ?_
                      refine x_goto C (tgt := 50) dX3_fingerOn_95 (by decide) ?_
                      refine X.sub (ls' := [some (.ref a), some (vi (s : Int)), some (vi (f s)), some (vi p1), some (vi ((k : Int) + 1)), none]) (sub_cons (Or.inr rfl) (sub_cons (Or.inr rfl) (sub_cons (Or.inr rfl) (sub_cons (Or.inr rfl) (sub_cons (Or.inr rfl) (sub_cons (Or.inl rfl) sub_nil)))))) ?_
                      exact ih_L50 (k + 1) p1 (by omega) (by omega) (by show bfS f s (f k) k (bf f s k) = _; rw [i2]; unfold bfS; simp_all; try omega)
                    · skip
                      refine x_iload C dX3_fingerOn_83 rfl ?_
                      refine x_iload_n C dX3_fingerOn_85 rfl rfl ?_
                      refine x_icmp_ge C (tgt := 92) dX3_fingerOn_86 (by decide) ⟨by omega, by omega⟩ ⟨by omega, by omega⟩ (fun c86 => ?_) (fun c86 => ?_)
                      · skip
                        refine x_iinc C (ls' := [some (.ref a), some (vi (s : Int)), some (vi (f s)), some (vi p1), some (vi ((k : Int) + 1)), some (vi (f k))]) dX3_fingerOn_92 rfl (by decide) (z1 := ((k : Int) + 1)) rfl rfl ?_
                        refine x_goto C (tgt := 50) dX3_fingerOn_95 (by decide) ?_
                        refine X.sub (ls' := [some (.ref a), some (vi (s : Int)), some (vi (f s)), some (vi p1), some (vi ((k : Int) + 1)), none]) (sub_cons (Or.inr rfl) (sub_cons (Or.inr rfl) (sub_cons (Or.inr rfl) (sub_cons (Or.inr rfl) (sub_cons (Or.inr rfl) (sub_cons (Or.inl rfl) sub_nil)))))) ?_
                        exact ih_L50 (k + 1) p1 (by omega) (by omega) (by show bfS f s (f k) k (bf f s k) = _; rw [i2]; unfold bfS; simp_all; try omega)
                      · skip
                        refine x_iinc C (ls' := [some (.ref a), some (vi (s : Int)), some (vi (f s)), some (vi (p1 + 1)), some (vi (k : Int)), some (vi (f k))]) dX3_fingerOn_89 rfl (by decide) (z1 := (p1 + 1)) rfl rfl ?_
                        refine x_iinc C (ls' := [some (.ref a), some (vi (s : Int)), some (vi (f s)), some (vi (p1 + 1)), some (vi ((k : Int) + 1)), some (vi (f k))]) dX3_fingerOn_92 rfl (by decide) (z1 := ((k : Int) + 1)) rfl rfl ?_
                        refine x_goto C (tgt := 50) dX3_fingerOn_95 (by decide) ?_
                        refine X.sub (ls' := [some (.ref a), some (vi (s : Int)), some (vi (f s)), some (vi (p1 + 1)), some (vi ((k : Int) + 1)), none]) (sub_cons (Or.inr rfl) (sub_cons (Or.inr rfl) (sub_cons (Or.inr rfl) (sub_cons (Or.inr rfl) (sub_cons (Or.inr rfl) (sub_cons (Or.inl rfl) sub_nil)))))) ?_
                        exact ih_L50 (k + 1) (p1 + 1) (by omega) (by omega) (by show bfS f s (f k) k (bf f s k) = _; rw [i2]; unfold bfS; simp_all; try omega)
          exact L50 _ 0 0 (Nat.lt_succ_self _) (by omega) (rfl)
        · skip
          refine x_iload_n C dX3_fingerOn_35 rfl rfl ?_
          refine x_aload_n C dX3_fingerOn_36 rfl rfl ?_
          refine x_get C f_Hand_9 hA rfl dX3_fingerOn_37 ?_
          refine x_icmp_ne C (tgt := 45) dX3_fingerOn_40 (by decide) ⟨by omega, by omega⟩ ⟨by omega, by omega⟩ (fun c40 => ?_) (fun c40 => ?_)
          · skip
            refine x_iconst C dX3_fingerOn_45 ?_
            refine x_istore_n C (ls' := [some (.ref a), some (vi (s : Int)), some (vi (f s)), some (vi 0), none, none]) dX3_fingerOn_46 rfl (by decide) rfl ?_
            refine x_iconst C dX3_fingerOn_47 ?_
            refine x_istore C (ls' := [some (.ref a), some (vi (s : Int)), some (vi (f s)), some (vi 0), some (vi 0), none]) dX3_fingerOn_48 (by decide) rfl ?_
            have L50 : ∀ (n0 : Nat) (k : Nat) (p1 : Int), 6 - k < n0 → (k ≤ 6) → (bf f s k = p1) → X G K 6 50 [some (.ref a), some (vi (s : Int)), some (vi (f s)), some (vi p1), some (vi (k : Int)), none] [] h 0 0 := by
              intro n0
              induction n0 with
              | zero => intro k p1 hm; exact absurd hm (Nat.not_lt_zero _)
              | succ n0 ih_L50 =>
                intro k p1 hm i1 i2
                refine x_iload C dX3_fingerOn_50 rfl ?_
                refine x_bipush C (z := 6) dX3_fingerOn_52 (by decide) ?_
                refine x_icmp_ge C (tgt := 98) dX3_fingerOn_54 (by decide) ⟨by omega, by omega⟩ (by decide) (fun c54 => ?_) (fun c54 => ?_)
                · skip
                  refine x_aload_n C dX3_fingerOn_98 rfl rfl ?_
                  refine x_get C f_Hand_21 hA rfl dX3_fingerOn_99 ?_
                  refine x_ifeqB C (tgt := 116) dX3_fingerOn_102 (by decide) (fun c102 => ?_) (fun c102 => ?_)
                  · skip
                    refine x_iload_n C dX3_fingerOn_116 rfl rfl ?_
                    refine x_iconst C dX3_fingerOn_117 ?_
                    refine x_iadd C dX3_fingerOn_118 ?_
                    have e6 : k = 6 := by omega
                    subst e6
                    exact x_iret C E rfl (by omega) (by omega) dX3_fingerOn_119 (⟨by unfold hFin; rw [if_neg (by omega), if_neg (by simp_all), if_neg (by simp_all), i2], rfl⟩)
                  · skip
                    refine x_iload_n C dX3_fingerOn_105 rfl rfl ?_
                    refine x_aload_n C dX3_fingerOn_106 rfl rfl ?_
                    refine x_get C f_Hand_32 hA rfl dX3_fingerOn_107 ?_
                    refine x_isub C dX3_fingerOn_110 ?_
                    refine x_iconst C dX3_fingerOn_111 ?_
                    refine x_iadd C dX3_fingerOn_112 ?_
                    refine x_goto C (tgt := 119) dX3_fingerOn_113 (by decide) ?_
                    have e6 : k = 6 := by omega
                    subst e6
                    exact x_iret C E rfl (by omega) (by omega) dX3_fingerOn_119 (⟨by unfold hFin; rw [if_neg (by omega), if_neg (by simp_all), if_pos c102, i2], rfl⟩)
                · skip
                  have hfk := hf k
                  have hr := bf_rg f s k
                  refine x_aload_n C dX3_fingerOn_57 rfl rfl ?_
                  refine x_get C f_Hand_25 hA rfl dX3_fingerOn_58 ?_
                  refine x_iload C dX3_fingerOn_61 rfl ?_
                  refine x_iald C hB ⟨by omega, by omega, by omega⟩ (v := (f k)) rfl dX3_fingerOn_63 ?_
                  refine x_istore C (ls' := [some (.ref a), some (vi (s : Int)), some (vi (f s)), some (vi p1), some (vi (k : Int)), some (vi (f k))]) dX3_fingerOn_64 (by decide) rfl ?_
                  refine x_iload C dX3_fingerOn_66 rfl ?_
                  refine x_if_le C (tgt := 92) dX3_fingerOn_68 (by decide) ⟨by omega, by omega⟩ (fun c68 => ?_) (fun c68 => ?_)
                  · skip
                    refine x_iinc C (ls' := [some (.ref a), some (vi (s : Int)), some (vi (f s)), some (vi p1), some (vi ((k : Int) + 1)), some (vi (f k))]) dX3_fingerOn_92 rfl (by decide) (z1 := ((k : Int) + 1)) rfl rfl ?_
                    refine x_goto C (tgt := 50) dX3_fingerOn_95 (by decide) ?_
                    refine X.sub (ls' := [some (.ref a), some (vi (s : Int)), some (vi (f s)), some (vi p1), some (vi ((k : Int) + 1)), none]) (sub_cons (Or.inr rfl) (sub_cons (Or.inr rfl) (sub_cons (Or.inr rfl) (sub_cons (Or.inr rfl) (sub_cons (Or.inr rfl) (sub_cons (Or.inl rfl) sub_nil)))))) ?_
                    exact ih_L50 (k + 1) p1 (by omega) (by omega) (by show bfS f s (f k) k (bf f s k) = _; rw [i2]; unfold bfS; simp_all; try omega)
                  · skip
                    refine x_iload C dX3_fingerOn_71 rfl ?_
                    refine x_iload_n C dX3_fingerOn_73 rfl rfl ?_
                    refine x_icmp_lt C (tgt := 89) dX3_fingerOn_74 (by decide) ⟨by omega, by omega⟩ ⟨by omega, by omega⟩ (fun c74 => ?_) (fun c74 => ?_)
                    · skip
                      refine x_iinc C (ls' := [some (.ref a), some (vi (s : Int)), some (vi (f s)), some (vi (p1 + 1)), some (vi (k : Int)), some (vi (f k))]) dX3_fingerOn_89 rfl (by decide) (z1 := (p1 + 1)) rfl rfl ?_
                      refine x_iinc C (ls' := [some (.ref a), some (vi (s : Int)), some (vi (f s)), some (vi (p1 + 1)), some (vi ((k : Int) + 1)), some (vi (f k))]) dX3_fingerOn_92 rfl (by decide) (z1 := ((k : Int) + 1)) rfl rfl ?_
                      refine x_goto C (tgt := 50) dX3_fingerOn_95 (by decide) ?_
                      refine X.sub (ls' := [some (.ref a), some (vi (s : Int)), some (vi (f s)), some (vi (p1 + 1)), some (vi ((k : Int) + 1)), none]) (sub_cons (Or.inr rfl) (sub_cons (Or.inr rfl) (sub_cons (Or.inr rfl) (sub_cons (Or.inr rfl) (sub_cons (Or.inr rfl) (sub_cons (Or.inl rfl) sub_nil)))))) ?_
                      exact ih_L50 (k + 1) (p1 + 1) (by omega) (by omega) (by show bfS f s (f k) k (bf f s k) = _; rw [i2]; unfold bfS; simp_all; try omega)
                    · skip
                      refine x_iload C dX3_fingerOn_77 rfl ?_
                      refine x_iload_n C dX3_fingerOn_79 rfl rfl ?_
                      refine x_icmp_ne C (tgt := 92) dX3_fingerOn_80 (by decide) ⟨by omega, by omega⟩ ⟨by omega, by omega⟩ (fun c80 => ?_) (fun c80 => ?_)
                      · skip
                        refine x_iinc C (ls' := [some (.ref a), some (vi (s : Int)), some (vi (f s)), some (vi p1), some (vi ((k : Int) + 1)), some (vi (f k))]) dX3_fingerOn_92 rfl (by decide) (z1 := ((k : Int) + 1)) rfl rfl ?_
                        refine x_goto C (tgt := 50) dX3_fingerOn_95 (by decide) ?_
                        refine X.sub (ls' := [some (.ref a), some (vi (s : Int)), some (vi (f s)), some (vi p1), some (vi ((k : Int) + 1)), none]) (sub_cons (Or.inr rfl) (sub_cons (Or.inr rfl) (sub_cons (Or.inr rfl) (sub_cons (Or.inr rfl) (sub_cons (Or.inr rfl) (sub_cons (Or.inl rfl) sub_nil)))))) ?_
                        exact ih_L50 (k + 1) p1 (by omega) (by omega) (by show bfS f s (f k) k (bf f s k) = _; rw [i2]; unfold bfS; simp_all; try omega)
                      · skip
                        refine x_iload C dX3_fingerOn_83 rfl ?_
                        refine x_iload_n C dX3_fingerOn_85 rfl rfl ?_
                        refine x_icmp_ge C (tgt := 92) dX3_fingerOn_86 (by decide) ⟨by omega, by omega⟩ ⟨by omega, by omega⟩ (fun c86 => ?_) (fun c86 => ?_)
                        · skip
                          refine x_iinc C (ls' := [some (.ref a), some (vi (s : Int)), some (vi (f s)), some (vi p1), some (vi ((k : Int) + 1)), some (vi (f k))]) dX3_fingerOn_92 rfl (by decide) (z1 := ((k : Int) + 1)) rfl rfl ?_
                          refine x_goto C (tgt := 50) dX3_fingerOn_95 (by decide) ?_
                          refine X.sub (ls' := [some (.ref a), some (vi (s : Int)), some (vi (f s)), some (vi p1), some (vi ((k : Int) + 1)), none]) (sub_cons (Or.inr rfl) (sub_cons (Or.inr rfl) (sub_cons (Or.inr rfl) (sub_cons (Or.inr rfl) (sub_cons (Or.inr rfl) (sub_cons (Or.inl rfl) sub_nil)))))) ?_
                          exact ih_L50 (k + 1) p1 (by omega) (by omega) (by show bfS f s (f k) k (bf f s k) = _; rw [i2]; unfold bfS; simp_all; try omega)
                        · skip
                          refine x_iinc C (ls' := [some (.ref a), some (vi (s : Int)), some (vi (f s)), some (vi (p1 + 1)), some (vi (k : Int)), some (vi (f k))]) dX3_fingerOn_89 rfl (by decide) (z1 := (p1 + 1)) rfl rfl ?_
                          refine x_iinc C (ls' := [some (.ref a), some (vi (s : Int)), some (vi (f s)), some (vi (p1 + 1)), some (vi ((k : Int) + 1)), some (vi (f k))]) dX3_fingerOn_92 rfl (by decide) (z1 := ((k : Int) + 1)) rfl rfl ?_
                          refine x_goto C (tgt := 50) dX3_fingerOn_95 (by decide) ?_
                          refine X.sub (ls' := [some (.ref a), some (vi (s : Int)), some (vi (f s)), some (vi (p1 + 1)), some (vi ((k : Int) + 1)), none]) (sub_cons (Or.inr rfl) (sub_cons (Or.inr rfl) (sub_cons (Or.inr rfl) (sub_cons (Or.inr rfl) (sub_cons (Or.inr rfl) (sub_cons (Or.inl rfl) sub_nil)))))) ?_
                          exact ih_L50 (k + 1) (p1 + 1) (by omega) (by omega) (by show bfS f s (f k) k (bf f s k) = _; rw [i2]; unfold bfS; simp_all; try omega)
            exact L50 _ 0 0 (Nat.lt_succ_self _) (by omega) (rfl)
          · skip
            refine x_iconst C dX3_fingerOn_43 ?_
            exact x_iret C E rfl (by omega) (by omega) dX3_fingerOn_44 (⟨by unfold hFin; rw [if_neg (by omega), if_pos ⟨c32, c40⟩], rfl⟩)
      · skip
        refine x_iconst C dX3_fingerOn_19 ?_
        exact x_iret C E rfl (by omega) (by omega) dX3_fingerOn_20 (⟨by unfold hFin; rw [if_pos (by omega)], rfl⟩)

set_option maxRecDepth 100000 in
set_option maxHeartbeats 4000000 in
theorem c_hold {G : xG} {h : PH} {c : Nat} (hc : c < 2 ^ 31) {a b : Nat} {lo hi so pr pl sk : Int} {ba : Bool} {g0 : Nat → Int} (hA : h a = xO 2 [vi lo, vi hi, vi so, vi (b2i ba), .ref b, vi pr, vi pl, vi sk]) (hB : h b = xI G 6 g0) (nab : a ≠ b) : Cn G m_Hand_hold 2 0 0 [.ref a, vi (c : Int)] h (fun r h' => r = none ∧ h' = va_up (va_up h a (xHd b (fr c))) b (xI G 6 (fr c))) := by
  refine Cn_of (by decide) (Nat.le_of_ble_eq_true rfl) (fun K C hR E => ?_)
  show X G K 3 0 [some (.ref a), some (vi (c : Int)), none] [] h 0 0
  refine X.heq (up_self hA).symm ?_
  refine X.heq (up_self ((up_n (Ne.symm nab)).trans hB)).symm ?_
  refine x_iconst C dX3_hold_0 ?_
  refine x_istore_n C (ls' := [some (.ref a), some (vi (c : Int)), some (vi 0)]) dX3_hold_1 rfl (by decide) rfl ?_
  have L2 : ∀ (n0 : Nat) (k : Nat) (g : Nat → Int), 6 - k < n0 → (k ≤ 6) → (∀ j : Nat, j < k → g j = fr c j) → X G K 3 2 [some (.ref a), some (vi (c : Int)), some (vi (k : Int))] [] (va_up (va_up h a (xO 2 [vi lo, vi hi, vi so, vi (b2i ba), .ref b, vi pr, vi pl, vi sk])) b (xI G 6 g)) 0 0 := by
    intro n0
    induction n0 with
    | zero => intro k g hm; exact absurd hm (Nat.not_lt_zero _)
    | succ n0 ih_L2 =>
      intro k g hm i1 i2
      refine x_iload_n C dX3_hold_2 rfl rfl ?_
      refine x_bipush C (z := 6) dX3_hold_3 (by decide) ?_
      refine x_icmp_ge C (tgt := 25) dX3_hold_5 (by decide) ⟨by omega, by omega⟩ (by decide) (fun c5 => ?_) (fun c5 => ?_)
      · skip
        refine X.aeq (g' := fr c) up_s (fun j hj => i2 j (by omega)) ?_
        refine X.heq (h1 := (va_up (va_up h a (xO 2 [vi lo, vi hi, vi so, vi (b2i ba), .ref b, vi pr, vi pl, vi sk])) b (xI G 6 (fr c)))) (up_u _ _ _ _) ?_
        refine x_aload_n C dX3_hold_25 rfl rfl ?_
        refine x_invV C s_Hand_44 (st := []) (c_countSounding ((up_n nab).trans up_s) up_s nab (fr_fbd c)) ((up_n nab).trans up_s) rfl rfl (Nat.le_of_ble_eq_true rfl) (xRm_of hR (by omega) (by decide) (by omega) (by omega)) dX3_hold_26 (fun r9 h9 hq => ?_)
        obtain ⟨rfl, e9⟩ := hq
        have e9 := e9.symm
        subst e9
        refine X.heq (h1 := (va_up (va_up h a (xO 2 [vi lo, vi hi, vi (hSnd (fr c)), vi (b2i ba), .ref b, vi pr, vi pl, vi (hSkp (fr c))])) b (xI G 6 (fr c)))) ((up_c _ _ _ (Ne.symm nab)).trans (congrArg (fun f => va_up f b _) (up_u _ _ _ _))) ?_
        refine x_aload_n C dX3_hold_29 rfl rfl ?_
        refine x_invV C s_Hand_47 (st := []) (c_countPressed ((up_n nab).trans up_s) up_s nab (fr_fbd c)) ((up_n nab).trans up_s) rfl rfl (Nat.le_of_ble_eq_true rfl) (xRm_of hR (by omega) (by decide) (by omega) (by omega)) dX3_hold_30 (fun r9 h9 hq => ?_)
        obtain ⟨rfl, e9⟩ := hq
        have e9 := e9.symm
        subst e9
        refine X.heq (h1 := (va_up (va_up h a (xO 2 [vi (hLow (fr c)), vi (hHigh (fr c)), vi (hSnd (fr c)), vi (b2i ba), .ref b, vi (hPr (fr c)), vi pl, vi (hSkp (fr c))])) b (xI G 6 (fr c)))) ((up_c _ _ _ (Ne.symm nab)).trans (congrArg (fun f => va_up f b _) (up_u _ _ _ _))) ?_
        refine x_aload_n C dX3_hold_33 rfl rfl ?_
        refine x_invV C s_Hand_50 (st := []) (c_findBarre ((up_n nab).trans up_s) up_s nab (fr_fbd c) rfl) ((up_n nab).trans up_s) rfl rfl (Nat.le_of_ble_eq_true rfl) (xRm_of hR (by omega) (by decide) (by omega) (by omega)) dX3_hold_34 (fun r9 h9 hq => ?_)
        obtain ⟨rfl, e9⟩ := hq
        have e9 := e9.symm
        subst e9
        refine X.heq (h1 := (va_up (va_up h a (xO 2 [vi (hLow (fr c)), vi (hHigh (fr c)), vi (hSnd (fr c)), vi (b2i (hBar (fr c))), .ref b, vi (hPr (fr c)), vi (hPal (fr c)), vi (hSkp (fr c))])) b (xI G 6 (fr c)))) ((up_c _ _ _ (Ne.symm nab)).trans (congrArg (fun f => va_up f b _) (up_u _ _ _ _))) ?_
        exact x_vret C E rfl (by omega) (by omega) dX3_hold_37 (⟨rfl, rfl⟩)
      · skip
        refine x_aload_n C dX3_hold_8 rfl rfl ?_
        refine x_get C f_Hand_25 ((up_n nab).trans up_s) rfl dX3_hold_9 ?_
        refine x_iload_n C dX3_hold_12 rfl rfl ?_
        refine x_iload_n C dX3_hold_13 rfl rfl ?_
        refine x_iload_n C dX3_hold_14 rfl rfl ?_
        refine x_invS C s_Hand_38 (st := [vi (k : Int), .ref b]) (c_fretAt hc (s := k) (by omega)) rfl rfl (Nat.le_of_ble_eq_true rfl) (xRm_of hR (by omega) (by decide) (by omega) (by omega)) dX3_hold_15 (fun r9 h9 hq => ?_)
        obtain ⟨rfl, e9⟩ := hq
        have e9 := e9.symm
        subst e9
        refine x_iast C up_s ⟨by omega, by omega, by omega⟩ (h1 := (va_up (va_up h a (xO 2 [vi lo, vi hi, vi so, vi (b2i ba), .ref b, vi pr, vi pl, vi sk])) b (xI G 6 (va_up g k (fr c k))))) (up_u _ _ _ _) dX3_hold_18 ?_
        refine x_iinc C (ls' := [some (.ref a), some (vi (c : Int)), some (vi ((k : Int) + 1))]) dX3_hold_19 rfl (by decide) (z1 := ((k : Int) + 1)) rfl rfl ?_
        refine x_goto C (tgt := 2) dX3_hold_22 (by decide) ?_
        exact ih_L2 (k + 1) (va_up g k (fr c k)) (by omega) (by omega) (fun j hj => by
          by_cases q : j = k
          · rw [q, up_s]
          · rw [up_n q]; exact i2 j (by omega))
  exact L2 _ 0 g0 (Nat.lt_succ_self _) (by omega) (fun j hj => absurd hj (Nat.not_lt_zero _))

set_option maxRecDepth 100000 in
set_option maxHeartbeats 4000000 in
theorem c_Hand_init {G : xG} {h : PH} {a : Nat} {b0 : Value} (hA : h a = xO 2 [vi 0, vi 0, vi 0, vi 0, .null, vi 0, vi 0, vi 0]) : Cn G m_Hand_init 1 1 6 [.ref a] h (fun r h' => r = none ∧ ∃ q, h q = none ∧ h' = va_up (va_up h a (xO 2 [vi 0, vi 0, vi 0, vi (b2i false), .ref q, vi 0, vi 0, vi 0])) q (xI G 6 (fun _ => 0))) := by
  refine Cn_of (by decide) (Nat.le_of_ble_eq_true rfl) (fun K C hR E => ?_)
  show X G K 1 0 [some (.ref a)] [] h 0 0
  refine X.heq (up_self hA).symm ?_
  refine x_aload_n C dX3_init_0 rfl rfl ?_
  refine x_objI C s_Hand_3 o_inst o_code (Nat.le_of_ble_eq_true rfl) hR (by omega) dX3_init_1 ?_
  refine x_aload_n C dX3_init_4 rfl rfl ?_
  refine x_iconst C dX3_init_5 ?_
  refine x_put C p_Hand_9 up_s (fit_int _) (Nat.le_of_ble_eq_true rfl) (h1 := (va_up h a (xO 2 [vi 0, vi 0, vi 0, vi (b2i false), .null, vi 0, vi 0, vi 0]))) (up_u _ _ _ _) dX3_init_6 ?_
  refine x_aload_n C dX3_init_9 rfl rfl ?_
  refine x_iconst C dX3_init_10 ?_
  refine x_put C p_Hand_15 up_s (fit_int _) (Nat.le_of_ble_eq_true rfl) (h1 := (va_up h a (xO 2 [vi 0, vi 0, vi 0, vi (b2i false), .null, vi 0, vi 0, vi 0]))) (up_u _ _ _ _) dX3_init_11 ?_
  refine x_aload_n C dX3_init_14 rfl rfl ?_
  refine x_iconst C dX3_init_15 ?_
  refine x_put C p_Hand_18 up_s (fit_int _) (Nat.le_of_ble_eq_true rfl) (h1 := (va_up h a (xO 2 [vi 0, vi 0, vi 0, vi (b2i false), .null, vi 0, vi 0, vi 0]))) (up_u _ _ _ _) dX3_init_16 ?_
  refine x_aload_n C dX3_init_19 rfl rfl ?_
  refine x_iconst C dX3_init_20 ?_
  refine x_put C p_Hand_21 up_s (fit_bool false) (Nat.le_of_ble_eq_true rfl) (h1 := (va_up h a (xO 2 [vi 0, vi 0, vi 0, vi (b2i false), .null, vi 0, vi 0, vi 0]))) (up_u _ _ _ _) dX3_init_21 ?_
  refine x_aload_n C dX3_init_24 rfl rfl ?_
  refine x_bipush C (z := 6) dX3_init_25 (by decide) ?_
  refine x_newI C (n := 6) ⟨by omega, by omega⟩ arrayClass_int hR (by omega) (by omega) dX3_init_27 (fun q zq => ?_)
  have ne_a_q : a ≠ q := fun e => by rw [← e] at zq; exact absurd (zq.symm.trans up_s) (by intro h9; cases h9)
  refine x_putF C p_Hand_25 E.2.1 ((up_n ne_a_q).trans up_s) (fit_arr _ _) (Nat.le_of_ble_eq_true rfl) (h1 := (va_up (va_up h a (xO 2 [vi 0, vi 0, vi 0, vi (b2i false), .ref q, vi 0, vi 0, vi 0])) q (xI G 6 (fun _ => 0)))) ((up_c _ _ _ (Ne.symm ne_a_q)).trans (congrArg (fun f => va_up f q _) (up_u _ _ _ _))) dX3_init_29 ?_
  refine x_aload_n C dX3_init_32 rfl rfl ?_
  refine x_iconst C dX3_init_33 ?_
  refine x_put C p_Hand_29 ((up_n ne_a_q).trans up_s) (fit_int _) (Nat.le_of_ble_eq_true rfl) (h1 := (va_up (va_up h a (xO 2 [vi 0, vi 0, vi 0, vi (b2i false), .ref q, vi 0, vi 0, vi 0])) q (xI G 6 (fun _ => 0)))) ((up_c _ _ _ (Ne.symm ne_a_q)).trans (congrArg (fun f => va_up f q _) (up_u _ _ _ _))) dX3_init_34 ?_
  refine x_aload_n C dX3_init_37 rfl rfl ?_
  refine x_iconst C dX3_init_38 ?_
  refine x_put C p_Hand_32 ((up_n ne_a_q).trans up_s) (fit_int _) (Nat.le_of_ble_eq_true rfl) (h1 := (va_up (va_up h a (xO 2 [vi 0, vi 0, vi 0, vi (b2i false), .ref q, vi 0, vi 0, vi 0])) q (xI G 6 (fun _ => 0)))) ((up_c _ _ _ (Ne.symm ne_a_q)).trans (congrArg (fun f => va_up f q _) (up_u _ _ _ _))) dX3_init_39 ?_
  refine x_aload_n C dX3_init_42 rfl rfl ?_
  refine x_iconst C dX3_init_43 ?_
  refine x_put C p_Hand_35 ((up_n ne_a_q).trans up_s) (fit_int _) (Nat.le_of_ble_eq_true rfl) (h1 := (va_up (va_up h a (xO 2 [vi 0, vi 0, vi 0, vi (b2i false), .ref q, vi 0, vi 0, vi 0])) q (xI G 6 (fun _ => 0)))) ((up_c _ _ _ (Ne.symm ne_a_q)).trans (congrArg (fun f => va_up f q _) (up_u _ _ _ _))) dX3_init_44 ?_
  exact x_vret C E rfl (by omega) (by omega) dX3_init_47 (⟨rfl, q, by rw [← zq]; exact (up_n (Ne.symm ne_a_q)).symm, rfl⟩)
