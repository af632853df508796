/-! Constructors. -/

set_option maxRecDepth 100000 in
set_option maxHeartbeats 4000000 in
theorem c_Piece_init {G : xG} {h : PH} {ad0 : Nat → Nat} {S : Nat → Prop} {a : Nat} (D : AD ad0 S (alv h)) (h7 : S 7) (ha : ad0 7 = a) (hS : ∀ i, S i → i ≤ 7) (hA : h a = xO 4 [.null, vi 0]) : Cn G m_Piece_init 2 25 108 [.ref a] h (fun r h' => r = none ∧ ∃ ad1, (∀ i, S i → ad1 i = ad0 i) ∧ AD ad1 (S2 S 12) (alv h') ∧ PieceR G h' ad1 0 (fun _ => 0) (fun _ _ => 0) (fun _ => 1) (fun _ => -1) ∧ ∀ x, alv h x → x ≠ a → h' x = h x) := by
  refine Cn_of (by decide) (Nat.le_of_ble_eq_true rfl) (fun K C hR E => ?_)
  have D0 : AD ad0 S (alv (va_up h a (xO 4 [.null, vi 0]))) := D.sub (fun i hi => hi) (fun x w => alv_up w)
  show X G K 2 0 [some (.ref a), none] [] h 0 0
  refine X.heq (up_self hA).symm ?_
  refine x_aload_n C dX5_init_0 rfl rfl ?_
  refine x_objI C s_Piece_3 o_inst o_code (Nat.le_of_ble_eq_true rfl) hR (by omega) dX5_init_1 ?_
  refine x_aload_n C dX5_init_4 rfl rfl ?_
  refine x_bipush C (z := 12) dX5_init_5 (by decide) ?_
  refine x_newQ C (t := 4) (E := "Tablature$Chord") (n := 12) ⟨by omega, by omega⟩ rfl a_Piece_9 (by decide) hR (by omega) (by omega) dX5_init_7 (fun q8 zq8 => ?_)
  have ne_a_q8 : a ≠ q8 := fun e => by rw [← e] at zq8; exact absurd (zq8.symm.trans up_s) (by intro h9; cases h9)
  have D1 := AD.new (A2 := alv (va_up (va_up h a (xO 4 [.null, vi 0])) q8 (xQ G 4 12 (fun _ => none)))) D0 (q := q8) (fun w => absurd zq8 ((alv_c (fun w => w)) w)) (fun x w => alv_up ((alv_c (fun w => w)) w)) alv_q 8
  refine x_putF C p_Piece_11 E.2.1 ((up_n ne_a_q8).trans up_s) (fit_arr _ _) (Nat.le_of_ble_eq_true rfl) (h1 := (va_up (va_up h a (xO 4 [.ref q8, vi 0])) q8 (xQ G 4 12 (fun _ => none)))) ((up_c _ _ _ (Ne.symm ne_a_q8)).trans (congrArg (fun f => va_up f q8 _) (up_u _ _ _ _))) dX5_init_10 ?_
  refine x_aload_n C dX5_init_13 rfl rfl ?_
  refine x_iconst C dX5_init_14 ?_
  refine x_put C p_Piece_17 ((up_n ne_a_q8).trans up_s) (fit_int _) (Nat.le_of_ble_eq_true rfl) (h1 := (va_up (va_up h a (xO 4 [.ref q8, vi 0])) q8 (xQ G 4 12 (fun _ => none)))) ((up_c _ _ _ (Ne.symm ne_a_q8)).trans (congrArg (fun f => va_up f q8 _) (up_u _ _ _ _))) dX5_init_15 ?_
  refine x_iconst C dX5_init_18 ?_
  refine x_istore_n C (ls' := [some (.ref a), some (vi 0)]) dX5_init_19 rfl (by decide) rfl ?_
  have L20 : ∀ (n0 : Nat) (k : Nat) (hp : PH) (ad1 : Nat → Nat) (g : Nat → Option Nat), 12 - k < n0 → (k ≤ 12) → (PcK G hp ad1 k g) → (AD ad1 (S2 S k) (alv hp)) → (∀ i, S i → ad1 i = ad0 i) → (∀ x, alv h x → x ≠ a → hp x = h x) → (∀ x, alv h x → x ≠ a → x = ad1 8 → False) → X G K 2 20 [some (.ref a), some (vi (k : Int))] [] hp (1 + 2 * k) (12 + 8 * k) := by
    intro n0
    induction n0 with
    | zero => intro k hp ad1 g hm; exact absurd hm (Nat.not_lt_zero _)
    | succ n0 ih_L20 =>
      intro k hp ad1 g hm i1 PK DK K1 FR n8a
      have alvF : ∀ x, alv h x → x ≠ a → ¬ hp x = none := fun x w n => by rw [FR x w n]; exact w
      refine x_iload_n C dX5_init_20 rfl rfl ?_
      refine x_bipush C (z := 12) dX5_init_21 (by decide) ?_
      refine x_icmp_ge C (tgt := 45) dX5_init_23 (by decide) ⟨by omega, by omega⟩ (by decide) (fun c23 => ?_) (fun c23 => ?_)
      · skip
        have e12 : k = 12 := by omega
        subst e12
        refine X.qeq (g' := fun c => some (ad1 (20 + c))) PK.2.1 (fun j hj => (PK.2.2 j (by omega)).1) ?_
        exact x_vret C E rfl (by omega) (by omega) dX5_init_45 (⟨rfl, ad1, K1, AD.sub DK (fun i hi => hi) (fun x w => alv_up w), PcK.norm PK DK, fun x w n => (up_n (fun z => n8a x w n z)).trans (FR x w n)⟩)
      · skip
        refine x_aload_n C dX5_init_26 rfl rfl ?_
        refine x_get C f_Piece_11 (kf ((K1 7 h7).trans ha) PK.1) rfl dX5_init_27 ?_
        refine x_iload_n C dX5_init_30 rfl rfl ?_
        refine x_new C n_Piece_9 hR (by omega) (by omega) dX5_init_31 (fun q zq => ?_)
        have ne_a_q : a ≠ q := fun e => by rw [← e] at zq; exact absurd (zq.symm.trans (kf ((K1 7 h7).trans ha) PK.1)) (by intro h9; cases h9)
        have ne__ad1_8__q : (ad1 8) ≠ q := fun e => by rw [← e] at zq; exact absurd (zq.symm.trans PK.2.1) (by intro h9; cases h9)
        refine x_dup C dX5_init_34 rfl ?_
        refine x_invIN C s_Piece_21 (st := [.ref q, vi (k : Int), .ref (ad1 8)]) (c_Chord_init up_s) rfl rfl (Nat.le_of_ble_eq_true rfl) (xRm_of hR (by omega) (by decide) (by omega) (by omega)) dX5_init_35 (fun r9 h9 hq => ?_)
        obtain ⟨rfl, b, zb, e9⟩ := hq
        have ne_a_b : a ≠ b := fun e => by rw [← e] at zb; exact alv_of ((up_n ne_a_q).trans (kf ((K1 7 h7).trans ha) PK.1)) zb
        have ne__ad1_8__b : (ad1 8) ≠ b := fun e => by rw [← e] at zb; exact alv_of ((up_n ne__ad1_8__q).trans PK.2.1) zb
        have ne_q_b : q ≠ b := fun e => by rw [← e] at zb; exact alv_of up_s zb
        subst e9
        refine X.heq (h1 := (va_up (va_up hp q (xO 0 [.ref b, vi 0, vi 1, vi (-1)])) b (xI G 4 (fun _ => 0)))) (congrArg (fun f => va_up f b _) (up_u _ _ _ _)) ?_
        refine x_aast C (t := 4) (ci := 0) rfl rfl ((up_n ne__ad1_8__b).trans ((up_n ne__ad1_8__q).trans PK.2.1)) ((up_n ne_q_b).trans up_s) ⟨by omega, by omega, by omega⟩ (h1 := (va_up (va_up (va_up hp q (xO 0 [.ref b, vi 0, vi 1, vi (-1)])) b (xI G 4 (fun _ => 0))) (ad1 8) (xQ G 4 12 (va_up g k (some q))))) rfl dX5_init_38 ?_
        refine x_iinc C (ls' := [some (.ref a), some (vi ((k : Int) + 1))]) dX5_init_39 rfl (by decide) (z1 := ((k : Int) + 1)) rfl rfl ?_
        refine x_goto C (tgt := 20) dX5_init_42 (by decide) ?_
        have zb1 := (up_none zb).2
        have nb1 := (up_none zb).1
        have hst := PcK.step PK DK (by omega) zq zb1 (Ne.symm nb1) (h2 := (va_up (va_up (va_up hp q (xO 0 [.ref b, vi 0, vi 1, vi (-1)])) b (xI G 4 (fun _ => 0))) (ad1 8) (xQ G 4 12 (va_up g k (some q))))) ((up_n (Ne.symm ne__ad1_8__q)).trans ((up_n ne_q_b).trans up_s)) ((up_n (Ne.symm ne__ad1_8__b)).trans up_s) up_s (fun x w n8 => (up_n n8).trans ((up_n (fun z => w (by rw [z]; exact zb1))).trans (up_n (fun z => w (by rw [z]; exact zq)))))
        refine X.cs (c1 := 1 + 2 * (k + 1)) (s1 := 12 + 8 * (k + 1)) (by omega) (by omega) ?_
        exact ih_L20 (k + 1) (va_up (va_up (va_up hp q (xO 0 [.ref b, vi 0, vi 1, vi (-1)])) b (xI G 4 (fun _ => 0))) (ad1 8) (xQ G 4 12 (va_up g k (some q)))) (ad2 ad1 k q b) (va_up g k (some q)) (by omega) (by omega) (hst.1) (hst.2) (fun i hi => (ad2_n _ _ _ _ (by have := hS i hi; omega) (by have := hS i hi; omega)).trans (K1 i hi)) (fun x w n => (up_n (fun z => n8a x w n z)).trans ((up_n (fun z => alvF x w n (by rw [z]; exact zb1))).trans ((up_n (fun z => alvF x w n (by rw [z]; exact zq))).trans (FR x w n)))) (fun x w n z => n8a x w n (by rw [z]; exact ad2_n _ _ _ _ (by omega) (by omega)))
  have hP0 : PcK G (va_up (va_up h a (xO 4 [.ref q8, vi 0])) q8 (xQ G 4 12 (fun _ => none))) (va_up ad0 8 q8) 0 (fun _ => none) := ⟨by rw [show va_up ad0 8 q8 7 = ad0 7 from up_n (by omega), ha, up_s]; exact ((up_n ne_a_q8).trans up_s), by rw [up_s]; exact up_s, fun c hc => absurd hc (Nat.not_lt_zero _)⟩
  have hD0 : AD (va_up ad0 8 q8) (S2 S 0) (alv (va_up (va_up h a (xO 4 [.ref q8, vi 0])) q8 (xQ G 4 12 (fun _ => none)))) := AD.sub D1 (fun i hi => hi.elim Or.inr (fun hi => hi.elim (fun w => if c : i = 8 then Or.inl c else Or.inr ((show 7 = i by omega) ▸ h7)) (fun w => absurd w (by omega)))) (fun x w => (alv_c (alv_c (fun w => w))) w)
  refine X.cs (c1 := 1 + 2 * 0) (s1 := 12 + 8 * 0) (by omega) (by omega) ?_
  exact L20 _ 0 (va_up (va_up h a (xO 4 [.ref q8, vi 0])) q8 (xQ G 4 12 (fun _ => none))) (va_up ad0 8 q8) (fun _ => none) (Nat.lt_succ_self _) (Nat.zero_le _) (hP0) (hD0) (fun i hi => up_n (by have := hS i hi; omega)) (fun x w n => (up_n (fun z => w (by rw [z]; exact (up_none zq8).2))).trans (up_n n)) (fun x w n z => w (by rw [z, up_s]; exact (up_none zq8).2))

set_option maxRecDepth 100000 in
set_option maxHeartbeats 4000000 in
theorem c_Plan_init {G : xG} {h : PH} {ad0 : Nat → Nat} {S : Nat → Prop} {a : Nat} (D : AD ad0 S (alv h)) {B : Nat} (hB : S B) (ha : ad0 B = a) (hS : ∀ i, S i → i ≤ B ∨ B + 68 ≤ i) (hA : h a = xO 5 [.null, .null, .null, vi 0, .null, .null, .null, vi 0]) : Cn G m_Plan_init 2 67 1562 [.ref a] h (fun r h' => r = none ∧ ∃ ad1, (∀ i, S i → ad1 i = ad0 i) ∧ AD ad1 (S1 S B 12) (alv h') ∧ PR G h' ad1 B (fun _ => []) (fun _ => 0) (fun _ => 0) (fun _ => 0) (-1) 0 (fun _ _ => 0) ∧ ∀ x, alv h x → x ≠ a → h' x = h x) := by
  refine Cn_of (by decide) (Nat.le_of_ble_eq_true rfl) (fun K C hR E => ?_)
  have D0 : AD ad0 S (alv (va_up h a (xO 5 [.null, .null, .null, vi 0, .null, .null, .null, vi 0]))) := D.sub (fun i hi => hi) (fun x w => alv_up w)
  show X G K 2 0 [some (.ref a), none] [] h 0 0
  refine X.heq (up_self hA).symm ?_
  refine x_aload_n C dX6_init_0 rfl rfl ?_
  refine x_objI C s_Plan_3 o_inst o_code (Nat.le_of_ble_eq_true rfl) hR (by omega) dX6_init_1 ?_
  refine x_aload_n C dX6_init_4 rfl rfl ?_
  refine x_bipush C (z := 12) dX6_init_5 (by decide) ?_
  refine x_newQ C (t := 5) (E := "Tablature$Grips") (n := 12) ⟨by omega, by omega⟩ rfl a_Plan_9 (by decide) hR (by omega) (by omega) dX6_init_7 (fun g1 zg1 => ?_)
  have ne_a_g1 : a ≠ g1 := fun e => by rw [← e] at zg1; exact absurd (zg1.symm.trans up_s) (by intro h9; cases h9)
  have D1 := AD.new (A2 := alv (va_up (va_up h a (xO 5 [.null, .null, .null, vi 0, .null, .null, .null, vi 0])) g1 (xQ G 5 12 (fun _ => none)))) D0 (q := g1) (fun w => absurd zg1 ((alv_c (fun w => w)) w)) (fun x w => alv_up ((alv_c (fun w => w)) w)) alv_q (B + 1)
  refine x_putF C p_Plan_11 E.2.1 ((up_n ne_a_g1).trans up_s) (fit_arr _ _) (Nat.le_of_ble_eq_true rfl) (h1 := (va_up (va_up h a (xO 5 [.ref g1, .null, .null, vi 0, .null, .null, .null, vi 0])) g1 (xQ G 5 12 (fun _ => none)))) ((up_c _ _ _ (Ne.symm ne_a_g1)).trans (congrArg (fun f => va_up f g1 _) (up_u _ _ _ _))) dX6_init_10 ?_
  refine x_aload_n C dX6_init_13 rfl rfl ?_
  refine x_bipush C (z := 12) dX6_init_14 (by decide) ?_
  refine x_newI C (n := 12) ⟨by omega, by omega⟩ arrayClass_int hR (by omega) (by omega) dX6_init_16 (fun f1 zf1 => ?_)
  have ne_a_f1 : a ≠ f1 := fun e => by rw [← e] at zf1; exact absurd (zf1.symm.trans ((up_n ne_a_g1).trans up_s)) (by intro h9; cases h9)
  have ne_g1_f1 : g1 ≠ f1 := fun e => by rw [← e] at zf1; exact absurd (zf1.symm.trans up_s) (by intro h9; cases h9)
  have D2 := AD.new (A2 := alv (va_up (va_up (va_up h a (xO 5 [.ref g1, .null, .null, vi 0, .null, .null, .null, vi 0])) g1 (xQ G 5 12 (fun _ => none))) f1 (xI G 12 (fun _ => 0)))) D1 (q := f1) (fun w => absurd zf1 ((alv_c (alv_c (fun w => w))) w)) (fun x w => alv_up ((alv_c (alv_c (fun w => w))) w)) alv_q (B + 2)
  refine x_putF C p_Plan_17 E.2.1 ((up_n ne_a_f1).trans ((up_n ne_a_g1).trans up_s)) (fit_arr _ _) (Nat.le_of_ble_eq_true rfl) (h1 := (va_up (va_up (va_up h a (xO 5 [.ref g1, .ref f1, .null, vi 0, .null, .null, .null, vi 0])) g1 (xQ G 5 12 (fun _ => none))) f1 (xI G 12 (fun _ => 0)))) ((up_c _ _ _ (Ne.symm ne_a_f1)).trans (congrArg (fun f => va_up f f1 _) ((up_c _ _ _ (Ne.symm ne_a_g1)).trans (congrArg (fun f => va_up f g1 _) (up_u _ _ _ _))))) dX6_init_18 ?_
  refine x_aload_n C dX6_init_21 rfl rfl ?_
  refine x_bipush C (z := 12) dX6_init_22 (by decide) ?_
  refine x_newI C (n := 12) ⟨by omega, by omega⟩ arrayClass_int hR (by omega) (by omega) dX6_init_24 (fun c1 zc1 => ?_)
  have ne_a_c1 : a ≠ c1 := fun e => by rw [← e] at zc1; exact absurd (zc1.symm.trans ((up_n ne_a_f1).trans ((up_n ne_a_g1).trans up_s))) (by intro h9; cases h9)
  have ne_g1_c1 : g1 ≠ c1 := fun e => by rw [← e] at zc1; exact absurd (zc1.symm.trans ((up_n ne_g1_f1).trans up_s)) (by intro h9; cases h9)
  have ne_f1_c1 : f1 ≠ c1 := fun e => by rw [← e] at zc1; exact absurd (zc1.symm.trans up_s) (by intro h9; cases h9)
  have D3 := AD.new (A2 := alv (va_up (va_up (va_up (va_up h a (xO 5 [.ref g1, .ref f1, .null, vi 0, .null, .null, .null, vi 0])) g1 (xQ G 5 12 (fun _ => none))) f1 (xI G 12 (fun _ => 0))) c1 (xI G 12 (fun _ => 0)))) D2 (q := c1) (fun w => absurd zc1 ((alv_c (alv_c (alv_c (fun w => w)))) w)) (fun x w => alv_up ((alv_c (alv_c (alv_c (fun w => w)))) w)) alv_q (B + 3)
  refine x_putF C p_Plan_21 E.2.1 ((up_n ne_a_c1).trans ((up_n ne_a_f1).trans ((up_n ne_a_g1).trans up_s))) (fit_arr _ _) (Nat.le_of_ble_eq_true rfl) (h1 := (va_up (va_up (va_up (va_up h a (xO 5 [.ref g1, .ref f1, .ref c1, vi 0, .null, .null, .null, vi 0])) g1 (xQ G 5 12 (fun _ => none))) f1 (xI G 12 (fun _ => 0))) c1 (xI G 12 (fun _ => 0)))) ((up_c _ _ _ (Ne.symm ne_a_c1)).trans (congrArg (fun f => va_up f c1 _) ((up_c _ _ _ (Ne.symm ne_a_f1)).trans (congrArg (fun f => va_up f f1 _) ((up_c _ _ _ (Ne.symm ne_a_g1)).trans (congrArg (fun f => va_up f g1 _) (up_u _ _ _ _))))))) dX6_init_26 ?_
  refine x_aload_n C dX6_init_29 rfl rfl ?_
  refine x_iconst C dX6_init_30 ?_
  refine x_put C p_Plan_24 ((up_n ne_a_c1).trans ((up_n ne_a_f1).trans ((up_n ne_a_g1).trans up_s))) (fit_int _) (Nat.le_of_ble_eq_true rfl) (h1 := (va_up (va_up (va_up (va_up h a (xO 5 [.ref g1, .ref f1, .ref c1, vi (-1), .null, .null, .null, vi 0])) g1 (xQ G 5 12 (fun _ => none))) f1 (xI G 12 (fun _ => 0))) c1 (xI G 12 (fun _ => 0)))) ((up_c _ _ _ (Ne.symm ne_a_c1)).trans (congrArg (fun f => va_up f c1 _) ((up_c _ _ _ (Ne.symm ne_a_f1)).trans (congrArg (fun f => va_up f f1 _) ((up_c _ _ _ (Ne.symm ne_a_g1)).trans (congrArg (fun f => va_up f g1 _) (up_u _ _ _ _))))))) dX6_init_31 ?_
  refine x_aload_n C dX6_init_34 rfl rfl ?_
  refine x_bipush C (z := 12) dX6_init_35 (by decide) ?_
  refine x_newI C (n := 12) ⟨by omega, by omega⟩ arrayClass_int hR (by omega) (by omega) dX6_init_37 (fun l1 zl1 => ?_)
  have ne_a_l1 : a ≠ l1 := fun e => by rw [← e] at zl1; exact absurd (zl1.symm.trans ((up_n ne_a_c1).trans ((up_n ne_a_f1).trans ((up_n ne_a_g1).trans up_s)))) (by intro h9; cases h9)
  have ne_g1_l1 : g1 ≠ l1 := fun e => by rw [← e] at zl1; exact absurd (zl1.symm.trans ((up_n ne_g1_c1).trans ((up_n ne_g1_f1).trans up_s))) (by intro h9; cases h9)
  have ne_f1_l1 : f1 ≠ l1 := fun e => by rw [← e] at zl1; exact absurd (zl1.symm.trans ((up_n ne_f1_c1).trans up_s)) (by intro h9; cases h9)
  have ne_c1_l1 : c1 ≠ l1 := fun e => by rw [← e] at zl1; exact absurd (zl1.symm.trans up_s) (by intro h9; cases h9)
  have D4 := AD.new (A2 := alv (va_up (va_up (va_up (va_up (va_up h a (xO 5 [.ref g1, .ref f1, .ref c1, vi (-1), .null, .null, .null, vi 0])) g1 (xQ G 5 12 (fun _ => none))) f1 (xI G 12 (fun _ => 0))) c1 (xI G 12 (fun _ => 0))) l1 (xI G 12 (fun _ => 0)))) D3 (q := l1) (fun w => absurd zl1 ((alv_c (alv_c (alv_c (alv_c (fun w => w))))) w)) (fun x w => alv_up ((alv_c (alv_c (alv_c (alv_c (fun w => w))))) w)) alv_q (B + 4)
  refine x_putF C p_Plan_28 E.2.1 ((up_n ne_a_l1).trans ((up_n ne_a_c1).trans ((up_n ne_a_f1).trans ((up_n ne_a_g1).trans up_s)))) (fit_arr _ _) (Nat.le_of_ble_eq_true rfl) (h1 := (va_up (va_up (va_up (va_up (va_up h a (xO 5 [.ref g1, .ref f1, .ref c1, vi (-1), .ref l1, .null, .null, vi 0])) g1 (xQ G 5 12 (fun _ => none))) f1 (xI G 12 (fun _ => 0))) c1 (xI G 12 (fun _ => 0))) l1 (xI G 12 (fun _ => 0)))) ((up_c _ _ _ (Ne.symm ne_a_l1)).trans (congrArg (fun f => va_up f l1 _) ((up_c _ _ _ (Ne.symm ne_a_c1)).trans (congrArg (fun f => va_up f c1 _) ((up_c _ _ _ (Ne.symm ne_a_f1)).trans (congrArg (fun f => va_up f f1 _) ((up_c _ _ _ (Ne.symm ne_a_g1)).trans (congrArg (fun f => va_up f g1 _) (up_u _ _ _ _))))))))) dX6_init_39 ?_
  refine x_aload_n C dX6_init_42 rfl rfl ?_
  refine x_bipush C (z := 12) dX6_init_43 (by decide) ?_
  refine x_bipush C (z := 30) dX6_init_45 (by decide) ?_
  refine x_mna C (n := 12) (k := 30) (by decide) (by decide) a_Plan_31 (by decide) arrayClass_int hR (by decide) (by decide) dX6_init_47 (fun r1 zr1 => ?_)
  obtain ⟨hm, ehm⟩ : ∃ hm, hm = mnH G (va_up (va_up (va_up (va_up (va_up h a (xO 5 [.ref g1, .ref f1, .ref c1, vi (-1), .ref l1, .null, .null, vi 0])) g1 (xQ G 5 12 (fun _ => none))) f1 (xI G 12 (fun _ => 0))) c1 (xI G 12 (fun _ => 0))) l1 (xI G 12 (fun _ => 0))) r1 (Int.toNat 12) (Int.toNat 30) := ⟨_, rfl⟩
  rw [← ehm]
  have om : ∀ x, alv (va_up (va_up (va_up (va_up (va_up h a (xO 5 [.ref g1, .ref f1, .ref c1, vi (-1), .ref l1, .null, .null, vi 0])) g1 (xQ G 5 12 (fun _ => none))) f1 (xI G 12 (fun _ => 0))) c1 (xI G 12 (fun _ => 0))) l1 (xI G 12 (fun _ => 0))) x → hm x = (va_up (va_up (va_up (va_up (va_up h a (xO 5 [.ref g1, .ref f1, .ref c1, vi (-1), .ref l1, .null, .null, vi 0])) g1 (xQ G 5 12 (fun _ => none))) f1 (xI G 12 (fun _ => 0))) c1 (xI G 12 (fun _ => 0))) l1 (xI G 12 (fun _ => 0))) x := fun x w => by rw [ehm]; exact mn_old zr1 w
  have qm : hm r1 = xQ G 3 12 (fun i => if i < 12 then some (r1 + 1 + i) else none) := by rw [ehm]; exact mn_q
  have rm : ∀ i, i < 12 → hm (r1 + 1 + i) = xI G 30 (fun _ => 0) := fun i hi => by rw [ehm]; exact mn_row hi
  have ne_a_r1 : a ≠ r1 := fun e => by have z0 : (va_up (va_up (va_up (va_up (va_up h a (xO 5 [.ref g1, .ref f1, .ref c1, vi (-1), .ref l1, .null, .null, vi 0])) g1 (xQ G 5 12 (fun _ => none))) f1 (xI G 12 (fun _ => 0))) c1 (xI G 12 (fun _ => 0))) l1 (xI G 12 (fun _ => 0))) r1 = none := zr1 0 (Nat.zero_le _); rw [← e] at z0; exact alv_of ((up_n ne_a_l1).trans ((up_n ne_a_c1).trans ((up_n ne_a_f1).trans ((up_n ne_a_g1).trans up_s)))) z0
  have ne_a_r1 : a ≠ r1 := fun e => by have z0 : (va_up (va_up (va_up (va_up (va_up h a (xO 5 [.ref g1, .ref f1, .ref c1, vi (-1), .ref l1, .null, .null, vi 0])) g1 (xQ G 5 12 (fun _ => none))) f1 (xI G 12 (fun _ => 0))) c1 (xI G 12 (fun _ => 0))) l1 (xI G 12 (fun _ => 0))) r1 = none := zr1 0 (Nat.zero_le _); rw [← e] at z0; exact alv_of ((up_n ne_a_l1).trans ((up_n ne_a_c1).trans ((up_n ne_a_f1).trans ((up_n ne_a_g1).trans up_s)))) z0
  have ne_g1_r1 : g1 ≠ r1 := fun e => by have z0 : (va_up (va_up (va_up (va_up (va_up h a (xO 5 [.ref g1, .ref f1, .ref c1, vi (-1), .ref l1, .null, .null, vi 0])) g1 (xQ G 5 12 (fun _ => none))) f1 (xI G 12 (fun _ => 0))) c1 (xI G 12 (fun _ => 0))) l1 (xI G 12 (fun _ => 0))) r1 = none := zr1 0 (Nat.zero_le _); rw [← e] at z0; exact alv_of ((up_n ne_g1_l1).trans ((up_n ne_g1_c1).trans ((up_n ne_g1_f1).trans up_s))) z0
  have ne_f1_r1 : f1 ≠ r1 := fun e => by have z0 : (va_up (va_up (va_up (va_up (va_up h a (xO 5 [.ref g1, .ref f1, .ref c1, vi (-1), .ref l1, .null, .null, vi 0])) g1 (xQ G 5 12 (fun _ => none))) f1 (xI G 12 (fun _ => 0))) c1 (xI G 12 (fun _ => 0))) l1 (xI G 12 (fun _ => 0))) r1 = none := zr1 0 (Nat.zero_le _); rw [← e] at z0; exact alv_of ((up_n ne_f1_l1).trans ((up_n ne_f1_c1).trans up_s)) z0
  have ne_c1_r1 : c1 ≠ r1 := fun e => by have z0 : (va_up (va_up (va_up (va_up (va_up h a (xO 5 [.ref g1, .ref f1, .ref c1, vi (-1), .ref l1, .null, .null, vi 0])) g1 (xQ G 5 12 (fun _ => none))) f1 (xI G 12 (fun _ => 0))) c1 (xI G 12 (fun _ => 0))) l1 (xI G 12 (fun _ => 0))) r1 = none := zr1 0 (Nat.zero_le _); rw [← e] at z0; exact alv_of ((up_n ne_c1_l1).trans up_s) z0
  have ne_l1_r1 : l1 ≠ r1 := fun e => by have z0 : (va_up (va_up (va_up (va_up (va_up h a (xO 5 [.ref g1, .ref f1, .ref c1, vi (-1), .ref l1, .null, .null, vi 0])) g1 (xQ G 5 12 (fun _ => none))) f1 (xI G 12 (fun _ => 0))) c1 (xI G 12 (fun _ => 0))) l1 (xI G 12 (fun _ => 0))) r1 = none := zr1 0 (Nat.zero_le _); rw [← e] at z0; exact alv_of up_s z0
  refine X.cs (c1 := 17) (s1 := 420) (by decide) (by decide) ?_
  have D5 := AD.new (A2 := fun x => alv (va_up (va_up (va_up (va_up (va_up h a (xO 5 [.ref g1, .ref f1, .ref c1, vi (-1), .ref l1, .null, .null, vi 0])) g1 (xQ G 5 12 (fun _ => none))) f1 (xI G 12 (fun _ => 0))) c1 (xI G 12 (fun _ => 0))) l1 (xI G 12 (fun _ => 0))) x ∨ x = r1) D4 (q := r1) (fun w => (fun x w => (alv_c (alv_c (alv_c (alv_c (alv_c (fun w => w)))))) w) _ w (zr1 0 (Nat.zero_le _))) (fun x w => Or.inl ((fun x w => (alv_c (alv_c (alv_c (alv_c (alv_c (fun w => w)))))) w) x w)) (Or.inr rfl) (B + 5)
  have D6 := AD.row (A2 := alv hm) D5 (b := B + 56) (n := 12) (q := r1 + 1) (fun i hi w => w.elim (fun w => w (by have := zr1 (i + 1) (by omega); rwa [show r1 + (i + 1) = r1 + 1 + i by omega] at this)) (fun w => absurd w (by omega))) (fun x w => w.elim (fun w => by show hm x ≠ none; rw [om x w]; exact w) (fun w => w ▸ alv_of qm)) (fun i hi => alv_of (rm i hi))
  refine x_putF C p_Plan_33 E.2.1 ((om _ (alv_of ((up_n ne_a_l1).trans ((up_n ne_a_c1).trans ((up_n ne_a_f1).trans ((up_n ne_a_g1).trans up_s)))))).trans ((up_n ne_a_l1).trans ((up_n ne_a_c1).trans ((up_n ne_a_f1).trans ((up_n ne_a_g1).trans up_s))))) (fit_arr _ _) (Nat.le_of_ble_eq_true rfl) (h1 := (va_up hm a (xO 5 [.ref g1, .ref f1, .ref c1, vi (-1), .ref l1, .ref r1, .null, vi 0]))) rfl dX6_init_51 ?_
  refine x_aload_n C dX6_init_54 rfl rfl ?_
  refine x_new C n_Plan_36 hR (by omega) (by omega) dX6_init_55 (fun hd zhd => ?_)
  have ne_a_hd : a ≠ hd := fun e => by rw [← e] at zhd; exact absurd (zhd.symm.trans up_s) (by intro h9; cases h9)
  have ne_g1_hd : g1 ≠ hd := fun e => by rw [← e] at zhd; exact absurd (zhd.symm.trans ((up_n (Ne.symm ne_a_g1)).trans ((om _ (alv_of ((up_n ne_g1_l1).trans ((up_n ne_g1_c1).trans ((up_n ne_g1_f1).trans up_s))))).trans ((up_n ne_g1_l1).trans ((up_n ne_g1_c1).trans ((up_n ne_g1_f1).trans up_s)))))) (by intro h9; cases h9)
  have ne_f1_hd : f1 ≠ hd := fun e => by rw [← e] at zhd; exact absurd (zhd.symm.trans ((up_n (Ne.symm ne_a_f1)).trans ((om _ (alv_of ((up_n ne_f1_l1).trans ((up_n ne_f1_c1).trans up_s)))).trans ((up_n ne_f1_l1).trans ((up_n ne_f1_c1).trans up_s))))) (by intro h9; cases h9)
  have ne_c1_hd : c1 ≠ hd := fun e => by rw [← e] at zhd; exact absurd (zhd.symm.trans ((up_n (Ne.symm ne_a_c1)).trans ((om _ (alv_of ((up_n ne_c1_l1).trans up_s))).trans ((up_n ne_c1_l1).trans up_s)))) (by intro h9; cases h9)
  have ne_l1_hd : l1 ≠ hd := fun e => by rw [← e] at zhd; exact absurd (zhd.symm.trans ((up_n (Ne.symm ne_a_l1)).trans ((om _ (alv_of up_s)).trans up_s))) (by intro h9; cases h9)
  have ne_r1_hd : r1 ≠ hd := fun e => by rw [← e] at zhd; exact absurd (zhd.symm.trans ((up_n (Ne.symm ne_a_r1)).trans qm)) (by intro h9; cases h9)
  have D7 := AD.new (A2 := alv (va_up (va_up hm a (xO 5 [.ref g1, .ref f1, .ref c1, vi (-1), .ref l1, .ref r1, .null, vi 0])) hd (xO 2 [vi 0, vi 0, vi 0, vi (b2i false), .null, vi 0, vi 0, vi 0]))) D6 (q := hd) (fun w => absurd zhd (alv_up ((fun w => w) w))) (fun x w => alv_up (alv_up ((fun w => w) w))) alv_q (B + 6)
  refine x_dup C dX6_init_58 rfl ?_
  refine x_invIN C s_Plan_38 (st := [.ref hd, .ref a]) (c_Hand_init (b0 := .null) up_s) rfl rfl (Nat.le_of_ble_eq_true rfl) (xRm_of hR (by omega) (by decide) (by omega) (by omega)) dX6_init_59 (fun r9 h9 hq => ?_)
  obtain ⟨rfl, hf, zhf, e9⟩ := hq
  have ne_a_hf : a ≠ hf := fun e => by rw [← e] at zhf; exact alv_of ((up_n ne_a_hd).trans up_s) zhf
  have ne_g1_hf : g1 ≠ hf := fun e => by rw [← e] at zhf; exact alv_of ((up_n ne_g1_hd).trans ((up_n (Ne.symm ne_a_g1)).trans ((om _ (alv_of ((up_n ne_g1_l1).trans ((up_n ne_g1_c1).trans ((up_n ne_g1_f1).trans up_s))))).trans ((up_n ne_g1_l1).trans ((up_n ne_g1_c1).trans ((up_n ne_g1_f1).trans up_s)))))) zhf
  have ne_f1_hf : f1 ≠ hf := fun e => by rw [← e] at zhf; exact alv_of ((up_n ne_f1_hd).trans ((up_n (Ne.symm ne_a_f1)).trans ((om _ (alv_of ((up_n ne_f1_l1).trans ((up_n ne_f1_c1).trans up_s)))).trans ((up_n ne_f1_l1).trans ((up_n ne_f1_c1).trans up_s))))) zhf
  have ne_c1_hf : c1 ≠ hf := fun e => by rw [← e] at zhf; exact alv_of ((up_n ne_c1_hd).trans ((up_n (Ne.symm ne_a_c1)).trans ((om _ (alv_of ((up_n ne_c1_l1).trans up_s))).trans ((up_n ne_c1_l1).trans up_s)))) zhf
  have ne_l1_hf : l1 ≠ hf := fun e => by rw [← e] at zhf; exact alv_of ((up_n ne_l1_hd).trans ((up_n (Ne.symm ne_a_l1)).trans ((om _ (alv_of up_s)).trans up_s))) zhf
  have ne_r1_hf : r1 ≠ hf := fun e => by rw [← e] at zhf; exact alv_of ((up_n ne_r1_hd).trans ((up_n (Ne.symm ne_a_r1)).trans qm)) zhf
  have ne_hd_hf : hd ≠ hf := fun e => by rw [← e] at zhf; exact alv_of up_s zhf
  subst e9
  refine X.heq (h1 := (va_up (va_up (va_up hm a (xO 5 [.ref g1, .ref f1, .ref c1, vi (-1), .ref l1, .ref r1, .null, vi 0])) hd (xO 2 [vi 0, vi 0, vi 0, vi (b2i false), .ref hf, vi 0, vi 0, vi 0])) hf (xI G 6 (fun _ => 0)))) (congrArg (fun f => va_up f hf _) (up_u _ _ _ _)) ?_
  have D8 := AD.new (A2 := alv (va_up (va_up (va_up hm a (xO 5 [.ref g1, .ref f1, .ref c1, vi (-1), .ref l1, .ref r1, .null, vi 0])) hd (xO 2 [vi 0, vi 0, vi 0, vi (b2i false), .ref hf, vi 0, vi 0, vi 0])) hf (xI G 6 (fun _ => 0)))) D7 (q := hf) (fun w => absurd zhf ((alv_c (alv_c (fun w => w))) w)) (fun x w => alv_up ((alv_c (alv_c (fun w => w))) w)) alv_q (B + 7)
  refine x_putF C p_Plan_39 E.2.1 ((up_n ne_a_hf).trans ((up_n ne_a_hd).trans up_s)) (fit_ref _ _) (Nat.le_of_ble_eq_true rfl) (h1 := (va_up (va_up (va_up hm a (xO 5 [.ref g1, .ref f1, .ref c1, vi (-1), .ref l1, .ref r1, .ref hd, vi 0])) hd (xO 2 [vi 0, vi 0, vi 0, vi (b2i false), .ref hf, vi 0, vi 0, vi 0])) hf (xI G 6 (fun _ => 0)))) ((up_c _ _ _ (Ne.symm ne_a_hf)).trans (congrArg (fun f => va_up f hf _) ((up_c _ _ _ (Ne.symm ne_a_hd)).trans (congrArg (fun f => va_up f hd _) (up_u _ _ _ _))))) dX6_init_62 ?_
  refine x_aload_n C dX6_init_65 rfl rfl ?_
  refine x_iconst C dX6_init_66 ?_
  refine x_put C p_Plan_43 ((up_n ne_a_hf).trans ((up_n ne_a_hd).trans up_s)) (fit_int _) (Nat.le_of_ble_eq_true rfl) (h1 := (va_up (va_up (va_up hm a (xO 5 [.ref g1, .ref f1, .ref c1, vi (-1), .ref l1, .ref r1, .ref hd, vi 0])) hd (xO 2 [vi 0, vi 0, vi 0, vi (b2i false), .ref hf, vi 0, vi 0, vi 0])) hf (xI G 6 (fun _ => 0)))) ((up_c _ _ _ (Ne.symm ne_a_hf)).trans (congrArg (fun f => va_up f hf _) ((up_c _ _ _ (Ne.symm ne_a_hd)).trans (congrArg (fun f => va_up f hd _) (up_u _ _ _ _))))) dX6_init_67 ?_
  have hsP := adP_s ad0 B g1 f1 c1 l1 r1 hd hf
  refine X.qeq (g' := fun i => some ((adP ad0 B g1 f1 c1 l1 r1 hd hf) (B + 56 + i))) ((up_n ne_r1_hf).trans ((up_n ne_r1_hd).trans ((up_n (Ne.symm ne_a_r1)).trans qm))) (fun j hj => by rw [if_pos hj, hsP.2.2.2.2.2.2.2.1 j hj]) ?_
  refine x_iconst C dX6_init_70 ?_
  have hNg1 : ∀ x, alv h x → x ≠ g1 := fun x w z => w (by rw [z]; exact (up_none zg1).2)
  have hNf1 : ∀ x, alv h x → x ≠ f1 := fun x w z => w (by rw [z]; exact (up_none (up_none zf1).2).2)
  have hNc1 : ∀ x, alv h x → x ≠ c1 := fun x w z => w (by rw [z]; exact (up_none (up_none (up_none zc1).2).2).2)
  have hNl1 : ∀ x, alv h x → x ≠ l1 := fun x w z => w (by rw [z]; exact (up_none (up_none (up_none (up_none zl1).2).2).2).2)
  have hAo : ∀ x, alv h x → alv (va_up (va_up (va_up (va_up (va_up h a (xO 5 [.ref g1, .ref f1, .ref c1, vi (-1), .ref l1, .null, .null, vi 0])) g1 (xQ G 5 12 (fun _ => none))) f1 (xI G 12 (fun _ => 0))) c1 (xI G 12 (fun _ => 0))) l1 (xI G 12 (fun _ => 0))) x := (fun x w => alv_up (alv_up (alv_up (alv_up (alv_up ((fun w => w) w))))))
  have hNr1 : ∀ x, alv h x → x ≠ r1 := fun x w z => hAo x w (by rw [z]; exact zr1 0 (Nat.zero_le _))
  have hAm : ∀ x, alv h x → alv hm x := fun x w => by show hm x ≠ none; rw [om x (hAo x w)]; exact hAo x w
  have hNhd : ∀ x, alv h x → x ≠ hd := fun x w z => hAm x w (by rw [z]; exact (up_none zhd).2)
  have hNhf : ∀ x, alv h x → x ≠ hf := fun x w z => hAm x w (by rw [z]; exact (up_none (up_none zhf).2).2)
  have hFR : ∀ x, alv h x → x ≠ a → (va_up (va_up (va_up (va_up hm a (xO 5 [.ref g1, .ref f1, .ref c1, vi (-1), .ref l1, .ref r1, .ref hd, vi 0])) hd (xO 2 [vi 0, vi 0, vi 0, vi (b2i false), .ref hf, vi 0, vi 0, vi 0])) hf (xI G 6 (fun _ => 0))) r1 (xQ G 3 12 (fun i => some ((adP ad0 B g1 f1 c1 l1 r1 hd hf) (B + 56 + i))))) x = h x := fun x w n => (up_n (hNr1 x w)).trans ((up_n (hNhf x w)).trans ((up_n (hNhd x w)).trans ((up_n n).trans ((om x (hAo x w)).trans ((up_n (hNl1 x w)).trans ((up_n (hNc1 x w)).trans ((up_n (hNf1 x w)).trans ((up_n (hNg1 x w)).trans ((up_n n).trans (rfl))))))))))
  have hNB : ∀ x, alv h x → x ≠ a → x = (adP ad0 B g1 f1 c1 l1 r1 hd hf) (B + 1) → False := fun x w n z => hNg1 x w (z.trans hsP.1)
  refine x_istore_n C (ls' := [some (.ref a), some (vi 0)]) dX6_init_71 rfl (by decide) rfl ?_
  have L72 : ∀ (n0 : Nat) (k : Nat) (hp : PH) (ad1 : Nat → Nat) (g : Nat → Option Nat), 12 - k < n0 → (k ≤ 12) → (PK G hp ad1 B k g) → (AD ad1 (S1 S B k) (alv hp)) → (∀ i, S i → ad1 i = ad0 i) → (∀ x, alv h x → x ≠ a → hp x = h x) → (∀ x, alv h x → x ≠ a → x = ad1 (B + 1) → False) → X G K 2 72 [some (.ref a), some (vi (k : Int))] [] hp (19 + 4 * k) (434 + 94 * k) := by
    intro n0
    induction n0 with
    | zero => intro k hp ad1 g hm; exact absurd hm (Nat.not_lt_zero _)
    | succ n0 ih_L72 =>
      intro k hp ad1 g hm i1 pk0 DK K1 FR n8a
      have alvF : ∀ x, alv h x → x ≠ a → ¬ hp x = none := fun x w n => by rw [FR x w n]; exact w
      refine x_iload_n C dX6_init_72 rfl rfl ?_
      refine x_bipush C (z := 12) dX6_init_73 (by decide) ?_
      refine x_icmp_ge C (tgt := 97) dX6_init_75 (by decide) ⟨by omega, by omega⟩ (by decide) (fun c75 => ?_) (fun c75 => ?_)
      · skip
        have e12 : k = 12 := by omega
        subst e12
        refine X.qeq (g' := fun c => some (ad1 (B + 8 + c))) pk0.2.1 (fun j hj => (pk0.2.2.2.2.2.2.2.2 j (by omega)).1) ?_
        exact x_vret C E rfl (by omega) (by omega) dX6_init_97 (⟨rfl, ad1, K1, AD.sub DK (fun i hi => hi) (fun x w => alv_up w), PK.norm pk0 DK, fun x w n => (up_n (fun z => n8a x w n z)).trans (FR x w n)⟩)
      · skip
        refine x_aload_n C dX6_init_78 rfl rfl ?_
        refine x_get C f_Plan_11 (kf ((K1 B hB).trans ha) pk0.1) rfl dX6_init_79 ?_
        refine x_iload_n C dX6_init_82 rfl rfl ?_
        refine x_new C n_Plan_9 hR (by omega) (by omega) dX6_init_83 (fun q zq => ?_)
        have ne_a_q : a ≠ q := fun e => by rw [← e] at zq; exact absurd (zq.symm.trans (kf ((K1 B hB).trans ha) pk0.1)) (by intro h9; cases h9)
        have ne__ad1__B___1___q : (ad1 (B + 1)) ≠ q := fun e => by rw [← e] at zq; exact absurd (zq.symm.trans pk0.2.1) (by intro h9; cases h9)
        refine x_dup C dX6_init_86 rfl ?_
        refine x_invIN C s_Plan_46 (st := [.ref q, vi (k : Int), .ref (ad1 (B + 1))]) (c_Grips_init up_s) rfl rfl (Nat.le_of_ble_eq_true rfl) (xRm_of hR (by omega) (by decide) (by omega) (by omega)) dX6_init_87 (fun r9 h9 hq => ?_)
        obtain ⟨rfl, b, e, l, zb, ze, zl, nbe, nbl, nel, e9⟩ := hq
        have ne_a_b : a ≠ b := fun e => by rw [← e] at zb; exact alv_of ((up_n ne_a_q).trans (kf ((K1 B hB).trans ha) pk0.1)) zb
        have ne__ad1__B___1___b : (ad1 (B + 1)) ≠ b := fun e => by rw [← e] at zb; exact alv_of ((up_n ne__ad1__B___1___q).trans pk0.2.1) zb
        have ne_q_b : q ≠ b := fun e => by rw [← e] at zb; exact alv_of up_s zb
        have ne_a_e : a ≠ e := fun e => by rw [← e] at ze; exact alv_of ((up_n ne_a_q).trans (kf ((K1 B hB).trans ha) pk0.1)) ze
        have ne__ad1__B___1___e : (ad1 (B + 1)) ≠ e := fun e => by rw [← e] at ze; exact alv_of ((up_n ne__ad1__B___1___q).trans pk0.2.1) ze
        have ne_q_e : q ≠ e := fun e => by rw [← e] at ze; exact alv_of up_s ze
        have ne_a_l : a ≠ l := fun e => by rw [← e] at zl; exact alv_of ((up_n ne_a_q).trans (kf ((K1 B hB).trans ha) pk0.1)) zl
        have ne__ad1__B___1___l : (ad1 (B + 1)) ≠ l := fun e => by rw [← e] at zl; exact alv_of ((up_n ne__ad1__B___1___q).trans pk0.2.1) zl
        have ne_q_l : q ≠ l := fun e => by rw [← e] at zl; exact alv_of up_s zl
        subst e9
        refine X.heq (h1 := (va_up (va_up (va_up (va_up hp q (xO 1 [.ref b, .ref e, .ref l, vi 0])) b (xI G 30 (fun _ => 0))) e (xI G 30 (fun _ => 0))) l (xI G 30 (fun _ => 0)))) (congrArg (fun f => va_up f l _) (congrArg (fun f => va_up f e _) (congrArg (fun f => va_up f b _) (up_u _ _ _ _)))) ?_
        refine x_aast C (t := 5) (ci := 1) rfl rfl ((up_n ne__ad1__B___1___l).trans ((up_n ne__ad1__B___1___e).trans ((up_n ne__ad1__B___1___b).trans ((up_n ne__ad1__B___1___q).trans pk0.2.1)))) ((up_n ne_q_l).trans ((up_n ne_q_e).trans ((up_n ne_q_b).trans up_s))) ⟨by omega, by omega, by omega⟩ (h1 := (va_up (va_up (va_up (va_up (va_up hp q (xO 1 [.ref b, .ref e, .ref l, vi 0])) b (xI G 30 (fun _ => 0))) e (xI G 30 (fun _ => 0))) l (xI G 30 (fun _ => 0))) (ad1 (B + 1)) (xQ G 5 12 (va_up g k (some q))))) rfl dX6_init_90 ?_
        refine x_iinc C (ls' := [some (.ref a), some (vi ((k : Int) + 1))]) dX6_init_91 rfl (by decide) (z1 := ((k : Int) + 1)) rfl rfl ?_
        refine x_goto C (tgt := 72) dX6_init_94 (by decide) ?_
        have zb1 := (up_none zb).2
        have nb1 := (up_none zb).1
        have ze1 := (up_none ze).2
        have ne1 := (up_none ze).1
        have zl1 := (up_none zl).2
        have nl1 := (up_none zl).1
        have hst := PK.step pk0 DK hS (by omega) zq zb1 ze1 zl1 (Ne.symm nb1) (Ne.symm ne1) (Ne.symm nl1) nbe nbl nel (h2 := (va_up (va_up (va_up (va_up (va_up hp q (xO 1 [.ref b, .ref e, .ref l, vi 0])) b (xI G 30 (fun _ => 0))) e (xI G 30 (fun _ => 0))) l (xI G 30 (fun _ => 0))) (ad1 (B + 1)) (xQ G 5 12 (va_up g k (some q))))) ((up_n (Ne.symm ne__ad1__B___1___q)).trans ((up_n ne_q_l).trans ((up_n ne_q_e).trans ((up_n ne_q_b).trans up_s)))) ((up_n (Ne.symm ne__ad1__B___1___b)).trans ((up_n nbl).trans ((up_n nbe).trans up_s))) ((up_n (Ne.symm ne__ad1__B___1___e)).trans ((up_n nel).trans up_s)) ((up_n (Ne.symm ne__ad1__B___1___l)).trans up_s) up_s (fun x w n8 => (up_n n8).trans ((up_n (fun z => w (by rw [z]; exact zl1))).trans ((up_n (fun z => w (by rw [z]; exact ze1))).trans ((up_n (fun z => w (by rw [z]; exact zb1))).trans ((up_n (fun z => w (by rw [z]; exact zq))))))))
        refine X.cs (c1 := 19 + 4 * (k + 1)) (s1 := 434 + 94 * (k + 1)) (by omega) (by omega) ?_
        exact ih_L72 (k + 1) (va_up (va_up (va_up (va_up (va_up hp q (xO 1 [.ref b, .ref e, .ref l, vi 0])) b (xI G 30 (fun _ => 0))) e (xI G 30 (fun _ => 0))) l (xI G 30 (fun _ => 0))) (ad1 (B + 1)) (xQ G 5 12 (va_up g k (some q)))) (ad4 ad1 B k q b e l) (va_up g k (some q)) (by omega) (by omega) (hst.1) (hst.2) (fun i hi => (ad4_n _ _ _ _ _ _ _ (by have := hS i hi; omega) (by have := hS i hi; omega) (by have := hS i hi; omega) (by have := hS i hi; omega)).trans (K1 i hi)) (fun x w n => (up_n (fun z => n8a x w n z)).trans ((up_n (fun z => alvF x w n (by rw [z]; exact zl1))).trans ((up_n (fun z => alvF x w n (by rw [z]; exact ze1))).trans ((up_n (fun z => alvF x w n (by rw [z]; exact zb1))).trans ((up_n (fun z => alvF x w n (by rw [z]; exact zq))).trans (FR x w n)))))) (fun x w n z => n8a x w n (by rw [z]; exact ad4_n _ _ _ _ _ _ _ (by omega) (by omega) (by omega) (by omega)))
  have zrow : ∀ i, i < 12 → (va_up (va_up (va_up (va_up (va_up h a (xO 5 [.ref g1, .ref f1, .ref c1, vi (-1), .ref l1, .null, .null, vi 0])) g1 (xQ G 5 12 (fun _ => none))) f1 (xI G 12 (fun _ => 0))) c1 (xI G 12 (fun _ => 0))) l1 (xI G 12 (fun _ => 0))) (r1 + 1 + i) = none := fun i hi => by have := zr1 (i + 1) (by omega); rwa [show r1 + (i + 1) = r1 + 1 + i by omega] at this
  have HA0 : (va_up (va_up (va_up (va_up (va_up h a (xO 5 [.ref g1, .ref f1, .ref c1, vi (-1), .ref l1, .null, .null, vi 0])) g1 (xQ G 5 12 (fun _ => none))) f1 (xI G 12 (fun _ => 0))) c1 (xI G 12 (fun _ => 0))) l1 (xI G 12 (fun _ => 0))) a = (xO 5 [.ref g1, .ref f1, .ref c1, vi (-1), .ref l1, .null, .null, vi 0]) := ((up_n ne_a_l1).trans ((up_n ne_a_c1).trans ((up_n ne_a_f1).trans ((up_n ne_a_g1).trans up_s))))
  have hP0 : PK G (va_up (va_up (va_up (va_up hm a (xO 5 [.ref g1, .ref f1, .ref c1, vi (-1), .ref l1, .ref r1, .ref hd, vi 0])) hd (xO 2 [vi 0, vi 0, vi 0, vi (b2i false), .ref hf, vi 0, vi 0, vi 0])) hf (xI G 6 (fun _ => 0))) r1 (xQ G 3 12 (fun i => some ((adP ad0 B g1 f1 c1 l1 r1 hd hf) (B + 56 + i))))) (adP ad0 B g1 f1 c1 l1 r1 hd hf) B 0 (fun _ => none) := PK.init ha ((up_n ne_a_r1).trans ((up_n ne_a_hf).trans ((up_n ne_a_hd).trans up_s))) ((up_n ne_g1_r1).trans ((up_n ne_g1_hf).trans ((up_n ne_g1_hd).trans ((up_n (Ne.symm ne_a_g1)).trans ((om _ (alv_of ((up_n ne_g1_l1).trans ((up_n ne_g1_c1).trans ((up_n ne_g1_f1).trans up_s))))).trans ((up_n ne_g1_l1).trans ((up_n ne_g1_c1).trans ((up_n ne_g1_f1).trans up_s)))))))) ((up_n ne_f1_r1).trans ((up_n ne_f1_hf).trans ((up_n ne_f1_hd).trans ((up_n (Ne.symm ne_a_f1)).trans ((om _ (alv_of ((up_n ne_f1_l1).trans ((up_n ne_f1_c1).trans up_s)))).trans ((up_n ne_f1_l1).trans ((up_n ne_f1_c1).trans up_s))))))) ((up_n ne_c1_r1).trans ((up_n ne_c1_hf).trans ((up_n ne_c1_hd).trans ((up_n (Ne.symm ne_a_c1)).trans ((om _ (alv_of ((up_n ne_c1_l1).trans up_s))).trans ((up_n ne_c1_l1).trans up_s)))))) ((up_n ne_l1_r1).trans ((up_n ne_l1_hf).trans ((up_n ne_l1_hd).trans ((up_n (Ne.symm ne_a_l1)).trans ((om _ (alv_of up_s)).trans up_s))))) up_s rfl ⟨_, _, _, _, _, _, _, _, ((up_n (Ne.symm ne_r1_hd)).trans ((up_n ne_hd_hf).trans up_s)), ((up_n (Ne.symm ne_r1_hf)).trans up_s)⟩ (fun i hi => (up_n (show r1 + 1 + i ≠ r1 by omega)).trans ((up_n (fun z => alv_of (rm i hi) (by rw [z]; exact (up_none (up_none zhf).2).2))).trans ((up_n (fun z => alv_of (rm i hi) (by rw [z]; exact (up_none zhd).2))).trans ((up_n (fun z => by have z9 := zrow i hi; rw [z] at z9; exact alv_of HA0 z9)).trans (rm i hi)))))
  have hD0 : AD (adP ad0 B g1 f1 c1 l1 r1 hd hf) (S1 S B 0) (alv (va_up (va_up (va_up (va_up hm a (xO 5 [.ref g1, .ref f1, .ref c1, vi (-1), .ref l1, .ref r1, .ref hd, vi 0])) hd (xO 2 [vi 0, vi 0, vi 0, vi (b2i false), .ref hf, vi 0, vi 0, vi 0])) hf (xI G 6 (fun _ => 0))) r1 (xQ G 3 12 (fun i => some ((adP ad0 B g1 f1 c1 l1 r1 hd hf) (B + 56 + i)))))) := AD.sub D8 (fun i hi => hi.elim (fun w => Or.inr (Or.inr (Or.inr (Or.inr (Or.inr (Or.inr (Or.inr (Or.inr w)))))))) (fun w => if c : i = B then Or.inr (Or.inr (Or.inr (Or.inr (Or.inr (Or.inr (Or.inr (Or.inr (c ▸ hB)))))))) else (show i = B + 7 ∨ i = B + 6 ∨ (B + 56 ≤ i ∧ i < B + 56 + 12) ∨ i = B + 5 ∨ i = B + 4 ∨ i = B + 3 ∨ i = B + 2 ∨ i = B + 1 by omega).imp id (Or.imp id (Or.imp id (Or.imp id (Or.imp id (Or.imp id (Or.imp id (fun w => Or.inl w))))))))) (fun x w => alv_up ((alv_c (alv_c (alv_c (fun w => w)))) w))
  refine X.cs (c1 := 19 + 4 * 0) (s1 := 434 + 94 * 0) (by omega) (by omega) ?_
  exact L72 _ 0 (va_up (va_up (va_up (va_up hm a (xO 5 [.ref g1, .ref f1, .ref c1, vi (-1), .ref l1, .ref r1, .ref hd, vi 0])) hd (xO 2 [vi 0, vi 0, vi 0, vi (b2i false), .ref hf, vi 0, vi 0, vi 0])) hf (xI G 6 (fun _ => 0))) r1 (xQ G 3 12 (fun i => some ((adP ad0 B g1 f1 c1 l1 r1 hd hf) (B + 56 + i))))) (adP ad0 B g1 f1 c1 l1 r1 hd hf) (fun _ => none) (Nat.lt_succ_self _) (Nat.zero_le _) (hP0) (hD0) (fun i hi => hsP.2.2.2.2.2.2.2.2 i (hS i hi)) (hFR) (hNB)
