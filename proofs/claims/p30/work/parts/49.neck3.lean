/-! Neck: how many fingers, effort, what is smaller, rows that grow. -/
theorem pr_le (f : Nat → Int) : ∀ n : Nat, (cp f n).2.2 ≤ n
  | 0 => by simp [cp]
  | n + 1 => by
    have h := pr_le f n
    show (cpS (f n) (cp f n)).2.2 ≤ _
    unfold cpS
    split
    · dsimp only
      omega
    · omega
theorem hFin_rg (f : Nat → Int) (a : Nat) : -4 ≤ hFin f a ∧ hFin f a ≤ 8 := by
  have h1 := bf_rg f a 6
  have h2 := (fb_rg f (hLow f) 6).1
  have h3 : hPal f = (fb f (hLow f) 6).1 := rfl
  have h4 : (fb f (hLow f) 6).1 ≤ 6 := by
    have := fb_cp f (hLow f) 6
    have := pr_le f 6
    omega
  unfold hFin
  split
  · omega
  · split
    · omega
    · split <;> omega
theorem mxF_cong {f g : Nat → Int} : ∀ n, (∀ j, j < n → f j = g j) → mxF f n = mxF g n
  | 0, _ => rfl
  | n + 1, h => by
    unfold mxF
    rw [mxF_cong n (fun j hj => h j (by omega)), h n (Nat.lt_succ_self n)]
theorem mxF_rg {f : Nat → Int} : ∀ n, (∀ j, j < n → f j ≤ 8) → 0 ≤ mxF f n ∧ mxF f n ≤ 8
  | 0, _ => by simp [mxF]
  | n + 1, h => by
    have ih := mxF_rg n (fun j hj => h j (by omega))
    have := h n (Nat.lt_succ_self n)
    unfold mxF
    split <;> omega
theorem cs_sil {f : Nat → Int} {k : Nat} (h : f k = -1) : (cs f (k + 1)).1 = (cs f k).1 ∧ (cs f (k + 1)).2.1 = (cs f k).2.1 ∧ (cs f (k + 1)).2.2 = (cs f k).2.2 + 1 := by
  show (csS (f k) (cs f k)).1 = _ ∧ (csS (f k) (cs f k)).2.1 = _ ∧ (csS (f k) (cs f k)).2.2 = _
  unfold csS
  rw [if_pos h]
  exact ⟨rfl, rfl, rfl⟩
theorem cs_snd {f : Nat → Int} {k : Nat} (h : ¬ f k = -1) : (cs f (k + 1)).1 = (cs f k).1 + 1 ∧ ((cs f k).1 = 0 → (cs f (k + 1)).2.1 = (cs f k).2.1) ∧ (¬ (cs f k).1 = 0 → (cs f (k + 1)).2.1 = (cs f k).2.1 + (cs f k).2.2) ∧ (cs f (k + 1)).2.2 = 0 := by
  show (csS (f k) (cs f k)).1 = _ ∧ (_ → (csS (f k) (cs f k)).2.1 = _) ∧ (_ → (csS (f k) (cs f k)).2.1 = _) ∧ (csS (f k) (cs f k)).2.2 = _
  unfold csS
  rw [if_neg h]
  refine ⟨rfl, fun q => ?_, fun q => ?_, rfl⟩
  · show _ + (if _ then _ else _) = _
    rw [if_pos q]
    exact Int.add_zero _
  · show _ + (if _ then _ else _) = _
    rw [if_neg q]
/-- the first difference is a smaller one -/
def lexP (f g : Nat → Int) (n : Nat) : Prop := ∃ k, k < n ∧ (∀ j, j < k → f j = g j) ∧ f k < g k

set_option maxRecDepth 100000 in
set_option maxHeartbeats 4000000 in
theorem c_N_count {G : xG} {h : PH} {a n : Nat} {g : Nat → Int} (hA : h a = xI G n g) (hn : n ≤ 6) (hg : ∀ j : Nat, j < n → -1 ≤ g j ∧ g j ≤ 12)  : Cn G m_Neck_count 4 1 6 [.ref a] h (fun r h' => r = some (vi (hFc (fe g n))) ∧ Kp h h') := by
  refine Cn_of (by decide) (Nat.le_of_ble_eq_true rfl) (fun K C hR E => ?_)
  have hf : ∀ j, -1 ≤ fe g n j ∧ fe g n j ≤ 12 := fe_rg hg
  have hf2 : ∀ j, fe g n j ≤ 12 := fun j => (hf j).2
  have hlr := hLow_rg (f := (fe g n)) hf2
  have hhr := hHigh_rg (f := (fe g n)) hf2
  show X G K 6 0 [some (.ref a), none, none, none, none, none] [] h 0 0
  refine x_iconst C dX9_count_0 ?_
  refine x_istore_n C (ls' := [some (.ref a), some (vi 0), none, none, none, none]) dX9_count_1 rfl (by decide) rfl ?_
  refine x_aload_n C dX9_count_2 rfl rfl ?_
  refine x_invS C s_Neck_116 (st := []) (c_N_fingers hA hn hg) rfl rfl (Nat.le_of_ble_eq_true rfl) (xRm_of hR (by omega) (by decide) (by omega) (by omega)) dX9_count_3 (fun r9 h9 hq => ?_)
  obtain ⟨q, c, rfl, zq, e9, hc⟩ := hq
  subst e9
  refine x_astore_n C (ls' := [some (.ref a), some (vi 0), some (.ref q), none, none, none]) dX9_count_6 rfl (by decide) rfl ?_
  refine x_aload_n C dX9_count_7 rfl rfl ?_
  refine x_alen C (t := 0) rfl up_s dX9_count_8 ?_
  refine x_istore_n C (ls' := [some (.ref a), some (vi 0), some (.ref q), some (vi ((n : Nat) : Int)), none, none]) dX9_count_9 rfl (by decide) rfl ?_
  refine x_iconst C dX9_count_10 ?_
  refine x_istore C (ls' := [some (.ref a), some (vi 0), some (.ref q), some (vi ((n : Nat) : Int)), some (vi 0), none]) dX9_count_11 (by decide) rfl ?_
  have L13 : ∀ (n0 : Nat) (k : Nat), n - k < n0 → (k ≤ n) → X G K 6 13 [some (.ref a), some (vi (mxF c k)), some (.ref q), some (vi ((n : Nat) : Int)), some (vi (k : Int)), none] [] (va_up h q (xI G n c)) (0 + 1) (0 + 6) := by
    intro n0
    induction n0 with
    | zero => intro k hm; exact absurd hm (Nat.not_lt_zero _)
    | succ n0 ih_L13 =>
      intro k hm i1
      have hmr := mxF_rg (f := c) k (fun j hj => by rw [hc j (by omega)]; exact (hFin_rg _ _).2)
      refine x_iload C dX9_count_13 rfl ?_
      refine x_iload_n C dX9_count_15 rfl rfl ?_
      refine x_icmp_ge C (tgt := 38) dX9_count_16 (by decide) ⟨by omega, by omega⟩ ⟨by omega, by omega⟩ (fun c16 => ?_) (fun c16 => ?_)
      · skip
        refine x_iload_n C dX9_count_38 rfl rfl ?_
        exact x_iret C E rfl (by omega) (by omega) dX9_count_39 (⟨congrArg (fun z => some (vi z)) (by rw [show k = n by omega, mxF_cong n hc]; exact mxF_fin hn (fun a h1 h2 => by rw [fe_o h1]; decide)), Kp.up zq⟩)
      · skip
        refine x_aload_n C dX9_count_19 rfl rfl ?_
        refine x_iload C dX9_count_20 rfl ?_
        refine x_iald C up_s ⟨by omega, by omega, by omega⟩ (v := (c k)) rfl dX9_count_22 ?_
        refine x_istore C (ls' := [some (.ref a), some (vi (mxF c k)), some (.ref q), some (vi ((n : Nat) : Int)), some (vi (k : Int)), some (vi (c k))]) dX9_count_23 (by decide) rfl ?_
        refine x_iload_n C dX9_count_25 rfl rfl ?_
        refine x_iload C dX9_count_26 rfl ?_
        refine x_max C s_Neck_102 static_Math_max i_Math code_Math_max ⟨by omega, by omega⟩ (by have := hFin_rg (fe g n) k; have := hc k (by omega); exact ⟨by omega, by omega⟩) (Nat.le_of_ble_eq_true rfl) hR (by omega) (by omega) (by omega) dX9_count_28 ?_
        refine x_istore_n C (ls' := [some (.ref a), some (vi (if (mxF c k) < (c k) then (c k) else (mxF c k))), some (.ref q), some (vi ((n : Nat) : Int)), some (vi (k : Int)), some (vi (c k))]) dX9_count_31 rfl (by decide) rfl ?_
        refine x_iinc C (ls' := [some (.ref a), some (vi (if (mxF c k) < (c k) then (c k) else (mxF c k))), some (.ref q), some (vi ((n : Nat) : Int)), some (vi ((k : Int) + 1)), some (vi (c k))]) dX9_count_32 rfl (by decide) (z1 := ((k : Int) + 1)) rfl rfl ?_
        refine x_goto C (tgt := 13) dX9_count_35 (by decide) ?_
        refine X.sub (ls' := [some (.ref a), some (vi (if (mxF c k) < (c k) then (c k) else (mxF c k))), some (.ref q), some (vi ((n : Nat) : Int)), some (vi ((k : Int) + 1)), none]) (sub_cons (Or.inr rfl) (sub_cons (Or.inr rfl) (sub_cons (Or.inr rfl) (sub_cons (Or.inr rfl) (sub_cons (Or.inr rfl) (sub_cons (Or.inl rfl) sub_nil)))))) ?_
        exact ih_L13 (k + 1) (by omega) (by omega)
  exact L13 _ 0 (Nat.lt_succ_self _) (by omega)

set_option maxRecDepth 100000 in
set_option maxHeartbeats 4000000 in
theorem c_N_effort {G : xG} {h : PH} {a n : Nat} {g : Nat → Int} (hA : h a = xI G n g) (hn : n ≤ 6) (hg : ∀ j : Nat, j < n → -1 ≤ g j ∧ g j ≤ 12)  : Cn G m_Neck_effort 5 1 6 [.ref a] h (fun r h' => r = some (vi (hEff (fe g n))) ∧ Kp h h') := by
  refine Cn_of (by decide) (Nat.le_of_ble_eq_true rfl) (fun K C hR E => ?_)
  have hf : ∀ j, -1 ≤ fe g n j ∧ fe g n j ≤ 12 := fe_rg hg
  have hf2 : ∀ j, fe g n j ≤ 12 := fun j => (hf j).2
  have hlr := hLow_rg (f := (fe g n)) hf2
  have hhr := hHigh_rg (f := (fe g n)) hf2
  show X G K 4 0 [some (.ref a), none, none, none] [] h 0 0
  refine x_iconst C dX9_effort_0 ?_
  refine x_istore_n C (ls' := [some (.ref a), some (vi (-1)), none, none]) dX9_effort_1 rfl (by decide) rfl ?_
  refine x_iconst C dX9_effort_2 ?_
  refine x_istore_n C (ls' := [some (.ref a), some (vi (-1)), some (vi (-1)), none]) dX9_effort_3 rfl (by decide) rfl ?_
  refine x_iconst C dX9_effort_4 ?_
  refine x_istore_n C (ls' := [some (.ref a), some (vi (-1)), some (vi (-1)), some (vi 0)]) dX9_effort_5 rfl (by decide) rfl ?_
  have L6 : ∀ (n0 : Nat) (k : Nat) (u : Int) (v : Int), n - k < n0 → (k ≤ n) → (0 ≤ (cs (fe g n) k).1) → ((cs (fe g n) k).1 = 0 → u = -1 ∧ v = -1 ∧ (cs (fe g n) k).2.1 = 0) → (0 < (cs (fe g n) k).1 → 0 ≤ u ∧ u ≤ v ∧ v < k ∧ v - u + 1 = (cs (fe g n) k).1 + (cs (fe g n) k).2.1 ∧ (cs (fe g n) k).2.2 = k - 1 - v) → X G K 4 6 [some (.ref a), some (vi u), some (vi v), some (vi (k : Int))] [] h 0 0 := by
    intro n0
    induction n0 with
    | zero => intro k u v hm; exact absurd hm (Nat.not_lt_zero _)
    | succ n0 ih_L6 =>
      intro k u v hm i1 i2 i3 i4
      refine x_iload_n C dX9_effort_6 rfl rfl ?_
      refine x_aload_n C dX9_effort_7 rfl rfl ?_
      refine x_alen C (t := 0) rfl hA dX9_effort_8 ?_
      refine x_icmp_ge C (tgt := 39) dX9_effort_9 (by decide) ⟨by omega, by omega⟩ ⟨by omega, by omega⟩ (fun c9 => ?_) (fun c9 => ?_)
      · skip
        have hkn : k = n := by omega
        have he1 : hSnd (fe g n) = (cs (fe g n) k).1 := by rw [(cs_fe (g := g) hn).1, hkn]
        have he2 : hSkp (fe g n) = (cs (fe g n) k).2.1 := by rw [(cs_fe (g := g) hn).2, hkn]
        refine x_iload_n C dX9_effort_39 rfl rfl ?_
        refine x_if_ge C (tgt := 47) dX9_effort_40 (by decide) ⟨by omega, by omega⟩ (fun c40 => ?_) (fun c40 => ?_)
        · skip
          refine x_iload_n C dX9_effort_47 rfl rfl ?_
          refine x_iload_n C dX9_effort_48 rfl rfl ?_
          refine x_isub C dX9_effort_49 ?_
          refine x_iconst C dX9_effort_50 ?_
          refine x_iadd C dX9_effort_51 ?_
          refine x_aload_n C dX9_effort_52 rfl rfl ?_
          refine x_invS C s_Neck_120 (st := [vi ((v - u) + 1)]) (c_N_sounds hA hn hg) rfl rfl (Nat.le_of_ble_eq_true rfl) (xRm_of hR (by omega) (by decide) (by omega) (by omega)) dX9_effort_53 (fun r9 h9 hq => ?_)
          obtain ⟨rfl, e9⟩ := hq
          have e9 := e9.symm
          subst e9
          refine x_isub C dX9_effort_56 ?_
          skip
          refine x_re (b := (hSkp (fe g n))) (by omega) ?_
          refine x_istore_n C (ls' := [some (.ref a), some (vi u), some (vi v), some (vi (hSkp (fe g n)))]) dX9_effort_57 rfl (by decide) rfl ?_
          refine x_iconst C dX9_effort_58 ?_
          refine x_aload_n C dX9_effort_59 rfl rfl ?_
          refine x_invS C s_Neck_123 (st := [vi 2]) (c_N_high hA hn hg) rfl rfl (Nat.le_of_ble_eq_true rfl) (xRm_of hR (by omega) (by decide) (by omega) (by omega)) dX9_effort_60 (fun r9 h9 hq => ?_)
          obtain ⟨rfl, e9⟩ := hq
          have e9 := e9.symm
          subst e9
          refine x_aload_n C dX9_effort_63 rfl rfl ?_
          refine x_invS C s_Neck_108 (st := [vi (hHigh (fe g n)), vi 2]) (c_N_low hA hn hg) rfl rfl (Nat.le_of_ble_eq_true rfl) (xRm_of hR (by omega) (by decide) (by omega) (by omega)) dX9_effort_64 (fun r9 h9 hq => ?_)
          obtain ⟨rfl, e9⟩ := hq
          have e9 := e9.symm
          subst e9
          refine x_isub C dX9_effort_67 ?_
          refine x_imul C dX9_effort_68 ?_
          refine x_aload_n C dX9_effort_69 rfl rfl ?_
          refine x_invS C s_Neck_126 (st := [vi (2 * ((hHigh (fe g n)) - (hLow (fe g n))))]) (c_N_count hA hn hg) rfl rfl (Nat.le_of_ble_eq_true rfl) (xRm_of hR (by omega) (by decide) (by omega) (by omega)) dX9_effort_70 (fun r9 h9 hq => ?_)
          obtain ⟨rfl, hk⟩ := hq
          refine x_iadd C dX9_effort_73 ?_
          refine x_iload_n C dX9_effort_74 rfl rfl ?_
          refine x_iadd C dX9_effort_75 ?_
          refine x_aload_n C dX9_effort_76 rfl rfl ?_
          refine x_invS C s_Neck_112 (st := [vi (((2 * ((hHigh (fe g n)) - (hLow (fe g n)))) + (hFc (fe g n))) + (hSkp (fe g n)))]) (c_N_hasBarre (hk.at hA) hn hg) rfl rfl (Nat.le_of_ble_eq_true rfl) (xRm_of hR (by omega) (by decide) (by omega) (by omega)) dX9_effort_77 (fun r9 h9 hq => ?_)
          obtain ⟨rfl, e9⟩ := hq
          have e9 := e9.symm
          subst e9
          refine x_ifeqB C (tgt := 87) dX9_effort_80 (by decide) (fun c80 => ?_) (fun c80 => ?_)
          · skip
            refine x_iconst C dX9_effort_87 ?_
            refine x_iadd C dX9_effort_88 ?_
            exact x_iret C E rfl (by omega) (by omega) dX9_effort_89 (⟨congrArg (fun z => some (vi z)) (by unfold hEff; rw [if_neg (by rw [c80]; decide)]; omega), hk⟩)
          · skip
            refine x_iconst C dX9_effort_83 ?_
            refine x_goto C (tgt := 88) dX9_effort_84 (by decide) ?_
            refine x_iadd C dX9_effort_88 ?_
            exact x_iret C E rfl (by omega) (by omega) dX9_effort_89 (⟨congrArg (fun z => some (vi z)) (by unfold hEff; rw [if_pos c80]; omega), hk⟩)
        · skip
          refine x_iconst C dX9_effort_43 ?_
          refine x_goto C (tgt := 57) dX9_effort_44 (by decide) ?_
          skip
          refine x_re (b := (hSkp (fe g n))) (by omega) ?_
          refine x_istore_n C (ls' := [some (.ref a), some (vi u), some (vi v), some (vi (hSkp (fe g n)))]) dX9_effort_57 rfl (by decide) rfl ?_
          refine x_iconst C dX9_effort_58 ?_
          refine x_aload_n C dX9_effort_59 rfl rfl ?_
          refine x_invS C s_Neck_123 (st := [vi 2]) (c_N_high hA hn hg) rfl rfl (Nat.le_of_ble_eq_true rfl) (xRm_of hR (by omega) (by decide) (by omega) (by omega)) dX9_effort_60 (fun r9 h9 hq => ?_)
          obtain ⟨rfl, e9⟩ := hq
          have e9 := e9.symm
          subst e9
          refine x_aload_n C dX9_effort_63 rfl rfl ?_
          refine x_invS C s_Neck_108 (st := [vi (hHigh (fe g n)), vi 2]) (c_N_low hA hn hg) rfl rfl (Nat.le_of_ble_eq_true rfl) (xRm_of hR (by omega) (by decide) (by omega) (by omega)) dX9_effort_64 (fun r9 h9 hq => ?_)
          obtain ⟨rfl, e9⟩ := hq
          have e9 := e9.symm
          subst e9
          refine x_isub C dX9_effort_67 ?_
          refine x_imul C dX9_effort_68 ?_
          refine x_aload_n C dX9_effort_69 rfl rfl ?_
          refine x_invS C s_Neck_126 (st := [vi (2 * ((hHigh (fe g n)) - (hLow (fe g n))))]) (c_N_count hA hn hg) rfl rfl (Nat.le_of_ble_eq_true rfl) (xRm_of hR (by omega) (by decide) (by omega) (by omega)) dX9_effort_70 (fun r9 h9 hq => ?_)
          obtain ⟨rfl, hk⟩ := hq
          refine x_iadd C dX9_effort_73 ?_
          refine x_iload_n C dX9_effort_74 rfl rfl ?_
          refine x_iadd C dX9_effort_75 ?_
          refine x_aload_n C dX9_effort_76 rfl rfl ?_
          refine x_invS C s_Neck_112 (st := [vi (((2 * ((hHigh (fe g n)) - (hLow (fe g n)))) + (hFc (fe g n))) + (hSkp (fe g n)))]) (c_N_hasBarre (hk.at hA) hn hg) rfl rfl (Nat.le_of_ble_eq_true rfl) (xRm_of hR (by omega) (by decide) (by omega) (by omega)) dX9_effort_77 (fun r9 h9 hq => ?_)
          obtain ⟨rfl, e9⟩ := hq
          have e9 := e9.symm
          subst e9
          refine x_ifeqB C (tgt := 87) dX9_effort_80 (by decide) (fun c80 => ?_) (fun c80 => ?_)
          · skip
            refine x_iconst C dX9_effort_87 ?_
            refine x_iadd C dX9_effort_88 ?_
            exact x_iret C E rfl (by omega) (by omega) dX9_effort_89 (⟨congrArg (fun z => some (vi z)) (by unfold hEff; rw [if_neg (by rw [c80]; decide)]; omega), hk⟩)
          · skip
            refine x_iconst C dX9_effort_83 ?_
            refine x_goto C (tgt := 88) dX9_effort_84 (by decide) ?_
            refine x_iadd C dX9_effort_88 ?_
            exact x_iret C E rfl (by omega) (by omega) dX9_effort_89 (⟨congrArg (fun z => some (vi z)) (by unfold hEff; rw [if_pos c80]; omega), hk⟩)
      · skip
        refine x_aload_n C dX9_effort_12 rfl rfl ?_
        refine x_iload_n C dX9_effort_13 rfl rfl ?_
        refine x_iald C hA ⟨by omega, by omega, by omega⟩ (v := (g k)) rfl dX9_effort_14 ?_
        have hgk := hg k (by omega)
        have hfk := fe_i (g := g) (show k < n by omega)
        refine x_if_ge C (tgt := 21) dX9_effort_15 (by decide) (by have := hg k (by omega); exact ⟨by omega, by omega⟩) (fun c15 => ?_) (fun c15 => ?_)
        · skip
          obtain ⟨e1, e2, e3, e4⟩ := cs_snd (f := (fe g n)) (k := k) (by omega)
          refine x_iload_n C dX9_effort_21 rfl rfl ?_
          refine x_if_ge C (tgt := 29) dX9_effort_22 (by decide) ⟨by omega, by omega⟩ (fun c22 => ?_) (fun c22 => ?_)
          · skip
            refine x_iload_n C dX9_effort_29 rfl rfl ?_
            refine x_istore_n C (ls' := [some (.ref a), some (vi u), some (vi v), some (vi (k : Int))]) dX9_effort_30 rfl (by decide) rfl ?_
            refine x_iload_n C dX9_effort_31 rfl rfl ?_
            refine x_istore_n C (ls' := [some (.ref a), some (vi u), some (vi (k : Int)), some (vi (k : Int))]) dX9_effort_32 rfl (by decide) rfl ?_
            refine x_iinc C (ls' := [some (.ref a), some (vi u), some (vi (k : Int)), some (vi ((k : Int) + 1))]) dX9_effort_33 rfl (by decide) (z1 := ((k : Int) + 1)) rfl rfl ?_
            refine x_goto C (tgt := 6) dX9_effort_36 (by decide) ?_
            exact ih_L6 (k + 1) u (k : Int) (by omega) (by omega) (by omega) (by omega) (by omega)
          · skip
            refine x_iload_n C dX9_effort_25 rfl rfl ?_
            refine x_goto C (tgt := 30) dX9_effort_26 (by decide) ?_
            refine x_istore_n C (ls' := [some (.ref a), some (vi (k : Int)), some (vi v), some (vi (k : Int))]) dX9_effort_30 rfl (by decide) rfl ?_
            refine x_iload_n C dX9_effort_31 rfl rfl ?_
            refine x_istore_n C (ls' := [some (.ref a), some (vi (k : Int)), some (vi (k : Int)), some (vi (k : Int))]) dX9_effort_32 rfl (by decide) rfl ?_
            refine x_iinc C (ls' := [some (.ref a), some (vi (k : Int)), some (vi (k : Int)), some (vi ((k : Int) + 1))]) dX9_effort_33 rfl (by decide) (z1 := ((k : Int) + 1)) rfl rfl ?_
            refine x_goto C (tgt := 6) dX9_effort_36 (by decide) ?_
            exact ih_L6 (k + 1) (k : Int) (k : Int) (by omega) (by omega) (by omega) (by omega) (by omega)
        · skip
          obtain ⟨e1, e2, e3⟩ := cs_sil (f := (fe g n)) (k := k) (by omega)
          refine x_goto C (tgt := 33) dX9_effort_18 (by decide) ?_
          refine x_iinc C (ls' := [some (.ref a), some (vi u), some (vi v), some (vi ((k : Int) + 1))]) dX9_effort_33 rfl (by decide) (z1 := ((k : Int) + 1)) rfl rfl ?_
          refine x_goto C (tgt := 6) dX9_effort_36 (by decide) ?_
          exact ih_L6 (k + 1) u v (by omega) (by omega) (by omega) (by omega) (by omega)
  exact L6 _ 0 (-1) (-1) (Nat.lt_succ_self _) (by omega) (Int.le_refl 0) (fun _ => ⟨rfl, rfl, rfl⟩) (fun q => absurd q (Int.lt_irrefl 0))

set_option maxRecDepth 100000 in
set_option maxHeartbeats 4000000 in
theorem c_N_isSmaller {G : xG} {h : PH} {a b n : Nat} {f g : Nat → Int} (hA : h a = xI G n f) (hB : h b = xI G n g) (hn : n ≤ 6) (hf : ∀ j : Nat, j < n → -1 ≤ f j ∧ f j ≤ 12) (hg : ∀ j : Nat, j < n → -1 ≤ g j ∧ g j ≤ 12)  : Cn G m_Neck_isSmaller 0 0 0 [.ref a, .ref b] h (fun r h' => ∃ y, r = some (vi (b2i y)) ∧ (y = true ↔ lexP f g n) ∧ h' = h) := by
  refine Cn_of (by decide) (Nat.le_of_ble_eq_true rfl) (fun K C hR E => ?_)
  show X G K 3 0 [some (.ref a), some (.ref b), none] [] h 0 0
  refine x_iconst C dX9_isSmaller_0 ?_
  refine x_istore_n C (ls' := [some (.ref a), some (.ref b), some (vi 0)]) dX9_isSmaller_1 rfl (by decide) rfl ?_
  have L2 : ∀ (n0 : Nat) (k : Nat), n - k < n0 → (k ≤ n) → (∀ j, j < k → f j = g j) → X G K 3 2 [some (.ref a), some (.ref b), some (vi (k : Int))] [] h 0 0 := by
    intro n0
    induction n0 with
    | zero => intro k hm; exact absurd hm (Nat.not_lt_zero _)
    | succ n0 ih_L2 =>
      intro k hm i1 i2
      refine x_iload_n C dX9_isSmaller_2 rfl rfl ?_
      refine x_aload_n C dX9_isSmaller_3 rfl rfl ?_
      refine x_alen C (t := 0) rfl hA dX9_isSmaller_4 ?_
      refine x_icmp_ge C (tgt := 38) dX9_isSmaller_5 (by decide) ⟨by omega, by omega⟩ ⟨by omega, by omega⟩ (fun c5 => ?_) (fun c5 => ?_)
      · skip
        refine x_iconst C dX9_isSmaller_38 ?_
        exact x_zret C E rfl (by omega) (by omega) (z := false) dX9_isSmaller_39 (⟨false, rfl, ⟨fun q => (by cases q), fun ⟨o, o1, o2, o3⟩ => (by exfalso; have := i2 o (by omega); omega)⟩, rfl⟩)
      · skip
        refine x_aload_n C dX9_isSmaller_8 rfl rfl ?_
        refine x_iload_n C dX9_isSmaller_9 rfl rfl ?_
        refine x_iald C hA ⟨by omega, by omega, by omega⟩ (v := (f k)) rfl dX9_isSmaller_10 ?_
        refine x_aload_n C dX9_isSmaller_11 rfl rfl ?_
        refine x_iload_n C dX9_isSmaller_12 rfl rfl ?_
        refine x_iald C hB ⟨by omega, by omega, by omega⟩ (v := (g k)) rfl dX9_isSmaller_13 ?_
        refine x_icmp_eq C (tgt := 32) dX9_isSmaller_14 (by decide) (by have := hf k (by omega); exact ⟨by omega, by omega⟩) (by have := hg k (by omega); exact ⟨by omega, by omega⟩) (fun c14 => ?_) (fun c14 => ?_)
        · skip
          refine x_iinc C (ls' := [some (.ref a), some (.ref b), some (vi ((k : Int) + 1))]) dX9_isSmaller_32 rfl (by decide) (z1 := ((k : Int) + 1)) rfl rfl ?_
          refine x_goto C (tgt := 2) dX9_isSmaller_35 (by decide) ?_
          exact ih_L2 (k + 1) (by omega) (by omega) (fun j hj => by by_cases w : j = k; subst w; omega; exact i2 j (by omega))
        · skip
          refine x_aload_n C dX9_isSmaller_17 rfl rfl ?_
          refine x_iload_n C dX9_isSmaller_18 rfl rfl ?_
          refine x_iald C hA ⟨by omega, by omega, by omega⟩ (v := (f k)) rfl dX9_isSmaller_19 ?_
          refine x_aload_n C dX9_isSmaller_20 rfl rfl ?_
          refine x_iload_n C dX9_isSmaller_21 rfl rfl ?_
          refine x_iald C hB ⟨by omega, by omega, by omega⟩ (v := (g k)) rfl dX9_isSmaller_22 ?_
          refine x_icmp_ge C (tgt := 30) dX9_isSmaller_23 (by decide) (by have := hf k (by omega); exact ⟨by omega, by omega⟩) (by have := hg k (by omega); exact ⟨by omega, by omega⟩) (fun c23 => ?_) (fun c23 => ?_)
          · skip
            refine x_iconst C dX9_isSmaller_30 ?_
            exact x_zret C E rfl (by omega) (by omega) (z := false) dX9_isSmaller_31 (⟨false, rfl, ⟨fun q => (by cases q), fun ⟨o, o1, o2, o3⟩ => (by exfalso; rcases Nat.lt_trichotomy o k with w | w | w; have := i2 o w; omega; subst w; omega; exact c14 (o2 k w))⟩, rfl⟩)
          · skip
            refine x_iconst C dX9_isSmaller_26 ?_
            refine x_goto C (tgt := 31) dX9_isSmaller_27 (by decide) ?_
            exact x_zret C E rfl (by omega) (by omega) (z := true) dX9_isSmaller_31 (⟨true, rfl, ⟨fun _ => ⟨k, by omega, i2, by omega⟩, fun _ => rfl⟩, rfl⟩)
  exact L2 _ 0 (Nat.lt_succ_self _) (by omega) (fun j hj => absurd hj (Nat.not_lt_zero _))

set_option maxRecDepth 100000 in
set_option maxHeartbeats 4000000 in
theorem c_N_plus {G : xG} {h : PH} {a n : Nat} {g : Nat → Int} {z : Int} (hA : h a = xI G n g) (hn : n ≤ 100)  : Cn G m_Neck_plus 1 1 (n + 1) [.ref a, vi z] h (fun r h' => ∃ q c, r = some (.ref q) ∧ h q = none ∧ h' = va_up h q (xI G (n + 1) c) ∧ (∀ j, j < n → c j = g j) ∧ c n = z) := by
  refine Cn_of (by decide) (Nat.le_of_ble_eq_true rfl) (fun K C hR E => ?_)
  show X G K 3 0 [some (.ref a), some (vi z), none] [] h 0 0
  refine x_aload_n C dX9_plus_0 rfl rfl ?_
  refine x_alen C (t := 0) rfl hA dX9_plus_1 ?_
  refine x_iconst C dX9_plus_2 ?_
  refine x_iadd C dX9_plus_3 ?_
  refine x_newI C (n := (((n : Nat) : Int) + 1)) ⟨by omega, by omega⟩ arrayClass_int hR (by omega) (by omega) dX9_plus_4 (fun q zq => ?_)
  have ne_a_q : a ≠ q := fun e => by rw [← e] at zq; exact absurd (zq.symm.trans hA) (by intro h9; cases h9)
  refine x_astore_n C (ls' := [some (.ref a), some (vi z), some (.ref q)]) dX9_plus_6 rfl (by decide) rfl ?_
  refine x_aload_n C dX9_plus_7 rfl rfl ?_
  refine x_iconst C dX9_plus_8 ?_
  refine x_aload_n C dX9_plus_9 rfl rfl ?_
  refine x_iconst C dX9_plus_10 ?_
  refine x_aload_n C dX9_plus_11 rfl rfl ?_
  refine x_alen C (t := 0) rfl ((up_n ne_a_q).trans hA) dX9_plus_12 ?_
  refine x_copyI C s_Neck_58 native_System_arraycopy static_System_arraycopy i_System ((up_n ne_a_q).trans hA) up_s ⟨by omega, by omega, by omega, by omega, by omega, by omega, by omega⟩ (by decide) hR (by omega) (h1' := (va_up h q (xI G (n + 1) (va_cpy g (fun _ => 0) 0 0 n)))) (up_u _ _ _ _) dX9_plus_13 ?_
  refine x_aload_n C dX9_plus_16 rfl rfl ?_
  refine x_aload_n C dX9_plus_17 rfl rfl ?_
  refine x_alen C (t := 0) rfl ((up_n ne_a_q).trans hA) dX9_plus_18 ?_
  refine x_iload_n C dX9_plus_19 rfl rfl ?_
  refine x_iast C up_s ⟨by omega, by omega, by omega⟩ (h1 := (va_up h q (xI G (n + 1) (va_up (va_cpy g (fun _ => 0) 0 0 n) n z)))) (up_u _ _ _ _) dX9_plus_20 ?_
  refine x_aload_n C dX9_plus_21 rfl rfl ?_
  exact x_aret C E rfl (by first | exact Or.inl ⟨_, rfl⟩ | exact Or.inr ⟨_, rfl⟩) (by omega) (by omega) dX9_plus_22 (⟨q, _, rfl, zq, rfl, fun j hj => (by rw [up_n (by omega)]; unfold va_cpy; rw [if_pos ⟨by omega, by omega⟩, Nat.sub_zero, Nat.zero_add]), up_s⟩)

set_option maxRecDepth 100000 in
set_option maxHeartbeats 4000000 in
theorem c_N_with {G : xG} {h : PH} {a b n m p : Nat} {f : Nat → Option Nat} {u : Nat → Int} (hA : h a = xQ G 3 n f) (hB : h b = xI G m u) (hn : n ≤ 100) (hp : p ≤ n) (hf : ∀ j, j < n → ∃ q m u, f j = some q ∧ h q = xI G m u)  : Cn G m_Neck_with 1 1 (n + 1) [.ref a, .ref b, vi (p : Int)] h (fun r h' => ∃ q c, r = some (.ref q) ∧ h q = none ∧ h' = va_up h q (xQ G 3 (n + 1) c) ∧ (∀ j, j < p → c j = f j) ∧ c p = some b ∧ ∀ j, p ≤ j → j < n → c (j + 1) = f j) := by
  refine Cn_of (by decide) (Nat.le_of_ble_eq_true rfl) (fun K C hR E => ?_)
  show X G K 4 0 [some (.ref a), some (.ref b), some (vi (p : Int)), none] [] h 0 0
  refine x_aload_n C dX9_with_0 rfl rfl ?_
  refine x_alen C (t := 3) rfl hA dX9_with_1 ?_
  refine x_iconst C dX9_with_2 ?_
  refine x_iadd C dX9_with_3 ?_
  refine x_newA C (n := (((n : Nat) : Int) + 1)) ⟨by omega, by omega⟩ a_Neck_28 (by decide) hR (by omega) (by omega) dX9_with_4 (fun q zq => ?_)
  have ne_a_q : a ≠ q := fun e => by rw [← e] at zq; exact absurd (zq.symm.trans hA) (by intro h9; cases h9)
  have ne_b_q : b ≠ q := fun e => by rw [← e] at zq; exact absurd (zq.symm.trans hB) (by intro h9; cases h9)
  refine x_astore_n C (ls' := [some (.ref a), some (.ref b), some (vi (p : Int)), some (.ref q)]) dX9_with_7 rfl (by decide) rfl ?_
  refine x_aload_n C dX9_with_8 rfl rfl ?_
  refine x_iconst C dX9_with_9 ?_
  refine x_aload_n C dX9_with_10 rfl rfl ?_
  refine x_iconst C dX9_with_11 ?_
  refine x_iload_n C dX9_with_12 rfl rfl ?_
  refine x_copyA C s_Neck_58 native_System_arraycopy static_System_arraycopy i_System ((up_n ne_a_q).trans hA) up_s ⟨by omega, by omega, by omega, by omega, by omega, by omega, by omega⟩ (fun i hi y hy => by obtain ⟨q2, m2, u2, e1, e2⟩ := hf i (by omega); rw [show Int.toNat 0 + i = i by omega] at hy; cases e1.symm.trans hy; exact ⟨m2, u2, (up_n (Kp.ne e2 zq)).trans e2⟩) (by decide) hR (by omega) (h1' := (va_up h q (xQ G 3 (n + 1) (va_cpy f (fun _ => none) 0 0 p)))) (up_u _ _ _ _) dX9_with_13 ?_
  refine x_aload_n C dX9_with_16 rfl rfl ?_
  refine x_iload_n C dX9_with_17 rfl rfl ?_
  refine x_aload_n C dX9_with_18 rfl rfl ?_
  refine x_aastA C up_s ((up_n ne_b_q).trans hB) ⟨by omega, by omega, by omega⟩ (h1 := (va_up h q (xQ G 3 (n + 1) (va_up (va_cpy f (fun _ => none) 0 0 p) p (some b))))) (up_u _ _ _ _) dX9_with_19 ?_
  refine x_aload_n C dX9_with_20 rfl rfl ?_
  refine x_iload_n C dX9_with_21 rfl rfl ?_
  refine x_aload_n C dX9_with_22 rfl rfl ?_
  refine x_iload_n C dX9_with_23 rfl rfl ?_
  refine x_iconst C dX9_with_24 ?_
  refine x_iadd C dX9_with_25 ?_
  refine x_aload_n C dX9_with_26 rfl rfl ?_
  refine x_alen C (t := 3) rfl ((up_n ne_a_q).trans hA) dX9_with_27 ?_
  refine x_iload_n C dX9_with_28 rfl rfl ?_
  refine x_isub C dX9_with_29 ?_
  refine x_copyA C s_Neck_58 native_System_arraycopy static_System_arraycopy i_System ((up_n ne_a_q).trans hA) up_s ⟨by omega, by omega, by omega, by omega, by omega, by omega, by omega⟩ (fun i hi y hy => by obtain ⟨q2, m2, u2, e1, e2⟩ := hf (p + i) (by omega); cases e1.symm.trans hy; exact ⟨m2, u2, (up_n (Kp.ne e2 zq)).trans e2⟩) (by decide) hR (by omega) (h1' := (va_up h q (xQ G 3 (n + 1) (va_cpy f (va_up (va_cpy f (fun _ => none) 0 0 p) p (some b)) p (p + 1) ((((n : Nat) : Int) - (p : Int)).toNat))))) (up_u _ _ _ _) dX9_with_30 ?_
  refine x_aload_n C dX9_with_33 rfl rfl ?_
  exact x_aret C E rfl (by first | exact Or.inl ⟨_, rfl⟩ | exact Or.inr ⟨_, rfl⟩) (by omega) (by omega) dX9_with_34 (⟨q, _, rfl, zq, rfl, fun j hj => (by unfold va_cpy; rw [if_neg (by omega), up_n (by omega), if_pos ⟨by omega, by omega⟩, Nat.sub_zero, Nat.zero_add]), (by unfold va_cpy; rw [if_neg (by omega)]; exact up_s), fun j h1 h2 => (by unfold va_cpy; rw [if_pos ⟨by omega, by omega⟩]; congr 1; omega)⟩)
