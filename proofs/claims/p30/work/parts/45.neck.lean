/-! Neck's own reckoning of a grip, and that it is the class's. -/
def fe (g : Nat → Int) (n : Nat) : Nat → Int := fun j => if j < n then g j else -1
theorem fe_i {g : Nat → Int} {n j : Nat} (h : j < n) : fe g n j = g j := if_pos h
theorem fe_o {g : Nat → Int} {n j : Nat} (h : n ≤ j) : fe g n j = -1 := if_neg (by omega)
theorem fe_rg {g : Nat → Int} {n : Nat} (hg : ∀ j : Nat, j < n → -1 ≤ g j ∧ g j ≤ 12) (j : Nat) : -1 ≤ fe g n j ∧ fe g n j ≤ 12 := by
  unfold fe
  split
  · exact hg j (by assumption)
  · omega
theorem cp_le {f : Nat → Int} (hf : ∀ j, f j ≤ 12) : ∀ n, (cp f n).1 ≤ 12 ∧ (cp f n).2.1 ≤ 12
  | 0 => by simp [cp]
  | n + 1 => by
    have h := cp_le hf n
    have hn := hf n
    show (cpS (f n) (cp f n)).1 ≤ 12 ∧ (cpS (f n) (cp f n)).2.1 ≤ 12
    unfold cpS
    split
    · dsimp only
      constructor <;> split <;> omega
    · exact h
theorem cp_hn (f : Nat → Int) : ∀ n, 0 ≤ (cp f n).2.1
  | 0 => Int.le_refl _
  | n + 1 => by
    have h := cp_hn f n
    show 0 ≤ (cpS (f n) (cp f n)).2.1
    unfold cpS
    split
    · dsimp only
      split <;> omega
    · exact h
/-- silent strings behind change nothing -/
theorem cp_end {f : Nat → Int} {m : Nat} : ∀ k, (∀ j, m ≤ j → j < m + k → f j ≤ 0) → cp f (m + k) = cp f m
  | 0, _ => rfl
  | k + 1, h => by
    have ih := cp_end k (fun j h1 h2 => h j h1 (by omega))
    show cpS (f (m + k)) (cp f (m + k)) = _
    unfold cpS
    rw [if_neg (by have := h (m + k) (by omega) (by omega); omega), ih]
theorem cp_fe {g : Nat → Int} {n : Nat} (hn : n ≤ 6) : cp (fe g n) 6 = cp (fe g n) n := by
  have := cp_end (f := fe g n) (m := n) (6 - n) (fun j h1 _ => by rw [fe_o h1]; decide)
  rw [show n + (6 - n) = 6 by omega] at this
  exact this
def lwF (f : Nat → Int) (k : Nat) : Int := if (cp f k).1 = 0 then 99 else (cp f k).1
theorem lwF_s {f : Nat → Int} (hf : ∀ j, f j ≤ 12) (k : Nat) : lwF f (k + 1) = if 0 < f k then (if f k < lwF f k then f k else lwF f k) else lwF f k := by
  have h1 := cp_nn f k
  have h2 := hf k
  unfold lwF
  show (if (cpS (f k) (cp f k)).1 = 0 then 99 else (cpS (f k) (cp f k)).1) = _
  unfold cpS
  by_cases a : 0 < f k
  · rw [if_pos a, if_pos a]
    dsimp only
    by_cases b : (cp f k).1 = 0
    · rw [if_pos (Or.inl b), if_pos b, if_neg (by omega), if_pos (by omega)]
    · rw [if_neg b]
      by_cases c : f k < (cp f k).1
      · rw [if_pos (Or.inr c), if_neg (by omega), if_pos c]
      · have e : ¬ ((cp f k).1 = 0 ∨ f k < (cp f k).1) := fun q => q.elim b c
        rw [if_neg e, if_neg b, if_neg c]
  · rw [if_neg a, if_neg a]
theorem lwF_rg {f : Nat → Int} (hf : ∀ j, f j ≤ 12) (k : Nat) : 0 < lwF f k ∧ lwF f k ≤ 99 := by
  have h1 := cp_nn f k
  have h2 := (cp_le hf k).1
  unfold lwF
  split <;> omega
theorem lwF_e {g : Nat → Int} {n : Nat} (hn : n ≤ 6) (hf : ∀ j, fe g n j ≤ 12) : (if lwF (fe g n) n = 99 then 0 else lwF (fe g n) n) = hLow (fe g n) := by
  have h1 := cp_nn (fe g n) n
  have h2 := (cp_le hf n).1
  unfold hLow
  rw [cp_fe hn]
  unfold lwF
  by_cases a : (cp (fe g n) n).1 = 0
  · rw [if_pos a, if_pos rfl, a]
  · rw [if_neg a, if_neg (by omega)]
theorem hiF_s {f : Nat → Int} (k : Nat) : (cp f (k + 1)).2.1 = if (cp f k).2.1 < f k then f k else (cp f k).2.1 := by
  have h1 := cp_hn f k
  show (cpS (f k) (cp f k)).2.1 = _
  unfold cpS
  by_cases a : 0 < f k
  · rw [if_pos a]
  · rw [if_neg a, if_neg (by omega)]
theorem snF_s {f : Nat → Int} (hf : ∀ j, -1 ≤ f j) (k : Nat) : (cs f (k + 1)).1 = (cs f k).1 + (if 0 ≤ f k then 1 else 0) := by
  have h := hf k
  show (csS (f k) (cs f k)).1 = _
  unfold csS
  by_cases a : f k = -1
  · rw [if_pos a, if_neg (show ¬ 0 ≤ f k by omega)]
    dsimp only
    omega
  · rw [if_neg a, if_pos (show 0 ≤ f k by omega)]
theorem cs_end {f : Nat → Int} {m : Nat} : ∀ k, (∀ j, m ≤ j → j < m + k → f j = -1) → (cs f (m + k)).1 = (cs f m).1 ∧ (cs f (m + k)).2.1 = (cs f m).2.1
  | 0, _ => ⟨rfl, rfl⟩
  | k + 1, h => by
    have ih := cs_end k (fun j h1 h2 => h j h1 (by omega))
    show (csS (f (m + k)) (cs f (m + k))).1 = _ ∧ (csS (f (m + k)) (cs f (m + k))).2.1 = _
    unfold csS
    rw [if_pos (h (m + k) (by omega) (by omega))]
    exact ih
theorem cs_fe {g : Nat → Int} {n : Nat} (hn : n ≤ 6) : hSnd (fe g n) = (cs (fe g n) n).1 ∧ hSkp (fe g n) = (cs (fe g n) n).2.1 := by
  have := cs_end (f := fe g n) (m := n) (6 - n) (fun j h1 _ => fe_o h1)
  rw [show n + (6 - n) = 6 by omega] at this
  exact this

set_option maxRecDepth 100000 in
set_option maxHeartbeats 4000000 in
theorem c_N_low {G : xG} {h : PH} {a n : Nat} {g : Nat → Int} (hA : h a = xI G n g) (hn : n ≤ 6) (hg : ∀ j : Nat, j < n → -1 ≤ g j ∧ g j ≤ 12)  : Cn G m_Neck_low 1 0 0 [.ref a] h (fun r h' => r = some (vi (hLow (fe g n))) ∧ h' = h) := by
  refine Cn_of (by decide) (Nat.le_of_ble_eq_true rfl) (fun K C hR E => ?_)
  have hf : ∀ j, -1 ≤ fe g n j ∧ fe g n j ≤ 12 := fe_rg hg
  have hf2 : ∀ j, fe g n j ≤ 12 := fun j => (hf j).2
  show X G K 6 0 [some (.ref a), none, none, none, none, none] [] h 0 0
  refine x_bipush C (z := 99) dX9_low_0 (by decide) ?_
  refine x_istore_n C (ls' := [some (.ref a), some (vi 99), none, none, none, none]) dX9_low_2 rfl (by decide) rfl ?_
  refine x_aload_n C dX9_low_3 rfl rfl ?_
  refine x_astore_n C (ls' := [some (.ref a), some (vi 99), some (.ref a), none, none, none]) dX9_low_4 rfl (by decide) rfl ?_
  refine x_aload_n C dX9_low_5 rfl rfl ?_
  refine x_alen C (t := 0) rfl hA dX9_low_6 ?_
  refine x_istore_n C (ls' := [some (.ref a), some (vi 99), some (.ref a), some (vi ((n : Nat) : Int)), none, none]) dX9_low_7 rfl (by decide) rfl ?_
  refine x_iconst C dX9_low_8 ?_
  refine x_istore C (ls' := [some (.ref a), some (vi 99), some (.ref a), some (vi ((n : Nat) : Int)), some (vi 0), none]) dX9_low_9 (by decide) rfl ?_
  have L11 : ∀ (n0 : Nat) (k : Nat), n - k < n0 → (k ≤ n) → X G K 6 11 [some (.ref a), some (vi (lwF (fe g n) k)), some (.ref a), some (vi ((n : Nat) : Int)), some (vi (k : Int)), none] [] h 0 0 := by
    intro n0
    induction n0 with
    | zero => intro k hm; exact absurd hm (Nat.not_lt_zero _)
    | succ n0 ih_L11 =>
      intro k hm i1
      have hlr := lwF_rg hf2 k
      have hls := lwF_s hf2 k
      have hgk : k < n → -1 ≤ g k ∧ g k ≤ 12 := fun q => hg k q
      have hfk : k < n → fe g n k = g k := fun q => fe_i q
      refine x_iload C dX9_low_11 rfl ?_
      refine x_iload_n C dX9_low_13 rfl rfl ?_
      refine x_icmp_ge C (tgt := 45) dX9_low_14 (by decide) ⟨by omega, by omega⟩ ⟨by omega, by omega⟩ (fun c14 => ?_) (fun c14 => ?_)
      · skip
        obtain rfl : k = n := by omega
        have he := lwF_e (g := g) hn hf2
        refine x_iload_n C dX9_low_45 rfl rfl ?_
        refine x_bipush C (z := 99) dX9_low_46 (by decide) ?_
        refine x_icmp_ne C (tgt := 55) dX9_low_48 (by decide) ⟨by omega, by omega⟩ (by decide) (fun c48 => ?_) (fun c48 => ?_)
        · skip
          refine x_iload_n C dX9_low_55 rfl rfl ?_
          exact x_iret C E rfl (by omega) (by omega) dX9_low_56 (⟨by rw [← he, if_neg c48], rfl⟩)
        · skip
          refine x_iconst C dX9_low_51 ?_
          refine x_goto C (tgt := 56) dX9_low_52 (by decide) ?_
          exact x_iret C E rfl (by omega) (by omega) dX9_low_56 (⟨by rw [← he, if_pos c48], rfl⟩)
      · skip
        have hgk := hgk (by omega)
        have hfk := hfk (by omega)
        rw [hfk] at hls
        refine x_aload_n C dX9_low_17 rfl rfl ?_
        refine x_iload C dX9_low_18 rfl ?_
        refine x_iald C hA ⟨by omega, by omega, by omega⟩ (v := (g k)) rfl dX9_low_20 ?_
        refine x_istore C (ls' := [some (.ref a), some (vi (lwF (fe g n) k)), some (.ref a), some (vi ((n : Nat) : Int)), some (vi (k : Int)), some (vi (g k))]) dX9_low_21 (by decide) rfl ?_
        refine x_iload C dX9_low_23 rfl ?_
        refine x_if_le C (tgt := 37) dX9_low_25 (by decide) ⟨by omega, by omega⟩ (fun c25 => ?_) (fun c25 => ?_)
        · skip
          refine x_iload_n C dX9_low_37 rfl rfl ?_
          skip
          refine x_re (b := (lwF (fe g n) (k + 1))) (by rw [hls, if_neg (by omega)]) ?_
          refine x_istore_n C (ls' := [some (.ref a), some (vi (lwF (fe g n) (k + 1))), some (.ref a), some (vi ((n : Nat) : Int)), some (vi (k : Int)), some (vi (g k))]) dX9_low_38 rfl (by decide) rfl ?_
          refine x_iinc C (ls' := [some (.ref a), some (vi (lwF (fe g n) (k + 1))), some (.ref a), some (vi ((n : Nat) : Int)), some (vi ((k : Int) + 1)), some (vi (g k))]) dX9_low_39 rfl (by decide) (z1 := ((k : Int) + 1)) rfl rfl ?_
          refine x_goto C (tgt := 11) dX9_low_42 (by decide) ?_
          refine X.sub (ls' := [some (.ref a), some (vi (lwF (fe g n) (k + 1))), some (.ref a), some (vi ((n : Nat) : Int)), some (vi ((k : Int) + 1)), none]) (sub_cons (Or.inr rfl) (sub_cons (Or.inr rfl) (sub_cons (Or.inr rfl) (sub_cons (Or.inr rfl) (sub_cons (Or.inr rfl) (sub_cons (Or.inl rfl) sub_nil)))))) ?_
          exact ih_L11 (k + 1) (by omega) (by omega)
        · skip
          refine x_iload_n C dX9_low_28 rfl rfl ?_
          refine x_iload C dX9_low_29 rfl ?_
          refine x_min C s_Neck_68 static_Math_min i_Math code_Math_min ⟨by omega, by omega⟩ ⟨by omega, by omega⟩ (Nat.le_of_ble_eq_true rfl) hR (by omega) (by omega) (by omega) dX9_low_31 ?_
          refine x_goto C (tgt := 38) dX9_low_34 (by decide) ?_
          skip
          refine x_re (b := (lwF (fe g n) (k + 1))) (by rw [hls, if_pos c25]) ?_
          refine x_istore_n C (ls' := [some (.ref a), some (vi (lwF (fe g n) (k + 1))), some (.ref a), some (vi ((n : Nat) : Int)), some (vi (k : Int)), some (vi (g k))]) dX9_low_38 rfl (by decide) rfl ?_
          refine x_iinc C (ls' := [some (.ref a), some (vi (lwF (fe g n) (k + 1))), some (.ref a), some (vi ((n : Nat) : Int)), some (vi ((k : Int) + 1)), some (vi (g k))]) dX9_low_39 rfl (by decide) (z1 := ((k : Int) + 1)) rfl rfl ?_
          refine x_goto C (tgt := 11) dX9_low_42 (by decide) ?_
          refine X.sub (ls' := [some (.ref a), some (vi (lwF (fe g n) (k + 1))), some (.ref a), some (vi ((n : Nat) : Int)), some (vi ((k : Int) + 1)), none]) (sub_cons (Or.inr rfl) (sub_cons (Or.inr rfl) (sub_cons (Or.inr rfl) (sub_cons (Or.inr rfl) (sub_cons (Or.inr rfl) (sub_cons (Or.inl rfl) sub_nil)))))) ?_
          exact ih_L11 (k + 1) (by omega) (by omega)
  exact L11 _ 0 (Nat.lt_succ_self _) (by omega)

set_option maxRecDepth 100000 in
set_option maxHeartbeats 4000000 in
theorem c_N_high {G : xG} {h : PH} {a n : Nat} {g : Nat → Int} (hA : h a = xI G n g) (hn : n ≤ 6) (hg : ∀ j : Nat, j < n → -1 ≤ g j ∧ g j ≤ 12)  : Cn G m_Neck_high 0 0 0 [.ref a] h (fun r h' => r = some (vi (hHigh (fe g n))) ∧ h' = h) := by
  refine Cn_of (by decide) (Nat.le_of_ble_eq_true rfl) (fun K C hR E => ?_)
  have hf : ∀ j, -1 ≤ fe g n j ∧ fe g n j ≤ 12 := fe_rg hg
  have hf2 : ∀ j, fe g n j ≤ 12 := fun j => (hf j).2
  show X G K 6 0 [some (.ref a), none, none, none, none, none] [] h 0 0
  refine x_iconst C dX9_high_0 ?_
  refine x_istore_n C (ls' := [some (.ref a), some (vi 0), none, none, none, none]) dX9_high_1 rfl (by decide) rfl ?_
  refine x_aload_n C dX9_high_2 rfl rfl ?_
  refine x_astore_n C (ls' := [some (.ref a), some (vi 0), some (.ref a), none, none, none]) dX9_high_3 rfl (by decide) rfl ?_
  refine x_aload_n C dX9_high_4 rfl rfl ?_
  refine x_alen C (t := 0) rfl hA dX9_high_5 ?_
  refine x_istore_n C (ls' := [some (.ref a), some (vi 0), some (.ref a), some (vi ((n : Nat) : Int)), none, none]) dX9_high_6 rfl (by decide) rfl ?_
  refine x_iconst C dX9_high_7 ?_
  refine x_istore C (ls' := [some (.ref a), some (vi 0), some (.ref a), some (vi ((n : Nat) : Int)), some (vi 0), none]) dX9_high_8 (by decide) rfl ?_
  have L10 : ∀ (n0 : Nat) (k : Nat), n - k < n0 → (k ≤ n) → X G K 6 10 [some (.ref a), some (vi ((cp (fe g n) k).2.1)), some (.ref a), some (vi ((n : Nat) : Int)), some (vi (k : Int)), none] [] h 0 0 := by
    intro n0
    induction n0 with
    | zero => intro k hm; exact absurd hm (Nat.not_lt_zero _)
    | succ n0 ih_L10 =>
      intro k hm i1
      have hl1 := (cp_le hf2 k).2
      have hl0 := cp_hn (fe g n) k
      have hls := hiF_s (f := (fe g n)) k
      refine x_iload C dX9_high_10 rfl ?_
      refine x_iload_n C dX9_high_12 rfl rfl ?_
      refine x_icmp_ge C (tgt := 41) dX9_high_13 (by decide) ⟨by omega, by omega⟩ ⟨by omega, by omega⟩ (fun c13 => ?_) (fun c13 => ?_)
      · skip
        obtain rfl : k = n := by omega
        have he := cp_fe (g := g) hn
        refine x_iload_n C dX9_high_41 rfl rfl ?_
        exact x_iret C E rfl (by omega) (by omega) dX9_high_42 (⟨by unfold hHigh; rw [he], rfl⟩)
      · skip
        have hgk := hg k (by omega)
        rw [fe_i (show k < n by omega)] at hls
        refine x_aload_n C dX9_high_16 rfl rfl ?_
        refine x_iload C dX9_high_17 rfl ?_
        refine x_iald C hA ⟨by omega, by omega, by omega⟩ (v := (g k)) rfl dX9_high_19 ?_
        refine x_istore C (ls' := [some (.ref a), some (vi ((cp (fe g n) k).2.1)), some (.ref a), some (vi ((n : Nat) : Int)), some (vi (k : Int)), some (vi (g k))]) dX9_high_20 (by decide) rfl ?_
        refine x_iload C dX9_high_22 rfl ?_
        refine x_iload_n C dX9_high_24 rfl rfl ?_
        refine x_icmp_le C (tgt := 33) dX9_high_25 (by decide) ⟨by omega, by omega⟩ ⟨by omega, by omega⟩ (fun c25 => ?_) (fun c25 => ?_)
        · skip
          refine x_iload_n C dX9_high_33 rfl rfl ?_
          skip
          refine x_re (b := ((cp (fe g n) (k + 1)).2.1)) (by rw [hls, if_neg (by omega)]) ?_
          refine x_istore_n C (ls' := [some (.ref a), some (vi ((cp (fe g n) (k + 1)).2.1)), some (.ref a), some (vi ((n : Nat) : Int)), some (vi (k : Int)), some (vi (g k))]) dX9_high_34 rfl (by decide) rfl ?_
          refine x_iinc C (ls' := [some (.ref a), some (vi ((cp (fe g n) (k + 1)).2.1)), some (.ref a), some (vi ((n : Nat) : Int)), some (vi ((k : Int) + 1)), some (vi (g k))]) dX9_high_35 rfl (by decide) (z1 := ((k : Int) + 1)) rfl rfl ?_
          refine x_goto C (tgt := 10) dX9_high_38 (by decide) ?_
          refine X.sub (ls' := [some (.ref a), some (vi ((cp (fe g n) (k + 1)).2.1)), some (.ref a), some (vi ((n : Nat) : Int)), some (vi ((k : Int) + 1)), none]) (sub_cons (Or.inr rfl) (sub_cons (Or.inr rfl) (sub_cons (Or.inr rfl) (sub_cons (Or.inr rfl) (sub_cons (Or.inr rfl) (sub_cons (Or.inl rfl) sub_nil)))))) ?_
          exact ih_L10 (k + 1) (by omega) (by omega)
        · skip
          refine x_iload C dX9_high_28 rfl ?_
          refine x_goto C (tgt := 34) dX9_high_30 (by decide) ?_
          skip
          refine x_re (b := ((cp (fe g n) (k + 1)).2.1)) (by rw [hls, if_pos (by omega)]) ?_
          refine x_istore_n C (ls' := [some (.ref a), some (vi ((cp (fe g n) (k + 1)).2.1)), some (.ref a), some (vi ((n : Nat) : Int)), some (vi (k : Int)), some (vi (g k))]) dX9_high_34 rfl (by decide) rfl ?_
          refine x_iinc C (ls' := [some (.ref a), some (vi ((cp (fe g n) (k + 1)).2.1)), some (.ref a), some (vi ((n : Nat) : Int)), some (vi ((k : Int) + 1)), some (vi (g k))]) dX9_high_35 rfl (by decide) (z1 := ((k : Int) + 1)) rfl rfl ?_
          refine x_goto C (tgt := 10) dX9_high_38 (by decide) ?_
          refine X.sub (ls' := [some (.ref a), some (vi ((cp (fe g n) (k + 1)).2.1)), some (.ref a), some (vi ((n : Nat) : Int)), some (vi ((k : Int) + 1)), none]) (sub_cons (Or.inr rfl) (sub_cons (Or.inr rfl) (sub_cons (Or.inr rfl) (sub_cons (Or.inr rfl) (sub_cons (Or.inr rfl) (sub_cons (Or.inl rfl) sub_nil)))))) ?_
          exact ih_L10 (k + 1) (by omega) (by omega)
  exact L10 _ 0 (Nat.lt_succ_self _) (by omega)

set_option maxRecDepth 100000 in
set_option maxHeartbeats 4000000 in
theorem c_N_sounds {G : xG} {h : PH} {a n : Nat} {g : Nat → Int} (hA : h a = xI G n g) (hn : n ≤ 6) (hg : ∀ j : Nat, j < n → -1 ≤ g j ∧ g j ≤ 12)  : Cn G m_Neck_sounds 0 0 0 [.ref a] h (fun r h' => r = some (vi (hSnd (fe g n))) ∧ h' = h) := by
  refine Cn_of (by decide) (Nat.le_of_ble_eq_true rfl) (fun K C hR E => ?_)
  have hf : ∀ j, -1 ≤ fe g n j ∧ fe g n j ≤ 12 := fe_rg hg
  have hf2 : ∀ j, fe g n j ≤ 12 := fun j => (hf j).2
  show X G K 6 0 [some (.ref a), none, none, none, none, none] [] h 0 0
  refine x_iconst C dX9_sounds_0 ?_
  refine x_istore_n C (ls' := [some (.ref a), some (vi 0), none, none, none, none]) dX9_sounds_1 rfl (by decide) rfl ?_
  refine x_aload_n C dX9_sounds_2 rfl rfl ?_
  refine x_astore_n C (ls' := [some (.ref a), some (vi 0), some (.ref a), none, none, none]) dX9_sounds_3 rfl (by decide) rfl ?_
  refine x_aload_n C dX9_sounds_4 rfl rfl ?_
  refine x_alen C (t := 0) rfl hA dX9_sounds_5 ?_
  refine x_istore_n C (ls' := [some (.ref a), some (vi 0), some (.ref a), some (vi ((n : Nat) : Int)), none, none]) dX9_sounds_6 rfl (by decide) rfl ?_
  refine x_iconst C dX9_sounds_7 ?_
  refine x_istore C (ls' := [some (.ref a), some (vi 0), some (.ref a), some (vi ((n : Nat) : Int)), some (vi 0), none]) dX9_sounds_8 (by decide) rfl ?_
  have L10 : ∀ (n0 : Nat) (k : Nat), n - k < n0 → (k ≤ n) → X G K 6 10 [some (.ref a), some (vi ((cs (fe g n) k).1)), some (.ref a), some (vi ((n : Nat) : Int)), some (vi (k : Int)), none] [] h 0 0 := by
    intro n0
    induction n0 with
    | zero => intro k hm; exact absurd hm (Nat.not_lt_zero _)
    | succ n0 ih_L10 =>
      intro k hm i1
      have hls := snF_s (f := (fe g n)) (fun j => (hf j).1) k
      refine x_iload C dX9_sounds_10 rfl ?_
      refine x_iload_n C dX9_sounds_12 rfl rfl ?_
      refine x_icmp_ge C (tgt := 41) dX9_sounds_13 (by decide) ⟨by omega, by omega⟩ ⟨by omega, by omega⟩ (fun c13 => ?_) (fun c13 => ?_)
      · skip
        obtain rfl : k = n := by omega
        have he := (cs_fe (g := g) hn).1
        refine x_iload_n C dX9_sounds_41 rfl rfl ?_
        exact x_iret C E rfl (by omega) (by omega) dX9_sounds_42 (⟨by rw [he], rfl⟩)
      · skip
        have hgk := hg k (by omega)
        rw [fe_i (show k < n by omega)] at hls
        refine x_aload_n C dX9_sounds_16 rfl rfl ?_
        refine x_iload C dX9_sounds_17 rfl ?_
        refine x_iald C hA ⟨by omega, by omega, by omega⟩ (v := (g k)) rfl dX9_sounds_19 ?_
        refine x_istore C (ls' := [some (.ref a), some (vi ((cs (fe g n) k).1)), some (.ref a), some (vi ((n : Nat) : Int)), some (vi (k : Int)), some (vi (g k))]) dX9_sounds_20 (by decide) rfl ?_
        refine x_iload_n C dX9_sounds_22 rfl rfl ?_
        refine x_iload C dX9_sounds_23 rfl ?_
        refine x_if_lt C (tgt := 32) dX9_sounds_25 (by decide) ⟨by omega, by omega⟩ (fun c25 => ?_) (fun c25 => ?_)
        · skip
          refine x_iconst C dX9_sounds_32 ?_
          refine x_iadd C dX9_sounds_33 ?_
          skip
          refine x_re (b := ((cs (fe g n) (k + 1)).1)) (by rw [hls, if_neg (by omega)]) ?_
          refine x_istore_n C (ls' := [some (.ref a), some (vi ((cs (fe g n) (k + 1)).1)), some (.ref a), some (vi ((n : Nat) : Int)), some (vi (k : Int)), some (vi (g k))]) dX9_sounds_34 rfl (by decide) rfl ?_
          refine x_iinc C (ls' := [some (.ref a), some (vi ((cs (fe g n) (k + 1)).1)), some (.ref a), some (vi ((n : Nat) : Int)), some (vi ((k : Int) + 1)), some (vi (g k))]) dX9_sounds_35 rfl (by decide) (z1 := ((k : Int) + 1)) rfl rfl ?_
          refine x_goto C (tgt := 10) dX9_sounds_38 (by decide) ?_
          refine X.sub (ls' := [some (.ref a), some (vi ((cs (fe g n) (k + 1)).1)), some (.ref a), some (vi ((n : Nat) : Int)), some (vi ((k : Int) + 1)), none]) (sub_cons (Or.inr rfl) (sub_cons (Or.inr rfl) (sub_cons (Or.inr rfl) (sub_cons (Or.inr rfl) (sub_cons (Or.inr rfl) (sub_cons (Or.inl rfl) sub_nil)))))) ?_
          exact ih_L10 (k + 1) (by omega) (by omega)
        · skip
          refine x_iconst C dX9_sounds_28 ?_
          refine x_goto C (tgt := 33) dX9_sounds_29 (by decide) ?_
          refine x_iadd C dX9_sounds_33 ?_
          skip
          refine x_re (b := ((cs (fe g n) (k + 1)).1)) (by rw [hls, if_pos (by omega)]) ?_
          refine x_istore_n C (ls' := [some (.ref a), some (vi ((cs (fe g n) (k + 1)).1)), some (.ref a), some (vi ((n : Nat) : Int)), some (vi (k : Int)), some (vi (g k))]) dX9_sounds_34 rfl (by decide) rfl ?_
          refine x_iinc C (ls' := [some (.ref a), some (vi ((cs (fe g n) (k + 1)).1)), some (.ref a), some (vi ((n : Nat) : Int)), some (vi ((k : Int) + 1)), some (vi (g k))]) dX9_sounds_35 rfl (by decide) (z1 := ((k : Int) + 1)) rfl rfl ?_
          refine x_goto C (tgt := 10) dX9_sounds_38 (by decide) ?_
          refine X.sub (ls' := [some (.ref a), some (vi ((cs (fe g n) (k + 1)).1)), some (.ref a), some (vi ((n : Nat) : Int)), some (vi ((k : Int) + 1)), none]) (sub_cons (Or.inr rfl) (sub_cons (Or.inr rfl) (sub_cons (Or.inr rfl) (sub_cons (Or.inr rfl) (sub_cons (Or.inr rfl) (sub_cons (Or.inl rfl) sub_nil)))))) ?_
          exact ih_L10 (k + 1) (by omega) (by omega)
  exact L10 _ 0 (Nat.lt_succ_self _) (by omega)
