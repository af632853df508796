/-! Neck: the barre, fingers, effort, what is smaller, rows that grow. -/
theorem hLow_rg {f : Nat → Int} (hf : ∀ j, f j ≤ 12) : 0 ≤ hLow f ∧ hLow f ≤ 12 := ⟨cp_nn f 6, (cp_le hf 6).1⟩
theorem hHigh_rg {f : Nat → Int} (hf : ∀ j, f j ≤ 12) : 0 ≤ hHigh f ∧ hHigh f ≤ 12 := ⟨cp_hn f 6, (cp_le hf 6).2⟩
theorem b2i_or (p q : Bool) : I (b2i p) ||| I (b2i q) = I (b2i (p || q)) := by cases p <;> cases q <;> decide
theorem lst_ge {f : Nat → Int} {low : Int} {l : Nat} (h : 0 < f l ∧ f l = low) : ∀ j, l < j → (l : Int) ≤ lst f low j
  | j + 1, hj => by
    unfold lst
    by_cases c : 0 < f j ∧ f j = low
    · rw [if_pos c]; omega
    · rw [if_neg c]
      by_cases q : l = j
      · rw [q] at h; exact absurd h c
      · exact lst_ge h j (by omega)
/-- there is a low string from k on -/
def mlow (f : Nat → Int) (low : Int) (k n : Nat) : Prop := ∃ o, k ≤ o ∧ o < n ∧ (0 < f o ∧ f o = low)
theorem fe_no {g : Nat → Int} {n o : Nat} {low : Int} (h : n ≤ o) : ¬ (0 < fe g n o ∧ fe g n o = low) := by rw [fe_o h]; omega
theorem fb_fe {g : Nat → Int} {n : Nat} (hn : n ≤ 6) (low : Int) : (fb (fe g n) low 6).1 = (fb (fe g n) low n).1 := by
  have := (fb_no (fe g n) low (k := n) (6 - n) (fun o h1 _ => fe_no h1)).1
  rw [show n + (6 - n) = 6 by omega] at this
  exact this

set_option maxRecDepth 100000 in
set_option maxHeartbeats 4000000 in
theorem c_N_hasBarre {G : xG} {h : PH} {a n : Nat} {g : Nat → Int} (hA : h a = xI G n g) (hn : n ≤ 6) (hg : ∀ j : Nat, j < n → -1 ≤ g j ∧ g j ≤ 12)  : Cn G m_Neck_hasBarre 2 0 0 [.ref a] h (fun r h' => r = some (vi (b2i (hBar (fe g n)))) ∧ h' = h) := by
  refine Cn_of (by decide) (Nat.le_of_ble_eq_true rfl) (fun K C hR E => ?_)
  have hf : ∀ j, -1 ≤ fe g n j ∧ fe g n j ≤ 12 := fe_rg hg
  have hf2 : ∀ j, fe g n j ≤ 12 := fun j => (hf j).2
  have hlr := hLow_rg (f := (fe g n)) hf2
  show X G K 6 0 [some (.ref a), none, none, none, none, none] [] h 0 0
  refine x_iconst C dX9_hasBarre_0 ?_
  refine x_istore_n C (ls' := [some (.ref a), some (vi (-1)), none, none, none, none]) dX9_hasBarre_1 rfl (by decide) rfl ?_
  refine x_iconst C dX9_hasBarre_2 ?_
  refine x_istore_n C (ls' := [some (.ref a), some (vi (-1)), some (vi 0), none, none, none]) dX9_hasBarre_3 rfl (by decide) rfl ?_
  have L4 : ∀ (n0 : Nat) (k : Nat) (la : Int), n - k < n0 → (k ≤ n) → (la = (lst (fe g n) (hLow (fe g n)) k)) → ((fb (fe g n) (hLow (fe g n)) k).2.2 = false) → (2 ≤ (fb (fe g n) (hLow (fe g n)) k).1 → mlow (fe g n) (hLow (fe g n)) k n) → X G K 6 4 [some (.ref a), some (vi la), some (vi (k : Int)), none, none, none] [] h 0 0 := by
    intro n0
    induction n0 with
    | zero => intro k la hm; exact absurd hm (Nat.not_lt_zero _)
    | succ n0 ih_L4 =>
      intro k la hm i1 i0 i2 i3
      have hls := lst_rg (fe g n) (hLow (fe g n)) k
      refine x_iload_n C dX9_hasBarre_4 rfl rfl ?_
      refine x_aload_n C dX9_hasBarre_5 rfl rfl ?_
      refine x_alen C (t := 0) rfl hA dX9_hasBarre_6 ?_
      refine x_icmp_ge C (tgt := 140) dX9_hasBarre_7 (by decide) ⟨by omega, by omega⟩ ⟨by omega, by omega⟩ (fun c7 => ?_) (fun c7 => ?_)
      · skip
        have hkn9 : k = n := by omega
        refine x_iconst C dX9_hasBarre_140 ?_
        exact x_zret C E rfl (by omega) (by omega) (z := false) dX9_hasBarre_141 (⟨by rw [hBar_few (by have w9 : (fb (fe g n) (hLow (fe g n)) n).1 = (fb (fe g n) (hLow (fe g n)) k).1 := congrArg (fun z => (fb (fe g n) (hLow (fe g n)) z).1) hkn9.symm; rw [fb_fe hn, w9]; by_cases w : 2 ≤ (fb (fe g n) (hLow (fe g n)) k).1; obtain ⟨o, o1, o2, -⟩ := i3 w; omega; omega)], rfl⟩)
      · skip
        have hkn : k < n := by omega
        have hfk := fe_i (g := g) hkn
        have hz := fb_z (fe g n) (hLow (fe g n)) k
        have hfr := (fb_rg (fe g n) (hLow (fe g n)) k).1
        refine x_aload_n C dX9_hasBarre_10 rfl rfl ?_
        refine x_invS C s_Neck_108 (st := []) (c_N_low hA hn hg) rfl rfl (Nat.le_of_ble_eq_true rfl) (xRm_of hR (by omega) (by decide) (by omega) (by omega)) dX9_hasBarre_11 (fun r9 h9 hq => ?_)
        obtain ⟨rfl, e9⟩ := hq
        have e9 := e9.symm
        subst e9
        refine x_if_eq C (tgt := 134) dX9_hasBarre_14 (by decide) ⟨by omega, by omega⟩ (fun c14 => ?_) (fun c14 => ?_)
        · skip
          skip
          refine x_iinc C (ls' := [some (.ref a), some (vi la), some (vi ((k : Int) + 1)), none, none, none]) dX9_hasBarre_134 rfl (by decide) (z1 := ((k : Int) + 1)) rfl rfl ?_
          refine x_goto C (tgt := 4) dX9_hasBarre_137 (by decide) ?_
          have hnl : ¬ (0 < fe g n k ∧ fe g n k = hLow (fe g n)) := by rw [hfk]; omega
          obtain ⟨e1, e2, e3⟩ := fb_0 (fe g n) (hLow (fe g n)) k hnl
          have e4 : (lst (fe g n) (hLow (fe g n)) (k + 1)) = (lst (fe g n) (hLow (fe g n)) k) := if_neg hnl
          exact ih_L4 (k + 1) la (by omega) (by omega) (by rw [e4]; exact i0) (by rw [e3]; exact i2) (fun q => by rw [e1] at q; obtain ⟨o, o1, o2, o3⟩ := i3 q; refine ⟨o, ?_, o2, o3⟩; by_cases w : o = k; rw [w] at o3; exact absurd o3 hnl; omega)
        · skip
          refine x_aload_n C dX9_hasBarre_17 rfl rfl ?_
          refine x_iload_n C dX9_hasBarre_18 rfl rfl ?_
          refine x_iald C hA ⟨by omega, by omega, by omega⟩ (v := (g k)) rfl dX9_hasBarre_19 ?_
          refine x_aload_n C dX9_hasBarre_20 rfl rfl ?_
          refine x_invS C s_Neck_108 (st := [vi (g k)]) (c_N_low hA hn hg) rfl rfl (Nat.le_of_ble_eq_true rfl) (xRm_of hR (by omega) (by decide) (by omega) (by omega)) dX9_hasBarre_21 (fun r9 h9 hq => ?_)
          obtain ⟨rfl, e9⟩ := hq
          have e9 := e9.symm
          subst e9
          refine x_icmp_eq C (tgt := 30) dX9_hasBarre_24 (by decide) (by have := hg k (by omega); exact ⟨by omega, by omega⟩) ⟨by omega, by omega⟩ (fun c24 => ?_) (fun c24 => ?_)
          · skip
            have hlk : (0 < fe g n k ∧ fe g n k = hLow (fe g n)) := by rw [hfk]; omega
            obtain ⟨e1, e2, e3⟩ := fb_1 (fe g n) (hLow (fe g n)) k hlk
            have e4 : (lst (fe g n) (hLow (fe g n)) (k + 1)) = (k : Int) := if_pos hlk
            refine x_iconst C dX9_hasBarre_30 ?_
            refine x_istore_n C (ls' := [some (.ref a), some (vi la), some (vi (k : Int)), some (vi 0), none, none]) dX9_hasBarre_31 rfl (by decide) rfl ?_
            refine x_iload_n C dX9_hasBarre_32 rfl rfl ?_
            refine x_iconst C dX9_hasBarre_33 ?_
            refine x_iadd C dX9_hasBarre_34 ?_
            refine x_re (b := (((la + 1).toNat : Nat) : Int)) (by omega) ?_
            refine x_istore C (ls' := [some (.ref a), some (vi la), some (vi (k : Int)), some (vi 0), some (vi (((la + 1).toNat : Nat) : Int)), none]) dX9_hasBarre_35 (by decide) rfl ?_
            have L37 : ∀ (n0 : Nat) (j : Nat) (y : Bool), k - j < n0 → (la + 1 ≤ (j : Int) ∧ j ≤ k) → (0 ≤ la → y = (fb (fe g n) (hLow (fe g n)) j).2.1) → X G K 6 37 [some (.ref a), some (vi la), some (vi (k : Int)), some (vi (b2i y)), some (vi (j : Int)), none] [] h 0 0 := by
              intro n0
              induction n0 with
              | zero => intro j y hm; exact absurd hm (Nat.not_lt_zero _)
              | succ n0 ih_L37 =>
                intro j y hm j1 j2
                refine x_iload C dX9_hasBarre_37 rfl ?_
                refine x_iload_n C dX9_hasBarre_39 rfl rfl ?_
                refine x_icmp_ge C (tgt := 64) dX9_hasBarre_40 (by decide) ⟨by omega, by omega⟩ ⟨by omega, by omega⟩ (fun c40 => ?_) (fun c40 => ?_)
                · skip
                  refine x_iload_n C dX9_hasBarre_64 rfl rfl ?_
                  refine x_if_lt C (tgt := 74) dX9_hasBarre_65 (by decide) ⟨by omega, by omega⟩ (fun c65 => ?_) (fun c65 => ?_)
                  · skip
                    skip
                    refine x_iload_n C dX9_hasBarre_74 rfl rfl ?_
                    refine x_if_ge C (tgt := 83) dX9_hasBarre_75 (by decide) ⟨by omega, by omega⟩ (fun c75 => ?_) (fun c75 => ?_)
                    · skip
                      exfalso; omega
                    · skip
                      skip
                      refine x_iload_n C dX9_hasBarre_78 rfl rfl ?_
                      refine x_istore_n C (ls' := [some (.ref a), some (vi (k : Int)), some (vi (k : Int)), some (vi (b2i y)), some (vi (j : Int)), none]) dX9_hasBarre_79 rfl (by decide) rfl ?_
                      refine x_goto C (tgt := 134) dX9_hasBarre_80 (by decide) ?_
                      refine x_iinc C (ls' := [some (.ref a), some (vi (k : Int)), some (vi ((k : Int) + 1)), some (vi (b2i y)), some (vi (j : Int)), none]) dX9_hasBarre_134 rfl (by decide) (z1 := ((k : Int) + 1)) rfl rfl ?_
                      refine x_goto C (tgt := 4) dX9_hasBarre_137 (by decide) ?_
                      refine X.sub (ls' := [some (.ref a), some (vi (k : Int)), some (vi ((k : Int) + 1)), none, none, none]) (sub_cons (Or.inr rfl) (sub_cons (Or.inr rfl) (sub_cons (Or.inr rfl) (sub_cons (Or.inl rfl) (sub_cons (Or.inl rfl) (sub_cons (Or.inl rfl) sub_nil)))))) ?_
                      exact ih_L4 (k + 1) (k : Int) (by omega) (by omega) (e4.symm) (by rw [e3]; exact (hz.2 (hz.1.mpr (by omega))).1) (fun q => by rw [e1, hz.1.mpr (by omega)] at q; exact absurd q (by decide))
                  · skip
                    refine x_iload_n C dX9_hasBarre_68 rfl rfl ?_
                    refine x_ifeqB C (tgt := 74) dX9_hasBarre_69 (by decide) (fun c69 => ?_) (fun c69 => ?_)
                    · skip
                      have hop : (fb (fe g n) (hLow (fe g n)) k).2.1 = false := by have w := j2 (by omega); rw [show j = k by omega] at w; rw [← w]; exact c69
                      refine x_iload_n C dX9_hasBarre_74 rfl rfl ?_
                      refine x_if_ge C (tgt := 83) dX9_hasBarre_75 (by decide) ⟨by omega, by omega⟩ (fun c75 => ?_) (fun c75 => ?_)
                      · skip
                        refine x_iconst C dX9_hasBarre_83 ?_
                        refine x_istore C (ls' := [some (.ref a), some (vi la), some (vi (k : Int)), some (vi (b2i y)), some (vi 0), none]) dX9_hasBarre_84 (by decide) rfl ?_
                        refine x_iload_n C dX9_hasBarre_86 rfl rfl ?_
                        refine x_iconst C dX9_hasBarre_87 ?_
                        refine x_iadd C dX9_hasBarre_88 ?_
                        refine x_istore C (ls' := [some (.ref a), some (vi la), some (vi (k : Int)), some (vi (b2i y)), some (vi 0), some (vi ((k : Int) + 1))]) dX9_hasBarre_89 (by decide) rfl ?_
                        have L91 : ∀ (n0 : Nat) (j : Nat) (y : Bool), n - j < n0 → (k + 1 ≤ j ∧ j ≤ n) → (y = true → mlow (fe g n) (hLow (fe g n)) (k + 1) n) → (y = false → ∀ o, k < o → o < j → ¬ (0 < fe g n o ∧ fe g n o = hLow (fe g n))) → X G K 6 91 [some (.ref a), some (vi la), some (vi (k : Int)), none, some (vi (b2i y)), some (vi (j : Int))] [] h 0 0 := by
                          intro n0
                          induction n0 with
                          | zero => intro j y hm; exact absurd hm (Nat.not_lt_zero _)
                          | succ n0 ih_L91 =>
                            intro j y hm q1 q2 q3
                            refine x_iload C dX9_hasBarre_91 rfl ?_
                            refine x_aload_n C dX9_hasBarre_93 rfl rfl ?_
                            refine x_alen C (t := 0) rfl hA dX9_hasBarre_94 ?_
                            refine x_icmp_ge C (tgt := 125) dX9_hasBarre_95 (by decide) ⟨by omega, by omega⟩ ⟨by omega, by omega⟩ (fun c95 => ?_) (fun c95 => ?_)
                            · skip
                              refine x_iload C dX9_hasBarre_125 rfl ?_
                              refine x_ifneB C (tgt := 132) dX9_hasBarre_127 (by decide) (fun c127 => ?_) (fun c127 => ?_)
                              · skip
                                skip
                                refine x_iload_n C dX9_hasBarre_132 rfl rfl ?_
                                refine x_istore_n C (ls' := [some (.ref a), some (vi (k : Int)), some (vi (k : Int)), none, some (vi (b2i y)), some (vi (j : Int))]) dX9_hasBarre_133 rfl (by decide) rfl ?_
                                refine x_iinc C (ls' := [some (.ref a), some (vi (k : Int)), some (vi ((k : Int) + 1)), none, some (vi (b2i y)), some (vi (j : Int))]) dX9_hasBarre_134 rfl (by decide) (z1 := ((k : Int) + 1)) rfl rfl ?_
                                refine x_goto C (tgt := 4) dX9_hasBarre_137 (by decide) ?_
                                refine X.sub (ls' := [some (.ref a), some (vi (k : Int)), some (vi ((k : Int) + 1)), none, none, none]) (sub_cons (Or.inr rfl) (sub_cons (Or.inr rfl) (sub_cons (Or.inr rfl) (sub_cons (Or.inl rfl) (sub_cons (Or.inl rfl) (sub_cons (Or.inl rfl) sub_nil)))))) ?_
                                exact ih_L4 (k + 1) (k : Int) (by omega) (by omega) (e4.symm) (by rw [e3]; exact hop) (fun q => by obtain ⟨o, o1, o2, o3⟩ := q2 c127; exact ⟨o, o1, o2, o3⟩)
                              · skip
                                refine x_iconst C dX9_hasBarre_130 ?_
                                exact x_zret C E rfl (by omega) (by omega) (z := true) dX9_hasBarre_131 (⟨by rw [hBar_yes (k := k) (by omega) hlk (by have := hz.1; omega) hop (fun o w1 w2 => by by_cases w : o < n; exact q3 c127 o w1 (by omega); exact fe_no (by omega))], rfl⟩)
                            · skip
                              refine x_iload C dX9_hasBarre_98 rfl ?_
                              refine x_aload_n C dX9_hasBarre_100 rfl rfl ?_
                              refine x_iload C dX9_hasBarre_101 rfl ?_
                              refine x_iald C hA ⟨by omega, by omega, by omega⟩ (v := (g j)) rfl dX9_hasBarre_103 ?_
                              refine x_aload_n C dX9_hasBarre_104 rfl rfl ?_
                              refine x_invS C s_Neck_108 (st := [vi (g j), vi (b2i y)]) (c_N_low hA hn hg) rfl rfl (Nat.le_of_ble_eq_true rfl) (xRm_of hR (by omega) (by decide) (by omega) (by omega)) dX9_hasBarre_105 (fun r9 h9 hq => ?_)
                              obtain ⟨rfl, e9⟩ := hq
                              have e9 := e9.symm
                              subst e9
                              refine x_icmp_ne C (tgt := 115) dX9_hasBarre_108 (by decide) (by have := hg j (by omega); exact ⟨by omega, by omega⟩) ⟨by omega, by omega⟩ (fun c108 => ?_) (fun c108 => ?_)
                              · skip
                                refine x_iconst C dX9_hasBarre_115 ?_
                                refine x_ior C (c := b2i (y || false)) dX9_hasBarre_116 (b2i_or y false) ?_
                                refine x_istore C (ls' := [some (.ref a), some (vi la), some (vi (k : Int)), none, some (vi (b2i (y || false))), some (vi (j : Int))]) dX9_hasBarre_117 (by decide) rfl ?_
                                refine x_iinc C (ls' := [some (.ref a), some (vi la), some (vi (k : Int)), none, some (vi (b2i (y || false))), some (vi ((j : Int) + 1))]) dX9_hasBarre_119 rfl (by decide) (z1 := ((j : Int) + 1)) rfl rfl ?_
                                refine x_goto C (tgt := 91) dX9_hasBarre_122 (by decide) ?_
                                have hjn := fe_i (g := g) (show j < n by omega)
                                exact ih_L91 (j + 1) (y || false) (by omega) (by omega) (fun q => q2 (by cases y <;> first | rfl | exact q)) (fun q o w1 w2 => by by_cases w : o = j; rw [w, hjn]; omega; exact q3 (by cases y <;> first | rfl | exact q) o w1 (by omega))
                              · skip
                                refine x_iconst C dX9_hasBarre_111 ?_
                                refine x_goto C (tgt := 116) dX9_hasBarre_112 (by decide) ?_
                                refine x_ior C (c := b2i (y || true)) dX9_hasBarre_116 (b2i_or y true) ?_
                                refine x_istore C (ls' := [some (.ref a), some (vi la), some (vi (k : Int)), none, some (vi (b2i (y || true))), some (vi (j : Int))]) dX9_hasBarre_117 (by decide) rfl ?_
                                refine x_iinc C (ls' := [some (.ref a), some (vi la), some (vi (k : Int)), none, some (vi (b2i (y || true))), some (vi ((j : Int) + 1))]) dX9_hasBarre_119 rfl (by decide) (z1 := ((j : Int) + 1)) rfl rfl ?_
                                refine x_goto C (tgt := 91) dX9_hasBarre_122 (by decide) ?_
                                have hjn := fe_i (g := g) (show j < n by omega)
                                exact ih_L91 (j + 1) (y || true) (by omega) (by omega) (fun _ => ⟨j, by omega, by omega, by rw [hjn]; omega⟩) (fun q => by cases y <;> cases q)
                        refine X.sub (ls' := [some (.ref a), some (vi la), some (vi (k : Int)), none, some (vi 0), some (vi ((k : Int) + 1))]) (sub_cons (Or.inr rfl) (sub_cons (Or.inr rfl) (sub_cons (Or.inr rfl) (sub_cons (Or.inl rfl) (sub_cons (Or.inr rfl) (sub_cons (Or.inr rfl) sub_nil)))))) ?_
                        exact L91 _ (k + 1) false (Nat.lt_succ_self _) (by omega) (fun q => absurd q (by decide)) (fun _ o w1 w2 => by omega)
                      · skip
                        exfalso; omega
                    · skip
                      have ho : (fb (fe g n) (hLow (fe g n)) k).2.1 = true := by have w := j2 (by omega); rw [show j = k by omega] at w; rw [← w]; exact c69
                      refine x_iconst C dX9_hasBarre_72 ?_
                      exact x_zret C E rfl (by omega) (by omega) (z := false) dX9_hasBarre_73 (⟨by rw [hBar_cut (k := k) (by omega) hlk ho], rfl⟩)
                · skip
                  refine x_iload_n C dX9_hasBarre_43 rfl rfl ?_
                  refine x_aload_n C dX9_hasBarre_44 rfl rfl ?_
                  refine x_iload C dX9_hasBarre_45 rfl ?_
                  refine x_iald C hA ⟨by omega, by omega, by omega⟩ (v := (g j)) rfl dX9_hasBarre_47 ?_
                  refine x_if_ne C (tgt := 55) dX9_hasBarre_48 (by decide) (by have := hg j (by omega); exact ⟨by omega, by omega⟩) (fun c48 => ?_) (fun c48 => ?_)
                  · skip
                    refine x_iconst C dX9_hasBarre_55 ?_
                    refine x_ior C (c := b2i (y || false)) dX9_hasBarre_56 (b2i_or y false) ?_
                    refine x_istore_n C (ls' := [some (.ref a), some (vi la), some (vi (k : Int)), some (vi (b2i (y || false))), some (vi (j : Int)), none]) dX9_hasBarre_57 rfl (by decide) rfl ?_
                    refine x_iinc C (ls' := [some (.ref a), some (vi la), some (vi (k : Int)), some (vi (b2i (y || false))), some (vi ((j : Int) + 1)), none]) dX9_hasBarre_58 rfl (by decide) (z1 := ((j : Int) + 1)) rfl rfl ?_
                    refine x_goto C (tgt := 37) dX9_hasBarre_61 (by decide) ?_
                    have hjn := fe_i (g := g) (show j < n by omega)
                    exact ih_L37 (j + 1) (y || false) (by omega) (by omega) (fun q => by obtain ⟨l, hl⟩ : ∃ l : Nat, (lst (fe g n) (hLow (fe g n)) k) = (l : Int) := ⟨la.toNat, by omega⟩; obtain ⟨a1, a2, -, a4⟩ := fb_l _ _ k l hl; have hnj := a4 j (by omega) (by omega); obtain ⟨-, b2, -⟩ := fb_0 (fe g n) (hLow (fe g n)) j hnj; have hzj := (fb_z (fe g n) (hLow (fe g n)) j).1; have hrj := (fb_rg (fe g n) (hLow (fe g n)) j).1; have hgj := lst_ge a2 j (by omega); rw [b2]; rw [if_neg (fun w => c48 (by rw [← hjn]; exact w.1)), ← j2 q]; cases y <;> rfl)
                  · skip
                    refine x_iconst C dX9_hasBarre_51 ?_
                    refine x_goto C (tgt := 56) dX9_hasBarre_52 (by decide) ?_
                    refine x_ior C (c := b2i (y || true)) dX9_hasBarre_56 (b2i_or y true) ?_
                    refine x_istore_n C (ls' := [some (.ref a), some (vi la), some (vi (k : Int)), some (vi (b2i (y || true))), some (vi (j : Int)), none]) dX9_hasBarre_57 rfl (by decide) rfl ?_
                    refine x_iinc C (ls' := [some (.ref a), some (vi la), some (vi (k : Int)), some (vi (b2i (y || true))), some (vi ((j : Int) + 1)), none]) dX9_hasBarre_58 rfl (by decide) (z1 := ((j : Int) + 1)) rfl rfl ?_
                    refine x_goto C (tgt := 37) dX9_hasBarre_61 (by decide) ?_
                    have hjn := fe_i (g := g) (show j < n by omega)
                    exact ih_L37 (j + 1) (y || true) (by omega) (by omega) (fun q => by obtain ⟨l, hl⟩ : ∃ l : Nat, (lst (fe g n) (hLow (fe g n)) k) = (l : Int) := ⟨la.toNat, by omega⟩; obtain ⟨a1, a2, -, a4⟩ := fb_l _ _ k l hl; have hnj := a4 j (by omega) (by omega); obtain ⟨-, b2, -⟩ := fb_0 (fe g n) (hLow (fe g n)) j hnj; have hzj := (fb_z (fe g n) (hLow (fe g n)) j).1; have hrj := (fb_rg (fe g n) (hLow (fe g n)) j).1; have hgj := lst_ge a2 j (by omega); rw [b2]; rw [if_pos ⟨by rw [hjn]; exact c48, by omega⟩]; cases y <;> rfl)
            exact L37 _ ((la + 1).toNat) false (Nat.lt_succ_self _) (by omega) (fun q => by obtain ⟨l, hl⟩ : ∃ l : Nat, (lst (fe g n) (hLow (fe g n)) k) = (l : Int) := ⟨la.toNat, by omega⟩; obtain ⟨-, -, a3, -⟩ := fb_l _ _ k l hl; rw [show (la + 1).toNat = l + 1 by omega, ← a3, i2])
          · skip
            skip
            refine x_goto C (tgt := 134) dX9_hasBarre_27 (by decide) ?_
            refine x_iinc C (ls' := [some (.ref a), some (vi la), some (vi ((k : Int) + 1)), none, none, none]) dX9_hasBarre_134 rfl (by decide) (z1 := ((k : Int) + 1)) rfl rfl ?_
            refine x_goto C (tgt := 4) dX9_hasBarre_137 (by decide) ?_
            have hnl : ¬ (0 < fe g n k ∧ fe g n k = hLow (fe g n)) := by rw [hfk]; omega
            obtain ⟨e1, e2, e3⟩ := fb_0 (fe g n) (hLow (fe g n)) k hnl
            have e4 : (lst (fe g n) (hLow (fe g n)) (k + 1)) = (lst (fe g n) (hLow (fe g n)) k) := if_neg hnl
            exact ih_L4 (k + 1) la (by omega) (by omega) (by rw [e4]; exact i0) (by rw [e3]; exact i2) (fun q => by rw [e1] at q; obtain ⟨o, o1, o2, o3⟩ := i3 q; refine ⟨o, ?_, o2, o3⟩; by_cases w : o = k; rw [w] at o3; exact absurd o3 hnl; omega)
  exact L4 _ 0 (-1) (Nat.lt_succ_self _) (Nat.zero_le _) (rfl) (rfl) (fun q => absurd q (by show ¬ 2 ≤ (0 : Int); decide))

/-- what is put down when the frets below fr are, and of fr the strings below k -/
def mdF (f : Nat → Int) (fr : Int) (k : Nat) (j : Nat) : Int := if 0 < f j ∧ (f j < fr ∨ f j = fr ∧ j < k) then hFin f j else 0
theorem mdF_n {f : Nat → Int} {fr : Int} {n j : Nat} (h : j < n) : mdF f fr n j = mdF f (fr + 1) 0 j := by
  unfold mdF
  by_cases c : 0 < f j ∧ (f j < fr ∨ f j = fr ∧ j < n)
  · rw [if_pos c, if_pos (by omega)]
  · rw [if_neg c, if_neg (by omega)]
theorem mdF_no {f : Nat → Int} {fr : Int} {k j : Nat} (h : ¬ f k = fr) : mdF f fr (k + 1) j = mdF f fr k j := by
  unfold mdF
  by_cases c : 0 < f j ∧ (f j < fr ∨ f j = fr ∧ j < k)
  · rw [if_pos c, if_pos (by omega)]
  · have : ¬ (0 < f j ∧ (f j < fr ∨ f j = fr ∧ j < k + 1)) := fun q => by
      by_cases e : j = k
      · subst e; omega
      · omega
    rw [if_neg c, if_neg this]
theorem mdF_at {f : Nat → Int} {fr : Int} {k j : Nat} (h : f k = fr) (hp : 0 < fr) : mdF f fr (k + 1) j = if j = k then hFin f k else mdF f fr k j := by
  unfold mdF
  by_cases e : j = k
  · subst e
    rw [if_pos rfl, if_pos (by omega)]
  · rw [if_neg e]
    by_cases c : 0 < f j ∧ (f j < fr ∨ f j = fr ∧ j < k)
    · rw [if_pos c, if_pos (by omega)]
    · rw [if_neg c, if_neg (by omega)]
theorem mdF_12 {f : Nat → Int} (hf : ∀ j, -1 ≤ f j ∧ f j ≤ 12) (j : Nat) : mdF f 13 0 j = hFin f j := by
  have := hf j
  unfold mdF
  by_cases c : 0 < f j
  · rw [if_pos ⟨c, by omega⟩]
  · rw [if_neg (fun q => c q.1)]
    unfold hFin
    exact (if_pos (by omega)).symm
theorem mdF_0 {f : Nat → Int} (j : Nat) : mdF f 1 0 j = 0 := by
  unfold mdF
  exact if_neg (by omega)
/-- the next finger within a fret -/
def nyF (f : Nat → Int) (fr : Int) (b : Bool) (k : Nat) : Int := if b = true then nxF f fr else nxF f fr + ceF f fr k
theorem nyF_rg {f : Nat → Int} {fr : Int} {b : Bool} {k : Nat} (hk : k ≤ 6) : -10 ≤ nyF f fr b k ∧ nyF f fr b k ≤ 16 := by
  have h1 := nxF_rg (f := f) fr
  have h2 := ceF_rg f fr k
  unfold nyF
  split <;> omega
theorem ceF_fe {g : Nat → Int} {n : Nat} (hn : n ≤ 6) {fr : Int} (h : 0 < fr) : ceF (fe g n) fr 6 = ceF (fe g n) fr n := by
  have e : ∀ d, ceF (fe g n) fr (n + d) = ceF (fe g n) fr n := fun d => by
    induction d with
    | zero => rfl
    | succ d ih =>
      show ceF (fe g n) fr (n + d) + (if fe g n (n + d) = fr then 1 else 0) = _
      rw [ih, fe_o (show n ≤ n + d by omega), if_neg (by omega)]
      omega
  have := e (6 - n)
  rw [show n + (6 - n) = 6 by omega] at this
  exact this
theorem nyF_n {g : Nat → Int} {n : Nat} (hn : n ≤ 6) {fr : Int} (h : 0 < fr) {b : Bool} (hb : b = true ↔ (hBar (fe g n) = true ∧ fr = hLow (fe g n))) : nxF (fe g n) (fr + 1) = if b = true then nyF (fe g n) fr b n + 1 else nyF (fe g n) fr b n := by
  rw [nxF_s h]
  unfold nyF
  by_cases c : b = true
  · rw [if_pos c, if_pos (hb.mp c)]
    simp only [c, if_true]
  · rw [if_neg c, if_neg (fun q => c (hb.mpr q)), if_neg c, ceF_fe hn h]
theorem nyF_z (f : Nat → Int) (fr : Int) (b : Bool) : nyF f fr b 0 = nxF f fr := by
  unfold nyF
  by_cases c : b = true
  · rw [if_pos c]
  · rw [if_neg c]
    exact Int.add_zero _
theorem nyF_no {f : Nat → Int} {fr : Int} {b : Bool} {k : Nat} (h : ¬ f k = fr) : nyF f fr b (k + 1) = nyF f fr b k := by
  have e : ceF f fr (k + 1) = ceF f fr k := by
    show ceF f fr k + (if f k = fr then 1 else 0) = _
    rw [if_neg h, Int.add_zero]
  unfold nyF
  rw [e]
theorem nyF_b {f : Nat → Int} {fr : Int} {b : Bool} {k : Nat} (h : b = true) : nyF f fr b (k + 1) = nyF f fr b k := by
  unfold nyF
  rw [if_pos h, if_pos h]
theorem nyF_a {f : Nat → Int} {fr : Int} {b : Bool} {k : Nat} (h : b = false) (hk : f k = fr) : nyF f fr b (k + 1) = nyF f fr b k + 1 := by
  unfold nyF
  rw [if_neg (by rw [h]; decide), if_neg (by rw [h]; decide)]
  show nxF f fr + (ceF f fr k + (if f k = fr then 1 else 0)) = _
  rw [if_pos hk]
  omega
theorem nyF_fin {f : Nat → Int} {fr : Int} {b : Bool} {k : Nat} (hk6 : k < 6) (hk : f k = fr) (hp : 0 < fr) (hb : b = true ↔ (hBar f = true ∧ fr = hLow f)) : hFin f k = nyF f fr b k := by
  subst hk
  rw [nxF_fin hk6 hp]
  unfold nyF
  by_cases c : b = true
  · rw [if_pos c, if_pos (hb.mp c)]
  · rw [if_neg c, if_neg (fun q => c (hb.mpr q))]
theorem nxF_1 (f : Nat → Int) (h : 0 ≤ hLow f) : nxF f 1 = 1 := by
  have e : ∀ k, clF f 1 k = 0 := fun k => by
    induction k with
    | zero => rfl
    | succ k ih =>
      show clF f 1 k + (if 0 < f k ∧ f k < 1 then 1 else 0) = 0
      rw [ih, if_neg (by omega)]
      rfl
  unfold nxF
  rw [e]
  by_cases c : hBar f = true ∧ hLow f < 1
  · exfalso
    have := hLow_bar c.1
    omega
  · rw [if_neg c]
    rfl

set_option maxRecDepth 100000 in
set_option maxHeartbeats 4000000 in
theorem c_N_fingers {G : xG} {h : PH} {a n : Nat} {g : Nat → Int} (hA : h a = xI G n g) (hn : n ≤ 6) (hg : ∀ j : Nat, j < n → -1 ≤ g j ∧ g j ≤ 12)  : Cn G m_Neck_fingers 3 1 6 [.ref a] h (fun r h' => ∃ q c, r = some (.ref q) ∧ h q = none ∧ h' = va_up h q (xI G n c) ∧ ∀ j, j < n → c j = hFin (fe g n) j) := by
  refine Cn_of (by decide) (Nat.le_of_ble_eq_true rfl) (fun K C hR E => ?_)
  have hf : ∀ j, -1 ≤ fe g n j ∧ fe g n j ≤ 12 := fe_rg hg
  have hf2 : ∀ j, fe g n j ≤ 12 := fun j => (hf j).2
  have hlr := hLow_rg (f := (fe g n)) hf2
  show X G K 6 0 [some (.ref a), none, none, none, none, none] [] h 0 0
  refine x_aload_n C dX9_fingers_0 rfl rfl ?_
  refine x_alen C (t := 0) rfl hA dX9_fingers_1 ?_
  refine x_newI C (n := ((n : Nat) : Int)) ⟨by omega, by omega⟩ arrayClass_int hR (by omega) (by omega) dX9_fingers_2 (fun q zq => ?_)
  have ne_a_q : a ≠ q := fun e => by rw [← e] at zq; exact absurd (zq.symm.trans hA) (by intro h9; cases h9)
  refine x_astore_n C (ls' := [some (.ref a), some (.ref q), none, none, none, none]) dX9_fingers_4 rfl (by decide) rfl ?_
  refine x_iconst C dX9_fingers_5 ?_
  refine x_re (b := (nxF (fe g n) (1 : Int))) ((nxF_1 (fe g n) hlr.1).symm) ?_
  refine x_istore_n C (ls' := [some (.ref a), some (.ref q), some (vi (nxF (fe g n) (1 : Int))), none, none, none]) dX9_fingers_6 rfl (by decide) rfl ?_
  refine x_iconst C dX9_fingers_7 ?_
  refine x_istore_n C (ls' := [some (.ref a), some (.ref q), some (vi (nxF (fe g n) (1 : Int))), some (vi 1), none, none]) dX9_fingers_8 rfl (by decide) rfl ?_
  have L9 : ∀ (n0 : Nat) (x : Nat) (md : Nat → Int), 13 - x < n0 → (1 ≤ x ∧ x ≤ 13) → (∀ j, j < n → md j = mdF (fe g n) (x : Int) 0 j) → X G K 6 9 [some (.ref a), some (.ref q), some (vi (nxF (fe g n) (x : Int))), some (vi (x : Int)), none, none] [] (va_up h q (xI G n md)) (0 + 1) (0 + n) := by
    intro n0
    induction n0 with
    | zero => intro x md hm; exact absurd hm (Nat.not_lt_zero _)
    | succ n0 ih_L9 =>
      intro x md hm i1 i2
      refine x_iload_n C dX9_fingers_9 rfl rfl ?_
      refine x_bipush C (z := 12) dX9_fingers_10 (by decide) ?_
      refine x_icmp_gt C (tgt := 91) dX9_fingers_12 (by decide) ⟨by omega, by omega⟩ (by decide) (fun c12 => ?_) (fun c12 => ?_)
      · skip
        refine x_aload_n C dX9_fingers_91 rfl rfl ?_
        exact x_aret C E rfl (by first | exact Or.inl ⟨_, rfl⟩ | exact Or.inr ⟨_, rfl⟩) (by omega) (by omega) dX9_fingers_92 (⟨q, md, rfl, zq, rfl, fun j hj => by rw [i2 j hj, show x = 13 by omega]; exact mdF_12 hf j⟩)
      · skip
        refine x_iload_n C dX9_fingers_15 rfl rfl ?_
        refine x_aload_n C dX9_fingers_16 rfl rfl ?_
        refine x_invS C s_Neck_108 (st := [vi (x : Int)]) (c_N_low ((up_n ne_a_q).trans hA) hn hg) rfl rfl (Nat.le_of_ble_eq_true rfl) (xRm_of hR (by omega) (by decide) (by omega) (by omega)) dX9_fingers_17 (fun r9 h9 hq => ?_)
        obtain ⟨rfl, e9⟩ := hq
        have e9 := e9.symm
        subst e9
        refine x_icmp_ne C (tgt := 34) dX9_fingers_20 (by decide) ⟨by omega, by omega⟩ ⟨by omega, by omega⟩ (fun c20 => ?_) (fun c20 => ?_)
        · skip
          skip
          refine x_iconst C dX9_fingers_34 ?_
          obtain ⟨ba, eba, hba⟩ : ∃ ba : Bool, ba = false ∧ (ba = true ↔ (hBar (fe g n) = true ∧ (x : Int) = hLow (fe g n))) := ⟨false, rfl, by exact ⟨fun q => (by cases q), fun q => absurd q.2 (by omega)⟩⟩
          rw [show (vi 0 : Value) = vi (b2i ba) by rw [eba]; rfl]
          skip
          refine x_istore C (ls' := [some (.ref a), some (.ref q), some (vi (nxF (fe g n) (x : Int))), some (vi (x : Int)), some (vi (b2i ba)), none]) dX9_fingers_35 (by decide) rfl ?_
          refine x_iconst C dX9_fingers_37 ?_
          rw [show (vi (nxF (fe g n) (x : Int)) : Value) = vi (nyF (fe g n) (x : Int) ba 0) from congrArg (fun z => vi z) ((nyF_z _ _ _).symm)]
          skip
          refine x_istore C (ls' := [some (.ref a), some (.ref q), some (vi (nyF (fe g n) (x : Int) ba 0)), some (vi (x : Int)), some (vi (b2i ba)), some (vi 0)]) dX9_fingers_38 (by decide) rfl ?_
          have L40 : ∀ (n0 : Nat) (k : Nat) (me : Nat → Int), n - k < n0 → (k ≤ n) → (∀ j, j < n → me j = mdF (fe g n) (x : Int) k j) → X G K 6 40 [some (.ref a), some (.ref q), some (vi (nyF (fe g n) (x : Int) ba k)), some (vi (x : Int)), some (vi (b2i ba)), some (vi (k : Int))] [] (va_up h q (xI G n me)) (0 + 1) (0 + n) := by
            intro n0
            induction n0 with
            | zero => intro k me hm; exact absurd hm (Nat.not_lt_zero _)
            | succ n0 ih_L40 =>
              intro k me hm j1 j2
              refine x_iload C dX9_fingers_40 rfl ?_
              refine x_aload_n C dX9_fingers_42 rfl rfl ?_
              refine x_alen C (t := 0) rfl ((up_n ne_a_q).trans hA) dX9_fingers_43 ?_
              refine x_icmp_ge C (tgt := 77) dX9_fingers_44 (by decide) ⟨by omega, by omega⟩ ⟨by omega, by omega⟩ (fun c44 => ?_) (fun c44 => ?_)
              · skip
                have hkn : k = n := by omega
                have hny : nxF (fe g n) ((x : Int) + 1) = if ba = true then nyF (fe g n) (x : Int) ba k + 1 else nyF (fe g n) (x : Int) ba k := by have w := nyF_n (g := g) hn (show (0 : Int) < (x : Int) by omega) hba; rw [hkn]; exact w
                refine x_iload C dX9_fingers_77 rfl ?_
                refine x_ifeqB C (tgt := 85) dX9_fingers_79 (by decide) (fun c79 => ?_) (fun c79 => ?_)
                · skip
                  rw [show (vi (nyF (fe g n) (x : Int) ba k) : Value) = vi (nxF (fe g n) ((x : Int) + 1)) from congrArg (fun z => vi z) (by rw [hny, if_neg (by rw [c79]; decide)])]
                  skip
                  refine x_iinc C (ls' := [some (.ref a), some (.ref q), some (vi (nxF (fe g n) ((x : Int) + 1))), some (vi ((x : Int) + 1)), some (vi (b2i ba)), some (vi (k : Int))]) dX9_fingers_85 rfl (by decide) (z1 := ((x : Int) + 1)) rfl rfl ?_
                  refine x_goto C (tgt := 9) dX9_fingers_88 (by decide) ?_
                  refine X.sub (ls' := [some (.ref a), some (.ref q), some (vi (nxF (fe g n) ((x : Int) + 1))), some (vi ((x : Int) + 1)), none, none]) (sub_cons (Or.inr rfl) (sub_cons (Or.inr rfl) (sub_cons (Or.inr rfl) (sub_cons (Or.inr rfl) (sub_cons (Or.inl rfl) (sub_cons (Or.inl rfl) sub_nil)))))) ?_
                  exact ih_L9 (x + 1) me (by omega) (by omega) (fun j hj => (j2 j hj).trans (by rw [hkn]; exact mdF_n hj))
                · skip
                  refine x_iinc C (ls' := [some (.ref a), some (.ref q), some (vi (nxF (fe g n) ((x : Int) + 1))), some (vi (x : Int)), some (vi (b2i ba)), some (vi (k : Int))]) dX9_fingers_82 rfl (by decide) (z1 := (nxF (fe g n) ((x : Int) + 1))) (by rw [hny, if_pos c79]) rfl ?_
                  skip
                  refine x_iinc C (ls' := [some (.ref a), some (.ref q), some (vi (nxF (fe g n) ((x : Int) + 1))), some (vi ((x : Int) + 1)), some (vi (b2i ba)), some (vi (k : Int))]) dX9_fingers_85 rfl (by decide) (z1 := ((x : Int) + 1)) rfl rfl ?_
                  refine x_goto C (tgt := 9) dX9_fingers_88 (by decide) ?_
                  refine X.sub (ls' := [some (.ref a), some (.ref q), some (vi (nxF (fe g n) ((x : Int) + 1))), some (vi ((x : Int) + 1)), none, none]) (sub_cons (Or.inr rfl) (sub_cons (Or.inr rfl) (sub_cons (Or.inr rfl) (sub_cons (Or.inr rfl) (sub_cons (Or.inl rfl) (sub_cons (Or.inl rfl) sub_nil)))))) ?_
                  exact ih_L9 (x + 1) me (by omega) (by omega) (fun j hj => (j2 j hj).trans (by rw [hkn]; exact mdF_n hj))
              · skip
                refine x_aload_n C dX9_fingers_47 rfl rfl ?_
                refine x_iload C dX9_fingers_48 rfl ?_
                refine x_iald C ((up_n ne_a_q).trans hA) ⟨by omega, by omega, by omega⟩ (v := (g k)) rfl dX9_fingers_50 ?_
                refine x_iload_n C dX9_fingers_51 rfl rfl ?_
                have hgk := fe_i (g := g) (show k < n by omega)
                refine x_icmp_eq C (tgt := 58) dX9_fingers_52 (by decide) (by have := hg k (by omega); exact ⟨by omega, by omega⟩) ⟨by omega, by omega⟩ (fun c52 => ?_) (fun c52 => ?_)
                · skip
                  refine x_aload_n C dX9_fingers_58 rfl rfl ?_
                  refine x_iload C dX9_fingers_59 rfl ?_
                  refine x_iload_n C dX9_fingers_61 rfl rfl ?_
                  refine x_iast C up_s ⟨by omega, by omega, by omega⟩ (h1 := (va_up h q (xI G n (va_up me k (nyF (fe g n) (x : Int) ba k))))) (up_u _ _ _ _) dX9_fingers_62 ?_
                  refine x_iload C dX9_fingers_63 rfl ?_
                  refine x_ifneB C (tgt := 71) dX9_fingers_65 (by decide) (fun c65 => ?_) (fun c65 => ?_)
                  · skip
                    have hkk : k < n := by omega
                    rw [show (vi (nyF (fe g n) (x : Int) ba k) : Value) = vi (nyF (fe g n) (x : Int) ba (k + 1)) from congrArg (fun z => vi z) ((nyF_b c65).symm)]
                    skip
                    refine x_iinc C (ls' := [some (.ref a), some (.ref q), some (vi (nyF (fe g n) (x : Int) ba (k + 1))), some (vi (x : Int)), some (vi (b2i ba)), some (vi ((k : Int) + 1))]) dX9_fingers_71 rfl (by decide) (z1 := ((k : Int) + 1)) rfl rfl ?_
                    refine x_goto C (tgt := 40) dX9_fingers_74 (by decide) ?_
                    exact ih_L40 (k + 1) (va_up me k (nyF (fe g n) (x : Int) ba k)) (by omega) (by omega) (fun j hj => by rw [mdF_at (k := k) (by omega) (by omega)]; show (if j = k then _ else me j) = _; by_cases w : j = k; rw [if_pos w, if_pos w]; exact (nyF_fin (by omega) (by omega) (by omega) hba).symm; rw [if_neg w, if_neg w]; exact j2 j hj)
                  · skip
                    refine x_iinc C (ls' := [some (.ref a), some (.ref q), some (vi (nyF (fe g n) (x : Int) ba (k + 1))), some (vi (x : Int)), some (vi (b2i ba)), some (vi (k : Int))]) dX9_fingers_68 rfl (by decide) (z1 := (nyF (fe g n) (x : Int) ba (k + 1))) ((nyF_a c65 (by omega)).symm) rfl ?_
                    have hkk : k < n := by omega
                    skip
                    refine x_iinc C (ls' := [some (.ref a), some (.ref q), some (vi (nyF (fe g n) (x : Int) ba (k + 1))), some (vi (x : Int)), some (vi (b2i ba)), some (vi ((k : Int) + 1))]) dX9_fingers_71 rfl (by decide) (z1 := ((k : Int) + 1)) rfl rfl ?_
                    refine x_goto C (tgt := 40) dX9_fingers_74 (by decide) ?_
                    exact ih_L40 (k + 1) (va_up me k (nyF (fe g n) (x : Int) ba k)) (by omega) (by omega) (fun j hj => by rw [mdF_at (k := k) (by omega) (by omega)]; show (if j = k then _ else me j) = _; by_cases w : j = k; rw [if_pos w, if_pos w]; exact (nyF_fin (by omega) (by omega) (by omega) hba).symm; rw [if_neg w, if_neg w]; exact j2 j hj)
                · skip
                  refine x_goto C (tgt := 71) dX9_fingers_55 (by decide) ?_
                  have hkk : k < n := by omega
                  rw [show (vi (nyF (fe g n) (x : Int) ba k) : Value) = vi (nyF (fe g n) (x : Int) ba (k + 1)) from congrArg (fun z => vi z) ((nyF_no (by omega)).symm)]
                  skip
                  refine x_iinc C (ls' := [some (.ref a), some (.ref q), some (vi (nyF (fe g n) (x : Int) ba (k + 1))), some (vi (x : Int)), some (vi (b2i ba)), some (vi ((k : Int) + 1))]) dX9_fingers_71 rfl (by decide) (z1 := ((k : Int) + 1)) rfl rfl ?_
                  refine x_goto C (tgt := 40) dX9_fingers_74 (by decide) ?_
                  exact ih_L40 (k + 1) me (by omega) (by omega) (fun j hj => (j2 j hj).trans (mdF_no (by omega)).symm)
          exact L40 _ 0 md (Nat.lt_succ_self _) (by omega) (i2)
        · skip
          skip
          refine x_aload_n C dX9_fingers_23 rfl rfl ?_
          refine x_invS C s_Neck_112 (st := []) (c_N_hasBarre ((up_n ne_a_q).trans hA) hn hg) rfl rfl (Nat.le_of_ble_eq_true rfl) (xRm_of hR (by omega) (by decide) (by omega) (by omega)) dX9_fingers_24 (fun r9 h9 hq => ?_)
          obtain ⟨rfl, e9⟩ := hq
          have e9 := e9.symm
          subst e9
          refine x_ifeqB C (tgt := 34) dX9_fingers_27 (by decide) (fun c27 => ?_) (fun c27 => ?_)
          · skip
            skip
            refine x_iconst C dX9_fingers_34 ?_
            obtain ⟨ba, eba, hba⟩ : ∃ ba : Bool, ba = false ∧ (ba = true ↔ (hBar (fe g n) = true ∧ (x : Int) = hLow (fe g n))) := ⟨false, rfl, by exact ⟨fun q => (by cases q), fun q => by rw [q.1] at c27; cases c27⟩⟩
            rw [show (vi 0 : Value) = vi (b2i ba) by rw [eba]; rfl]
            skip
            refine x_istore C (ls' := [some (.ref a), some (.ref q), some (vi (nxF (fe g n) (x : Int))), some (vi (x : Int)), some (vi (b2i ba)), none]) dX9_fingers_35 (by decide) rfl ?_
            refine x_iconst C dX9_fingers_37 ?_
            rw [show (vi (nxF (fe g n) (x : Int)) : Value) = vi (nyF (fe g n) (x : Int) ba 0) from congrArg (fun z => vi z) ((nyF_z _ _ _).symm)]
            skip
            refine x_istore C (ls' := [some (.ref a), some (.ref q), some (vi (nyF (fe g n) (x : Int) ba 0)), some (vi (x : Int)), some (vi (b2i ba)), some (vi 0)]) dX9_fingers_38 (by decide) rfl ?_
            have L40 : ∀ (n0 : Nat) (k : Nat) (me : Nat → Int), n - k < n0 → (k ≤ n) → (∀ j, j < n → me j = mdF (fe g n) (x : Int) k j) → X G K 6 40 [some (.ref a), some (.ref q), some (vi (nyF (fe g n) (x : Int) ba k)), some (vi (x : Int)), some (vi (b2i ba)), some (vi (k : Int))] [] (va_up h q (xI G n me)) (0 + 1) (0 + n) := by
              intro n0
              induction n0 with
              | zero => intro k me hm; exact absurd hm (Nat.not_lt_zero _)
              | succ n0 ih_L40 =>
                intro k me hm j1 j2
                refine x_iload C dX9_fingers_40 rfl ?_
                refine x_aload_n C dX9_fingers_42 rfl rfl ?_
                refine x_alen C (t := 0) rfl ((up_n ne_a_q).trans hA) dX9_fingers_43 ?_
                refine x_icmp_ge C (tgt := 77) dX9_fingers_44 (by decide) ⟨by omega, by omega⟩ ⟨by omega, by omega⟩ (fun c44 => ?_) (fun c44 => ?_)
                · skip
                  have hkn : k = n := by omega
                  have hny : nxF (fe g n) ((x : Int) + 1) = if ba = true then nyF (fe g n) (x : Int) ba k + 1 else nyF (fe g n) (x : Int) ba k := by have w := nyF_n (g := g) hn (show (0 : Int) < (x : Int) by omega) hba; rw [hkn]; exact w
                  refine x_iload C dX9_fingers_77 rfl ?_
                  refine x_ifeqB C (tgt := 85) dX9_fingers_79 (by decide) (fun c79 => ?_) (fun c79 => ?_)
                  · skip
                    rw [show (vi (nyF (fe g n) (x : Int) ba k) : Value) = vi (nxF (fe g n) ((x : Int) + 1)) from congrArg (fun z => vi z) (by rw [hny, if_neg (by rw [c79]; decide)])]
                    skip
                    refine x_iinc C (ls' := [some (.ref a), some (.ref q), some (vi (nxF (fe g n) ((x : Int) + 1))), some (vi ((x : Int) + 1)), some (vi (b2i ba)), some (vi (k : Int))]) dX9_fingers_85 rfl (by decide) (z1 := ((x : Int) + 1)) rfl rfl ?_
                    refine x_goto C (tgt := 9) dX9_fingers_88 (by decide) ?_
                    refine X.sub (ls' := [some (.ref a), some (.ref q), some (vi (nxF (fe g n) ((x : Int) + 1))), some (vi ((x : Int) + 1)), none, none]) (sub_cons (Or.inr rfl) (sub_cons (Or.inr rfl) (sub_cons (Or.inr rfl) (sub_cons (Or.inr rfl) (sub_cons (Or.inl rfl) (sub_cons (Or.inl rfl) sub_nil)))))) ?_
                    exact ih_L9 (x + 1) me (by omega) (by omega) (fun j hj => (j2 j hj).trans (by rw [hkn]; exact mdF_n hj))
                  · skip
                    refine x_iinc C (ls' := [some (.ref a), some (.ref q), some (vi (nxF (fe g n) ((x : Int) + 1))), some (vi (x : Int)), some (vi (b2i ba)), some (vi (k : Int))]) dX9_fingers_82 rfl (by decide) (z1 := (nxF (fe g n) ((x : Int) + 1))) (by rw [hny, if_pos c79]) rfl ?_
                    skip
                    refine x_iinc C (ls' := [some (.ref a), some (.ref q), some (vi (nxF (fe g n) ((x : Int) + 1))), some (vi ((x : Int) + 1)), some (vi (b2i ba)), some (vi (k : Int))]) dX9_fingers_85 rfl (by decide) (z1 := ((x : Int) + 1)) rfl rfl ?_
                    refine x_goto C (tgt := 9) dX9_fingers_88 (by decide) ?_
                    refine X.sub (ls' := [some (.ref a), some (.ref q), some (vi (nxF (fe g n) ((x : Int) + 1))), some (vi ((x : Int) + 1)), none, none]) (sub_cons (Or.inr rfl) (sub_cons (Or.inr rfl) (sub_cons (Or.inr rfl) (sub_cons (Or.inr rfl) (sub_cons (Or.inl rfl) (sub_cons (Or.inl rfl) sub_nil)))))) ?_
                    exact ih_L9 (x + 1) me (by omega) (by omega) (fun j hj => (j2 j hj).trans (by rw [hkn]; exact mdF_n hj))
                · skip
                  refine x_aload_n C dX9_fingers_47 rfl rfl ?_
                  refine x_iload C dX9_fingers_48 rfl ?_
                  refine x_iald C ((up_n ne_a_q).trans hA) ⟨by omega, by omega, by omega⟩ (v := (g k)) rfl dX9_fingers_50 ?_
                  refine x_iload_n C dX9_fingers_51 rfl rfl ?_
                  have hgk := fe_i (g := g) (show k < n by omega)
                  refine x_icmp_eq C (tgt := 58) dX9_fingers_52 (by decide) (by have := hg k (by omega); exact ⟨by omega, by omega⟩) ⟨by omega, by omega⟩ (fun c52 => ?_) (fun c52 => ?_)
                  · skip
                    refine x_aload_n C dX9_fingers_58 rfl rfl ?_
                    refine x_iload C dX9_fingers_59 rfl ?_
                    refine x_iload_n C dX9_fingers_61 rfl rfl ?_
                    refine x_iast C up_s ⟨by omega, by omega, by omega⟩ (h1 := (va_up h q (xI G n (va_up me k (nyF (fe g n) (x : Int) ba k))))) (up_u _ _ _ _) dX9_fingers_62 ?_
                    refine x_iload C dX9_fingers_63 rfl ?_
                    refine x_ifneB C (tgt := 71) dX9_fingers_65 (by decide) (fun c65 => ?_) (fun c65 => ?_)
                    · skip
                      have hkk : k < n := by omega
                      rw [show (vi (nyF (fe g n) (x : Int) ba k) : Value) = vi (nyF (fe g n) (x : Int) ba (k + 1)) from congrArg (fun z => vi z) ((nyF_b c65).symm)]
                      skip
                      refine x_iinc C (ls' := [some (.ref a), some (.ref q), some (vi (nyF (fe g n) (x : Int) ba (k + 1))), some (vi (x : Int)), some (vi (b2i ba)), some (vi ((k : Int) + 1))]) dX9_fingers_71 rfl (by decide) (z1 := ((k : Int) + 1)) rfl rfl ?_
                      refine x_goto C (tgt := 40) dX9_fingers_74 (by decide) ?_
                      exact ih_L40 (k + 1) (va_up me k (nyF (fe g n) (x : Int) ba k)) (by omega) (by omega) (fun j hj => by rw [mdF_at (k := k) (by omega) (by omega)]; show (if j = k then _ else me j) = _; by_cases w : j = k; rw [if_pos w, if_pos w]; exact (nyF_fin (by omega) (by omega) (by omega) hba).symm; rw [if_neg w, if_neg w]; exact j2 j hj)
                    · skip
                      refine x_iinc C (ls' := [some (.ref a), some (.ref q), some (vi (nyF (fe g n) (x : Int) ba (k + 1))), some (vi (x : Int)), some (vi (b2i ba)), some (vi (k : Int))]) dX9_fingers_68 rfl (by decide) (z1 := (nyF (fe g n) (x : Int) ba (k + 1))) ((nyF_a c65 (by omega)).symm) rfl ?_
                      have hkk : k < n := by omega
                      skip
                      refine x_iinc C (ls' := [some (.ref a), some (.ref q), some (vi (nyF (fe g n) (x : Int) ba (k + 1))), some (vi (x : Int)), some (vi (b2i ba)), some (vi ((k : Int) + 1))]) dX9_fingers_71 rfl (by decide) (z1 := ((k : Int) + 1)) rfl rfl ?_
                      refine x_goto C (tgt := 40) dX9_fingers_74 (by decide) ?_
                      exact ih_L40 (k + 1) (va_up me k (nyF (fe g n) (x : Int) ba k)) (by omega) (by omega) (fun j hj => by rw [mdF_at (k := k) (by omega) (by omega)]; show (if j = k then _ else me j) = _; by_cases w : j = k; rw [if_pos w, if_pos w]; exact (nyF_fin (by omega) (by omega) (by omega) hba).symm; rw [if_neg w, if_neg w]; exact j2 j hj)
                  · skip
                    refine x_goto C (tgt := 71) dX9_fingers_55 (by decide) ?_
                    have hkk : k < n := by omega
                    rw [show (vi (nyF (fe g n) (x : Int) ba k) : Value) = vi (nyF (fe g n) (x : Int) ba (k + 1)) from congrArg (fun z => vi z) ((nyF_no (by omega)).symm)]
                    skip
                    refine x_iinc C (ls' := [some (.ref a), some (.ref q), some (vi (nyF (fe g n) (x : Int) ba (k + 1))), some (vi (x : Int)), some (vi (b2i ba)), some (vi ((k : Int) + 1))]) dX9_fingers_71 rfl (by decide) (z1 := ((k : Int) + 1)) rfl rfl ?_
                    refine x_goto C (tgt := 40) dX9_fingers_74 (by decide) ?_
                    exact ih_L40 (k + 1) me (by omega) (by omega) (fun j hj => (j2 j hj).trans (mdF_no (by omega)).symm)
            exact L40 _ 0 md (Nat.lt_succ_self _) (by omega) (i2)
          · skip
            refine x_iconst C dX9_fingers_30 ?_
            refine x_goto C (tgt := 35) dX9_fingers_31 (by decide) ?_
            obtain ⟨ba, eba, hba⟩ : ∃ ba : Bool, ba = true ∧ (ba = true ↔ (hBar (fe g n) = true ∧ (x : Int) = hLow (fe g n))) := ⟨true, rfl, by exact ⟨fun _ => ⟨c27, by omega⟩, fun _ => rfl⟩⟩
            rw [show (vi 1 : Value) = vi (b2i ba) by rw [eba]; rfl]
            skip
            refine x_istore C (ls' := [some (.ref a), some (.ref q), some (vi (nxF (fe g n) (x : Int))), some (vi (x : Int)), some (vi (b2i ba)), none]) dX9_fingers_35 (by decide) rfl ?_
            refine x_iconst C dX9_fingers_37 ?_
            rw [show (vi (nxF (fe g n) (x : Int)) : Value) = vi (nyF (fe g n) (x : Int) ba 0) from congrArg (fun z => vi z) ((nyF_z _ _ _).symm)]
            skip
            refine x_istore C (ls' := [some (.ref a), some (.ref q), some (vi (nyF (fe g n) (x : Int) ba 0)), some (vi (x : Int)), some (vi (b2i ba)), some (vi 0)]) dX9_fingers_38 (by decide) rfl ?_
            have L40 : ∀ (n0 : Nat) (k : Nat) (me : Nat → Int), n - k < n0 → (k ≤ n) → (∀ j, j < n → me j = mdF (fe g n) (x : Int) k j) → X G K 6 40 [some (.ref a), some (.ref q), some (vi (nyF (fe g n) (x : Int) ba k)), some (vi (x : Int)), some (vi (b2i ba)), some (vi (k : Int))] [] (va_up h q (xI G n me)) (0 + 1) (0 + n) := by
              intro n0
              induction n0 with
              | zero => intro k me hm; exact absurd hm (Nat.not_lt_zero _)
              | succ n0 ih_L40 =>
                intro k me hm j1 j2
                refine x_iload C dX9_fingers_40 rfl ?_
                refine x_aload_n C dX9_fingers_42 rfl rfl ?_
                refine x_alen C (t := 0) rfl ((up_n ne_a_q).trans hA) dX9_fingers_43 ?_
                refine x_icmp_ge C (tgt := 77) dX9_fingers_44 (by decide) ⟨by omega, by omega⟩ ⟨by omega, by omega⟩ (fun c44 => ?_) (fun c44 => ?_)
                · skip
                  have hkn : k = n := by omega
                  have hny : nxF (fe g n) ((x : Int) + 1) = if ba = true then nyF (fe g n) (x : Int) ba k + 1 else nyF (fe g n) (x : Int) ba k := by have w := nyF_n (g := g) hn (show (0 : Int) < (x : Int) by omega) hba; rw [hkn]; exact w
                  refine x_iload C dX9_fingers_77 rfl ?_
                  refine x_ifeqB C (tgt := 85) dX9_fingers_79 (by decide) (fun c79 => ?_) (fun c79 => ?_)
                  · skip
                    rw [show (vi (nyF (fe g n) (x : Int) ba k) : Value) = vi (nxF (fe g n) ((x : Int) + 1)) from congrArg (fun z => vi z) (by rw [hny, if_neg (by rw [c79]; decide)])]
                    skip
                    refine x_iinc C (ls' := [some (.ref a), some (.ref q), some (vi (nxF (fe g n) ((x : Int) + 1))), some (vi ((x : Int) + 1)), some (vi (b2i ba)), some (vi (k : Int))]) dX9_fingers_85 rfl (by decide) (z1 := ((x : Int) + 1)) rfl rfl ?_
                    refine x_goto C (tgt := 9) dX9_fingers_88 (by decide) ?_
                    refine X.sub (ls' := [some (.ref a), some (.ref q), some (vi (nxF (fe g n) ((x : Int) + 1))), some (vi ((x : Int) + 1)), none, none]) (sub_cons (Or.inr rfl) (sub_cons (Or.inr rfl) (sub_cons (Or.inr rfl) (sub_cons (Or.inr rfl) (sub_cons (Or.inl rfl) (sub_cons (Or.inl rfl) sub_nil)))))) ?_
                    exact ih_L9 (x + 1) me (by omega) (by omega) (fun j hj => (j2 j hj).trans (by rw [hkn]; exact mdF_n hj))
                  · skip
                    refine x_iinc C (ls' := [some (.ref a), some (.ref q), some (vi (nxF (fe g n) ((x : Int) + 1))), some (vi (x : Int)), some (vi (b2i ba)), some (vi (k : Int))]) dX9_fingers_82 rfl (by decide) (z1 := (nxF (fe g n) ((x : Int) + 1))) (by rw [hny, if_pos c79]) rfl ?_
                    skip
                    refine x_iinc C (ls' := [some (.ref a), some (.ref q), some (vi (nxF (fe g n) ((x : Int) + 1))), some (vi ((x : Int) + 1)), some (vi (b2i ba)), some (vi (k : Int))]) dX9_fingers_85 rfl (by decide) (z1 := ((x : Int) + 1)) rfl rfl ?_
                    refine x_goto C (tgt := 9) dX9_fingers_88 (by decide) ?_
                    refine X.sub (ls' := [some (.ref a), some (.ref q), some (vi (nxF (fe g n) ((x : Int) + 1))), some (vi ((x : Int) + 1)), none, none]) (sub_cons (Or.inr rfl) (sub_cons (Or.inr rfl) (sub_cons (Or.inr rfl) (sub_cons (Or.inr rfl) (sub_cons (Or.inl rfl) (sub_cons (Or.inl rfl) sub_nil)))))) ?_
                    exact ih_L9 (x + 1) me (by omega) (by omega) (fun j hj => (j2 j hj).trans (by rw [hkn]; exact mdF_n hj))
                · skip
                  refine x_aload_n C dX9_fingers_47 rfl rfl ?_
                  refine x_iload C dX9_fingers_48 rfl ?_
                  refine x_iald C ((up_n ne_a_q).trans hA) ⟨by omega, by omega, by omega⟩ (v := (g k)) rfl dX9_fingers_50 ?_
                  refine x_iload_n C dX9_fingers_51 rfl rfl ?_
                  have hgk := fe_i (g := g) (show k < n by omega)
                  refine x_icmp_eq C (tgt := 58) dX9_fingers_52 (by decide) (by have := hg k (by omega); exact ⟨by omega, by omega⟩) ⟨by omega, by omega⟩ (fun c52 => ?_) (fun c52 => ?_)
                  · skip
                    refine x_aload_n C dX9_fingers_58 rfl rfl ?_
                    refine x_iload C dX9_fingers_59 rfl ?_
                    refine x_iload_n C dX9_fingers_61 rfl rfl ?_
                    refine x_iast C up_s ⟨by omega, by omega, by omega⟩ (h1 := (va_up h q (xI G n (va_up me k (nyF (fe g n) (x : Int) ba k))))) (up_u _ _ _ _) dX9_fingers_62 ?_
                    refine x_iload C dX9_fingers_63 rfl ?_
                    refine x_ifneB C (tgt := 71) dX9_fingers_65 (by decide) (fun c65 => ?_) (fun c65 => ?_)
                    · skip
                      have hkk : k < n := by omega
                      rw [show (vi (nyF (fe g n) (x : Int) ba k) : Value) = vi (nyF (fe g n) (x : Int) ba (k + 1)) from congrArg (fun z => vi z) ((nyF_b c65).symm)]
                      skip
                      refine x_iinc C (ls' := [some (.ref a), some (.ref q), some (vi (nyF (fe g n) (x : Int) ba (k + 1))), some (vi (x : Int)), some (vi (b2i ba)), some (vi ((k : Int) + 1))]) dX9_fingers_71 rfl (by decide) (z1 := ((k : Int) + 1)) rfl rfl ?_
                      refine x_goto C (tgt := 40) dX9_fingers_74 (by decide) ?_
                      exact ih_L40 (k + 1) (va_up me k (nyF (fe g n) (x : Int) ba k)) (by omega) (by omega) (fun j hj => by rw [mdF_at (k := k) (by omega) (by omega)]; show (if j = k then _ else me j) = _; by_cases w : j = k; rw [if_pos w, if_pos w]; exact (nyF_fin (by omega) (by omega) (by omega) hba).symm; rw [if_neg w, if_neg w]; exact j2 j hj)
                    · skip
                      refine x_iinc C (ls' := [some (.ref a), some (.ref q), some (vi (nyF (fe g n) (x : Int) ba (k + 1))), some (vi (x : Int)), some (vi (b2i ba)), some (vi (k : Int))]) dX9_fingers_68 rfl (by decide) (z1 := (nyF (fe g n) (x : Int) ba (k + 1))) ((nyF_a c65 (by omega)).symm) rfl ?_
                      have hkk : k < n := by omega
                      skip
                      refine x_iinc C (ls' := [some (.ref a), some (.ref q), some (vi (nyF (fe g n) (x : Int) ba (k + 1))), some (vi (x : Int)), some (vi (b2i ba)), some (vi ((k : Int) + 1))]) dX9_fingers_71 rfl (by decide) (z1 := ((k : Int) + 1)) rfl rfl ?_
                      refine x_goto C (tgt := 40) dX9_fingers_74 (by decide) ?_
                      exact ih_L40 (k + 1) (va_up me k (nyF (fe g n) (x : Int) ba k)) (by omega) (by omega) (fun j hj => by rw [mdF_at (k := k) (by omega) (by omega)]; show (if j = k then _ else me j) = _; by_cases w : j = k; rw [if_pos w, if_pos w]; exact (nyF_fin (by omega) (by omega) (by omega) hba).symm; rw [if_neg w, if_neg w]; exact j2 j hj)
                  · skip
                    refine x_goto C (tgt := 71) dX9_fingers_55 (by decide) ?_
                    have hkk : k < n := by omega
                    rw [show (vi (nyF (fe g n) (x : Int) ba k) : Value) = vi (nyF (fe g n) (x : Int) ba (k + 1)) from congrArg (fun z => vi z) ((nyF_no (by omega)).symm)]
                    skip
                    refine x_iinc C (ls' := [some (.ref a), some (.ref q), some (vi (nyF (fe g n) (x : Int) ba (k + 1))), some (vi (x : Int)), some (vi (b2i ba)), some (vi ((k : Int) + 1))]) dX9_fingers_71 rfl (by decide) (z1 := ((k : Int) + 1)) rfl rfl ?_
                    refine x_goto C (tgt := 40) dX9_fingers_74 (by decide) ?_
                    exact ih_L40 (k + 1) me (by omega) (by omega) (fun j hj => (j2 j hj).trans (mdF_no (by omega)).symm)
            exact L40 _ 0 md (Nat.lt_succ_self _) (by omega) (i2)
  exact L9 _ 1 (fun _ => 0) (Nat.lt_succ_self _) (by omega) (fun j hj => (mdF_0 j).symm)
