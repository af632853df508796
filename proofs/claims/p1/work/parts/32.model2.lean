/-! The reference at its start: chord, the constructor; the class's mean effort. -/
abbrev g4 (a b c d : Int) : Nat → Int := va_up (va_up (va_up (va_up (fun _ => 0) 0 a) 1 b) 2 c) 3 d
theorem g4_bd {a b c d : Int} (ha : bd a) (hb : bd b) (hc : bd c) (hd : bd d) (j : Nat) : bd (g4 a b c d j) := by
  unfold g4 va_up
  split
  · exact hd
  · split
    · exact hc
    · split
      · exact hb
      · split
        · exact ha
        · exact bd_0
def okI (g : Nat → Int) (z : Bool) (k : Nat) : Nat → Bool
  | 0 => z
  | j + 1 => okI g z k j && decide (g k = -1 ∨ g j ≠ g k)
def okO (g : Nat → Int) (z : Bool) : Nat → Bool
  | 0 => z
  | k + 1 => okI g (okO g z k && decide (-1 ≤ g k ∧ g k ≤ 80)) k k
def cnt (g : Nat → Int) : Nat → Nat
  | 0 => 0
  | k + 1 => cnt g k + (if g k = -1 then 0 else 1)
theorem cnt_le (g : Nat → Int) : ∀ k, cnt g k ≤ k
  | 0 => Nat.le_refl _
  | k + 1 => by
    have := cnt_le g k
    unfold cnt
    split <;> omega
theorem cnt_up (g : Nat → Int) (i : Nat) : ∀ k, cnt g i ≤ cnt g (i + k)
  | 0 => Nat.le_refl _
  | k + 1 => by
    have := cnt_up g i k
    show _ ≤ cnt g (i + k) + _
    omega
theorem cnt_1 {g : Nat → Int} {k : Nat} (h : ¬ g k = -1) : cnt g (k + 1) = cnt g k + 1 := by show cnt g k + (if g k = -1 then 0 else 1) = _; rw [if_neg h]
theorem cnt_0 {g : Nat → Int} {k : Nat} (h : g k = -1) : cnt g (k + 1) = cnt g k := by show cnt g k + (if g k = -1 then 0 else 1) = _; rw [if_pos h]; rfl
theorem b2i_and (p q : Bool) : I (b2i p) &&& I (b2i q) = I (b2i (p && q)) := by cases p <;> cases q <;> decide
theorem okI_s {g : Nat → Int} {z y : Bool} {k j : Nat} {t : Bool} (h : y = okI g z k j) (ht : decide (g k = -1 ∨ g j ≠ g k) = t) : (y && t) = okI g z k (j + 1) := by rw [h, ← ht]; rfl

set_option maxRecDepth 100000 in
set_option maxHeartbeats 4000000 in
theorem c_Mo_chord_ok {G : xG} {h : PH} {b a1 a2 a3 a4 a5 a6 a7 a8 bt : Nat} {th cp rc sh : Int} (hB : h b = (xO 8 [vi th, vi 0, .ref a1, .ref a2, vi cp, vi rc, vi 0, .ref a3, .ref a4, .ref a5, .ref a6, .ref a7, .ref a8, vi 0, vi sh, .ref bt])) {o : Nat} {go : Nat → Int64} (hO : h o = xL G 1 go) {gp : Nat → Option Nat} {gl : Nat → Int} {gf : Nat → Bool} (hA3 : h a3 = xQ G 3 12 gp) (hA4 : h a4 = xI G 12 gl) (hA5 : h a5 = xZ G 12 gf) (n45 : a4 ≠ a5) {w0 w1 w2 w3 w4 : Int} (h0 : bd w0) (h1 : bd w1) (h2 : bd w2) (h3 : bd w3) (h4 : bd w4) (hk : okO (g4 w0 w1 w2 w3) (decide ((0 ≤ w0 ∧ w0 ≤ 80) ∧ 1 ≤ w4 ∧ w4 ≤ 8)) 4 = true)  : Cn G m_Model_chord 2 2 8 [.ref b, vi w0, vi w1, vi w2, vi w3, vi w4] h (fun r h' => r = some (vi 0) ∧ (∃ fs, h' b = xO 8 (vi 0 :: fs)) ∧ h' o = xL G 1 go) := by
  refine Cn_of (by decide) (Nat.le_of_ble_eq_true rfl) (fun K C hR E => ?_)
  have hgb := g4_bd h0 h1 h2 h3
  show X G K 15 0 [some (.ref b), some (vi w0), some (vi w1), some (vi w2), some (vi w3), some (vi w4), none, none, none, none, none, none, none, none, none] [] h 0 0
  refine x_aload_n C dX9_chord_0 rfl rfl ?_
  refine x_iconst C dX9_chord_1 ?_
  refine x_put C p_Model_44 hB (fit_int _) (Nat.le_of_ble_eq_true rfl) (h1 := (va_up h b (xO 8 [vi 0, vi 0, .ref a1, .ref a2, vi cp, vi rc, vi 0, .ref a3, .ref a4, .ref a5, .ref a6, .ref a7, .ref a8, vi 0, vi sh, .ref bt]))) rfl dX9_chord_2 ?_
  refine x_iconst C dX9_chord_5 ?_
  refine x_newI C (n := 4) ⟨by omega, by omega⟩ arrayClass_int hR (by omega) (by omega) dX9_chord_6 (fun qg zqg => ?_)
  have ne_b_qg : b ≠ qg := fun e => by rw [← e] at zqg; exact absurd (zqg.symm.trans up_s) (by intro h9; cases h9)
  have ne_o_qg : o ≠ qg := fun e => by rw [← e] at zqg; exact absurd (zqg.symm.trans ((up_n (ne_k hO hB (knn rfl))).trans hO)) (by intro h9; cases h9)
  have ne_a3_qg : a3 ≠ qg := fun e => by rw [← e] at zqg; exact absurd (zqg.symm.trans ((up_n (ne_k hA3 hB (knn rfl))).trans hA3)) (by intro h9; cases h9)
  have ne_a4_qg : a4 ≠ qg := fun e => by rw [← e] at zqg; exact absurd (zqg.symm.trans ((up_n (ne_k hA4 hB (knn rfl))).trans hA4)) (by intro h9; cases h9)
  have ne_a5_qg : a5 ≠ qg := fun e => by rw [← e] at zqg; exact absurd (zqg.symm.trans ((up_n (ne_k hA5 hB (knn rfl))).trans hA5)) (by intro h9; cases h9)
  refine x_dup C dX9_chord_8 rfl ?_
  refine x_iconst C dX9_chord_9 ?_
  refine x_iload_n C dX9_chord_10 rfl rfl ?_
  refine x_iast C up_s ⟨by omega, by omega, by omega⟩ (h1 := (va_up (va_up h b (xO 8 [vi 0, vi 0, .ref a1, .ref a2, vi cp, vi rc, vi 0, .ref a3, .ref a4, .ref a5, .ref a6, .ref a7, .ref a8, vi 0, vi sh, .ref bt])) qg (xI G 4 (va_up (fun _ => 0) 0 w0)))) (up_u _ _ _ _) dX9_chord_11 ?_
  refine x_dup C dX9_chord_12 rfl ?_
  refine x_iconst C dX9_chord_13 ?_
  refine x_iload_n C dX9_chord_14 rfl rfl ?_
  refine x_iast C up_s ⟨by omega, by omega, by omega⟩ (h1 := (va_up (va_up h b (xO 8 [vi 0, vi 0, .ref a1, .ref a2, vi cp, vi rc, vi 0, .ref a3, .ref a4, .ref a5, .ref a6, .ref a7, .ref a8, vi 0, vi sh, .ref bt])) qg (xI G 4 (va_up (va_up (fun _ => 0) 0 w0) 1 w1)))) (up_u _ _ _ _) dX9_chord_15 ?_
  refine x_dup C dX9_chord_16 rfl ?_
  refine x_iconst C dX9_chord_17 ?_
  refine x_iload_n C dX9_chord_18 rfl rfl ?_
  refine x_iast C up_s ⟨by omega, by omega, by omega⟩ (h1 := (va_up (va_up h b (xO 8 [vi 0, vi 0, .ref a1, .ref a2, vi cp, vi rc, vi 0, .ref a3, .ref a4, .ref a5, .ref a6, .ref a7, .ref a8, vi 0, vi sh, .ref bt])) qg (xI G 4 (va_up (va_up (va_up (fun _ => 0) 0 w0) 1 w1) 2 w2)))) (up_u _ _ _ _) dX9_chord_19 ?_
  refine x_dup C dX9_chord_20 rfl ?_
  refine x_iconst C dX9_chord_21 ?_
  refine x_iload C dX9_chord_22 rfl ?_
  refine x_iast C up_s ⟨by omega, by omega, by omega⟩ (h1 := (va_up (va_up h b (xO 8 [vi 0, vi 0, .ref a1, .ref a2, vi cp, vi rc, vi 0, .ref a3, .ref a4, .ref a5, .ref a6, .ref a7, .ref a8, vi 0, vi sh, .ref bt])) qg (xI G 4 (va_up (va_up (va_up (va_up (fun _ => 0) 0 w0) 1 w1) 2 w2) 3 w3)))) (up_u _ _ _ _) dX9_chord_24 ?_
  refine x_astore C (ls' := [some (.ref b), some (vi w0), some (vi w1), some (vi w2), some (vi w3), some (vi w4), some (.ref qg), none, none, none, none, none, none, none, none]) dX9_chord_25 (by decide) rfl ?_
  refine x_iconst C dX9_chord_27 ?_
  refine x_istore C (ls' := [some (.ref b), some (vi w0), some (vi w1), some (vi w2), some (vi w3), some (vi w4), some (.ref qg), some (vi 0), none, none, none, none, none, none, none]) dX9_chord_28 (by decide) rfl ?_
  have L61 : ∀ (n0 : Nat) (k : Nat) (y : Bool), 4 - k < n0 → (k ≤ 4) → (y = okO (g4 w0 w1 w2 w3) (decide ((0 ≤ w0 ∧ w0 ≤ 80) ∧ 1 ≤ w4 ∧ w4 ≤ 8)) k) → X G K 15 61 [some (.ref b), some (vi w0), some (vi w1), some (vi w2), some (vi w3), some (vi w4), some (.ref qg), some (vi ((cnt (g4 w0 w1 w2 w3) k : Nat) : Int)), some (vi (b2i y)), some (vi (k : Int)), none, none, none, none, none] [] (va_up (va_up h b (xO 8 [vi 0, vi 0, .ref a1, .ref a2, vi cp, vi rc, vi 0, .ref a3, .ref a4, .ref a5, .ref a6, .ref a7, .ref a8, vi 0, vi sh, .ref bt])) qg (xI G 4 (g4 w0 w1 w2 w3))) (0 + 1) (0 + 4) := by
    intro n0
    induction n0 with
    | zero => intro k y hm; exact absurd hm (Nat.not_lt_zero _)
    | succ n0 ih_L61 =>
      intro k y hm i1 i2
      have hck := cnt_le (g4 w0 w1 w2 w3) k
      refine x_iload C dX9_chord_61 rfl ?_
      refine x_iconst C dX9_chord_63 ?_
      refine x_icmp_ge C (tgt := 156) dX9_chord_64 (by decide) ⟨by omega, by omega⟩ (by decide) (fun c64 => ?_) (fun c64 => ?_)
      · skip
        refine x_iload C dX9_chord_156 rfl ?_
        refine x_ifneB C (tgt := 167) dX9_chord_158 (by decide) (fun c158 => ?_) (fun c158 => ?_)
        · skip
          refine x_aload_n C dX9_chord_167 rfl rfl ?_
          refine x_get C f_Model_54 ((up_n ne_b_qg).trans up_s) rfl dX9_chord_168 ?_
          refine x_bipush C (z := 12) dX9_chord_171 (by decide) ?_
          refine x_icmp_ne C (tgt := 182) dX9_chord_173 (by decide) (by decide) (by decide) (fun c173 => ?_) (fun c173 => ?_)
          · skip
            refine x_iload C dX9_chord_182 rfl ?_
            refine x_newI C (n := ((cnt (g4 w0 w1 w2 w3) k : Nat) : Int)) ⟨by omega, by omega⟩ arrayClass_int hR (by omega) (by omega) dX9_chord_184 (fun qr zqr => ?_)
            have ne_b_qr : b ≠ qr := fun e => by rw [← e] at zqr; exact absurd (zqr.symm.trans ((up_n ne_b_qg).trans up_s)) (by intro h9; cases h9)
            have ne_o_qr : o ≠ qr := fun e => by rw [← e] at zqr; exact absurd (zqr.symm.trans ((up_n ne_o_qg).trans ((up_n (ne_k hO hB (knn rfl))).trans hO))) (by intro h9; cases h9)
            have ne_a3_qr : a3 ≠ qr := fun e => by rw [← e] at zqr; exact absurd (zqr.symm.trans ((up_n ne_a3_qg).trans ((up_n (ne_k hA3 hB (knn rfl))).trans hA3))) (by intro h9; cases h9)
            have ne_a4_qr : a4 ≠ qr := fun e => by rw [← e] at zqr; exact absurd (zqr.symm.trans ((up_n ne_a4_qg).trans ((up_n (ne_k hA4 hB (knn rfl))).trans hA4))) (by intro h9; cases h9)
            have ne_a5_qr : a5 ≠ qr := fun e => by rw [← e] at zqr; exact absurd (zqr.symm.trans ((up_n ne_a5_qg).trans ((up_n (ne_k hA5 hB (knn rfl))).trans hA5))) (by intro h9; cases h9)
            have ne_qg_qr : qg ≠ qr := fun e => by rw [← e] at zqr; exact absurd (zqr.symm.trans up_s) (by intro h9; cases h9)
            refine x_astore C (ls' := [some (.ref b), some (vi w0), some (vi w1), some (vi w2), some (vi w3), some (vi w4), some (.ref qg), some (vi ((cnt (g4 w0 w1 w2 w3) k : Nat) : Int)), some (vi (b2i y)), some (.ref qr), none, none, none, none, none]) dX9_chord_186 (by decide) rfl ?_
            refine x_iconst C dX9_chord_188 ?_
            refine x_istore C (ls' := [some (.ref b), some (vi w0), some (vi w1), some (vi w2), some (vi w3), some (vi w4), some (.ref qg), some (vi ((cnt (g4 w0 w1 w2 w3) k : Nat) : Int)), some (vi (b2i y)), some (.ref qr), some (vi 0), none, none, none, none]) dX9_chord_189 (by decide) rfl ?_
            refine x_aload C dX9_chord_191 rfl ?_
            refine x_astore C (ls' := [some (.ref b), some (vi w0), some (vi w1), some (vi w2), some (vi w3), some (vi w4), some (.ref qg), some (vi ((cnt (g4 w0 w1 w2 w3) k : Nat) : Int)), some (vi (b2i y)), some (.ref qr), some (vi 0), some (.ref qg), none, none, none]) dX9_chord_193 (by decide) rfl ?_
            refine x_aload C dX9_chord_195 rfl ?_
            refine x_alen C (t := 0) rfl ((up_n ne_qg_qr).trans up_s) dX9_chord_197 ?_
            refine x_istore C (ls' := [some (.ref b), some (vi w0), some (vi w1), some (vi w2), some (vi w3), some (vi w4), some (.ref qg), some (vi ((cnt (g4 w0 w1 w2 w3) k : Nat) : Int)), some (vi (b2i y)), some (.ref qr), some (vi 0), some (.ref qg), some (vi 4), none, none]) dX9_chord_198 (by decide) rfl ?_
            refine x_iconst C dX9_chord_200 ?_
            refine x_istore C (ls' := [some (.ref b), some (vi w0), some (vi w1), some (vi w2), some (vi w3), some (vi w4), some (.ref qg), some (vi ((cnt (g4 w0 w1 w2 w3) k : Nat) : Int)), some (vi (b2i y)), some (.ref qr), some (vi 0), some (.ref qg), some (vi 4), some (vi 0), none]) dX9_chord_201 (by decide) rfl ?_
            have L203 : ∀ (n0 : Nat) (i : Nat) (e : Nat) (gr : Nat → Int), 4 - i < n0 → (i ≤ 4) → (e = cnt (g4 w0 w1 w2 w3) i) → X G K 15 203 [some (.ref b), some (vi w0), some (vi w1), some (vi w2), some (vi w3), some (vi w4), some (.ref qg), some (vi ((cnt (g4 w0 w1 w2 w3) k : Nat) : Int)), some (vi (b2i y)), some (.ref qr), some (vi (e : Int)), some (.ref qg), some (vi 4), some (vi (i : Int)), none] [] (va_up (va_up (va_up h b (xO 8 [vi 0, vi 0, .ref a1, .ref a2, vi cp, vi rc, vi 0, .ref a3, .ref a4, .ref a5, .ref a6, .ref a7, .ref a8, vi 0, vi sh, .ref bt])) qg (xI G 4 (g4 w0 w1 w2 w3))) qr (xI G (cnt (g4 w0 w1 w2 w3) k) gr)) ((0 + 1) + 1) ((0 + 4) + (cnt (g4 w0 w1 w2 w3) k)) := by
              intro n0
              induction n0 with
              | zero => intro i e gr hm; exact absurd hm (Nat.not_lt_zero _)
              | succ n0 ih_L203 =>
                intro i e gr hm r1 r2
                have hci := cnt_le (g4 w0 w1 w2 w3) i
                have hcu : i < 4 → cnt (g4 w0 w1 w2 w3) (i + 1) ≤ cnt (g4 w0 w1 w2 w3) k := fun q => by have := cnt_up (g4 w0 w1 w2 w3) (i + 1) (3 - i); rw [show i + 1 + (3 - i) = k by omega] at this; exact this
                refine x_iload C dX9_chord_203 rfl ?_
                refine x_iload C dX9_chord_205 rfl ?_
                refine x_icmp_ge C (tgt := 239) dX9_chord_207 (by decide) ⟨by omega, by omega⟩ (by decide) (fun c207 => ?_) (fun c207 => ?_)
                · skip
                  refine x_aload_n C dX9_chord_239 rfl rfl ?_
                  refine x_get C f_Model_22 ((up_n ne_b_qr).trans ((up_n ne_b_qg).trans up_s)) rfl dX9_chord_240 ?_
                  refine x_aload_n C dX9_chord_243 rfl rfl ?_
                  refine x_get C f_Model_54 ((up_n ne_b_qr).trans ((up_n ne_b_qg).trans up_s)) rfl dX9_chord_244 ?_
                  refine x_aload C dX9_chord_247 rfl ?_
                  refine x_aastA C ((up_n ne_a3_qr).trans ((up_n ne_a3_qg).trans ((up_n (ne_k hA3 hB (knn rfl))).trans hA3))) up_s ⟨by omega, by omega, by omega⟩ (h1 := (va_up (va_up (va_up (va_up h b (xO 8 [vi 0, vi 0, .ref a1, .ref a2, vi cp, vi rc, vi 0, .ref a3, .ref a4, .ref a5, .ref a6, .ref a7, .ref a8, vi 0, vi sh, .ref bt])) qg (xI G 4 (g4 w0 w1 w2 w3))) qr (xI G (cnt (g4 w0 w1 w2 w3) k) gr)) a3 (xQ G 3 12 (va_up gp 0 (some qr))))) rfl dX9_chord_249 ?_
                  refine x_aload_n C dX9_chord_250 rfl rfl ?_
                  refine x_get C f_Model_26 ((up_n (ne_k hB hA3 (knn rfl))).trans ((up_n ne_b_qr).trans ((up_n ne_b_qg).trans up_s))) rfl dX9_chord_251 ?_
                  refine x_aload_n C dX9_chord_254 rfl rfl ?_
                  refine x_get C f_Model_54 ((up_n (ne_k hB hA3 (knn rfl))).trans ((up_n ne_b_qr).trans ((up_n ne_b_qg).trans up_s))) rfl dX9_chord_255 ?_
                  refine x_iload C dX9_chord_258 rfl ?_
                  refine x_iast C ((up_n (ne_k hA4 hA3 (knn rfl))).trans ((up_n ne_a4_qr).trans ((up_n ne_a4_qg).trans ((up_n (ne_k hA4 hB (knn rfl))).trans hA4)))) ⟨by omega, by omega, by omega⟩ (h1 := (va_up (va_up (va_up (va_up (va_up h b (xO 8 [vi 0, vi 0, .ref a1, .ref a2, vi cp, vi rc, vi 0, .ref a3, .ref a4, .ref a5, .ref a6, .ref a7, .ref a8, vi 0, vi sh, .ref bt])) qg (xI G 4 (g4 w0 w1 w2 w3))) qr (xI G (cnt (g4 w0 w1 w2 w3) k) gr)) a3 (xQ G 3 12 (va_up gp 0 (some qr)))) a4 (xI G 12 (va_up gl 0 w4)))) rfl dX9_chord_260 ?_
                  refine x_aload_n C dX9_chord_261 rfl rfl ?_
                  refine x_get C f_Model_29 ((up_n (ne_k hB hA4 (knn rfl))).trans ((up_n (ne_k hB hA3 (knn rfl))).trans ((up_n ne_b_qr).trans ((up_n ne_b_qg).trans up_s)))) rfl dX9_chord_262 ?_
                  refine x_aload_n C dX9_chord_265 rfl rfl ?_
                  refine x_get C f_Model_54 ((up_n (ne_k hB hA4 (knn rfl))).trans ((up_n (ne_k hB hA3 (knn rfl))).trans ((up_n ne_b_qr).trans ((up_n ne_b_qg).trans up_s)))) rfl dX9_chord_266 ?_
                  refine x_iconst C dX9_chord_269 ?_
                  refine x_zast C (z := false) ((up_n (Ne.symm n45)).trans ((up_n (ne_k hA5 hA3 (knn rfl))).trans ((up_n ne_a5_qr).trans ((up_n ne_a5_qg).trans ((up_n (ne_k hA5 hB (knn rfl))).trans hA5))))) ⟨by omega, by omega, by omega⟩ (h1 := (va_up (va_up (va_up (va_up (va_up (va_up h b (xO 8 [vi 0, vi 0, .ref a1, .ref a2, vi cp, vi rc, vi 0, .ref a3, .ref a4, .ref a5, .ref a6, .ref a7, .ref a8, vi 0, vi sh, .ref bt])) qg (xI G 4 (g4 w0 w1 w2 w3))) qr (xI G (cnt (g4 w0 w1 w2 w3) k) gr)) a3 (xQ G 3 12 (va_up gp 0 (some qr)))) a4 (xI G 12 (va_up gl 0 w4))) a5 (xZ G 12 (va_up gf 0 false)))) rfl dX9_chord_270 ?_
                  refine x_aload_n C dX9_chord_271 rfl rfl ?_
                  refine x_dup C dX9_chord_272 rfl ?_
                  refine x_get C f_Model_54 ((up_n (ne_k hB hA5 (knn rfl))).trans ((up_n (ne_k hB hA4 (knn rfl))).trans ((up_n (ne_k hB hA3 (knn rfl))).trans ((up_n ne_b_qr).trans ((up_n ne_b_qg).trans up_s))))) rfl dX9_chord_273 ?_
                  refine x_dup_x1 C dX9_chord_276 rfl rfl ?_
                  refine x_iconst C dX9_chord_277 ?_
                  refine x_iadd C dX9_chord_278 ?_
                  refine x_put C p_Model_54 ((up_n (ne_k hB hA5 (knn rfl))).trans ((up_n (ne_k hB hA4 (knn rfl))).trans ((up_n (ne_k hB hA3 (knn rfl))).trans ((up_n ne_b_qr).trans ((up_n ne_b_qg).trans up_s))))) (fit_int _) (Nat.le_of_ble_eq_true rfl) (h1 := (va_up (va_up (va_up (va_up (va_up (va_up h b (xO 8 [vi 0, vi 0, .ref a1, .ref a2, vi cp, vi rc, vi 1, .ref a3, .ref a4, .ref a5, .ref a6, .ref a7, .ref a8, vi 0, vi sh, .ref bt])) qg (xI G 4 (g4 w0 w1 w2 w3))) qr (xI G (cnt (g4 w0 w1 w2 w3) k) gr)) a3 (xQ G 3 12 (va_up gp 0 (some qr)))) a4 (xI G 12 (va_up gl 0 w4))) a5 (xZ G 12 (va_up gf 0 false)))) ((up_c _ _ _ (ne_k hA5 hB (knn rfl))).trans (congrArg (fun f => va_up f a5 _) ((up_c _ _ _ (ne_k hA4 hB (knn rfl))).trans (congrArg (fun f => va_up f a4 _) ((up_c _ _ _ (ne_k hA3 hB (knn rfl))).trans (congrArg (fun f => va_up f a3 _) ((up_c _ _ _ (Ne.symm ne_b_qr)).trans (congrArg (fun f => va_up f qr _) ((up_c _ _ _ (Ne.symm ne_b_qg)).trans (congrArg (fun f => va_up f qg _) (up_u _ _ _ _))))))))))) dX9_chord_279 ?_
                  exact x_iret C E rfl (by omega) (by omega) dX9_chord_282 (⟨rfl, ⟨_, ((up_n (ne_k hB hA5 (knn rfl))).trans ((up_n (ne_k hB hA4 (knn rfl))).trans ((up_n (ne_k hB hA3 (knn rfl))).trans ((up_n ne_b_qr).trans ((up_n ne_b_qg).trans up_s)))))⟩, ((up_n (ne_k hO hA5 (knn rfl))).trans ((up_n (ne_k hO hA4 (knn rfl))).trans ((up_n (ne_k hO hA3 (knn rfl))).trans ((up_n ne_o_qr).trans ((up_n ne_o_qg).trans ((up_n (ne_k hO hB (knn rfl))).trans hO))))))⟩)
                · skip
                  refine x_aload C dX9_chord_210 rfl ?_
                  refine x_iload C dX9_chord_212 rfl ?_
                  refine x_iald C ((up_n ne_qg_qr).trans up_s) ⟨by omega, by omega, by omega⟩ (v := ((g4 w0 w1 w2 w3) i)) rfl dX9_chord_214 ?_
                  refine x_istore C (ls' := [some (.ref b), some (vi w0), some (vi w1), some (vi w2), some (vi w3), some (vi w4), some (.ref qg), some (vi ((cnt (g4 w0 w1 w2 w3) k : Nat) : Int)), some (vi (b2i y)), some (.ref qr), some (vi (e : Int)), some (.ref qg), some (vi 4), some (vi (i : Int)), some (vi ((g4 w0 w1 w2 w3) i))]) dX9_chord_215 (by decide) rfl ?_
                  refine x_iload C dX9_chord_217 rfl ?_
                  refine x_iconst C dX9_chord_219 ?_
                  refine x_icmp_eq C (tgt := 233) dX9_chord_220 (by decide) (hgb i) (by decide) (fun c220 => ?_) (fun c220 => ?_)
                  · skip
                    refine x_iinc C (ls' := [some (.ref b), some (vi w0), some (vi w1), some (vi w2), some (vi w3), some (vi w4), some (.ref qg), some (vi ((cnt (g4 w0 w1 w2 w3) k : Nat) : Int)), some (vi (b2i y)), some (.ref qr), some (vi (e : Int)), some (.ref qg), some (vi 4), some (vi ((i : Int) + 1)), some (vi ((g4 w0 w1 w2 w3) i))]) dX9_chord_233 rfl (by decide) (z1 := ((i : Int) + 1)) rfl rfl ?_
                    refine x_goto C (tgt := 203) dX9_chord_236 (by decide) ?_
                    refine X.sub (ls' := [some (.ref b), some (vi w0), some (vi w1), some (vi w2), some (vi w3), some (vi w4), some (.ref qg), some (vi ((cnt (g4 w0 w1 w2 w3) k : Nat) : Int)), some (vi (b2i y)), some (.ref qr), some (vi (e : Int)), some (.ref qg), some (vi 4), some (vi ((i : Int) + 1)), none]) (sub_cons (Or.inr rfl) (sub_cons (Or.inr rfl) (sub_cons (Or.inr rfl) (sub_cons (Or.inr rfl) (sub_cons (Or.inr rfl) (sub_cons (Or.inr rfl) (sub_cons (Or.inr rfl) (sub_cons (Or.inr rfl) (sub_cons (Or.inr rfl) (sub_cons (Or.inr rfl) (sub_cons (Or.inr rfl) (sub_cons (Or.inr rfl) (sub_cons (Or.inr rfl) (sub_cons (Or.inr rfl) (sub_cons (Or.inl rfl) sub_nil))))))))))))))) ?_
                    exact ih_L203 (i + 1) e gr (by omega) (by omega) (by rw [r2, cnt_0 c220])
                  · skip
                    refine x_aload C dX9_chord_223 rfl ?_
                    refine x_iload C dX9_chord_225 rfl ?_
                    refine x_iinc C (ls' := [some (.ref b), some (vi w0), some (vi w1), some (vi w2), some (vi w3), some (vi w4), some (.ref qg), some (vi ((cnt (g4 w0 w1 w2 w3) k : Nat) : Int)), some (vi (b2i y)), some (.ref qr), some (vi ((e : Int) + 1)), some (.ref qg), some (vi 4), some (vi (i : Int)), some (vi ((g4 w0 w1 w2 w3) i))]) dX9_chord_227 rfl (by decide) (z1 := ((e : Int) + 1)) rfl rfl ?_
                    refine x_iload C dX9_chord_230 rfl ?_
                    refine x_iast C up_s ⟨by omega, by have := hcu (by omega); have e9 := cnt_1 (g := (g4 w0 w1 w2 w3)) c220; omega, by omega⟩ (h1 := (va_up (va_up (va_up h b (xO 8 [vi 0, vi 0, .ref a1, .ref a2, vi cp, vi rc, vi 0, .ref a3, .ref a4, .ref a5, .ref a6, .ref a7, .ref a8, vi 0, vi sh, .ref bt])) qg (xI G 4 (g4 w0 w1 w2 w3))) qr (xI G (cnt (g4 w0 w1 w2 w3) k) (va_up gr e ((g4 w0 w1 w2 w3) i))))) (up_u _ _ _ _) dX9_chord_232 ?_
                    refine x_iinc C (ls' := [some (.ref b), some (vi w0), some (vi w1), some (vi w2), some (vi w3), some (vi w4), some (.ref qg), some (vi ((cnt (g4 w0 w1 w2 w3) k : Nat) : Int)), some (vi (b2i y)), some (.ref qr), some (vi ((e : Int) + 1)), some (.ref qg), some (vi 4), some (vi ((i : Int) + 1)), some (vi ((g4 w0 w1 w2 w3) i))]) dX9_chord_233 rfl (by decide) (z1 := ((i : Int) + 1)) rfl rfl ?_
                    refine x_goto C (tgt := 203) dX9_chord_236 (by decide) ?_
                    refine X.sub (ls' := [some (.ref b), some (vi w0), some (vi w1), some (vi w2), some (vi w3), some (vi w4), some (.ref qg), some (vi ((cnt (g4 w0 w1 w2 w3) k : Nat) : Int)), some (vi (b2i y)), some (.ref qr), some (vi ((e : Int) + 1)), some (.ref qg), some (vi 4), some (vi ((i : Int) + 1)), none]) (sub_cons (Or.inr rfl) (sub_cons (Or.inr rfl) (sub_cons (Or.inr rfl) (sub_cons (Or.inr rfl) (sub_cons (Or.inr rfl) (sub_cons (Or.inr rfl) (sub_cons (Or.inr rfl) (sub_cons (Or.inr rfl) (sub_cons (Or.inr rfl) (sub_cons (Or.inr rfl) (sub_cons (Or.inr rfl) (sub_cons (Or.inr rfl) (sub_cons (Or.inr rfl) (sub_cons (Or.inr rfl) (sub_cons (Or.inl rfl) sub_nil))))))))))))))) ?_
                    exact ih_L203 (i + 1) (e + 1) (va_up gr e ((g4 w0 w1 w2 w3) i)) (by omega) (by omega) (by rw [r2, cnt_1 c220])
            exact L203 _ 0 0 (fun _ => 0) (Nat.lt_succ_self _) (by omega) (rfl)
          · skip
            exfalso; omega
        · skip
          rw [i2, show k = 4 by omega, hk] at c158; cases c158
      · skip
        refine x_iload C dX9_chord_67 rfl ?_
        refine x_aload C dX9_chord_69 rfl ?_
        refine x_iload C dX9_chord_71 rfl ?_
        refine x_iald C up_s ⟨by omega, by omega, by omega⟩ (v := ((g4 w0 w1 w2 w3) k)) rfl dX9_chord_73 ?_
        refine x_iconst C dX9_chord_74 ?_
        refine x_bipush C (z := 80) dX9_chord_75 (by decide) ?_
        refine x_invS C s_Model_50 (st := [vi (b2i y)]) (c_Mo_isIn (v := (g4 w0 w1 w2 w3) k) (lo := -1) (hi := 80) (hgb k) (by decide) (by decide)) rfl rfl (Nat.le_of_ble_eq_true rfl) (xRm_of hR (by omega) (by decide) (by omega) (by omega)) dX9_chord_77 (fun r9 h9 hq => ?_)
        obtain ⟨rfl, e9⟩ := hq
        have e9 := e9.symm
        subst e9
        refine x_iand C (c := b2i (y && (decide (-1 ≤ (g4 w0 w1 w2 w3) k ∧ (g4 w0 w1 w2 w3) k ≤ 80)))) dX9_chord_80 (b2i_and y (decide (-1 ≤ (g4 w0 w1 w2 w3) k ∧ (g4 w0 w1 w2 w3) k ≤ 80))) ?_
        refine x_istore C (ls' := [some (.ref b), some (vi w0), some (vi w1), some (vi w2), some (vi w3), some (vi w4), some (.ref qg), some (vi ((cnt (g4 w0 w1 w2 w3) k : Nat) : Int)), some (vi (b2i (y && (decide (-1 ≤ (g4 w0 w1 w2 w3) k ∧ (g4 w0 w1 w2 w3) k ≤ 80))))), some (vi (k : Int)), none, none, none, none, none]) dX9_chord_81 (by decide) rfl ?_
        refine x_iconst C dX9_chord_83 ?_
        refine x_istore C (ls' := [some (.ref b), some (vi w0), some (vi w1), some (vi w2), some (vi w3), some (vi w4), some (.ref qg), some (vi ((cnt (g4 w0 w1 w2 w3) k : Nat) : Int)), some (vi (b2i (y && (decide (-1 ≤ (g4 w0 w1 w2 w3) k ∧ (g4 w0 w1 w2 w3) k ≤ 80))))), some (vi (k : Int)), some (vi 0), none, none, none, none]) dX9_chord_84 (by decide) rfl ?_
        have L86 : ∀ (n0 : Nat) (j : Nat) (z : Bool), k - j < n0 → (j ≤ k) → (z = okI (g4 w0 w1 w2 w3) (okO (g4 w0 w1 w2 w3) (decide ((0 ≤ w0 ∧ w0 ≤ 80) ∧ 1 ≤ w4 ∧ w4 ≤ 8)) k && decide (-1 ≤ (g4 w0 w1 w2 w3) k ∧ (g4 w0 w1 w2 w3) k ≤ 80)) k j) → X G K 15 86 [some (.ref b), some (vi w0), some (vi w1), some (vi w2), some (vi w3), some (vi w4), some (.ref qg), some (vi ((cnt (g4 w0 w1 w2 w3) k : Nat) : Int)), some (vi (b2i z)), some (vi (k : Int)), some (vi (j : Int)), none, none, none, none] [] (va_up (va_up h b (xO 8 [vi 0, vi 0, .ref a1, .ref a2, vi cp, vi rc, vi 0, .ref a3, .ref a4, .ref a5, .ref a6, .ref a7, .ref a8, vi 0, vi sh, .ref bt])) qg (xI G 4 (g4 w0 w1 w2 w3))) (0 + 1) (0 + 4) := by
          intro n0
          induction n0 with
          | zero => intro j z hm; exact absurd hm (Nat.not_lt_zero _)
          | succ n0 ih_L86 =>
            intro j z hm j1 j2
            refine x_iload C dX9_chord_86 rfl ?_
            refine x_iload C dX9_chord_88 rfl ?_
            refine x_icmp_ge C (tgt := 131) dX9_chord_90 (by decide) ⟨by omega, by omega⟩ ⟨by omega, by omega⟩ (fun c90 => ?_) (fun c90 => ?_)
            · skip
              refine x_iload C dX9_chord_131 rfl ?_
              refine x_aload C dX9_chord_133 rfl ?_
              refine x_iload C dX9_chord_135 rfl ?_
              refine x_iald C up_s ⟨by omega, by omega, by omega⟩ (v := ((g4 w0 w1 w2 w3) k)) rfl dX9_chord_137 ?_
              refine x_iconst C dX9_chord_138 ?_
              refine x_icmp_ne C (tgt := 146) dX9_chord_139 (by decide) (hgb k) (by decide) (fun c139 => ?_) (fun c139 => ?_)
              · skip
                refine x_iconst C dX9_chord_146 ?_
                refine x_iadd C dX9_chord_147 ?_
                skip
                refine x_re (b := ((cnt (g4 w0 w1 w2 w3) (k + 1) : Nat) : Int)) (by rw [cnt_1 c139]; rfl) ?_
                refine x_istore C (ls' := [some (.ref b), some (vi w0), some (vi w1), some (vi w2), some (vi w3), some (vi w4), some (.ref qg), some (vi ((cnt (g4 w0 w1 w2 w3) (k + 1) : Nat) : Int)), some (vi (b2i z)), some (vi (k : Int)), some (vi (j : Int)), none, none, none, none]) dX9_chord_148 (by decide) rfl ?_
                refine x_iinc C (ls' := [some (.ref b), some (vi w0), some (vi w1), some (vi w2), some (vi w3), some (vi w4), some (.ref qg), some (vi ((cnt (g4 w0 w1 w2 w3) (k + 1) : Nat) : Int)), some (vi (b2i z)), some (vi ((k : Int) + 1)), some (vi (j : Int)), none, none, none, none]) dX9_chord_150 rfl (by decide) (z1 := ((k : Int) + 1)) rfl rfl ?_
                refine x_goto C (tgt := 61) dX9_chord_153 (by decide) ?_
                refine X.sub (ls' := [some (.ref b), some (vi w0), some (vi w1), some (vi w2), some (vi w3), some (vi w4), some (.ref qg), some (vi ((cnt (g4 w0 w1 w2 w3) (k + 1) : Nat) : Int)), some (vi (b2i z)), some (vi ((k : Int) + 1)), none, none, none, none, none]) (sub_cons (Or.inr rfl) (sub_cons (Or.inr rfl) (sub_cons (Or.inr rfl) (sub_cons (Or.inr rfl) (sub_cons (Or.inr rfl) (sub_cons (Or.inr rfl) (sub_cons (Or.inr rfl) (sub_cons (Or.inr rfl) (sub_cons (Or.inr rfl) (sub_cons (Or.inr rfl) (sub_cons (Or.inl rfl) (sub_cons (Or.inl rfl) (sub_cons (Or.inl rfl) (sub_cons (Or.inl rfl) (sub_cons (Or.inl rfl) sub_nil))))))))))))))) ?_
                exact ih_L61 (k + 1) z (by omega) (by omega) (by rw [j2, show j = k by omega]; rfl)
              · skip
                refine x_iconst C dX9_chord_142 ?_
                refine x_goto C (tgt := 147) dX9_chord_143 (by decide) ?_
                refine x_iadd C dX9_chord_147 ?_
                skip
                refine x_re (b := ((cnt (g4 w0 w1 w2 w3) (k + 1) : Nat) : Int)) (by rw [cnt_0 c139]; exact Int.add_zero _) ?_
                refine x_istore C (ls' := [some (.ref b), some (vi w0), some (vi w1), some (vi w2), some (vi w3), some (vi w4), some (.ref qg), some (vi ((cnt (g4 w0 w1 w2 w3) (k + 1) : Nat) : Int)), some (vi (b2i z)), some (vi (k : Int)), some (vi (j : Int)), none, none, none, none]) dX9_chord_148 (by decide) rfl ?_
                refine x_iinc C (ls' := [some (.ref b), some (vi w0), some (vi w1), some (vi w2), some (vi w3), some (vi w4), some (.ref qg), some (vi ((cnt (g4 w0 w1 w2 w3) (k + 1) : Nat) : Int)), some (vi (b2i z)), some (vi ((k : Int) + 1)), some (vi (j : Int)), none, none, none, none]) dX9_chord_150 rfl (by decide) (z1 := ((k : Int) + 1)) rfl rfl ?_
                refine x_goto C (tgt := 61) dX9_chord_153 (by decide) ?_
                refine X.sub (ls' := [some (.ref b), some (vi w0), some (vi w1), some (vi w2), some (vi w3), some (vi w4), some (.ref qg), some (vi ((cnt (g4 w0 w1 w2 w3) (k + 1) : Nat) : Int)), some (vi (b2i z)), some (vi ((k : Int) + 1)), none, none, none, none, none]) (sub_cons (Or.inr rfl) (sub_cons (Or.inr rfl) (sub_cons (Or.inr rfl) (sub_cons (Or.inr rfl) (sub_cons (Or.inr rfl) (sub_cons (Or.inr rfl) (sub_cons (Or.inr rfl) (sub_cons (Or.inr rfl) (sub_cons (Or.inr rfl) (sub_cons (Or.inr rfl) (sub_cons (Or.inl rfl) (sub_cons (Or.inl rfl) (sub_cons (Or.inl rfl) (sub_cons (Or.inl rfl) (sub_cons (Or.inl rfl) sub_nil))))))))))))))) ?_
                exact ih_L61 (k + 1) z (by omega) (by omega) (by rw [j2, show j = k by omega]; rfl)
            · skip
              refine x_iload C dX9_chord_93 rfl ?_
              refine x_aload C dX9_chord_95 rfl ?_
              refine x_iload C dX9_chord_97 rfl ?_
              refine x_iald C up_s ⟨by omega, by omega, by omega⟩ (v := ((g4 w0 w1 w2 w3) k)) rfl dX9_chord_99 ?_
              refine x_iconst C dX9_chord_100 ?_
              refine x_icmp_eq C (tgt := 117) dX9_chord_101 (by decide) (hgb k) (by decide) (fun c101 => ?_) (fun c101 => ?_)
              · skip
                refine x_iconst C dX9_chord_117 ?_
                refine x_goto C (tgt := 122) dX9_chord_118 (by decide) ?_
                refine x_iand C (c := b2i (z && true)) dX9_chord_122 (b2i_and z true) ?_
                refine x_istore C (ls' := [some (.ref b), some (vi w0), some (vi w1), some (vi w2), some (vi w3), some (vi w4), some (.ref qg), some (vi ((cnt (g4 w0 w1 w2 w3) k : Nat) : Int)), some (vi (b2i (z && true))), some (vi (k : Int)), some (vi (j : Int)), none, none, none, none]) dX9_chord_123 (by decide) rfl ?_
                refine x_iinc C (ls' := [some (.ref b), some (vi w0), some (vi w1), some (vi w2), some (vi w3), some (vi w4), some (.ref qg), some (vi ((cnt (g4 w0 w1 w2 w3) k : Nat) : Int)), some (vi (b2i (z && true))), some (vi (k : Int)), some (vi ((j : Int) + 1)), none, none, none, none]) dX9_chord_125 rfl (by decide) (z1 := ((j : Int) + 1)) rfl rfl ?_
                refine x_goto C (tgt := 86) dX9_chord_128 (by decide) ?_
                exact ih_L86 (j + 1) (z && true) (by omega) (by omega) (okI_s j2 (decide_eq_true (by omega)))
              · skip
                refine x_aload C dX9_chord_104 rfl ?_
                refine x_iload C dX9_chord_106 rfl ?_
                refine x_iald C up_s ⟨by omega, by omega, by omega⟩ (v := ((g4 w0 w1 w2 w3) j)) rfl dX9_chord_108 ?_
                refine x_aload C dX9_chord_109 rfl ?_
                refine x_iload C dX9_chord_111 rfl ?_
                refine x_iald C up_s ⟨by omega, by omega, by omega⟩ (v := ((g4 w0 w1 w2 w3) k)) rfl dX9_chord_113 ?_
                refine x_icmp_eq C (tgt := 121) dX9_chord_114 (by decide) (hgb j) (hgb k) (fun c114 => ?_) (fun c114 => ?_)
                · skip
                  refine x_iconst C dX9_chord_121 ?_
                  refine x_iand C (c := b2i (z && false)) dX9_chord_122 (b2i_and z false) ?_
                  refine x_istore C (ls' := [some (.ref b), some (vi w0), some (vi w1), some (vi w2), some (vi w3), some (vi w4), some (.ref qg), some (vi ((cnt (g4 w0 w1 w2 w3) k : Nat) : Int)), some (vi (b2i (z && false))), some (vi (k : Int)), some (vi (j : Int)), none, none, none, none]) dX9_chord_123 (by decide) rfl ?_
                  refine x_iinc C (ls' := [some (.ref b), some (vi w0), some (vi w1), some (vi w2), some (vi w3), some (vi w4), some (.ref qg), some (vi ((cnt (g4 w0 w1 w2 w3) k : Nat) : Int)), some (vi (b2i (z && false))), some (vi (k : Int)), some (vi ((j : Int) + 1)), none, none, none, none]) dX9_chord_125 rfl (by decide) (z1 := ((j : Int) + 1)) rfl rfl ?_
                  refine x_goto C (tgt := 86) dX9_chord_128 (by decide) ?_
                  exact ih_L86 (j + 1) (z && false) (by omega) (by omega) (okI_s j2 (decide_eq_false (by omega)))
                · skip
                  refine x_iconst C dX9_chord_117 ?_
                  refine x_goto C (tgt := 122) dX9_chord_118 (by decide) ?_
                  refine x_iand C (c := b2i (z && true)) dX9_chord_122 (b2i_and z true) ?_
                  refine x_istore C (ls' := [some (.ref b), some (vi w0), some (vi w1), some (vi w2), some (vi w3), some (vi w4), some (.ref qg), some (vi ((cnt (g4 w0 w1 w2 w3) k : Nat) : Int)), some (vi (b2i (z && true))), some (vi (k : Int)), some (vi (j : Int)), none, none, none, none]) dX9_chord_123 (by decide) rfl ?_
                  refine x_iinc C (ls' := [some (.ref b), some (vi w0), some (vi w1), some (vi w2), some (vi w3), some (vi w4), some (.ref qg), some (vi ((cnt (g4 w0 w1 w2 w3) k : Nat) : Int)), some (vi (b2i (z && true))), some (vi (k : Int)), some (vi ((j : Int) + 1)), none, none, none, none]) dX9_chord_125 rfl (by decide) (z1 := ((j : Int) + 1)) rfl rfl ?_
                  refine x_goto C (tgt := 86) dX9_chord_128 (by decide) ?_
                  exact ih_L86 (j + 1) (z && true) (by omega) (by omega) (okI_s j2 (decide_eq_true (by omega)))
        exact L86 _ 0 (y && (decide (-1 ≤ (g4 w0 w1 w2 w3) k ∧ (g4 w0 w1 w2 w3) k ≤ 80))) (Nat.lt_succ_self _) (Nat.zero_le _) (by rw [i2]; rfl)
  refine x_iload_n C dX9_chord_30 rfl rfl ?_
  refine x_iconst C dX9_chord_31 ?_
  refine x_bipush C (z := 80) dX9_chord_32 (by decide) ?_
  refine x_invS C s_Model_50 (st := []) (c_Mo_isIn (v := w0) (lo := 0) (hi := 80) h0 (by decide) (by decide)) rfl rfl (Nat.le_of_ble_eq_true rfl) (xRm_of hR (by omega) (by decide) (by omega) (by omega)) dX9_chord_34 (fun r9 h9 hq => ?_)
  obtain ⟨rfl, e9⟩ := hq
  have e9 := e9.symm
  subst e9
  refine x_ifeqB C (tgt := 55) dX9_chord_37 (by decide) (fun c37 => ?_) (fun c37 => ?_)
  · skip
    skip
    refine x_iconst C dX9_chord_55 ?_
    refine x_istore C (ls' := [some (.ref b), some (vi w0), some (vi w1), some (vi w2), some (vi w3), some (vi w4), some (.ref qg), some (vi 0), some (vi 0), none, none, none, none, none, none]) dX9_chord_56 (by decide) rfl ?_
    refine x_iconst C dX9_chord_58 ?_
    refine x_istore C (ls' := [some (.ref b), some (vi w0), some (vi w1), some (vi w2), some (vi w3), some (vi w4), some (.ref qg), some (vi 0), some (vi 0), some (vi 0), none, none, none, none, none]) dX9_chord_59 (by decide) rfl ?_
    exact L61 _ 0 false (Nat.lt_succ_self _) (by omega) ((decide_eq_false (fun q => (of_decide_eq_false c37) q.1)).symm)
  · skip
    skip
    refine x_iload C dX9_chord_40 rfl ?_
    refine x_iconst C dX9_chord_42 ?_
    refine x_bipush C (z := 8) dX9_chord_43 (by decide) ?_
    refine x_invS C s_Model_50 (st := []) (c_Mo_isIn (v := w4) (lo := 1) (hi := 8) h4 (by decide) (by decide)) rfl rfl (Nat.le_of_ble_eq_true rfl) (xRm_of hR (by omega) (by decide) (by omega) (by omega)) dX9_chord_45 (fun r9 h9 hq => ?_)
    obtain ⟨rfl, e9⟩ := hq
    have e9 := e9.symm
    subst e9
    refine x_ifeqB C (tgt := 55) dX9_chord_48 (by decide) (fun c48 => ?_) (fun c48 => ?_)
    · skip
      refine x_iconst C dX9_chord_55 ?_
      refine x_istore C (ls' := [some (.ref b), some (vi w0), some (vi w1), some (vi w2), some (vi w3), some (vi w4), some (.ref qg), some (vi 0), some (vi 0), none, none, none, none, none, none]) dX9_chord_56 (by decide) rfl ?_
      refine x_iconst C dX9_chord_58 ?_
      refine x_istore C (ls' := [some (.ref b), some (vi w0), some (vi w1), some (vi w2), some (vi w3), some (vi w4), some (.ref qg), some (vi 0), some (vi 0), some (vi 0), none, none, none, none, none]) dX9_chord_59 (by decide) rfl ?_
      exact L61 _ 0 false (Nat.lt_succ_self _) (by omega) ((decide_eq_false (fun q => (of_decide_eq_false c48) q.2)).symm)
    · skip
      refine x_iconst C dX9_chord_51 ?_
      refine x_goto C (tgt := 56) dX9_chord_52 (by decide) ?_
      refine x_istore C (ls' := [some (.ref b), some (vi w0), some (vi w1), some (vi w2), some (vi w3), some (vi w4), some (.ref qg), some (vi 0), some (vi 1), none, none, none, none, none, none]) dX9_chord_56 (by decide) rfl ?_
      refine x_iconst C dX9_chord_58 ?_
      refine x_istore C (ls' := [some (.ref b), some (vi w0), some (vi w1), some (vi w2), some (vi w3), some (vi w4), some (.ref qg), some (vi 0), some (vi 1), some (vi 0), none, none, none, none, none]) dX9_chord_59 (by decide) rfl ?_
      exact L61 _ 0 true (Nat.lt_succ_self _) (by omega) ((decide_eq_true (by have q1 := of_decide_eq_true c37; have q2 := of_decide_eq_true c48; exact ⟨q1, q2⟩)).symm)

set_option maxRecDepth 100000 in
set_option maxHeartbeats 4000000 in
theorem c_Mo_chord_no {G : xG} {h : PH} {b a1 a2 a3 a4 a5 a6 a7 a8 bt : Nat} {th cp rc sh : Int} (hB : h b = (xO 8 [vi th, vi 0, .ref a1, .ref a2, vi cp, vi rc, vi 0, .ref a3, .ref a4, .ref a5, .ref a6, .ref a7, .ref a8, vi 0, vi sh, .ref bt])) {o : Nat} {go : Nat → Int64} (hO : h o = xL G 1 go) {w0 w1 w2 w3 w4 : Int} (h0 : bd w0) (h1 : bd w1) (h2 : bd w2) (h3 : bd w3) (h4 : bd w4) (hk : okO (g4 w0 w1 w2 w3) (decide ((0 ≤ w0 ∧ w0 ≤ 80) ∧ 1 ≤ w4 ∧ w4 ≤ 8)) 4 = false)  : Cn G m_Model_chord 2 1 4 [.ref b, vi w0, vi w1, vi w2, vi w3, vi w4] h (fun r h' => r = some (vi 0) ∧ (∃ fs, h' b = xO 8 (vi 1 :: fs)) ∧ h' o = xL G 1 go) := by
  refine Cn_of (by decide) (Nat.le_of_ble_eq_true rfl) (fun K C hR E => ?_)
  have hgb := g4_bd h0 h1 h2 h3
  show X G K 15 0 [some (.ref b), some (vi w0), some (vi w1), some (vi w2), some (vi w3), some (vi w4), none, none, none, none, none, none, none, none, none] [] h 0 0
  refine x_aload_n C dX9_chord_0 rfl rfl ?_
  refine x_iconst C dX9_chord_1 ?_
  refine x_put C p_Model_44 hB (fit_int _) (Nat.le_of_ble_eq_true rfl) (h1 := (va_up h b (xO 8 [vi 0, vi 0, .ref a1, .ref a2, vi cp, vi rc, vi 0, .ref a3, .ref a4, .ref a5, .ref a6, .ref a7, .ref a8, vi 0, vi sh, .ref bt]))) rfl dX9_chord_2 ?_
  refine x_iconst C dX9_chord_5 ?_
  refine x_newI C (n := 4) ⟨by omega, by omega⟩ arrayClass_int hR (by omega) (by omega) dX9_chord_6 (fun qg zqg => ?_)
  have ne_b_qg : b ≠ qg := fun e => by rw [← e] at zqg; exact absurd (zqg.symm.trans up_s) (by intro h9; cases h9)
  have ne_o_qg : o ≠ qg := fun e => by rw [← e] at zqg; exact absurd (zqg.symm.trans ((up_n (ne_k hO hB (knn rfl))).trans hO)) (by intro h9; cases h9)
  refine x_dup C dX9_chord_8 rfl ?_
  refine x_iconst C dX9_chord_9 ?_
  refine x_iload_n C dX9_chord_10 rfl rfl ?_
  refine x_iast C up_s ⟨by omega, by omega, by omega⟩ (h1 := (va_up (va_up h b (xO 8 [vi 0, vi 0, .ref a1, .ref a2, vi cp, vi rc, vi 0, .ref a3, .ref a4, .ref a5, .ref a6, .ref a7, .ref a8, vi 0, vi sh, .ref bt])) qg (xI G 4 (va_up (fun _ => 0) 0 w0)))) (up_u _ _ _ _) dX9_chord_11 ?_
  refine x_dup C dX9_chord_12 rfl ?_
  refine x_iconst C dX9_chord_13 ?_
  refine x_iload_n C dX9_chord_14 rfl rfl ?_
  refine x_iast C up_s ⟨by omega, by omega, by omega⟩ (h1 := (va_up (va_up h b (xO 8 [vi 0, vi 0, .ref a1, .ref a2, vi cp, vi rc, vi 0, .ref a3, .ref a4, .ref a5, .ref a6, .ref a7, .ref a8, vi 0, vi sh, .ref bt])) qg (xI G 4 (va_up (va_up (fun _ => 0) 0 w0) 1 w1)))) (up_u _ _ _ _) dX9_chord_15 ?_
  refine x_dup C dX9_chord_16 rfl ?_
  refine x_iconst C dX9_chord_17 ?_
  refine x_iload_n C dX9_chord_18 rfl rfl ?_
  refine x_iast C up_s ⟨by omega, by omega, by omega⟩ (h1 := (va_up (va_up h b (xO 8 [vi 0, vi 0, .ref a1, .ref a2, vi cp, vi rc, vi 0, .ref a3, .ref a4, .ref a5, .ref a6, .ref a7, .ref a8, vi 0, vi sh, .ref bt])) qg (xI G 4 (va_up (va_up (va_up (fun _ => 0) 0 w0) 1 w1) 2 w2)))) (up_u _ _ _ _) dX9_chord_19 ?_
  refine x_dup C dX9_chord_20 rfl ?_
  refine x_iconst C dX9_chord_21 ?_
  refine x_iload C dX9_chord_22 rfl ?_
  refine x_iast C up_s ⟨by omega, by omega, by omega⟩ (h1 := (va_up (va_up h b (xO 8 [vi 0, vi 0, .ref a1, .ref a2, vi cp, vi rc, vi 0, .ref a3, .ref a4, .ref a5, .ref a6, .ref a7, .ref a8, vi 0, vi sh, .ref bt])) qg (xI G 4 (va_up (va_up (va_up (va_up (fun _ => 0) 0 w0) 1 w1) 2 w2) 3 w3)))) (up_u _ _ _ _) dX9_chord_24 ?_
  refine x_astore C (ls' := [some (.ref b), some (vi w0), some (vi w1), some (vi w2), some (vi w3), some (vi w4), some (.ref qg), none, none, none, none, none, none, none, none]) dX9_chord_25 (by decide) rfl ?_
  refine x_iconst C dX9_chord_27 ?_
  refine x_istore C (ls' := [some (.ref b), some (vi w0), some (vi w1), some (vi w2), some (vi w3), some (vi w4), some (.ref qg), some (vi 0), none, none, none, none, none, none, none]) dX9_chord_28 (by decide) rfl ?_
  have L61 : ∀ (n0 : Nat) (k : Nat) (y : Bool), 4 - k < n0 → (k ≤ 4) → (y = okO (g4 w0 w1 w2 w3) (decide ((0 ≤ w0 ∧ w0 ≤ 80) ∧ 1 ≤ w4 ∧ w4 ≤ 8)) k) → X G K 15 61 [some (.ref b), some (vi w0), some (vi w1), some (vi w2), some (vi w3), some (vi w4), some (.ref qg), some (vi ((cnt (g4 w0 w1 w2 w3) k : Nat) : Int)), some (vi (b2i y)), some (vi (k : Int)), none, none, none, none, none] [] (va_up (va_up h b (xO 8 [vi 0, vi 0, .ref a1, .ref a2, vi cp, vi rc, vi 0, .ref a3, .ref a4, .ref a5, .ref a6, .ref a7, .ref a8, vi 0, vi sh, .ref bt])) qg (xI G 4 (g4 w0 w1 w2 w3))) (0 + 1) (0 + 4) := by
    intro n0
    induction n0 with
    | zero => intro k y hm; exact absurd hm (Nat.not_lt_zero _)
    | succ n0 ih_L61 =>
      intro k y hm i1 i2
      have hck := cnt_le (g4 w0 w1 w2 w3) k
      refine x_iload C dX9_chord_61 rfl ?_
      refine x_iconst C dX9_chord_63 ?_
      refine x_icmp_ge C (tgt := 156) dX9_chord_64 (by decide) ⟨by omega, by omega⟩ (by decide) (fun c64 => ?_) (fun c64 => ?_)
      · skip
        refine x_iload C dX9_chord_156 rfl ?_
        refine x_ifneB C (tgt := 167) dX9_chord_158 (by decide) (fun c158 => ?_) (fun c158 => ?_)
        · skip
          rw [i2, show k = 4 by omega, hk] at c158; cases c158
        · skip
          refine x_aload_n C dX9_chord_161 rfl rfl ?_
          refine x_iconst C dX9_chord_162 ?_
          refine x_invV C s_Model_57 (st := []) (c_Mo_no ((up_n ne_b_qg).trans up_s)) ((up_n ne_b_qg).trans up_s) rfl rfl (Nat.le_of_ble_eq_true rfl) (xRm_of hR (by omega) (by decide) (by omega) (by omega)) dX9_chord_163 (fun r9 h9 hq => ?_)
          obtain ⟨rfl, e9⟩ := hq
          have e9 := e9.symm
          subst e9
          refine X.heq (h1 := (va_up (va_up h b (xO 8 [vi 1, vi 0, .ref a1, .ref a2, vi cp, vi rc, vi 0, .ref a3, .ref a4, .ref a5, .ref a6, .ref a7, .ref a8, vi 0, vi sh, .ref bt])) qg (xI G 4 (g4 w0 w1 w2 w3)))) ((up_c _ _ _ (Ne.symm ne_b_qg)).trans (congrArg (fun f => va_up f qg _) (up_u _ _ _ _))) ?_
          exact x_iret C E rfl (by omega) (by omega) dX9_chord_166 (⟨rfl, ⟨_, ((up_n ne_b_qg).trans up_s)⟩, ((up_n ne_o_qg).trans ((up_n (ne_k hO hB (knn rfl))).trans hO))⟩)
      · skip
        refine x_iload C dX9_chord_67 rfl ?_
        refine x_aload C dX9_chord_69 rfl ?_
        refine x_iload C dX9_chord_71 rfl ?_
        refine x_iald C up_s ⟨by omega, by omega, by omega⟩ (v := ((g4 w0 w1 w2 w3) k)) rfl dX9_chord_73 ?_
        refine x_iconst C dX9_chord_74 ?_
        refine x_bipush C (z := 80) dX9_chord_75 (by decide) ?_
        refine x_invS C s_Model_50 (st := [vi (b2i y)]) (c_Mo_isIn (v := (g4 w0 w1 w2 w3) k) (lo := -1) (hi := 80) (hgb k) (by decide) (by decide)) rfl rfl (Nat.le_of_ble_eq_true rfl) (xRm_of hR (by omega) (by decide) (by omega) (by omega)) dX9_chord_77 (fun r9 h9 hq => ?_)
        obtain ⟨rfl, e9⟩ := hq
        have e9 := e9.symm
        subst e9
        refine x_iand C (c := b2i (y && (decide (-1 ≤ (g4 w0 w1 w2 w3) k ∧ (g4 w0 w1 w2 w3) k ≤ 80)))) dX9_chord_80 (b2i_and y (decide (-1 ≤ (g4 w0 w1 w2 w3) k ∧ (g4 w0 w1 w2 w3) k ≤ 80))) ?_
        refine x_istore C (ls' := [some (.ref b), some (vi w0), some (vi w1), some (vi w2), some (vi w3), some (vi w4), some (.ref qg), some (vi ((cnt (g4 w0 w1 w2 w3) k : Nat) : Int)), some (vi (b2i (y && (decide (-1 ≤ (g4 w0 w1 w2 w3) k ∧ (g4 w0 w1 w2 w3) k ≤ 80))))), some (vi (k : Int)), none, none, none, none, none]) dX9_chord_81 (by decide) rfl ?_
        refine x_iconst C dX9_chord_83 ?_
        refine x_istore C (ls' := [some (.ref b), some (vi w0), some (vi w1), some (vi w2), some (vi w3), some (vi w4), some (.ref qg), some (vi ((cnt (g4 w0 w1 w2 w3) k : Nat) : Int)), some (vi (b2i (y && (decide (-1 ≤ (g4 w0 w1 w2 w3) k ∧ (g4 w0 w1 w2 w3) k ≤ 80))))), some (vi (k : Int)), some (vi 0), none, none, none, none]) dX9_chord_84 (by decide) rfl ?_
        have L86 : ∀ (n0 : Nat) (j : Nat) (z : Bool), k - j < n0 → (j ≤ k) → (z = okI (g4 w0 w1 w2 w3) (okO (g4 w0 w1 w2 w3) (decide ((0 ≤ w0 ∧ w0 ≤ 80) ∧ 1 ≤ w4 ∧ w4 ≤ 8)) k && decide (-1 ≤ (g4 w0 w1 w2 w3) k ∧ (g4 w0 w1 w2 w3) k ≤ 80)) k j) → X G K 15 86 [some (.ref b), some (vi w0), some (vi w1), some (vi w2), some (vi w3), some (vi w4), some (.ref qg), some (vi ((cnt (g4 w0 w1 w2 w3) k : Nat) : Int)), some (vi (b2i z)), some (vi (k : Int)), some (vi (j : Int)), none, none, none, none] [] (va_up (va_up h b (xO 8 [vi 0, vi 0, .ref a1, .ref a2, vi cp, vi rc, vi 0, .ref a3, .ref a4, .ref a5, .ref a6, .ref a7, .ref a8, vi 0, vi sh, .ref bt])) qg (xI G 4 (g4 w0 w1 w2 w3))) (0 + 1) (0 + 4) := by
          intro n0
          induction n0 with
          | zero => intro j z hm; exact absurd hm (Nat.not_lt_zero _)
          | succ n0 ih_L86 =>
            intro j z hm j1 j2
            refine x_iload C dX9_chord_86 rfl ?_
            refine x_iload C dX9_chord_88 rfl ?_
            refine x_icmp_ge C (tgt := 131) dX9_chord_90 (by decide) ⟨by omega, by omega⟩ ⟨by omega, by omega⟩ (fun c90 => ?_) (fun c90 => ?_)
            · skip
              refine x_iload C dX9_chord_131 rfl ?_
              refine x_aload C dX9_chord_133 rfl ?_
              refine x_iload C dX9_chord_135 rfl ?_
              refine x_iald C up_s ⟨by omega, by omega, by omega⟩ (v := ((g4 w0 w1 w2 w3) k)) rfl dX9_chord_137 ?_
              refine x_iconst C dX9_chord_138 ?_
              refine x_icmp_ne C (tgt := 146) dX9_chord_139 (by decide) (hgb k) (by decide) (fun c139 => ?_) (fun c139 => ?_)
              · skip
                refine x_iconst C dX9_chord_146 ?_
                refine x_iadd C dX9_chord_147 ?_
                skip
                refine x_re (b := ((cnt (g4 w0 w1 w2 w3) (k + 1) : Nat) : Int)) (by rw [cnt_1 c139]; rfl) ?_
                refine x_istore C (ls' := [some (.ref b), some (vi w0), some (vi w1), some (vi w2), some (vi w3), some (vi w4), some (.ref qg), some (vi ((cnt (g4 w0 w1 w2 w3) (k + 1) : Nat) : Int)), some (vi (b2i z)), some (vi (k : Int)), some (vi (j : Int)), none, none, none, none]) dX9_chord_148 (by decide) rfl ?_
                refine x_iinc C (ls' := [some (.ref b), some (vi w0), some (vi w1), some (vi w2), some (vi w3), some (vi w4), some (.ref qg), some (vi ((cnt (g4 w0 w1 w2 w3) (k + 1) : Nat) : Int)), some (vi (b2i z)), some (vi ((k : Int) + 1)), some (vi (j : Int)), none, none, none, none]) dX9_chord_150 rfl (by decide) (z1 := ((k : Int) + 1)) rfl rfl ?_
                refine x_goto C (tgt := 61) dX9_chord_153 (by decide) ?_
                refine X.sub (ls' := [some (.ref b), some (vi w0), some (vi w1), some (vi w2), some (vi w3), some (vi w4), some (.ref qg), some (vi ((cnt (g4 w0 w1 w2 w3) (k + 1) : Nat) : Int)), some (vi (b2i z)), some (vi ((k : Int) + 1)), none, none, none, none, none]) (sub_cons (Or.inr rfl) (sub_cons (Or.inr rfl) (sub_cons (Or.inr rfl) (sub_cons (Or.inr rfl) (sub_cons (Or.inr rfl) (sub_cons (Or.inr rfl) (sub_cons (Or.inr rfl) (sub_cons (Or.inr rfl) (sub_cons (Or.inr rfl) (sub_cons (Or.inr rfl) (sub_cons (Or.inl rfl) (sub_cons (Or.inl rfl) (sub_cons (Or.inl rfl) (sub_cons (Or.inl rfl) (sub_cons (Or.inl rfl) sub_nil))))))))))))))) ?_
                exact ih_L61 (k + 1) z (by omega) (by omega) (by rw [j2, show j = k by omega]; rfl)
              · skip
                refine x_iconst C dX9_chord_142 ?_
                refine x_goto C (tgt := 147) dX9_chord_143 (by decide) ?_
                refine x_iadd C dX9_chord_147 ?_
                skip
                refine x_re (b := ((cnt (g4 w0 w1 w2 w3) (k + 1) : Nat) : Int)) (by rw [cnt_0 c139]; exact Int.add_zero _) ?_
                refine x_istore C (ls' := [some (.ref b), some (vi w0), some (vi w1), some (vi w2), some (vi w3), some (vi w4), some (.ref qg), some (vi ((cnt (g4 w0 w1 w2 w3) (k + 1) : Nat) : Int)), some (vi (b2i z)), some (vi (k : Int)), some (vi (j : Int)), none, none, none, none]) dX9_chord_148 (by decide) rfl ?_
                refine x_iinc C (ls' := [some (.ref b), some (vi w0), some (vi w1), some (vi w2), some (vi w3), some (vi w4), some (.ref qg), some (vi ((cnt (g4 w0 w1 w2 w3) (k + 1) : Nat) : Int)), some (vi (b2i z)), some (vi ((k : Int) + 1)), some (vi (j : Int)), none, none, none, none]) dX9_chord_150 rfl (by decide) (z1 := ((k : Int) + 1)) rfl rfl ?_
                refine x_goto C (tgt := 61) dX9_chord_153 (by decide) ?_
                refine X.sub (ls' := [some (.ref b), some (vi w0), some (vi w1), some (vi w2), some (vi w3), some (vi w4), some (.ref qg), some (vi ((cnt (g4 w0 w1 w2 w3) (k + 1) : Nat) : Int)), some (vi (b2i z)), some (vi ((k : Int) + 1)), none, none, none, none, none]) (sub_cons (Or.inr rfl) (sub_cons (Or.inr rfl) (sub_cons (Or.inr rfl) (sub_cons (Or.inr rfl) (sub_cons (Or.inr rfl) (sub_cons (Or.inr rfl) (sub_cons (Or.inr rfl) (sub_cons (Or.inr rfl) (sub_cons (Or.inr rfl) (sub_cons (Or.inr rfl) (sub_cons (Or.inl rfl) (sub_cons (Or.inl rfl) (sub_cons (Or.inl rfl) (sub_cons (Or.inl rfl) (sub_cons (Or.inl rfl) sub_nil))))))))))))))) ?_
                exact ih_L61 (k + 1) z (by omega) (by omega) (by rw [j2, show j = k by omega]; rfl)
            · skip
              refine x_iload C dX9_chord_93 rfl ?_
              refine x_aload C dX9_chord_95 rfl ?_
              refine x_iload C dX9_chord_97 rfl ?_
              refine x_iald C up_s ⟨by omega, by omega, by omega⟩ (v := ((g4 w0 w1 w2 w3) k)) rfl dX9_chord_99 ?_
              refine x_iconst C dX9_chord_100 ?_
              refine x_icmp_eq C (tgt := 117) dX9_chord_101 (by decide) (hgb k) (by decide) (fun c101 => ?_) (fun c101 => ?_)
              · skip
                refine x_iconst C dX9_chord_117 ?_
                refine x_goto C (tgt := 122) dX9_chord_118 (by decide) ?_
                refine x_iand C (c := b2i (z && true)) dX9_chord_122 (b2i_and z true) ?_
                refine x_istore C (ls' := [some (.ref b), some (vi w0), some (vi w1), some (vi w2), some (vi w3), some (vi w4), some (.ref qg), some (vi ((cnt (g4 w0 w1 w2 w3) k : Nat) : Int)), some (vi (b2i (z && true))), some (vi (k : Int)), some (vi (j : Int)), none, none, none, none]) dX9_chord_123 (by decide) rfl ?_
                refine x_iinc C (ls' := [some (.ref b), some (vi w0), some (vi w1), some (vi w2), some (vi w3), some (vi w4), some (.ref qg), some (vi ((cnt (g4 w0 w1 w2 w3) k : Nat) : Int)), some (vi (b2i (z && true))), some (vi (k : Int)), some (vi ((j : Int) + 1)), none, none, none, none]) dX9_chord_125 rfl (by decide) (z1 := ((j : Int) + 1)) rfl rfl ?_
                refine x_goto C (tgt := 86) dX9_chord_128 (by decide) ?_
                exact ih_L86 (j + 1) (z && true) (by omega) (by omega) (okI_s j2 (decide_eq_true (by omega)))
              · skip
                refine x_aload C dX9_chord_104 rfl ?_
                refine x_iload C dX9_chord_106 rfl ?_
                refine x_iald C up_s ⟨by omega, by omega, by omega⟩ (v := ((g4 w0 w1 w2 w3) j)) rfl dX9_chord_108 ?_
                refine x_aload C dX9_chord_109 rfl ?_
                refine x_iload C dX9_chord_111 rfl ?_
                refine x_iald C up_s ⟨by omega, by omega, by omega⟩ (v := ((g4 w0 w1 w2 w3) k)) rfl dX9_chord_113 ?_
                refine x_icmp_eq C (tgt := 121) dX9_chord_114 (by decide) (hgb j) (hgb k) (fun c114 => ?_) (fun c114 => ?_)
                · skip
                  refine x_iconst C dX9_chord_121 ?_
                  refine x_iand C (c := b2i (z && false)) dX9_chord_122 (b2i_and z false) ?_
                  refine x_istore C (ls' := [some (.ref b), some (vi w0), some (vi w1), some (vi w2), some (vi w3), some (vi w4), some (.ref qg), some (vi ((cnt (g4 w0 w1 w2 w3) k : Nat) : Int)), some (vi (b2i (z && false))), some (vi (k : Int)), some (vi (j : Int)), none, none, none, none]) dX9_chord_123 (by decide) rfl ?_
                  refine x_iinc C (ls' := [some (.ref b), some (vi w0), some (vi w1), some (vi w2), some (vi w3), some (vi w4), some (.ref qg), some (vi ((cnt (g4 w0 w1 w2 w3) k : Nat) : Int)), some (vi (b2i (z && false))), some (vi (k : Int)), some (vi ((j : Int) + 1)), none, none, none, none]) dX9_chord_125 rfl (by decide) (z1 := ((j : Int) + 1)) rfl rfl ?_
                  refine x_goto C (tgt := 86) dX9_chord_128 (by decide) ?_
                  exact ih_L86 (j + 1) (z && false) (by omega) (by omega) (okI_s j2 (decide_eq_false (by omega)))
                · skip
                  refine x_iconst C dX9_chord_117 ?_
                  refine x_goto C (tgt := 122) dX9_chord_118 (by decide) ?_
                  refine x_iand C (c := b2i (z && true)) dX9_chord_122 (b2i_and z true) ?_
                  refine x_istore C (ls' := [some (.ref b), some (vi w0), some (vi w1), some (vi w2), some (vi w3), some (vi w4), some (.ref qg), some (vi ((cnt (g4 w0 w1 w2 w3) k : Nat) : Int)), some (vi (b2i (z && true))), some (vi (k : Int)), some (vi (j : Int)), none, none, none, none]) dX9_chord_123 (by decide) rfl ?_
                  refine x_iinc C (ls' := [some (.ref b), some (vi w0), some (vi w1), some (vi w2), some (vi w3), some (vi w4), some (.ref qg), some (vi ((cnt (g4 w0 w1 w2 w3) k : Nat) : Int)), some (vi (b2i (z && true))), some (vi (k : Int)), some (vi ((j : Int) + 1)), none, none, none, none]) dX9_chord_125 rfl (by decide) (z1 := ((j : Int) + 1)) rfl rfl ?_
                  refine x_goto C (tgt := 86) dX9_chord_128 (by decide) ?_
                  exact ih_L86 (j + 1) (z && true) (by omega) (by omega) (okI_s j2 (decide_eq_true (by omega)))
        exact L86 _ 0 (y && (decide (-1 ≤ (g4 w0 w1 w2 w3) k ∧ (g4 w0 w1 w2 w3) k ≤ 80))) (Nat.lt_succ_self _) (Nat.zero_le _) (by rw [i2]; rfl)
  refine x_iload_n C dX9_chord_30 rfl rfl ?_
  refine x_iconst C dX9_chord_31 ?_
  refine x_bipush C (z := 80) dX9_chord_32 (by decide) ?_
  refine x_invS C s_Model_50 (st := []) (c_Mo_isIn (v := w0) (lo := 0) (hi := 80) h0 (by decide) (by decide)) rfl rfl (Nat.le_of_ble_eq_true rfl) (xRm_of hR (by omega) (by decide) (by omega) (by omega)) dX9_chord_34 (fun r9 h9 hq => ?_)
  obtain ⟨rfl, e9⟩ := hq
  have e9 := e9.symm
  subst e9
  refine x_ifeqB C (tgt := 55) dX9_chord_37 (by decide) (fun c37 => ?_) (fun c37 => ?_)
  · skip
    skip
    refine x_iconst C dX9_chord_55 ?_
    refine x_istore C (ls' := [some (.ref b), some (vi w0), some (vi w1), some (vi w2), some (vi w3), some (vi w4), some (.ref qg), some (vi 0), some (vi 0), none, none, none, none, none, none]) dX9_chord_56 (by decide) rfl ?_
    refine x_iconst C dX9_chord_58 ?_
    refine x_istore C (ls' := [some (.ref b), some (vi w0), some (vi w1), some (vi w2), some (vi w3), some (vi w4), some (.ref qg), some (vi 0), some (vi 0), some (vi 0), none, none, none, none, none]) dX9_chord_59 (by decide) rfl ?_
    exact L61 _ 0 false (Nat.lt_succ_self _) (by omega) ((decide_eq_false (fun q => (of_decide_eq_false c37) q.1)).symm)
  · skip
    skip
    refine x_iload C dX9_chord_40 rfl ?_
    refine x_iconst C dX9_chord_42 ?_
    refine x_bipush C (z := 8) dX9_chord_43 (by decide) ?_
    refine x_invS C s_Model_50 (st := []) (c_Mo_isIn (v := w4) (lo := 1) (hi := 8) h4 (by decide) (by decide)) rfl rfl (Nat.le_of_ble_eq_true rfl) (xRm_of hR (by omega) (by decide) (by omega) (by omega)) dX9_chord_45 (fun r9 h9 hq => ?_)
    obtain ⟨rfl, e9⟩ := hq
    have e9 := e9.symm
    subst e9
    refine x_ifeqB C (tgt := 55) dX9_chord_48 (by decide) (fun c48 => ?_) (fun c48 => ?_)
    · skip
      refine x_iconst C dX9_chord_55 ?_
      refine x_istore C (ls' := [some (.ref b), some (vi w0), some (vi w1), some (vi w2), some (vi w3), some (vi w4), some (.ref qg), some (vi 0), some (vi 0), none, none, none, none, none, none]) dX9_chord_56 (by decide) rfl ?_
      refine x_iconst C dX9_chord_58 ?_
      refine x_istore C (ls' := [some (.ref b), some (vi w0), some (vi w1), some (vi w2), some (vi w3), some (vi w4), some (.ref qg), some (vi 0), some (vi 0), some (vi 0), none, none, none, none, none]) dX9_chord_59 (by decide) rfl ?_
      exact L61 _ 0 false (Nat.lt_succ_self _) (by omega) ((decide_eq_false (fun q => (of_decide_eq_false c48) q.2)).symm)
    · skip
      refine x_iconst C dX9_chord_51 ?_
      refine x_goto C (tgt := 56) dX9_chord_52 (by decide) ?_
      refine x_istore C (ls' := [some (.ref b), some (vi w0), some (vi w1), some (vi w2), some (vi w3), some (vi w4), some (.ref qg), some (vi 0), some (vi 1), none, none, none, none, none, none]) dX9_chord_56 (by decide) rfl ?_
      refine x_iconst C dX9_chord_58 ?_
      refine x_istore C (ls' := [some (.ref b), some (vi w0), some (vi w1), some (vi w2), some (vi w3), some (vi w4), some (.ref qg), some (vi 0), some (vi 1), some (vi 0), none, none, none, none, none]) dX9_chord_59 (by decide) rfl ?_
      exact L61 _ 0 true (Nat.lt_succ_self _) (by omega) ((decide_eq_true (by have q1 := of_decide_eq_true c37; have q2 := of_decide_eq_true c48; exact ⟨q1, q2⟩)).symm)

set_option maxRecDepth 100000 in
set_option maxHeartbeats 4000000 in
theorem c_Mo_init {G : xG} {h : PH} {b : Nat} (hB : h b = (xO 8 [vi 0, vi 0, .null, .null, vi 0, vi 0, vi 0, .null, .null, .null, .null, .null, .null, vi 0, vi 0, .null]))  : Cn G m_Model_init 2 9 174 [.ref b] h (fun r h' => r = none ∧ ∃ a1 a2 a3 a4 a5 a6 a7 a8 a9, h' b = (xO 8 [vi 0, vi 0, .ref a1, .ref a2, vi 0, vi 3, vi 0, .ref a3, .ref a4, .ref a5, .ref a6, .ref a7, .ref a8, vi 0, vi 0, .ref a9]) ∧ h' a1 = xI G 6 (fun _ => 0) ∧ h' a3 = xQ G 3 12 (fun _ => none) ∧ h' a4 = xI G 12 (fun _ => 0) ∧ h' a5 = xZ G 12 (fun _ => false) ∧ a4 ≠ a5 ∧ (∀ y, alv h y → y ≠ b → h' y = h y) ∧ ∀ y, alv h y → y ≠ a1 ∧ y ≠ a3 ∧ y ≠ a4 ∧ y ≠ a5) := by
  refine Cn_of (by decide) (Nat.le_of_ble_eq_true rfl) (fun K C hR E => ?_)
  show X G K 1 0 [some (.ref b)] [] h 0 0
  refine x_aload_n C dX9_init_0 rfl rfl ?_
  refine x_objI C s_Model_1 o_inst o_code (Nat.le_of_ble_eq_true rfl) hR (by omega) dX9_init_1 ?_
  refine x_aload_n C dX9_init_4 rfl rfl ?_
  refine x_bipush C (z := 6) dX9_init_5 (by decide) ?_
  refine x_newI C (n := 6) ⟨by omega, by omega⟩ arrayClass_int hR (by omega) (by omega) dX9_init_7 (fun a1 za1 => ?_)
  have ne_b_a1 : b ≠ a1 := fun e => by rw [← e] at za1; exact absurd (za1.symm.trans hB) (by intro h9; cases h9)
  have na1 : ∀ y, alv h y → y ≠ a1 := fun y hy e => (show alv h y from hy) (by rw [e]; exact za1)
  refine x_putF C p_Model_9 E.2.1 ((up_n ne_b_a1).trans hB) (fit_arr _ _) (Nat.le_of_ble_eq_true rfl) (h1 := (va_up (va_up h a1 (xI G 6 (fun _ => 0))) b (xO 8 [vi 0, vi 0, .ref a1, .null, vi 0, vi 0, vi 0, .null, .null, .null, .null, .null, .null, vi 0, vi 0, .null]))) rfl dX9_init_9 ?_
  refine x_aload_n C dX9_init_12 rfl rfl ?_
  refine x_bipush C (z := 6) dX9_init_13 (by decide) ?_
  refine x_newZ C (n := 6) ⟨by omega, by omega⟩ arrayClass_boolean hR (by omega) (by omega) dX9_init_15 (fun a2 za2 => ?_)
  have ne_b_a2 : b ≠ a2 := fun e => by rw [← e] at za2; exact absurd (za2.symm.trans up_s) (by intro h9; cases h9)
  have ne_a1_a2 : a1 ≠ a2 := fun e => by rw [← e] at za2; exact absurd (za2.symm.trans ((up_n (Ne.symm ne_b_a1)).trans up_s)) (by intro h9; cases h9)
  have na2 : ∀ y, alv h y → y ≠ a2 := fun y hy e => (show alv (va_up (va_up h a1 (xI G 6 (fun _ => 0))) b (xO 8 [vi 0, vi 0, .ref a1, .null, vi 0, vi 0, vi 0, .null, .null, .null, .null, .null, .null, vi 0, vi 0, .null])) y from (alv_up (alv_up hy))) (by rw [e]; exact za2)
  refine x_putF C p_Model_13 E.2.1 ((up_n ne_b_a2).trans up_s) (fit_arr _ _) (Nat.le_of_ble_eq_true rfl) (h1 := (va_up (va_up (va_up h a1 (xI G 6 (fun _ => 0))) b (xO 8 [vi 0, vi 0, .ref a1, .ref a2, vi 0, vi 0, vi 0, .null, .null, .null, .null, .null, .null, vi 0, vi 0, .null])) a2 (xZ G 6 (fun _ => false)))) ((up_c _ _ _ (Ne.symm ne_b_a2)).trans (congrArg (fun f => va_up f a2 _) (up_u _ _ _ _))) dX9_init_17 ?_
  refine x_aload_n C dX9_init_20 rfl rfl ?_
  refine x_iconst C dX9_init_21 ?_
  refine x_put C p_Model_17 ((up_n ne_b_a2).trans up_s) (fit_int _) (Nat.le_of_ble_eq_true rfl) (h1 := (va_up (va_up (va_up h a1 (xI G 6 (fun _ => 0))) b (xO 8 [vi 0, vi 0, .ref a1, .ref a2, vi 0, vi 3, vi 0, .null, .null, .null, .null, .null, .null, vi 0, vi 0, .null])) a2 (xZ G 6 (fun _ => false)))) ((up_c _ _ _ (Ne.symm ne_b_a2)).trans (congrArg (fun f => va_up f a2 _) (up_u _ _ _ _))) dX9_init_22 ?_
  refine x_aload_n C dX9_init_25 rfl rfl ?_
  refine x_bipush C (z := 12) dX9_init_26 (by decide) ?_
  refine x_newA C (n := 12) ⟨by omega, by omega⟩ a_Model_21 (by decide) hR (by omega) (by omega) dX9_init_28 (fun a3 za3 => ?_)
  have ne_b_a3 : b ≠ a3 := fun e => by rw [← e] at za3; exact absurd (za3.symm.trans ((up_n ne_b_a2).trans up_s)) (by intro h9; cases h9)
  have ne_a1_a3 : a1 ≠ a3 := fun e => by rw [← e] at za3; exact absurd (za3.symm.trans ((up_n ne_a1_a2).trans ((up_n (Ne.symm ne_b_a1)).trans up_s))) (by intro h9; cases h9)
  have ne_a2_a3 : a2 ≠ a3 := fun e => by rw [← e] at za3; exact absurd (za3.symm.trans up_s) (by intro h9; cases h9)
  have na3 : ∀ y, alv h y → y ≠ a3 := fun y hy e => (show alv (va_up (va_up (va_up h a1 (xI G 6 (fun _ => 0))) b (xO 8 [vi 0, vi 0, .ref a1, .ref a2, vi 0, vi 3, vi 0, .null, .null, .null, .null, .null, .null, vi 0, vi 0, .null])) a2 (xZ G 6 (fun _ => false))) y from (alv_up (alv_up (alv_up hy)))) (by rw [e]; exact za3)
  refine x_putF C p_Model_22 E.2.1 ((up_n ne_b_a3).trans ((up_n ne_b_a2).trans up_s)) (fit_arr _ _) (Nat.le_of_ble_eq_true rfl) (h1 := (va_up (va_up (va_up (va_up h a1 (xI G 6 (fun _ => 0))) b (xO 8 [vi 0, vi 0, .ref a1, .ref a2, vi 0, vi 3, vi 0, .ref a3, .null, .null, .null, .null, .null, vi 0, vi 0, .null])) a2 (xZ G 6 (fun _ => false))) a3 (xQ G 3 12 (fun _ => none)))) ((up_c _ _ _ (Ne.symm ne_b_a3)).trans (congrArg (fun f => va_up f a3 _) ((up_c _ _ _ (Ne.symm ne_b_a2)).trans (congrArg (fun f => va_up f a2 _) (up_u _ _ _ _))))) dX9_init_31 ?_
  refine x_aload_n C dX9_init_34 rfl rfl ?_
  refine x_bipush C (z := 12) dX9_init_35 (by decide) ?_
  refine x_newI C (n := 12) ⟨by omega, by omega⟩ arrayClass_int hR (by omega) (by omega) dX9_init_37 (fun a4 za4 => ?_)
  have ne_b_a4 : b ≠ a4 := fun e => by rw [← e] at za4; exact absurd (za4.symm.trans ((up_n ne_b_a3).trans ((up_n ne_b_a2).trans up_s))) (by intro h9; cases h9)
  have ne_a1_a4 : a1 ≠ a4 := fun e => by rw [← e] at za4; exact absurd (za4.symm.trans ((up_n ne_a1_a3).trans ((up_n ne_a1_a2).trans ((up_n (Ne.symm ne_b_a1)).trans up_s)))) (by intro h9; cases h9)
  have ne_a2_a4 : a2 ≠ a4 := fun e => by rw [← e] at za4; exact absurd (za4.symm.trans ((up_n ne_a2_a3).trans up_s)) (by intro h9; cases h9)
  have ne_a3_a4 : a3 ≠ a4 := fun e => by rw [← e] at za4; exact absurd (za4.symm.trans up_s) (by intro h9; cases h9)
  have na4 : ∀ y, alv h y → y ≠ a4 := fun y hy e => (show alv (va_up (va_up (va_up (va_up h a1 (xI G 6 (fun _ => 0))) b (xO 8 [vi 0, vi 0, .ref a1, .ref a2, vi 0, vi 3, vi 0, .ref a3, .null, .null, .null, .null, .null, vi 0, vi 0, .null])) a2 (xZ G 6 (fun _ => false))) a3 (xQ G 3 12 (fun _ => none))) y from (alv_up (alv_up (alv_up (alv_up hy))))) (by rw [e]; exact za4)
  refine x_putF C p_Model_26 E.2.1 ((up_n ne_b_a4).trans ((up_n ne_b_a3).trans ((up_n ne_b_a2).trans up_s))) (fit_arr _ _) (Nat.le_of_ble_eq_true rfl) (h1 := (va_up (va_up (va_up (va_up (va_up h a1 (xI G 6 (fun _ => 0))) b (xO 8 [vi 0, vi 0, .ref a1, .ref a2, vi 0, vi 3, vi 0, .ref a3, .ref a4, .null, .null, .null, .null, vi 0, vi 0, .null])) a2 (xZ G 6 (fun _ => false))) a3 (xQ G 3 12 (fun _ => none))) a4 (xI G 12 (fun _ => 0)))) ((up_c _ _ _ (Ne.symm ne_b_a4)).trans (congrArg (fun f => va_up f a4 _) ((up_c _ _ _ (Ne.symm ne_b_a3)).trans (congrArg (fun f => va_up f a3 _) ((up_c _ _ _ (Ne.symm ne_b_a2)).trans (congrArg (fun f => va_up f a2 _) (up_u _ _ _ _))))))) dX9_init_39 ?_
  refine x_aload_n C dX9_init_42 rfl rfl ?_
  refine x_bipush C (z := 12) dX9_init_43 (by decide) ?_
  refine x_newZ C (n := 12) ⟨by omega, by omega⟩ arrayClass_boolean hR (by omega) (by omega) dX9_init_45 (fun a5 za5 => ?_)
  have ne_b_a5 : b ≠ a5 := fun e => by rw [← e] at za5; exact absurd (za5.symm.trans ((up_n ne_b_a4).trans ((up_n ne_b_a3).trans ((up_n ne_b_a2).trans up_s)))) (by intro h9; cases h9)
  have ne_a1_a5 : a1 ≠ a5 := fun e => by rw [← e] at za5; exact absurd (za5.symm.trans ((up_n ne_a1_a4).trans ((up_n ne_a1_a3).trans ((up_n ne_a1_a2).trans ((up_n (Ne.symm ne_b_a1)).trans up_s))))) (by intro h9; cases h9)
  have ne_a2_a5 : a2 ≠ a5 := fun e => by rw [← e] at za5; exact absurd (za5.symm.trans ((up_n ne_a2_a4).trans ((up_n ne_a2_a3).trans up_s))) (by intro h9; cases h9)
  have ne_a3_a5 : a3 ≠ a5 := fun e => by rw [← e] at za5; exact absurd (za5.symm.trans ((up_n ne_a3_a4).trans up_s)) (by intro h9; cases h9)
  have ne_a4_a5 : a4 ≠ a5 := fun e => by rw [← e] at za5; exact absurd (za5.symm.trans up_s) (by intro h9; cases h9)
  have na5 : ∀ y, alv h y → y ≠ a5 := fun y hy e => (show alv (va_up (va_up (va_up (va_up (va_up h a1 (xI G 6 (fun _ => 0))) b (xO 8 [vi 0, vi 0, .ref a1, .ref a2, vi 0, vi 3, vi 0, .ref a3, .ref a4, .null, .null, .null, .null, vi 0, vi 0, .null])) a2 (xZ G 6 (fun _ => false))) a3 (xQ G 3 12 (fun _ => none))) a4 (xI G 12 (fun _ => 0))) y from (alv_up (alv_up (alv_up (alv_up (alv_up hy)))))) (by rw [e]; exact za5)
  refine x_putF C p_Model_29 E.2.1 ((up_n ne_b_a5).trans ((up_n ne_b_a4).trans ((up_n ne_b_a3).trans ((up_n ne_b_a2).trans up_s)))) (fit_arr _ _) (Nat.le_of_ble_eq_true rfl) (h1 := (va_up (va_up (va_up (va_up (va_up (va_up h a1 (xI G 6 (fun _ => 0))) b (xO 8 [vi 0, vi 0, .ref a1, .ref a2, vi 0, vi 3, vi 0, .ref a3, .ref a4, .ref a5, .null, .null, .null, vi 0, vi 0, .null])) a2 (xZ G 6 (fun _ => false))) a3 (xQ G 3 12 (fun _ => none))) a4 (xI G 12 (fun _ => 0))) a5 (xZ G 12 (fun _ => false)))) ((up_c _ _ _ (Ne.symm ne_b_a5)).trans (congrArg (fun f => va_up f a5 _) ((up_c _ _ _ (Ne.symm ne_b_a4)).trans (congrArg (fun f => va_up f a4 _) ((up_c _ _ _ (Ne.symm ne_b_a3)).trans (congrArg (fun f => va_up f a3 _) ((up_c _ _ _ (Ne.symm ne_b_a2)).trans (congrArg (fun f => va_up f a2 _) (up_u _ _ _ _))))))))) dX9_init_47 ?_
  refine x_aload_n C dX9_init_50 rfl rfl ?_
  refine x_bipush C (z := 12) dX9_init_51 (by decide) ?_
  refine x_newA C (n := 12) ⟨by omega, by omega⟩ a_Model_21 (by decide) hR (by omega) (by omega) dX9_init_53 (fun a6 za6 => ?_)
  have ne_b_a6 : b ≠ a6 := fun e => by rw [← e] at za6; exact absurd (za6.symm.trans ((up_n ne_b_a5).trans ((up_n ne_b_a4).trans ((up_n ne_b_a3).trans ((up_n ne_b_a2).trans up_s))))) (by intro h9; cases h9)
  have ne_a1_a6 : a1 ≠ a6 := fun e => by rw [← e] at za6; exact absurd (za6.symm.trans ((up_n ne_a1_a5).trans ((up_n ne_a1_a4).trans ((up_n ne_a1_a3).trans ((up_n ne_a1_a2).trans ((up_n (Ne.symm ne_b_a1)).trans up_s)))))) (by intro h9; cases h9)
  have ne_a2_a6 : a2 ≠ a6 := fun e => by rw [← e] at za6; exact absurd (za6.symm.trans ((up_n ne_a2_a5).trans ((up_n ne_a2_a4).trans ((up_n ne_a2_a3).trans up_s)))) (by intro h9; cases h9)
  have ne_a3_a6 : a3 ≠ a6 := fun e => by rw [← e] at za6; exact absurd (za6.symm.trans ((up_n ne_a3_a5).trans ((up_n ne_a3_a4).trans up_s))) (by intro h9; cases h9)
  have ne_a4_a6 : a4 ≠ a6 := fun e => by rw [← e] at za6; exact absurd (za6.symm.trans ((up_n ne_a4_a5).trans up_s)) (by intro h9; cases h9)
  have ne_a5_a6 : a5 ≠ a6 := fun e => by rw [← e] at za6; exact absurd (za6.symm.trans up_s) (by intro h9; cases h9)
  have na6 : ∀ y, alv h y → y ≠ a6 := fun y hy e => (show alv (va_up (va_up (va_up (va_up (va_up (va_up h a1 (xI G 6 (fun _ => 0))) b (xO 8 [vi 0, vi 0, .ref a1, .ref a2, vi 0, vi 3, vi 0, .ref a3, .ref a4, .ref a5, .null, .null, .null, vi 0, vi 0, .null])) a2 (xZ G 6 (fun _ => false))) a3 (xQ G 3 12 (fun _ => none))) a4 (xI G 12 (fun _ => 0))) a5 (xZ G 12 (fun _ => false))) y from (alv_up (alv_up (alv_up (alv_up (alv_up (alv_up hy))))))) (by rw [e]; exact za6)
  refine x_putF C p_Model_32 E.2.1 ((up_n ne_b_a6).trans ((up_n ne_b_a5).trans ((up_n ne_b_a4).trans ((up_n ne_b_a3).trans ((up_n ne_b_a2).trans up_s))))) (fit_arr _ _) (Nat.le_of_ble_eq_true rfl) (h1 := (va_up (va_up (va_up (va_up (va_up (va_up (va_up h a1 (xI G 6 (fun _ => 0))) b (xO 8 [vi 0, vi 0, .ref a1, .ref a2, vi 0, vi 3, vi 0, .ref a3, .ref a4, .ref a5, .ref a6, .null, .null, vi 0, vi 0, .null])) a2 (xZ G 6 (fun _ => false))) a3 (xQ G 3 12 (fun _ => none))) a4 (xI G 12 (fun _ => 0))) a5 (xZ G 12 (fun _ => false))) a6 (xQ G 3 12 (fun _ => none)))) ((up_c _ _ _ (Ne.symm ne_b_a6)).trans (congrArg (fun f => va_up f a6 _) ((up_c _ _ _ (Ne.symm ne_b_a5)).trans (congrArg (fun f => va_up f a5 _) ((up_c _ _ _ (Ne.symm ne_b_a4)).trans (congrArg (fun f => va_up f a4 _) ((up_c _ _ _ (Ne.symm ne_b_a3)).trans (congrArg (fun f => va_up f a3 _) ((up_c _ _ _ (Ne.symm ne_b_a2)).trans (congrArg (fun f => va_up f a2 _) (up_u _ _ _ _))))))))))) dX9_init_56 ?_
  refine x_aload_n C dX9_init_59 rfl rfl ?_
  refine x_bipush C (z := 30) dX9_init_60 (by decide) ?_
  refine x_newA C (n := 30) ⟨by omega, by omega⟩ a_Model_21 (by decide) hR (by omega) (by omega) dX9_init_62 (fun a7 za7 => ?_)
  have ne_b_a7 : b ≠ a7 := fun e => by rw [← e] at za7; exact absurd (za7.symm.trans ((up_n ne_b_a6).trans ((up_n ne_b_a5).trans ((up_n ne_b_a4).trans ((up_n ne_b_a3).trans ((up_n ne_b_a2).trans up_s)))))) (by intro h9; cases h9)
  have ne_a1_a7 : a1 ≠ a7 := fun e => by rw [← e] at za7; exact absurd (za7.symm.trans ((up_n ne_a1_a6).trans ((up_n ne_a1_a5).trans ((up_n ne_a1_a4).trans ((up_n ne_a1_a3).trans ((up_n ne_a1_a2).trans ((up_n (Ne.symm ne_b_a1)).trans up_s))))))) (by intro h9; cases h9)
  have ne_a2_a7 : a2 ≠ a7 := fun e => by rw [← e] at za7; exact absurd (za7.symm.trans ((up_n ne_a2_a6).trans ((up_n ne_a2_a5).trans ((up_n ne_a2_a4).trans ((up_n ne_a2_a3).trans up_s))))) (by intro h9; cases h9)
  have ne_a3_a7 : a3 ≠ a7 := fun e => by rw [← e] at za7; exact absurd (za7.symm.trans ((up_n ne_a3_a6).trans ((up_n ne_a3_a5).trans ((up_n ne_a3_a4).trans up_s)))) (by intro h9; cases h9)
  have ne_a4_a7 : a4 ≠ a7 := fun e => by rw [← e] at za7; exact absurd (za7.symm.trans ((up_n ne_a4_a6).trans ((up_n ne_a4_a5).trans up_s))) (by intro h9; cases h9)
  have ne_a5_a7 : a5 ≠ a7 := fun e => by rw [← e] at za7; exact absurd (za7.symm.trans ((up_n ne_a5_a6).trans up_s)) (by intro h9; cases h9)
  have ne_a6_a7 : a6 ≠ a7 := fun e => by rw [← e] at za7; exact absurd (za7.symm.trans up_s) (by intro h9; cases h9)
  have na7 : ∀ y, alv h y → y ≠ a7 := fun y hy e => (show alv (va_up (va_up (va_up (va_up (va_up (va_up (va_up h a1 (xI G 6 (fun _ => 0))) b (xO 8 [vi 0, vi 0, .ref a1, .ref a2, vi 0, vi 3, vi 0, .ref a3, .ref a4, .ref a5, .ref a6, .null, .null, vi 0, vi 0, .null])) a2 (xZ G 6 (fun _ => false))) a3 (xQ G 3 12 (fun _ => none))) a4 (xI G 12 (fun _ => 0))) a5 (xZ G 12 (fun _ => false))) a6 (xQ G 3 12 (fun _ => none))) y from (alv_up (alv_up (alv_up (alv_up (alv_up (alv_up (alv_up hy)))))))) (by rw [e]; exact za7)
  refine x_put C p_Model_35 ((up_n ne_b_a7).trans ((up_n ne_b_a6).trans ((up_n ne_b_a5).trans ((up_n ne_b_a4).trans ((up_n ne_b_a3).trans ((up_n ne_b_a2).trans up_s)))))) (fit_arr _ _) (Nat.le_of_ble_eq_true rfl) (h1 := (va_up (va_up (va_up (va_up (va_up (va_up (va_up (va_up h a1 (xI G 6 (fun _ => 0))) b (xO 8 [vi 0, vi 0, .ref a1, .ref a2, vi 0, vi 3, vi 0, .ref a3, .ref a4, .ref a5, .ref a6, .ref a7, .null, vi 0, vi 0, .null])) a2 (xZ G 6 (fun _ => false))) a3 (xQ G 3 12 (fun _ => none))) a4 (xI G 12 (fun _ => 0))) a5 (xZ G 12 (fun _ => false))) a6 (xQ G 3 12 (fun _ => none))) a7 (xQ G 3 30 (fun _ => none)))) ((up_c _ _ _ (Ne.symm ne_b_a7)).trans (congrArg (fun f => va_up f a7 _) ((up_c _ _ _ (Ne.symm ne_b_a6)).trans (congrArg (fun f => va_up f a6 _) ((up_c _ _ _ (Ne.symm ne_b_a5)).trans (congrArg (fun f => va_up f a5 _) ((up_c _ _ _ (Ne.symm ne_b_a4)).trans (congrArg (fun f => va_up f a4 _) ((up_c _ _ _ (Ne.symm ne_b_a3)).trans (congrArg (fun f => va_up f a3 _) ((up_c _ _ _ (Ne.symm ne_b_a2)).trans (congrArg (fun f => va_up f a2 _) (up_u _ _ _ _))))))))))))) dX9_init_65 ?_
  refine x_aload_n C dX9_init_68 rfl rfl ?_
  refine x_bipush C (z := 30) dX9_init_69 (by decide) ?_
  refine x_newI C (n := 30) ⟨by omega, by omega⟩ arrayClass_int hR (by omega) (by omega) dX9_init_71 (fun a8 za8 => ?_)
  have ne_b_a8 : b ≠ a8 := fun e => by rw [← e] at za8; exact absurd (za8.symm.trans ((up_n ne_b_a7).trans ((up_n ne_b_a6).trans ((up_n ne_b_a5).trans ((up_n ne_b_a4).trans ((up_n ne_b_a3).trans ((up_n ne_b_a2).trans up_s))))))) (by intro h9; cases h9)
  have ne_a1_a8 : a1 ≠ a8 := fun e => by rw [← e] at za8; exact absurd (za8.symm.trans ((up_n ne_a1_a7).trans ((up_n ne_a1_a6).trans ((up_n ne_a1_a5).trans ((up_n ne_a1_a4).trans ((up_n ne_a1_a3).trans ((up_n ne_a1_a2).trans ((up_n (Ne.symm ne_b_a1)).trans up_s)))))))) (by intro h9; cases h9)
  have ne_a2_a8 : a2 ≠ a8 := fun e => by rw [← e] at za8; exact absurd (za8.symm.trans ((up_n ne_a2_a7).trans ((up_n ne_a2_a6).trans ((up_n ne_a2_a5).trans ((up_n ne_a2_a4).trans ((up_n ne_a2_a3).trans up_s)))))) (by intro h9; cases h9)
  have ne_a3_a8 : a3 ≠ a8 := fun e => by rw [← e] at za8; exact absurd (za8.symm.trans ((up_n ne_a3_a7).trans ((up_n ne_a3_a6).trans ((up_n ne_a3_a5).trans ((up_n ne_a3_a4).trans up_s))))) (by intro h9; cases h9)
  have ne_a4_a8 : a4 ≠ a8 := fun e => by rw [← e] at za8; exact absurd (za8.symm.trans ((up_n ne_a4_a7).trans ((up_n ne_a4_a6).trans ((up_n ne_a4_a5).trans up_s)))) (by intro h9; cases h9)
  have ne_a5_a8 : a5 ≠ a8 := fun e => by rw [← e] at za8; exact absurd (za8.symm.trans ((up_n ne_a5_a7).trans ((up_n ne_a5_a6).trans up_s))) (by intro h9; cases h9)
  have ne_a6_a8 : a6 ≠ a8 := fun e => by rw [← e] at za8; exact absurd (za8.symm.trans ((up_n ne_a6_a7).trans up_s)) (by intro h9; cases h9)
  have ne_a7_a8 : a7 ≠ a8 := fun e => by rw [← e] at za8; exact absurd (za8.symm.trans up_s) (by intro h9; cases h9)
  have na8 : ∀ y, alv h y → y ≠ a8 := fun y hy e => (show alv (va_up (va_up (va_up (va_up (va_up (va_up (va_up (va_up h a1 (xI G 6 (fun _ => 0))) b (xO 8 [vi 0, vi 0, .ref a1, .ref a2, vi 0, vi 3, vi 0, .ref a3, .ref a4, .ref a5, .ref a6, .ref a7, .null, vi 0, vi 0, .null])) a2 (xZ G 6 (fun _ => false))) a3 (xQ G 3 12 (fun _ => none))) a4 (xI G 12 (fun _ => 0))) a5 (xZ G 12 (fun _ => false))) a6 (xQ G 3 12 (fun _ => none))) a7 (xQ G 3 30 (fun _ => none))) y from (alv_up (alv_up (alv_up (alv_up (alv_up (alv_up (alv_up (alv_up hy))))))))) (by rw [e]; exact za8)
  refine x_putF C p_Model_38 E.2.1 ((up_n ne_b_a8).trans ((up_n ne_b_a7).trans ((up_n ne_b_a6).trans ((up_n ne_b_a5).trans ((up_n ne_b_a4).trans ((up_n ne_b_a3).trans ((up_n ne_b_a2).trans up_s))))))) (fit_arr _ _) (Nat.le_of_ble_eq_true rfl) (h1 := (va_up (va_up (va_up (va_up (va_up (va_up (va_up (va_up (va_up h a1 (xI G 6 (fun _ => 0))) b (xO 8 [vi 0, vi 0, .ref a1, .ref a2, vi 0, vi 3, vi 0, .ref a3, .ref a4, .ref a5, .ref a6, .ref a7, .ref a8, vi 0, vi 0, .null])) a2 (xZ G 6 (fun _ => false))) a3 (xQ G 3 12 (fun _ => none))) a4 (xI G 12 (fun _ => 0))) a5 (xZ G 12 (fun _ => false))) a6 (xQ G 3 12 (fun _ => none))) a7 (xQ G 3 30 (fun _ => none))) a8 (xI G 30 (fun _ => 0)))) ((up_c _ _ _ (Ne.symm ne_b_a8)).trans (congrArg (fun f => va_up f a8 _) ((up_c _ _ _ (Ne.symm ne_b_a7)).trans (congrArg (fun f => va_up f a7 _) ((up_c _ _ _ (Ne.symm ne_b_a6)).trans (congrArg (fun f => va_up f a6 _) ((up_c _ _ _ (Ne.symm ne_b_a5)).trans (congrArg (fun f => va_up f a5 _) ((up_c _ _ _ (Ne.symm ne_b_a4)).trans (congrArg (fun f => va_up f a4 _) ((up_c _ _ _ (Ne.symm ne_b_a3)).trans (congrArg (fun f => va_up f a3 _) ((up_c _ _ _ (Ne.symm ne_b_a2)).trans (congrArg (fun f => va_up f a2 _) (up_u _ _ _ _))))))))))))))) dX9_init_73 ?_
  refine x_aload_n C dX9_init_76 rfl rfl ?_
  refine x_iconst C dX9_init_77 ?_
  refine x_newI C (n := 0) ⟨by omega, by omega⟩ arrayClass_int hR (by omega) (by omega) dX9_init_78 (fun a9 za9 => ?_)
  have ne_b_a9 : b ≠ a9 := fun e => by rw [← e] at za9; exact absurd (za9.symm.trans ((up_n ne_b_a8).trans ((up_n ne_b_a7).trans ((up_n ne_b_a6).trans ((up_n ne_b_a5).trans ((up_n ne_b_a4).trans ((up_n ne_b_a3).trans ((up_n ne_b_a2).trans up_s)))))))) (by intro h9; cases h9)
  have ne_a1_a9 : a1 ≠ a9 := fun e => by rw [← e] at za9; exact absurd (za9.symm.trans ((up_n ne_a1_a8).trans ((up_n ne_a1_a7).trans ((up_n ne_a1_a6).trans ((up_n ne_a1_a5).trans ((up_n ne_a1_a4).trans ((up_n ne_a1_a3).trans ((up_n ne_a1_a2).trans ((up_n (Ne.symm ne_b_a1)).trans up_s))))))))) (by intro h9; cases h9)
  have ne_a2_a9 : a2 ≠ a9 := fun e => by rw [← e] at za9; exact absurd (za9.symm.trans ((up_n ne_a2_a8).trans ((up_n ne_a2_a7).trans ((up_n ne_a2_a6).trans ((up_n ne_a2_a5).trans ((up_n ne_a2_a4).trans ((up_n ne_a2_a3).trans up_s))))))) (by intro h9; cases h9)
  have ne_a3_a9 : a3 ≠ a9 := fun e => by rw [← e] at za9; exact absurd (za9.symm.trans ((up_n ne_a3_a8).trans ((up_n ne_a3_a7).trans ((up_n ne_a3_a6).trans ((up_n ne_a3_a5).trans ((up_n ne_a3_a4).trans up_s)))))) (by intro h9; cases h9)
  have ne_a4_a9 : a4 ≠ a9 := fun e => by rw [← e] at za9; exact absurd (za9.symm.trans ((up_n ne_a4_a8).trans ((up_n ne_a4_a7).trans ((up_n ne_a4_a6).trans ((up_n ne_a4_a5).trans up_s))))) (by intro h9; cases h9)
  have ne_a5_a9 : a5 ≠ a9 := fun e => by rw [← e] at za9; exact absurd (za9.symm.trans ((up_n ne_a5_a8).trans ((up_n ne_a5_a7).trans ((up_n ne_a5_a6).trans up_s)))) (by intro h9; cases h9)
  have ne_a6_a9 : a6 ≠ a9 := fun e => by rw [← e] at za9; exact absurd (za9.symm.trans ((up_n ne_a6_a8).trans ((up_n ne_a6_a7).trans up_s))) (by intro h9; cases h9)
  have ne_a7_a9 : a7 ≠ a9 := fun e => by rw [← e] at za9; exact absurd (za9.symm.trans ((up_n ne_a7_a8).trans up_s)) (by intro h9; cases h9)
  have ne_a8_a9 : a8 ≠ a9 := fun e => by rw [← e] at za9; exact absurd (za9.symm.trans up_s) (by intro h9; cases h9)
  have na9 : ∀ y, alv h y → y ≠ a9 := fun y hy e => (show alv (va_up (va_up (va_up (va_up (va_up (va_up (va_up (va_up (va_up h a1 (xI G 6 (fun _ => 0))) b (xO 8 [vi 0, vi 0, .ref a1, .ref a2, vi 0, vi 3, vi 0, .ref a3, .ref a4, .ref a5, .ref a6, .ref a7, .ref a8, vi 0, vi 0, .null])) a2 (xZ G 6 (fun _ => false))) a3 (xQ G 3 12 (fun _ => none))) a4 (xI G 12 (fun _ => 0))) a5 (xZ G 12 (fun _ => false))) a6 (xQ G 3 12 (fun _ => none))) a7 (xQ G 3 30 (fun _ => none))) a8 (xI G 30 (fun _ => 0))) y from (alv_up (alv_up (alv_up (alv_up (alv_up (alv_up (alv_up (alv_up (alv_up hy)))))))))) (by rw [e]; exact za9)
  refine x_put C p_Model_41 ((up_n ne_b_a9).trans ((up_n ne_b_a8).trans ((up_n ne_b_a7).trans ((up_n ne_b_a6).trans ((up_n ne_b_a5).trans ((up_n ne_b_a4).trans ((up_n ne_b_a3).trans ((up_n ne_b_a2).trans up_s)))))))) (fit_arr _ _) (Nat.le_of_ble_eq_true rfl) (h1 := (va_up (va_up (va_up (va_up (va_up (va_up (va_up (va_up (va_up (va_up h a1 (xI G 6 (fun _ => 0))) b (xO 8 [vi 0, vi 0, .ref a1, .ref a2, vi 0, vi 3, vi 0, .ref a3, .ref a4, .ref a5, .ref a6, .ref a7, .ref a8, vi 0, vi 0, .ref a9])) a2 (xZ G 6 (fun _ => false))) a3 (xQ G 3 12 (fun _ => none))) a4 (xI G 12 (fun _ => 0))) a5 (xZ G 12 (fun _ => false))) a6 (xQ G 3 12 (fun _ => none))) a7 (xQ G 3 30 (fun _ => none))) a8 (xI G 30 (fun _ => 0))) a9 (xI G 0 (fun _ => 0)))) ((up_c _ _ _ (Ne.symm ne_b_a9)).trans (congrArg (fun f => va_up f a9 _) ((up_c _ _ _ (Ne.symm ne_b_a8)).trans (congrArg (fun f => va_up f a8 _) ((up_c _ _ _ (Ne.symm ne_b_a7)).trans (congrArg (fun f => va_up f a7 _) ((up_c _ _ _ (Ne.symm ne_b_a6)).trans (congrArg (fun f => va_up f a6 _) ((up_c _ _ _ (Ne.symm ne_b_a5)).trans (congrArg (fun f => va_up f a5 _) ((up_c _ _ _ (Ne.symm ne_b_a4)).trans (congrArg (fun f => va_up f a4 _) ((up_c _ _ _ (Ne.symm ne_b_a3)).trans (congrArg (fun f => va_up f a3 _) ((up_c _ _ _ (Ne.symm ne_b_a2)).trans (congrArg (fun f => va_up f a2 _) (up_u _ _ _ _))))))))))))))))) dX9_init_80 ?_
  exact x_vret C E rfl (by omega) (by omega) dX9_init_83 (⟨rfl, a1, a2, a3, a4, a5, a6, a7, a8, a9, ((up_n ne_b_a9).trans ((up_n ne_b_a8).trans ((up_n ne_b_a7).trans ((up_n ne_b_a6).trans ((up_n ne_b_a5).trans ((up_n ne_b_a4).trans ((up_n ne_b_a3).trans ((up_n ne_b_a2).trans up_s)))))))), ((up_n ne_a1_a9).trans ((up_n ne_a1_a8).trans ((up_n ne_a1_a7).trans ((up_n ne_a1_a6).trans ((up_n ne_a1_a5).trans ((up_n ne_a1_a4).trans ((up_n ne_a1_a3).trans ((up_n ne_a1_a2).trans ((up_n (Ne.symm ne_b_a1)).trans up_s))))))))), ((up_n ne_a3_a9).trans ((up_n ne_a3_a8).trans ((up_n ne_a3_a7).trans ((up_n ne_a3_a6).trans ((up_n ne_a3_a5).trans ((up_n ne_a3_a4).trans up_s)))))), ((up_n ne_a4_a9).trans ((up_n ne_a4_a8).trans ((up_n ne_a4_a7).trans ((up_n ne_a4_a6).trans ((up_n ne_a4_a5).trans up_s))))), ((up_n ne_a5_a9).trans ((up_n ne_a5_a8).trans ((up_n ne_a5_a7).trans ((up_n ne_a5_a6).trans up_s)))), ne_a4_a5, fun y hy yb => ((up_n (na9 y hy)).trans ((up_n (na8 y hy)).trans ((up_n (na7 y hy)).trans ((up_n (na6 y hy)).trans ((up_n (na5 y hy)).trans ((up_n (na4 y hy)).trans ((up_n (na3 y hy)).trans ((up_n (na2 y hy)).trans ((up_n yb).trans ((up_n (na1 y hy)).trans rfl)))))))))), fun y hy => ⟨na1 y hy, na3 y hy, na4 y hy, na5 y hy⟩⟩)

set_option maxRecDepth 100000 in
set_option maxHeartbeats 4000000 in
theorem c_sumLen0 {G : xG} {h : PH} {ad : Nat → Nat} (hj : ∀ i j, i < 300 → j < 300 → ad i = ad j → i = j) {fq : Bool} {Q : Ins} {P : Pie} (T : TabR G h ad fq Q P) (hm : P.m = 0) : Cn G m_Piece_sumOfLengths 0 0 0 [.ref (ad 7)] h (fun r h' => r = some (vi 0) ∧ h' = h) := by
  refine Cn_of (by decide) (Nat.le_of_ble_eq_true rfl) (fun K C hR E => ?_)
  show X G K 3 0 [some (.ref (ad 7)), none, none] [] h 0 0
  refine x_iconst C dX5_sumOfLengths_0 ?_
  refine x_istore_n C (ls' := [some (.ref (ad 7)), some (vi 0), none]) dX5_sumOfLengths_1 rfl (by decide) rfl ?_
  refine x_iconst C dX5_sumOfLengths_2 ?_
  refine x_istore_n C (ls' := [some (.ref (ad 7)), some (vi 0), some (vi 0)]) dX5_sumOfLengths_3 rfl (by decide) rfl ?_
  refine x_iload_n C dX5_sumOfLengths_4 rfl rfl ?_
  refine x_aload_n C dX5_sumOfLengths_5 rfl rfl ?_
  refine x_get C f_Piece_17 T.2.2.2.1.1 rfl dX5_sumOfLengths_6 ?_
  refine x_icmp_ge C (tgt := 30) dX5_sumOfLengths_9 (by decide) (by decide) ⟨by omega, by omega⟩ (fun c9 => ?_) (fun c9 => ?_)
  · skip
    refine x_iload_n C dX5_sumOfLengths_30 rfl rfl ?_
    exact x_iret C E rfl (by omega) (by omega) dX5_sumOfLengths_31 (⟨rfl, rfl⟩)
  · skip
    exfalso; omega

set_option maxRecDepth 100000 in
set_option maxHeartbeats 4000000 in
theorem c_meanEffort0 {G : xG} {h : PH} {ad : Nat → Nat} (hj : ∀ i j, i < 300 → j < 300 → ad i = ad j → i = j) {fq : Bool} {Q : Ins} {P : Pie} (T : TabR G h ad fq Q P) (hm : P.m = 0) (ht : qT Q P = -1)  : Cn G m_Tab_meanEffort 10 0 0 [.ref (ad 0)] h (fun r h' => r = some (.double FP.dconst0) ∧ TabR G h' ad true Q P ∧ frO ad h h') := by
  refine Cn_of (by decide) (Nat.le_of_ble_eq_true rfl) (fun K C hR E => ?_)
  obtain ⟨st, hst, h0, hPA, hPF⟩ := id T.1
  have IV1 := T.2.2.2.2.2.2.2.1
  have CV1 := T.2.2.2.2.2.2.2.2
  have IVn := IV1.1
  have CVm := CV1.1
  show X G K 2 0 [some (.ref (ad 0)), none] [] h 0 0
  refine x_aload_n C dX8_meanEffort_0 rfl rfl ?_
  refine x_invV C s_Tab_168 (st := []) (c_refresh hj T) h0 rfl rfl (Nat.le_of_ble_eq_true rfl) (xRm_of hR (by omega) (by decide) (by omega) (by omega)) dX8_meanEffort_1 (fun r9 h9 hq => ?_)
  obtain ⟨rfl, T1, F1⟩ := hq
  obtain ⟨h01, Ls1, fx1, ln1, ch1, rs1, PQ1, VQ1, AQ1⟩ := T1.plR
  refine x_aload_n C dX8_meanEffort_4 rfl rfl ?_
  refine x_get C f_Tab_22 h01 rfl dX8_meanEffort_5 ?_
  refine x_invV C s_Tab_204 (st := []) (c_sumLen0 hj T1 hm) T1.2.2.2.1.1 rfl rfl (Nat.le_of_ble_eq_true rfl) (xRm_of hR (by omega) (by decide) (by omega) (by omega)) dX8_meanEffort_8 (fun r9 h8 hq => ?_)
  obtain ⟨rfl, e9⟩ := hq
  have e9 := e9.symm
  subst e9
  refine x_istore_n C (ls' := [some (.ref (ad 0)), some (vi 0)]) dX8_meanEffort_11 rfl (by decide) rfl ?_
  refine x_aload_n C dX8_meanEffort_12 rfl rfl ?_
  refine x_get C f_Tab_29 h01 rfl dX8_meanEffort_13 ?_
  refine x_get C f_Tab_195 PQ1.1 rfl dX8_meanEffort_16 ?_
  refine x_iconst C dX8_meanEffort_19 ?_
  refine x_icmp_eq C (tgt := 27) dX8_meanEffort_20 (by decide) (by rw [ht]; decide) (by decide) (fun c20 => ?_) (fun c20 => ?_)
  · skip
    refine x_dconst0 C dX8_meanEffort_27 ?_
    refine x_goto C (tgt := 42) dX8_meanEffort_28 (by decide) ?_
    exact x_dret C E rfl (by omega) (by omega) dX8_meanEffort_42 (⟨rfl, T1, F1⟩)
  · skip
    exact absurd ht c20
