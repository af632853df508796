/-! Planner.solve. -/
def CHp (Ls : Nat → List Nat) (fx ln : Nat → Int) (cnt : Nat) : Nat → Int
  | 0 => -1
  | k + 1 => CH Ls fx ln cnt k
theorem CHp_bd (Ls : Nat → List Nat) (fx ln : Nat → Int) {cnt : Nat} (hl : ∀ c, c < cnt → (Ls c).length ≤ 30) : ∀ c, -1 ≤ CHp Ls fx ln cnt c ∧ CHp Ls fx ln cnt c ≤ 30 := by
  intro c
  have key : ∀ d b, -1 ≤ bestF Ls fx ln cnt (RS Ls fx ln cnt) d b ∧ bestF Ls fx ln cnt (RS Ls fx ln cnt) d b ≤ 30 := fun d b => by
    have := bestF_rg Ls fx ln cnt (RS Ls fx ln cnt) d b
    by_cases q : d < cnt
    · have := hl d q; omega
    · omega
  cases c with
  | zero => show -1 ≤ (-1 : Int) ∧ (-1 : Int) ≤ 30; omega
  | succ c => cases c with
    | zero => exact key _ _
    | succ c => exact key _ _
theorem CHp_s (Ls : Nat → List Nat) (fx ln : Nat → Int) (cnt k : Nat) : CH Ls fx ln cnt k = bestF Ls fx ln cnt (RS Ls fx ln cnt) k (CHp Ls fx ln cnt k) := by
  cases k <;> rfl
theorem RS_0 {Ls : Nat → List Nat} {fx ln : Nat → Int} {cnt c : Nat} (h : c < cnt) (g : Nat) (q : bestF Ls fx ln cnt (RS Ls fx ln cnt) (c + 1) (g : Int) = -1) : hEff (fr ((Ls c).getD g 0)) + 0 = RS Ls fx ln cnt c g := by
  rw [RS_c h, if_pos q]
theorem RS_1 {Ls : Nat → List Nat} {fx ln : Nat → Int} {cnt c : Nat} (h : c < cnt) (g : Nat) (q : ¬ bestF Ls fx ln cnt (RS Ls fx ln cnt) (c + 1) (g : Int) = -1) : hEff (fr ((Ls c).getD g 0)) + (RS Ls fx ln cnt (c + 1) (bestF Ls fx ln cnt (RS Ls fx ln cnt) (c + 1) (g : Int)).toNat + mvF Ls ln cnt (c : Int) (g : Int) (bestF Ls fx ln cnt (RS Ls fx ln cnt) (c + 1) (g : Int))) = RS Ls fx ln cnt c g := by
  rw [RS_c h, if_neg q]
theorem rowUp {R1 : Nat → Nat → Int} {c : Nat} {r1 : Nat → Int} (h1 : ∀ c g, -1000000 ≤ R1 c g ∧ R1 c g ≤ 1000000) (h2 : ∀ g, -1000000 ≤ r1 g ∧ r1 g ≤ 1000000) : ∀ d g, -1000000 ≤ va_up R1 c r1 d g ∧ va_up R1 c r1 d g ≤ 1000000 := by
  intro d g
  by_cases q : d = c
  · subst q; rw [up_s]; exact h2 g
  · rw [up_n q]; exact h1 d g
theorem lineUp {r1 : Nat → Int} {k : Nat} {v : Int} (h2 : ∀ g, -1000000 ≤ r1 g ∧ r1 g ≤ 1000000) (h : -1000000 ≤ v ∧ v ≤ 1000000) : ∀ g, -1000000 ≤ va_up r1 k v g ∧ va_up r1 k v g ≤ 1000000 := by
  intro g
  by_cases q : g = k
  · subst q; rw [up_s]; exact h
  · rw [up_n q]; exact h2 g
theorem upk_upk {α : Type} (k : Nat) (f g x : Nat → α) : upk k f (upk k g x) = upk k f x := by
  funext c; unfold upk; split <;> simp_all
theorem chS_bd {Ls : Nat → List Nat} {fx ln ch : Nat → Int} {cnt : Nat} (hl : ∀ c, c < cnt → (Ls c).length ≤ 30) (h : ∀ c, bd (ch c)) : ∀ c, bd (chS Ls fx ln ch cnt c) := by
  intro c
  have h1 := CHp_bd Ls fx ln hl (c + 1)
  unfold chS
  split
  · exact upk_bd (fun _ => ⟨by decide, by decide⟩) h c
  · unfold upk; split
    · exact ⟨by have := h1.1; show -2147483648 ≤ CHp Ls fx ln cnt (c + 1); omega, by have := h1.2; show CHp Ls fx ln cnt (c + 1) < 2147483648; omega⟩
    · exact h c
theorem totS_rg (Ls : Nat → List Nat) (fx ln : Nat → Int) {cnt : Nat} (h : cnt ≤ 12) : -100 ≤ totS Ls fx ln cnt ∧ totS Ls fx ln cnt ≤ 12000 := by
  unfold totS
  split
  · omega
  · split
    · exact RS_rg Ls fx ln h _ _
    · omega

set_option maxRecDepth 100000 in
set_option maxHeartbeats 4000000 in
theorem c_solve {G : xG} {h : PH} {ad : Nat → Nat} {B : Nat} {Ls : Nat → List Nat} {fx ln ch : Nat → Int} {tot : Int} {cnt : Nat} {rs : Nat → Nat → Int} (hj : ∀ i j, i < 300 → j < 300 → ad i = ad j → i = j) (hB : B = 100 ∨ B = 200) (P : PR G h ad B Ls fx ln ch tot cnt rs) (V : PV fx ln ch tot cnt rs) : Cn G m_Plan_solve 3 0 0 [.ref (ad B)] h (fun r h' => r = none ∧ ∃ rs2, PR G h' ad B Ls fx ln (chS Ls fx ln ch cnt) (totS Ls fx ln cnt) cnt rs2 ∧ PV fx ln (chS Ls fx ln ch cnt) (totS Ls fx ln cnt) cnt rs2 ∧ frB ad B h h') := by
  refine Cn_of (by decide) (Nat.le_of_ble_eq_true rfl) (fun K C hR E => ?_)
  have V3 := V.2.2.1
  have hl30 : ∀ d, d < cnt → (Ls d).length ≤ 30 := fun d hd => (P.2.2.2.2.2.2.2.1 d (by omega)).len
  have hch1 : ∀ d, bd ((upk cnt (fun _ => (-1 : Int)) ch) d) := upk_bd (fun _ => ⟨by decide, by decide⟩) (fun d => (V.1 d).2.2)
  have hgl := gless_rg Ls cnt
  have hcs := chS_bd (fx := fx) (ln := ln) hl30 (fun d => (V.1 d).2.2)
  have hts := totS_rg Ls fx ln V3
  show X G K 5 0 [some (.ref (ad B)), none, none, none, none] [] h 0 0
  refine x_aload_n C dX6_solve_0 rfl rfl ?_
  refine x_iconst C dX6_solve_1 ?_
  refine x_put C p_Plan_24 P.1 (fit_int _) (Nat.le_of_ble_eq_true rfl) (h1 := (va_up h (ad B) (xO 5 [.ref (ad (B + 1)), .ref (ad (B + 2)), .ref (ad (B + 3)), vi (-1), .ref (ad (B + 4)), .ref (ad (B + 5)), .ref (ad (B + 6)), vi (cnt : Int)]))) rfl dX6_solve_2 ?_
  refine x_iconst C dX6_solve_5 ?_
  refine x_istore_n C (ls' := [some (.ref (ad B)), some (vi 0), none, none, none]) dX6_solve_6 rfl (by decide) rfl ?_
  have L7 : ∀ (n0 : Nat) (k : Nat) (g : Nat → Int), cnt - k < n0 → (k ≤ cnt) → (g = upk k (fun _ => (-1 : Int)) ch) → X G K 5 7 [some (.ref (ad B)), some (vi (k : Int)), none, none, none] [] (va_up (va_up h (ad B) (xO 5 [.ref (ad (B + 1)), .ref (ad (B + 2)), .ref (ad (B + 3)), vi (-1), .ref (ad (B + 4)), .ref (ad (B + 5)), .ref (ad (B + 6)), vi (cnt : Int)])) (ad (B + 3)) (xI G 12 g)) 0 0 := by
    intro n0
    induction n0 with
    | zero => intro k g hm; exact absurd hm (Nat.not_lt_zero _)
    | succ n0 ih_L7 =>
      intro k g hm i1 i2
      refine x_iload_n C dX6_solve_7 rfl rfl ?_
      refine x_aload_n C dX6_solve_8 rfl rfl ?_
      refine x_get C f_Plan_43 ((up_n (adne hj (by omega) (by omega) (by omega))).trans up_s) rfl dX6_solve_9 ?_
      refine x_icmp_ge C (tgt := 28) dX6_solve_12 (by decide) ⟨by omega, by omega⟩ ⟨by omega, by omega⟩ (fun c12 => ?_) (fun c12 => ?_)
      · skip
        have i2 : g = upk cnt (fun _ => (-1 : Int)) ch := by rw [i2, show k = cnt by omega]
        refine x_aload_n C dX6_solve_28 rfl rfl ?_
        refine x_get C f_Plan_43 ((up_n (adne hj (by omega) (by omega) (by omega))).trans up_s) rfl dX6_solve_29 ?_
        refine x_if_eq C (tgt := 42) dX6_solve_32 (by decide) ⟨by omega, by omega⟩ (fun c32 => ?_) (fun c32 => ?_)
        · skip
          subst i2
          have e9 : (cnt : Int) = 0 ∨ 0 < gless Ls cnt := by omega
          have e1 : chS Ls fx ln ch cnt = (upk cnt (fun _ => (-1 : Int)) ch) := by unfold chS; rw [if_pos e9]
          have e2 : totS Ls fx ln cnt = -1 := by unfold totS; rw [if_pos e9]
          exact x_vret C E rfl (by omega) (by omega) dX6_solve_42 (⟨rfl, rs, by rw [e1, e2]; exact PR.chs hj hB (PR.tots hj hB P (-1) cnt) _, ⟨fun d => ⟨(V.1 d).1, (V.1 d).2.1, hcs d⟩, ⟨by omega, by omega⟩, V3, V.2.2.2⟩, (fun x hx => (up_n (hx 3 (by omega))).trans ((up_n (hx 0 (by omega))).trans rfl))⟩)
        · skip
          refine x_aload_n C dX6_solve_35 rfl rfl ?_
          refine x_invV C s_Plan_120 (st := []) (c_gripless hj hB (PR.chs hj hB (PR.tots hj hB P (-1) cnt) g) (show PV fx ln g (-1) cnt rs from ⟨fun d => ⟨(V.1 d).1, (V.1 d).2.1, (by rw [i2]; exact hch1 d)⟩, ⟨by decide, by decide⟩, V.2.2.1, V.2.2.2⟩)) ((up_n (adne hj (by omega) (by omega) (by omega))).trans up_s) rfl rfl (Nat.le_of_ble_eq_true rfl) (xRm_of hR (by omega) (by decide) (by omega) (by omega)) dX6_solve_36 (fun r9 h9 hq => ?_)
          obtain ⟨rfl, e9⟩ := hq
          have e9 := e9.symm
          subst e9
          refine x_if_le C (tgt := 43) dX6_solve_39 (by decide) ⟨by omega, by omega⟩ (fun c39 => ?_) (fun c39 => ?_)
          · skip
            refine x_aload_n C dX6_solve_43 rfl rfl ?_
            refine x_get C f_Plan_43 ((up_n (adne hj (by omega) (by omega) (by omega))).trans up_s) rfl dX6_solve_44 ?_
            refine x_iconst C dX6_solve_47 ?_
            refine x_isub C dX6_solve_48 ?_
            refine x_istore_n C (ls' := [some (.ref (ad B)), some (vi ((cnt : Int) - 1)), none, none, none]) dX6_solve_49 rfl (by decide) rfl ?_
            have L50 : ∀ (n0 : Nat) (z : Int) (hp : PH) (R1 : Nat → Nat → Int), (z + 1).toNat < n0 → (-1 ≤ z ∧ z < cnt) → (PR G hp ad B Ls fx ln (upk cnt (fun _ => (-1 : Int)) ch) (-1) cnt R1) → (frB ad B h hp) → (∀ c g, -1000000 ≤ R1 c g ∧ R1 c g ≤ 1000000) → (∀ (c : Nat), z < (c : Int) → c < cnt → ∀ g, g < (Ls c).length → R1 c g = RS Ls fx ln cnt c g) → X G K 5 50 [some (.ref (ad B)), some (vi z), none, none, none] [] hp 0 0 := by
              intro n0
              induction n0 with
              | zero => intro z hp R1 hm; exact absurd hm (Nat.not_lt_zero _)
              | succ n0 ih_L50 =>
                intro z hp R1 hm k1 P1 F B1 R2
                refine x_iload_n C dX6_solve_50 rfl rfl ?_
                refine x_if_lt C (tgt := 141) dX6_solve_51 (by decide) ⟨by omega, by omega⟩ (fun c51 => ?_) (fun c51 => ?_)
                · skip
                  refine x_iconst C dX6_solve_141 ?_
                  refine x_istore_n C (ls' := [some (.ref (ad B)), some (vi (-1)), none, none, none]) dX6_solve_142 rfl (by decide) rfl ?_
                  refine x_iconst C dX6_solve_143 ?_
                  refine x_istore_n C (ls' := [some (.ref (ad B)), some (vi (-1)), some (vi 0), none, none]) dX6_solve_144 rfl (by decide) rfl ?_
                  have L145 : ∀ (n0 : Nat) (k : Nat) (b : Int) (g : Nat → Int), cnt - k < n0 → (k ≤ cnt) → (b = CHp Ls fx ln cnt k) → (g = upk k (CH Ls fx ln cnt) (upk cnt (fun _ => (-1 : Int)) ch)) → X G K 5 145 [some (.ref (ad B)), some (vi b), some (vi (k : Int)), none, none] [] (va_up hp (ad (B + 3)) (xI G 12 g)) 0 0 := by
                    intro n0
                    induction n0 with
                    | zero => intro k b g hm; exact absurd hm (Nat.not_lt_zero _)
                    | succ n0 ih_L145 =>
                      intro k b g hm j1 j2 j3
                      refine x_iload_n C dX6_solve_145 rfl rfl ?_
                      refine x_aload_n C dX6_solve_146 rfl rfl ?_
                      refine x_get C f_Plan_43 ((up_n (adne hj (by omega) (by omega) (by omega))).trans P1.1) rfl dX6_solve_147 ?_
                      refine x_icmp_ge C (tgt := 178) dX6_solve_150 (by decide) ⟨by omega, by omega⟩ ⟨by omega, by omega⟩ (fun c150 => ?_) (fun c150 => ?_)
                      · skip
                        have e0 : k = cnt := by omega
                        have j3 : g = upk cnt (CH Ls fx ln cnt) (upk cnt (fun _ => (-1 : Int)) ch) := by rw [j3, e0]
                        have hg0 : g 0 = CH Ls fx ln cnt 0 := by rw [j3]; exact upk_lt _ _ (by omega)
                        have hl0 := hl30 0 (by omega)
                        have hb0 := CHp_bd Ls fx ln hl30 1
                        have hb0 : -1 ≤ CH Ls fx ln cnt 0 ∧ CH Ls fx ln cnt 0 ≤ 30 := hb0
                        refine x_aload_n C dX6_solve_178 rfl rfl ?_
                        refine x_aload_n C dX6_solve_179 rfl rfl ?_
                        refine x_get C f_Plan_11 ((up_n (adne hj (by omega) (by omega) (by omega))).trans P1.1) rfl dX6_solve_180 ?_
                        refine x_iconst C dX6_solve_183 ?_
                        refine x_aald C (t := 5) rfl rfl ((up_n (adne hj (by omega) (by omega) (by omega))).trans P1.2.1) ⟨by omega, by omega, by omega⟩ (b := (ad (B + 8 + 0))) rfl dX6_solve_184 ?_
                        refine x_aload_n C dX6_solve_185 rfl rfl ?_
                        refine x_get C f_Plan_21 ((up_n (adne hj (by omega) (by omega) (by omega))).trans P1.1) rfl dX6_solve_186 ?_
                        refine x_iconst C dX6_solve_189 ?_
                        refine x_iald C up_s ⟨by omega, by omega, by omega⟩ (v := (g 0)) rfl dX6_solve_190 ?_
                        refine x_invV C s_Plan_132 (st := [.ref (ad B)]) (c_Grips_has ((up_n (adne hj (by omega) (by omega) (by omega))).trans (P1.2.2.2.2.2.2.2.1 0 (by omega)).obj) hl0 (by rw [hg0]; exact ⟨by omega, by omega⟩)) ((up_n (adne hj (by omega) (by omega) (by omega))).trans (P1.2.2.2.2.2.2.2.1 0 (by omega)).obj) rfl rfl (Nat.le_of_ble_eq_true rfl) (xRm_of hR (by omega) (by decide) (by omega) (by omega)) dX6_solve_191 (fun r9 h9 hq => ?_)
                        obtain ⟨rfl, e9⟩ := hq
                        have e9 := e9.symm
                        subst e9
                        refine x_ifeqB C (tgt := 213) dX6_solve_194 (by decide) (fun c194 => ?_) (fun c194 => ?_)
                        · skip
                          rw [decide_eq_false_iff_not] at c194
                          refine x_iconst C dX6_solve_213 ?_
                          refine x_put C p_Plan_24 ((up_n (adne hj (by omega) (by omega) (by omega))).trans P1.1) (fit_int _) (Nat.le_of_ble_eq_true rfl) (h1 := (va_up (va_up hp (ad (B + 3)) (xI G 12 g)) (ad B) (xO 5 [.ref (ad (B + 1)), .ref (ad (B + 2)), .ref (ad (B + 3)), vi (-1), .ref (ad (B + 4)), .ref (ad (B + 5)), .ref (ad (B + 6)), vi (cnt : Int)]))) rfl dX6_solve_214 ?_
                          have e9 : ¬ ((cnt : Int) = 0 ∨ 0 < gless Ls cnt) := by omega
                          have e1 : chS Ls fx ln ch cnt = g := by unfold chS; rw [if_neg e9, j3, upk_upk]
                          have e2 : totS Ls fx ln cnt = -1 := by unfold totS; rw [if_neg e9, ← hg0, if_neg c194]
                          exact x_vret C E rfl (by omega) (by omega) dX6_solve_217 (⟨rfl, R1, by rw [e1, e2]; exact PR.tots hj hB (PR.chs hj hB P1 g) _ cnt, ⟨fun d => ⟨(V.1 d).1, (V.1 d).2.1, hcs d⟩, ⟨by omega, by omega⟩, V3, B1⟩, fun x hx => (up_n (hx 0 (by omega))).trans ((up_n (hx 3 (by omega))).trans (F x hx))⟩)
                        · skip
                          rw [decide_eq_true_eq] at c194
                          refine x_aload_n C dX6_solve_197 rfl rfl ?_
                          refine x_get C f_Plan_33 ((up_n (adne hj (by omega) (by omega) (by omega))).trans P1.1) rfl dX6_solve_198 ?_
                          refine x_iconst C dX6_solve_201 ?_
                          refine x_aald C (t := 3) rfl rfl ((up_n (adne hj (by omega) (by omega) (by omega))).trans P1.2.2.2.2.2.1) ⟨by omega, by omega, by omega⟩ (b := (ad (B + 56 + 0))) rfl dX6_solve_202 ?_
                          refine x_aload_n C dX6_solve_203 rfl rfl ?_
                          refine x_get C f_Plan_21 ((up_n (adne hj (by omega) (by omega) (by omega))).trans P1.1) rfl dX6_solve_204 ?_
                          refine x_iconst C dX6_solve_207 ?_
                          refine x_iald C up_s ⟨by omega, by omega, by omega⟩ (v := (g 0)) rfl dX6_solve_208 ?_
                          refine x_iald C ((up_n (adne hj (by omega) (by omega) (by omega))).trans (P1.2.2.2.2.2.2.2.2 0 (by omega))) ⟨by omega, by omega, by omega⟩ (v := ((R1 0) (g 0).toNat)) rfl dX6_solve_209 ?_
                          refine x_goto C (tgt := 214) dX6_solve_210 (by decide) ?_
                          refine x_put C p_Plan_24 ((up_n (adne hj (by omega) (by omega) (by omega))).trans P1.1) (fit_int _) (Nat.le_of_ble_eq_true rfl) (h1 := (va_up (va_up hp (ad (B + 3)) (xI G 12 g)) (ad B) (xO 5 [.ref (ad (B + 1)), .ref (ad (B + 2)), .ref (ad (B + 3)), vi ((R1 0) (g 0).toNat), .ref (ad (B + 4)), .ref (ad (B + 5)), .ref (ad (B + 6)), vi (cnt : Int)]))) rfl dX6_solve_214 ?_
                          have e9 : ¬ ((cnt : Int) = 0 ∨ 0 < gless Ls cnt) := by omega
                          have e1 : chS Ls fx ln ch cnt = g := by unfold chS; rw [if_neg e9, j3, upk_upk]
                          have e2 : totS Ls fx ln cnt = R1 0 (g 0).toNat := by unfold totS; rw [if_neg e9, ← hg0, if_pos c194]; exact (R2 0 (by omega) (by omega) _ (by omega)).symm
                          exact x_vret C E rfl (by omega) (by omega) dX6_solve_217 (⟨rfl, R1, by rw [e1, e2]; exact PR.tots hj hB (PR.chs hj hB P1 g) _ cnt, ⟨fun d => ⟨(V.1 d).1, (V.1 d).2.1, hcs d⟩, ⟨by omega, by omega⟩, V3, B1⟩, fun x hx => (up_n (hx 0 (by omega))).trans ((up_n (hx 3 (by omega))).trans (F x hx))⟩)
                      · skip
                        have hbb := CHp_bd Ls fx ln hl30 k
                        have hbs := CHp_bd Ls fx ln hl30 (k + 1)
                        have hg2 : ∀ d, bd (g d) := fun d => by rw [j3]; exact upk_bd (fun e => by have := CHp_bd Ls fx ln hl30 (e + 1); exact ⟨by show -2147483648 ≤ CHp Ls fx ln cnt (e + 1); omega, by show CHp Ls fx ln cnt (e + 1) < 2147483648; omega⟩) hch1 d
                        have he2 : bestF Ls fx ln cnt R1 k b = CH Ls fx ln cnt k := by rw [CHp_s, ← j2]; exact bestF_cong (fun hc9 j hj9 => R2 k (by omega) hc9 j hj9)
                        refine x_aload_n C dX6_solve_153 rfl rfl ?_
                        refine x_get C f_Plan_21 ((up_n (adne hj (by omega) (by omega) (by omega))).trans P1.1) rfl dX6_solve_154 ?_
                        refine x_iload_n C dX6_solve_157 rfl rfl ?_
                        refine x_aload_n C dX6_solve_158 rfl rfl ?_
                        refine x_iload_n C dX6_solve_159 rfl rfl ?_
                        refine x_iload_n C dX6_solve_160 rfl rfl ?_
                        refine x_invV C s_Plan_123 (st := [vi (k : Int), .ref (ad (B + 3))]) (c_bestAt hj hB (PR.chs hj hB P1 g) (show PV fx ln g (-1) cnt R1 from ⟨fun d => ⟨(V.1 d).1, (V.1 d).2.1, hg2 d⟩, ⟨by decide, by decide⟩, V.2.2.1, B1⟩) (c := k) (before := b) (by omega) ⟨by omega, by omega⟩) ((up_n (adne hj (by omega) (by omega) (by omega))).trans P1.1) rfl rfl (Nat.le_of_ble_eq_true rfl) (xRm_of hR (by omega) (by decide) (by omega) (by omega)) dX6_solve_161 (fun r9 h9 hq => ?_)
                        obtain ⟨rfl, e9⟩ := hq
                        have e9 := e9.symm
                        subst e9
                        refine x_re (b := (CH Ls fx ln cnt k)) (he2) ?_
                        refine x_iast C up_s ⟨by omega, by omega, by omega⟩ (h1 := (va_up hp (ad (B + 3)) (xI G 12 (va_up g k (CH Ls fx ln cnt k))))) (up_u _ _ _ _) dX6_solve_164 ?_
                        refine x_aload_n C dX6_solve_165 rfl rfl ?_
                        refine x_get C f_Plan_21 ((up_n (adne hj (by omega) (by omega) (by omega))).trans P1.1) rfl dX6_solve_166 ?_
                        refine x_iload_n C dX6_solve_169 rfl rfl ?_
                        refine x_iald C up_s ⟨by omega, by omega, by omega⟩ (v := ((va_up g k (CH Ls fx ln cnt k)) k)) rfl dX6_solve_170 ?_
                        refine x_istore_n C (ls' := [some (.ref (ad B)), some (vi ((va_up g k (CH Ls fx ln cnt k)) k)), some (vi (k : Int)), none, none]) dX6_solve_171 rfl (by decide) rfl ?_
                        refine x_iinc C (ls' := [some (.ref (ad B)), some (vi ((va_up g k (CH Ls fx ln cnt k)) k)), some (vi ((k : Int) + 1)), none, none]) dX6_solve_172 rfl (by decide) (z1 := ((k : Int) + 1)) rfl rfl ?_
                        refine x_goto C (tgt := 145) dX6_solve_175 (by decide) ?_
                        exact ih_L145 (k + 1) ((va_up g k (CH Ls fx ln cnt k)) k) (va_up g k (CH Ls fx ln cnt k)) (by omega) (by omega) (up_s) (by rw [j3]; exact upk_s _ _ _)
                  refine X.heq (up_self P1.2.2.2.1).symm ?_
                  exact L145 _ 0 (-1) (upk cnt (fun _ => (-1 : Int)) ch) (Nat.lt_succ_self _) (Nat.zero_le _) (rfl) ((upk_0 _ _).symm)
                · skip
                  obtain ⟨c, rfl⟩ : ∃ c : Nat, z = c := ⟨z.toNat, by omega⟩
                  have hlc := hl30 c (by omega)
                  refine x_iconst C dX6_solve_54 ?_
                  refine x_istore_n C (ls' := [some (.ref (ad B)), some (vi (c : Int)), some (vi 0), none, none]) dX6_solve_55 rfl (by decide) rfl ?_
                  have L56 : ∀ (n0 : Nat) (g : Nat) (r1 : Nat → Int), (Ls c).length - g < n0 → (g ≤ (Ls c).length) → (∀ j, j < g → r1 j = RS Ls fx ln cnt c j) → (∀ j, -1000000 ≤ r1 j ∧ r1 j ≤ 1000000) → X G K 5 56 [some (.ref (ad B)), some (vi (c : Int)), some (vi (g : Int)), none, none] [] (va_up hp (ad (B + 56 + c)) (xI G 30 r1)) 0 0 := by
                    intro n0
                    induction n0 with
                    | zero => intro g r1 hm; exact absurd hm (Nat.not_lt_zero _)
                    | succ n0 ih_L56 =>
                      intro g r1 hm j1 j2 j3
                      refine x_iload_n C dX6_solve_56 rfl rfl ?_
                      refine x_aload_n C dX6_solve_57 rfl rfl ?_
                      refine x_get C f_Plan_11 ((up_n (adne hj (by omega) (by omega) (by omega))).trans P1.1) rfl dX6_solve_58 ?_
                      refine x_iload_n C dX6_solve_61 rfl rfl ?_
                      refine x_aald C (t := 5) rfl rfl ((up_n (adne hj (by omega) (by omega) (by omega))).trans P1.2.1) ⟨by omega, by omega, by omega⟩ (b := (ad (B + 8 + c))) rfl dX6_solve_62 ?_
                      refine x_get C f_Plan_60 ((up_n (adne hj (by omega) (by omega) (by omega))).trans (P1.2.2.2.2.2.2.2.1 c (by omega)).obj) rfl dX6_solve_63 ?_
                      refine x_icmp_ge C (tgt := 135) dX6_solve_66 (by decide) ⟨by omega, by omega⟩ ⟨by omega, by omega⟩ (fun c66 => ?_) (fun c66 => ?_)
                      · skip
                        refine x_iinc C (ls' := [some (.ref (ad B)), some (vi ((c : Int) + (-1))), some (vi (g : Int)), none, none]) dX6_solve_135 rfl (by decide) (z1 := ((c : Int) + (-1))) rfl rfl ?_
                        refine x_goto C (tgt := 50) dX6_solve_138 (by decide) ?_
                        refine X.sub (ls' := [some (.ref (ad B)), some (vi ((c : Int) + (-1))), none, none, none]) (sub_cons (Or.inr rfl) (sub_cons (Or.inr rfl) (sub_cons (Or.inl rfl) (sub_cons (Or.inl rfl) (sub_cons (Or.inl rfl) sub_nil))))) ?_
                        exact ih_L50 ((c : Int) + (-1)) (va_up hp (ad (B + 56 + c)) (xI G 30 r1)) _ (by omega) (⟨by omega, by omega⟩) (PR.row hj hB P1 (by omega) r1) (fun x hx => (up_n (by rw [Nat.add_assoc]; exact hx _ (by omega))).trans (F x hx)) (rowUp B1 j3) (fun d h1 h2 j hj9 => by
    by_cases q : d = c
    · subst q; rw [up_s]; exact j2 j (by omega)
    · rw [up_n q]; exact R2 d (by omega) h2 j hj9)
                      · skip
                        have hb1 := bestF_rg Ls fx ln cnt (RS Ls fx ln cnt) (c + 1) (g : Int)
                        have hb2 : (bestF Ls fx ln cnt (RS Ls fx ln cnt) (c + 1) (g : Int)) ≤ 30 := (hb1.2.elim (fun q => by omega) (fun q => by have := hl30 (c + 1) q.1; omega))
                        have he1 : bestF Ls fx ln cnt (va_up R1 c r1) (c + 1) (g : Int) = (bestF Ls fx ln cnt (RS Ls fx ln cnt) (c + 1) (g : Int)) := bestF_cong (fun hc9 j hj9 => by rw [up_n (by omega)]; exact R2 (c + 1) (by omega) hc9 j hj9)
                        refine x_aload_n C dX6_solve_69 rfl rfl ?_
                        refine x_iload_n C dX6_solve_70 rfl rfl ?_
                        refine x_iconst C dX6_solve_71 ?_
                        refine x_iadd C dX6_solve_72 ?_
                        refine x_iload_n C dX6_solve_73 rfl rfl ?_
                        refine x_invV C s_Plan_123 (st := []) (c_bestAt hj hB (PR.row hj hB P1 (by omega) r1) (show PV fx ln (upk cnt (fun _ => (-1 : Int)) ch) (-1) cnt (va_up R1 c r1) from ⟨fun d => ⟨(V.1 d).1, (V.1 d).2.1, hch1 d⟩, ⟨by decide, by decide⟩, V.2.2.1, rowUp B1 j3⟩) (c := c + 1) (before := (g : Int)) (by omega) ⟨by omega, by omega⟩) ((up_n (adne hj (by omega) (by omega) (by omega))).trans P1.1) rfl rfl (Nat.le_of_ble_eq_true rfl) (xRm_of hR (by omega) (by decide) (by omega) (by omega)) dX6_solve_74 (fun r9 h9 hq => ?_)
                        obtain ⟨rfl, e9⟩ := hq
                        have e9 := e9.symm
                        subst e9
                        refine x_re (b := (bestF Ls fx ln cnt (RS Ls fx ln cnt) (c + 1) (g : Int))) (he1) ?_
                        refine x_istore_n C (ls' := [some (.ref (ad B)), some (vi (c : Int)), some (vi (g : Int)), some (vi (bestF Ls fx ln cnt (RS Ls fx ln cnt) (c + 1) (g : Int))), none]) dX6_solve_77 rfl (by decide) rfl ?_
                        refine x_iload_n C dX6_solve_78 rfl rfl ?_
                        refine x_iconst C dX6_solve_79 ?_
                        refine x_icmp_ne C (tgt := 87) dX6_solve_80 (by decide) ⟨by omega, by omega⟩ (by decide) (fun c80 => ?_) (fun c80 => ?_)
                        · skip
                          have hl2 := hl30 (c + 1) (by omega)
                          have hrs : R1 (c + 1) (bestF Ls fx ln cnt (RS Ls fx ln cnt) (c + 1) (g : Int)).toNat = RS Ls fx ln cnt (c + 1) (bestF Ls fx ln cnt (RS Ls fx ln cnt) (c + 1) (g : Int)).toNat := R2 (c + 1) (by omega) (by omega) _ (by omega)
                          refine x_aload_n C dX6_solve_87 rfl rfl ?_
                          refine x_get C f_Plan_33 ((up_n (adne hj (by omega) (by omega) (by omega))).trans P1.1) rfl dX6_solve_88 ?_
                          refine x_iload_n C dX6_solve_91 rfl rfl ?_
                          refine x_iconst C dX6_solve_92 ?_
                          refine x_iadd C dX6_solve_93 ?_
                          refine x_aald C (t := 3) rfl rfl ((up_n (adne hj (by omega) (by omega) (by omega))).trans P1.2.2.2.2.2.1) ⟨by omega, by omega, by omega⟩ (b := (ad (B + 56 + (c + 1)))) rfl dX6_solve_94 ?_
                          refine x_iload_n C dX6_solve_95 rfl rfl ?_
                          refine x_iald C ((up_n (adne hj (by omega) (by omega) (by omega))).trans (P1.2.2.2.2.2.2.2.2 (c + 1) (by omega))) ⟨by omega, by omega, by omega⟩ (v := ((R1 (c + 1)) (bestF Ls fx ln cnt (RS Ls fx ln cnt) (c + 1) (g : Int)).toNat)) rfl dX6_solve_96 ?_
                          refine x_re (b := (RS Ls fx ln cnt (c + 1) (bestF Ls fx ln cnt (RS Ls fx ln cnt) (c + 1) (g : Int)).toNat)) (hrs) ?_
                          refine x_aload_n C dX6_solve_97 rfl rfl ?_
                          refine x_iload_n C dX6_solve_98 rfl rfl ?_
                          refine x_iload_n C dX6_solve_99 rfl rfl ?_
                          refine x_iload_n C dX6_solve_100 rfl rfl ?_
                          refine x_invV C s_Plan_126 (st := [vi (RS Ls fx ln cnt (c + 1) (bestF Ls fx ln cnt (RS Ls fx ln cnt) (c + 1) (g : Int)).toNat)]) (c_moveCost hj hB (PR.row hj hB P1 (by omega) r1) (show PV fx ln (upk cnt (fun _ => (-1 : Int)) ch) (-1) cnt (va_up R1 c r1) from ⟨fun d => ⟨(V.1 d).1, (V.1 d).2.1, hch1 d⟩, ⟨by decide, by decide⟩, V.2.2.1, rowUp B1 j3⟩) (c := (c : Int)) (g := (g : Int)) (n := (bestF Ls fx ln cnt (RS Ls fx ln cnt) (c + 1) (g : Int))) ⟨by omega, by omega⟩ ⟨by omega, by omega⟩ ⟨by omega, by omega⟩) ((up_n (adne hj (by omega) (by omega) (by omega))).trans P1.1) rfl rfl (Nat.le_of_ble_eq_true rfl) (xRm_of hR (by omega) (by decide) (by omega) (by omega)) dX6_solve_101 (fun r9 h9 hq => ?_)
                          obtain ⟨rfl, e9⟩ := hq
                          have e9 := e9.symm
                          subst e9
                          refine x_iadd C dX6_solve_104 ?_
                          refine x_istore C (ls' := [some (.ref (ad B)), some (vi (c : Int)), some (vi (g : Int)), some (vi (bestF Ls fx ln cnt (RS Ls fx ln cnt) (c + 1) (g : Int))), some (vi ((RS Ls fx ln cnt (c + 1) (bestF Ls fx ln cnt (RS Ls fx ln cnt) (c + 1) (g : Int)).toNat) + (mvF Ls ln cnt (c : Int) (g : Int) (bestF Ls fx ln cnt (RS Ls fx ln cnt) (c + 1) (g : Int)))))]) dX6_solve_105 (by decide) rfl ?_
                          obtain ⟨gbc, gec, glc, -, hgbc, hgec, hglc, hGLc⟩ := P1.2.2.2.2.2.2.2.1 c (by omega)
                          have hxg := RS_rg Ls fx ln V3 c g
                          refine x_aload_n C dX6_solve_107 rfl rfl ?_
                          refine x_get C f_Plan_33 ((up_n (adne hj (by omega) (by omega) (by omega))).trans P1.1) rfl dX6_solve_108 ?_
                          refine x_iload_n C dX6_solve_111 rfl rfl ?_
                          refine x_aald C (t := 3) rfl rfl ((up_n (adne hj (by omega) (by omega) (by omega))).trans P1.2.2.2.2.2.1) ⟨by omega, by omega, by omega⟩ (b := (ad (B + 56 + c))) rfl dX6_solve_112 ?_
                          refine x_iload_n C dX6_solve_113 rfl rfl ?_
                          refine x_aload_n C dX6_solve_114 rfl rfl ?_
                          refine x_get C f_Plan_11 ((up_n (adne hj (by omega) (by omega) (by omega))).trans P1.1) rfl dX6_solve_115 ?_
                          refine x_iload_n C dX6_solve_118 rfl rfl ?_
                          refine x_aald C (t := 5) rfl rfl ((up_n (adne hj (by omega) (by omega) (by omega))).trans P1.2.1) ⟨by omega, by omega, by omega⟩ (b := (ad (B + 8 + c))) rfl dX6_solve_119 ?_
                          refine x_get C f_Plan_129 ((up_n (adne hj (by omega) (by omega) (by omega))).trans (P1.2.2.2.2.2.2.2.1 c (by omega)).obj) rfl dX6_solve_120 ?_
                          refine x_iload_n C dX6_solve_123 rfl rfl ?_
                          refine x_iald C ((up_n (adne hj (by omega) (by omega) (by omega))).trans hgec) ⟨by omega, by omega, by omega⟩ (v := (gec g)) rfl dX6_solve_124 ?_
                          refine x_re (b := (hEff (fr ((Ls c).getD g 0)))) ((hGLc.2.1 g (by omega)).2.1) ?_
                          refine x_iload C dX6_solve_125 rfl ?_
                          refine x_iadd C dX6_solve_127 ?_
                          refine x_iast C up_s ⟨by omega, by omega, by omega⟩ (h1 := (va_up hp (ad (B + 56 + c)) (xI G 30 (va_up r1 g ((hEff (fr ((Ls c).getD g 0))) + ((RS Ls fx ln cnt (c + 1) (bestF Ls fx ln cnt (RS Ls fx ln cnt) (c + 1) (g : Int)).toNat) + (mvF Ls ln cnt (c : Int) (g : Int) (bestF Ls fx ln cnt (RS Ls fx ln cnt) (c + 1) (g : Int))))))))) (up_u _ _ _ _) dX6_solve_128 ?_
                          refine x_iinc C (ls' := [some (.ref (ad B)), some (vi (c : Int)), some (vi ((g : Int) + 1)), some (vi (bestF Ls fx ln cnt (RS Ls fx ln cnt) (c + 1) (g : Int))), some (vi ((RS Ls fx ln cnt (c + 1) (bestF Ls fx ln cnt (RS Ls fx ln cnt) (c + 1) (g : Int)).toNat) + (mvF Ls ln cnt (c : Int) (g : Int) (bestF Ls fx ln cnt (RS Ls fx ln cnt) (c + 1) (g : Int)))))]) dX6_solve_129 rfl (by decide) (z1 := ((g : Int) + 1)) rfl rfl ?_
                          refine x_goto C (tgt := 56) dX6_solve_132 (by decide) ?_
                          refine X.sub (ls' := [some (.ref (ad B)), some (vi (c : Int)), some (vi ((g : Int) + 1)), none, none]) (sub_cons (Or.inr rfl) (sub_cons (Or.inr rfl) (sub_cons (Or.inr rfl) (sub_cons (Or.inl rfl) (sub_cons (Or.inl rfl) sub_nil))))) ?_
                          have hv : ((hEff (fr ((Ls c).getD g 0))) + ((RS Ls fx ln cnt (c + 1) (bestF Ls fx ln cnt (RS Ls fx ln cnt) (c + 1) (g : Int)).toNat) + (mvF Ls ln cnt (c : Int) (g : Int) (bestF Ls fx ln cnt (RS Ls fx ln cnt) (c + 1) (g : Int))))) = RS Ls fx ln cnt c g := RS_1 (by omega) g c80
                          exact ih_L56 (g + 1) (va_up r1 g ((hEff (fr ((Ls c).getD g 0))) + ((RS Ls fx ln cnt (c + 1) (bestF Ls fx ln cnt (RS Ls fx ln cnt) (c + 1) (g : Int)).toNat) + (mvF Ls ln cnt (c : Int) (g : Int) (bestF Ls fx ln cnt (RS Ls fx ln cnt) (c + 1) (g : Int)))))) (by omega) (by omega) (fun j hj9 => by
                            by_cases q : j = g
                            · subst q; rw [up_s]; exact hv
                            · rw [up_n q]; exact j2 j (by omega)) (lineUp j3 (by rw [hv]; exact ⟨by omega, by omega⟩))
                        · skip
                          refine x_iconst C dX6_solve_83 ?_
                          refine x_goto C (tgt := 105) dX6_solve_84 (by decide) ?_
                          refine x_istore C (ls' := [some (.ref (ad B)), some (vi (c : Int)), some (vi (g : Int)), some (vi (bestF Ls fx ln cnt (RS Ls fx ln cnt) (c + 1) (g : Int))), some (vi 0)]) dX6_solve_105 (by decide) rfl ?_
                          obtain ⟨gbc, gec, glc, -, hgbc, hgec, hglc, hGLc⟩ := P1.2.2.2.2.2.2.2.1 c (by omega)
                          have hxg := RS_rg Ls fx ln V3 c g
                          refine x_aload_n C dX6_solve_107 rfl rfl ?_
                          refine x_get C f_Plan_33 ((up_n (adne hj (by omega) (by omega) (by omega))).trans P1.1) rfl dX6_solve_108 ?_
                          refine x_iload_n C dX6_solve_111 rfl rfl ?_
                          refine x_aald C (t := 3) rfl rfl ((up_n (adne hj (by omega) (by omega) (by omega))).trans P1.2.2.2.2.2.1) ⟨by omega, by omega, by omega⟩ (b := (ad (B + 56 + c))) rfl dX6_solve_112 ?_
                          refine x_iload_n C dX6_solve_113 rfl rfl ?_
                          refine x_aload_n C dX6_solve_114 rfl rfl ?_
                          refine x_get C f_Plan_11 ((up_n (adne hj (by omega) (by omega) (by omega))).trans P1.1) rfl dX6_solve_115 ?_
                          refine x_iload_n C dX6_solve_118 rfl rfl ?_
                          refine x_aald C (t := 5) rfl rfl ((up_n (adne hj (by omega) (by omega) (by omega))).trans P1.2.1) ⟨by omega, by omega, by omega⟩ (b := (ad (B + 8 + c))) rfl dX6_solve_119 ?_
                          refine x_get C f_Plan_129 ((up_n (adne hj (by omega) (by omega) (by omega))).trans (P1.2.2.2.2.2.2.2.1 c (by omega)).obj) rfl dX6_solve_120 ?_
                          refine x_iload_n C dX6_solve_123 rfl rfl ?_
                          refine x_iald C ((up_n (adne hj (by omega) (by omega) (by omega))).trans hgec) ⟨by omega, by omega, by omega⟩ (v := (gec g)) rfl dX6_solve_124 ?_
                          refine x_re (b := (hEff (fr ((Ls c).getD g 0)))) ((hGLc.2.1 g (by omega)).2.1) ?_
                          refine x_iload C dX6_solve_125 rfl ?_
                          refine x_iadd C dX6_solve_127 ?_
                          refine x_iast C up_s ⟨by omega, by omega, by omega⟩ (h1 := (va_up hp (ad (B + 56 + c)) (xI G 30 (va_up r1 g ((hEff (fr ((Ls c).getD g 0))) + 0))))) (up_u _ _ _ _) dX6_solve_128 ?_
                          refine x_iinc C (ls' := [some (.ref (ad B)), some (vi (c : Int)), some (vi ((g : Int) + 1)), some (vi (bestF Ls fx ln cnt (RS Ls fx ln cnt) (c + 1) (g : Int))), some (vi 0)]) dX6_solve_129 rfl (by decide) (z1 := ((g : Int) + 1)) rfl rfl ?_
                          refine x_goto C (tgt := 56) dX6_solve_132 (by decide) ?_
                          refine X.sub (ls' := [some (.ref (ad B)), some (vi (c : Int)), some (vi ((g : Int) + 1)), none, none]) (sub_cons (Or.inr rfl) (sub_cons (Or.inr rfl) (sub_cons (Or.inr rfl) (sub_cons (Or.inl rfl) (sub_cons (Or.inl rfl) sub_nil))))) ?_
                          have hv : ((hEff (fr ((Ls c).getD g 0))) + 0) = RS Ls fx ln cnt c g := RS_0 (by omega) g c80
                          exact ih_L56 (g + 1) (va_up r1 g ((hEff (fr ((Ls c).getD g 0))) + 0)) (by omega) (by omega) (fun j hj9 => by
                            by_cases q : j = g
                            · subst q; rw [up_s]; exact hv
                            · rw [up_n q]; exact j2 j (by omega)) (lineUp j3 (by rw [hv]; exact ⟨by omega, by omega⟩))
                  refine X.heq (up_self (P1.2.2.2.2.2.2.2.2 c (by omega))).symm ?_
                  exact L56 _ 0 (R1 c) (Nat.lt_succ_self _) (Nat.zero_le _) (fun j hj9 => absurd hj9 (Nat.not_lt_zero _)) (B1 c)
            exact L50 _ ((cnt : Int) - 1) (va_up (va_up h (ad B) (xO 5 [.ref (ad (B + 1)), .ref (ad (B + 2)), .ref (ad (B + 3)), vi (-1), .ref (ad (B + 4)), .ref (ad (B + 5)), .ref (ad (B + 6)), vi (cnt : Int)])) (ad (B + 3)) (xI G 12 g)) _ (Nat.lt_succ_self _) (⟨by omega, by omega⟩) (by subst i2; exact (PR.chs hj hB (PR.tots hj hB P (-1) cnt) _)) ((fun x hx => (up_n (hx 3 (by omega))).trans ((up_n (hx 0 (by omega))).trans rfl))) (V.2.2.2) (fun c h1 h2 => absurd h1 (by omega))
          · skip
            subst i2
            have e9 : (cnt : Int) = 0 ∨ 0 < gless Ls cnt := by omega
            have e1 : chS Ls fx ln ch cnt = (upk cnt (fun _ => (-1 : Int)) ch) := by unfold chS; rw [if_pos e9]
            have e2 : totS Ls fx ln cnt = -1 := by unfold totS; rw [if_pos e9]
            exact x_vret C E rfl (by omega) (by omega) dX6_solve_42 (⟨rfl, rs, by rw [e1, e2]; exact PR.chs hj hB (PR.tots hj hB P (-1) cnt) _, ⟨fun d => ⟨(V.1 d).1, (V.1 d).2.1, hcs d⟩, ⟨by omega, by omega⟩, V3, V.2.2.2⟩, (fun x hx => (up_n (hx 3 (by omega))).trans ((up_n (hx 0 (by omega))).trans rfl))⟩)
      · skip
        refine x_aload_n C dX6_solve_15 rfl rfl ?_
        refine x_get C f_Plan_21 ((up_n (adne hj (by omega) (by omega) (by omega))).trans up_s) rfl dX6_solve_16 ?_
        refine x_iload_n C dX6_solve_19 rfl rfl ?_
        refine x_iconst C dX6_solve_20 ?_
        refine x_iast C up_s ⟨by omega, by omega, by omega⟩ (h1 := (va_up (va_up h (ad B) (xO 5 [.ref (ad (B + 1)), .ref (ad (B + 2)), .ref (ad (B + 3)), vi (-1), .ref (ad (B + 4)), .ref (ad (B + 5)), .ref (ad (B + 6)), vi (cnt : Int)])) (ad (B + 3)) (xI G 12 (va_up g k (-1))))) (up_u _ _ _ _) dX6_solve_21 ?_
        refine x_iinc C (ls' := [some (.ref (ad B)), some (vi ((k : Int) + 1)), none, none, none]) dX6_solve_22 rfl (by decide) (z1 := ((k : Int) + 1)) rfl rfl ?_
        refine x_goto C (tgt := 7) dX6_solve_25 (by decide) ?_
        exact ih_L7 (k + 1) (va_up g k (-1)) (by omega) (by omega) (by rw [i2]; exact upk_s _ _ _)
  refine X.heq (up_self ((up_n (adne hj (by omega) (by omega) (by omega))).trans P.2.2.2.1)).symm ?_
  exact L7 _ 0 ch (Nat.lt_succ_self _) (Nat.zero_le _) ((upk_0 _ _).symm)
