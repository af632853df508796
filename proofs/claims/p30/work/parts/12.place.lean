/-! Planner.place. -/
def plcQ (G : xG) (h : PH) (a b e l u v : Nat) (L : List Nat) : Option Value → PH → Prop := fun r h' => r = none ∧ HG G h' a b e l L ∧ HH G h' u v ∧ ∀ x, x ≠ a → x ≠ b → x ≠ e → x ≠ l → x ≠ u → x ≠ v → h' x = h x
/-- what place needs of instrument and chord, at one heap -/
def plcP (G : xG) (h : PH) (i o s c q n : Nat) (op : Nat → Int) (sl : Nat → Bool) (cp rc : Int) (si : Nat) (pt : Nat → Int) (ln fx : Int) : Prop :=
  h i = xO 3 [.ref o, .ref s, vi (n : Int), vi cp, vi rc] ∧ h o = xI G 6 op ∧ h s = xZ G 6 sl ∧ h c = xO 0 [.ref q, vi (si : Int), vi ln, vi fx] ∧ h q = xI G 4 pt
def plcV (n : Nat) (op : Nat → Int) (cp rc : Int) (si : Nat) (pt : Nat → Int) : Prop := n ≤ 6 ∧ (∀ j : Nat, j < 6 → 0 ≤ op j ∧ op j ≤ 1000) ∧ (0 ≤ cp ∧ cp ≤ 12) ∧ bd rc ∧ si ≤ 4 ∧ ∀ j : Nat, j < si → 0 ≤ pt j ∧ pt j ≤ 1000
def PlaceOK (G : xG) (rem : Nat) : Prop := ∀ {h : PH} {a b e l u v i o s c q n : Nat} {op : Nat → Int} {sl : Nat → Bool} {cp rc : Int} {si : Nat} {pt : Nat → Int} {ln fx : Int} {L : List Nat} {cd k : Nat}, HG G h a b e l L → HH G h u v → plcP G h i o s c q n op sl cp rc si pt ln fx → plcV n op cp rc si pt → ndp [a, b, e, l, u, v] [i, o, s, c, q] → k + rem = si → cd < 16777216 →
  Cn G m_Plan_place (3 + rem) 0 0 [.ref a, .ref u, .ref i, .ref c, vi (k : Int), vi (cd : Int)] h (plcQ G h a b e l u v (plc n op sl cp rc (ptL pt k rem) cd L))

set_option maxRecDepth 100000 in
set_option maxHeartbeats 4000000 in
theorem c_place_0 {G : xG} {h : PH} {a b e l u v i o s c q n : Nat} {op : Nat → Int} {sl : Nat → Bool} {cp rc : Int} {si : Nat} {pt : Nat → Int} {ln fx : Int} {L : List Nat} {cd k : Nat} (hG : HG G h a b e l L) (hH : HH G h u v) (hP : plcP G h i o s c q n op sl cp rc si pt ln fx) (hV : plcV n op cp rc si pt) (nd : ndp [a, b, e, l, u, v] [i, o, s, c, q]) (hk : k + 0 = si) (hc : cd < 16777216) : Cn G m_Plan_place (3 + 0) 0 0 [.ref a, .ref u, .ref i, .ref c, vi (k : Int), vi (cd : Int)] h (fun r h' => plcQ G h a b e l u v (plc n op sl cp rc (ptL pt k 0) cd L) r h') := by
  refine Cn_of (by decide) (Nat.le_of_ble_eq_true rfl) (fun K C hR E => ?_)
  obtain ⟨gb, ge, gl, hA, hB, hE, hL, hGL⟩ := id hG
  obtain ⟨lo, hi, so, pr, pl, sk, ba, g0, hU, hW⟩ := id hH
  have hV1 := hV.1
  have hV2 := hV.2.2.1
  have hV4 := hV.2.2.2.2.1
  show X G K 8 0 [some (.ref a), some (.ref u), some (.ref i), some (.ref c), some (vi (k : Int)), some (vi (cd : Int)), none, none] [] h 0 0
  refine x_iload C dX6_place_0 rfl ?_
  refine x_aload_n C dX6_place_2 rfl rfl ?_
  refine x_get C f_Plan_79 hP.2.2.2.1 rfl dX6_place_3 ?_
  refine x_icmp_ge C (tgt := 15) dX6_place_6 (by decide) ⟨by omega, by omega⟩ ⟨by omega, by omega⟩ (fun c6 => ?_) (fun c6 => ?_)
  · skip
    refine x_aload_n C dX6_place_15 rfl rfl ?_
    refine x_iload C dX6_place_16 rfl ?_
    refine x_invV C s_Plan_82 (st := []) (c_hold (by omega) hU hW (ndp_l nd 4 5 rfl rfl (by decide))) hU rfl rfl (Nat.le_of_ble_eq_true rfl) (xRm_of hR (by omega) (by decide) (by omega) (by omega)) dX6_place_18 (fun r9 h9 hq => ?_)
    obtain ⟨rfl, e9⟩ := hq
    have e9 := e9.symm
    subst e9
    refine x_aload_n C dX6_place_21 rfl rfl ?_
    refine x_aload_n C dX6_place_22 rfl rfl ?_
    refine x_get C f_Plan_86 ((up_n (Ne.symm (ndp_r nd 5 0 rfl rfl))).trans ((up_n (Ne.symm (ndp_r nd 4 0 rfl rfl))).trans hP.1)) rfl dX6_place_23 ?_
    refine x_invV C s_Plan_91 (st := []) (c_isPlayable hV.2.2.2.1 ((up_n (ndp_l nd 4 5 rfl rfl (by decide))).trans up_s) (fr_fbd cd)) ((up_n (ndp_l nd 4 5 rfl rfl (by decide))).trans up_s) rfl rfl (Nat.le_of_ble_eq_true rfl) (xRm_of hR (by omega) (by decide) (by omega) (by omega)) dX6_place_26 (fun r9 h9 hq => ?_)
    obtain ⟨rfl, e9⟩ := hq
    have e9 := e9.symm
    subst e9
    refine x_ifeqB C (tgt := 46) dX6_place_29 (by decide) (fun c29 => ?_) (fun c29 => ?_)
    · skip
      refine x_vret C E rfl (by omega) (by omega) dX6_place_46 ⟨rfl, ?_, ?_, ?_⟩
      · show HG G _ a b e l (if hPlay (fr cd) rc = true then insL L cd else L)
        rw [if_neg (by rw [c29]; decide)]
        exact ⟨_, _, _, ((up_n (ndp_l nd 0 5 rfl rfl (by decide))).trans ((up_n (ndp_l nd 0 4 rfl rfl (by decide))).trans hA)), ((up_n (ndp_l nd 1 5 rfl rfl (by decide))).trans ((up_n (ndp_l nd 1 4 rfl rfl (by decide))).trans hB)), ((up_n (ndp_l nd 2 5 rfl rfl (by decide))).trans ((up_n (ndp_l nd 2 4 rfl rfl (by decide))).trans hE)), ((up_n (ndp_l nd 3 5 rfl rfl (by decide))).trans ((up_n (ndp_l nd 3 4 rfl rfl (by decide))).trans hL)), hGL⟩
      · exact HH.of ((up_n (ndp_l nd 4 5 rfl rfl (by decide))).trans up_s) up_s
      · intro x x1 x2 x3 x4 x5 x6
        simp only [va_up, x1, x2, x3, x4, x5, x6, if_false]
    · skip
      refine x_aload_n C dX6_place_32 rfl rfl ?_
      refine x_iload C dX6_place_33 rfl ?_
      refine x_aload_n C dX6_place_35 rfl rfl ?_
      refine x_invV C s_Plan_95 (st := [vi (cd : Int), .ref a]) (c_effort ((up_n (ndp_l nd 4 5 rfl rfl (by decide))).trans up_s) (fr_fbd cd)) ((up_n (ndp_l nd 4 5 rfl rfl (by decide))).trans up_s) rfl rfl (Nat.le_of_ble_eq_true rfl) (xRm_of hR (by omega) (by decide) (by omega) (by omega)) dX6_place_36 (fun r9 h9 hq => ?_)
      obtain ⟨rfl, e9⟩ := hq
      have e9 := e9.symm
      subst e9
      refine x_aload_n C dX6_place_39 rfl rfl ?_
      refine x_get C f_Plan_99 ((up_n (ndp_l nd 4 5 rfl rfl (by decide))).trans up_s) rfl dX6_place_40 ?_
      refine x_invV C s_Plan_102 (st := []) (c_Grips_insert ((up_n (ndp_l nd 0 5 rfl rfl (by decide))).trans ((up_n (ndp_l nd 0 4 rfl rfl (by decide))).trans hA)) hGL.1 ((up_n (ndp_l nd 1 5 rfl rfl (by decide))).trans ((up_n (ndp_l nd 1 4 rfl rfl (by decide))).trans hB)) ((up_n (ndp_l nd 2 5 rfl rfl (by decide))).trans ((up_n (ndp_l nd 2 4 rfl rfl (by decide))).trans hE)) ((up_n (ndp_l nd 3 5 rfl rfl (by decide))).trans ((up_n (ndp_l nd 3 4 rfl rfl (by decide))).trans hL)) (ndp_l nd 0 1 rfl rfl (by decide)) (ndp_l nd 0 2 rfl rfl (by decide)) (ndp_l nd 0 3 rfl rfl (by decide)) (ndp_l nd 1 2 rfl rfl (by decide)) (ndp_l nd 1 3 rfl rfl (by decide)) (ndp_l nd 2 3 rfl rfl (by decide)) (fun j _ => (hGL.2.2.1 j).1) (fun j _ => (hGL.2.2.1 j).2.1) ⟨by omega, by omega⟩ (by have := hEff_rg (fr_fbd cd); exact ⟨by omega, by omega⟩) (GL_ins hGL hc).2.2) ((up_n (ndp_l nd 0 5 rfl rfl (by decide))).trans ((up_n (ndp_l nd 0 4 rfl rfl (by decide))).trans hA)) rfl rfl (Nat.le_of_ble_eq_true rfl) (xRm_of hR (by omega) (by decide) (by omega) (by omega)) dX6_place_43 (fun r9 h9 hq => ?_)
      obtain ⟨rfl, e9⟩ := hq
      have e9 := e9.symm
      subst e9
      have f1 := GL_ins hGL hc
      refine x_vret C E rfl (by omega) (by omega) dX6_place_46 ⟨rfl, ?_, ?_, ?_⟩
      · show HG G _ a b e l (if hPlay (fr cd) rc = true then insL L cd else L)
        rw [if_pos c29]
        exact ⟨_, _, _, (congrArg (fun t : Nat => xO 1 [.ref b, .ref e, .ref l, vi (t : Int)]) f1.2.1.symm) ▸ ((up_n (ndp_l nd 0 3 rfl rfl (by decide))).trans ((up_n (ndp_l nd 0 2 rfl rfl (by decide))).trans ((up_n (ndp_l nd 0 1 rfl rfl (by decide))).trans up_s))), ((up_n (ndp_l nd 1 3 rfl rfl (by decide))).trans ((up_n (ndp_l nd 1 2 rfl rfl (by decide))).trans up_s)), ((up_n (ndp_l nd 2 3 rfl rfl (by decide))).trans up_s), up_s, f1.1⟩
      · exact HH.of ((up_n (Ne.symm (ndp_l nd 3 4 rfl rfl (by decide)))).trans ((up_n (Ne.symm (ndp_l nd 2 4 rfl rfl (by decide)))).trans ((up_n (Ne.symm (ndp_l nd 1 4 rfl rfl (by decide)))).trans ((up_n (Ne.symm (ndp_l nd 0 4 rfl rfl (by decide)))).trans ((up_n (ndp_l nd 4 5 rfl rfl (by decide))).trans up_s))))) ((up_n (Ne.symm (ndp_l nd 3 5 rfl rfl (by decide)))).trans ((up_n (Ne.symm (ndp_l nd 2 5 rfl rfl (by decide)))).trans ((up_n (Ne.symm (ndp_l nd 1 5 rfl rfl (by decide)))).trans ((up_n (Ne.symm (ndp_l nd 0 5 rfl rfl (by decide)))).trans up_s))))
      · intro x x1 x2 x3 x4 x5 x6
        simp only [va_up, x1, x2, x3, x4, x5, x6, if_false]
  · skip
    exfalso; omega


set_option maxRecDepth 100000 in
set_option maxHeartbeats 4000000 in
theorem c_place_s {G : xG} {h : PH} {rem : Nat} (ih0 : PlaceOK G rem) {a b e l u v i o s c q n : Nat} {op : Nat → Int} {sl : Nat → Bool} {cp rc : Int} {si : Nat} {pt : Nat → Int} {ln fx : Int} {L : List Nat} {cd k : Nat} (hG : HG G h a b e l L) (hH : HH G h u v) (hP : plcP G h i o s c q n op sl cp rc si pt ln fx) (hV : plcV n op cp rc si pt) (nd : ndp [a, b, e, l, u, v] [i, o, s, c, q]) (hk : k + (rem + 1) = si) (hc : cd < 16777216) : Cn G m_Plan_place (3 + (rem + 1)) 0 0 [.ref a, .ref u, .ref i, .ref c, vi (k : Int), vi (cd : Int)] h (fun r h' => plcQ G h a b e l u v (plc n op sl cp rc (ptL pt k (rem + 1)) cd L) r h') := by
  refine Cn_of (by decide) (Nat.le_of_ble_eq_true rfl) (fun K C hR E => ?_)
  obtain ⟨gb, ge, gl, hA, hB, hE, hL, hGL⟩ := id hG
  obtain ⟨lo, hi, so, pr, pl, sk, ba, g0, hU, hW⟩ := id hH
  have hV1 := hV.1
  have hV2 := hV.2.2.1
  have hV4 := hV.2.2.2.2.1
  show X G K 8 0 [some (.ref a), some (.ref u), some (.ref i), some (.ref c), some (vi (k : Int)), some (vi (cd : Int)), none, none] [] h 0 0
  refine x_iload C dX6_place_0 rfl ?_
  refine x_aload_n C dX6_place_2 rfl rfl ?_
  refine x_get C f_Plan_79 hP.2.2.2.1 rfl dX6_place_3 ?_
  refine x_icmp_ge C (tgt := 15) dX6_place_6 (by decide) ⟨by omega, by omega⟩ ⟨by omega, by omega⟩ (fun c6 => ?_) (fun c6 => ?_)
  · skip
    exfalso; omega
  · skip
    refine x_iload C dX6_place_9 rfl ?_
    refine x_iconst C dX6_place_11 ?_
    refine x_icmp_lt C (tgt := 47) dX6_place_12 (by decide) ⟨by omega, by omega⟩ (by decide) (fun c12 => ?_) (fun c12 => ?_)
    · skip
      refine x_iconst C dX6_place_47 ?_
      refine x_istore C (ls' := [some (.ref a), some (.ref u), some (.ref i), some (.ref c), some (vi (k : Int)), some (vi (cd : Int)), some (vi 0), none]) dX6_place_48 (by decide) rfl ?_
      have L50 : ∀ (n0 : Nat) (j : Nat) (hp1 : PH) (L1 : List Nat), n - j < n0 → (j ≤ n) → (L1 = (List.range j).foldl (fun L s => if fretF n op sl cp s (pt k) ≠ -1 ∧ fr cd s = -1 then plc n op sl cp rc (ptL pt (k + 1) rem) (wi cd s (fretF n op sl cp s (pt k))) L else L) L) → (HG G hp1 a b e l L1) → (HH G hp1 u v) → (∀ x, x ≠ a → x ≠ b → x ≠ e → x ≠ l → x ≠ u → x ≠ v → hp1 x = h x) → X G K 8 50 [some (.ref a), some (.ref u), some (.ref i), some (.ref c), some (vi (k : Int)), some (vi (cd : Int)), some (vi (j : Int)), none] [] hp1 0 0 := by
        intro n0
        induction n0 with
        | zero => intro j hp1 L1 hm; exact absurd hm (Nat.not_lt_zero _)
        | succ n0 ih_L50 =>
          intro j hp1 L1 hm i1 i2 i3 i4 F
          have hpk := hV.2.2.2.2.2 k (by omega)
          have hfj := fretF_rg n op sl hV2 j (pt k)
          refine x_iload C dX6_place_50 rfl ?_
          refine x_aload_n C dX6_place_52 rfl rfl ?_
          refine x_get C f_Plan_106 ((F i (Ne.symm (ndp_r nd 0 0 rfl rfl)) (Ne.symm (ndp_r nd 1 0 rfl rfl)) (Ne.symm (ndp_r nd 2 0 rfl rfl)) (Ne.symm (ndp_r nd 3 0 rfl rfl)) (Ne.symm (ndp_r nd 4 0 rfl rfl)) (Ne.symm (ndp_r nd 5 0 rfl rfl))).trans hP.1) rfl dX6_place_53 ?_
          refine x_icmp_ge C (tgt := 117) dX6_place_56 (by decide) ⟨by omega, by omega⟩ ⟨by omega, by omega⟩ (fun c56 => ?_) (fun c56 => ?_)
          · skip
            have e0 : j = n := by omega
            subst e0
            exact x_vret C E rfl (by omega) (by omega) dX6_place_117 (⟨rfl, by rw [ptL_s]; unfold plc; rw [← i2]; exact i3, i4, F⟩)
          · skip
            refine x_aload_n C dX6_place_59 rfl rfl ?_
            refine x_iload C dX6_place_60 rfl ?_
            refine x_aload_n C dX6_place_62 rfl rfl ?_
            refine x_get C f_Plan_107 ((F c (Ne.symm (ndp_r nd 0 3 rfl rfl)) (Ne.symm (ndp_r nd 1 3 rfl rfl)) (Ne.symm (ndp_r nd 2 3 rfl rfl)) (Ne.symm (ndp_r nd 3 3 rfl rfl)) (Ne.symm (ndp_r nd 4 3 rfl rfl)) (Ne.symm (ndp_r nd 5 3 rfl rfl))).trans hP.2.2.2.1) rfl dX6_place_63 ?_
            refine x_iload C dX6_place_66 rfl ?_
            refine x_iald C ((F q (Ne.symm (ndp_r nd 0 4 rfl rfl)) (Ne.symm (ndp_r nd 1 4 rfl rfl)) (Ne.symm (ndp_r nd 2 4 rfl rfl)) (Ne.symm (ndp_r nd 3 4 rfl rfl)) (Ne.symm (ndp_r nd 4 4 rfl rfl)) (Ne.symm (ndp_r nd 5 4 rfl rfl))).trans hP.2.2.2.2) ⟨by omega, by omega, by omega⟩ (v := (pt k)) rfl dX6_place_68 ?_
            refine x_invV C s_Plan_110 (st := []) (c_Instr_fretFor ((F i (Ne.symm (ndp_r nd 0 0 rfl rfl)) (Ne.symm (ndp_r nd 1 0 rfl rfl)) (Ne.symm (ndp_r nd 2 0 rfl rfl)) (Ne.symm (ndp_r nd 3 0 rfl rfl)) (Ne.symm (ndp_r nd 4 0 rfl rfl)) (Ne.symm (ndp_r nd 5 0 rfl rfl))).trans hP.1) ((F o (Ne.symm (ndp_r nd 0 1 rfl rfl)) (Ne.symm (ndp_r nd 1 1 rfl rfl)) (Ne.symm (ndp_r nd 2 1 rfl rfl)) (Ne.symm (ndp_r nd 3 1 rfl rfl)) (Ne.symm (ndp_r nd 4 1 rfl rfl)) (Ne.symm (ndp_r nd 5 1 rfl rfl))).trans hP.2.1) ((F s (Ne.symm (ndp_r nd 0 2 rfl rfl)) (Ne.symm (ndp_r nd 1 2 rfl rfl)) (Ne.symm (ndp_r nd 2 2 rfl rfl)) (Ne.symm (ndp_r nd 3 2 rfl rfl)) (Ne.symm (ndp_r nd 4 2 rfl rfl)) (Ne.symm (ndp_r nd 5 2 rfl rfl))).trans hP.2.2.1) hV1 (z := j) (by omega) hV.2.1 hV2 hpk) ((F i (Ne.symm (ndp_r nd 0 0 rfl rfl)) (Ne.symm (ndp_r nd 1 0 rfl rfl)) (Ne.symm (ndp_r nd 2 0 rfl rfl)) (Ne.symm (ndp_r nd 3 0 rfl rfl)) (Ne.symm (ndp_r nd 4 0 rfl rfl)) (Ne.symm (ndp_r nd 5 0 rfl rfl))).trans hP.1) rfl rfl (Nat.le_of_ble_eq_true rfl) (xRm_of hR (by omega) (by decide) (by omega) (by omega)) dX6_place_69 (fun r9 h9 hq => ?_)
            obtain ⟨rfl, e9⟩ := hq
            have e9 := e9.symm
            subst e9
            refine x_istore C (ls' := [some (.ref a), some (.ref u), some (.ref i), some (.ref c), some (vi (k : Int)), some (vi (cd : Int)), some (vi (j : Int)), some (vi (fretF n op sl cp j (pt k)))]) dX6_place_72 (by decide) rfl ?_
            refine x_iload C dX6_place_74 rfl ?_
            refine x_iconst C dX6_place_76 ?_
            refine x_icmp_eq C (tgt := 111) dX6_place_77 (by decide) ⟨by omega, by omega⟩ (by decide) (fun c77 => ?_) (fun c77 => ?_)
            · skip
              refine x_iinc C (ls' := [some (.ref a), some (.ref u), some (.ref i), some (.ref c), some (vi (k : Int)), some (vi (cd : Int)), some (vi ((j : Int) + 1)), some (vi (fretF n op sl cp j (pt k)))]) dX6_place_111 rfl (by decide) (z1 := ((j : Int) + 1)) rfl rfl ?_
              refine x_goto C (tgt := 50) dX6_place_114 (by decide) ?_
              refine X.sub (ls' := [some (.ref a), some (.ref u), some (.ref i), some (.ref c), some (vi (k : Int)), some (vi (cd : Int)), some (vi ((j : Int) + 1)), none]) (sub_cons (Or.inr rfl) (sub_cons (Or.inr rfl) (sub_cons (Or.inr rfl) (sub_cons (Or.inr rfl) (sub_cons (Or.inr rfl) (sub_cons (Or.inr rfl) (sub_cons (Or.inr rfl) (sub_cons (Or.inl rfl) sub_nil)))))))) ?_
              exact ih_L50 (j + 1) hp1 _ (by omega) (by omega) (by rw [List.range_succ, List.foldl_append, ← i2]; simp only [List.foldl_cons, List.foldl_nil]; exact (if_neg (fun q => by first | exact q.1 c77 | exact c88 q.2)).symm) (i3) (i4) (F)
            · skip
              refine x_iload C dX6_place_80 rfl ?_
              refine x_iload C dX6_place_82 rfl ?_
              refine x_invS C s_Plan_113 (st := []) (c_fretAt (c := cd) (by omega) (s := j) (by omega)) rfl rfl (Nat.le_of_ble_eq_true rfl) (xRm_of hR (by omega) (by decide) (by omega) (by omega)) dX6_place_84 (fun r9 h9 hq => ?_)
              obtain ⟨rfl, e9⟩ := hq
              have e9 := e9.symm
              subst e9
              refine x_iconst C dX6_place_87 ?_
              refine x_icmp_ne C (tgt := 111) dX6_place_88 (by decide) (by have := fr_bd cd j; exact ⟨by omega, by omega⟩) (by decide) (fun c88 => ?_) (fun c88 => ?_)
              · skip
                refine x_iinc C (ls' := [some (.ref a), some (.ref u), some (.ref i), some (.ref c), some (vi (k : Int)), some (vi (cd : Int)), some (vi ((j : Int) + 1)), some (vi (fretF n op sl cp j (pt k)))]) dX6_place_111 rfl (by decide) (z1 := ((j : Int) + 1)) rfl rfl ?_
                refine x_goto C (tgt := 50) dX6_place_114 (by decide) ?_
                refine X.sub (ls' := [some (.ref a), some (.ref u), some (.ref i), some (.ref c), some (vi (k : Int)), some (vi (cd : Int)), some (vi ((j : Int) + 1)), none]) (sub_cons (Or.inr rfl) (sub_cons (Or.inr rfl) (sub_cons (Or.inr rfl) (sub_cons (Or.inr rfl) (sub_cons (Or.inr rfl) (sub_cons (Or.inr rfl) (sub_cons (Or.inr rfl) (sub_cons (Or.inl rfl) sub_nil)))))))) ?_
                exact ih_L50 (j + 1) hp1 _ (by omega) (by omega) (by rw [List.range_succ, List.foldl_append, ← i2]; simp only [List.foldl_cons, List.foldl_nil]; exact (if_neg (fun q => by first | exact q.1 c77 | exact c88 q.2)).symm) (i3) (i4) (F)
              · skip
                refine x_aload_n C dX6_place_91 rfl rfl ?_
                refine x_aload_n C dX6_place_92 rfl rfl ?_
                refine x_aload_n C dX6_place_93 rfl rfl ?_
                refine x_aload_n C dX6_place_94 rfl rfl ?_
                refine x_iload C dX6_place_95 rfl ?_
                refine x_iconst C dX6_place_97 ?_
                refine x_iadd C dX6_place_98 ?_
                refine x_iload C dX6_place_99 rfl ?_
                refine x_iload C dX6_place_101 rfl ?_
                refine x_iload C dX6_place_103 rfl ?_
                refine x_invS C s_Plan_116 (st := [vi ((k : Int) + 1), .ref c, .ref i, .ref u, .ref a]) (c_with (c := cd) (s := j) (f := fretF n op sl cp j (pt k)) ⟨by omega, by omega⟩ (by omega)) rfl rfl (Nat.le_of_ble_eq_true rfl) (xRm_of hR (by omega) (by decide) (by omega) (by omega)) dX6_place_105 (fun r9 h9 hq => ?_)
                obtain ⟨rfl, e9⟩ := hq
                have e9 := e9.symm
                subst e9
                refine x_invS C s_Plan_63 (st := []) (ih0 i3 i4 ⟨((F i (Ne.symm (ndp_r nd 0 0 rfl rfl)) (Ne.symm (ndp_r nd 1 0 rfl rfl)) (Ne.symm (ndp_r nd 2 0 rfl rfl)) (Ne.symm (ndp_r nd 3 0 rfl rfl)) (Ne.symm (ndp_r nd 4 0 rfl rfl)) (Ne.symm (ndp_r nd 5 0 rfl rfl))).trans hP.1), ((F o (Ne.symm (ndp_r nd 0 1 rfl rfl)) (Ne.symm (ndp_r nd 1 1 rfl rfl)) (Ne.symm (ndp_r nd 2 1 rfl rfl)) (Ne.symm (ndp_r nd 3 1 rfl rfl)) (Ne.symm (ndp_r nd 4 1 rfl rfl)) (Ne.symm (ndp_r nd 5 1 rfl rfl))).trans hP.2.1), ((F s (Ne.symm (ndp_r nd 0 2 rfl rfl)) (Ne.symm (ndp_r nd 1 2 rfl rfl)) (Ne.symm (ndp_r nd 2 2 rfl rfl)) (Ne.symm (ndp_r nd 3 2 rfl rfl)) (Ne.symm (ndp_r nd 4 2 rfl rfl)) (Ne.symm (ndp_r nd 5 2 rfl rfl))).trans hP.2.2.1), ((F c (Ne.symm (ndp_r nd 0 3 rfl rfl)) (Ne.symm (ndp_r nd 1 3 rfl rfl)) (Ne.symm (ndp_r nd 2 3 rfl rfl)) (Ne.symm (ndp_r nd 3 3 rfl rfl)) (Ne.symm (ndp_r nd 4 3 rfl rfl)) (Ne.symm (ndp_r nd 5 3 rfl rfl))).trans hP.2.2.2.1), ((F q (Ne.symm (ndp_r nd 0 4 rfl rfl)) (Ne.symm (ndp_r nd 1 4 rfl rfl)) (Ne.symm (ndp_r nd 2 4 rfl rfl)) (Ne.symm (ndp_r nd 3 4 rfl rfl)) (Ne.symm (ndp_r nd 4 4 rfl rfl)) (Ne.symm (ndp_r nd 5 4 rfl rfl))).trans hP.2.2.2.2)⟩ hV nd (k := k + 1) (cd := wi cd j (fretF n op sl cp j (pt k))) (by omega) (wi_lt hc (by omega) ⟨by omega, by omega⟩)) rfl rfl (Nat.le_of_ble_eq_true rfl) (xRm_of hR (by omega) (by decide) (by omega) (by omega)) dX6_place_108 (fun r9 h9 hq => ?_)
                obtain ⟨rfl, hG2, hH2, F2⟩ := hq
                refine x_iinc C (ls' := [some (.ref a), some (.ref u), some (.ref i), some (.ref c), some (vi (k : Int)), some (vi (cd : Int)), some (vi ((j : Int) + 1)), some (vi (fretF n op sl cp j (pt k)))]) dX6_place_111 rfl (by decide) (z1 := ((j : Int) + 1)) rfl rfl ?_
                refine x_goto C (tgt := 50) dX6_place_114 (by decide) ?_
                refine X.sub (ls' := [some (.ref a), some (.ref u), some (.ref i), some (.ref c), some (vi (k : Int)), some (vi (cd : Int)), some (vi ((j : Int) + 1)), none]) (sub_cons (Or.inr rfl) (sub_cons (Or.inr rfl) (sub_cons (Or.inr rfl) (sub_cons (Or.inr rfl) (sub_cons (Or.inr rfl) (sub_cons (Or.inr rfl) (sub_cons (Or.inr rfl) (sub_cons (Or.inl rfl) sub_nil)))))))) ?_
                exact ih_L50 (j + 1) h9 _ (by omega) (by omega) (by rw [List.range_succ, List.foldl_append, ← i2]; simp only [List.foldl_cons, List.foldl_nil]; exact (if_pos ⟨c77, c88⟩).symm) (hG2) (hH2) (fun x x1 x2 x3 x4 x5 x6 => (F2 x x1 x2 x3 x4 x5 x6).trans (F x x1 x2 x3 x4 x5 x6))
      exact L50 _ 0 h _ (Nat.lt_succ_self _) (by omega) (rfl) (hG) (hH) (fun x _ _ _ _ _ _ => rfl)
    · skip
      exfalso; omega

theorem c_place {G : xG} : ∀ rem, PlaceOK G rem
  | 0 => fun hG hH hP hV nd hk hc => c_place_0 hG hH hP hV nd hk hc
  | rem + 1 => fun hG hH hP hV nd hk hc => c_place_s (c_place rem) hG hH hP hV nd hk hc
