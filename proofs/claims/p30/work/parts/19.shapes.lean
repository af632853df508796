/-! Shapes. -/
/-- how many, the best one's effort, what sounds with it, its code -/
abbrev ShS := Int × Int × Int × Nat
def btr (e so : Int) (c : Nat) (p : ShS) : Bool := decide (e < p.2.1 ∨ (e = p.2.1 ∧ (p.2.2.1 < so ∨ (so = p.2.2.1 ∧ c < p.2.2.2))))
def offS (rc : Int) (c : Nat) (p : ShS) : ShS := if hPlay (fr c) rc = true then (if p.2.1 = -1 ∨ btr (hEff (fr c)) (hSnd (fr c)) c p = true then (p.1 + 1, hEff (fr c), hSnd (fr c), c) else (p.1 + 1, p.2.1, p.2.2.1, p.2.2.2)) else p
def ShV (p : ShS) : Prop := (-1000 ≤ p.2.1 ∧ p.2.1 ≤ 1000) ∧ (0 ≤ p.2.2.1 ∧ p.2.2.1 ≤ 6) ∧ p.2.2.2 < 16777216
theorem offS_V {rc : Int} {c : Nat} {p : ShS} (h : ShV p) (hc : c < 16777216) : ShV (offS rc c p) := by
  have h1 := hEff_rg (fr_fbd c)
  have h2 := hrg (fr_fbd c)
  unfold offS
  split
  · split
    · exact ⟨⟨by dsimp only; omega, by dsimp only; omega⟩, ⟨by dsimp only; omega, by dsimp only; omega⟩, hc⟩
    · exact h
  · exact h
/-- the last fret that is looked at, and how many are -/
def lstF (fm : Nat) (cp : Int) : Int := if 12 - cp < (fm : Int) + 3 then 12 - cp else (fm : Int) + 3
def nF (fm : Nat) (cp : Int) : Nat := (lstF fm cp).toNat + 1
theorem nF_lt {fm : Nat} {cp : Int} {k : Nat} (hc : 0 ≤ cp ∧ cp ≤ 7) (h1 : 1 ≤ fm) (hk : k ≤ nF fm cp) : ((k : Int) ≤ lstF fm cp → k < nF fm cp) ∧ (lstF fm cp < (k : Int) → k = nF fm cp) := by
  have hl : 4 ≤ lstF fm cp := by unfold lstF; split <;> omega
  unfold nF at *
  omega
def pit (op : Nat → Int) (cp : Int) (s : Nat) (f : Nat) : Nat := (op s + cp + (f : Int)).toNat
def lowT (lo : Int) (p : Nat) : Int := if lo = -1 then (p : Int) else if (p : Int) < lo then (p : Int) else lo
def shStep (op : Nat → Int) (cp : Int) (cls fm s : Nat) (rec : Nat → Nat → Int → ShS → ShS) (c hd : Nat) (lo : Int) (p : ShS) (k : Nat) : ShS :=
  if (0 < k ∧ k < fm) ∨ cls &&& 2 ^ (pit op cp s k % 12) = 0 then p else rec (wi c s (k : Int)) (hd ||| 2 ^ (pit op cp s k % 12)) (lowT lo (pit op cp s k)) p
/-- all shapes of the strings from this one on -/
def shp (n : Nat) (op : Nat → Int) (sl : Nat → Bool) (cp rc : Int) (cls bass fm : Nat) : Nat → Nat → Nat → Int → ShS → ShS
  | 0, c, hd, lo, p => if hd = cls ∧ 0 ≤ lo ∧ lo % 12 = (bass : Int) then offS rc c p else p
  | rem + 1, c, hd, lo, p => if used n sl (6 - (rem + 1)) = true then (List.range (nF fm cp)).foldl (shStep op cp cls fm (6 - (rem + 1)) (shp n op sl cp rc cls bass fm rem) c hd lo) (shp n op sl cp rc cls bass fm rem c hd lo p) else shp n op sl cp rc cls bass fm rem c hd lo p
theorem foldl_V {α : Type} {P : α → Prop} {f : α → Nat → α} : ∀ (l : List Nat) (a : α), P a → (∀ a k, k ∈ l → P a → P (f a k)) → P (l.foldl f a)
  | [], a, h, _ => h
  | k :: l, a, h, hf => foldl_V l (f a k) (hf a k List.mem_cons_self h) (fun a j hj => hf a j (List.mem_cons_of_mem _ hj))
theorem nF_le {fm : Nat} {cp : Int} (hc : 0 ≤ cp ∧ cp ≤ 7) : nF fm cp ≤ 13 := by
  unfold nF
  have hl : lstF fm cp ≤ 12 - cp := by unfold lstF; split <;> omega
  omega
theorem shp_V (n : Nat) (op : Nat → Int) (sl : Nat → Bool) {cp : Int} (rc : Int) (cls bass fm : Nat) (hc : 0 ≤ cp ∧ cp ≤ 7) : ∀ rem c hd lo p, ShV p → c < 16777216 → ShV (shp n op sl cp rc cls bass fm rem c hd lo p)
  | 0, c, hd, lo, p, h, h1 => by
    unfold shp; split
    · exact offS_V h h1
    · exact h
  | rem + 1, c, hd, lo, p, h, h1 => by
    have h2 := shp_V n op sl rc cls bass fm hc rem c hd lo p h h1
    unfold shp; split
    · refine foldl_V _ _ h2 (fun a k hk ha => ?_)
      have := List.mem_range.mp hk
      have := nF_le (fm := fm) hc
      unfold shStep; split
      · exact ha
      · exact shp_V n op sl rc cls bass fm hc rem _ _ _ _ ha (wi_lt h1 (by omega) ⟨by omega, by omega⟩)
    · exact h2
/-- the object -/
abbrev xSh (p : ShS) (cls bass fm u : Nat) : Option va_E := xO 6 [vi p.1, vi p.2.1, vi p.2.2.1, vi ((p.2.2.2 : Nat) : Int), vi (cls : Int), vi (bass : Int), vi (fm : Int), .ref u]

set_option maxRecDepth 100000 in
set_option maxHeartbeats 4000000 in
theorem c_Sh_forget {G : xG} {h : PH} {x u cls bass fm : Nat} {p : ShS} (hX : h x = xSh p cls bass fm u) : Cn G m_Shapes_forget 0 0 0 [.ref x] h (fun r h' => r = none ∧ h' = va_up h x (xSh p 0 bass fm u)) := by
  refine Cn_of (by decide) (Nat.le_of_ble_eq_true rfl) (fun K C hR E => ?_)
  show X G K 1 0 [some (.ref x)] [] h 0 0
  refine x_aload_n C dX7_forget_0 rfl rfl ?_
  refine x_iconst C dX7_forget_1 ?_
  refine x_put C p_Shapes_26 hX (fit_int _) (Nat.le_of_ble_eq_true rfl) (h1 := (va_up h x (xO 6 [vi p.1, vi p.2.1, vi p.2.2.1, vi ((p.2.2.2 : Nat) : Int), vi 0, vi (bass : Int), vi (fm : Int), .ref u]))) rfl dX7_forget_2 ?_
  exact x_vret C E rfl (by omega) (by omega) dX7_forget_5 (⟨rfl, rfl⟩)

set_option maxRecDepth 100000 in
set_option maxHeartbeats 4000000 in
theorem c_Sh_isOf {G : xG} {h : PH} {x u cls bass fm : Nat} {p : ShS} (hX : h x = xSh p cls bass fm u) {z1 z2 z3 : Int} (h1 : bd z1) (h2 : bd z2) (h3 : bd z3) (g1 : cls ≤ 4095) (g2 : bass ≤ 100) (g3 : fm ≤ 100) : Cn G m_Shapes_isOf 0 0 0 [.ref x, vi z1, vi z2, vi z3] h (fun r h' => r = some (vi (b2i (decide ((cls : Int) = z1 ∧ (bass : Int) = z2 ∧ (fm : Int) = z3)))) ∧ h' = h) := by
  refine Cn_of (by decide) (Nat.le_of_ble_eq_true rfl) (fun K C hR E => ?_)
  show X G K 4 0 [some (.ref x), some (vi z1), some (vi z2), some (vi z3)] [] h 0 0
  refine x_aload_n C dX7_isOf_0 rfl rfl ?_
  refine x_get C f_Shapes_26 hX rfl dX7_isOf_1 ?_
  refine x_iload_n C dX7_isOf_4 rfl rfl ?_
  refine x_icmp_ne C (tgt := 28) dX7_isOf_5 (by decide) ⟨by omega, by omega⟩ h1 (fun c5 => ?_) (fun c5 => ?_)
  · skip
    refine x_iconst C dX7_isOf_28 ?_
    exact x_zret C E rfl (by omega) (by omega) (z := false) dX7_isOf_29 (⟨by rw [show (decide ((cls : Int) = z1 ∧ (bass : Int) = z2 ∧ (fm : Int) = z3)) = false from decide_eq_false (by omega)], rfl⟩)
  · skip
    refine x_aload_n C dX7_isOf_8 rfl rfl ?_
    refine x_get C f_Shapes_29 hX rfl dX7_isOf_9 ?_
    refine x_iload_n C dX7_isOf_12 rfl rfl ?_
    refine x_icmp_ne C (tgt := 28) dX7_isOf_13 (by decide) ⟨by omega, by omega⟩ h2 (fun c13 => ?_) (fun c13 => ?_)
    · skip
      refine x_iconst C dX7_isOf_28 ?_
      exact x_zret C E rfl (by omega) (by omega) (z := false) dX7_isOf_29 (⟨by rw [show (decide ((cls : Int) = z1 ∧ (bass : Int) = z2 ∧ (fm : Int) = z3)) = false from decide_eq_false (by omega)], rfl⟩)
    · skip
      refine x_aload_n C dX7_isOf_16 rfl rfl ?_
      refine x_get C f_Shapes_32 hX rfl dX7_isOf_17 ?_
      refine x_iload_n C dX7_isOf_20 rfl rfl ?_
      refine x_icmp_ne C (tgt := 28) dX7_isOf_21 (by decide) ⟨by omega, by omega⟩ h3 (fun c21 => ?_) (fun c21 => ?_)
      · skip
        refine x_iconst C dX7_isOf_28 ?_
        exact x_zret C E rfl (by omega) (by omega) (z := false) dX7_isOf_29 (⟨by rw [show (decide ((cls : Int) = z1 ∧ (bass : Int) = z2 ∧ (fm : Int) = z3)) = false from decide_eq_false (by omega)], rfl⟩)
      · skip
        refine x_iconst C dX7_isOf_24 ?_
        refine x_goto C (tgt := 29) dX7_isOf_25 (by decide) ?_
        exact x_zret C E rfl (by omega) (by omega) (z := true) dX7_isOf_29 (⟨by rw [show (decide ((cls : Int) = z1 ∧ (bass : Int) = z2 ∧ (fm : Int) = z3)) = true from decide_eq_true (by omega)], rfl⟩)

set_option maxRecDepth 100000 in
set_option maxHeartbeats 4000000 in
theorem c_Sh_bestFret {G : xG} {h : PH} {x u cls bass fm : Nat} {p : ShS} (hX : h x = xSh p cls bass fm u) (hV : ShV p) {z : Nat} (hz : z < 6) : Cn G m_Shapes_bestFret 1 0 0 [.ref x, vi (z : Int)] h (fun r h' => r = some (vi (fr p.2.2.2 z)) ∧ h' = h) := by
  refine Cn_of (by decide) (Nat.le_of_ble_eq_true rfl) (fun K C hR E => ?_)
  show X G K 2 0 [some (.ref x), some (vi (z : Int))] [] h 0 0
  refine x_aload_n C dX7_bestFret_0 rfl rfl ?_
  refine x_get C f_Shapes_23 hX rfl dX7_bestFret_1 ?_
  refine x_iload_n C dX7_bestFret_4 rfl rfl ?_
  refine x_invS C s_Shapes_46 (st := []) (c_fretAt (by have := hV.2.2; omega) hz) rfl rfl (Nat.le_of_ble_eq_true rfl) (xRm_of hR (by omega) (by decide) (by omega) (by omega)) dX7_bestFret_5 (fun r9 h9 hq => ?_)
  obtain ⟨rfl, e9⟩ := hq
  have e9 := e9.symm
  subst e9
  exact x_iret C E rfl (by omega) (by omega) dX7_bestFret_8 (⟨rfl, rfl⟩)

set_option maxRecDepth 100000 in
set_option maxHeartbeats 4000000 in
theorem c_Sh_isBetter {G : xG} {h : PH} {x u v cls bass fm cd : Nat} {n0 e : Int} {p : ShS} (hX : h x = xO 6 [vi n0, vi p.2.1, vi p.2.2.1, vi ((p.2.2.2 : Nat) : Int), vi (cls : Int), vi (bass : Int), vi (fm : Int), .ref u]) (hU : h u = xHd v (fr cd)) (hV : ShV p) (he : -1000 ≤ e ∧ e ≤ 1000) (hc : cd < 16777216) : Cn G m_Shapes_isBetter 0 0 0 [.ref x, vi (cd : Int), vi e] h (fun r h' => r = some (vi (b2i (btr e (hSnd (fr cd)) cd p))) ∧ h' = h) := by
  refine Cn_of (by decide) (Nat.le_of_ble_eq_true rfl) (fun K C hR E => ?_)
  have hv1 := hV.1
  have hv2 := hV.2.1
  have hv3 := hV.2.2
  have hs := hrg (fr_fbd cd)
  show X G K 3 0 [some (.ref x), some (vi (cd : Int)), some (vi e)] [] h 0 0
  refine x_iload_n C dX7_isBetter_0 rfl rfl ?_
  refine x_aload_n C dX7_isBetter_1 rfl rfl ?_
  refine x_get C f_Shapes_15 hX rfl dX7_isBetter_2 ?_
  refine x_icmp_eq C (tgt := 22) dX7_isBetter_5 (by decide) ⟨by omega, by omega⟩ ⟨by omega, by omega⟩ (fun c5 => ?_) (fun c5 => ?_)
  · skip
    refine x_aload_n C dX7_isBetter_22 rfl rfl ?_
    refine x_get C f_Shapes_38 hX rfl dX7_isBetter_23 ?_
    refine x_get C f_Shapes_93 hU rfl dX7_isBetter_26 ?_
    refine x_aload_n C dX7_isBetter_29 rfl rfl ?_
    refine x_get C f_Shapes_18 hX rfl dX7_isBetter_30 ?_
    refine x_icmp_eq C (tgt := 56) dX7_isBetter_33 (by decide) ⟨by omega, by omega⟩ ⟨by omega, by omega⟩ (fun c33 => ?_) (fun c33 => ?_)
    · skip
      refine x_iload_n C dX7_isBetter_56 rfl rfl ?_
      refine x_aload_n C dX7_isBetter_57 rfl rfl ?_
      refine x_get C f_Shapes_23 hX rfl dX7_isBetter_58 ?_
      refine x_icmp_ge C (tgt := 68) dX7_isBetter_61 (by decide) ⟨by omega, by omega⟩ ⟨by omega, by omega⟩ (fun c61 => ?_) (fun c61 => ?_)
      · skip
        refine x_iconst C dX7_isBetter_68 ?_
        exact x_zret C E rfl (by omega) (by omega) (z := false) dX7_isBetter_69 (⟨by rw [show (btr e (hSnd (fr cd)) cd p) = false from decide_eq_false (by omega)], rfl⟩)
      · skip
        refine x_iconst C dX7_isBetter_64 ?_
        refine x_goto C (tgt := 69) dX7_isBetter_65 (by decide) ?_
        exact x_zret C E rfl (by omega) (by omega) (z := true) dX7_isBetter_69 (⟨by rw [show (btr e (hSnd (fr cd)) cd p) = true from decide_eq_true (by omega)], rfl⟩)
    · skip
      refine x_aload_n C dX7_isBetter_36 rfl rfl ?_
      refine x_get C f_Shapes_38 hX rfl dX7_isBetter_37 ?_
      refine x_get C f_Shapes_93 hU rfl dX7_isBetter_40 ?_
      refine x_aload_n C dX7_isBetter_43 rfl rfl ?_
      refine x_get C f_Shapes_18 hX rfl dX7_isBetter_44 ?_
      refine x_icmp_le C (tgt := 54) dX7_isBetter_47 (by decide) ⟨by omega, by omega⟩ ⟨by omega, by omega⟩ (fun c47 => ?_) (fun c47 => ?_)
      · skip
        refine x_iconst C dX7_isBetter_54 ?_
        exact x_zret C E rfl (by omega) (by omega) (z := false) dX7_isBetter_55 (⟨by rw [show (btr e (hSnd (fr cd)) cd p) = false from decide_eq_false (by omega)], rfl⟩)
      · skip
        refine x_iconst C dX7_isBetter_50 ?_
        refine x_goto C (tgt := 55) dX7_isBetter_51 (by decide) ?_
        exact x_zret C E rfl (by omega) (by omega) (z := true) dX7_isBetter_55 (⟨by rw [show (btr e (hSnd (fr cd)) cd p) = true from decide_eq_true (by omega)], rfl⟩)
  · skip
    refine x_iload_n C dX7_isBetter_8 rfl rfl ?_
    refine x_aload_n C dX7_isBetter_9 rfl rfl ?_
    refine x_get C f_Shapes_15 hX rfl dX7_isBetter_10 ?_
    refine x_icmp_ge C (tgt := 20) dX7_isBetter_13 (by decide) ⟨by omega, by omega⟩ ⟨by omega, by omega⟩ (fun c13 => ?_) (fun c13 => ?_)
    · skip
      refine x_iconst C dX7_isBetter_20 ?_
      exact x_zret C E rfl (by omega) (by omega) (z := false) dX7_isBetter_21 (⟨by rw [show (btr e (hSnd (fr cd)) cd p) = false from decide_eq_false (by omega)], rfl⟩)
    · skip
      refine x_iconst C dX7_isBetter_16 ?_
      refine x_goto C (tgt := 21) dX7_isBetter_17 (by decide) ?_
      exact x_zret C E rfl (by omega) (by omega) (z := true) dX7_isBetter_21 (⟨by rw [show (btr e (hSnd (fr cd)) cd p) = true from decide_eq_true (by omega)], rfl⟩)

set_option maxRecDepth 100000 in
set_option maxHeartbeats 4000000 in
theorem c_Sh_offer {G : xG} {h : PH} {x u v cls bass fm cd : Nat} {rc : Int} {p : ShS} (hX : h x = xSh p cls bass fm u) (hH : HH G h u v) (hV : ShV p) (hrc : bd rc) (hc : cd < 16777216) {i o s : Nat} (nd : ndp [x, u, v] [i, o, s]) : Cn G m_Shapes_offer 3 0 0 [.ref x, vi (cd : Int), vi rc] h (fun r h' => r = none ∧ h' x = xSh (offS rc cd p) cls bass fm u ∧ HH G h' u v ∧ ∀ y, y ≠ x → y ≠ u → y ≠ v → h' y = h y) := by
  refine Cn_of (by decide) (Nat.le_of_ble_eq_true rfl) (fun K C hR E => ?_)
  obtain ⟨lo, hi, so, pr, pl, sk, ba, g0, hU, hW⟩ := id hH
  have hv1 := hV.1
  have hef := hEff_rg (fr_fbd cd)
  show X G K 3 0 [some (.ref x), some (vi (cd : Int)), some (vi rc)] [] h 0 0
  refine x_aload_n C dX7_offer_0 rfl rfl ?_
  refine x_get C f_Shapes_38 hX rfl dX7_offer_1 ?_
  refine x_iload_n C dX7_offer_4 rfl rfl ?_
  refine x_invV C s_Shapes_79 (st := []) (c_hold (by omega) hU hW (ndp_l nd 1 2 rfl rfl (by decide))) hU rfl rfl (Nat.le_of_ble_eq_true rfl) (xRm_of hR (by omega) (by decide) (by omega) (by omega)) dX7_offer_5 (fun r9 h9 hq => ?_)
  obtain ⟨rfl, e9⟩ := hq
  have e9 := e9.symm
  subst e9
  refine x_aload_n C dX7_offer_8 rfl rfl ?_
  refine x_get C f_Shapes_38 ((up_n (ndp_l nd 0 2 rfl rfl (by decide))).trans ((up_n (ndp_l nd 0 1 rfl rfl (by decide))).trans hX)) rfl dX7_offer_9 ?_
  refine x_iload_n C dX7_offer_12 rfl rfl ?_
  refine x_invV C s_Shapes_83 (st := []) (c_isPlayable hrc ((up_n (ndp_l nd 1 2 rfl rfl (by decide))).trans up_s) (fr_fbd cd)) ((up_n (ndp_l nd 1 2 rfl rfl (by decide))).trans up_s) rfl rfl (Nat.le_of_ble_eq_true rfl) (xRm_of hR (by omega) (by decide) (by omega) (by omega)) dX7_offer_13 (fun r9 h9 hq => ?_)
  obtain ⟨rfl, e9⟩ := hq
  have e9 := e9.symm
  subst e9
  refine x_ifneB C (tgt := 20) dX7_offer_16 (by decide) (fun c16 => ?_) (fun c16 => ?_)
  · skip
    refine x_aload_n C dX7_offer_20 rfl rfl ?_
    refine x_dup C dX7_offer_21 rfl ?_
    refine x_get C f_Shapes_9 ((up_n (ndp_l nd 0 2 rfl rfl (by decide))).trans ((up_n (ndp_l nd 0 1 rfl rfl (by decide))).trans hX)) rfl dX7_offer_22 ?_
    refine x_iconst C dX7_offer_25 ?_
    refine x_iadd C dX7_offer_26 ?_
    refine x_put C p_Shapes_9 ((up_n (ndp_l nd 0 2 rfl rfl (by decide))).trans ((up_n (ndp_l nd 0 1 rfl rfl (by decide))).trans hX)) (fit_int _) (Nat.le_of_ble_eq_true rfl) (h1 := (va_up (va_up (va_up h u (xO 2 [vi (hLow (fr cd)), vi (hHigh (fr cd)), vi (hSnd (fr cd)), vi (b2i (hBar (fr cd))), .ref v, vi (hPr (fr cd)), vi (hPal (fr cd)), vi (hSkp (fr cd))])) v (xI G 6 (fr cd))) x (xO 6 [vi (p.1 + 1), vi p.2.1, vi p.2.2.1, vi ((p.2.2.2 : Nat) : Int), vi (cls : Int), vi (bass : Int), vi (fm : Int), .ref u]))) rfl dX7_offer_27 ?_
    refine x_aload_n C dX7_offer_30 rfl rfl ?_
    refine x_get C f_Shapes_15 up_s rfl dX7_offer_31 ?_
    refine x_iconst C dX7_offer_34 ?_
    refine x_icmp_eq C (tgt := 53) dX7_offer_35 (by decide) ⟨by omega, by omega⟩ (by decide) (fun c35 => ?_) (fun c35 => ?_)
    · skip
      refine x_aload_n C dX7_offer_53 rfl rfl ?_
      refine x_aload_n C dX7_offer_54 rfl rfl ?_
      refine x_get C f_Shapes_38 up_s rfl dX7_offer_55 ?_
      refine x_invV C s_Shapes_86 (st := [.ref x]) (c_effort ((up_n (Ne.symm (ndp_l nd 0 1 rfl rfl (by decide)))).trans ((up_n (ndp_l nd 1 2 rfl rfl (by decide))).trans up_s)) (fr_fbd cd)) ((up_n (Ne.symm (ndp_l nd 0 1 rfl rfl (by decide)))).trans ((up_n (ndp_l nd 1 2 rfl rfl (by decide))).trans up_s)) rfl rfl (Nat.le_of_ble_eq_true rfl) (xRm_of hR (by omega) (by decide) (by omega) (by omega)) dX7_offer_58 (fun r9 h9 hq => ?_)
      obtain ⟨rfl, e9⟩ := hq
      have e9 := e9.symm
      subst e9
      refine x_put C p_Shapes_15 up_s (fit_int _) (Nat.le_of_ble_eq_true rfl) (h1 := (va_up (va_up (va_up h u (xO 2 [vi (hLow (fr cd)), vi (hHigh (fr cd)), vi (hSnd (fr cd)), vi (b2i (hBar (fr cd))), .ref v, vi (hPr (fr cd)), vi (hPal (fr cd)), vi (hSkp (fr cd))])) v (xI G 6 (fr cd))) x (xO 6 [vi (p.1 + 1), vi (hEff (fr cd)), vi p.2.2.1, vi ((p.2.2.2 : Nat) : Int), vi (cls : Int), vi (bass : Int), vi (fm : Int), .ref u]))) (up_u _ _ _ _) dX7_offer_61 ?_
      refine x_aload_n C dX7_offer_64 rfl rfl ?_
      refine x_aload_n C dX7_offer_65 rfl rfl ?_
      refine x_get C f_Shapes_38 up_s rfl dX7_offer_66 ?_
      refine x_get C f_Shapes_93 ((up_n (Ne.symm (ndp_l nd 0 1 rfl rfl (by decide)))).trans ((up_n (ndp_l nd 1 2 rfl rfl (by decide))).trans up_s)) rfl dX7_offer_69 ?_
      refine x_put C p_Shapes_18 up_s (fit_int _) (Nat.le_of_ble_eq_true rfl) (h1 := (va_up (va_up (va_up h u (xO 2 [vi (hLow (fr cd)), vi (hHigh (fr cd)), vi (hSnd (fr cd)), vi (b2i (hBar (fr cd))), .ref v, vi (hPr (fr cd)), vi (hPal (fr cd)), vi (hSkp (fr cd))])) v (xI G 6 (fr cd))) x (xO 6 [vi (p.1 + 1), vi (hEff (fr cd)), vi (hSnd (fr cd)), vi ((p.2.2.2 : Nat) : Int), vi (cls : Int), vi (bass : Int), vi (fm : Int), .ref u]))) (up_u _ _ _ _) dX7_offer_72 ?_
      refine x_aload_n C dX7_offer_75 rfl rfl ?_
      refine x_iload_n C dX7_offer_76 rfl rfl ?_
      refine x_put C p_Shapes_23 up_s (fit_int _) (Nat.le_of_ble_eq_true rfl) (h1 := (va_up (va_up (va_up h u (xO 2 [vi (hLow (fr cd)), vi (hHigh (fr cd)), vi (hSnd (fr cd)), vi (b2i (hBar (fr cd))), .ref v, vi (hPr (fr cd)), vi (hPal (fr cd)), vi (hSkp (fr cd))])) v (xI G 6 (fr cd))) x (xO 6 [vi (p.1 + 1), vi (hEff (fr cd)), vi (hSnd (fr cd)), vi (cd : Int), vi (cls : Int), vi (bass : Int), vi (fm : Int), .ref u]))) (up_u _ _ _ _) dX7_offer_77 ?_
      refine x_vret C E rfl (by omega) (by omega) dX7_offer_80 ⟨rfl, ?_, HH.of ((up_n (Ne.symm (ndp_l nd 0 1 rfl rfl (by decide)))).trans ((up_n (ndp_l nd 1 2 rfl rfl (by decide))).trans up_s)) ((up_n (Ne.symm (ndp_l nd 0 2 rfl rfl (by decide)))).trans up_s), ?_⟩
      · rw [show offS rc cd p = (p.1 + 1, hEff (fr cd), hSnd (fr cd), cd) from (if_pos c16).trans (if_pos (by first | exact Or.inl c35 | exact Or.inr c50))]; exact up_s
      · intro y y1 y2 y3
        simp only [va_up, y1, y2, y3, if_false]
    · skip
      refine x_aload_n C dX7_offer_38 rfl rfl ?_
      refine x_iload_n C dX7_offer_39 rfl rfl ?_
      refine x_aload_n C dX7_offer_40 rfl rfl ?_
      refine x_get C f_Shapes_38 up_s rfl dX7_offer_41 ?_
      refine x_invV C s_Shapes_86 (st := [vi (cd : Int), .ref x]) (c_effort ((up_n (Ne.symm (ndp_l nd 0 1 rfl rfl (by decide)))).trans ((up_n (ndp_l nd 1 2 rfl rfl (by decide))).trans up_s)) (fr_fbd cd)) ((up_n (Ne.symm (ndp_l nd 0 1 rfl rfl (by decide)))).trans ((up_n (ndp_l nd 1 2 rfl rfl (by decide))).trans up_s)) rfl rfl (Nat.le_of_ble_eq_true rfl) (xRm_of hR (by omega) (by decide) (by omega) (by omega)) dX7_offer_44 (fun r9 h9 hq => ?_)
      obtain ⟨rfl, e9⟩ := hq
      have e9 := e9.symm
      subst e9
      refine x_invV C s_Shapes_89 (st := []) (c_Sh_isBetter (n0 := p.1 + 1) (p := p) up_s ((up_n (Ne.symm (ndp_l nd 0 1 rfl rfl (by decide)))).trans ((up_n (ndp_l nd 1 2 rfl rfl (by decide))).trans up_s)) hV ⟨by omega, by omega⟩ hc) up_s rfl rfl (Nat.le_of_ble_eq_true rfl) (xRm_of hR (by omega) (by decide) (by omega) (by omega)) dX7_offer_47 (fun r9 h9 hq => ?_)
      obtain ⟨rfl, e9⟩ := hq
      have e9 := e9.symm
      subst e9
      refine x_ifeqB C (tgt := 80) dX7_offer_50 (by decide) (fun c50 => ?_) (fun c50 => ?_)
      · skip
        refine x_vret C E rfl (by omega) (by omega) dX7_offer_80 ⟨rfl, ?_, HH.of ((up_n (Ne.symm (ndp_l nd 0 1 rfl rfl (by decide)))).trans ((up_n (ndp_l nd 1 2 rfl rfl (by decide))).trans up_s)) ((up_n (Ne.symm (ndp_l nd 0 2 rfl rfl (by decide)))).trans up_s), ?_⟩
        · rw [show offS rc cd p = (p.1 + 1, p.2.1, p.2.2.1, p.2.2.2) from (if_pos c16).trans (if_neg (fun q => q.elim c35 (fun q => by have q2 := c50.symm.trans q; exact absurd q2 (by decide))))]; exact up_s
        · intro y y1 y2 y3
          simp only [va_up, y1, y2, y3, if_false]
      · skip
        refine x_aload_n C dX7_offer_53 rfl rfl ?_
        refine x_aload_n C dX7_offer_54 rfl rfl ?_
        refine x_get C f_Shapes_38 up_s rfl dX7_offer_55 ?_
        refine x_invV C s_Shapes_86 (st := [.ref x]) (c_effort ((up_n (Ne.symm (ndp_l nd 0 1 rfl rfl (by decide)))).trans ((up_n (ndp_l nd 1 2 rfl rfl (by decide))).trans up_s)) (fr_fbd cd)) ((up_n (Ne.symm (ndp_l nd 0 1 rfl rfl (by decide)))).trans ((up_n (ndp_l nd 1 2 rfl rfl (by decide))).trans up_s)) rfl rfl (Nat.le_of_ble_eq_true rfl) (xRm_of hR (by omega) (by decide) (by omega) (by omega)) dX7_offer_58 (fun r9 h9 hq => ?_)
        obtain ⟨rfl, e9⟩ := hq
        have e9 := e9.symm
        subst e9
        refine x_put C p_Shapes_15 up_s (fit_int _) (Nat.le_of_ble_eq_true rfl) (h1 := (va_up (va_up (va_up h u (xO 2 [vi (hLow (fr cd)), vi (hHigh (fr cd)), vi (hSnd (fr cd)), vi (b2i (hBar (fr cd))), .ref v, vi (hPr (fr cd)), vi (hPal (fr cd)), vi (hSkp (fr cd))])) v (xI G 6 (fr cd))) x (xO 6 [vi (p.1 + 1), vi (hEff (fr cd)), vi p.2.2.1, vi ((p.2.2.2 : Nat) : Int), vi (cls : Int), vi (bass : Int), vi (fm : Int), .ref u]))) (up_u _ _ _ _) dX7_offer_61 ?_
        refine x_aload_n C dX7_offer_64 rfl rfl ?_
        refine x_aload_n C dX7_offer_65 rfl rfl ?_
        refine x_get C f_Shapes_38 up_s rfl dX7_offer_66 ?_
        refine x_get C f_Shapes_93 ((up_n (Ne.symm (ndp_l nd 0 1 rfl rfl (by decide)))).trans ((up_n (ndp_l nd 1 2 rfl rfl (by decide))).trans up_s)) rfl dX7_offer_69 ?_
        refine x_put C p_Shapes_18 up_s (fit_int _) (Nat.le_of_ble_eq_true rfl) (h1 := (va_up (va_up (va_up h u (xO 2 [vi (hLow (fr cd)), vi (hHigh (fr cd)), vi (hSnd (fr cd)), vi (b2i (hBar (fr cd))), .ref v, vi (hPr (fr cd)), vi (hPal (fr cd)), vi (hSkp (fr cd))])) v (xI G 6 (fr cd))) x (xO 6 [vi (p.1 + 1), vi (hEff (fr cd)), vi (hSnd (fr cd)), vi ((p.2.2.2 : Nat) : Int), vi (cls : Int), vi (bass : Int), vi (fm : Int), .ref u]))) (up_u _ _ _ _) dX7_offer_72 ?_
        refine x_aload_n C dX7_offer_75 rfl rfl ?_
        refine x_iload_n C dX7_offer_76 rfl rfl ?_
        refine x_put C p_Shapes_23 up_s (fit_int _) (Nat.le_of_ble_eq_true rfl) (h1 := (va_up (va_up (va_up h u (xO 2 [vi (hLow (fr cd)), vi (hHigh (fr cd)), vi (hSnd (fr cd)), vi (b2i (hBar (fr cd))), .ref v, vi (hPr (fr cd)), vi (hPal (fr cd)), vi (hSkp (fr cd))])) v (xI G 6 (fr cd))) x (xO 6 [vi (p.1 + 1), vi (hEff (fr cd)), vi (hSnd (fr cd)), vi (cd : Int), vi (cls : Int), vi (bass : Int), vi (fm : Int), .ref u]))) (up_u _ _ _ _) dX7_offer_77 ?_
        refine x_vret C E rfl (by omega) (by omega) dX7_offer_80 ⟨rfl, ?_, HH.of ((up_n (Ne.symm (ndp_l nd 0 1 rfl rfl (by decide)))).trans ((up_n (ndp_l nd 1 2 rfl rfl (by decide))).trans up_s)) ((up_n (Ne.symm (ndp_l nd 0 2 rfl rfl (by decide)))).trans up_s), ?_⟩
        · rw [show offS rc cd p = (p.1 + 1, hEff (fr cd), hSnd (fr cd), cd) from (if_pos c16).trans (if_pos (by first | exact Or.inl c35 | exact Or.inr c50))]; exact up_s
        · intro y y1 y2 y3
          simp only [va_up, y1, y2, y3, if_false]
  · skip
    refine x_vret C E rfl (by omega) (by omega) dX7_offer_19 ⟨rfl, ?_, HH.of ((up_n (ndp_l nd 1 2 rfl rfl (by decide))).trans up_s) up_s, ?_⟩
    · rw [show offS rc cd p = p from if_neg (by rw [c16]; decide)]; exact ((up_n (ndp_l nd 0 2 rfl rfl (by decide))).trans ((up_n (ndp_l nd 0 1 rfl rfl (by decide))).trans hX))
    · intro y y1 y2 y3
      simp only [va_up, y1, y2, y3, if_false]

def ShOK (G : xG) (rem : Nat) : Prop := ∀ {h : PH} {x u v i o s n cls bass fm cd hd : Nat} {op : Nat → Int} {sl : Nat → Bool} {cp rc lo : Int} {p : ShS}, h x = xSh p cls bass fm u → HH G h u v → (h i = xO 3 [.ref o, .ref s, vi (n : Int), vi cp, vi rc] ∧ h o = xI G 6 op ∧ h s = xZ G 6 sl) → ShV p → (n ≤ 6 ∧ (∀ j : Nat, j < 6 → 0 ≤ op j ∧ op j ≤ 60) ∧ (0 ≤ cp ∧ cp ≤ 7) ∧ bd rc) → (cls ≤ 4095 ∧ bass ≤ 11 ∧ 1 ≤ fm ∧ fm ≤ 9) → ndp [x, u, v] [i, o, s] → rem ≤ 6 → cd < 16777216 → hd ≤ 4095 → -1 ≤ lo ∧ lo ≤ 100 →
  Cn G m_Shapes_place (4 + rem) 0 0 [.ref x, .ref i, vi ((6 - rem : Nat) : Int), vi (cd : Int), vi (hd : Int), vi lo] h (fun r h' => r = none ∧ h' x = xSh (shp n op sl cp rc cls bass fm rem cd hd lo p) cls bass fm u ∧ HH G h' u v ∧ ∀ y, y ≠ x → y ≠ u → y ≠ v → h' y = h y)
theorem or_lt {a b : Nat} (ha : a ≤ 4095) (hb : b < 12) : a ||| 2 ^ b ≤ 4095 := by
  have h : a ||| 2 ^ b < 2 ^ 12 := Nat.or_lt_two_pow (by omega) (Nat.pow_lt_pow_right (by decide) hb)
  omega

set_option maxRecDepth 100000 in
set_option maxHeartbeats 4000000 in
theorem c_Sh_place_0 {G : xG} {h : PH} {x u v i o s n cls bass fm cd hd : Nat} {op : Nat → Int} {sl : Nat → Bool} {cp rc lo : Int} {p : ShS} (hX : h x = xSh p cls bass fm u) (hH : HH G h u v) (hI : h i = xO 3 [.ref o, .ref s, vi (n : Int), vi cp, vi rc] ∧ h o = xI G 6 op ∧ h s = xZ G 6 sl) (hV : ShV p) (hI2 : n ≤ 6 ∧ (∀ j : Nat, j < 6 → 0 ≤ op j ∧ op j ≤ 60) ∧ (0 ≤ cp ∧ cp ≤ 7) ∧ bd rc) (hq : cls ≤ 4095 ∧ bass ≤ 11 ∧ 1 ≤ fm ∧ fm ≤ 9) (nd : ndp [x, u, v] [i, o, s]) (hr : 0 ≤ 6) (hc : cd < 16777216) (hhd : hd ≤ 4095) (hlo : -1 ≤ lo ∧ lo ≤ 100) : Cn G m_Shapes_place (4 + 0) 0 0 [.ref x, .ref i, vi ((6 - 0 : Nat) : Int), vi (cd : Int), vi (hd : Int), vi lo] h (fun r h' => r = none ∧ h' x = xSh (shp n op sl cp rc cls bass fm 0 cd hd lo p) cls bass fm u ∧ HH G h' u v ∧ ∀ y, y ≠ x → y ≠ u → y ≠ v → h' y = h y) := by
  refine Cn_of (by decide) (Nat.le_of_ble_eq_true rfl) (fun K C hR E => ?_)
  show X G K 12 0 [some (.ref x), some (.ref i), some (vi ((6 - 0 : Nat) : Int)), some (vi (cd : Int)), some (vi (hd : Int)), some (vi lo), none, none, none, none, none, none] [] h 0 0
  refine x_iload_n C dX7_place_0 rfl rfl ?_
  refine x_bipush C (z := 6) dX7_place_1 (by decide) ?_
  refine x_icmp_lt C (tgt := 42) dX7_place_3 (by decide) ⟨by omega, by omega⟩ (by decide) (fun c3 => ?_) (fun c3 => ?_)
  · skip
    exfalso; omega
  · skip
    refine x_iload C dX7_place_6 rfl ?_
    refine x_aload_n C dX7_place_8 rfl rfl ?_
    refine x_get C f_Shapes_26 hX rfl dX7_place_9 ?_
    refine x_icmp_ne C (tgt := 41) dX7_place_12 (by decide) ⟨by omega, by omega⟩ ⟨by omega, by omega⟩ (fun c12 => ?_) (fun c12 => ?_)
    · skip
      exact x_vret C E rfl (by omega) (by omega) dX7_place_41 (⟨rfl, by rw [show shp n op sl cp rc cls bass fm 0 cd hd lo p = p from if_neg (by omega)]; exact hX, hH, fun _ _ _ _ => rfl⟩)
    · skip
      refine x_iload C dX7_place_15 rfl ?_
      refine x_if_lt C (tgt := 41) dX7_place_17 (by decide) ⟨by omega, by omega⟩ (fun c17 => ?_) (fun c17 => ?_)
      · skip
        exact x_vret C E rfl (by omega) (by omega) dX7_place_41 (⟨rfl, by rw [show shp n op sl cp rc cls bass fm 0 cd hd lo p = p from if_neg (by omega)]; exact hX, hH, fun _ _ _ _ => rfl⟩)
      · skip
        refine x_iload C dX7_place_20 rfl ?_
        refine x_bipush C (z := 12) dX7_place_22 (by decide) ?_
        refine x_irem C (c := (((lo.toNat % 12 : Nat)) : Int)) dX7_place_24 (by decide) (by rw [show lo = ((lo.toNat : Nat) : Int) by omega]; exact I_rem (by omega) (by decide) (by decide)) ?_
        refine x_aload_n C dX7_place_25 rfl rfl ?_
        refine x_get C f_Shapes_29 hX rfl dX7_place_26 ?_
        refine x_icmp_ne C (tgt := 41) dX7_place_29 (by decide) ⟨by omega, by omega⟩ ⟨by omega, by omega⟩ (fun c29 => ?_) (fun c29 => ?_)
        · skip
          exact x_vret C E rfl (by omega) (by omega) dX7_place_41 (⟨rfl, by rw [show shp n op sl cp rc cls bass fm 0 cd hd lo p = p from if_neg (by omega)]; exact hX, hH, fun _ _ _ _ => rfl⟩)
        · skip
          refine x_aload_n C dX7_place_32 rfl rfl ?_
          refine x_iload_n C dX7_place_33 rfl rfl ?_
          refine x_aload_n C dX7_place_34 rfl rfl ?_
          refine x_get C f_Shapes_50 hI.1 rfl dX7_place_35 ?_
          refine x_invV C s_Shapes_55 (st := []) (c_Sh_offer hX hH hV hI2.2.2.2 hc nd) hX rfl rfl (Nat.le_of_ble_eq_true rfl) (xRm_of hR (by omega) (by decide) (by omega) (by omega)) dX7_place_38 (fun r9 h9 hq => ?_)
          obtain ⟨rfl, hX2, hH2, F2⟩ := hq
          exact x_vret C E rfl (by omega) (by omega) dX7_place_41 (⟨rfl, by rw [show shp n op sl cp rc cls bass fm 0 cd hd lo p = offS rc cd p from if_pos ⟨by omega, by omega, by omega⟩]; exact hX2, hH2, F2⟩)

set_option maxRecDepth 100000 in
set_option maxHeartbeats 4000000 in
theorem c_Sh_place_s {G : xG} {h : PH} {rem : Nat} (ih0 : ShOK G rem) {x u v i o s n cls bass fm cd hd : Nat} {op : Nat → Int} {sl : Nat → Bool} {cp rc lo : Int} {p : ShS} (hX : h x = xSh p cls bass fm u) (hH : HH G h u v) (hI : h i = xO 3 [.ref o, .ref s, vi (n : Int), vi cp, vi rc] ∧ h o = xI G 6 op ∧ h s = xZ G 6 sl) (hV : ShV p) (hI2 : n ≤ 6 ∧ (∀ j : Nat, j < 6 → 0 ≤ op j ∧ op j ≤ 60) ∧ (0 ≤ cp ∧ cp ≤ 7) ∧ bd rc) (hq : cls ≤ 4095 ∧ bass ≤ 11 ∧ 1 ≤ fm ∧ fm ≤ 9) (nd : ndp [x, u, v] [i, o, s]) (hr : rem + 1 ≤ 6) (hc : cd < 16777216) (hhd : hd ≤ 4095) (hlo : -1 ≤ lo ∧ lo ≤ 100) : Cn G m_Shapes_place (4 + (rem + 1)) 0 0 [.ref x, .ref i, vi ((6 - (rem + 1) : Nat) : Int), vi (cd : Int), vi (hd : Int), vi lo] h (fun r h' => r = none ∧ h' x = xSh (shp n op sl cp rc cls bass fm (rem + 1) cd hd lo p) cls bass fm u ∧ HH G h' u v ∧ ∀ y, y ≠ x → y ≠ u → y ≠ v → h' y = h y) := by
  refine Cn_of (by decide) (Nat.le_of_ble_eq_true rfl) (fun K C hR E => ?_)
  have hV1 := hI2.1
  have hcp := hI2.2.2.1
  have hos := hI2.2.1 (6 - (rem + 1)) (by omega)
  have hq4 := hq.2.2.2
  have hq3 := hq.2.2.1
  have hq1 := hq.1
  show X G K 12 0 [some (.ref x), some (.ref i), some (vi ((6 - (rem + 1) : Nat) : Int)), some (vi (cd : Int)), some (vi (hd : Int)), some (vi lo), none, none, none, none, none, none] [] h 0 0
  refine x_iload_n C dX7_place_0 rfl rfl ?_
  refine x_bipush C (z := 6) dX7_place_1 (by decide) ?_
  refine x_icmp_lt C (tgt := 42) dX7_place_3 (by decide) ⟨by omega, by omega⟩ (by decide) (fun c3 => ?_) (fun c3 => ?_)
  · skip
    refine x_aload_n C dX7_place_42 rfl rfl ?_
    refine x_aload_n C dX7_place_43 rfl rfl ?_
    refine x_iload_n C dX7_place_44 rfl rfl ?_
    refine x_iconst C dX7_place_45 ?_
    refine x_iadd C dX7_place_46 ?_
    refine x_re (b := ((6 - rem : Nat) : Int)) (by omega) ?_
    refine x_iload_n C dX7_place_47 rfl rfl ?_
    refine x_iload C dX7_place_48 rfl ?_
    refine x_iload C dX7_place_50 rfl ?_
    refine x_invS C s_Shapes_42 (st := []) (ih0 hX hH hI hV hI2 hq nd (by omega) hc hhd hlo) rfl rfl (Nat.le_of_ble_eq_true rfl) (xRm_of hR (by omega) (by decide) (by omega) (by omega)) dX7_place_52 (fun r9 h9 hq => ?_)
    obtain ⟨rfl, hX1, hH1, F1⟩ := hq
    refine x_aload_n C dX7_place_55 rfl rfl ?_
    refine x_iload_n C dX7_place_56 rfl rfl ?_
    refine x_invV C s_Shapes_59 (st := []) (c_Instr_isUsed ((F1 i (Ne.symm (ndp_r nd 0 0 rfl rfl)) (Ne.symm (ndp_r nd 1 0 rfl rfl)) (Ne.symm (ndp_r nd 2 0 rfl rfl))).trans hI.1) (z := (6 - (rem + 1))) (by omega) hV1 ((F1 s (Ne.symm (ndp_r nd 0 2 rfl rfl)) (Ne.symm (ndp_r nd 1 2 rfl rfl)) (Ne.symm (ndp_r nd 2 2 rfl rfl))).trans hI.2.2)) ((F1 i (Ne.symm (ndp_r nd 0 0 rfl rfl)) (Ne.symm (ndp_r nd 1 0 rfl rfl)) (Ne.symm (ndp_r nd 2 0 rfl rfl))).trans hI.1) rfl rfl (Nat.le_of_ble_eq_true rfl) (xRm_of hR (by omega) (by decide) (by omega) (by omega)) dX7_place_57 (fun r9 h9 hq => ?_)
    obtain ⟨rfl, e9⟩ := hq
    have e9 := e9.symm
    subst e9
    refine x_ifneB C (tgt := 64) dX7_place_60 (by decide) (fun c60 => ?_) (fun c60 => ?_)
    · skip
      have hused := c60
      refine x_aload_n C dX7_place_64 rfl rfl ?_
      refine x_get C f_Shapes_32 hX1 rfl dX7_place_65 ?_
      refine x_iconst C dX7_place_68 ?_
      refine x_iadd C dX7_place_69 ?_
      refine x_aload_n C dX7_place_70 rfl rfl ?_
      refine x_invV C s_Shapes_63 (st := [vi ((fm : Int) + 3)]) (c_Instr_lastFret ((F1 i (Ne.symm (ndp_r nd 0 0 rfl rfl)) (Ne.symm (ndp_r nd 1 0 rfl rfl)) (Ne.symm (ndp_r nd 2 0 rfl rfl))).trans hI.1)) ((F1 i (Ne.symm (ndp_r nd 0 0 rfl rfl)) (Ne.symm (ndp_r nd 1 0 rfl rfl)) (Ne.symm (ndp_r nd 2 0 rfl rfl))).trans hI.1) rfl rfl (Nat.le_of_ble_eq_true rfl) (xRm_of hR (by omega) (by decide) (by omega) (by omega)) dX7_place_71 (fun r9 h9 hq => ?_)
      obtain ⟨rfl, e9⟩ := hq
      have e9 := e9.symm
      subst e9
      refine x_min C s_Shapes_67 static_Math_min i_Math code_Math_min ⟨by omega, by omega⟩ ⟨by omega, by omega⟩ (Nat.le_of_ble_eq_true rfl) hR (by omega) (by omega) (by omega) dX7_place_74 ?_
      refine x_re (b := (lstF fm cp)) (rfl) ?_
      refine x_istore C (ls' := [some (.ref x), some (.ref i), some (vi ((6 - (rem + 1) : Nat) : Int)), some (vi (cd : Int)), some (vi (hd : Int)), some (vi lo), some (vi (lstF fm cp)), none, none, none, none, none]) dX7_place_77 (by decide) rfl ?_
      refine x_iconst C dX7_place_79 ?_
      refine x_istore C (ls' := [some (.ref x), some (.ref i), some (vi ((6 - (rem + 1) : Nat) : Int)), some (vi (cd : Int)), some (vi (hd : Int)), some (vi lo), some (vi (lstF fm cp)), some (vi 0), none, none, none, none]) dX7_place_80 (by decide) rfl ?_
      have L82 : ∀ (n0 : Nat) (k : Nat) (hp1 : PH) (q : ShS), nF fm cp - k < n0 → (k ≤ nF fm cp) → (q = ((List.range k).foldl (shStep op cp cls fm (6 - (rem + 1)) (shp n op sl cp rc cls bass fm rem) cd hd lo) (shp n op sl cp rc cls bass fm rem cd hd lo p))) → (hp1 x = xSh q cls bass fm u) → (HH G hp1 u v) → (∀ y, y ≠ x → y ≠ u → y ≠ v → hp1 y = h y) → (ShV q) → X G K 12 82 [some (.ref x), some (.ref i), some (vi (((6 - (rem + 1)) : Nat) : Int)), some (vi (cd : Int)), some (vi (hd : Int)), some (vi lo), some (vi (lstF fm cp)), some (vi (k : Int)), none, none, none, none] [] hp1 0 0 := by
        intro n0
        induction n0 with
        | zero => intro k hp1 q hm; exact absurd hm (Nat.not_lt_zero _)
        | succ n0 ih_L82 =>
          intro k hp1 q hm i1 i2 hXq i4 F hVq
          have hnf := nF_lt hcp hq3 i1
          have hlf : 4 ≤ lstF fm cp ∧ lstF fm cp ≤ 12 := by unfold lstF; split <;> omega
          have hn13 := nF_le (fm := fm) hcp
          have hft : k ≤ 13 := by omega
          have hpe : op (6 - (rem + 1)) + cp + (k : Int) = (((pit op cp (6 - (rem + 1)) k) : Nat) : Int) := by unfold pit; omega
          have hm12 : (pit op cp (6 - (rem + 1)) k) % 12 < 12 := Nat.mod_lt _ (by decide)
          refine x_iload C dX7_place_82 rfl ?_
          refine x_iload C dX7_place_84 rfl ?_
          refine x_icmp_gt C (tgt := 191) dX7_place_86 (by decide) ⟨by omega, by omega⟩ ⟨by omega, by omega⟩ (fun c86 => ?_) (fun c86 => ?_)
          · skip
            have e0 : k = nF fm cp := by omega
            exact x_vret C E rfl (by omega) (by omega) dX7_place_191 (⟨rfl, by rw [show shp n op sl cp rc cls bass fm (rem + 1) cd hd lo p = q from (if_pos hused).trans (by rw [i2, e0])]; exact hXq, i4, F⟩)
          · skip
            have L108 : ∀ (bel : Bool), (bel = decide (0 < k ∧ k < fm)) → X G K 12 108 [some (.ref x), some (.ref i), some (vi (((6 - (rem + 1)) : Nat) : Int)), some (vi (cd : Int)), some (vi (hd : Int)), some (vi lo), some (vi (lstF fm cp)), some (vi (k : Int)), none, none, none, none] [vi (b2i bel)] hp1 0 0 := by
              intro bel hbel
              refine x_istore C (ls' := [some (.ref x), some (.ref i), some (vi (((6 - (rem + 1)) : Nat) : Int)), some (vi (cd : Int)), some (vi (hd : Int)), some (vi lo), some (vi (lstF fm cp)), some (vi (k : Int)), some (vi (b2i bel)), none, none, none]) dX7_place_108 (by decide) rfl ?_
              refine x_aload_n C dX7_place_110 rfl rfl ?_
              refine x_iload_n C dX7_place_111 rfl rfl ?_
              refine x_iload C dX7_place_112 rfl ?_
              refine x_invV C s_Shapes_72 (st := []) (c_Instr_pitchOf ((F i (Ne.symm (ndp_r nd 0 0 rfl rfl)) (Ne.symm (ndp_r nd 1 0 rfl rfl)) (Ne.symm (ndp_r nd 2 0 rfl rfl))).trans hI.1) ((F o (Ne.symm (ndp_r nd 0 1 rfl rfl)) (Ne.symm (ndp_r nd 1 1 rfl rfl)) (Ne.symm (ndp_r nd 2 1 rfl rfl))).trans hI.2.1) ((F s (Ne.symm (ndp_r nd 0 2 rfl rfl)) (Ne.symm (ndp_r nd 1 2 rfl rfl)) (Ne.symm (ndp_r nd 2 2 rfl rfl))).trans hI.2.2) hV1 (z := (6 - (rem + 1))) (by omega)) ((F i (Ne.symm (ndp_r nd 0 0 rfl rfl)) (Ne.symm (ndp_r nd 1 0 rfl rfl)) (Ne.symm (ndp_r nd 2 0 rfl rfl))).trans hI.1) rfl rfl (Nat.le_of_ble_eq_true rfl) (xRm_of hR (by omega) (by decide) (by omega) (by omega)) dX7_place_114 (fun r9 h9 hq => ?_)
              obtain ⟨rfl, e9⟩ := hq
              have e9 := e9.symm
              subst e9
              refine x_re (b := (((pit op cp (6 - (rem + 1)) k) : Nat) : Int)) (by rw [if_pos hused]; exact hpe) ?_
              refine x_istore C (ls' := [some (.ref x), some (.ref i), some (vi (((6 - (rem + 1)) : Nat) : Int)), some (vi (cd : Int)), some (vi (hd : Int)), some (vi lo), some (vi (lstF fm cp)), some (vi (k : Int)), some (vi (b2i bel)), some (vi (((pit op cp (6 - (rem + 1)) k) : Nat) : Int)), none, none]) dX7_place_117 (by decide) rfl ?_
              refine x_iconst C dX7_place_119 ?_
              refine x_iload C dX7_place_120 rfl ?_
              refine x_bipush C (z := 12) dX7_place_122 (by decide) ?_
              refine x_irem C (c := ((((pit op cp (6 - (rem + 1)) k) % 12 : Nat)) : Int)) dX7_place_124 (by decide) (I_rem (by omega) (by decide) (by decide)) ?_
              refine x_ishl C (c := (((2 ^ ((pit op cp (6 - (rem + 1)) k) % 12) : Nat)) : Int)) dX7_place_125 ((sh_l (a := 1) (by omega) (by rw [Nat.one_mul]; exact Nat.pow_lt_pow_right (by decide) (by omega))).trans (by rw [Nat.one_mul])) ?_
              refine x_istore C (ls' := [some (.ref x), some (.ref i), some (vi (((6 - (rem + 1)) : Nat) : Int)), some (vi (cd : Int)), some (vi (hd : Int)), some (vi lo), some (vi (lstF fm cp)), some (vi (k : Int)), some (vi (b2i bel)), some (vi (((pit op cp (6 - (rem + 1)) k) : Nat) : Int)), some (vi (((2 ^ ((pit op cp (6 - (rem + 1)) k) % 12) : Nat)) : Int)), none]) dX7_place_126 (by decide) rfl ?_
              refine x_iload C dX7_place_128 rfl ?_
              refine x_ifneB C (tgt := 185) dX7_place_130 (by decide) (fun c130 => ?_) (fun c130 => ?_)
              · skip
                have hnb : 0 < k ∧ k < fm := of_decide_eq_true (hbel.symm.trans c130)
                refine x_iinc C (ls' := [some (.ref x), some (.ref i), some (vi (((6 - (rem + 1)) : Nat) : Int)), some (vi (cd : Int)), some (vi (hd : Int)), some (vi lo), some (vi (lstF fm cp)), some (vi ((k : Int) + 1)), some (vi (b2i bel)), some (vi (((pit op cp (6 - (rem + 1)) k) : Nat) : Int)), some (vi (((2 ^ ((pit op cp (6 - (rem + 1)) k) % 12) : Nat)) : Int)), none]) dX7_place_185 rfl (by decide) (z1 := ((k : Int) + 1)) rfl rfl ?_
                refine x_goto C (tgt := 82) dX7_place_188 (by decide) ?_
                refine X.sub (ls' := [some (.ref x), some (.ref i), some (vi (((6 - (rem + 1)) : Nat) : Int)), some (vi (cd : Int)), some (vi (hd : Int)), some (vi lo), some (vi (lstF fm cp)), some (vi ((k : Int) + 1)), none, none, none, none]) (sub_cons (Or.inr rfl) (sub_cons (Or.inr rfl) (sub_cons (Or.inr rfl) (sub_cons (Or.inr rfl) (sub_cons (Or.inr rfl) (sub_cons (Or.inr rfl) (sub_cons (Or.inr rfl) (sub_cons (Or.inr rfl) (sub_cons (Or.inl rfl) (sub_cons (Or.inl rfl) (sub_cons (Or.inl rfl) (sub_cons (Or.inl rfl) sub_nil)))))))))))) ?_
                have e7 : (shStep op cp cls fm (6 - (rem + 1)) (shp n op sl cp rc cls bass fm rem) cd hd lo) q k = q := if_pos (by omega)
                exact ih_L82 (k + 1) hp1 _ (by omega) (by omega) (by rw [List.range_succ, List.foldl_append, ← i2]; exact e7.symm) (hXq) (i4) (F) (hVq)
              · skip
                have hnb : ¬ (0 < k ∧ k < fm) := of_decide_eq_false (hbel.symm.trans c130)
                refine x_aload_n C dX7_place_133 rfl rfl ?_
                refine x_get C f_Shapes_26 hXq rfl dX7_place_134 ?_
                refine x_iload C dX7_place_137 rfl ?_
                refine x_iand C (c := (((cls &&& 2 ^ ((pit op cp (6 - (rem + 1)) k) % 12) : Nat)) : Int)) dX7_place_139 (I_and _ _) ?_
                refine x_if_eq C (tgt := 185) dX7_place_140 (by decide) (by have := Nat.and_le_left (n := cls) (m := 2 ^ ((pit op cp (6 - (rem + 1)) k) % 12)); exact ⟨by omega, by omega⟩) (fun c140 => ?_) (fun c140 => ?_)
                · skip
                  refine x_iinc C (ls' := [some (.ref x), some (.ref i), some (vi (((6 - (rem + 1)) : Nat) : Int)), some (vi (cd : Int)), some (vi (hd : Int)), some (vi lo), some (vi (lstF fm cp)), some (vi ((k : Int) + 1)), some (vi (b2i bel)), some (vi (((pit op cp (6 - (rem + 1)) k) : Nat) : Int)), some (vi (((2 ^ ((pit op cp (6 - (rem + 1)) k) % 12) : Nat)) : Int)), none]) dX7_place_185 rfl (by decide) (z1 := ((k : Int) + 1)) rfl rfl ?_
                  refine x_goto C (tgt := 82) dX7_place_188 (by decide) ?_
                  refine X.sub (ls' := [some (.ref x), some (.ref i), some (vi (((6 - (rem + 1)) : Nat) : Int)), some (vi (cd : Int)), some (vi (hd : Int)), some (vi lo), some (vi (lstF fm cp)), some (vi ((k : Int) + 1)), none, none, none, none]) (sub_cons (Or.inr rfl) (sub_cons (Or.inr rfl) (sub_cons (Or.inr rfl) (sub_cons (Or.inr rfl) (sub_cons (Or.inr rfl) (sub_cons (Or.inr rfl) (sub_cons (Or.inr rfl) (sub_cons (Or.inr rfl) (sub_cons (Or.inl rfl) (sub_cons (Or.inl rfl) (sub_cons (Or.inl rfl) (sub_cons (Or.inl rfl) sub_nil)))))))))))) ?_
                  have e7 : (shStep op cp cls fm (6 - (rem + 1)) (shp n op sl cp rc cls bass fm rem) cd hd lo) q k = q := if_pos (by omega)
                  exact ih_L82 (k + 1) hp1 _ (by omega) (by omega) (by rw [List.range_succ, List.foldl_append, ← i2]; exact e7.symm) (hXq) (i4) (F) (hVq)
                · skip
                  refine x_iload C dX7_place_143 rfl ?_
                  refine x_iconst C dX7_place_145 ?_
                  refine x_icmp_ne C (tgt := 154) dX7_place_146 (by decide) ⟨by omega, by omega⟩ (by decide) (fun c146 => ?_) (fun c146 => ?_)
                  · skip
                    refine x_iload C dX7_place_154 rfl ?_
                    refine x_iload C dX7_place_156 rfl ?_
                    refine x_min C s_Shapes_67 static_Math_min i_Math code_Math_min ⟨by omega, by omega⟩ ⟨by omega, by omega⟩ (Nat.le_of_ble_eq_true rfl) hR (by omega) (by omega) (by omega) dX7_place_158 ?_
                    skip
                    refine x_re (b := (lowT lo (pit op cp (6 - (rem + 1)) k))) ((if_neg (show ¬ lo = -1 by omega)).symm) ?_
                    refine x_istore C (ls' := [some (.ref x), some (.ref i), some (vi (((6 - (rem + 1)) : Nat) : Int)), some (vi (cd : Int)), some (vi (hd : Int)), some (vi lo), some (vi (lstF fm cp)), some (vi (k : Int)), some (vi (b2i bel)), some (vi (((pit op cp (6 - (rem + 1)) k) : Nat) : Int)), some (vi (((2 ^ ((pit op cp (6 - (rem + 1)) k) % 12) : Nat)) : Int)), some (vi (lowT lo (pit op cp (6 - (rem + 1)) k)))]) dX7_place_161 (by decide) rfl ?_
                    refine x_aload_n C dX7_place_163 rfl rfl ?_
                    refine x_aload_n C dX7_place_164 rfl rfl ?_
                    refine x_iload_n C dX7_place_165 rfl rfl ?_
                    refine x_iconst C dX7_place_166 ?_
                    refine x_iadd C dX7_place_167 ?_
                    refine x_re (b := ((6 - rem : Nat) : Int)) (by omega) ?_
                    refine x_iload_n C dX7_place_168 rfl rfl ?_
                    refine x_iload_n C dX7_place_169 rfl rfl ?_
                    refine x_iload C dX7_place_170 rfl ?_
                    refine x_invS C s_Shapes_75 (st := [vi ((6 - rem : Nat) : Int), .ref i, .ref x]) (c_with (c := cd) (s := (6 - (rem + 1))) (f := (k : Int)) ⟨by omega, by omega⟩ (by omega)) rfl rfl (Nat.le_of_ble_eq_true rfl) (xRm_of hR (by omega) (by decide) (by omega) (by omega)) dX7_place_172 (fun r9 h9 hq => ?_)
                    obtain ⟨rfl, e9⟩ := hq
                    have e9 := e9.symm
                    subst e9
                    refine x_iload C dX7_place_175 rfl ?_
                    refine x_iload C dX7_place_177 rfl ?_
                    refine x_ior C (c := (((hd ||| 2 ^ ((pit op cp (6 - (rem + 1)) k) % 12) : Nat)) : Int)) dX7_place_179 (I_or _ _) ?_
                    refine x_iload C dX7_place_180 rfl ?_
                    refine x_invS C s_Shapes_42 (st := []) (ih0 (cd := wi cd (6 - (rem + 1)) (k : Int)) (hd := hd ||| 2 ^ ((pit op cp (6 - (rem + 1)) k) % 12)) (lo := lowT lo (pit op cp (6 - (rem + 1)) k)) hXq i4 ⟨((F i (Ne.symm (ndp_r nd 0 0 rfl rfl)) (Ne.symm (ndp_r nd 1 0 rfl rfl)) (Ne.symm (ndp_r nd 2 0 rfl rfl))).trans hI.1), ((F o (Ne.symm (ndp_r nd 0 1 rfl rfl)) (Ne.symm (ndp_r nd 1 1 rfl rfl)) (Ne.symm (ndp_r nd 2 1 rfl rfl))).trans hI.2.1), ((F s (Ne.symm (ndp_r nd 0 2 rfl rfl)) (Ne.symm (ndp_r nd 1 2 rfl rfl)) (Ne.symm (ndp_r nd 2 2 rfl rfl))).trans hI.2.2)⟩ hVq hI2 hq nd (by omega) (wi_lt hc (by omega) ⟨by omega, by omega⟩) (or_lt hhd hm12) ⟨by unfold lowT; split <;> (try split) <;> omega, by unfold lowT; split <;> (try split) <;> omega⟩) rfl rfl (Nat.le_of_ble_eq_true rfl) (xRm_of hR (by omega) (by decide) (by omega) (by omega)) dX7_place_182 (fun r9 h9 hq => ?_)
                    obtain ⟨rfl, hX2, hH2, F2⟩ := hq
                    refine x_iinc C (ls' := [some (.ref x), some (.ref i), some (vi (((6 - (rem + 1)) : Nat) : Int)), some (vi (cd : Int)), some (vi (hd : Int)), some (vi lo), some (vi (lstF fm cp)), some (vi ((k : Int) + 1)), some (vi (b2i bel)), some (vi (((pit op cp (6 - (rem + 1)) k) : Nat) : Int)), some (vi (((2 ^ ((pit op cp (6 - (rem + 1)) k) % 12) : Nat)) : Int)), some (vi (lowT lo (pit op cp (6 - (rem + 1)) k)))]) dX7_place_185 rfl (by decide) (z1 := ((k : Int) + 1)) rfl rfl ?_
                    refine x_goto C (tgt := 82) dX7_place_188 (by decide) ?_
                    refine X.sub (ls' := [some (.ref x), some (.ref i), some (vi (((6 - (rem + 1)) : Nat) : Int)), some (vi (cd : Int)), some (vi (hd : Int)), some (vi lo), some (vi (lstF fm cp)), some (vi ((k : Int) + 1)), none, none, none, none]) (sub_cons (Or.inr rfl) (sub_cons (Or.inr rfl) (sub_cons (Or.inr rfl) (sub_cons (Or.inr rfl) (sub_cons (Or.inr rfl) (sub_cons (Or.inr rfl) (sub_cons (Or.inr rfl) (sub_cons (Or.inr rfl) (sub_cons (Or.inl rfl) (sub_cons (Or.inl rfl) (sub_cons (Or.inl rfl) (sub_cons (Or.inl rfl) sub_nil)))))))))))) ?_
                    have e7 : (shStep op cp cls fm (6 - (rem + 1)) (shp n op sl cp rc cls bass fm rem) cd hd lo) q k = shp n op sl cp rc cls bass fm rem (wi cd (6 - (rem + 1)) (k : Int)) (hd ||| 2 ^ ((pit op cp (6 - (rem + 1)) k) % 12)) (lowT lo (pit op cp (6 - (rem + 1)) k)) q := if_neg (by omega)
                    exact ih_L82 (k + 1) h9 _ (by omega) (by omega) (by rw [List.range_succ, List.foldl_append, ← i2]; exact e7.symm) (hX2) (hH2) (fun y y1 y2 y3 => (F2 y y1 y2 y3).trans (F y y1 y2 y3)) (shp_V n op sl rc cls bass fm hcp rem _ _ _ _ hVq (wi_lt hc (by omega) ⟨by omega, by omega⟩))
                  · skip
                    refine x_iload C dX7_place_149 rfl ?_
                    refine x_goto C (tgt := 161) dX7_place_151 (by decide) ?_
                    skip
                    refine x_re (b := (lowT lo (pit op cp (6 - (rem + 1)) k))) ((if_pos (show lo = -1 by omega)).symm) ?_
                    refine x_istore C (ls' := [some (.ref x), some (.ref i), some (vi (((6 - (rem + 1)) : Nat) : Int)), some (vi (cd : Int)), some (vi (hd : Int)), some (vi lo), some (vi (lstF fm cp)), some (vi (k : Int)), some (vi (b2i bel)), some (vi (((pit op cp (6 - (rem + 1)) k) : Nat) : Int)), some (vi (((2 ^ ((pit op cp (6 - (rem + 1)) k) % 12) : Nat)) : Int)), some (vi (lowT lo (pit op cp (6 - (rem + 1)) k)))]) dX7_place_161 (by decide) rfl ?_
                    refine x_aload_n C dX7_place_163 rfl rfl ?_
                    refine x_aload_n C dX7_place_164 rfl rfl ?_
                    refine x_iload_n C dX7_place_165 rfl rfl ?_
                    refine x_iconst C dX7_place_166 ?_
                    refine x_iadd C dX7_place_167 ?_
                    refine x_re (b := ((6 - rem : Nat) : Int)) (by omega) ?_
                    refine x_iload_n C dX7_place_168 rfl rfl ?_
                    refine x_iload_n C dX7_place_169 rfl rfl ?_
                    refine x_iload C dX7_place_170 rfl ?_
                    refine x_invS C s_Shapes_75 (st := [vi ((6 - rem : Nat) : Int), .ref i, .ref x]) (c_with (c := cd) (s := (6 - (rem + 1))) (f := (k : Int)) ⟨by omega, by omega⟩ (by omega)) rfl rfl (Nat.le_of_ble_eq_true rfl) (xRm_of hR (by omega) (by decide) (by omega) (by omega)) dX7_place_172 (fun r9 h9 hq => ?_)
                    obtain ⟨rfl, e9⟩ := hq
                    have e9 := e9.symm
                    subst e9
                    refine x_iload C dX7_place_175 rfl ?_
                    refine x_iload C dX7_place_177 rfl ?_
                    refine x_ior C (c := (((hd ||| 2 ^ ((pit op cp (6 - (rem + 1)) k) % 12) : Nat)) : Int)) dX7_place_179 (I_or _ _) ?_
                    refine x_iload C dX7_place_180 rfl ?_
                    refine x_invS C s_Shapes_42 (st := []) (ih0 (cd := wi cd (6 - (rem + 1)) (k : Int)) (hd := hd ||| 2 ^ ((pit op cp (6 - (rem + 1)) k) % 12)) (lo := lowT lo (pit op cp (6 - (rem + 1)) k)) hXq i4 ⟨((F i (Ne.symm (ndp_r nd 0 0 rfl rfl)) (Ne.symm (ndp_r nd 1 0 rfl rfl)) (Ne.symm (ndp_r nd 2 0 rfl rfl))).trans hI.1), ((F o (Ne.symm (ndp_r nd 0 1 rfl rfl)) (Ne.symm (ndp_r nd 1 1 rfl rfl)) (Ne.symm (ndp_r nd 2 1 rfl rfl))).trans hI.2.1), ((F s (Ne.symm (ndp_r nd 0 2 rfl rfl)) (Ne.symm (ndp_r nd 1 2 rfl rfl)) (Ne.symm (ndp_r nd 2 2 rfl rfl))).trans hI.2.2)⟩ hVq hI2 hq nd (by omega) (wi_lt hc (by omega) ⟨by omega, by omega⟩) (or_lt hhd hm12) ⟨by unfold lowT; split <;> (try split) <;> omega, by unfold lowT; split <;> (try split) <;> omega⟩) rfl rfl (Nat.le_of_ble_eq_true rfl) (xRm_of hR (by omega) (by decide) (by omega) (by omega)) dX7_place_182 (fun r9 h9 hq => ?_)
                    obtain ⟨rfl, hX2, hH2, F2⟩ := hq
                    refine x_iinc C (ls' := [some (.ref x), some (.ref i), some (vi (((6 - (rem + 1)) : Nat) : Int)), some (vi (cd : Int)), some (vi (hd : Int)), some (vi lo), some (vi (lstF fm cp)), some (vi ((k : Int) + 1)), some (vi (b2i bel)), some (vi (((pit op cp (6 - (rem + 1)) k) : Nat) : Int)), some (vi (((2 ^ ((pit op cp (6 - (rem + 1)) k) % 12) : Nat)) : Int)), some (vi (lowT lo (pit op cp (6 - (rem + 1)) k)))]) dX7_place_185 rfl (by decide) (z1 := ((k : Int) + 1)) rfl rfl ?_
                    refine x_goto C (tgt := 82) dX7_place_188 (by decide) ?_
                    refine X.sub (ls' := [some (.ref x), some (.ref i), some (vi (((6 - (rem + 1)) : Nat) : Int)), some (vi (cd : Int)), some (vi (hd : Int)), some (vi lo), some (vi (lstF fm cp)), some (vi ((k : Int) + 1)), none, none, none, none]) (sub_cons (Or.inr rfl) (sub_cons (Or.inr rfl) (sub_cons (Or.inr rfl) (sub_cons (Or.inr rfl) (sub_cons (Or.inr rfl) (sub_cons (Or.inr rfl) (sub_cons (Or.inr rfl) (sub_cons (Or.inr rfl) (sub_cons (Or.inl rfl) (sub_cons (Or.inl rfl) (sub_cons (Or.inl rfl) (sub_cons (Or.inl rfl) sub_nil)))))))))))) ?_
                    have e7 : (shStep op cp cls fm (6 - (rem + 1)) (shp n op sl cp rc cls bass fm rem) cd hd lo) q k = shp n op sl cp rc cls bass fm rem (wi cd (6 - (rem + 1)) (k : Int)) (hd ||| 2 ^ ((pit op cp (6 - (rem + 1)) k) % 12)) (lowT lo (pit op cp (6 - (rem + 1)) k)) q := if_neg (by omega)
                    exact ih_L82 (k + 1) h9 _ (by omega) (by omega) (by rw [List.range_succ, List.foldl_append, ← i2]; exact e7.symm) (hX2) (hH2) (fun y y1 y2 y3 => (F2 y y1 y2 y3).trans (F y y1 y2 y3)) (shp_V n op sl rc cls bass fm hcp rem _ _ _ _ hVq (wi_lt hc (by omega) ⟨by omega, by omega⟩))
            refine x_iload C dX7_place_89 rfl ?_
            refine x_if_le C (tgt := 107) dX7_place_91 (by decide) ⟨by omega, by omega⟩ (fun c91 => ?_) (fun c91 => ?_)
            · skip
              refine x_iconst C dX7_place_107 ?_
              exact L108 false ((decide_eq_false (by omega)).symm)
            · skip
              refine x_iload C dX7_place_94 rfl ?_
              refine x_aload_n C dX7_place_96 rfl rfl ?_
              refine x_get C f_Shapes_32 hXq rfl dX7_place_97 ?_
              refine x_icmp_ge C (tgt := 107) dX7_place_100 (by decide) ⟨by omega, by omega⟩ ⟨by omega, by omega⟩ (fun c100 => ?_) (fun c100 => ?_)
              · skip
                refine x_iconst C dX7_place_107 ?_
                exact L108 false ((decide_eq_false (by omega)).symm)
              · skip
                refine x_iconst C dX7_place_103 ?_
                refine x_goto C (tgt := 108) dX7_place_104 (by decide) ?_
                exact L108 true ((decide_eq_true (by omega)).symm)
      exact L82 _ 0 h9 _ (Nat.lt_succ_self _) (Nat.zero_le _) (rfl) (hX1) (hH1) (F1) (shp_V n op sl rc cls bass fm hcp rem cd hd lo p hV hc)
    · skip
      exact x_vret C E rfl (by omega) (by omega) dX7_place_63 (⟨rfl, by rw [show shp n op sl cp rc cls bass fm (rem + 1) cd hd lo p = (shp n op sl cp rc cls bass fm rem cd hd lo p) from if_neg (by rw [c60]; decide)]; exact hX1, hH1, F1⟩)
  · skip
    exfalso; omega

theorem c_Sh_place {G : xG} : ∀ rem, ShOK G rem
  | 0 => fun hX hH hI hV hI2 hq nd hr hc hhd hlo => c_Sh_place_0 hX hH hI hV hI2 hq nd hr hc hhd hlo
  | rem + 1 => fun hX hH hI hV hI2 hq nd hr hc hhd hlo => c_Sh_place_s (c_Sh_place rem) hX hH hI hV hI2 hq nd hr hc hhd hlo
/-- what the shapes of a voicing are -/
def shA (n : Nat) (op : Nat → Int) (sl : Nat → Bool) (cp rc : Int) (cls bass fm : Nat) : ShS := shp n op sl cp rc cls bass fm 6 0 0 (-1) (0, -1, 0, 0)
theorem shA_V (n : Nat) (op : Nat → Int) (sl : Nat → Bool) {cp : Int} (rc : Int) (cls bass fm : Nat) (hc : 0 ≤ cp ∧ cp ≤ 7) : ShV (shA n op sl cp rc cls bass fm) := shp_V n op sl rc cls bass fm hc 6 0 0 (-1) _ ⟨⟨by decide, by decide⟩, ⟨by decide, by decide⟩, by decide⟩ (by decide)

set_option maxRecDepth 100000 in
set_option maxHeartbeats 4000000 in
theorem c_Sh_seek {G : xG} {h : PH} {x u v i o s n cls0 bass0 fm0 cls bass fm : Nat} {op : Nat → Int} {sl : Nat → Bool} {cp rc : Int} {p : ShS} (hX : h x = xSh p cls0 bass0 fm0 u) (hH : HH G h u v) (hI : h i = xO 3 [.ref o, .ref s, vi (n : Int), vi cp, vi rc] ∧ h o = xI G 6 op ∧ h s = xZ G 6 sl) (hI2 : n ≤ 6 ∧ (∀ j : Nat, j < 6 → 0 ≤ op j ∧ op j ≤ 60) ∧ (0 ≤ cp ∧ cp ≤ 7) ∧ bd rc) (hq : cls ≤ 4095 ∧ bass ≤ 11 ∧ 1 ≤ fm ∧ fm ≤ 9) (nd : ndp [x, u, v] [i, o, s]) : Cn G m_Shapes_seek 11 0 0 [.ref x, .ref i, vi (cls : Int), vi (bass : Int), vi (fm : Int)] h (fun r h' => r = none ∧ h' x = xSh (shA n op sl cp rc cls bass fm) cls bass fm u ∧ HH G h' u v ∧ ∀ y, y ≠ x → y ≠ u → y ≠ v → h' y = h y) := by
  refine Cn_of (by decide) (Nat.le_of_ble_eq_true rfl) (fun K C hR E => ?_)
  show X G K 5 0 [some (.ref x), some (.ref i), some (vi (cls : Int)), some (vi (bass : Int)), some (vi (fm : Int))] [] h 0 0
  refine x_aload_n C dX7_seek_0 rfl rfl ?_
  refine x_iload_n C dX7_seek_1 rfl rfl ?_
  refine x_put C p_Shapes_26 hX (fit_int _) (Nat.le_of_ble_eq_true rfl) (h1 := (va_up h x (xO 6 [vi p.1, vi p.2.1, vi p.2.2.1, vi ((p.2.2.2 : Nat) : Int), vi (cls : Int), vi (bass0 : Int), vi (fm0 : Int), .ref u]))) rfl dX7_seek_2 ?_
  refine x_aload_n C dX7_seek_5 rfl rfl ?_
  refine x_iload_n C dX7_seek_6 rfl rfl ?_
  refine x_put C p_Shapes_29 up_s (fit_int _) (Nat.le_of_ble_eq_true rfl) (h1 := (va_up h x (xO 6 [vi p.1, vi p.2.1, vi p.2.2.1, vi ((p.2.2.2 : Nat) : Int), vi (cls : Int), vi (bass : Int), vi (fm0 : Int), .ref u]))) (up_u _ _ _ _) dX7_seek_7 ?_
  refine x_aload_n C dX7_seek_10 rfl rfl ?_
  refine x_iload C dX7_seek_11 rfl ?_
  refine x_put C p_Shapes_32 up_s (fit_int _) (Nat.le_of_ble_eq_true rfl) (h1 := (va_up h x (xO 6 [vi p.1, vi p.2.1, vi p.2.2.1, vi ((p.2.2.2 : Nat) : Int), vi (cls : Int), vi (bass : Int), vi (fm : Int), .ref u]))) (up_u _ _ _ _) dX7_seek_13 ?_
  refine x_aload_n C dX7_seek_16 rfl rfl ?_
  refine x_iconst C dX7_seek_17 ?_
  refine x_put C p_Shapes_9 up_s (fit_int _) (Nat.le_of_ble_eq_true rfl) (h1 := (va_up h x (xO 6 [vi 0, vi p.2.1, vi p.2.2.1, vi ((p.2.2.2 : Nat) : Int), vi (cls : Int), vi (bass : Int), vi (fm : Int), .ref u]))) (up_u _ _ _ _) dX7_seek_18 ?_
  refine x_aload_n C dX7_seek_21 rfl rfl ?_
  refine x_iconst C dX7_seek_22 ?_
  refine x_put C p_Shapes_15 up_s (fit_int _) (Nat.le_of_ble_eq_true rfl) (h1 := (va_up h x (xO 6 [vi 0, vi (-1), vi p.2.2.1, vi ((p.2.2.2 : Nat) : Int), vi (cls : Int), vi (bass : Int), vi (fm : Int), .ref u]))) (up_u _ _ _ _) dX7_seek_23 ?_
  refine x_aload_n C dX7_seek_26 rfl rfl ?_
  refine x_iconst C dX7_seek_27 ?_
  refine x_put C p_Shapes_18 up_s (fit_int _) (Nat.le_of_ble_eq_true rfl) (h1 := (va_up h x (xO 6 [vi 0, vi (-1), vi 0, vi ((p.2.2.2 : Nat) : Int), vi (cls : Int), vi (bass : Int), vi (fm : Int), .ref u]))) (up_u _ _ _ _) dX7_seek_28 ?_
  refine x_aload_n C dX7_seek_31 rfl rfl ?_
  refine x_iconst C dX7_seek_32 ?_
  refine x_put C p_Shapes_23 up_s (fit_int _) (Nat.le_of_ble_eq_true rfl) (h1 := (va_up h x (xO 6 [vi 0, vi (-1), vi 0, vi 0, vi (cls : Int), vi (bass : Int), vi (fm : Int), .ref u]))) (up_u _ _ _ _) dX7_seek_33 ?_
  refine x_aload_n C dX7_seek_36 rfl rfl ?_
  refine x_aload_n C dX7_seek_37 rfl rfl ?_
  refine x_iconst C dX7_seek_38 ?_
  refine x_iconst C dX7_seek_39 ?_
  refine x_iconst C dX7_seek_40 ?_
  refine x_iconst C dX7_seek_41 ?_
  refine x_invS C s_Shapes_42 (st := []) (c_Sh_place 6 (p := (0, -1, 0, 0)) (cd := 0) (hd := 0) (lo := -1) up_s (hH.kept (up_n (Ne.symm (ndp_l nd 0 1 rfl rfl (by decide)))) (up_n (Ne.symm (ndp_l nd 0 2 rfl rfl (by decide))))) ⟨((up_n (Ne.symm (ndp_r nd 0 0 rfl rfl))).trans hI.1), ((up_n (Ne.symm (ndp_r nd 0 1 rfl rfl))).trans hI.2.1), ((up_n (Ne.symm (ndp_r nd 0 2 rfl rfl))).trans hI.2.2)⟩ ⟨⟨by decide, by decide⟩, ⟨by decide, by decide⟩, by decide⟩ hI2 hq nd (by decide) (by decide) (by decide) ⟨by decide, by decide⟩) rfl rfl (Nat.le_of_ble_eq_true rfl) (xRm_of hR (by decide) (by decide) (by omega) (by omega)) dX7_seek_42 (fun r9 h9 hq => ?_)
  obtain ⟨rfl, hX2, hH2, F2⟩ := hq
  exact x_vret C E rfl (by omega) (by omega) dX7_seek_45 (⟨rfl, hX2, hH2, fun y y1 y2 y3 => (F2 y y1 y2 y3).trans (up_n y1)⟩)
