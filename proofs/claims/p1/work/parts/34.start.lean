/-! What both answer at the start. -/
theorem Cn.mono {G : xG} {M : xM} {d mc ms : Nat} {as : List Value} {h : PH} {Q Q' : Option Value → PH → Prop} (H : Cn G M d mc ms as h Q) (hq : ∀ r h', Q r h' → Q' r h') : Cn G M d mc ms as h Q' := by
  unfold Cn Met at H ⊢
  refine MetFree.mono H (fun _ _ q => q) (fun _ _ _ _ _ q => q) (fun _ _ _ _ _ q => ?_)
  · obtain ⟨⟨⟨r, h', e1, e2, e3⟩, e4⟩, e5⟩ := q
    exact ⟨⟨⟨r, h', e1, hq r h' e2, e3⟩, e4⟩, e5⟩
theorem qT_0 (I : Ins) (P : Pie) (h : P.m = 0) : qT I P = -1 := by
  unfold qT totS
  exact if_pos (Or.inl (by rw [h]; rfl))
theorem qHd_0 : qHd Q0 P0 = -1 := if_pos (qT_0 _ _ rfl)
theorem bC_0 : ∀ k, bC Q0 P0 k = (-1, -1)
  | 0 => rfl
  | k + 1 => by
    show bCs Q0 P0 k (bC Q0 P0 k) = _
    rw [bC_0 k]
    exact if_neg (fun q => q.1 (qT_0 _ _ rfl))
theorem aW_0 {w : Int} (hw : 0 ≤ w ∧ w ≤ 7) : aW Q0 P0 w = mA 0 3 w := by
  obtain rfl | rfl | rfl | rfl | rfl | rfl | rfl | rfl : w = 0 ∨ w = 1 ∨ w = 2 ∨ w = 3 ∨ w = 4 ∨ w = 5 ∨ w = 6 ∨ w = 7 := by omega
  · decide +kernel
  · decide +kernel
  · decide +kernel
  · decide +kernel
  · decide +kernel
  · decide +kernel
  · decide +kernel
  · show qSm Q0 P0 = -1
    exact if_pos (qT_0 _ _ rfl)
theorem shp_0 (op : Nat → Int) (sl : Nat → Bool) (cp rc : Int) (cls bass fm : Nat) (h1 : 1 ≤ cls) : ∀ (rem c : Nat) (lo : Int) (p : ShS), shp 0 op sl cp rc cls bass fm rem c 0 lo p = p
  | 0, c, lo, p => by
    unfold shp
    exact if_neg (by omega)
  | rem + 1, c, lo, p => by
    unfold shp
    rw [if_neg (by simp [used])]
    exact shp_0 op sl cp rc cls bass fm h1 rem c lo p
theorem shA_0 (cls bass fm : Nat) (h1 : 1 ≤ cls) : shA Q0.n Q0.op Q0.sl Q0.cp Q0.rc cls bass fm = (0, -1, 0, 0) := shp_0 _ _ _ _ cls bass fm h1 6 0 (-1) _
theorem fold_8 (f : Int64 → Nat → Int64) (d : Int64) : (List.range 8).foldl f d = f (f (f (f (f (f (f (f d 0) 1) 2) 3) 4) 5) 6) 7 := rfl
theorem dAll_0 : dAll Q0 P0 = mAll 0 3 := by
  unfold dAll
  rw [shA_0 145 0 1 (by decide), bC_0, qHd_0, qT_0 Q0 P0 rfl, fold_8]
  simp only [aW_0 (w := ((0 : Nat) : Int)) (by decide), aW_0 (w := ((1 : Nat) : Int)) (by decide), aW_0 (w := ((2 : Nat) : Int)) (by decide), aW_0 (w := ((3 : Nat) : Int)) (by decide), aW_0 (w := ((4 : Nat) : Int)) (by decide), aW_0 (w := ((5 : Nat) : Int)) (by decide), aW_0 (w := ((6 : Nat) : Int)) (by decide), aW_0 (w := ((7 : Nat) : Int)) (by decide)]
  rfl
theorem isV_w {v w1 w2 : Int} (hi : isV v w1 w2 = true) : ∃ cls bass fm : Nat, v = (cls : Int) ∧ w1 = (bass : Int) ∧ w2 = (fm : Int) ∧ (1 ≤ cls ∧ cls ≤ 4095 ∧ bass ≤ 11 ∧ 1 ≤ fm ∧ fm ≤ 9) ∧ bci cls ≤ 4 ∧ cls / 2 ^ bass % 2 = 1 := by
  have h := of_decide_eq_true hi
  have hp := pk_bci v.toNat (by omega)
  exact ⟨v.toNat, w1.toNat, w2.toNat, by omega, by omega, by omega, ⟨by omega, by omega, by omega, by omega, by omega⟩, by omega, by omega⟩
section ST0
variable {G : xG} {h : PH} {ad : Nat → Nat} {fq : Bool}
theorem c0_string (hj : ∀ i j, i < 300 → j < 300 → ad i = ad j → i = j) (T : TabR G h ad fq Q0 P0) {v : Int} (hv : 0 ≤ v ∧ v ≤ 60) : Cn G m_Tab_string 2 0 0 [.ref (ad 0), vi v] h (fun r h' => r = some (vi 0) ∧ frO ad h h') := Cn.mono (c_string hj T hv (by decide)) (fun _ _ q => ⟨q.1, q.2.2⟩)
theorem c0_capo (hj : ∀ i j, i < 300 → j < 300 → ad i = ad j → i = j) (T : TabR G h ad fq Q0 P0) {v : Int} (hv : 0 ≤ v ∧ v ≤ 7) : Cn G m_Tab_capo 2 0 0 [.ref (ad 0), vi v] h (fun r h' => r = some (vi 0) ∧ frO ad h h') := Cn.mono (c_capo hj T hv) (fun _ _ q => ⟨q.1, q.2.2⟩)
theorem c0_reach (hj : ∀ i j, i < 300 → j < 300 → ad i = ad j → i = j) (T : TabR G h ad fq Q0 P0) {v : Int} (hv : 1 ≤ v ∧ v ≤ 6) : Cn G m_Tab_reach 2 0 0 [.ref (ad 0), vi v] h (fun r h' => r = some (vi 3) ∧ frO ad h h') := Cn.mono (c_reach hj T hv) (fun _ _ q => ⟨q.1, q.2.2⟩)
theorem c0_chord (hj : ∀ i j, i < 300 → j < 300 → ad i = ad j → i = j) (T : TabR G h ad fq Q0 P0) {a b c d l : Int} (k : chOK a b c d l) : Cn G m_Tab_chord 3 0 0 [.ref (ad 0), vi a, vi b, vi c, vi d, vi l] h (fun r h' => r = some (vi 0) ∧ frO ad h h') := Cn.mono (c_chord hj T k.1 k.2.1 k.2.2.1 k.2.2.2.1 k.2.2.2.2.1 k.2.2.2.2.2 (by decide)) (fun _ _ q => ⟨q.1, q.2.2⟩)
theorem c0_many (hj : ∀ i j, i < 300 → j < 300 → ad i = ad j → i = j) (T : TabR G h ad fq Q0 P0) {w : Int} (hw : 0 ≤ w ∧ w ≤ 7) : Cn G m_Tab_many 10 0 0 [.ref (ad 0), vi w] h (fun r h' => r = some (vi (mA 0 3 w)) ∧ frO ad h h') := Cn.mono (c_many hj T hw) (fun _ _ q => ⟨by rw [← aW_0 hw]; exact q.1, q.2.2⟩)
theorem c0_shapes (hj : ∀ i j, i < 300 → j < 300 → ad i = ad j → i = j) (T : TabR G h ad fq Q0 P0) {v w1 w2 : Int} (hi : isV v w1 w2 = true) : Cn G m_Tab_shapes 13 0 0 [.ref (ad 0), vi v, vi w1, vi w2] h (fun r h' => r = some (vi 0) ∧ frO ad h h') := by
  obtain ⟨cls, bass, fm, rfl, rfl, rfl, h1, h2, h3⟩ := isV_w hi
  exact Cn.mono (c_shapes hj T h1 h2 h3) (fun _ _ q => ⟨by rw [q.1, shA_0 cls bass fm h1.1], q.2.2⟩)
theorem c0_shapeEffort (hj : ∀ i j, i < 300 → j < 300 → ad i = ad j → i = j) (T : TabR G h ad fq Q0 P0) {v w1 w2 : Int} (hi : isV v w1 w2 = true) : Cn G m_Tab_shapeEffort 13 0 0 [.ref (ad 0), vi v, vi w1, vi w2] h (fun r h' => r = some (vi (-1)) ∧ frO ad h h') := by
  obtain ⟨cls, bass, fm, rfl, rfl, rfl, h1, h2, h3⟩ := isV_w hi
  exact Cn.mono (c_shapeEffort hj T h1 h2 h3) (fun _ _ q => ⟨by rw [q.1, shA_0 cls bass fm h1.1], q.2.2⟩)
theorem c0_totalWith (hj : ∀ i j, i < 300 → j < 300 → ad i = ad j → i = j) (T : TabR G h ad fq Q0 P0) {v w : Int} (hv : 0 ≤ v ∧ v ≤ 7) (hw : 1 ≤ w ∧ w ≤ 6) : Cn G m_Tab_totalWith 10 0 0 [.ref (ad 0), vi v, vi w] h (fun r h' => r = some (vi (-1)) ∧ frO ad h h') := Cn.mono (c_totalWith hj T hv hw) (fun _ _ q => ⟨by rw [q.1, qT_0 _ P0 rfl], q.2.2⟩)
theorem c0_total (hj : ∀ i j, i < 300 → j < 300 → ad i = ad j → i = j) (T : TabR G h ad fq Q0 P0) : Cn G m_Tab_total 10 0 0 [.ref (ad 0)] h (fun r h' => r = some (vi (-1)) ∧ frO ad h h') := Cn.mono (c_total hj T) (fun _ _ q => ⟨by rw [q.1, qT_0 _ P0 rfl], q.2.2⟩)
theorem c0_hardest (hj : ∀ i j, i < 300 → j < 300 → ad i = ad j → i = j) (T : TabR G h ad fq Q0 P0) : Cn G m_Tab_hardest 10 0 0 [.ref (ad 0)] h (fun r h' => r = some (vi (-1)) ∧ frO ad h h') := Cn.mono (c_hardest hj T) (fun _ _ q => ⟨by rw [q.1, qHd_0], q.2.2⟩)
theorem c0_bestCapo (hj : ∀ i j, i < 300 → j < 300 → ad i = ad j → i = j) (T : TabR G h ad fq Q0 P0) : Cn G m_Tab_bestCapo 10 0 0 [.ref (ad 0)] h (fun r h' => r = some (vi (-1)) ∧ frO ad h h') := Cn.mono (c_bestCapo hj T) (fun _ _ q => ⟨by rw [q.1, bC_0], q.2.2⟩)
theorem c0_meanEffort (hj : ∀ i j, i < 300 → j < 300 → ad i = ad j → i = j) (T : TabR G h ad fq Q0 P0) : Cn G m_Tab_meanEffort 10 0 0 [.ref (ad 0)] h (fun r h' => r = some (.double FP.dconst0) ∧ frO ad h h') := Cn.mono (c_meanEffort0 hj T rfl (qT_0 _ P0 rfl)) (fun _ _ q => ⟨q.1, q.2.2⟩)
theorem c0_digest (hj : ∀ i j, i < 300 → j < 300 → ad i = ad j → i = j) (T : TabR G h ad fq Q0 P0) : Cn G m_Tab_digest 14 0 0 [.ref (ad 0)] h (fun r h' => r = some (.long (mAll 0 3)) ∧ frO ad h h') := Cn.mono (c_digest hj T) (fun _ _ q => ⟨by rw [q.1, dAll_0], q.2.2⟩)
theorem okO_ch {w0 w1 w2 w3 w4 : Int} : okO (g4 w0 w1 w2 w3) (decide ((0 ≤ w0 ∧ w0 ≤ 80) ∧ 1 ≤ w4 ∧ w4 ≤ 8)) 4 = true ↔ chOK w0 w1 w2 w3 w4 := by
  have e0 : g4 w0 w1 w2 w3 0 = w0 := rfl
  have e1 : g4 w0 w1 w2 w3 1 = w1 := rfl
  have e2 : g4 w0 w1 w2 w3 2 = w2 := rfl
  have e3 : g4 w0 w1 w2 w3 3 = w3 := rfl
  generalize g4 w0 w1 w2 w3 = g at e0 e1 e2 e3
  simp only [okO, okI, Bool.and_eq_true, decide_eq_true_eq, e0, e1, e2, e3]
  constructor
  · intro q
    exact ⟨by omega, by omega, by omega, by omega, decide_eq_false (by omega), by omega, by omega⟩
  · rintro ⟨q0, q1, q2, q3, q4, q5, q6⟩
    have q4 := of_decide_eq_false q4
    refine ⟨⟨⟨⟨?_, ?_⟩, ?_⟩, ?_⟩, ?_⟩ <;> omega
end ST0
