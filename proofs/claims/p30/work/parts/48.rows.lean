/-! What is kept when a call makes new things; arraycopy between arrays of arrays. -/
def Kp (h h' : PH) : Prop := ∀ x, alv h x → h' x = h x
theorem Kp.rfl (h : PH) : Kp h h := fun _ _ => Eq.refl _
theorem Kp.at {h h' : PH} (k : Kp h h') {x : Nat} {v : va_E} (e : h x = some v) : h' x = some v := (k x (alv_of e)).trans e
theorem Kp.alv {h h' : PH} (k : Kp h h') {x : Nat} (z : alv h x) : alv h' x := by
  show h' x ≠ none
  rw [k x z]
  exact z
theorem Kp.trans {h h1 h2 : PH} (a : Kp h h1) (b : Kp h1 h2) : Kp h h2 := fun x z => (b x (a.alv z)).trans (a x z)
theorem Kp.up {h : PH} {q : Nat} {v : Option va_E} (z : h q = none) : Kp h (va_up h q v) := fun x w => up_n (fun e => by
  rw [e] at w
  exact w z)
theorem Kp.ups {h h1 : PH} {q : Nat} {v : Option va_E} (k : Kp h h1) (z : h q = none) : Kp h (va_up h1 q v) := fun x w => (up_n (fun e => by
  rw [e] at w
  exact w z)).trans (k x w)
theorem Kp.ne {h : PH} {x q : Nat} {v : va_E} (e : h x = some v) (z : h q = none) : x ≠ q := fun w => by
  rw [w, z] at e
  cases e
section XROWS
variable {G : xG} {K : xK} {own : String} {cc : ByteArray} {nL pc : Nat} {ls : List (Option Value)} {st stk : List Value} {h : PH} {cells slots : Nat}
theorem x_copyA (C : xC G K own cc nL) {idx a0 a n0 n1 : Nat} {f g : Nat → Option Nat} {sp dp n : Int} (w1 : Cond.methodLink own idx arraycopyName ∈ xWA) (w2 : Cond.native arraycopyName ∈ xWA) (w3 : Cond.static arraycopyName ∈ xWA) (w4 : Cond.initialized "java/lang/System" ∈ xWA) (hA0 : h a0 = xQ G 3 n0 f) (hA : h a = xQ G 3 n1 g) (h1 : 0 ≤ sp ∧ 0 ≤ dp ∧ 0 ≤ n ∧ sp + n ≤ n0 ∧ dp + n ≤ n1 ∧ n0 < 1000000 ∧ n1 < 1000000) (hel : ∀ i : Nat, i < n.toNat → ∀ y : Nat, f (sp.toNat + i) = some y → ∃ m u, h y = xI G m u) (hcat : (st.map fun v => v.category).sum ≤ 8) {d mc ms : Nat} (hR : xGe K d mc ms) (hf : 1 ≤ d) {h1' : PH} (he : va_up h a (xQ G 3 n1 (va_cpy f g sp.toNat dp.toNat n.toNat)) = h1') (hd : decode cc pc = .ok (.invokestatic idx, 3)) (k : X G K nL (pc + 3) ls st h1' cells slots) : X G K nL pc ls (vi n :: vi dp :: .ref a :: vi sp :: .ref a0 :: st) h cells slots := fun H locs lsA hW hS hV => by
  obtain ⟨ws, r, hP, hD⟩ := id hW
  obtain ⟨q0, hq0⟩ := r.2 a0 _ hA0
  obtain ⟨q1, hq1⟩ := r.2 a _ hA
  obtain ⟨s1, s2⟩ := nn_of (n := sp) ⟨by omega, by omega⟩
  obtain ⟨d1, d2⟩ := nn_of (n := dp) ⟨by omega, by omega⟩
  obtain ⟨n1', n2⟩ := nn_of (n := n) ⟨by omega, by omega⟩
  have nn : ∀ z : Int32, ¬ z < 0 → z.toInt = (z.toNatClampNeg : Int) := by
    intro z hz
    have hz0 : (0 : Int) ≤ z.toInt := by
      have := Int32.not_lt.mp hz
      simpa using Int32.le_iff_toInt_le.mp this
    show z.toInt = ((z.toInt.toNat : Nat) : Int)
    omega
  have hnw : nativeFrameWords "java/lang/System" "arraycopy" 5 ≤ 20 := by decide +kernel
  obtain ⟨-, ⟨kA, k1, k2⟩, -, -⟩ := C.2.2.2.2.2.2.1
  obtain ⟨-, kI, k3, cm, k4⟩ := (C.hK.2 0 _ (xtys_at rfl)).1 0 (fun _ => .null)
  intro T hT X
  have hc0 : H[a0]? = some (vp_cell (gc G 3) (n0, .inr (.inr (.inr (.inr f))))) := hP q0 _ hq0
  have hc1 : H[a]? = some (vp_cell (gc G 3) (n1, .inr (.inr (.inr (.inr g))))) := hP q1 _ hq1
  obtain ⟨vm', X', step⟩ := X.arraycopy C.1 C.2.2.2.1 (C.2.2.2.2.1 _ w1) (C.2.2.2.2.1 _ w2) (C.2.2.2.2.1 _ w3) (C.2.2.2.2.1 _ w4) (src := a0) (dst := a) (cs := vp_cell (gc G 3) (n0, .inr (.inr (.inr (.inr f))))) (cd := vp_cell (gc G 3) (n1, .inr (.inr (.inr (.inr g))))) (srcPos := I sp) (destPos := I dp) (n := I n) (by rw [hT]; exact hc0) (by rw [hT]; exact hc1)
    (fun _ h => by cases h) (fun _ h => by cases h) (fun h => by cases h) (fun h => by cases h) k1 k1 k2 k2 rfl s1 d1 n1'
    (by rw [nn _ s1, nn _ n1']; show ¬ _ > ((arrV (gc G 3) n0 (fun j => va_rf (f j))).slots.size : Int); rw [arrV_size, s2, n2]; omega)
    (by rw [nn _ d1, nn _ n1']; show ¬ _ > ((arrV (gc G 3) n1 (fun j => va_rf (g j))).slots.size : Int); rw [arrV_size, d2, n2]; omega)
    (fun vm₁ hal i hi => by
      rw [n2] at hi
      have e : (vp_cell (gc G 3) (n0, .inr (.inr (.inr (.inr f))))).slots.getD ((I sp).toNatClampNeg + i) .null = va_rf (f (sp.toNat + i)) := by
        rw [s2]
        show (arrV (gc G 3) n0 (fun j => va_rf (f j))).slots.getD _ _ = _
        rw [Array.getD_eq_getD_getElem?, arrV_read _ _ (by omega)]
        rfl
      rw [e]
      cases hy : f (sp.toNat + i) with
      | none => exact ⟨rfl, trivial⟩
      | some y =>
        obtain ⟨mm, u, hu⟩ := hel i hi y hy
        obtain ⟨q2, hq2⟩ := r.2 y _ hu
        obtain ⟨kC', hkC'⟩ := hal.2.2 _ _ k3
        refine ⟨rfl, vp_cell (gc G 0) (mm, .inl (fun j => I (u j))), (show T.heap[y]? = some _ by rw [hT]; exact hP q2 _ hq2), (fun q h => by cases h), ⟨kC', hkC'.1⟩, ⟨kC', hkC'.1⟩, ?_⟩
        show vm₁.assignable _ _ = true
        rw [hal.assignable]
        exact va_assignA k3 k4)
    (g := F0 (km K) pc lsA (.int (I n) :: .int (I dp) :: .ref a :: .int (I sp) :: .ref a0 :: st)) rfl (by rw [C.2.2.1.trans hV.1.symm]) (rest := st) rfl (by rw [C.2.1]; exact hd) (by have := hR.1; omega) (by have := hR.2.1; show 2 * 0 + _ + _ ≤ _; omega)
  have e1 : copied (vp_cell (gc G 3) (n0, .inr (.inr (.inr (.inr f))))) (vp_cell (gc G 3) (n1, .inr (.inr (.inr (.inr g))))) (I sp) (I dp) (I n) = vp_cell (gc G 3) (n1, .inr (.inr (.inr (.inr (va_cpy f g sp.toNat dp.toNat n.toNat))))) := by
    rw [vp_cell_q, vp_cell_q, vp_cell_q, ← s2, ← d2, ← n2]
    exact va_copied (fun z => va_rf z) (gc G 3) (gc G 3) f g (by rw [s2, n2]; omega)
  rw [e1] at X' step
  have hl : a < H.size := (Array.getElem?_eq_some_iff.mp hc1).1
  generalize hcc : vp_cell (gc G 3) (n1, .inr (.inr (.inr (.inr (va_cpy f g sp.toNat dp.toNat n.toNat))))) = cN at X' step
  have hheap : ((T.setVm vm').setCell a cN).heap = H.setIfInBounds a cN := by rw [← hT]; rfl
  have oq : ∀ q : Nat, q ≠ a → (H.setIfInBounds a cN)[q]? = H[q]? := fun q hq => by simp [Array.getElem?_setIfInBounds, Ne.symm hq]
  have hat : (H.setIfInBounds a cN)[a]? = some cN := by simp [Array.getElem?_setIfInBounds, hl]
  have P1 : va_P (gD G) vwCl (ws.set q1 (a, .inl (gc G 3, n1, .inr (.inr (.inr (.inr (va_cpy f g sp.toNat dp.toNat n.toNat))))))) (H.setIfInBounds a cN) := hP.set hD hq1 (by show (H.setIfInBounds a cN)[a]? = some (vp_cell _ _); rw [hat, ← hcc]) oq
  obtain ⟨t, a1, b1⟩ := k (H.setIfInBounds a cN) (locs ++ _) lsA ⟨_, he ▸ r.set hD hq1, P1, hD.set hq1⟩ ⟨by simp; exact hS.1, fun q g1 g2 => by
      rw [oq q (fun e => g2 (by rw [e]; exact hD.2 q1 _ hq1))]
      exact hS.2.1 q g1 g2, fun q hq => by
      rcases List.mem_append.mp hq with h | h
      · exact hS.2.2 q h
      · obtain ⟨z, -, hz⟩ := List.mem_map.mp h
        rw [← hz]
        exact hD.2 q1 _ hq1⟩ hV _ hheap X'
  exact ⟨t, step t a1, b1⟩
end XROWS
