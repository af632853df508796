/-! More rows: doubles, lcmp, new int[n][][], the script. -/
section XROWS
variable {G : xG} {K : xK} {own : String} {cc : ByteArray} {nL pc : Nat} {ls : List (Option Value)} {st : List Value} {h : PH} {cells slots : Nat}
theorem x_dconst0 (C : xC G K own cc nL) (hd : decode cc pc = .ok (.dconst 0, 1)) (k : X G K nL (pc + 1) ls (.double FP.dconst0 :: st) h cells slots) : X G K nL pc ls st h cells slots := fun H locs lsA hW hS hV => lv_dconst0 C.1 C.2.1 hd (k H locs lsA hW hS hV)
theorem x_dload (C : xC G K own cc nL) {i : Nat} {x : UInt64} (hd : decode cc pc = .ok (.dload i, 2)) (hl : ls[i]? = some (some (.double x))) (k : X G K nL (pc + 2) ls (.double x :: st) h cells slots) : X G K nL pc ls st h cells slots := fun H locs lsA hW hS hV => lv_dload C.1 C.2.1 hd (hV.get hl) (k H locs lsA hW hS hV)
theorem x_dstore (C : xC G K own cc nL) {i : Nat} {x : UInt64} {ls' : List (Option Value)} (hd : decode cc pc = .ok (.dstore i, 2)) (hi : i + 1 < nL) (hl : st2 ls i (.double x) = ls') (k : X G K nL (pc + 2) ls' st h cells slots) : X G K nL pc ls (.double x :: st) h cells slots := fun H locs lsA hW hS hV => lv_dstore C.1 C.2.1 hd hV.has hi rfl (fun l' hl' => k H locs l' hW hS (by rw [← hl]; exact xV.put2 hl'))
theorem x_dcmp (C : xC G K own cc nL) {x y : UInt64} {op : CmpOp} {z : Int} (hd : decode cc pc = .ok (.dcmp op, 1)) (hz : Op.cmpValue (FP.dcmp x y) op = I z) (k : X G K nL (pc + 1) ls (vi z :: st) h cells slots) : X G K nL pc ls (.double y :: .double x :: st) h cells slots := fun H locs lsA hW hS hV => lv_dcmp C.1 C.2.1 hd (by rw [hz]; exact k H locs lsA hW hS hV)
theorem x_lcmp (C : xC G K own cc nL) {x y : Int64} (hd : decode cc pc = .ok (.lcmp, 1)) (k : X G K nL (pc + 1) ls (.int (lg_cmp x y) :: st) h cells slots) : X G K nL pc ls (.long y :: .long x :: st) h cells slots := fun H locs lsA hW hS hV => W.lcmp C.1 C.2.1 hd (k H locs lsA hW hS hV)
theorem lg_self (x : Int64) : lg_cmp x x = 0 := by
  have h : ¬ x < x := fun q => absurd (Int64.lt_iff_toInt_lt.mp q) (Int.lt_irrefl _)
  simp [lg_cmp, h]
theorem x_lcmpE (C : xC G K own cc nL) {x : Int64} (hd : decode cc pc = .ok (.lcmp, 1)) (k : X G K nL (pc + 1) ls (vi 0 :: st) h cells slots) : X G K nL pc ls (.long x :: .long x :: st) h cells slots := x_lcmp C hd (by rw [lg_self]; exact k)
theorem x_dret (C : xC G K own cc nL) {M : xM} {mc ms : Nat} {Q : Option Value → PH → Prop} (E : xE G K M mc ms Q) (hr : M.2.2.2 = some .double) (hc : cells ≤ mc) (hs : slots ≤ ms) {x : UInt64} (hd : decode cc pc = .ok (.dreturn, 1)) (hq : Q (some (.double x)) h) : X G K nL pc ls [.double x] h cells slots := fun H locs lsA hW hS hV => by
  obtain ⟨e1, -, e3⟩ := E
  rw [e3]
  refine W.widen hc hs ?_
  exact W.dret (hlocks := C.2.2.2.2.2.1) C.1 C.2.1 (e1.trans hr) (fun t ht hw => ⟨⟨_, h, rfl, hq, by rw [ht]; exact hW⟩, hS.F ht⟩) hS.2.2 hd
/-- new int[n][][] -/
theorem x_newAA (C : xC G K own cc nL) {idx : Nat} {n : Int} (hn : 0 ≤ n ∧ n ≤ 1000000) (w : Cond.classLink own idx "[[I" ∈ xWA) (w2 : FieldType.array (.array .int) ∈ xAOs) {d mc ms : Nat} (hR : xGe K d mc ms) (hc : cells + 1 ≤ mc) (hs : slots + n.toNat ≤ ms) (hd : decode cc pc = .ok (.anewarray idx, 3)) (k : ∀ q : Nat, h q = none → X G K nL (pc + 3) ls (.ref q :: st) (va_up h q (xQ G 6 n.toNat (fun _ => none))) (cells + 1) (slots + n.toNat)) : X G K nL pc ls (vi n :: st) h cells slots := fun H locs lsA hW hS hV => by
  obtain ⟨ws, r, hP, hD⟩ := id hW
  obtain ⟨n1, n2⟩ := nn_of (n := n) ⟨hn.1, by omega⟩
  refine W.anewA (t := .array .int) C.1 C.2.1 C.2.2.2.1 (C.2.2.2.2.1 _ w) (C.2.2.2.2.2.2.1.2.2.2 _ w2) rfl hd rfl n1 (by rw [n2]; omega) (Nat.le_trans hc hR.2.2.1) (by rw [n2]; exact Nat.le_trans hs hR.2.2.2) fun cA kA comp f1 f2 f3 f4 => ?_
  have e0 : cA = gc G 6 := Option.some.inj (f1.symm.trans (C.hK.2 6 _ (xtys_at rfl)).2)
  subst e0
  rw [n2]
  generalize hH1 : H.push ({ cls := gc G 6, slots := Array.replicate n.toNat .null, vm := .none } : Cell) = H1
  have z1 : H1.size = H.size + 1 := by rw [← hH1, Array.size_push]
  have e1 : H1[H.size]? = some (vp_cell (gc G 6) (n.toNat, .inr (.inr (.inr (.inr (fun _ => none)))))) := by rw [← hH1, Array.getElem?_push_size, vp_cell_q]; exact congrArg some (arrV_new _ _ _)
  have o1 : ∀ q : Nat, q < H.size → H1[q]? = H[q]? := fun q hq => by rw [← hH1, Array.getElem?_push, if_neg (Nat.ne_of_lt hq)]
  have hk : ∀ (k : Nat) (x : Nat × va_E), ws[k]? = some x → H1[x.1]? = H[x.1]? := fun k x hx => o1 x.1 ((hP k x hx).lt)
  have hP1 : va_P (gD G) vwCl (ws ++ [(H.size, .inl (gc G 6, n.toNat, .inr (.inr (.inr (.inr (fun _ => none))))))]) H1 := (hP.kept hk).app (fun k x hx => by
    have hz : k < 1 := (List.getElem?_eq_some_iff.mp hx).1
    rw [show k = 0 by omega] at hx
    cases hx
    exact e1)
  have hD1 := hD.push (e := .inl (gc G 6, n.toNat, .inr (.inr (.inr (.inr (fun _ => none)))))) hP rfl (x_hA C _ hS.1)
  obtain ⟨hq, r1⟩ := r.push hD1
  exact k H.size hq H1 locs lsA ⟨_, r1, hP1, hD1⟩ ⟨Nat.le_trans hS.1 (by omega), fun x h1 h2 => (o1 x (Nat.lt_of_lt_of_le h1 hS.1)).trans (hS.2.1 x h1 h2), hS.2.2⟩ hV
/-- the script -/
theorem x_sld (C : xC G K own cc nL) {b L : Nat} {xs : Nat → Int32} (hX : va_X b L xs (ks K) (ks K).heap) (hbl : b < gN G) (hbs : b < (ks K).heap.size) {i v : Int} (hi : 0 ≤ i ∧ i < L ∧ i < 2147483648) (hv : xs i.toNat = I v) (hd : decode cc pc = .ok (.iaload, 1)) (k : X G K nL (pc + 1) ls (vi v :: st) h cells slots) : X G K nL pc ls (vi i :: .ref b :: st) h cells slots := fun H locs lsA hW hS hV => by
  obtain ⟨h1, h2⟩ := in_of hi
  exact va_sld C.1 C.2.1 hX hbs (fun q => absurd hbl (Nat.not_lt.mpr q)) hS h1 hd (by rw [h2, hv]; exact k H locs lsA hW hS hV)
theorem x_slen (C : xC G K own cc nL) {b L : Nat} {xs : Nat → Int32} (hX : va_X b L xs (ks K) (ks K).heap) (hbl : b < gN G) (hbs : b < (ks K).heap.size) (hd : decode cc pc = .ok (.arraylength, 1)) (k : X G K nL (pc + 1) ls (vi (L : Int) :: st) h cells slots) : X G K nL pc ls (.ref b :: st) h cells slots := fun H locs lsA hW hS hV =>
  va_slen C.1 C.2.1 hX hbs (fun q => absurd hbl (Nat.not_lt.mpr q)) hS hd (k H locs lsA hW hS hV)
theorem vpu_s (g : Nat → Int64) (k : Nat) (z : Int64) : vp_updL g k z k = z := by unfold vp_updL; exact if_pos rfl
theorem x_lcmpQ (C : xC G K own cc nL) {x y : Int64} (he : x = y) (hd : decode cc pc = .ok (.lcmp, 1)) (k : X G K nL (pc + 1) ls (vi 0 :: st) h cells slots) : X G K nL pc ls (.long y :: .long x :: st) h cells slots := by subst he; exact x_lcmpE C hd k
/-- cells of two kinds lie apart -/
theorem ne_k {h : PH} {a b : Nat} {x y : va_E} (ha : h a = some x) (hb : h b = some y) (hn : x ≠ y) : a ≠ b := fun e => hn (by rw [e] at ha; exact Option.some.inj (ha.symm.trans hb))
def knd : va_E → Nat
  | .inr _ => 0
  | .inl (_, n, p) => 1 + 10 * n + (match p with | .inl _ => 1 | .inr (.inl _) => 2 | _ => 3)
theorem knn {x y : va_E} (h : Nat.beq (knd x) (knd y) = false) : x ≠ y := fun e => Nat.ne_of_beq_eq_false h (congrArg knd e)
end XROWS
