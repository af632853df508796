/-! THE CORE, third part: objects and arrays that are made, references in arrays, Math, arraycopy. -/
section XMAKE
variable {G : xG} {K : xK} {own : String} {cc : ByteArray} {nL pc : Nat} {ls : List (Option Value)} {st stk : List Value} {h : PH} {cells slots : Nat}
theorem x_hA (C : xC G K own cc nL) : ∀ q, (ks K).heap.size ≤ q → xA G q := fun q hq => Nat.le_trans C.2.2.2.2.2.2.2 hq
/-- new: the tables' words, and what stands in the fields -/
def xNw (own : String) (idx ci n : Nat) (fs : List Value) : Prop := ∃ (Cn : String) (T : u_T) (ty : Nat → FieldType), vwCl[ci]? = some (Cn, T, n) ∧ (∀ w ∈ u_ws Cn T n, w ∈ xWA) ∧ (∀ k, k < n → parseFieldDescriptor (T k).2.2.1 = some (ty k)) ∧ Cond.classLink own idx Cn ∈ xWA ∧ Cond.instantiable Cn n ∈ xWA ∧ Cond.initialized Cn ∈ xWA ∧ ∀ j, j < n → defaultValue (ty j) = vp_V fs j
theorem x_new (C : xC G K own cc nL) {idx ci n : Nat} {fs : List Value} (S : xNw own idx ci n fs) {d mc ms : Nat} (hR : xGe K d mc ms) (hc : cells + 1 ≤ mc) (hs : slots + n ≤ ms) (hd : decode cc pc = .ok (.new idx, 3)) (k : ∀ q : Nat, h q = none → X G K nL (pc + 3) ls (.ref q :: st) (va_up h q (xO ci fs)) (cells + 1) (slots + n)) : X G K nL pc ls st h cells slots := fun H locs lsA hW hS hV => by
  obtain ⟨ws, r, hP, hD⟩ := id hW
  obtain ⟨Cn, T, ty, h1, h2, h3, h4, h5, h6, h7⟩ := S
  refine va_new C.1 C.2.1 C.2.2.2.2.1 h2 ty h3 C.2.2.2.1 (C.2.2.2.2.1 _ h4) (C.2.2.2.2.1 _ h5) (C.2.2.2.2.1 _ h6) C.hK hP hD hS (x_hA C) h1 h7 (Nat.le_trans hc hR.2.2.1) (Nat.le_trans hs hR.2.2.2) hd (fun q H1 hP1 hD1 hS1 => ?_)
  obtain ⟨hq, r1⟩ := r.push hD1
  exact k q hq H1 locs lsA ⟨_, r1, hP1, hD1⟩ hS1 hV
theorem gc_of {s : State} {tys : List (ClassId × FieldType)} {cA : ClassId} {ty : FieldType} {t : Nat} (hK : xKX G s) (ht : xtyL[t]? = some ty) (h : va_K (gD G) vwCl (tys ++ [(cA, ty)]) s) : cA = gc G t := by
  have h1 := (h.2 tys.length (cA, ty) (by simp)).2
  have h2 := (hK.1.2 t _ (xtys_at ht)).2
  cases ty with
  | object C =>
    obtain ⟨_, _, -, -, -, a⟩ := h1
    obtain ⟨_, _, -, -, -, b⟩ := h2
    exact Option.some.inj (a.symm.trans b)
  | _ => exact Option.some.inj (h1.symm.trans h2)
theorem nn_of {n : Int} (h : 0 ≤ n ∧ n < 2147483648) : ¬ I n < 0 ∧ (I n).toNatClampNeg = n.toNat := by
  have hb : bd n := ⟨by omega, h.2⟩
  refine ⟨fun q => ?_, ?_⟩
  · have := (I_lt hb bd_0).mp q
    omega
  · show (I n).toInt.toNat = _
    rw [I_toInt hb]
theorem x_newI (C : xC G K own cc nL) {n : Int} (hn : 0 ≤ n ∧ n ≤ 1000000) (w : Cond.arrayClass .int ∈ xWA) {d mc ms : Nat} (hR : xGe K d mc ms) (hc : cells + 1 ≤ mc) (hs : slots + n.toNat ≤ ms) (hd : decode cc pc = .ok (.newarray .int, 2)) (k : ∀ q : Nat, h q = none → X G K nL (pc + 2) ls (.ref q :: st) (va_up h q (xI G n.toNat (fun _ => 0))) (cells + 1) (slots + n.toNat)) : X G K nL pc ls (vi n :: st) h cells slots := fun H locs lsA hW hS hV => by
  obtain ⟨ws, r, hP, hD⟩ := id hW
  obtain ⟨n1, n2⟩ := nn_of (n := n) ⟨hn.1, by omega⟩
  refine va_newa (atype := .int) (ty := .int) (N' := n.toNat) (a0 := (n.toNat, .inl (fun _ => I 0))) C.1 C.2.1 (C.2.2.2.2.1 _ w) rfl C.hK hP hD hS (x_hA C) (fun cA => rfl) n1 n2 (by show n.toNat * 4 ≤ _; omega) (Nat.le_trans hc hR.2.2.1) (Nat.le_trans hs hR.2.2.2) hd (fun q cA H1 hK1 hP1 hD1 hS1 => ?_)
  cases gc_of (t := 0) C.2.2.2.2.2.2.1 rfl hK1
  obtain ⟨hq, r1⟩ := r.push hD1
  exact k q hq H1 locs lsA ⟨_, r1, hP1, hD1⟩ hS1 hV
theorem x_newZ (C : xC G K own cc nL) {n : Int} (hn : 0 ≤ n ∧ n ≤ 1000000) (w : Cond.arrayClass .boolean ∈ xWA) {d mc ms : Nat} (hR : xGe K d mc ms) (hc : cells + 1 ≤ mc) (hs : slots + n.toNat ≤ ms) (hd : decode cc pc = .ok (.newarray .boolean, 2)) (k : ∀ q : Nat, h q = none → X G K nL (pc + 2) ls (.ref q :: st) (va_up h q (xZ G n.toNat (fun _ => false))) (cells + 1) (slots + n.toNat)) : X G K nL pc ls (vi n :: st) h cells slots := fun H locs lsA hW hS hV => by
  obtain ⟨ws, r, hP, hD⟩ := id hW
  obtain ⟨n1, n2⟩ := nn_of (n := n) ⟨hn.1, by omega⟩
  refine va_newa (atype := .boolean) (ty := .boolean) (N' := n.toNat) (a0 := (n.toNat, .inl (fun _ => I (b2i false)))) C.1 C.2.1 (C.2.2.2.2.1 _ w) rfl C.hK hP hD hS (x_hA C) (fun cA => rfl) n1 n2 (by show n.toNat * 1 ≤ _; omega) (Nat.le_trans hc hR.2.2.1) (Nat.le_trans hs hR.2.2.2) hd (fun q cA H1 hK1 hP1 hD1 hS1 => ?_)
  cases gc_of (t := 1) C.2.2.2.2.2.2.1 rfl hK1
  obtain ⟨hq, r1⟩ := r.push hD1
  exact k q hq H1 locs lsA ⟨_, r1, hP1, hD1⟩ hS1 hV
theorem x_newQ (C : xC G K own cc nL) {idx t : Nat} {E : String} {n : Int} (hn : 0 ≤ n ∧ n ≤ 1000000) (ht : xtyL[t]? = some (.object E)) (w : Cond.classLink own idx E ∈ xWA) (w2 : FieldType.object E ∈ xAOs) {d mc ms : Nat} (hR : xGe K d mc ms) (hc : cells + 1 ≤ mc) (hs : slots + n.toNat ≤ ms) (hd : decode cc pc = .ok (.anewarray idx, 3)) (k : ∀ q : Nat, h q = none → X G K nL (pc + 3) ls (.ref q :: st) (va_up h q (xQ G t n.toNat (fun _ => none))) (cells + 1) (slots + n.toNat)) : X G K nL pc ls (vi n :: st) h cells slots := fun H locs lsA hW hS hV => by
  obtain ⟨ws, r, hP, hD⟩ := id hW
  obtain ⟨n1, n2⟩ := nn_of (n := n) ⟨hn.1, by omega⟩
  refine va_newq (N' := n.toNat) C.1 C.2.1 C.2.2.2.1 (C.2.2.2.2.1 _ w) (C.2.2.2.2.2.2.1.2.2.2 _ w2) C.hK hP hD hS (x_hA C) n1 n2 (by omega) (Nat.le_trans hc hR.2.2.1) (Nat.le_trans hs hR.2.2.2) hd (fun q cA H1 hK1 hP1 hD1 hS1 => ?_)
  cases gc_of (t := t) C.2.2.2.2.2.2.1 ht hK1
  obtain ⟨hq, r1⟩ := r.push hD1
  exact k q hq H1 locs lsA ⟨_, r1, hP1, hD1⟩ hS1 hV
/-- new int[n][] -/
theorem x_newA (C : xC G K own cc nL) {idx : Nat} {n : Int} (hn : 0 ≤ n ∧ n ≤ 1000000) (w : Cond.classLink own idx "[I" ∈ xWA) (w2 : FieldType.array .int ∈ xAOs) {d mc ms : Nat} (hR : xGe K d mc ms) (hc : cells + 1 ≤ mc) (hs : slots + n.toNat ≤ ms) (hd : decode cc pc = .ok (.anewarray idx, 3)) (k : ∀ q : Nat, h q = none → X G K nL (pc + 3) ls (.ref q :: st) (va_up h q (xQ G 3 n.toNat (fun _ => none))) (cells + 1) (slots + n.toNat)) : X G K nL pc ls (vi n :: st) h cells slots := fun H locs lsA hW hS hV => by
  obtain ⟨ws, r, hP, hD⟩ := id hW
  obtain ⟨n1, n2⟩ := nn_of (n := n) ⟨hn.1, by omega⟩
  refine W.anewA (t := .int) C.1 C.2.1 C.2.2.2.1 (C.2.2.2.2.1 _ w) (C.2.2.2.2.2.2.1.2.2.2 _ w2) rfl hd rfl n1 (by rw [n2]; omega) (Nat.le_trans hc hR.2.2.1) (by rw [n2]; exact Nat.le_trans hs hR.2.2.2) fun cA kA comp f1 f2 f3 f4 => ?_
  have e0 : cA = gc G 3 := Option.some.inj (f1.symm.trans (C.hK.2 3 _ (xtys_at rfl)).2)
  subst e0
  rw [n2]
  generalize hH1 : H.push ({ cls := gc G 3, slots := Array.replicate n.toNat .null, vm := .none } : Cell) = H1
  have z1 : H1.size = H.size + 1 := by rw [← hH1, Array.size_push]
  have e1 : H1[H.size]? = some (vp_cell (gc G 3) (n.toNat, .inr (.inr (.inr (.inr (fun _ => none)))))) := by rw [← hH1, Array.getElem?_push_size, vp_cell_q]; exact congrArg some (arrV_new _ _ _)
  have o1 : ∀ q : Nat, q < H.size → H1[q]? = H[q]? := fun q hq => by rw [← hH1, Array.getElem?_push, if_neg (Nat.ne_of_lt hq)]
  have hk : ∀ (k : Nat) (x : Nat × va_E), ws[k]? = some x → H1[x.1]? = H[x.1]? := fun k x hx => o1 x.1 ((hP k x hx).lt)
  have hP1 : va_P (gD G) vwCl (ws ++ [(H.size, .inl (gc G 3, n.toNat, .inr (.inr (.inr (.inr (fun _ => none))))))]) H1 := (hP.kept hk).app (fun k x hx => by
    have hz : k < 1 := (List.getElem?_eq_some_iff.mp hx).1
    rw [show k = 0 by omega] at hx
    cases hx
    exact e1)
  have hD1 := hD.push (e := .inl (gc G 3, n.toNat, .inr (.inr (.inr (.inr (fun _ => none)))))) hP rfl (x_hA C _ hS.1)
  obtain ⟨hq, r1⟩ := r.push hD1
  exact k H.size hq H1 locs lsA ⟨_, r1, hP1, hD1⟩ ⟨Nat.le_trans hS.1 (by omega), fun x h1 h2 => (o1 x (Nat.lt_of_lt_of_le h1 hS.1)).trans (hS.2.1 x h1 h2), hS.2.2⟩ hV
/-- an object into an array of its class -/
theorem x_aast (C : xC G K own cc nL) {a t n v ci : Nat} {r : vw_C} {fs : List Value} {g : Nat → Option Nat} {i : Int} (ht : xtyL[t]? = some (.object r.1)) (hc : vwCl[ci]? = some r) (hA : h a = xQ G t n g) (hv : h v = xO ci fs) (hi : 0 ≤ i ∧ i < n ∧ i < 2147483648) {h1 : PH} (he : va_up h a (xQ G t n (va_up g i.toNat (some v))) = h1) (hd : decode cc pc = .ok (.aastore, 1)) (k : X G K nL (pc + 1) ls st h1 cells slots) : X G K nL pc ls (.ref v :: vi i :: .ref a :: st) h cells slots := fun H locs lsA hW hS hV => by
  obtain ⟨ws, rr, hP, hD⟩ := id hW
  obtain ⟨q, hq⟩ := rr.2 a _ hA
  obtain ⟨q2, hq2⟩ := rr.2 v _ hv
  obtain ⟨i1, i2⟩ := in_of hi
  refine va_astq C.1 C.2.1 C.hK hP hD hS q t q2 ci hq (xtys_at ht) hq2 hc i1 hd (fun H1 locs1 hP1 hD1 hS1 => ?_)
  rw [i2] at hP1 hD1
  exact k H1 locs1 lsA ⟨_, he ▸ rr.set hD hq, hP1, hD1⟩ hS1 hV
theorem va_assignA {s : State} {cA comp : ClassId} {kA : Class} {t : FieldType} (hk : s.vm.classes[cA]? = some kA) (hkind : kA.kind = .array comp t) : s.vm.assignable cA cA = true := by
  unfold Vm.assignable
  unfold Vm.assignableAux
  simp [hk, hkind, Vm.isSubclass, Vm.isSubclassAux]
/-- an int[] into an int[][] -/
theorem x_aastA (C : xC G K own cc nL) {a n v m : Nat} {f : Nat → Int} {g : Nat → Option Nat} {i : Int} (hA : h a = xQ G 3 n g) (hv : h v = xI G m f) (hi : 0 ≤ i ∧ i < n ∧ i < 2147483648) {h1 : PH} (he : va_up h a (xQ G 3 n (va_up g i.toNat (some v))) = h1) (hd : decode cc pc = .ok (.aastore, 1)) (k : X G K nL (pc + 1) ls st h1 cells slots) : X G K nL pc ls (.ref v :: vi i :: .ref a :: st) h cells slots := fun H locs lsA hW hS hV => by
  obtain ⟨ws, rr, hP, hD⟩ := id hW
  obtain ⟨q, hq⟩ := rr.2 a _ hA
  obtain ⟨q2, hq2⟩ := rr.2 v _ hv
  obtain ⟨i1, i2⟩ := in_of hi
  have hlt : (I i).toNatClampNeg < n := Nat.not_le.mp fun q => i1 (Or.inr q)
  have h0 : ¬ I i < 0 := fun q => i1 (Or.inl q)
  obtain ⟨-, ⟨kA, k1, k2⟩, -, -⟩ := C.2.2.2.2.2.2.1
  obtain ⟨-, kI, k3, cm, k4⟩ := (C.hK.2 0 _ (xtys_at rfl)).1 0 (fun _ => .null)
  refine W.aast C.1 C.2.1 (hP q _ hq) (fun q h => by cases h) (fun h => by cases h) k1 k2 rfl k3 ⟨h0, by show _ < (arrV _ _ _).slots.size; rw [arrV_size]; exact hlt⟩ (hP q2 _ hq2) (fun q h => by cases h) k3 (va_assignA k3 k4) rfl rfl hd fun H1 e z oq => ?_
  have hP1 : va_P (gD G) vwCl (ws.set q (a, .inl (gc G 3, n, .inr (.inr (.inr (.inr (va_up g i.toNat (some v)))))))) H1 := hP.set hD hq (by
    show H1[a]? = some (vp_cell _ _)
    rw [e, i2]
    show some ((vp_cell _ (n, .inr (.inr (.inr (.inr g))))).setSlot _ _) = _
    rw [vp_cell_q, vp_cell_q, arrV_store]
    congr 2
    funext j
    by_cases hj : j = i.toNat
    · subst hj
      simp [updV, va_up, va_rf]
    · simp [updV, va_up, hj]) oq
  exact k H1 _ lsA ⟨_, he ▸ rr.set hD hq, hP1, hD.set hq⟩ (hS.put z oq (hD.2 q _ hq)) hV
theorem x_aret (C : xC G K own cc nL) {M : xM} {mc ms : Nat} {Q : Option Value → PH → Prop} (E : xE G K M mc ms Q) {rt : FieldType} (hr : M.2.2.2 = some rt) (hrr : (∃ n, rt = FieldType.object n) ∨ ∃ t, rt = FieldType.array t) (hc : cells ≤ mc) (hs : slots ≤ ms) {x : Nat} (hd : decode cc pc = .ok (.areturn, 1)) (hq : Q (some (.ref x)) h) : X G K nL pc ls [.ref x] h cells slots := fun H locs lsA hW hS hV => by
  obtain ⟨e1, -, e3⟩ := E
  rw [e3]
  refine W.widen hc hs ?_
  exact W.aret (hlocks := C.2.2.2.2.2.1) C.1 C.2.1 (e1.trans hr) hrr (Or.inr ⟨_, rfl⟩) (fun t ht hw => ⟨⟨_, h, rfl, hq, by rw [ht]; exact hW⟩, hS.F ht⟩) hS.2.2 hd
theorem x_max (C : xC G K own cc nL) {idx : Nat} {a b : Int} (w1 : Cond.methodLink own idx Lib.Math.max.name ∈ xWA) (w2 : Cond.static Lib.Math.max.name ∈ xWA) (w3 : Cond.initialized "java/lang/Math" ∈ xWA) (w4 : Cond.code Lib.Math.max.name Lib.Math.max.code 2 (some .int) ∈ xWA) (ha : bd a) (hb : bd b) (hcat : (st.map fun v => v.category).sum ≤ 8) {d mc ms : Nat} (hR : xGe K d mc ms) (hf : 1 ≤ d) (hc : cells ≤ mc) (hs : slots ≤ ms) (hd : decode cc pc = .ok (.invokestatic idx, 3)) (k : X G K nL (pc + 3) ls (vi (if a < b then b else a) :: st) h cells slots) : X G K nL pc ls (vi b :: vi a :: st) h cells slots := fun H locs lsA hW hS hV =>
  va_mmax C.1 C.2.1 (C.2.2.1.trans hV.1.symm) C.2.2.2.1 (C.2.2.2.2.1 _ w1) (C.2.2.2.2.1 _ w2) (C.2.2.2.2.1 _ w3) (C.2.2.2.2.1 _ w4) (by have := hR.1; omega) (by have := hR.2.1; omega) (Nat.le_trans hc hR.2.2.1) (Nat.le_trans hs hR.2.2.2) hd (by
    have e : (if I a < I b then I b else I a) = I (if a < b then b else a) := by
      by_cases q : a < b
      · rw [if_pos ((I_lt ha hb).mpr q), if_pos q]
      · rw [if_neg (fun z => q ((I_lt ha hb).mp z)), if_neg q]
    rw [e]; exact k H locs lsA hW hS hV)
theorem x_min (C : xC G K own cc nL) {idx : Nat} {a b : Int} (w1 : Cond.methodLink own idx Lib.Math.min.name ∈ xWA) (w2 : Cond.static Lib.Math.min.name ∈ xWA) (w3 : Cond.initialized "java/lang/Math" ∈ xWA) (w4 : Cond.code Lib.Math.min.name Lib.Math.min.code 2 (some .int) ∈ xWA) (ha : bd a) (hb : bd b) (hcat : (st.map fun v => v.category).sum ≤ 8) {d mc ms : Nat} (hR : xGe K d mc ms) (hf : 1 ≤ d) (hc : cells ≤ mc) (hs : slots ≤ ms) (hd : decode cc pc = .ok (.invokestatic idx, 3)) (k : X G K nL (pc + 3) ls (vi (if b < a then b else a) :: st) h cells slots) : X G K nL pc ls (vi b :: vi a :: st) h cells slots := fun H locs lsA hW hS hV =>
  va_mmin C.1 C.2.1 (C.2.2.1.trans hV.1.symm) C.2.2.2.1 (C.2.2.2.2.1 _ w1) (C.2.2.2.2.1 _ w2) (C.2.2.2.2.1 _ w3) (C.2.2.2.2.1 _ w4) (by have := hR.1; omega) (by have := hR.2.1; omega) (Nat.le_trans hc hR.2.2.1) (Nat.le_trans hs hR.2.2.2) hd (by
    have e : (if I b < I a then I b else I a) = I (if b < a then b else a) := by
      by_cases q : b < a
      · rw [if_pos ((I_lt hb ha).mpr q), if_pos q]
      · rw [if_neg (fun z => q ((I_lt hb ha).mp z)), if_neg q]
    rw [e]; exact k H locs lsA hW hS hV)
theorem x_abs (C : xC G K own cc nL) {idx : Nat} {a : Int} (w1 : Cond.methodLink own idx Lib.Math.abs.name ∈ xWA) (w2 : Cond.static Lib.Math.abs.name ∈ xWA) (w3 : Cond.initialized "java/lang/Math" ∈ xWA) (w4 : Cond.code Lib.Math.abs.name Lib.Math.abs.code 1 (some .int) ∈ xWA) (ha : bd a) (hcat : (st.map fun v => v.category).sum ≤ 8) {d mc ms : Nat} (hR : xGe K d mc ms) (hf : 1 ≤ d) (hc : cells ≤ mc) (hs : slots ≤ ms) (hd : decode cc pc = .ok (.invokestatic idx, 3)) (k : X G K nL (pc + 3) ls (vi (if 0 ≤ a then a else 0 - a) :: st) h cells slots) : X G K nL pc ls (vi a :: st) h cells slots := fun H locs lsA hW hS hV =>
  va_mabs C.1 C.2.1 (C.2.2.1.trans hV.1.symm) C.2.2.2.1 (C.2.2.2.2.1 _ w1) (C.2.2.2.2.1 _ w2) (C.2.2.2.2.1 _ w3) (C.2.2.2.2.1 _ w4) (by have := hR.1; omega) (by have := hR.2.1; omega) (Nat.le_trans hc hR.2.2.1) (Nat.le_trans hs hR.2.2.2) hd (by
    have e : (if 0 ≤ I a then I a else 0 - I a) = I (if 0 ≤ a then a else 0 - a) := by
      show (if I 0 ≤ I a then I a else I 0 - I a) = _
      by_cases q : 0 ≤ a
      · rw [if_pos ((I_le bd_0 ha).mpr q), if_pos q]
      · rw [if_neg (fun z => q ((I_le bd_0 ha).mp z)), if_neg q, I_sub]
    rw [e]; exact k H locs lsA hW hS hV)
/-- arraycopy between arrays of ints -/
theorem x_copyI (C : xC G K own cc nL) {idx a0 a n0 n1 : Nat} {f g : Nat → Int} {sp dp n : Int} (w1 : Cond.methodLink own idx arraycopyName ∈ xWA) (w2 : Cond.native arraycopyName ∈ xWA) (w3 : Cond.static arraycopyName ∈ xWA) (w4 : Cond.initialized "java/lang/System" ∈ xWA) (hA0 : h a0 = xI G n0 f) (hA : h a = xI G n1 g) (h1 : 0 ≤ sp ∧ 0 ≤ dp ∧ 0 ≤ n ∧ sp + n ≤ n0 ∧ dp + n ≤ n1 ∧ n0 < 1000000 ∧ n1 < 1000000) (hcat : (st.map fun v => v.category).sum ≤ 8) {d mc ms : Nat} (hR : xGe K d mc ms) (hf : 1 ≤ d) {h1' : PH} (he : va_up h a (xI G n1 (va_cpy f g sp.toNat dp.toNat n.toNat)) = h1') (hd : decode cc pc = .ok (.invokestatic idx, 3)) (k : X G K nL (pc + 3) ls st h1' cells slots) : X G K nL pc ls (vi n :: vi dp :: .ref a :: vi sp :: .ref a0 :: st) h cells slots := fun H locs lsA hW hS hV => by
  obtain ⟨ws, r, hP, hD⟩ := id hW
  obtain ⟨q0, hq0⟩ := r.2 a0 _ hA0
  obtain ⟨q, hq⟩ := r.2 a _ hA
  obtain ⟨s1, s2⟩ := nn_of (n := sp) ⟨by omega, by omega⟩
  obtain ⟨d1, d2⟩ := nn_of (n := dp) ⟨by omega, by omega⟩
  obtain ⟨n1', n2⟩ := nn_of (n := n) ⟨by omega, by omega⟩
  have hnw : nativeFrameWords "java/lang/System" "arraycopy" 5 ≤ 20 := by decide +kernel
  refine va_copyi C.1 C.2.1 (C.2.2.1.trans hV.1.symm) C.2.2.2.1 (C.2.2.2.2.1 _ w1) (C.2.2.2.2.1 _ w2) (C.2.2.2.2.1 _ w3) (C.2.2.2.2.1 _ w4) C.hK hP hD hS q0 q 0 0 hq0 hq (xtys_at rfl) (xtys_at rfl) rfl s1 d1 n1' (by rw [s2, n2]; omega) (by rw [d2, n2]; omega) (fun i hi => rfl) (by have := hR.1; omega) (by have := hR.2.1; omega) hd (fun H1 locs1 hP1 hD1 hS1 => ?_)
  have e : va_cpy (fun j => I (f j)) (fun j => I (g j)) (I sp).toNatClampNeg (I dp).toNatClampNeg (I n).toNatClampNeg = fun j => I (va_cpy f g sp.toNat dp.toNat n.toNat j) := by
    rw [s2, d2, n2]
    funext j
    unfold va_cpy
    by_cases c : dp.toNat ≤ j ∧ j < dp.toNat + n.toNat
    · rw [if_pos c, if_pos c]
    · rw [if_neg c, if_neg c]
  rw [e] at hP1 hD1
  exact k H1 locs1 lsA ⟨_, he ▸ r.set hD hq, hP1, hD1⟩ hS1 hV
end XMAKE
