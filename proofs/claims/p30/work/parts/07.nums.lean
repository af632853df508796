/-! Numbers, bits, and arrays that hold the same. -/
theorem arrV_congr (c : ClassId) (n : Nat) {f g : Nat → Value} (h : ∀ j, j < n → f j = g j) : arrV c n f = arrV c n g := by
  unfold arrV
  have e : (fun j : Fin n => f j.val) = fun j => g j.val := funext fun j => h j.val j.2
  rw [e]
section XEXT
variable {G : xG} {K : xK} {nL pc : Nat} {ls : List (Option Value)} {st : List Value} {h : PH} {cells slots : Nat}
/-- an array is what its places hold -/
theorem X.aeq {a n : Nat} {g g' : Nat → Int} (hA : h a = xI G n g) (hg : ∀ j, j < n → g j = g' j) (k : X G K nL pc ls st (va_up h a (xI G n g')) cells slots) : X G K nL pc ls st h cells slots := fun H locs lsA hW hS hV => by
  obtain ⟨ws, r, hP, hD⟩ := hW
  obtain ⟨q, hq⟩ := r.2 a _ hA
  refine k H locs lsA ⟨_, r.set hD hq, hP.set hD hq ?_ (fun _ _ => rfl), hD.set hq⟩ hS hV
  have h1 := hP q _ hq
  show H[a]? = some (vp_cell _ _)
  refine (show H[a]? = some (vp_cell _ _) from h1).trans (congrArg some ?_)
  rw [vp_cell_i, vp_cell_i]
  exact arrV_congr _ _ (fun j hj => by rw [hg j hj])
theorem X.zeq {a n : Nat} {g g' : Nat → Bool} (hA : h a = xZ G n g) (hg : ∀ j, j < n → g j = g' j) (k : X G K nL pc ls st (va_up h a (xZ G n g')) cells slots) : X G K nL pc ls st h cells slots := fun H locs lsA hW hS hV => by
  obtain ⟨ws, r, hP, hD⟩ := hW
  obtain ⟨q, hq⟩ := r.2 a _ hA
  refine k H locs lsA ⟨_, r.set hD hq, hP.set hD hq ?_ (fun _ _ => rfl), hD.set hq⟩ hS hV
  have h1 := hP q _ hq
  show H[a]? = some (vp_cell _ _)
  refine (show H[a]? = some (vp_cell _ _) from h1).trans (congrArg some ?_)
  rw [vp_cell_i, vp_cell_i]
  exact arrV_congr _ _ (fun j hj => by rw [hg j hj])
end XEXT
theorem I_tn {n : Nat} (hn : n < 2 ^ 32) : (I (n : Int)).toBitVec.toNat = n := pk_tn hn
theorem I_nI (n : Nat) : I (n : Int) = nI n := rfl
theorem ands : ∀ k, k < 31 → ((nI k &&& 31).toBitVec.smod 32).toNat = k := by decide +kernel
theorem sh_r {a k : Nat} (ha : a < 2 ^ 31) (hk : k < 31) : I (a : Int) >>> (I (k : Int) &&& 31) = I ((a / 2 ^ k : Nat) : Int) := by
  rw [I_nI, I_nI, I_nI]
  exact pk_shrN ha _ k (ands k hk)
theorem sh_l {a k : Nat} (hk : k < 31) (h : a * 2 ^ k < 2 ^ 32) : I (a : Int) <<< (I (k : Int) &&& 31) = I ((a * 2 ^ k : Nat) : Int) := by
  rw [I_nI, I_nI, I_nI]
  exact pk_shlN _ k (ands k hk) h
theorem nI_and (a b : Nat) : nI a &&& nI b = nI (a &&& b) := by
  unfold nI
  apply Int32.toBitVec_inj.mp
  show (BitVec.ofNat 32 a) &&& (BitVec.ofNat 32 b) = BitVec.ofNat 32 (a &&& b)
  apply BitVec.eq_of_getLsbD_eq
  intro i hi
  simp [hi]
theorem nI_or (a b : Nat) : nI a ||| nI b = nI (a ||| b) := by
  unfold nI
  apply Int32.toBitVec_inj.mp
  show (BitVec.ofNat 32 a) ||| (BitVec.ofNat 32 b) = BitVec.ofNat 32 (a ||| b)
  apply BitVec.eq_of_getLsbD_eq
  intro i hi
  simp [hi]
theorem nI_xor (a b : Nat) : nI a ^^^ nI b = nI (a ^^^ b) := by
  unfold nI
  apply Int32.toBitVec_inj.mp
  show (BitVec.ofNat 32 a) ^^^ (BitVec.ofNat 32 b) = BitVec.ofNat 32 (a ^^^ b)
  apply BitVec.eq_of_getLsbD_eq
  intro i hi
  simp [hi]
theorem I_and (a b : Nat) : I (a : Int) &&& I (b : Int) = I ((a &&& b : Nat) : Int) := nI_and a b
theorem I_or (a b : Nat) : I (a : Int) ||| I (b : Int) = I ((a ||| b : Nat) : Int) := nI_or a b
theorem I_xor (a b : Nat) : I (a : Int) ^^^ I (b : Int) = I ((a ^^^ b : Nat) : Int) := nI_xor a b
theorem I_div {a b : Nat} (ha : a < 2 ^ 31) (h0 : 0 < b) (hb : b < 2 ^ 31) : I (a : Int) / I (b : Int) = I ((a / b : Nat) : Int) := pk_div ha h0 hb
theorem I_rem {a b : Nat} (ha : a < 2 ^ 31) (h0 : 0 < b) (hb : b < 2 ^ 31) : I (a : Int) - I (a : Int) / I (b : Int) * I (b : Int) = I ((a % b : Nat) : Int) := pk_rem ha h0 hb
theorem I_ne0 {b : Int} (hb : bd b) (h : b ≠ 0) : ¬ I b = 0 := fun q => h ((I_inj hb bd_0).mp q)
/-- the frets of a code: four bits a string -/
def fr (c : Nat) (s : Nat) : Int := ((c / 16 ^ (5 - s) % 16 : Nat) : Int) - 1
theorem fr_bd (c s : Nat) : -1 ≤ fr c s ∧ fr c s ≤ 14 := by unfold fr; omega
theorem p16 : ∀ s, s < 6 → 16 ^ (5 - s) = 2 ^ (4 * (5 - s)) := by decide
/-- a code with a fret put on a free string -/
def wi (c s : Nat) (f : Int) : Nat := c ||| (f + 1).toNat * 16 ^ (5 - s)
