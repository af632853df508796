/-! Methods that read the script. -/
abbrev xSc : Type := Nat × Nat × (Nat → Int32)
def xXs (G : xG) (Sc : xSc) (U : State) : Prop := va_X Sc.1 Sc.2.1 Sc.2.2 U U.heap ∧ Sc.1 < gN G ∧ Sc.2.1 ≤ 260
theorem xXs.same {G : xG} {Sc : xSc} {u U : State} (hv : u.vm = U.vm) (hh : u.heap = U.heap) (q : xXs G Sc u) : xXs G Sc U := ⟨by rw [← hh]; exact va_X.moved (hv ▸ Vm.Alike.refl _) q.1, q.2⟩
def xPs (G : xG) (Sc : xSc) (as : List Value) (h : PH) : Array Value → State → Prop := fun a U => xPc G as h a U ∧ xXs G Sc U
theorem FrameBlind.xPs {G : xG} {Sc : xSc} {as : List Value} {h : PH} : FrameBlind (xPs G Sc as h) := fun a U g mk q => ⟨FrameBlind.xPc a U g mk q.1, xXs.same (u := U) (U := U.calling g mk a) rfl rfl q.2⟩
/-- a contract as Cn, of a method that reads the script -/
def Sn (G : xG) (Sc : xSc) (M : xM) (d mc ms : Nat) (as : List Value) (h : PH) (Q : Option Value → PH → Prop) : Prop :=
  Met (gL G) M.1 (.code M.1 M.2.1 M.2.2.1 M.2.2.2 :: xWA) (rmd d mc ms) (xPs G Sc as h) (xQc G Q) mc ms (xA G)
theorem Sn_of {G : xG} {Sc : xSc} {M : xM} {d mc ms : Nat} {as : List Value} {h : PH} {Q : Option Value → PH → Prop} (hy : plainName M.1.cls = true) (hn : (lg_sl as).length ≤ M.2.2.1)
    (body : ∀ K : xK, xC G K M.1.cls M.2.1 M.2.2.1 → xGe K d mc ms → xE G K M mc ms Q → va_X Sc.1 Sc.2.1 Sc.2.2 (ks K) (ks K).heap → Sc.1 < gN G → Sc.2.1 ≤ 260 → X G K M.2.2.1 0 (ent as M.2.2.1) [] h 0 0) : Sn G Sc M d mc ms as h Q := by
  refine Met.ofW (cc := M.2.1) (maxL := M.2.2.1) (ret := M.2.2.2) hy rfl ?_
  intro p e s m args below meth c s₁ B hml hv
  obtain ⟨⟨rfl, hW, hK, hN⟩, hX, hb, hL⟩ := hv
  have hts := atoms_spec (ws := .code M.1 M.2.1 M.2.2.1 M.2.2.2 :: xWA) B.pre
  have hl := lv_entry as (n := M.2.2.1) hn
  rw [lg_entry_eq]
  exact body (p, e, rmd d mc ms, s, m, as.toArray, below, meth, c, MQ below (xQc G Q) as.toArray s mc ms (xA G)) ⟨B.exec, B.bytes, hml, findClass_of_methodNamed B.named, fun w hw => hts w (List.mem_cons_of_mem _ hw), B.notSynchronized, hK, hN⟩ ⟨Nat.le_refl _, Nat.le_refl _, Nat.le_refl _, Nat.le_refl _⟩ ⟨B.returns, (name_of_methodNamed B.named B.method).1, rfl⟩ hX hb hL s.heap [] _ hW va_S.rf (ent_has hl)
section XSCR
variable {G : xG} {K : xK} {own : String} {cc : ByteArray} {nL pc : Nat} {ls : List (Option Value)} {st stk : List Value} {h : PH} {cells slots : Nat}
theorem x_sld (C : xC G K own cc nL) {b L : Nat} {xs : Nat → Int32} (hX : va_X b L xs (ks K) (ks K).heap) (hbl : b < gN G) {i v : Int} (hi : 0 ≤ i ∧ i < L ∧ i < 2147483648) (hv : xs i.toNat = I v) (hd : decode cc pc = .ok (.iaload, 1)) (k : X G K nL (pc + 1) ls (vi v :: st) h cells slots) : X G K nL pc ls (vi i :: .ref b :: st) h cells slots := fun H locs lsA hW hS hV => by
  obtain ⟨h1, h2⟩ := in_of hi
  exact va_sld C.1 C.2.1 hX (Nat.lt_of_lt_of_le hbl C.2.2.2.2.2.2.2) (fun q => absurd hbl (Nat.not_lt.mpr q)) hS h1 hd (by rw [h2, hv]; exact k H locs lsA hW hS hV)
theorem x_slen (C : xC G K own cc nL) {b L : Nat} {xs : Nat → Int32} (hX : va_X b L xs (ks K) (ks K).heap) (hbl : b < gN G) (hd : decode cc pc = .ok (.arraylength, 1)) (k : X G K nL (pc + 1) ls (vi (L : Int) :: st) h cells slots) : X G K nL pc ls (.ref b :: st) h cells slots := fun H locs lsA hW hS hV =>
  va_slen C.1 C.2.1 hX (Nat.lt_of_lt_of_le hbl C.2.2.2.2.2.2.2) (fun q => absurd hbl (Nat.not_lt.mpr q)) hS hd (k H locs lsA hW hS hV)
theorem x_pres (C : xC G K own cc nL) {Sc : xSc} (hX : va_X Sc.1 Sc.2.1 Sc.2.2 (ks K) (ks K).heap) (hb : Sc.1 < gN G) (hL : Sc.2.1 ≤ 260) {H : Heap} {locs : List Loc} {as : List Value} (hW : xW G h H) (hS : va_S (xA G) (ks K).heap H locs) : ∀ U : State, U.heap = H → (ks K).WarmedH U.vm → xPs G Sc as h as.toArray U := fun U hU hw => ⟨x_pre C hW hS U hU hw, by
  rw [hU]
  exact (hX.kept (hS.2.1 _ (Nat.lt_of_lt_of_le hb C.2.2.2.2.2.2.2) (fun q => absurd hb (Nat.not_lt.mpr q)))).moved hw.alike, hb, hL⟩
theorem x_invVX (C : xC G K own cc nL) {Sc : xSc} (hX : va_X Sc.1 Sc.2.1 Sc.2.2 (ks K) (ks K).heap) (hbl : Sc.1 < gN G) (hL : Sc.2.1 ≤ 260) {idx n ci : Nat} {M : xM} (S : xVi own idx ci M n) {d mc ms b : Nat} {fs : List Value} {as : List Value} {Q : Option Value → PH → Prop} (hM : Sn G Sc M d mc ms (.ref b :: as) h Q) (hb : h b = xO ci fs) (hn : as.length = n) (hst : as.reverse ++ .ref b :: st = stk) (hcat : (st.map fun v => v.category).sum ≤ 8) (hR : xRm K M d mc ms cells slots) (hd : decode cc pc = .ok (.invokevirtual idx, 3))
    (k : ∀ (r : Option Value) (h' : PH), Q r h' → X G K nL (pc + 3) ls (psh r st) h' (cells + mc) (slots + ms)) : X G K nL pc ls stk h cells slots := fun H locs lsA hW hS hV => by
  obtain ⟨⟨s1, s2, s3, s4⟩, s5, s6, s7, T, N, s8⟩ := S
  obtain ⟨ws, r, hP, hD⟩ := id hW
  obtain ⟨q, hq⟩ := r.2 b _ hb
  refine x_back C hS hV (va_runV (n := n) (C := M.1.cls) (As := as) (rest := st) ⟨C.1, C.2.1, C.2.2.1, C.2.2.2.1, C.2.2.2.2.1⟩ hM (cwV n C.2.2.2.2.1 (good_xWA (fun w hw => ?_)) rfl rfl rfl ⟨rfl, s3.1, s3.2, s4⟩ hR.1) ⟨FrameBlind.xPs, va_recv C.hK hP s8 hq, x_pres C hX hbl hL hW hS⟩ rfl hn hV.1 hst.symm (lv_room hcat) hd hR.2) k
  unfold wsV at hw
  rcases List.mem_append.mp hw with q | q
  · simp only [List.mem_cons, List.not_mem_nil, or_false] at q
    rcases q with rfl | rfl | rfl | rfl
    · exact s5
    · exact s6
    · exact s7
    · exact s2
  · exact ws_xWA s1 w q
theorem x_invSNX (C : xC G K own cc nL) {Sc : xSc} (hX : va_X Sc.1 Sc.2.1 Sc.2.2 (ks K) (ks K).heap) (hbl : Sc.1 < gN G) (hL : Sc.2.1 ≤ 260) {idx n : Nat} {host : String} {M : xM} (S : xSN own idx host M n) {d mc ms : Nat} {as : List Value} {Q : Option Value → PH → Prop} (hM : Sn G Sc M d mc ms as h Q) (hn : as.length = n) (hst : as.reverse ++ st = stk) (hcat : (st.map fun v => v.category).sum ≤ 8) (hR : xRm K M d mc ms cells slots) (hd : decode cc pc = .ok (.invokestatic idx, 3))
    (k : ∀ (r : Option Value) (h' : PH), Q r h' → X G K nL (pc + 3) ls (psh r st) h' (cells + mc) (slots + ms)) : X G K nL pc ls stk h cells slots := fun H locs lsA hW hS hV => by
  obtain ⟨⟨s1, s2, s3, s4⟩, s5, s6⟩ := S
  exact x_back C hS hV (va_runSN (n := n) (As := as) (rest := st) ⟨C.1, C.2.1, C.2.2.1, C.2.2.2.1, C.2.2.2.2.1⟩ hM ⟨va_cnB n C.2.2.2.2.1 (good_xWA (ws_xWA s1)) rfl rfl rfl (C.2.2.2.2.2.2.1.2.2.1 _ s5) (C.2.2.2.2.1 _ s2) ⟨s3.1, s3.2, s4⟩ hR.1, C.2.2.2.2.1 _ s6, trivial⟩ ⟨FrameBlind.xPs, x_pres C hX hbl hL hW hS⟩ rfl hn hV.1 hst.symm (lv_room hcat) hd hR.2) k
theorem lg_self (x : Int64) : lg_cmp x x = 0 := by
  have h : ¬ x < x := fun q => absurd (Int64.lt_iff_toInt_lt.mp q) (Int.lt_irrefl _)
  simp [lg_cmp, h]
theorem x_lcmpQ (C : xC G K own cc nL) {x y : Int64} (he : x = y) (hd : decode cc pc = .ok (.lcmp, 1)) (k : X G K nL (pc + 1) ls (vi 0 :: st) h cells slots) : X G K nL pc ls (.long y :: .long x :: st) h cells slots := fun H locs lsA hW hS hV => by
  subst he
  exact W.lcmp C.1 C.2.1 hd (by rw [lg_self]; exact k H locs lsA hW hS hV)
end XSCR
theorem I_remE {a b : Int} (ha : 0 ≤ a ∧ a < 2147483648) (hb : 0 < b ∧ b < 2147483648) : ∃ z : Nat, (z : Int) < b ∧ I a - I a / I b * I b = I (z : Int) := by
  obtain ⟨n, rfl⟩ : ∃ n : Nat, a = (n : Int) := ⟨a.toNat, by omega⟩
  obtain ⟨m, rfl⟩ : ∃ m : Nat, b = (m : Int) := ⟨b.toNat, by omega⟩
  refine ⟨n % m, ?_, I_rem (by omega) (by omega) (by omega)⟩
  have := Nat.mod_lt n (show 0 < m by omega)
  omega
theorem I_divE {a b : Int} (ha : 0 ≤ a ∧ a < 2147483648) (hb : 0 < b ∧ b < 2147483648) : ∃ z : Nat, (z : Int) ≤ a ∧ I a / I b = I (z : Int) := by
  obtain ⟨n, rfl⟩ : ∃ n : Nat, a = (n : Int) := ⟨a.toNat, by omega⟩
  obtain ⟨m, rfl⟩ : ∃ m : Nat, b = (m : Int) := ⟨b.toNat, by omega⟩
  refine ⟨n / m, ?_, I_div (by omega) (by omega) (by omega)⟩
  have := Nat.div_le_self n m
  omega
theorem I_posE (v : Int) : ∃ w : Nat, w < 2147483648 ∧ I v &&& I 2147483647 = I (w : Int) := by
  generalize I v = x
  have h : (x &&& I 2147483647).toBitVec.toNat ≤ 2147483647 := by
    show (x.toBitVec &&& (I 2147483647).toBitVec).toNat ≤ 2147483647
    rw [BitVec.toNat_and, show (I 2147483647).toBitVec.toNat = 2147483647 from rfl]
    exact Nat.and_le_right
  have e : (x &&& I 2147483647).toInt = ((x &&& I 2147483647).toBitVec.toNat : Int) := by
    show (x &&& I 2147483647).toBitVec.toInt = _
    exact BitVec.toInt_eq_toNat_of_lt (by omega)
  refine ⟨(x &&& I 2147483647).toBitVec.toNat, by omega, ?_⟩
  rw [← e]
  exact (I_of _).symm
