/-! THE CORE, second part: contracts, calls, returns, objects made. -/
abbrev xM : Type := MethodName × ByteArray × Nat × Option FieldType
abbrev rmd (d mc ms : Nat) : Room := { frames := d, cells := mc, slots := ms, locals := 48 * d }
def xPc (G : xG) (as : List Value) (h : PH) : Array Value → State → Prop := fun a U => a = as.toArray ∧ xW G h U.heap ∧ xKX G U ∧ gN G ≤ U.heap.size
def xQc (G : xG) (Q : Option Value → PH → Prop) : Array Value → State → Outcome → State → Prop := fun _ st o t => (∃ (r : Option Value) (h' : PH), o = .returned r ∧ Q r h' ∧ xW G h' t.heap) ∧ va_F (xA G) st t
/-- the contract: from any heap h, with these arguments, room for d calls one in the other and mc cells of ms places, the method returns with Q -/
def Cn (G : xG) (M : xM) (d mc ms : Nat) (as : List Value) (h : PH) (Q : Option Value → PH → Prop) : Prop :=
  Met (gL G) M.1 (.code M.1 M.2.1 M.2.2.1 M.2.2.2 :: xWA) (rmd d mc ms) (xPc G as h) (xQc G Q) mc ms (xA G)
/-- where the walk of a method's body ends -/
def xE (G : xG) (K : xK) (M : xM) (mc ms : Nat) (Q : Option Value → PH → Prop) : Prop :=
  (kt K).sig.returnType = M.2.2.2 ∧ (kt K).name = M.1.name ∧ kq K = MQ (kb K) (xQc G Q) (ka K) (ks K) mc ms (xA G)
def ent0 : List Value → List (Option Value)
  | [] => []
  | v :: l => if v.category = 2 then some v :: none :: ent0 l else some v :: ent0 l
def ent (as : List Value) (n : Nat) : List (Option Value) := ent0 as ++ List.replicate (n - (ent0 as).length) none
theorem ent0_mem : ∀ (as : List Value) (k i : Nat) (v : Value), (ent0 as)[i]? = some (some v) → (k + i, v) ∈ lv_args k as
  | [], k, i, v, h => by simp [ent0] at h
  | u :: l, k, i, v, h => by
    unfold ent0 at h
    unfold lv_args
    by_cases c : u.category = 2
    · rw [if_pos c] at h
      match i with
      | 0 => simp at h; subst h; exact List.mem_cons_self
      | 1 => simp at h
      | i + 2 =>
        have h1 := ent0_mem l (k + u.category) i v (by simpa using h)
        rw [c] at h1
        refine List.mem_cons_of_mem _ ?_
        rw [c, show k + (i + 2) = k + 2 + i by omega]
        exact h1
    · rw [if_neg c] at h
      have c1 : u.category = 1 := by rcases lv_cat u with q | q; exact q; exact absurd q c
      match i with
      | 0 => simp at h; subst h; exact List.mem_cons_self
      | i + 1 =>
        have h1 := ent0_mem l (k + u.category) i v (by simpa using h)
        rw [c1] at h1
        refine List.mem_cons_of_mem _ ?_
        rw [c1, show k + (i + 1) = k + 1 + i by omega]
        exact h1
theorem ent_has {as : List Value} {n : Nat} {lsA : Array Slot} (h : lv_has lsA n (lv_args 0 as)) : xV lsA n (ent as n) := by
  refine ⟨h.1, h.2.1, fun i v hi => ?_⟩
  unfold ent at hi
  by_cases hl : i < (ent0 as).length
  · rw [List.getElem?_append_left hl] at hi
    have h1 := ent0_mem as 0 i v hi
    rw [Nat.zero_add] at h1
    exact h.2.2 _ h1
  · rw [List.getElem?_append_right (by omega)] at hi
    rw [List.getElem?_replicate] at hi
    split at hi <;> simp at hi
theorem Cn_of {G : xG} {M : xM} {d mc ms : Nat} {as : List Value} {h : PH} {Q : Option Value → PH → Prop} (hy : plainName M.1.cls = true) (hn : (lg_sl as).length ≤ M.2.2.1)
    (body : ∀ K : xK, xC G K M.1.cls M.2.1 M.2.2.1 → xGe K d mc ms → xE G K M mc ms Q → X G K M.2.2.1 0 (ent as M.2.2.1) [] h 0 0) : Cn G M d mc ms as h Q := by
  refine Met.ofW (cc := M.2.1) (maxL := M.2.2.1) (ret := M.2.2.2) hy rfl ?_
  intro p e s m args below meth c s₁ B hml hv
  obtain ⟨rfl, hW, hK, hN⟩ := hv
  have hts := atoms_spec (ws := .code M.1 M.2.1 M.2.2.1 M.2.2.2 :: xWA) B.pre
  have hl := lv_entry as (n := M.2.2.1) hn
  rw [lg_entry_eq]
  exact body (p, e, rmd d mc ms, s, m, as.toArray, below, meth, c, MQ below (xQc G Q) as.toArray s mc ms (xA G)) ⟨B.exec, B.bytes, hml, findClass_of_methodNamed B.named, fun w hw => hts w (List.mem_cons_of_mem _ hw), B.notSynchronized, hK, hN⟩ ⟨Nat.le_refl _, Nat.le_refl _, Nat.le_refl _, Nat.le_refl _⟩ ⟨B.returns, (name_of_methodNamed B.named B.method).1, rfl⟩ s.heap [] _ hW va_S.rf (ent_has hl)
theorem FrameBlind.xPc {G : xG} {as : List Value} {h : PH} : FrameBlind (xPc G as h) := fun a U g mk q => by
  obtain ⟨q0, q1, q2, q3⟩ := q
  exact ⟨q0, q1, xKX.same (u := U) (U := U.calling g mk a) rfl q2, q3⟩
def psh : Option Value → List Value → List Value
  | none, st => st
  | some v, st => v :: st
/-- a method's own words at a call: of the tables -/
def xOk (own : String) (M : xM) (n : Nat) : Prop := Cond.code M.1 M.2.1 M.2.2.1 M.2.2.2 ∈ xWA ∧ Cond.initialized M.1.cls ∈ xWA ∧ (M.1.cls ≠ "java/lang/invoke/MethodHandle" ∧ M.1.cls ≠ "java/lang/invoke/VarHandle") ∧ (parseMethodDescriptor M.1.desc).map (fun d => d.parameters.length) = some n
def xS (own : String) (idx : Nat) (M : xM) (n : Nat) : Prop := xOk own M n ∧ Cond.methodLink own idx M.1 ∈ xWA ∧ Cond.static M.1 ∈ xWA
def xSN (own : String) (idx : Nat) (host : String) (M : xM) (n : Nat) : Prop := xOk own M n ∧ (own, idx, M.1, host) ∈ xNW ∧ Cond.static M.1 ∈ xWA
def xVi (own : String) (idx ci : Nat) (M : xM) (n : Nat) : Prop := xOk own M n ∧ Cond.methodLink own idx M.1 ∈ xWA ∧ Cond.instanceMethod M.1 ∈ xWA ∧ Cond.selects M.1.cls M.1 M.1 ∈ xWA ∧ ∃ (T : u_T) (N : Nat), vwCl[ci]? = some (M.1.cls, T, N)
def xIn (own : String) (idx : Nat) (M : xM) (n : Nat) : Prop := xOk own M n ∧ Cond.methodLink own idx M.1 ∈ xWA ∧ Cond.instanceMethod M.1 ∈ xWA ∧ M.1.name = "<init>" ∧ M.2.2.2 = none
def xIN (own : String) (idx : Nat) (host : String) (M : xM) (n : Nat) : Prop := xOk own M n ∧ (own, idx, M.1, host) ∈ xNW ∧ Cond.instanceMethod M.1 ∈ xWA ∧ M.1.name = "<init>" ∧ M.2.2.2 = none
theorem good_xWA {ws : List Cond} (h : ∀ w ∈ ws, w ∈ xWA) : GoodIn xWA ws := fun w hw => ⟨h w hw, good_of_word (xWA_good (h w hw))⟩
theorem ws_xWA {M : xM} (h : Cond.code M.1 M.2.1 M.2.2.1 M.2.2.2 ∈ xWA) : ∀ w ∈ (Cond.code M.1 M.2.1 M.2.2.1 M.2.2.2 :: xWA), w ∈ xWA := fun w hw => by
  rcases List.mem_cons.mp hw with q | q
  · rw [q]; exact h
  · exact q
section XCALL
variable {G : xG} {K : xK} {own : String} {cc : ByteArray} {nL pc : Nat} {ls : List (Option Value)} {st stk : List Value} {h : PH} {cells slots : Nat}
/-- room at a call -/
def xRm (K : xK) (M : xM) (d mc ms cells slots : Nat) : Prop := (d + 1 ≤ (kR K).frames ∧ 8 + (M.2.2.1 + 11) + 48 * d ≤ (kR K).locals) ∧ cells + mc ≤ (kR K).cells ∧ slots + ms ≤ (kR K).slots
theorem xRm_of {M : xM} {d mc ms d' mc' ms' : Nat} (hR : xGe K d mc ms) (h1 : d' + 1 ≤ d) (h2 : M.2.2.1 ≤ 29) (h3 : cells + mc' ≤ mc) (h4 : slots + ms' ≤ ms) : xRm K M d' mc' ms' cells slots := by
  obtain ⟨r1, r2, r3, r4⟩ := hR
  exact ⟨⟨by omega, by omega⟩, by omega, by omega⟩
theorem x_back {mc ms : Nat} {Q : Option Value → PH → Prop} {a : Array Value} {H : Heap} {locs : List Loc} {lsA : Array Slot} (C : xC G K own cc nL) (hS : va_S (xA G) (ks K).heap H locs) (hV : xV lsA nL ls)
    (hr : va_Run (kp K) (gL G) (ke K) (kR K) (ks K) (km K) (ka K) (kb K) (kt K) (kc K) H locs cells slots mc ms (F0 (km K) pc lsA stk) st (xQc G Q a) (xA G))
    (k : ∀ (r : Option Value) (h' : PH), Q r h' → X G K nL (pc + 3) ls (psh r st) h' (cells + mc) (slots + ms)) : W (kp K) (gL G) (ke K) (kR K) (ks K) (km K) (ka K) (kb K) (kt K) (kc K) H locs cells slots (kq K) (F0 (km K) pc lsA stk) := by
  intro T hT X0
  obtain ⟨v, st₀, t, T', L, h0, X', hL, e1, e2, ⟨⟨r, h', hv, hq, hw⟩, hz, hk⟩, step⟩ := hr T hT X0
  cases hv
  rw [h0] at hz hk
  have hA : ∀ q, (ks K).heap.size ≤ q → xA G q := fun q hq => Nat.le_trans C.2.2.2.2.2.2.2 hq
  obtain ⟨t2, a1, b1⟩ := k v h' hq t.heap (locs ++ L) lsA hw ⟨Nat.le_trans hS.1 hz, fun q h1 h2 => by rw [hk q (Nat.lt_of_lt_of_le h1 hS.1) h2]; exact hS.2.1 q h1 h2, fun q hq2 => by
      rcases List.mem_append.mp hq2 with hh | hh
      · exact hS.2.2 q hh
      · exact hL q hh⟩ hV T' e1 X'
  refine ⟨t2, step t2 ?_, b1⟩
  have he : v.toList ++ st = psh v st := by cases v <;> rfl
  rw [he]
  exact a1
theorem x_pre (C : xC G K own cc nL) {H : Heap} {locs : List Loc} {as : List Value} (hW : xW G h H) (hS : va_S (xA G) (ks K).heap H locs) : ∀ U : State, U.heap = H → (ks K).WarmedH U.vm → xPc G as h as.toArray U := fun U hU hw => ⟨rfl, by rw [hU]; exact hW, xKX.warm hw C.2.2.2.2.2.2.1, by rw [hU]; exact Nat.le_trans C.2.2.2.2.2.2.2 hS.1⟩
theorem x_invS (C : xC G K own cc nL) {idx n : Nat} {M : xM} (S : xS own idx M n) {d mc ms : Nat} {as : List Value} {Q : Option Value → PH → Prop} (hM : Cn G M d mc ms as h Q) (hn : as.length = n) (hst : as.reverse ++ st = stk) (hcat : (st.map fun v => v.category).sum ≤ 8) (hR : xRm K M d mc ms cells slots) (hd : decode cc pc = .ok (.invokestatic idx, 3))
    (k : ∀ (r : Option Value) (h' : PH), Q r h' → X G K nL (pc + 3) ls (psh r st) h' (cells + mc) (slots + ms)) : X G K nL pc ls stk h cells slots := fun H locs lsA hW hS hV => by
  obtain ⟨⟨s1, s2, s3, s4⟩, s5, s6⟩ := S
  refine x_back C hS hV (va_runS (n := n) (As := as) (rest := st) ⟨C.1, C.2.1, C.2.2.1, C.2.2.2.1, C.2.2.2.2.1⟩ hM (va_cwS n C.2.2.2.2.1 (good_xWA (fun w hw => ?_)) rfl rfl rfl ⟨s3.1, s3.2, s4⟩ hR.1) ⟨FrameBlind.xPc, x_pre C hW hS⟩ rfl hn hV.1 hst.symm (lv_room hcat) hd hR.2) k
  unfold va_wsS at hw
  rcases List.mem_append.mp hw with q | q
  · simp only [List.mem_cons, List.not_mem_nil, or_false] at q
    rcases q with rfl | rfl | rfl
    · exact s5
    · exact s6
    · exact s2
  · exact ws_xWA s1 w q
theorem x_invSN (C : xC G K own cc nL) {idx n : Nat} {host : String} {M : xM} (S : xSN own idx host M n) {d mc ms : Nat} {as : List Value} {Q : Option Value → PH → Prop} (hM : Cn G M d mc ms as h Q) (hn : as.length = n) (hst : as.reverse ++ st = stk) (hcat : (st.map fun v => v.category).sum ≤ 8) (hR : xRm K M d mc ms cells slots) (hd : decode cc pc = .ok (.invokestatic idx, 3))
    (k : ∀ (r : Option Value) (h' : PH), Q r h' → X G K nL (pc + 3) ls (psh r st) h' (cells + mc) (slots + ms)) : X G K nL pc ls stk h cells slots := fun H locs lsA hW hS hV => by
  obtain ⟨⟨s1, s2, s3, s4⟩, s5, s6⟩ := S
  exact x_back C hS hV (va_runSN (n := n) (As := as) (rest := st) ⟨C.1, C.2.1, C.2.2.1, C.2.2.2.1, C.2.2.2.2.1⟩ hM ⟨va_cnB n C.2.2.2.2.1 (good_xWA (ws_xWA s1)) rfl rfl rfl (C.2.2.2.2.2.2.1.2.2.1 _ s5) (C.2.2.2.2.1 _ s2) ⟨s3.1, s3.2, s4⟩ hR.1, C.2.2.2.2.1 _ s6, trivial⟩ ⟨FrameBlind.xPc, x_pre C hW hS⟩ rfl hn hV.1 hst.symm (lv_room hcat) hd hR.2) k
theorem x_invV (C : xC G K own cc nL) {idx n ci : Nat} {M : xM} (S : xVi own idx ci M n) {d mc ms b : Nat} {fs : List Value} {as : List Value} {Q : Option Value → PH → Prop} (hM : Cn G M d mc ms (.ref b :: as) h Q) (hb : h b = xO ci fs) (hn : as.length = n) (hst : as.reverse ++ .ref b :: st = stk) (hcat : (st.map fun v => v.category).sum ≤ 8) (hR : xRm K M d mc ms cells slots) (hd : decode cc pc = .ok (.invokevirtual idx, 3))
    (k : ∀ (r : Option Value) (h' : PH), Q r h' → X G K nL (pc + 3) ls (psh r st) h' (cells + mc) (slots + ms)) : X G K nL pc ls stk h cells slots := fun H locs lsA hW hS hV => by
  obtain ⟨⟨s1, s2, s3, s4⟩, s5, s6, s7, T, N, s8⟩ := S
  obtain ⟨ws, r, hP, hD⟩ := id hW
  obtain ⟨q, hq⟩ := r.2 b _ hb
  refine x_back C hS hV (va_runV (n := n) (C := M.1.cls) (As := as) (rest := st) ⟨C.1, C.2.1, C.2.2.1, C.2.2.2.1, C.2.2.2.2.1⟩ hM (cwV n C.2.2.2.2.1 (good_xWA (fun w hw => ?_)) rfl rfl rfl ⟨rfl, s3.1, s3.2, s4⟩ hR.1) ⟨FrameBlind.xPc, va_recv C.hK hP s8 hq, x_pre C hW hS⟩ rfl hn hV.1 hst.symm (lv_room hcat) hd hR.2) k
  unfold wsV at hw
  rcases List.mem_append.mp hw with q | q
  · simp only [List.mem_cons, List.not_mem_nil, or_false] at q
    rcases q with rfl | rfl | rfl | rfl
    · exact s5
    · exact s6
    · exact s7
    · exact s2
  · exact ws_xWA s1 w q
theorem x_invI (C : xC G K own cc nL) {idx n : Nat} {M : xM} (S : xIn own idx M n) {d mc ms b : Nat} {as : List Value} {Q : Option Value → PH → Prop} (hM : Cn G M d mc ms (.ref b :: as) h Q) (hn : as.length = n) (hst : as.reverse ++ .ref b :: st = stk) (hcat : (st.map fun v => v.category).sum ≤ 8) (hR : xRm K M d mc ms cells slots) (hd : decode cc pc = .ok (.invokespecial idx, 3))
    (k : ∀ (r : Option Value) (h' : PH), Q r h' → X G K nL (pc + 3) ls (psh r st) h' (cells + mc) (slots + ms)) : X G K nL pc ls stk h cells slots := fun H locs lsA hW hS hV => by
  obtain ⟨⟨s1, s2, s3, s4⟩, s5, s6, s7, s8⟩ := S
  obtain ⟨y, bytes, maxL, ret⟩ := M
  cases (show ret = none from s8)
  exact x_back C hS hV (va_runI (n := n) (As := as) (rest := st) ⟨C.1, C.2.1, C.2.2.1, C.2.2.2.1, C.2.2.2.2.1⟩ hM (cwI n C.2.2.2.2.1 (good_xWA (ws_xWA (M := (y, bytes, maxL, none)) s1)) rfl rfl rfl (C.2.2.2.2.1 _ s2) (C.2.2.2.2.1 _ s5) (C.2.2.2.2.1 _ s6) s7 ⟨s3.1, s3.2, s4⟩ hR.1) ⟨FrameBlind.xPc, x_pre C hW hS⟩ rfl hn hV.1 hst.symm (lv_room hcat) hd hR.2) k
theorem x_invIN (C : xC G K own cc nL) {idx n : Nat} {host : String} {M : xM} (S : xIN own idx host M n) {d mc ms b : Nat} {as : List Value} {Q : Option Value → PH → Prop} (hM : Cn G M d mc ms (.ref b :: as) h Q) (hn : as.length = n) (hst : as.reverse ++ .ref b :: st = stk) (hcat : (st.map fun v => v.category).sum ≤ 8) (hR : xRm K M d mc ms cells slots) (hd : decode cc pc = .ok (.invokespecial idx, 3))
    (k : ∀ (r : Option Value) (h' : PH), Q r h' → X G K nL (pc + 3) ls (psh r st) h' (cells + mc) (slots + ms)) : X G K nL pc ls stk h cells slots := fun H locs lsA hW hS hV => by
  obtain ⟨⟨s1, s2, s3, s4⟩, s5, s6, s7, s8⟩ := S
  obtain ⟨y, bytes, maxL, ret⟩ := M
  cases (show ret = none from s8)
  exact x_back C hS hV (va_runIN (n := n) (As := as) (rest := st) ⟨C.1, C.2.1, C.2.2.1, C.2.2.2.1, C.2.2.2.2.1⟩ hM ⟨va_cnB n C.2.2.2.2.1 (good_xWA (ws_xWA (M := (y, bytes, maxL, none)) s1)) rfl rfl rfl (C.2.2.2.2.2.2.1.2.2.1 _ s5) (C.2.2.2.2.1 _ s2) ⟨s3.1, s3.2, s4⟩ hR.1, s7, C.2.2.2.2.1 _ s6⟩ ⟨FrameBlind.xPc, x_pre C hW hS⟩ rfl hn hV.1 hst.symm (lv_room hcat) hd hR.2) k
/-- Object.<init> -/
theorem x_objI (C : xC G K own cc nL) {idx a : Nat} (w1 : Cond.methodLink own idx objectInit ∈ xWA) (w2 : Cond.instanceMethod objectInit ∈ xWA) (w3 : Cond.code objectInit ⟨#[0xb1]⟩ 1 none ∈ xWA) (hcat : (st.map fun v => v.category).sum ≤ 8) {d mc ms : Nat} (hR : xGe K d mc ms) (h1 : 1 ≤ d) (hd : decode cc pc = .ok (.invokespecial idx, 3)) (k : X G K nL (pc + 3) ls st h cells slots) : X G K nL pc ls (.ref a :: st) h cells slots := fun H locs lsA hW hS hV =>
  W.objInit C.1 C.2.1 C.2.2.2.1 (C.2.2.2.2.1 _ w1) (C.2.2.2.2.1 _ w2) (C.2.2.2.2.1 _ w3) rfl (hV.1.trans C.2.2.1.symm) rfl hd (by have := hR.1; omega) (by have := hR.2.1; show 2 * 0 + _ + 12 ≤ _; omega) (k H locs lsA hW hS hV)
/-- more cells and places counted -/
theorem X.widen {c2 s2 : Nat} (h1 : cells ≤ c2) (h2 : slots ≤ s2) (k : X G K nL pc ls st h c2 s2) : X G K nL pc ls st h cells slots := fun H locs lsA hW hS hV => W.widen h1 h2 (k H locs lsA hW hS hV)
theorem x_vret (C : xC G K own cc nL) {M : xM} {mc ms : Nat} {Q : Option Value → PH → Prop} (E : xE G K M mc ms Q) (hr : M.2.2.2 = none) (hc : cells ≤ mc) (hs : slots ≤ ms) (hd : decode cc pc = .ok (.return_, 1)) (hq : Q none h) : X G K nL pc ls [] h cells slots := fun H locs lsA hW hS hV => by
  obtain ⟨e1, -, e3⟩ := E
  rw [e3]
  refine W.widen hc hs ?_
  exact W.vret (hlocks := C.2.2.2.2.2.1) C.1 C.2.1 (e1.trans hr) (fun t ht hw => ⟨⟨none, h, rfl, hq, by rw [ht]; exact hW⟩, hS.F ht⟩) hS.2.2 hd
theorem x_iret (C : xC G K own cc nL) {M : xM} {mc ms : Nat} {Q : Option Value → PH → Prop} (E : xE G K M mc ms Q) (hr : M.2.2.2 = some .int) (hc : cells ≤ mc) (hs : slots ≤ ms) {x : Int32} (hd : decode cc pc = .ok (.ireturn, 1)) (hq : Q (some (.int x)) h) : X G K nL pc ls [.int x] h cells slots := fun H locs lsA hW hS hV => by
  obtain ⟨e1, -, e3⟩ := E
  rw [e3]
  refine W.widen hc hs ?_
  exact W.iret (hlocks := C.2.2.2.2.2.1) C.1 C.2.1 (e1.trans hr) (fun t ht hw => ⟨⟨_, h, rfl, hq, by rw [ht]; exact hW⟩, hS.F ht⟩) hS.2.2 hd
theorem x_zret (C : xC G K own cc nL) {M : xM} {mc ms : Nat} {Q : Option Value → PH → Prop} (E : xE G K M mc ms Q) (hr : M.2.2.2 = some .boolean) (hc : cells ≤ mc) (hs : slots ≤ ms) {z : Bool} (hd : decode cc pc = .ok (.ireturn, 1)) (hq : Q (some (vi (b2i z))) h) : X G K nL pc ls [vi (b2i z)] h cells slots := fun H locs lsA hW hS hV => by
  obtain ⟨e1, -, e3⟩ := E
  rw [e3]
  refine W.widen hc hs ?_
  exact W.zret (hlocks := C.2.2.2.2.2.1) C.1 C.2.1 (e1.trans hr) (fit_bool z).1 (fun t ht hw => ⟨⟨_, h, rfl, hq, by rw [ht]; exact hW⟩, hS.F ht⟩) hS.2.2 hd
theorem x_lret (C : xC G K own cc nL) {M : xM} {mc ms : Nat} {Q : Option Value → PH → Prop} (E : xE G K M mc ms Q) (hr : M.2.2.2 = some .long) (hc : cells ≤ mc) (hs : slots ≤ ms) {x : Int64} (hd : decode cc pc = .ok (.lreturn, 1)) (hq : Q (some (.long x)) h) : X G K nL pc ls [.long x] h cells slots := fun H locs lsA hW hS hV => by
  obtain ⟨e1, -, e3⟩ := E
  rw [e3]
  refine W.widen hc hs ?_
  exact W.lret (hlocks := C.2.2.2.2.2.1) C.1 C.2.1 (e1.trans hr) (fun t ht hw => ⟨⟨_, h, rfl, hq, by rw [ht]; exact hW⟩, hS.F ht⟩) hS.2.2 hd
end XCALL
