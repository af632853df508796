/-! THE CORE, fourth part: what is thrown, and what catches it (over the exceptions kit). -/
def xE3 : List String := ["java/lang/IndexOutOfBoundsException", "java/lang/IllegalArgumentException"]
def xDc : List String := ["java/lang/RuntimeException", "java/lang/Exception", Bundle.tN]
/-- a throw's words that no list of words takes along -/
def xNG (E : String) : List Cond := .castable E E :: xDc.map (fun D => .declares (Bundle.initS D))
/-- the texts of what is thrown -/
def xStr : List (String × Nat × String) := [("Tablature", 319, "no such string"), ("Tablature", 328, "no such open pitch"), ("Tablature", 330, "no such capo"), ("Tablature", 332, "no such reach"), ("Tablature", 109, "no such pitch"), ("Tablature", 123, "two are the same pitch"), ("Tablature", 125, "no such length"), ("Tablature", 322, "no such chord"), ("Tablature", 326, "no such question"), ("Tablature", 339, "no such set of classes"), ("Tablature", 341, "no such bass"), ("Tablature", 343, "no such fret")]
/-- what a throw asks of the state, behind the words -/
def xTS (G : xG) (U : State) (H : Heap) : Prop := (gL G).stackTraces = false ∧ vx_Zq Bundle.tN "UNASSIGNED_STACK" Bundle.steD (xA G) U H ∧ vx_Zq Bundle.tN "SUPPRESSED_SENTINEL" Bundle.listD (xA G) U H ∧ (∀ E ∈ xE3, va_Nw (.castable E E) U) ∧ (∀ E ∈ xDc, va_Nw (.declares (Bundle.initS E)) U) ∧ ∀ q ∈ xStr, ∃ a : Nat, vk_R q.1 q.2.1 q.2.2 a U
theorem xTS.warm {G : xG} {u U : State} {H : Heap} (hW : u.WarmedH U.vm) (h : xTS G u H) : xTS G U H := ⟨h.1, vx_Zq.moved hW.alike h.2.1, vx_Zq.moved hW.alike h.2.2.1, fun E hE => va_Nw.warmC hW (h.2.2.2.1 E hE), fun E hE => va_Nw.warmD hW (h.2.2.2.2.1 E hE), fun q hq => by
  obtain ⟨a, z⟩ := h.2.2.2.2.2 q hq
  exact ⟨a, vk_R.warm hW z⟩⟩
theorem xTS.same {G : xG} {u U : State} {H : Heap} (hv : u.vm = U.vm) (h : xTS G u H) : xTS G U H := ⟨h.1, vx_Zq.moved (hv ▸ Vm.Alike.refl _) h.2.1, vx_Zq.moved (hv ▸ Vm.Alike.refl _) h.2.2.1, fun E hE => va_Nw.same rfl hv (h.2.2.2.1 E hE), fun E hE => va_Nw.same rfl hv (h.2.2.2.2.1 E hE), fun q hq => by
  obtain ⟨a, z⟩ := h.2.2.2.2.2 q hq
  exact ⟨a, vk_R.same hv.symm z⟩⟩
theorem xTS.kept {G : xG} {U : State} {H H1 : Heap} (h : xTS G U H) (hq : ∀ a : Nat, a < H.size → ¬ xA G a → H1[a]? = H[a]?) : xTS G U H1 := ⟨h.1, vx_Zq.kept h.2.1 hq, vx_Zq.kept h.2.2.1 hq, h.2.2.2⟩
def xPt (G : xG) (as : List Value) (h : PH) : Array Value → State → Prop := fun a U => xPc G as h a U ∧ xTS G U U.heap
theorem FrameBlind.xPt {G : xG} {as : List Value} {h : PH} : FrameBlind (xPt G as h) := fun a U g mk q => ⟨FrameBlind.xPc a U g mk q.1, xTS.same (u := U) (U := U.calling g mk a) rfl q.2⟩
def xNo : Array Value → State → Outcome → State → Prop := fun _ _ _ _ => False
def xNx : String → State → State → Prop := fun _ _ _ => False
def xXq (G : xG) (E : String) (h : PH) : String → State → State → Prop := fun E' st t => E' = E ∧ xW G h t.heap ∧ va_F (xA G) st t
/-- the contract of a call that is refused: it throws an E, and nothing has changed -/
def Tn (G : xG) (M : xM) (d mc ms : Nat) (as : List Value) (h : PH) (E : String) : Prop :=
  vx_Met (gL G) M.1 (.code M.1 M.2.1 M.2.2.1 M.2.2.2 :: xWA) (rmd d mc ms) (xPt G as h) xNo (xXq G E h) mc ms (xA G)
def xET (G : xG) (K : xK) (mc ms : Nat) (E : String) (h : PH) : Prop := kq K = vx_MQ (kb K) xNo (xXq G E h) (ka K) (ks K) mc ms (xA G) ∧ (∀ x ∈ (kc K).exceptionTable.toList, False) ∧ xTS G (ks K) (ks K).heap
theorem Tn_of {G : xG} {M : xM} {d mc ms : Nat} {as : List Value} {h : PH} {E : String} (hy : plainName M.1.cls = true) (hn : (lg_sl as).length ≤ M.2.2.1)
    (body : ∀ K : xK, xC G K M.1.cls M.2.1 M.2.2.1 → xGe K d mc ms → xET G K mc ms E h → X G K M.2.2.1 0 (ent as M.2.2.1) [] h 0 0) : Tn G M d mc ms as h E := by
  refine vx_ofW (cc := M.2.1) (maxL := M.2.2.1) (ret := M.2.2.2) hy rfl ?_
  intro p e s m args below meth c s₁ B hml ht hv
  obtain ⟨⟨rfl, hW, hK, hN⟩, hT⟩ := hv
  have hts := atoms_spec (ws := .code M.1 M.2.1 M.2.2.1 M.2.2.2 :: xWA) B.pre
  have hl := lv_entry as (n := M.2.2.1) hn
  rw [lg_entry_eq]
  exact body (p, e, rmd d mc ms, s, m, as.toArray, below, meth, c, vx_MQ below xNo (xXq G E h) as.toArray s mc ms (xA G)) ⟨B.exec, B.bytes, hml, findClass_of_methodNamed B.named, fun w hw => hts w (List.mem_cons_of_mem _ hw), B.notSynchronized, hK, hN⟩ ⟨Nat.le_refl _, Nat.le_refl _, Nat.le_refl _, Nat.le_refl _⟩ ⟨rfl, ht, hT⟩ s.heap [] _ hW va_S.rf (ent_has hl)
/-- a method with handlers that returns -/
def Hn (G : xG) (M : xM) (hh : List (Nat × Nat × Nat × Nat)) (d mc ms : Nat) (as : List Value) (h : PH) (Q : Option Value → PH → Prop) : Prop :=
  vx_Met (gL G) M.1 (.codeWith M.1 M.2.1 M.2.2.1 M.2.2.2 hh :: xWA) (rmd d mc ms) (xPt G as h) (xQc G Q) xNx mc ms (xA G)
def xEH (G : xG) (K : xK) (M : xM) (hh : List (Nat × Nat × Nat × Nat)) (mc ms : Nat) (Q : Option Value → PH → Prop) : Prop :=
  (kt K).sig.returnType = M.2.2.2 ∧ kq K = vx_MQ (kb K) (xQc G Q) xNx (ka K) (ks K) mc ms (xA G) ∧ (kc K).exceptionTable.toList = tableOf hh ∧ xTS G (ks K) (ks K).heap
theorem Hn_of {G : xG} {M : xM} {hh : List (Nat × Nat × Nat × Nat)} {d mc ms : Nat} {as : List Value} {h : PH} {Q : Option Value → PH → Prop} (hy : plainName M.1.cls = true) (hn : (lg_sl as).length ≤ M.2.2.1)
    (body : ∀ K : xK, xC G K M.1.cls M.2.1 M.2.2.1 → xGe K d mc ms → xEH G K M hh mc ms Q → X G K M.2.2.1 0 (ent as M.2.2.1) [] h 0 0) : Hn G M hh d mc ms as h Q := by
  refine vx_ofWH (cc := M.2.1) (maxL := M.2.2.1) (ret := M.2.2.2) (hh := hh) hy rfl ?_
  intro p e s m args below meth c s₁ B hml hv
  obtain ⟨⟨rfl, hW, hK, hN⟩, hT⟩ := hv
  have hts := atoms_spec (ws := .codeWith M.1 M.2.1 M.2.2.1 M.2.2.2 hh :: xWA) B.pre
  have hl := lv_entry as (n := M.2.2.1) hn
  rw [lg_entry_eq]
  exact body (p, e, rmd d mc ms, s, m, as.toArray, below, meth, c, vx_MQ below (xQc G Q) xNx as.toArray s mc ms (xA G)) ⟨B.exec, B.bytes, hml, findClass_of_methodNamed B.named, fun w hw => hts w (List.mem_cons_of_mem _ hw), B.notSynchronized, hK, hN⟩ ⟨Nat.le_refl _, Nat.le_refl _, Nat.le_refl _, Nat.le_refl _⟩ ⟨B.returns, rfl, vx_table (x := M.1) B (hts _ List.mem_cons_self), hT⟩ s.heap [] _ hW va_S.rf (ent_has hl)
section XTH
variable {G : xG} {K : xK} {own : String} {cc : ByteArray} {nL pc : Nat} {ls : List (Option Value)} {st stk : List Value} {h : PH} {cells slots : Nat}
theorem x_pret (C : xC G K own cc nL) (T : xTS G (ks K) (ks K).heap) {H : Heap} {locs : List Loc} {as : List Value} (hW : xW G h H) (hS : va_S (xA G) (ks K).heap H locs) : ∀ U : State, U.heap = H → (ks K).WarmedH U.vm → xPt G as h as.toArray U := fun U hU hw => ⟨x_pre C hW hS U hU hw, by rw [hU]; exact (T.kept (fun a h1 h2 => hS.2.1 a h1 h2)).warm hw⟩
theorem xt_back {mc ms : Nat} {E : String} {H : Heap} {locs : List Loc} {lsA : Array Slot} (C : xC G K own cc nL) (hS : va_S (xA G) (ks K).heap H locs) {a : Array Value}
    (hr : vx_Run (kp K) (gL G) (ke K) (kR K) (ks K) (km K) (ka K) (kb K) (kt K) (kc K) H locs cells slots mc ms (F0 (km K) pc lsA stk) st (xNo a) (xXq G E h) (xA G))
    (k : ∀ (H1 : Heap) (locs1 : List Loc) (q : Nat) (ce : Cell), xW G h H1 → va_S (xA G) (ks K).heap H1 locs1 → H1[q]? = some ce → ce.vm = .none → (ks K).vm.findClass E = some ce.cls → vx_W (kp K) (gL G) (ke K) (kR K) (ks K) (km K) (ka K) (kb K) (kt K) (kc K) H1 locs1 (cells + mc) (slots + ms) (kq K) (F0 (km K) pc lsA st) q) : W (kp K) (gL G) (ke K) (kR K) (ks K) (km K) (ka K) (kb K) (kt K) (kc K) H locs cells slots (kq K) (F0 (km K) pc lsA stk) := by
  intro T hT X0
  rcases hr T hT X0 with ⟨v, st₀, t, T', L, h0, X', hL, e1, e2, hf, step⟩ | ⟨q, st₀, t, T', L, E', ce, h0, X', hL, e1, e2, ⟨rfl, hw, hz, hk⟩, hce, hcv, hcl, step⟩
  · exact False.elim hf
  · rw [h0] at hz hk
    obtain ⟨t2, a1, b1⟩ := k t.heap (locs ++ L) q ce hw ⟨Nat.le_trans hS.1 hz, fun q h1 h2 => by rw [hk q (Nat.lt_of_lt_of_le h1 hS.1) h2]; exact hS.2.1 q h1 h2, fun q hq2 => by
        rcases List.mem_append.mp hq2 with hh | hh
        · exact hS.2.2 q hh
        · exact hL q hh⟩ hce hcv hcl T' e1 X'
    exact ⟨t2, step.trans a1, b1⟩
/-- out of a method without handlers -/
theorem xt_out {mc ms mc0 ms0 : Nat} {E : String} (C : xC G K own cc nL) (ET : xET G K mc0 ms0 E h) (hc : cells + mc ≤ mc0) (hs : slots + ms ≤ ms0) {lsA : Array Slot} : ∀ (H1 : Heap) (locs1 : List Loc) (q : Nat) (ce : Cell), xW G h H1 → va_S (xA G) (ks K).heap H1 locs1 → H1[q]? = some ce → ce.vm = .none → (ks K).vm.findClass E = some ce.cls → vx_W (kp K) (gL G) (ke K) (kR K) (ks K) (km K) (ka K) (kb K) (kt K) (kc K) H1 locs1 (cells + mc) (slots + ms) (kq K) (F0 (km K) pc lsA st) q := fun H1 locs1 q ce hw hS1 hce hcv hcl => by
  rw [ET.1]
  exact vx_out (fun x hx => (ET.2.1 x hx).elim) C.2.2.2.2.2.1 hce hcv hcl (fun t ht _ => ⟨rfl, by rw [ht]; exact hw, hS1.F ht⟩) hS1.2.2 hc hs
theorem xt_runV (C : xC G K own cc nL) (T : xTS G (ks K) (ks K).heap) {idx n ci : Nat} {M : xM} (S : xVi own idx ci M n) {d mc ms b : Nat} {E : String} {fs : List Value} {as : List Value} (hM : Tn G M d mc ms (.ref b :: as) h E) (hb : h b = xO ci fs) (hn : as.length = n) (hst : as.reverse ++ .ref b :: st = stk) (hcat : (st.map fun v => v.category).sum ≤ 8) (hR : xRm K M d mc ms cells slots) (hd : decode cc pc = .ok (.invokevirtual idx, 3)) {H : Heap} {locs : List Loc} {lsA : Array Slot} (hW : xW G h H) (hS : va_S (xA G) (ks K).heap H locs) (hV : xV lsA nL ls) :
    vx_Run (kp K) (gL G) (ke K) (kR K) (ks K) (km K) (ka K) (kb K) (kt K) (kc K) H locs cells slots mc ms (F0 (km K) pc lsA stk) st (xNo (Value.ref b :: as).toArray) (xXq G E h) (xA G) := by
  obtain ⟨⟨s1, s2, s3, s4⟩, s5, s6, s7, T9, N, s8⟩ := S
  obtain ⟨ws, r, hP, hD⟩ := id hW
  obtain ⟨q, hq⟩ := r.2 b _ hb
  refine vx_runV (n := n) (C := M.1.cls) (As := as) (rest := st) ⟨C.1, C.2.1, C.2.2.1, C.2.2.2.1, C.2.2.2.2.1⟩ hM (cwV n C.2.2.2.2.1 (good_xWA (fun w hw => ?_)) rfl rfl rfl ⟨rfl, s3.1, s3.2, s4⟩ hR.1) ⟨FrameBlind.xPt, va_recv C.hK hP s8 hq, x_pret C T hW hS⟩ rfl hn hV.1 hst.symm (lv_room hcat) hd hR.2
  unfold wsV at hw
  rcases List.mem_append.mp hw with q | q
  · simp only [List.mem_cons, List.not_mem_nil, or_false] at q
    rcases q with rfl | rfl | rfl | rfl
    · exact s5
    · exact s6
    · exact s7
    · exact s2
  · exact ws_xWA s1 w q
theorem xt_runS (C : xC G K own cc nL) (T : xTS G (ks K) (ks K).heap) {idx n : Nat} {M : xM} (S : xS own idx M n) {d mc ms : Nat} {E : String} {as : List Value} (hM : Tn G M d mc ms as h E) (hn : as.length = n) (hst : as.reverse ++ st = stk) (hcat : (st.map fun v => v.category).sum ≤ 8) (hR : xRm K M d mc ms cells slots) (hd : decode cc pc = .ok (.invokestatic idx, 3)) {H : Heap} {locs : List Loc} {lsA : Array Slot} (hW : xW G h H) (hS : va_S (xA G) (ks K).heap H locs) (hV : xV lsA nL ls) :
    vx_Run (kp K) (gL G) (ke K) (kR K) (ks K) (km K) (ka K) (kb K) (kt K) (kc K) H locs cells slots mc ms (F0 (km K) pc lsA stk) st (xNo as.toArray) (xXq G E h) (xA G) := by
  obtain ⟨⟨s1, s2, s3, s4⟩, s5, s6⟩ := S
  refine vx_runS (n := n) (As := as) (rest := st) ⟨C.1, C.2.1, C.2.2.1, C.2.2.2.1, C.2.2.2.2.1⟩ hM (va_cwS n C.2.2.2.2.1 (good_xWA (fun w hw => ?_)) rfl rfl rfl ⟨s3.1, s3.2, s4⟩ hR.1) ⟨FrameBlind.xPt, x_pret C T hW hS⟩ rfl hn hV.1 hst.symm (lv_room hcat) hd hR.2
  unfold va_wsS at hw
  rcases List.mem_append.mp hw with q | q
  · simp only [List.mem_cons, List.not_mem_nil, or_false] at q
    rcases q with rfl | rfl | rfl
    · exact s5
    · exact s6
    · exact s2
  · exact ws_xWA s1 w q
/-- a refused call in a method without handlers: it is refused too -/
theorem xt_invV {mc0 ms0 : Nat} {E : String} (C : xC G K own cc nL) (ET : xET G K mc0 ms0 E h) {idx n ci : Nat} {M : xM} (S : xVi own idx ci M n) {d mc ms b : Nat} {fs : List Value} {as : List Value} (hM : Tn G M d mc ms (.ref b :: as) h E) (hb : h b = xO ci fs) (hn : as.length = n) (hst : as.reverse ++ .ref b :: st = stk) (hcat : (st.map fun v => v.category).sum ≤ 8) (hR : xRm K M d mc ms cells slots) (hd : decode cc pc = .ok (.invokevirtual idx, 3)) (hc : cells + mc ≤ mc0) (hs : slots + ms ≤ ms0) : X G K nL pc ls stk h cells slots := fun _ _ _ hW hS hV =>
  xt_back C hS (xt_runV C ET.2.2 S hM hb hn hst hcat hR hd hW hS hV) (xt_out C ET hc hs)
theorem xt_invS {mc0 ms0 : Nat} {E : String} (C : xC G K own cc nL) (ET : xET G K mc0 ms0 E h) {idx n : Nat} {M : xM} (S : xS own idx M n) {d mc ms : Nat} {as : List Value} (hM : Tn G M d mc ms as h E) (hn : as.length = n) (hst : as.reverse ++ st = stk) (hcat : (st.map fun v => v.category).sum ≤ 8) (hR : xRm K M d mc ms cells slots) (hd : decode cc pc = .ok (.invokestatic idx, 3)) (hc : cells + mc ≤ mc0) (hs : slots + ms ≤ ms0) : X G K nL pc ls stk h cells slots := fun _ _ _ hW hS hV =>
  xt_back C hS (xt_runS C ET.2.2 S hM hn hst hcat hR hd hW hS hV) (xt_out C ET hc hs)
/-- a refused call in a method whose first row of handlers takes it -/
theorem xh_invV {mc0 ms0 : Nat} {E : String} {MH : xM} {hh : List (Nat × Nat × Nat × Nat)} {Q : Option Value → PH → Prop} (C : xC G K own cc nL) (EH : xEH G K MH hh mc0 ms0 Q) {idx n ci : Nat} {M : xM} (S : xVi own idx ci M n) {d mc ms b : Nat} {fs : List Value} {as : List Value} (hM : Tn G M d mc ms (.ref b :: as) h E) (hb : h b = xO ci fs) (hn : as.length = n) (hst : as.reverse ++ .ref b :: st = stk) (hcat : (st.map fun v => v.category).sum ≤ 8) (hR : xRm K M d mc ms cells slots) (hd : decode cc pc = .ok (.invokevirtual idx, 3))
    {x : ExceptionTableEntry} {suf : List ExceptionTableEntry} (hsp : tableOf hh = x :: suf) (hx : covers x pc = true) (h0 : x.catchType ≠ 0) (hl : Cond.classLink own x.catchType E ∈ xWA) (hE : E ∈ xE3) (k : ∀ q : Nat, X G K nL x.handlerPc ls [.ref q] h (cells + mc) (slots + ms)) : X G K nL pc ls stk h cells slots := fun H locs lsA hW hS hV =>
  xt_back C hS (xt_runV C EH.2.2.2 S hM hb hn hst hcat hR hd hW hS hV) (fun H1 locs1 q ce hw hS1 hce hcv hcl => vx_catch C.2.2.2.1 [] x suf (EH.2.2.1.trans hsp) (fun _ hz => nomatch hz) hx h0 (C.2.2.2.2.1 _ hl) (va_Nw.use rfl (EH.2.2.2.2.2.2.1 E hE)) hce hcv hcl (k q H1 locs1 lsA hw hS1 hV))
theorem xh_iret (C : xC G K own cc nL) {M : xM} {hh : List (Nat × Nat × Nat × Nat)} {mc ms : Nat} {Q : Option Value → PH → Prop} (EH : xEH G K M hh mc ms Q) (hr : M.2.2.2 = some .int) (hc : cells ≤ mc) (hs : slots ≤ ms) {x : Int32} (hd : decode cc pc = .ok (.ireturn, 1)) (hq : Q (some (.int x)) h) : X G K nL pc ls [.int x] h cells slots := fun H locs lsA hW hS hV => by
  obtain ⟨e1, e3, -, -⟩ := EH
  rw [e3]
  refine W.widen hc hs (vx_ret ?_)
  exact W.iret (hlocks := C.2.2.2.2.2.1) C.1 C.2.1 (e1.trans hr) (fun t ht hw => ⟨⟨_, h, rfl, hq, by rw [ht]; exact hW⟩, hS.F ht⟩) hS.2.2 hd
/-- a method with handlers is called -/
def xSH (own : String) (idx : Nat) (M : xM) (hh : List (Nat × Nat × Nat × Nat)) (n : Nat) : Prop := (Cond.codeWith M.1 M.2.1 M.2.2.1 M.2.2.2 hh ∈ xWA ∧ Cond.initialized M.1.cls ∈ xWA ∧ (M.1.cls ≠ "java/lang/invoke/MethodHandle" ∧ M.1.cls ≠ "java/lang/invoke/VarHandle") ∧ (parseMethodDescriptor M.1.desc).map (fun d => d.parameters.length) = some n) ∧ Cond.methodLink own idx M.1 ∈ xWA ∧ Cond.static M.1 ∈ xWA
theorem x_invSH (C : xC G K own cc nL) (T : xTS G (ks K) (ks K).heap) {idx n : Nat} {M : xM} {hh : List (Nat × Nat × Nat × Nat)} (S : xSH own idx M hh n) {d mc ms : Nat} {as : List Value} {Q : Option Value → PH → Prop} (hM : Hn G M hh d mc ms as h Q) (hn : as.length = n) (hst : as.reverse ++ st = stk) (hcat : (st.map fun v => v.category).sum ≤ 8) (hR : xRm K M d mc ms cells slots) (hd : decode cc pc = .ok (.invokestatic idx, 3))
    (k : ∀ (r : Option Value) (h' : PH), Q r h' → X G K nL (pc + 3) ls (psh r st) h' (cells + mc) (slots + ms)) : X G K nL pc ls stk h cells slots := fun H locs lsA hW hS hV => by
  obtain ⟨⟨s1, s2, s3, s4⟩, s5, s6⟩ := S
  have hr : vx_Run (kp K) (gL G) (ke K) (kR K) (ks K) (km K) (ka K) (kb K) (kt K) (kc K) H locs cells slots mc ms (F0 (km K) pc lsA stk) st (xQc G Q as.toArray) xNx (xA G) := vx_runSX (n := n) (hh := hh) (As := as) (rest := st) ⟨C.1, C.2.1, C.2.2.1, C.2.2.2.1, C.2.2.2.2.1⟩ hM (vx_cwSW (hh := hh) n C.2.2.2.2.1 (good_xWA (fun w hw => by
    unfold va_wsS at hw
    rcases List.mem_append.mp hw with q | q
    · simp only [List.mem_cons, List.not_mem_nil, or_false] at q
      rcases q with rfl | rfl | rfl
      · exact s5
      · exact s6
      · exact s2
    · rcases List.mem_cons.mp q with q | q
      · rw [q]; exact s1
      · exact q)) rfl rfl rfl ⟨s3.1, s3.2, s4⟩ hR.1) ⟨FrameBlind.xPt, x_pret C T hW hS⟩ rfl hn hV.1 hst.symm (lv_room hcat) hd hR.2
  refine x_back C hS hV (a := as.toArray) (mc := mc) (ms := ms) (Q := Q) (st := st) (fun T9 hT9 X9 => ?_) k
  rcases hr T9 hT9 X9 with q | ⟨q, st₀, t, T', L, E', ce, h0, X', hL, e1, e2, hf, -⟩
  · exact q
  · exact False.elim hf
/-- throw new E(text), the text by a wide index or by a narrow one -/
theorem x_thrW {mc0 ms0 : Nat} {E text : String} {ik is ic d : Nat} (C : xC G K own cc nL) (ET : xET G K mc0 ms0 E h) (hfit : Bundle.fit E = true) (w1 : Cond.classLink own ik E ∈ xWA) (w2 : Cond.initialized E ∈ xWA) (w3 : (own, is, text) ∈ xStr) (w4 : ∀ w ∈ (vx_atS own ic E ["java/lang/RuntimeException", "java/lang/Exception"]).filter goodWord, w ∈ xWA) (w5 : ∀ w ∈ (vx_atS own ic E ["java/lang/RuntimeException", "java/lang/Exception"]).filter (fun w => !goodWord w), w ∈ xNG E) (hE : E ∈ xE3) (hcat : (st.map fun v => v.category).sum ≤ 8) (hR : xGe K d mc0 ms0) (hd : 6 ≤ d) (hc : cells + 1 ≤ mc0) (hs : slots + 6 ≤ ms0)
    (d0 : decode cc pc = .ok (.new ik, 3)) (d3 : decode cc (pc + 3) = .ok (.dup, 1)) (d4 : decode cc (pc + 4) = .ok (.ldc_w is, 3)) (d7 : decode cc (pc + 7) = .ok (.invokespecial ic, 3)) (d10 : decode cc (pc + 10) = .ok (.athrow, 1)) : X G K nL pc ls st h cells slots := fun H locs lsA hW hS hV => by
  obtain ⟨e1, e2, T⟩ := ET
  obtain ⟨sa, hsa⟩ := T.2.2.2.2.2 _ w3
  rw [e1]
  have hnot : ∀ w ∈ xNG E, w.before (ka K) (ks K) = true := fun w hw => by
    rcases List.mem_cons.mp hw with q | q
    · rw [q]; exact va_Nw.use rfl (T.2.2.2.1 E hE)
    · obtain ⟨D, hD, rfl⟩ := List.mem_map.mp q
      exact va_Nw.use rfl (T.2.2.2.2.1 D hD)
  obtain ⟨r1, r2, r3, r4⟩ := hR
  refine vx_throwSW (names := ["java/lang/RuntimeException", "java/lang/Exception"]) (A := xA G) C.1 C.2.1 T.1 C.2.2.2.1 hfit (by decide +kernel) (C.2.2.2.2.1 _ w1) (C.2.2.2.2.1 _ w2) hsa (vx_hat (fun w hw => C.2.2.2.2.1 _ (w4 w hw)) w5 hnot) ?_ T.2.1 T.2.2.1 hS (hV.1.trans C.2.2.1.symm) d0 d3 d4 d7 d10 (fun x hx => (e2 x hx).elim) (by show 2 + 3 < _; omega) (by show _ + (13 * (2 + 1) + 43) ≤ _; omega) (by omega) (by omega) C.2.2.2.2.2.1 (fun t _ hz hk => ⟨rfl, ?_, ?_⟩) hS.2.2 hc hs
  · intro w hw
    unfold vx_ot
    rcases List.mem_cons.mp hw with q | hw
    · rw [q]; rfl
    · rcases List.mem_cons.mp hw with q | hw
      · rw [q]; rfl
      · by_cases g : goodWord w = true
        · rw [g, Bool.or_true]
        · have := w5 w (List.mem_filter.mpr ⟨hw, by cases q9 : goodWord w; rfl; exact absurd q9 g⟩)
          rcases List.mem_cons.mp this with q | q
          · rw [q]; rfl
          · obtain ⟨D, hD, rfl⟩ := List.mem_map.mp q
            rfl
  · obtain ⟨ws, r, hP, hD⟩ := hW
    exact ⟨ws, r, hP.kept (fun k q hq => hk q.1 ((hP k q hq).lt)), hD⟩
  · exact ⟨Nat.le_trans hS.1 hz, fun q h1 h2 => (hk q (Nat.lt_of_lt_of_le h1 hS.1)).trans (hS.2.1 q h1 h2)⟩
theorem x_thrN {mc0 ms0 : Nat} {E text : String} {ik is ic d : Nat} (C : xC G K own cc nL) (ET : xET G K mc0 ms0 E h) (hfit : Bundle.fit E = true) (w1 : Cond.classLink own ik E ∈ xWA) (w2 : Cond.initialized E ∈ xWA) (w3 : (own, is, text) ∈ xStr) (w4 : ∀ w ∈ (vx_atS own ic E ["java/lang/RuntimeException", "java/lang/Exception"]).filter goodWord, w ∈ xWA) (w5 : ∀ w ∈ (vx_atS own ic E ["java/lang/RuntimeException", "java/lang/Exception"]).filter (fun w => !goodWord w), w ∈ xNG E) (hE : E ∈ xE3) (hcat : (st.map fun v => v.category).sum ≤ 8) (hR : xGe K d mc0 ms0) (hd : 6 ≤ d) (hc : cells + 1 ≤ mc0) (hs : slots + 6 ≤ ms0)
    (d0 : decode cc pc = .ok (.new ik, 3)) (d3 : decode cc (pc + 3) = .ok (.dup, 1)) (d4 : decode cc (pc + 4) = .ok (.ldc is, 2)) (d7 : decode cc (pc + 6) = .ok (.invokespecial ic, 3)) (d10 : decode cc (pc + 9) = .ok (.athrow, 1)) : X G K nL pc ls st h cells slots := fun H locs lsA hW hS hV => by
  obtain ⟨e1, e2, T⟩ := ET
  obtain ⟨sa, hsa⟩ := T.2.2.2.2.2 _ w3
  rw [e1]
  have hnot : ∀ w ∈ xNG E, w.before (ka K) (ks K) = true := fun w hw => by
    rcases List.mem_cons.mp hw with q | q
    · rw [q]; exact va_Nw.use rfl (T.2.2.2.1 E hE)
    · obtain ⟨D, hD, rfl⟩ := List.mem_map.mp q
      exact va_Nw.use rfl (T.2.2.2.2.1 D hD)
  obtain ⟨r1, r2, r3, r4⟩ := hR
  refine vx_throwS (names := ["java/lang/RuntimeException", "java/lang/Exception"]) (A := xA G) C.1 C.2.1 T.1 C.2.2.2.1 hfit (by decide +kernel) (C.2.2.2.2.1 _ w1) (C.2.2.2.2.1 _ w2) hsa (vx_hat (fun w hw => C.2.2.2.2.1 _ (w4 w hw)) w5 hnot) ?_ T.2.1 T.2.2.1 hS (hV.1.trans C.2.2.1.symm) d0 d3 d4 d7 d10 (fun x hx => (e2 x hx).elim) (by show 2 + 3 < _; omega) (by show _ + (13 * (2 + 1) + 43) ≤ _; omega) (by omega) (by omega) C.2.2.2.2.2.1 (fun t _ hz hk => ⟨rfl, ?_, ?_⟩) hS.2.2 hc hs
  · intro w hw
    unfold vx_ot
    rcases List.mem_cons.mp hw with q | hw
    · rw [q]; rfl
    · rcases List.mem_cons.mp hw with q | hw
      · rw [q]; rfl
      · by_cases g : goodWord w = true
        · rw [g, Bool.or_true]
        · have := w5 w (List.mem_filter.mpr ⟨hw, by cases q9 : goodWord w; rfl; exact absurd q9 g⟩)
          rcases List.mem_cons.mp this with q | q
          · rw [q]; rfl
          · obtain ⟨D, hD, rfl⟩ := List.mem_map.mp q
            rfl
  · obtain ⟨ws, r, hP, hD⟩ := hW
    exact ⟨ws, r, hP.kept (fun k q hq => hk q.1 ((hP k q hq).lt)), hD⟩
  · exact ⟨Nat.le_trans hS.1 hz, fun q h1 h2 => (hk q (Nat.lt_of_lt_of_le h1 hS.1)).trans (hS.2.1 q h1 h2)⟩
end XTH
