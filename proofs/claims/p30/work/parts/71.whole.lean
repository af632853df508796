/-! THE CLAIM OUT OF ONE WALK OF THE LAW'S BODY. Your part is whole_start (and what it stands on); all else here is the same for every law, but numbers. -/
def R_law : String := "TablatureLaw"
def lw_P (b : Addr) (xs : List Int32) (args : Array Value) (s : State) : Prop := args = #[.ref b] ∧ s.IntsAt b xs ∧ xs.length ≤ 260 ∧ (Jvm.Cond.and given_1 narrow_1).before args s = true
def lw_Q (_ : Array Value) (s : State) (o : Outcome) (t : State) : Prop := o = .returned (some (.int 1)) ∧ Framed s o t [] (Room.cells room_1) (Room.slots room_1)
def lw_Z (below : List Frame) (a : Array Value) (s : State) : State → Prop := fun t => ∃ o, t.status = .running ∧ Ended t below o ∧ lw_Q a s o t
/-- the law's own end, with 1 on the stack, nothing written that was there before, its room as the claim has it -/
theorem lw_ret {p : Program} {l : Launch} {e : Env} {s : State} {m : MethodId} {below : List Frame} {meth : Method} {c : Code} {b : Nat} (hx : p.tables.exec = Jvm.exec) (hb : c.code = code) (hr : meth.sig.returnType = ret) (hlocks : meth.locks = false) {pc : Nat} {H : Heap} {ls : Array Slot} (hdg : decode code pc = .ok (.ireturn, 1)) : W p l e room_1 s m #[Value.ref b] below meth c H [] (Room.cells room_1) (Room.slots room_1) (lw_Z below #[Value.ref b] s) (F0 m pc ls [.int 1]) := by
  intro T hT X
  obtain ⟨fs, hret, hrun, hended, hW, hframe⟩ := X.leave (v := some (.int 1)) (hlocks := hlocks) (fun h => by rw [hr] at h; cases h)
  have hmeth' : T.vm.method? m = some meth := X.method'
  refine ⟨T.setFrames fs, ?_, .returned (some (.int 1)), hrun, hended, rfl, ⟨_, rfl⟩, hW, hframe⟩
  jvm_step X.here [X.here.top, hx, hb, hdg, hmeth', hr, ret, narrow_b1]
  (try refine ⟨rfl, ?_⟩); (try refine ⟨rfl, ?_⟩)
  first | (intro acts; rw [hret _ acts rfl rfl rfl]) | rw [hret _ _ rfl rfl rfl]
  exact Steps.refl _
/-- what holds at the law's entry: the machine, the code, the tables' words (any of lw_tbl by 'hts w (by decide +kernel)'), the script of L ints xs at the cell b, what the Statement gives of the start (any of its parts by flat_of_before) -/
def lw_At (p : Program) (s : State) (m : MethodId) (meth : Method) (c : Code) (b L : Nat) (xs : Nat → Int32) : Prop :=
  p.tables.exec = Jvm.exec ∧ c.code = code ∧ meth.sig.returnType = ret ∧ c.maxLocals = 23 ∧ s.vm.findClass R_law = some m.cls ∧ (∀ w ∈ lw_tbl, w.before #[Value.ref b] s = true) ∧ va_X b L xs s s.heap ∧ b < s.heap.size ∧ meth.locks = false ∧ (Jvm.Cond.and given_1 narrow_1).before #[Value.ref b] s = true
theorem wm1 {w : Cond} (i : Nat) (h : tables_1_1[i]? = some w) : w ∈ lw_tbl := List.mem_append_right _ (show w ∈ tables_1 from List.mem_append_left _ (List.mem_of_getElem? h))
theorem wm2 {w : Cond} (i : Nat) (h : tables_1_2[i]? = some w) : w ∈ lw_tbl := List.mem_append_right _ (show w ∈ tables_1 from List.mem_append_right _ (List.mem_append_left _ (List.mem_of_getElem? h)))
theorem wm3 {w : Cond} (i : Nat) (h : tables_1_3[i]? = some w) : w ∈ lw_tbl := List.mem_append_right _ (show w ∈ tables_1 from List.mem_append_right _ (List.mem_append_right _ (List.mem_append_left _ (List.mem_of_getElem? h))))
theorem wm4 {w : Cond} (i : Nat) (h : tables_1_4[i]? = some w) : w ∈ lw_tbl := List.mem_append_right _ (show w ∈ tables_1 from List.mem_append_right _ (List.mem_append_right _ (List.mem_append_right _ (List.mem_of_getElem? h))))
theorem xa_prim {s : State} {args : Array Value} {ty : FieldType} (h : (Cond.arrayClass ty).before args s = true) (hp : ∀ n, ty ≠ .object n) : ∃ c, ArrOfT s c ty ∧ va_RA s c ty := by
  obtain ⟨c, k, comp, h1, h2, h3⟩ := Cond.arrayClass_spec h
  refine ⟨c, fun n z => ⟨fun k h => (by cases h), k, h2, comp, h3⟩, ?_⟩
  cases ty <;> first | exact h1 | exact absurd rfl (hp _)
theorem xa_obj {s : State} {args : Array Value} {E : String} (h : (Cond.arrayOver (.object E)).before args s = true) : ∃ c, ArrOfT s c (.object E) ∧ va_RA s c (.object E) := by
  obtain ⟨comp, c, k, h1, h2, h3, h4, h5⟩ := Cond.arrayOver_spec h
  exact ⟨c, fun n z => ⟨fun k h => (by cases h), k, h3, comp, h4⟩, k, comp, h3, h4, h1, h5⟩
theorem xa_arr {s : State} {args : Array Value} {t : FieldType} (h : (Cond.arrayOver (.array t)).before args s = true) : ∃ (c : ClassId) (k : Class) (comp : ClassId), ArrOfT s c (.array t) ∧ va_RA s c (.array t) ∧ s.vm.classes[c]? = some k ∧ k.kind = .array comp (.array t) ∧ s.vm.findClass (FieldType.array t).toString = some comp := by
  obtain ⟨comp, c, k, h1, h2, h3, h4, h5⟩ := arrayOverA_spec h
  exact ⟨c, k, comp, fun n z => ⟨fun k h => (by cases h), k, h3, comp, h4⟩, h5, h3, h4, h1⟩
/-- the classes and array classes at the start -/
theorem law_G {s : State} {args : Array Value} (hts : ∀ w ∈ lw_tbl, w.before args s = true) (l : Launch) (N : Nat) : ∃ (D : va_G) (cs : Nat → ClassId), xKX (D, cs, N, l) s := by
  obtain ⟨k0, i0, hK0⟩ := u_known (C := RX0) (T := TX0) (N := 4) (n := 4) hts (fun w hw => (in_RX0 w hw).1) (hts _ (wm3 17 rfl))
  obtain ⟨k1, i1, hK1⟩ := u_known (C := RX2) (T := TX2) (N := 4) (n := 4) hts (fun w hw => (in_RX2 w hw).1) (hts _ (wm3 98 rfl))
  obtain ⟨k2, i2, hK2⟩ := u_known (C := RX3) (T := TX3) (N := 8) (n := 8) hts (fun w hw => (in_RX3 w hw).1) (hts _ (wm1 171 rfl))
  obtain ⟨k3, i3, hK3⟩ := u_known (C := RX4) (T := TX4) (N := 5) (n := 5) hts (fun w hw => (in_RX4 w hw).1) (hts _ (wm2 218 rfl))
  obtain ⟨k4, i4, hK4⟩ := u_known (C := RX5) (T := TX5) (N := 2) (n := 2) hts (fun w hw => (in_RX5 w hw).1) (hts _ (wm3 10 rfl))
  obtain ⟨k5, i5, hK5⟩ := u_known (C := RX6) (T := TX6) (N := 8) (n := 8) hts (fun w hw => (in_RX6 w hw).1) (hts _ (wm1 229 rfl))
  obtain ⟨k6, i6, hK6⟩ := u_known (C := RX7) (T := TX7) (N := 8) (n := 8) hts (fun w hw => (in_RX7 w hw).1) (hts _ (wm2 121 rfl))
  obtain ⟨k7, i7, hK7⟩ := u_known (C := RX8) (T := TX8) (N := 8) (n := 8) hts (fun w hw => (in_RX8 w hw).1) (hts _ (wm1 27 rfl))
  obtain ⟨k8, i8, hK8⟩ := u_known (C := RX9) (T := TX9) (N := 11) (n := 11) hts (fun w hw => (in_RX9 w hw).1) (hts _ (wm2 207 rfl))
  obtain ⟨c0, e0, f0⟩ := xa_prim (hts _ (wm3 7 rfl)) (fun n h => by cases h)
  obtain ⟨c1, e1, f1⟩ := xa_prim (hts _ (wm3 8 rfl)) (fun n h => by cases h)
  obtain ⟨c2, e2, f2⟩ := xa_prim (hts _ (wm1 98 rfl)) (fun n h => by cases h)
  obtain ⟨c3, kA, comp, e3, f3, kA1, kA2, kA3⟩ := xa_arr (t := .int) (hts _ (wm3 61 rfl))
  obtain ⟨c4, e4, f4⟩ := xa_obj (E := "Tablature$Chord") (hts _ (wm3 16 rfl))
  obtain ⟨c5, e5, f5⟩ := xa_obj (E := "Tablature$Grips") (hts _ (wm3 59 rfl))
  have ec : comp = c0 := Option.some.inj (kA3.symm.trans f0)
  subst ec
  refine ⟨(fun k => [k0, k1, k2, k3, k4, k5, k6, k7, k8].getD k k0, fun k => [i0, i1, i2, i3, i4, i5, i6, i7, i8].getD k i0), fun t => [comp, c1, c2, c3, c4, c5].getD t comp, ⟨?_, ?_⟩, ⟨kA, kA1, kA2⟩, ?_, ?_⟩
  · intro k q hq
    match k, hq with
    | 0, hq => cases hq; exact hK0
    | 1, hq => cases hq; exact hK1
    | 2, hq => cases hq; exact hK2
    | 3, hq => cases hq; exact hK3
    | 4, hq => cases hq; exact hK4
    | 5, hq => cases hq; exact hK5
    | 6, hq => cases hq; exact hK6
    | 7, hq => cases hq; exact hK7
    | 8, hq => cases hq; exact hK8
    | k + 9, hq => simp [vwCl] at hq
  · intro k q hq
    match k, hq with
    | 0, hq => cases hq; exact ⟨e0, f0⟩
    | 1, hq => cases hq; exact ⟨e1, f1⟩
    | 2, hq => cases hq; exact ⟨e2, f2⟩
    | 3, hq => cases hq; exact ⟨e3, f3⟩
    | 4, hq => cases hq; exact ⟨e4, f4⟩
    | 5, hq => cases hq; exact ⟨e5, f5⟩
    | k + 6, hq => exact absurd (List.getElem?_eq_some_iff.mp hq).1 (by show ¬ k + 6 < 6; omega)
  · intro q hq
    simp only [xNW, List.mem_cons, List.not_mem_nil, or_false] at hq
    rcases hq with rfl | rfl | rfl | rfl | rfl | rfl | rfl | rfl | rfl
    · exact va_Nw.of rfl (hts _ (wm2 219 rfl))
    · exact va_Nw.of rfl (hts _ (wm3 18 rfl))
    · exact va_Nw.of rfl (hts _ (wm3 63 rfl))
    · exact va_Nw.of rfl (hts _ (wm3 99 rfl))
    · exact va_Nw.of rfl (hts _ (wm3 153 rfl))
    · exact va_Nw.of rfl (hts _ (wm3 158 rfl))
    · exact va_Nw.of rfl (hts _ (wm3 187 rfl))
    · exact va_Nw.of rfl (hts _ (wm4 16 rfl))
    · exact va_Nw.of rfl (hts _ (wm4 20 rfl))
  · intro t ht
    simp only [xAOs, List.mem_cons, List.not_mem_nil, or_false] at ht
    rcases ht with rfl | rfl | rfl
    · exact hts _ (wm3 16 rfl)
    · exact hts _ (wm3 59 rfl)
    · exact hts _ (wm3 61 rfl)
set_option maxRecDepth 100000 in
set_option maxHeartbeats 4000000 in
theorem law_main {G : xG} {K : xK} {b L mc ms : Nat} {xs : Nat → Int32} (C : xC G K "TablatureLaw" code 23) (hR : xGe K 60 mc ms) (hX : va_X b L xs (ks K) (ks K).heap) (hbl : b < gN G) (hL : L ≤ 260) (hmc : 40000 ≤ mc) (hms : 300000 ≤ ms) (ret : ∀ (ls : List (Option Value)) (h' : PH) (c9 s9 : Nat), c9 ≤ mc → s9 ≤ ms → X G K 23 1143 ls [] h' c9 s9) (h : PH)  : X G K 23 0 [some (.ref b), none, none, none, none, none, none, none, none, none, none, none, none, none, none, none, none, none, none, none, none, none, none] [] h 0 0 := by
  refine x_iconst C dL_law_0 ?_
  refine x_istore_n C (ls' := [some (.ref b), some (vi 0), none, none, none, none, none, none, none, none, none, none, none, none, none, none, none, none, none, none, none, none, none]) dL_law_1 rfl (by decide) rfl ?_
  have L2 : ∀ (n0 : Nat) (t : Nat) (hp : PH) (c8 : Nat) (s8 : Nat), 3 - t < n0 → (t ≤ 3) → (c8 ≤ 11000 * t) → (s8 ≤ 73000 * t) → X G K 23 2 [some (.ref b), some (vi (t : Int)), none, none, none, none, none, none, none, none, none, none, none, none, none, none, none, none, none, none, none, none, none] [] hp c8 s8 := by
    intro n0
    induction n0 with
    | zero => intro t hp c8 s8 hm; exact absurd hm (Nat.not_lt_zero _)
    | succ n0 ih_L2 =>
      intro t hp c8 s8 hm i1 r1 r2
      refine x_iload_n C dL_law_2 rfl rfl ?_
      refine x_iconst C dL_law_3 ?_
      refine x_icmp_ge C (tgt := 1143) dL_law_4 (by decide) ⟨by omega, by omega⟩ (by decide) (fun c4 => ?_) (fun c4 => ?_)
      · skip
        exact ret _ _ _ _ (by omega) (by omega)
      · skip
        refine x_new C n_Law_9 hR (by omega) (by omega) dL_law_7 (fun q zq => ?_)
        refine x_dup C dL_law_10 rfl ?_
        refine x_aload_n C dL_law_11 rfl rfl ?_
        refine x_bipush C (z := 31) dL_law_12 (by decide) ?_
        refine x_iload_n C dL_law_14 rfl rfl ?_
        refine x_imul C dL_law_15 ?_
        refine x_bipush C (z := 7) dL_law_16 (by decide) ?_
        refine x_iadd C dL_law_18 ?_
        refine x_invI C s_Law_11 (st := [.ref q]) (c_N_init (a := q) (b := b) (up_s (f := hp)) (t := ((31 * (t : Int)) + 7)) ⟨by omega, by omega⟩) rfl rfl (Nat.le_of_ble_eq_true rfl) (xRm_of hR (by omega) (by decide) (by omega) (by omega)) dL_law_19 (fun r9 h1 hq => ?_)
        obtain ⟨rfl, ad, sl, hj, T1, N1⟩ := hq
        refine x_astore_n C (ls' := [some (.ref b), some (vi (t : Int)), some (.ref q), none, none, none, none, none, none, none, none, none, none, none, none, none, none, none, none, none, none, none, none]) dL_law_22 rfl (by decide) rfl ?_
        obtain ⟨oa1, ca1, la1, fa1, fo1, ln1, hN1, -⟩ := id N1
        refine x_aload_n C dL_law_23 rfl rfl ?_
        refine x_get C f_Law_14 hN1 rfl dL_law_24 ?_
        refine x_astore_n C (ls' := [some (.ref b), some (vi (t : Int)), some (.ref q), some (.ref (ad 0)), none, none, none, none, none, none, none, none, none, none, none, none, none, none, none, none, none, none, none]) dL_law_27 rfl (by decide) rfl ?_
        obtain ⟨hd0, oa, ca, la, fa, fo, hNk, hTN⟩ := TN_draw T1 N1 (by omega)
        refine x_aload_n C dL_law_28 rfl rfl ?_
        refine x_iconst C dL_law_29 ?_
        refine x_aload_n C dL_law_30 rfl rfl ?_
        refine x_iconst C dL_law_31 ?_
        refine x_invVX C (Sc := (b, L, xs)) hX hbl hL s_Law_18 (st := [vi 3, .ref q]) (c_N_draw hNk ⟨by omega, by omega⟩ (n := 2) (by decide)) hNk rfl rfl (Nat.le_of_ble_eq_true rfl) (xRm_of hR (by omega) (by decide) (by omega) (by omega)) dL_law_32 (fun r9 h1 hq => ?_)
        obtain ⟨y, rfl, hy, e9⟩ := hq
        obtain ⟨T1, N1⟩ := hTN _ e9
        refine x_iadd C dL_law_35 ?_
        refine x_re (b := ((3 + y : Nat) : Int)) (by omega) ?_
        refine x_iconst C dL_law_36 ?_
        have NP0 : NP G h1 ad q b sl 0 0 ((31 * (t : Int)) + 7 + 1) := ⟨Q0, P0, _, T1, N1, rfl, rfl, Int.le_refl _⟩
        refine x_invVX C (Sc := (b, L, xs)) hX hbl hL s_Law_22 (st := []) (c_N_found hj NP0 (by omega) (ns := 3 + y) (ms := 3) ⟨by omega, by omega⟩ (by omega)) (NkR.o N1).choose_spec rfl rfl (Nat.le_of_ble_eq_true rfl) (xRm_of hR (by omega) (by decide) (by omega) (by omega)) dL_law_37 (fun r9 h3 hq => ?_)
        obtain ⟨rfl, NQ⟩ := hq
        refine x_ifneB C (tgt := 45) dL_law_40 (by decide) (fun c40 => ?_) (fun c40 => ?_)
        · skip
          refine law_steps C hR hj (by omega) (by omega) hX hbl hL (by omega) ⟨by omega, by omega⟩ (fun h4 c4x s4x r4x q4x => ?_) _ NQ
          refine x_iinc C (ls' := [some (.ref b), some (vi ((t : Int) + 1)), none, none, none, none, none, none, none, none, none, none, none, none, none, none, none, none, none, none, none, none, none]) dL_law_1137 rfl (by decide) (z1 := ((t : Int) + 1)) rfl rfl ?_
          refine x_goto C (tgt := 2) dL_law_1140 (by decide) ?_
          exact ih_L2 (t + 1) h4 _ _ (by omega) (by omega) (by omega) (by omega)
        · skip
          exact absurd c40 (by decide)
  exact L2 _ 0 h _ _ (Nat.lt_succ_self _) (by omega) (by omega) (by omega)

set_option maxRecDepth 100000 in
set_option maxHeartbeats 4000000 in
theorem whole_start {p : Program} {e : Env} {s : State} {m : MethodId} {below : List Frame} {meth : Method} {c : Code} (l : Launch) (hflags : l.flags = flags0) {b L : Nat} {xs : Nat → Int32} (hL : L ≤ 260) (C0 : lw_At p s m meth c b L xs) : W p l e room_1 s m #[Value.ref b] below meth c s.heap [] 0 0 (lw_Z below #[Value.ref b] s) (entryFrame m ([Value.ref b] : List Value).toArray 23) := by
  obtain ⟨hx, hb, hr, hml, hown, hts, hX, hbl, hlocks, hgv⟩ := id C0
  obtain ⟨D, cs, hKX⟩ := law_G hts l s.heap.size
  obtain ⟨G, eG⟩ : ∃ G : xG, G = (D, cs, s.heap.size, l) := ⟨_, rfl⟩
  obtain ⟨K, eK⟩ : ∃ K : xK, K = (p, e, room_1, s, m, #[Value.ref b], below, meth, c, lw_Z below #[Value.ref b] s) := ⟨_, rfl⟩
  have main : X G K 23 0 (ent [.ref b] 23) [] (fun _ => none) 0 0 := by
    have eN : gN G = s.heap.size := by rw [eG]
    have eS : ks K = s := by rw [eK]
    have C : xC G K "TablatureLaw" code 23 := by
      rw [eG, eK]
      exact ⟨hx, hb, hml, hown, fun w hw => hts w (xWA_sub hw), hlocks, hKX, Nat.le_refl _⟩
    have hR : xGe K 60 (Room.cells room_1) (Room.slots room_1) := by
      rw [eK]
      exact ⟨Nat.le_of_ble_eq_true rfl, Nat.le_of_ble_eq_true rfl, Nat.le_of_ble_eq_true rfl, Nat.le_of_ble_eq_true rfl⟩
    have hX1 : va_X b L xs (ks K) (ks K).heap := by rw [eS]; exact hX
    have hbG : b < gN G := by rw [eN]; exact hbl
    have ret : ∀ (ls : List (Option Value)) (h' : PH) (c9 s9 : Nat), c9 ≤ (Room.cells room_1) → s9 ≤ (Room.slots room_1) → X G K 23 1143 ls [] h' c9 s9 := fun ls h' c9 s9 h1 h2 => by
      refine x_iconst C dL_law_1143 ?_
      intro H locs lsA hW hS hV
      refine W.widen (k := (Room.cells room_1)) (n := (Room.slots room_1)) h1 h2 ?_
      rw [eG, eK] at *
      refine va_forget (fun q hq => hS.2.2 q hq) ?_
      exact lw_ret hx hb hr hlocks dL_law_1144
    exact law_main C hR hX1 hbG hL (Nat.le_of_ble_eq_true rfl) (Nat.le_of_ble_eq_true rfl) ret _
  rw [lg_entry_eq]
  have hl := lv_entry ([.ref b]) (n := 23) (Nat.le_of_ble_eq_true rfl)
  rw [eG, eK] at main
  exact main s.heap [] _ ⟨[], ⟨fun k a e h => by simp at h, fun a e h => by cases h⟩, fun k q h => by simp at h, ⟨fun i j p q h => by simp at h, fun k q h => by simp at h⟩⟩ va_S.rf (ent_has hl)

set_option maxHeartbeats 4000000 in
theorem lw_walk (l : Launch) (hflags : l.flags = flags0) (b : Addr) (xs : List Int32) : MetFree l x (headSpec (Jvm.Cond.code x code maxLocals ret :: tables_1) room_1) (lw_P b xs) (fun _ _ _ _ _ => True) lw_Q := by
  refine MetFree.of_bodyS (code := code) (maxLocals := maxLocals) (ret := ret) (by decide) ?_ ?_
  · intro args s m h hn
    obtain ⟨meth, c, h1, h2, h3, h4, h5, h6, -, -⟩ := Cond.code_spec hn (atoms_spec (ws := Jvm.Cond.code x code maxLocals ret :: tables_1) h _ List.mem_cons_self)
    exact ⟨meth, c, h1, h2, h3, h4, h5, h6⟩
  · intro p e s m args below meth c s₁ B hml0 hP _
    obtain ⟨rfl, hx, hbd, hgv⟩ := hP
    obtain ⟨scr, harrAt, hlist, hof, hsmall⟩ := hx
    obtain ⟨hcb, hkn, -, -⟩ := State.arrayAt?_spec harrAt
    have hown : s.vm.findClass R_law = some m.cls := findClass_of_methodNamed B.named
    have hts0 : ∀ c ∈ (Jvm.Cond.code x code maxLocals ret :: tables_1), c.before #[Value.ref b] s = true := atoms_spec (ws := Jvm.Cond.code x code maxLocals ret :: tables_1) B.pre
    have hts : ∀ w ∈ lw_tbl, w.before #[Value.ref b] s = true := k2_hts_sels lw_privs (fun w hw => hts0 w (List.mem_cons_of_mem _ hw)) lw_privs_ok
    have hml : c.maxLocals = 23 := B.maxLocals_eq (hts0 _ List.mem_cons_self)
    have X₀ : Stand p l e room_1 s m #[Value.ref b] below meth c s₁ [] 0 0 := Stand.of_body B
    have hh0 : s₁.heap = s.heap := by rw [B.state]; rfl
    have hsz : scr.slots.size = xs.length := by rw [← Array.length_toList, hlist, List.length_map]
    have hval : ∀ j : Nat, j < xs.length → scr.slots[j]? = some (.int (xs.getD j 0)) := fun j hj => by
      rw [← Array.getElem?_toList, hlist]
      simp [hj]
    have hbl : b < s.heap.size := (Array.getElem?_eq_some_iff.mp hcb).1
    have hX : va_X b xs.length (fun j => xs.getD j 0) s s.heap := ⟨scr, hcb, hof, hkn, hsz, hval⟩
    have K : W p l e room_1 s m #[Value.ref b] below meth c s₁.heap [] 0 0 (lw_Z below #[Value.ref b] s) (entryFrame m ([Value.ref b] : List Value).toArray 23) := by
      rw [hh0]
      exact whole_start l hflags hbd ⟨B.exec, B.bytes, B.returns, hml, hown, hts, hX, hbl, B.notSynchronized, hgv⟩
    obtain ⟨t, a1, o, b1, b2, b3⟩ := K s₁ rfl X₀
    exact ⟨t, o, a1, b1, b2, b3⟩
theorem lw_pre_spec {args : Array Value} {s : State} (h : (Jvm.Cond.and given_1 narrow_1).before args s = true) (hr : rest_1_c.before args s = true) : ∃ (b : Addr) (xs : List Int32), lw_P b xs args s := by
  have hs := flat_of_before _ h
  have hq := flat_of_before _ hr
  have hc : (Cond.count 1).before args s = true := hs _ (by decide +kernel)
  have harr : (Cond.arrayOf (.arg 0) .int).before args s = true := hs _ (by decide +kernel)
  have hle : (Cond.le (.length (.arg 0)) (.int 260)).before args s = true := hs _ (by decide +kernel)
  have hlen : (Cond.isInt (.length (.arg 0))).before args s = true := hq _ (by decide +kernel)
  have hall : (Cond.all (.arg 0) (.isInt (.elem (.arg 0) (.index 0)))).before args s = true := hq _ (by decide +kernel)
  obtain ⟨b, xs, hb, hx⟩ := State.ints_of_pre rfl harr hlen hall
  have hsm : xs.length < 2 ^ 31 := hx.choose_spec.2.2.2
  have hev : (Term.length (.arg 0)).eval args s none [] s = some (.int xs.length.toInt32) := hx.length_eval hb
  have hv := Cond.le_ints hev (show (Term.int 260).eval args s none [] s = some (.int 260) from rfl)
  have hd : xs.length.toInt32 ≤ 260 := by
    simpa [Cond.before, Cond.holds, hv] using hle
  have hN : xs.length ≤ 260 := (Int32.ofNat_le_ofNat hsm (by decide)).mp (show Int32.ofNat xs.length ≤ Int32.ofNat 260 from hd)
  exact ⟨b, xs, Cond.one_arg hc (show args[0]? = some (.ref b) from hb), hx, hN, h⟩
theorem lw_comes (l : Launch) (hflags : l.flags = flags0) : Comes l x (Jvm.Cond.code x code maxLocals ret :: tables_1) room_1 (fun tb e args s => Calls_1 tb e args s ∧ rest_1 tb e args s ∧ Pre_1 tb e args s)
    (fun _ _ args s o t => lw_Q args s o t) := by
  intro p e ha hc hk s m args below hf hfit hheap happ hpre
  obtain ⟨b, xs, hP⟩ := lw_pre_spec hpre.2.2 hpre.2.1
  obtain ⟨k, o, h1, h2, h3, hQ⟩ := lw_walk l hflags b xs p e ha hc hk s m args below hf ((Spec.applies_iff_loose hf).mp happ).1 hP trivial
  exact ⟨k, o, h1, h2, h3, hQ⟩
theorem lw_frame {s t : State} {o : Outcome} {args : Array Value} (h : Framed s o t [] (Room.cells room_1) (Room.slots room_1)) :
    Framed s o t (fieldLocs frame_1_writes args s ++ arrayLocs frame_1_arrays args s ++ staticLocs frame_1_statics s) (Room.cells room_1) (Room.slots room_1) := h
theorem lw_limb (L : Cond) (hL : ∀ (args : Array Value) (s t : State), L.after args s (.returned (some (.int 1))) t = true) :
    ArmFor flags0 classFile x code maxLocals ret World_1 tables_1 room_1 Calls_1 rest_1 Pre_1
      (fun tb e a s o t => postC L tb e a s o t ∧ Framed s o t (fieldLocs frame_1_writes a s ++ arrayLocs frame_1_arrays a s ++ staticLocs frame_1_statics s) (Room.cells room_1) (Room.slots room_1)) := by
  intro l hflags _ _ p e ha hc hk s m args below hf hfit hheap happ hpre
  obtain ⟨k, o, h1, h2, h3, rfl, hF⟩ := lw_comes l hflags p e ha hc hk s m args below hf hfit hheap happ hpre
  exact ⟨k, _, h1, h2, h3, hL args s _, lw_frame hF⟩
theorem i_vc : Claimed_1_1 ∧ Claimed_1_2 := ⟨lw_limb limb_1_1 (fun args s t => by simp [limb_1_1, Cond.after, Cond.holds, Cond.value]), lw_limb limb_1_2 (fun args s t => Cond.after_iff.mpr (by
  first | (rw [show limb_1_2 = Cond.eq .result (.int 1) from rfl, Cond.eq_ints (x := 1) (y := 1) rfl rfl]; simp; done) | (simp [limb_1_2, Cond.value, Term.eval]; done)))⟩
