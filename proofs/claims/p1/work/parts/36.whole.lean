/-! THE CLAIM OUT OF ONE WALK OF THE LAW'S BODY. Your part is whole_start (and what it stands on); all else here is the same for every law, but numbers. -/
def R_law : String := "TablatureLaw"
def lw_P (b : Addr) (xs : List Int32) (args : Array Value) (s : State) : Prop := args = #[.ref b] ∧ s.IntsAt b xs ∧ xs.length ≤ 6 ∧ (Jvm.Cond.and given_1 narrow_1).before args s = true
/-- what a walk over the start with the record d0 says of its end, said of the start itself -/
theorem lw_closed {s t : State} {o : Outcome} {d0 : Drawn} {L : List Loc} {k n : Nat} (hd0 : s.drawn.sameBut d0 lw_cs) (hv : ∃ v, o = .returned v) (hW : (s.setDrawn d0).WarmedH t.vm) (hs : (s.setDrawn d0).sameButNew ({ t with vm := s.vm } : State) L k n) : State.butDraws s t lw_cs (fun t1 => Framed s o t1 L k n) := by
  have h2 : t.drawn = d0 := congrArg State.drawn hs.1
  refine ⟨⟨hv, hW, State.sameButNew.setDrawn hs s.drawn⟩, ?_, by decide⟩
  rw [h2]
  exact hd0
def lw_Q (_ : Array Value) (s : State) (o : Outcome) (t : State) : Prop := o = .returned (some (.int 1)) ∧ State.butDraws s t lw_cs (fun t1 => Framed s o t1 [] (Room.cells room_1) (Room.slots room_1))
def lw_Z (below : List Frame) (a : Array Value) (s : State) : State → Prop := fun t => ∃ o, t.status = .running ∧ Ended t below o ∧ lw_Q a s o t
/-- the law's own end, with 1 on the stack, nothing written that was there before, its room as the claim has it; d0: the record of draws at this point (at the entry s.drawn: begin with 'refine W.base ?_' and 'have hd0 := Drawn.sameBut.refl s.drawn lw_cs') -/
theorem lw_ret {p : Program} {l : Launch} {e : Env} {s : State} {m : MethodId} {below : List Frame} {meth : Method} {c : Code} {b : Nat} {d0 : Drawn} (hd0 : s.drawn.sameBut d0 lw_cs) (hx : p.tables.exec = Jvm.exec) (hb : c.code = code) (hr : meth.sig.returnType = ret) (hlocks : meth.locks = false) {pc : Nat} {H : Heap} {ls : Array Slot} (hdg : decode code pc = .ok (.ireturn, 1)) : W p l e room_1 (s.setDrawn d0) m #[Value.ref b] below meth c H [] (Room.cells room_1) (Room.slots room_1) (lw_Z below #[Value.ref b] s) (F0 m pc ls [.int 1]) := by
  intro T hT X
  obtain ⟨fs, hret, hrun, hended, hW, hframe⟩ := X.leave (v := some (.int 1)) (hlocks := hlocks) (fun h => by rw [hr] at h; cases h)
  have hmeth' : T.vm.method? m = some meth := X.method'
  refine ⟨T.setFrames fs, ?_, .returned (some (.int 1)), hrun, hended, rfl, lw_closed hd0 ⟨_, rfl⟩ hW hframe⟩
  jvm_step X.here [X.here.top, hx, hb, hdg, hmeth', hr, ret, narrow_b1]
  (try refine ⟨rfl, ?_⟩); (try refine ⟨rfl, ?_⟩)
  first | (intro acts; rw [hret _ acts rfl rfl rfl]) | rw [hret _ _ rfl rfl rfl]
  exact Steps.refl _
/-- what holds at the law's entry: the machine, the code, the tables' words (any of lw_tbl by 'hts w (by decide +kernel)'), the script of L ints xs at the cell b, what the Statement gives of the start (any of its parts by flat_of_before) -/
def lw_At (p : Program) (s : State) (m : MethodId) (meth : Method) (c : Code) (b L : Nat) (xs : Nat → Int32) : Prop :=
  p.tables.exec = Jvm.exec ∧ c.code = code ∧ meth.sig.returnType = ret ∧ c.maxLocals = 9 ∧ s.vm.findClass R_law = some m.cls ∧ (∀ w ∈ lw_tbl, w.before #[Value.ref b] s = true) ∧ va_X b L xs s s.heap ∧ b < s.heap.size ∧ meth.locks = false ∧ (Jvm.Cond.and given_1 narrow_1).before #[Value.ref b] s = true
theorem wm1 {w : Cond} (i : Nat) (h : tables_1_1[i]? = some w) : w ∈ lw_tbl := List.mem_append_right _ (show w ∈ tables_1 from List.mem_append_left _ (List.mem_of_getElem? h))
theorem wm2 {w : Cond} (i : Nat) (h : tables_1_2[i]? = some w) : w ∈ lw_tbl := List.mem_append_right _ (show w ∈ tables_1 from List.mem_append_right _ (List.mem_append_left _ (List.mem_of_getElem? h)))
theorem wm3 {w : Cond} (i : Nat) (h : tables_1_3[i]? = some w) : w ∈ lw_tbl := List.mem_append_right _ (show w ∈ tables_1 from List.mem_append_right _ (List.mem_append_right _ (List.mem_append_left _ (List.mem_of_getElem? h))))
theorem wm4 {w : Cond} (i : Nat) (h : tables_1_4[i]? = some w) : w ∈ lw_tbl := List.mem_append_right _ (show w ∈ tables_1 from List.mem_append_right _ (List.mem_append_right _ (List.mem_append_right _ (List.mem_append_left _ (List.mem_of_getElem? h)))))
theorem wm5 {w : Cond} (i : Nat) (h : tables_1_5[i]? = some w) : w ∈ lw_tbl := List.mem_append_right _ (show w ∈ tables_1 from List.mem_append_right _ (List.mem_append_right _ (List.mem_append_right _ (List.mem_append_right _ (List.mem_of_getElem? h)))))
theorem xa_prim {s : State} {args : Array Value} {ty : FieldType} (h : (Cond.arrayClass ty).before args s = true) (hp : ∀ n, ty ≠ .object n) : ∃ c, ArrOfT s c ty ∧ va_RA s c ty := by
  obtain ⟨c, k, comp, h1, h2, h3⟩ := Cond.arrayClass_spec h
  refine ⟨c, fun n z => ⟨fun k h => (by cases h), k, h2, comp, h3⟩, ?_⟩
  cases ty <;> first | exact h1 | exact absurd rfl (hp _)
theorem xa_obj {s : State} {args : Array Value} {E : String} (h : (Cond.arrayOver (.object E)).before args s = true) : ∃ c, ArrOfT s c (.object E) ∧ va_RA s c (.object E) := by
  obtain ⟨comp, c, k, h1, h2, h3, h4, h5⟩ := Cond.arrayOver_spec h
  exact ⟨c, fun n z => ⟨fun k h => (by cases h), k, h3, comp, h4⟩, k, comp, h3, h4, h1, h5⟩
theorem xa_arr {s : State} {args : Array Value} {t : FieldType} (h : (Cond.arrayOver (.array t)).before args s = true) : ∃ (c : ClassId) (k : Class) (comp : ClassId), ArrOfT s c (.array t) ∧ va_RA s c (.array t) ∧ s.vm.classes[c]? = some k ∧ k.kind = .array comp (.array t) ∧ s.vm.findClass (FieldType.array t).toString = some comp := by
  obtain ⟨comp, c, k, h1, h2, h3, h4, h5⟩ := arrayOverA_spec h
  exact ⟨c, k, comp, fun n z => ⟨fun k h => (by cases h), k, h3, comp, h4⟩, h5, h3, h4, h1⟩
/-- the classes and array classes at the start -/
theorem law_G {s : State} {args : Array Value} (hts : ∀ w ∈ lw_tbl, w.before args s = true) (l : Launch) (N : Nat) : ∃ (D : va_G) (cs : Nat → ClassId), xKX (D, cs, N, l) s := by
  obtain ⟨k0, i0, hK0⟩ := u_known (C := RX0) (T := TX0) (N := 4) (n := 4) hts (fun w hw => (in_RX0 w hw).1) (hts _ (wm1 68 rfl))
  obtain ⟨k1, i1, hK1⟩ := u_known (C := RX2) (T := TX2) (N := 4) (n := 4) hts (fun w hw => (in_RX2 w hw).1) (hts _ (wm1 152 rfl))
  obtain ⟨k2, i2, hK2⟩ := u_known (C := RX3) (T := TX3) (N := 8) (n := 8) hts (fun w hw => (in_RX3 w hw).1) (hts _ (wm1 116 rfl))
  obtain ⟨k3, i3, hK3⟩ := u_known (C := RX4) (T := TX4) (N := 5) (n := 5) hts (fun w hw => (in_RX4 w hw).1) (hts _ (wm1 29 rfl))
  obtain ⟨k4, i4, hK4⟩ := u_known (C := RX5) (T := TX5) (N := 2) (n := 2) hts (fun w hw => (in_RX5 w hw).1) (hts _ (wm1 61 rfl))
  obtain ⟨k5, i5, hK5⟩ := u_known (C := RX6) (T := TX6) (N := 8) (n := 8) hts (fun w hw => (in_RX6 w hw).1) (hts _ (wm1 106 rfl))
  obtain ⟨k6, i6, hK6⟩ := u_known (C := RX7) (T := TX7) (N := 8) (n := 8) hts (fun w hw => (in_RX7 w hw).1) (hts _ (wm1 207 rfl))
  obtain ⟨k7, i7, hK7⟩ := u_known (C := RX8) (T := TX8) (N := 8) (n := 8) hts (fun w hw => (in_RX8 w hw).1) (hts _ (wm1 21 rfl))
  obtain ⟨k8, i8, hK8⟩ := u_known (C := RX9) (T := TX9) (N := 16) (n := 16) hts (fun w hw => (in_RX9 w hw).1) (hts _ (wm4 125 rfl))
  obtain ⟨c0, e0, f0⟩ := xa_prim (hts _ (wm1 58 rfl)) (fun n h => by cases h)
  obtain ⟨c1, e1, f1⟩ := xa_prim (hts _ (wm1 59 rfl)) (fun n h => by cases h)
  obtain ⟨c2, e2, f2⟩ := xa_prim (hts _ (wm5 205 rfl)) (fun n h => by cases h)
  obtain ⟨c3, kA, comp, e3, f3, kA1, kA2, kA3⟩ := xa_arr (t := .int) (hts _ (wm1 114 rfl))
  obtain ⟨c4, e4, f4⟩ := xa_obj (E := "Tablature$Chord") (hts _ (wm1 67 rfl))
  obtain ⟨c5, e5, f5⟩ := xa_obj (E := "Tablature$Grips") (hts _ (wm1 112 rfl))
  obtain ⟨c6, -, -, e6, f6, -, -, -⟩ := xa_arr (t := .array .int) (hts _ (wm5 107 rfl))
  have ec : comp = c0 := Option.some.inj (kA3.symm.trans f0)
  subst ec
  refine ⟨(fun k => [k0, k1, k2, k3, k4, k5, k6, k7, k8].getD k k0, fun k => [i0, i1, i2, i3, i4, i5, i6, i7, i8].getD k i0), fun t => [comp, c1, c2, c3, c4, c5, c6].getD t comp, ⟨?_, ?_⟩, ⟨kA, kA1, kA2⟩, ?_, ?_⟩
  · intro k q hq
    match k, hq with
    | 0, hq => cases hq; exact hK0
    | 1, hq => cases hq; exact hK1
    | 2, hq => cases hq; exact hK2
    | 3, hq => cases hq; exact hK3
    | 4, hq => cases hq; exact hK4
    | 5, hq => cases hq; exact hK5
    | 6, hq => cases hq; exact hK6
    | 7, hq => cases hq; exact hK7
    | 8, hq => cases hq; exact hK8
    | k + 9, hq => simp [vwCl] at hq
  · intro k q hq
    match k, hq with
    | 0, hq => cases hq; exact ⟨e0, f0⟩
    | 1, hq => cases hq; exact ⟨e1, f1⟩
    | 2, hq => cases hq; exact ⟨e2, f2⟩
    | 3, hq => cases hq; exact ⟨e3, f3⟩
    | 4, hq => cases hq; exact ⟨e4, f4⟩
    | 5, hq => cases hq; exact ⟨e5, f5⟩
    | 6, hq => cases hq; exact ⟨e6, f6⟩
    | k + 7, hq => exact absurd (List.getElem?_eq_some_iff.mp hq).1 (by show ¬ k + 7 < 7; omega)
  · intro q hq
    simp only [xNW, List.mem_cons, List.not_mem_nil, or_false] at hq
    rcases hq with rfl | rfl | rfl | rfl | rfl | rfl | rfl
    · exact va_Nw.of rfl (hts _ (wm1 30 rfl))
    · exact va_Nw.of rfl (hts _ (wm1 69 rfl))
    · exact va_Nw.of rfl (hts _ (wm1 117 rfl))
    · exact va_Nw.of rfl (hts _ (wm1 153 rfl))
    · exact va_Nw.of rfl (hts _ (wm1 208 rfl))
    · exact va_Nw.of rfl (hts _ (wm1 213 rfl))
    · exact va_Nw.of rfl (hts _ (wm2 2 rfl))
  · intro t ht
    simp only [xAOs, List.mem_cons, List.not_mem_nil, or_false] at ht
    rcases ht with rfl | rfl | rfl | rfl
    · exact hts _ (wm1 67 rfl)
    · exact hts _ (wm1 112 rfl)
    · exact hts _ (wm1 114 rfl)
    · exact hts _ (wm5 107 rfl)
/-- what the throws ask of the start -/
theorem vkR_of {s : State} {args : Array Value} {own tx : String} {k : Nat} {cur : ClassId} (hc : s.vm.findClass own = some cur) (h : (Cond.stringRef own k tx).before args s = true) : ∃ a : Nat, vk_R own k tx a s := by
  have h' : (Cond.stringRef own k tx).before #[] s = true := h
  obtain ⟨-, -, -, a, -, -, -, -, -, h6⟩ := Cond.stringRef_spec hc h'
  exact ⟨a, h', h6⟩
theorem law_T {G : xG} {s : State} {args : Array Value} (hts : ∀ w ∈ lw_tbl, w.before args s = true) (hgv : (Jvm.Cond.and given_1 narrow_1).before args s = true) (hfl : (gL G).flags = flags0) (hN : gN G = s.heap.size) {cur : ClassId} (hc : s.vm.findClass "Tablature" = some cur) : xTS G s s.heap := by
  have hs := flat_of_before _ hgv
  have hA : ∀ a : Nat, a < s.heap.size → ¬ xA G a := fun a ha h => by
    have h : gN G ≤ a := h
    omega
  refine ⟨by unfold Launch.stackTraces; rw [hfl]; decide +kernel, ?_, ?_, ?_, ?_, ?_⟩
  · exact vx_Zqof (hts _ (wm3 22 rfl)) (hts _ (wm1 10 rfl)) (hs (.isRef (.static Bundle.tN "UNASSIGNED_STACK" Bundle.steD)) (by decide +kernel)) hA
  · exact vx_Zqof (hts _ (wm3 24 rfl)) (hts _ (wm1 10 rfl)) (hs (.isRef (.static Bundle.tN "SUPPRESSED_SENTINEL" Bundle.listD)) (by decide +kernel)) hA
  · intro E hE
    simp only [xE3, List.mem_cons, List.not_mem_nil, or_false] at hE
    rcases hE with rfl | rfl
    · exact va_Nw.of rfl (hts _ (wm2 237 rfl))
    · exact va_Nw.of rfl (hts _ (wm3 111 rfl))
  · intro E hE
    simp only [xDc, List.mem_cons, List.not_mem_nil, or_false] at hE
    rcases hE with rfl | rfl | rfl
    · exact va_Nw.of rfl (hts _ (wm2 239 rfl))
    · exact va_Nw.of rfl (hts _ (wm3 1 rfl))
    · exact va_Nw.of rfl (hts _ (wm3 3 rfl))
  · intro q hq
    simp only [xStr, List.mem_cons, List.not_mem_nil, or_false] at hq
    rcases hq with rfl | rfl | rfl | rfl | rfl | rfl | rfl | rfl | rfl | rfl | rfl | rfl
    · exact vkR_of hc (hts _ (wm3 36 rfl))
    · exact vkR_of hc (hts _ (wm3 118 rfl))
    · exact vkR_of hc (hts _ (wm3 178 rfl))
    · exact vkR_of hc (hts _ (wm3 189 rfl))
    · exact vkR_of hc (hts _ (wm3 200 rfl))
    · exact vkR_of hc (hts _ (wm3 215 rfl))
    · exact vkR_of hc (hts _ (wm3 216 rfl))
    · exact vkR_of hc (hts _ (wm4 2 rfl))
    · exact vkR_of hc (hts _ (wm4 29 rfl))
    · exact vkR_of hc (hts _ (wm4 84 rfl))
    · exact vkR_of hc (hts _ (wm4 85 rfl))
    · exact vkR_of hc (hts _ (wm4 86 rfl))
theorem i31 (x : Int32) : 0 ≤ (x &&& 31).toInt ∧ (x &&& 31).toInt ≤ 31 := by
  have h : (x &&& 31).toBitVec.toNat ≤ 31 := by
    show (x.toBitVec &&& (31 : Int32).toBitVec).toNat ≤ 31
    rw [BitVec.toNat_and]
    exact Nat.and_le_right
  have e : (x &&& 31).toInt = ((x &&& 31).toBitVec.toNat : Int) := by
    show (x &&& 31).toBitVec.toInt = _
    exact BitVec.toInt_eq_toNat_of_lt (by omega)
  omega
theorem ne_z {h : PH} {a o : Nat} {v : va_E} (z : h o = none) (e : h a = some v) : a ≠ o := fun q => by rw [q, z] at e; cases e
theorem TabR.kept {G : xG} {h h1 : PH} {ad : Nat → Nat} {fr : Bool} {Q : Ins} {P : Pie} (T : TabR G h ad fr Q P) (hk : ∀ i, own i → h1 (ad i) = h (ad i)) : TabR G h1 ad fr Q P :=
  T.small (T.2.2.2.2.1.kept (hk 12 (by unfold own; omega)) (hk 13 (by unfold own; omega))) (T.2.2.2.2.2.2.1.kept (fun i hi => hk (9 + i) (by unfold own; omega))) (fun i ho _ => hk i ho)

set_option maxRecDepth 100000 in
set_option maxHeartbeats 4000000 in
/-- from the switch to the end of the call -/
theorem law_sw {z : Int} {G : xG} {K : xK} {h : PH} {ad : Nat → Nat} {fq : Bool} {sb b o a1 a2 a3 a4 a5 a6 a7 a8 bt L cells slots mc9 ms9 : Nat} {go : Nat → Int64} {xs : Nat → Int32} (C : xC G K "TablatureLaw" code 9) (hR : xGe K 200 mc9 ms9) (hrm : 100000 ≤ mc9 ∧ 1000000 ≤ ms9) (T : xTS G (ks K) (ks K).heap) (hj : ∀ i j, i < 300 → j < 300 → ad i = ad j → i = j) (TT : TabR G h ad fq Q0 P0) (hB : h b = (xO 8 [vi 0, vi 0, .ref a1, .ref a2, vi 0, vi 3, vi 0, .ref a3, .ref a4, .ref a5, .ref a6, .ref a7, .ref a8, vi 0, vi 0, .ref bt])) (hO : h o = xL G 1 go) (hA1 : h a1 = xI G 6 (fun _ => 0)) (hA3 : h a3 = xQ G 3 12 (fun _ => none)) (hA4 : h a4 = xI G 12 (fun _ => 0)) (hA5 : h a5 = xZ G 12 (fun _ => false)) (n45 : a4 ≠ a5) (hn : ∀ i, own i → b ≠ ad i ∧ o ≠ ad i ∧ a1 ≠ ad i ∧ a3 ≠ ad i ∧ a4 ≠ ad i ∧ a5 ≠ ad i) (hX : va_X sb L xs (ks K) (ks K).heap) (hbl : sb < gN G) (hbs : sb < (ks K).heap.size) (hL : L = 6) (hc : cells ≤ 1000) (hs : slots ≤ 10000) (kk : ∀ (h' : PH) (c9 s9 : Nat), c9 ≤ 2000 → s9 ≤ 20000 → X G K 9 1818 [some (.ref sb), some (.ref (ad 0)), some (.ref b), some (.ref o), some (vi 0), none, none, none, none] [] h' c9 s9) (hz : 0 ≤ z ∧ z ≤ 31) : X G K 9 40 [some (.ref sb), some (.ref (ad 0)), some (.ref b), some (.ref o), some (vi 0), none, none, none, none] [vi z] h cells slots := by
  obtain rfl | rfl | rfl | rfl | rfl | rfl | rfl | rfl | rfl | rfl | rfl | rfl | rfl | rfl | rfl | rfl | rfl | rfl | rfl | rfl | rfl | rfl | rfl | rfl | rfl | rfl | rfl | rfl | rfl | rfl | rfl | rfl : z = 0 ∨ z = 1 ∨ z = 2 ∨ z = 3 ∨ z = 4 ∨ z = 5 ∨ z = 6 ∨ z = 7 ∨ z = 8 ∨ z = 9 ∨ z = 10 ∨ z = 11 ∨ z = 12 ∨ z = 13 ∨ z = 14 ∨ z = 15 ∨ z = 16 ∨ z = 17 ∨ z = 18 ∨ z = 19 ∨ z = 20 ∨ z = 21 ∨ z = 22 ∨ z = 23 ∨ z = 24 ∨ z = 25 ∨ z = 26 ∨ z = 27 ∨ z = 28 ∨ z = 29 ∨ z = 30 ∨ z = 31 := by omega
  · refine x_tsw C (tgt := 164) dL_law_40 (by decide) (by decide) (by decide) rfl (by decide) ?_
    by_cases hv : 0 ≤ (xs 1).toInt ∧ (xs 1).toInt ≤ 60
    · exact law_string_ok C hR hrm T hj TT hB hO hA1 hA3 hA4 hA5 n45 hn hX hbl hbs hL hc hs kk hv
    · exact law_string_no C hR hrm T hj TT hB hO hA1 hA3 hA4 hA5 n45 hn hX hbl hbs hL hc hs kk hv
  · refine x_tsw C (tgt := 220) dL_law_40 (by decide) (by decide) (by decide) rfl (by decide) ?_
    exact law_tune_no C hR hrm T hj TT hB hO hA1 hA3 hA4 hA5 n45 hn hX hbl hbs hL hc hs kk
  · refine x_tsw C (tgt := 288) dL_law_40 (by decide) (by decide) (by decide) rfl (by decide) ?_
    exact law_slacken_no C hR hrm T hj TT hB hO hA1 hA3 hA4 hA5 n45 hn hX hbl hbs hL hc hs kk
  · refine x_tsw C (tgt := 372) dL_law_40 (by decide) (by decide) (by decide) rfl (by decide) ?_
    by_cases hv : 0 ≤ (xs 1).toInt ∧ (xs 1).toInt ≤ 7
    · exact law_capo_ok C hR hrm T hj TT hB hO hA1 hA3 hA4 hA5 n45 hn hX hbl hbs hL hc hs kk hv
    · exact law_capo_no C hR hrm T hj TT hB hO hA1 hA3 hA4 hA5 n45 hn hX hbl hbs hL hc hs kk hv
  · refine x_tsw C (tgt := 428) dL_law_40 (by decide) (by decide) (by decide) rfl (by decide) ?_
    by_cases hv : 1 ≤ (xs 1).toInt ∧ (xs 1).toInt ≤ 6
    · exact law_reach_ok C hR hrm T hj TT hB hO hA1 hA3 hA4 hA5 n45 hn hX hbl hbs hL hc hs kk hv
    · exact law_reach_no C hR hrm T hj TT hB hO hA1 hA3 hA4 hA5 n45 hn hX hbl hbs hL hc hs kk hv
  · refine x_tsw C (tgt := 484) dL_law_40 (by decide) (by decide) (by decide) rfl (by decide) ?_
    exact law_fretOf_no C hR hrm T hj TT hB hO hA1 hA3 hA4 hA5 n45 hn hX hbl hbs hL hc hs kk
  · refine x_tsw C (tgt := 552) dL_law_40 (by decide) (by decide) (by decide) rfl (by decide) ?_
    by_cases hk : chOK (xs 1).toInt (xs 2).toInt (xs 3).toInt (xs 4).toInt (xs 5).toInt
    · exact law_chord_ok C hR hrm T hj TT hB hO hA1 hA3 hA4 hA5 n45 hn hX hbl hbs hL hc hs kk hk
    · exact law_chord_no C hR hrm T hj TT hB hO hA1 hA3 hA4 hA5 n45 hn hX hbl hbs hL hc hs kk hk
  · refine x_tsw C (tgt := 656) dL_law_40 (by decide) (by decide) (by decide) rfl (by decide) ?_
    exact law_strike_no C hR hrm T hj TT hB hO hA1 hA3 hA4 hA5 n45 hn hX hbl hbs hL hc hs kk
  · refine x_tsw C (tgt := 712) dL_law_40 (by decide) (by decide) (by decide) rfl (by decide) ?_
    exact law_fix_no C hR hrm T hj TT hB hO hA1 hA3 hA4 hA5 n45 hn hX hbl hbs hL hc hs kk
  · refine x_tsw C (tgt := 780) dL_law_40 (by decide) (by decide) (by decide) rfl (by decide) ?_
    exact law_ofChord_no C hR hrm T hj TT hB hO hA1 hA3 hA4 hA5 n45 hn hX hbl hbs hL hc hs kk
  · refine x_tsw C (tgt := 848) dL_law_40 (by decide) (by decide) (by decide) rfl (by decide) ?_
    exact law_ofGrip_no C hR hrm T hj TT hB hO hA1 hA3 hA4 hA5 n45 hn hX hbl hbs hL hc hs kk
  · refine x_tsw C (tgt := 928) dL_law_40 (by decide) (by decide) (by decide) rfl (by decide) ?_
    exact law_fret_no C hR hrm T hj TT hB hO hA1 hA3 hA4 hA5 n45 hn hX hbl hbs hL hc hs kk
  · refine x_tsw C (tgt := 1008) dL_law_40 (by decide) (by decide) (by decide) rfl (by decide) ?_
    exact law_finger_no C hR hrm T hj TT hB hO hA1 hA3 hA4 hA5 n45 hn hX hbl hbs hL hc hs kk
  · refine x_tsw C (tgt := 1088) dL_law_40 (by decide) (by decide) (by decide) rfl (by decide) ?_
    exact law_move_no C hR hrm T hj TT hB hO hA1 hA3 hA4 hA5 n45 hn hX hbl hbs hL hc hs kk
  · refine x_tsw C (tgt := 1168) dL_law_40 (by decide) (by decide) (by decide) rfl (by decide) ?_
    exact law_plan_no C hR hrm T hj TT hB hO hA1 hA3 hA4 hA5 n45 hn hX hbl hbs hL hc hs kk
  · refine x_tsw C (tgt := 1224) dL_law_40 (by decide) (by decide) (by decide) rfl (by decide) ?_
    exact law_total C hR hrm T hj TT hB hO hA1 hA3 hA4 hA5 n45 hn hX hbl hbs hL hc hs kk
  · refine x_tsw C (tgt := 1237) dL_law_40 (by decide) (by decide) (by decide) rfl (by decide) ?_
    exact law_hardest C hR hrm T hj TT hB hO hA1 hA3 hA4 hA5 n45 hn hX hbl hbs hL hc hs kk
  · refine x_tsw C (tgt := 1250) dL_law_40 (by decide) (by decide) (by decide) rfl (by decide) ?_
    by_cases hv : 0 ≤ (xs 1).toInt ∧ (xs 1).toInt ≤ 7
    · exact law_many_ok C hR hrm T hj TT hB hO hA1 hA3 hA4 hA5 n45 hn hX hbl hbs hL hc hs kk hv
    · exact law_many_no C hR hrm T hj TT hB hO hA1 hA3 hA4 hA5 n45 hn hX hbl hbs hL hc hs kk hv
  · refine x_tsw C (tgt := 1306) dL_law_40 (by decide) (by decide) (by decide) rfl (by decide) ?_
    exact law_meanEffort C hR hrm T hj TT hB hO hA1 hA3 hA4 hA5 n45 hn hX hbl hbs hL hc hs kk
  · refine x_tsw C (tgt := 1347) dL_law_40 (by decide) (by decide) (by decide) rfl (by decide) ?_
    cases hi : isV (xs 1).toInt (xs 2).toInt (xs 3).toInt
    · exact law_shapes_no C hR hrm T hj TT hB hO hA1 hA3 hA4 hA5 n45 hn hX hbl hbs hL hc hs kk hi
    · exact law_shapes_ok C hR hrm T hj TT hB hO hA1 hA3 hA4 hA5 n45 hn hX hbl hbs hL hc hs kk hi
  · refine x_tsw C (tgt := 1427) dL_law_40 (by decide) (by decide) (by decide) rfl (by decide) ?_
    cases hi : isV (xs 1).toInt (xs 2).toInt (xs 3).toInt
    · exact law_shapeEffort_no C hR hrm T hj TT hB hO hA1 hA3 hA4 hA5 n45 hn hX hbl hbs hL hc hs kk hi
    · exact law_shapeEffort_ok C hR hrm T hj TT hB hO hA1 hA3 hA4 hA5 n45 hn hX hbl hbs hL hc hs kk hi
  · refine x_tsw C (tgt := 1507) dL_law_40 (by decide) (by decide) (by decide) rfl (by decide) ?_
    exact law_shapeFret_no C hR hrm T hj TT hB hO hA1 hA3 hA4 hA5 n45 hn hX hbl hbs hL hc hs kk
  · refine x_tsw C (tgt := 1599) dL_law_40 (by decide) (by decide) (by decide) rfl (by decide) ?_
    by_cases hv : 0 ≤ (xs 1).toInt ∧ (xs 1).toInt ≤ 7
    · by_cases hw : 1 ≤ (xs 2).toInt ∧ (xs 2).toInt ≤ 6
      · exact law_totalWith_ok C hR hrm T hj TT hB hO hA1 hA3 hA4 hA5 n45 hn hX hbl hbs hL hc hs kk hv hw
      · exact law_totalWith_no2 C hR hrm T hj TT hB hO hA1 hA3 hA4 hA5 n45 hn hX hbl hbs hL hc hs kk hv hw
    · exact law_totalWith_no1 C hR hrm T hj TT hB hO hA1 hA3 hA4 hA5 n45 hn hX hbl hbs hL hc hs kk hv
  · refine x_tsw C (tgt := 1667) dL_law_40 (by decide) (by decide) (by decide) rfl (by decide) ?_
    exact law_bestCapo C hR hrm T hj TT hB hO hA1 hA3 hA4 hA5 n45 hn hX hbl hbs hL hc hs kk
  · refine x_tsw C (tgt := 1680) dL_law_40 (by decide) (by decide) (by decide) rfl (by decide) ?_
    exact law_totalWithout_no C hR hrm T hj TT hB hO hA1 hA3 hA4 hA5 n45 hn hX hbl hbs hL hc hs kk
  · refine x_tsw C (tgt := 1736) dL_law_40 (by decide) (by decide) (by decide) rfl (by decide) ?_
    exact law_totalFixed_no C hR hrm T hj TT hB hO hA1 hA3 hA4 hA5 n45 hn hX hbl hbs hL hc hs kk
  · refine x_tsw C (tgt := 1804) dL_law_40 (by decide) (by decide) (by decide) rfl (by decide) ?_
    exact law_digest C hR hrm T hj TT hB hO hA1 hA3 hA4 hA5 n45 hn hX hbl hbs hL hc hs kk
  · refine x_tswD C (tgt := 1818) dL_law_40 (by decide) (by decide) (by decide) ?_
    exact kk _ _ _ (by omega) (by omega)
  · refine x_tswD C (tgt := 1818) dL_law_40 (by decide) (by decide) (by decide) ?_
    exact kk _ _ _ (by omega) (by omega)
  · refine x_tswD C (tgt := 1818) dL_law_40 (by decide) (by decide) (by decide) ?_
    exact kk _ _ _ (by omega) (by omega)
  · refine x_tswD C (tgt := 1818) dL_law_40 (by decide) (by decide) (by decide) ?_
    exact kk _ _ _ (by omega) (by omega)
  · refine x_tswD C (tgt := 1818) dL_law_40 (by decide) (by decide) (by decide) ?_
    exact kk _ _ _ (by omega) (by omega)
set_option maxRecDepth 100000 in
set_option maxHeartbeats 4000000 in
theorem whole_start {p : Program} {e : Env} {s : State} {m : MethodId} {below : List Frame} {meth : Method} {c : Code} (l : Launch) (hflags : l.flags = flags0) {b L : Nat} {xs : Nat → Int32} (hL : L ≤ 6) (C0 : lw_At p s m meth c b L xs) : W p l e room_1 s m #[Value.ref b] below meth c s.heap [] 0 0 (lw_Z below #[Value.ref b] s) (entryFrame m ([Value.ref b] : List Value).toArray 9) := by
  obtain ⟨hx, hb, hr, hml, hown, hts, hX, hbl, hlocks, hgv⟩ := id C0
  obtain ⟨D, cs, hKX⟩ := law_G hts l s.heap.size
  obtain ⟨G, eG⟩ : ∃ G : xG, G = (D, cs, s.heap.size, l) := ⟨_, rfl⟩
  obtain ⟨K, eK⟩ : ∃ K : xK, K = (p, e, room_1, s, m, #[Value.ref b], below, meth, c, lw_Z below #[Value.ref b] s) := ⟨_, rfl⟩
  obtain ⟨cT, -, hcT⟩ : ∃ k : ClassId, True ∧ s.vm.findClass "Tablature" = some k := by
    obtain ⟨k, i, hK⟩ := u_known (C := RX8) (T := TX8) (N := 8) (n := 8) hts (fun w hw => (in_RX8 w hw).1) (hts _ (wm1 21 rfl))
    exact ⟨k, trivial, hK.2.1⟩
  have hTS : xTS G s s.heap := law_T hts hgv (by rw [eG]; exact hflags) (by rw [eG]) hcT
  have main : X G K 9 0 (ent [.ref b] 9) [] (fun _ => none) 0 0 := by
    have eN : gN G = s.heap.size := by rw [eG]
    have eS : ks K = s := by rw [eK]
    have C : xC G K "TablatureLaw" code 9 := by
      rw [eG, eK]
      exact ⟨hx, hb, hml, hown, fun w hw => hts w (xWA_sub hw), hlocks, hKX, Nat.le_refl _⟩
    have hR : xGe K 200 (Room.cells room_1) (Room.slots room_1) := by
      rw [eK]
      exact ⟨Nat.le_of_ble_eq_true rfl, Nat.le_of_ble_eq_true rfl, Nat.le_of_ble_eq_true rfl, Nat.le_of_ble_eq_true rfl⟩
    have hrm : 100000 ≤ (Room.cells room_1) ∧ 1000000 ≤ (Room.slots room_1) := ⟨Nat.le_of_ble_eq_true rfl, Nat.le_of_ble_eq_true rfl⟩
    have T : xTS G (ks K) (ks K).heap := by rw [eS]; exact hTS
    have hX1 : va_X b L xs (ks K) (ks K).heap := by rw [eS]; exact hX
    have hbG : b < gN G := by rw [eN]; exact hbl
    have hbs : b < (ks K).heap.size := by rw [eS]; exact hbl
    have ret : ∀ (ls : List (Option Value)) (h' : PH) (c9 s9 : Nat), c9 ≤ (Room.cells room_1) → s9 ≤ (Room.slots room_1) → X G K 9 1824 ls [] h' c9 s9 := fun ls h' c9 s9 h1 h2 => by
      refine x_iconst C dL_law_1824 ?_
      intro H locs lsA hW hS hV
      refine W.widen (k := (Room.cells room_1)) (n := (Room.slots room_1)) h1 h2 ?_
      rw [eG, eK] at *
      refine va_forget (fun q hq => hS.2.2 q hq) ?_
      exact lw_ret (d0 := s.drawn) (Drawn.sameBut.refl s.drawn lw_cs) hx hb hr hlocks dL_law_1825
    have head : ∀ (t q o : Nat) (i : Int) (h' : PH) (c9 s9 : Nat), c9 ≤ (Room.cells room_1) → s9 ≤ (Room.slots room_1) → 0 ≤ i → i ≤ 6 → ((L : Int) - 6 < i ∨ (i = 0 ∧ X G K 9 33 [some (.ref b), some (.ref t), some (.ref q), some (.ref o), some (vi i), none, none, none, none] [] h' c9 s9)) → X G K 9 23 [some (.ref b), some (.ref t), some (.ref q), some (.ref o), some (vi i), none, none, none, none] [] h' c9 s9 := fun t q o i h' c9 s9 h1 h2 h3 h4 hd => by
      refine x_iload C dL_law_23 rfl ?_
      refine x_aload_n C dL_law_25 rfl rfl ?_
      refine x_slen C hX1 hbG hbs dL_law_26 ?_
      refine x_bipush C (z := 6) dL_law_27 (by decide) ?_
      refine x_isub C dL_law_29 ?_
      refine x_icmp_gt C (tgt := 1824) dL_law_30 (by decide) ⟨by omega, by omega⟩ ⟨by omega, by omega⟩ (fun c30 => ?_) (fun c30 => ?_)
      · exact ret _ _ _ _ h1 h2
      · rcases hd with q | q
        · exfalso; omega
        · exact q.2
    show X G K 9 0 [some (.ref b), none, none, none, none, none, none, none, none] [] (fun _ => none) 0 0
    refine x_new C n_Law_8 hR (by omega) (by omega) dL_law_0 (fun t zt => ?_)
    refine x_dup C dL_law_3 rfl ?_
    refine x_invI C s_Law_87 (st := [.ref t]) (c_Tab_init (a := t) up_s) rfl rfl (Nat.le_of_ble_eq_true rfl) (xRm_of hR (by omega) (by decide) (by omega) (by omega)) dL_law_4 (fun r9 h1 hq => ?_)
    obtain ⟨rfl, ad, e0, hj, TT, hav, hfr, F1⟩ := hq
    subst e0
    refine x_astore_n C (ls' := [some (.ref b), some (.ref (ad 0)), none, none, none, none, none, none, none]) dL_law_7 rfl (by decide) rfl ?_
    refine x_new C n_Law_88 hR (by omega) (by omega) dL_law_8 (fun q zq => ?_)
    refine x_dup C dL_law_11 rfl ?_
    refine x_invI C s_Law_90 (st := [.ref q]) (c_Mo_init (b := q) up_s) rfl rfl (Nat.le_of_ble_eq_true rfl) (xRm_of hR (by omega) (by decide) (by omega) (by omega)) dL_law_12 (fun r9 h2 hq => ?_)
    obtain ⟨rfl, a1, a2, a3, a4, a5, a6, a7, a8, a9, hB, hA1, hA3, hA4, hA5, n45, F2, N2⟩ := hq
    refine x_astore_n C (ls' := [some (.ref b), some (.ref (ad 0)), some (.ref q), none, none, none, none, none, none]) dL_law_15 rfl (by decide) rfl ?_
    refine x_iconst C dL_law_16 ?_
    refine x_newJ C (n := 1) ⟨by omega, by omega⟩ arrayClass_long hR (by omega) (by omega) dL_law_17 (fun o zo => ?_)
    refine x_astore_n C (ls' := [some (.ref b), some (.ref (ad 0)), some (.ref q), some (.ref o), none, none, none, none, none]) dL_law_19 rfl (by decide) rfl ?_
    refine x_iconst C dL_law_20 ?_
    refine x_istore C (ls' := [some (.ref b), some (.ref (ad 0)), some (.ref q), some (.ref o), some (vi 0), none, none, none, none]) dL_law_21 (by decide) rfl ?_
    have nq : ∀ i, own i → q ≠ ad i := fun i hi e => (hav i hi) (by rw [← e]; exact zq)
    have av2 : ∀ i, own i → alv h2 (ad i) := fun i hi => by
      show h2 (ad i) ≠ none
      rw [F2 _ (alv_up (hav i hi)) (Ne.symm (nq i hi))]
      exact alv_up (hav i hi)
    have no : ∀ i, own i → o ≠ ad i := fun i hi e => (av2 i hi) (by rw [← e]; exact zo)
    have na := fun i hi => N2 _ (alv_up (q := q) (v := .inr (8, [vi 0, vi 0, .null, .null, vi 0, vi 0, vi 0, .null, .null, .null, .null, .null, .null, vi 0, vi 0, .null])) (hav i hi))
    have TT3 : TabR G (va_up h2 o (xL G 1 (fun _ => 0))) ad false Q0 P0 := TT.kept (fun i hi => (up_n (Ne.symm (no i hi))).trans ((F2 _ (alv_up (hav i hi)) (Ne.symm (nq i hi))).trans (up_n (Ne.symm (nq i hi)))))
    refine head _ _ _ 0 _ _ _ (by omega) (by omega) (by omega) (by omega) ?_
    by_cases hL6 : L = 6
    · refine Or.inr ⟨rfl, ?_⟩
      refine x_aload_n C dL_law_33 rfl rfl ?_
      refine x_iload C dL_law_34 rfl ?_
      refine x_sld C hX1 hbG hbs (v := (xs 0).toInt) ⟨by omega, by omega, by omega⟩ (I_of _).symm dL_law_36 ?_
      refine x_bipush C (z := 31) dL_law_37 (by decide) ?_
      refine x_iand C (c := (xs 0 &&& 31).toInt) dL_law_39 (by rw [I_of, I_of]; rfl) ?_
      refine law_sw C hR hrm T hj TT3 (go := fun _ => 0) (L := L) (xs := xs) ((up_n (ne_z zo hB)).trans hB) up_s ((up_n (ne_z zo hA1)).trans hA1) ((up_n (ne_z zo hA3)).trans hA3) ((up_n (ne_z zo hA4)).trans hA4) ((up_n (ne_z zo hA5)).trans hA5) n45 (fun i hi => ⟨nq i hi, no i hi, Ne.symm (na i hi).1, Ne.symm (na i hi).2.1, Ne.symm (na i hi).2.2.1, Ne.symm (na i hi).2.2.2⟩) hX1 hbG hbs hL6 (by omega) (by omega) (fun h9 c9 s9 w1 w2 => ?_) (i31 _)
      refine x_iinc C (ls' := [some (.ref b), some (.ref (ad 0)), some (.ref q), some (.ref o), some (vi 6), none, none, none, none]) dL_law_1818 rfl (by decide) (z1 := 6) rfl rfl ?_
      refine x_goto C (tgt := 23) dL_law_1821 (by decide) ?_
      exact head _ _ _ 6 _ _ _ (by omega) (by omega) (by omega) (by omega) (Or.inl (by omega))
    · exact Or.inl (by omega)
  rw [lg_entry_eq]
  have hl := lv_entry ([.ref b]) (n := 9) (Nat.le_of_ble_eq_true rfl)
  rw [eG, eK] at main
  exact main s.heap [] _ ⟨[], ⟨fun k a e h => by simp at h, fun a e h => by cases h⟩, fun k q h => by simp at h, ⟨fun i j p q h => by simp at h, fun k q h => by simp at h⟩⟩ va_S.rf (ent_has hl)

set_option maxHeartbeats 4000000 in
theorem lw_walk (l : Launch) (hflags : l.flags = flags0) (b : Addr) (xs : List Int32) : MetFree l x (headSpec (Jvm.Cond.code x code maxLocals ret :: tables_1) room_1) (lw_P b xs) (fun _ _ _ _ _ => True) lw_Q := by
  refine MetFree.of_bodyS (code := code) (maxLocals := maxLocals) (ret := ret) (by decide) ?_ ?_
  · intro args s m h hn
    obtain ⟨meth, c, h1, h2, h3, h4, h5, h6, -, -⟩ := Cond.code_spec hn (atoms_spec (ws := Jvm.Cond.code x code maxLocals ret :: tables_1) h _ List.mem_cons_self)
    exact ⟨meth, c, h1, h2, h3, h4, h5, h6⟩
  · intro p e s m args below meth c s₁ B hml0 hP _
    obtain ⟨rfl, hx, hbd, hgv⟩ := hP
    obtain ⟨scr, harrAt, hlist, hof, hsmall⟩ := hx
    obtain ⟨hcb, hkn, -, -⟩ := State.arrayAt?_spec harrAt
    have hown : s.vm.findClass R_law = some m.cls := findClass_of_methodNamed B.named
    have hts0 : ∀ c ∈ (Jvm.Cond.code x code maxLocals ret :: tables_1), c.before #[Value.ref b] s = true := atoms_spec (ws := Jvm.Cond.code x code maxLocals ret :: tables_1) B.pre
    have hts : ∀ w ∈ lw_tbl, w.before #[Value.ref b] s = true := k2_hts_sels lw_privs (fun w hw => hts0 w (List.mem_cons_of_mem _ hw)) lw_privs_ok
    have hml : c.maxLocals = 9 := B.maxLocals_eq (hts0 _ List.mem_cons_self)
    have X₀ : Stand p l e room_1 s m #[Value.ref b] below meth c s₁ [] 0 0 := Stand.of_body B
    have hh0 : s₁.heap = s.heap := by rw [B.state]; rfl
    have hsz : scr.slots.size = xs.length := by rw [← Array.length_toList, hlist, List.length_map]
    have hval : ∀ j : Nat, j < xs.length → scr.slots[j]? = some (.int (xs.getD j 0)) := fun j hj => by
      rw [← Array.getElem?_toList, hlist]
      simp [hj]
    have hbl : b < s.heap.size := (Array.getElem?_eq_some_iff.mp hcb).1
    have hX : va_X b xs.length (fun j => xs.getD j 0) s s.heap := ⟨scr, hcb, hof, hkn, hsz, hval⟩
    have K : W p l e room_1 s m #[Value.ref b] below meth c s₁.heap [] 0 0 (lw_Z below #[Value.ref b] s) (entryFrame m ([Value.ref b] : List Value).toArray 9) := by
      rw [hh0]
      exact whole_start l hflags hbd ⟨B.exec, B.bytes, B.returns, hml, hown, hts, hX, hbl, B.notSynchronized, hgv⟩
    obtain ⟨t, a1, o, b1, b2, b3⟩ := K s₁ rfl X₀
    exact ⟨t, o, a1, b1, b2, b3⟩
theorem lw_pre_spec {args : Array Value} {s : State} (h : (Jvm.Cond.and given_1 narrow_1).before args s = true) (hr : rest_1_c.before args s = true) : ∃ (b : Addr) (xs : List Int32), lw_P b xs args s := by
  have hs := flat_of_before _ h
  have hq := flat_of_before _ hr
  have hc : (Cond.count 1).before args s = true := hs _ (by decide +kernel)
  have harr : (Cond.arrayOf (.arg 0) .int).before args s = true := hs _ (by decide +kernel)
  have hle : (Cond.le (.length (.arg 0)) (.int 6)).before args s = true := hs _ (by decide +kernel)
  have hlen : (Cond.isInt (.length (.arg 0))).before args s = true := hq _ (by decide +kernel)
  have hall : (Cond.all (.arg 0) (.isInt (.elem (.arg 0) (.index 0)))).before args s = true := hq _ (by decide +kernel)
  obtain ⟨b, xs, hb, hx⟩ := State.ints_of_pre rfl harr hlen hall
  have hsm : xs.length < 2 ^ 31 := hx.choose_spec.2.2.2
  have hev : (Term.length (.arg 0)).eval args s none [] s = some (.int xs.length.toInt32) := hx.length_eval hb
  have hv := Cond.le_ints hev (show (Term.int 6).eval args s none [] s = some (.int 6) from rfl)
  have hd : xs.length.toInt32 ≤ 6 := by
    simpa [Cond.before, Cond.holds, hv] using hle
  have hN : xs.length ≤ 6 := (Int32.ofNat_le_ofNat hsm (by decide)).mp (show Int32.ofNat xs.length ≤ Int32.ofNat 6 from hd)
  exact ⟨b, xs, Cond.one_arg hc (show args[0]? = some (.ref b) from hb), hx, hN, h⟩
theorem lw_comes (l : Launch) (hflags : l.flags = flags0) : Comes l x (Jvm.Cond.code x code maxLocals ret :: tables_1) room_1 (fun tb e args s => Calls_1 tb e args s ∧ rest_1 tb e args s ∧ Pre_1 tb e args s)
    (fun _ _ args s o t => lw_Q args s o t) := by
  intro p e ha hc hk s m args below hf hfit hheap happ hpre
  obtain ⟨b, xs, hP⟩ := lw_pre_spec hpre.2.2 hpre.2.1
  obtain ⟨k, o, h1, h2, h3, hQ⟩ := lw_walk l hflags b xs p e ha hc hk s m args below hf ((Spec.applies_iff_loose hf).mp happ).1 hP trivial
  exact ⟨k, o, h1, h2, h3, hQ⟩
theorem lw_frame {s t : State} {o : Outcome} {args : Array Value} (h : State.butDraws s t lw_cs (fun t1 => Framed s o t1 [] (Room.cells room_1) (Room.slots room_1))) :
    State.butDraws s t [Jvm.Choice.named "NaN.bits"] (fun t1 => Framed s o t1 (fieldLocs frame_1_writes args s ++ arrayLocs frame_1_arrays args s ++ staticLocs frame_1_statics s) (Room.cells room_1) (Room.slots room_1)) := h
theorem lw_limb (L : Cond) (hL : ∀ (args : Array Value) (s t : State), L.after args s (.returned (some (.int 1))) t = true) :
    ArmFor flags0 classFile x code maxLocals ret World_1 tables_1 room_1 Calls_1 rest_1 Pre_1
      (fun tb e a s o t => postC L tb e a s o t ∧ State.butDraws s t [Jvm.Choice.named "NaN.bits"] (fun t1 => Framed s o t1 (fieldLocs frame_1_writes a s ++ arrayLocs frame_1_arrays a s ++ staticLocs frame_1_statics s) (Room.cells room_1) (Room.slots room_1))) := by
  intro l hflags _ _ p e ha hc hk s m args below hf hfit hheap happ hpre
  obtain ⟨k, o, h1, h2, h3, rfl, hF⟩ := lw_comes l hflags p e ha hc hk s m args below hf hfit hheap happ hpre
  exact ⟨k, _, h1, h2, h3, hL args s _, lw_frame hF⟩
theorem i_vc : Claimed_1_1 ∧ Claimed_1_2 := ⟨lw_limb limb_1_1 (fun args s t => by simp [limb_1_1, Cond.after, Cond.holds, Cond.value]), lw_limb limb_1_2 (fun args s t => Cond.after_iff.mpr (by
  first | (rw [show limb_1_2 = Cond.eq .result (.int 1) from rfl, Cond.eq_ints (x := 1) (y := 1) rfl rfl]; simp; done) | (simp [limb_1_2, Cond.value, Term.eval]; done)))⟩
