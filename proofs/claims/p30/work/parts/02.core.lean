/-! THE CORE: a judgement X over the kit's W: pc, locals by place, stack, and a heap that is a partial map from addresses to cells. -/
abbrev PH : Type := Nat → Option va_E
abbrev xG : Type := va_G × (Nat → ClassId) × Nat × Launch
/-- the arrays' types, by number -/
def xtyL : List FieldType := [.int, .boolean, .byte, .array .int, .object "Tablature$Chord", .object "Tablature$Grips"]
def xtys (c : Nat → ClassId) : List (ClassId × FieldType) := (List.range xtyL.length).map fun i => (c i, xtyL.getD i .int)
theorem xtys_at {c : Nat → ClassId} {t : Nat} {ty : FieldType} (h : xtyL[t]? = some ty) : (xtys c)[t]? = some (c t, ty) := by
  have hl : t < xtyL.length := (List.getElem?_eq_some_iff.mp h).1
  unfold xtys
  rw [List.getElem?_map, List.getElem?_range hl]
  simp [List.getD, h]
/-- the links between nest mates (they are no words that a contract takes along) -/
def xNW : List (String × Nat × MethodName × String) := [("Tablature", 9, ⟨"Tablature$Instrument", "<init>", "()V"⟩, "Tablature"), ("Tablature$Piece", 21, ⟨"Tablature$Chord", "<init>", "()V"⟩, "Tablature"), ("Tablature$Planner", 38, ⟨"Tablature$Hand", "<init>", "()V"⟩, "Tablature"), ("Tablature$Planner", 46, ⟨"Tablature$Grips", "<init>", "()V"⟩, "Tablature"), ("Tablature", 38, ⟨"Tablature$Shapes", "<init>", "()V"⟩, "Tablature"), ("Tablature$Shapes", 37, ⟨"Tablature$Hand", "<init>", "()V"⟩, "Tablature"), ("Tablature", 45, ⟨"Tablature$Hand", "<init>", "()V"⟩, "Tablature"), ("TablatureLaw$Neck", 48, ⟨"TablatureLaw", "cell", "([II)I"⟩, "TablatureLaw"), ("TablatureLaw$Neck", 54, ⟨"TablatureLaw", "below", "(II)I"⟩, "TablatureLaw")]
/-- element types of the reference arrays that are made -/
def xAOs : List FieldType := [(Jvm.ClassFile.FieldType.object "Tablature$Chord"), (Jvm.ClassFile.FieldType.object "Tablature$Grips"), (Jvm.ClassFile.FieldType.array Jvm.ClassFile.FieldType.int)]
/-- the words that every method asks for -/
def xWA : List Cond := lw_tbl.filter goodWord
theorem xWA_in {w : Cond} (h : w ∈ lw_tbl) (hg : goodWord w = true) : w ∈ xWA := List.mem_filter.mpr ⟨h, hg⟩
theorem xWA_sub {w : Cond} (h : w ∈ xWA) : w ∈ lw_tbl := (List.mem_filter.mp h).1
theorem xWA_good {w : Cond} (h : w ∈ xWA) : goodWord w = true := (List.mem_filter.mp h).2
abbrev gD (G : xG) : va_G := G.1
abbrev gc (G : xG) : Nat → ClassId := G.2.1
abbrev gN (G : xG) : Nat := G.2.2.1
abbrev gL (G : xG) : Launch := G.2.2.2
def xA (G : xG) : Nat → Prop := fun q => gN G ≤ q
def xR (h : PH) (ws : va_W) : Prop := (∀ (k a : Nat) (e : va_E), ws[k]? = some (a, e) → h a = some e) ∧ ∀ (a : Nat) (e : va_E), h a = some e → ∃ k : Nat, ws[k]? = some (a, e)
def xW (G : xG) (h : PH) (H : Heap) : Prop := ∃ ws : va_W, xR h ws ∧ va_P (gD G) vwCl ws H ∧ va_D (xA G) ws
abbrev xK : Type := Program × Env × Room × State × MethodId × Array Value × List Frame × Method × Code × (State → Prop)
abbrev kp (K : xK) : Program := K.1
abbrev ke (K : xK) : Env := K.2.1
abbrev kR (K : xK) : Room := K.2.2.1
abbrev ks (K : xK) : State := K.2.2.2.1
abbrev km (K : xK) : MethodId := K.2.2.2.2.1
abbrev ka (K : xK) : Array Value := K.2.2.2.2.2.1
abbrev kb (K : xK) : List Frame := K.2.2.2.2.2.2.1
abbrev kt (K : xK) : Method := K.2.2.2.2.2.2.2.1
abbrev kc (K : xK) : Code := K.2.2.2.2.2.2.2.2.1
abbrev kq (K : xK) : State → Prop := K.2.2.2.2.2.2.2.2.2
def xV (lsA : Array Slot) (nL : Nat) (ls : List (Option Value)) : Prop := lsA.size = nL ∧ lv_wf lsA ∧ ∀ (i : Nat) (v : Value), ls[i]? = some (some v) → lsA[i]? = some (.val v)
def X (G : xG) (K : xK) (nL pc : Nat) (ls : List (Option Value)) (st : List Value) (h : PH) (cells slots : Nat) : Prop :=
  ∀ (H : Heap) (locs : List Loc) (lsA : Array Slot), xW G h H → va_S (xA G) (ks K).heap H locs → xV lsA nL ls →
    W (kp K) (gL G) (ke K) (kR K) (ks K) (km K) (ka K) (kb K) (kt K) (kc K) H locs cells slots (kq K) (F0 (km K) pc lsA st)
theorem ao_moved {t : FieldType} {u U : State} (hvm : u.vm.Alike U.vm) (h : va_Nw (.arrayOver t) u) : va_Nw (.arrayOver t) U := by
  unfold va_Nw Cond.before Cond.holds at h ⊢
  simp only [Cond.value] at h ⊢
  have hcl : ∀ s : String, U.vm.findClass s = u.vm.findClass s := fun s => hvm.findClass s _
  simp only [hcl] at h ⊢
  rw [beq_iff_eq] at h ⊢
  rw [Option.bind_eq_some_iff] at h ⊢
  obtain ⟨comp, h1, h2⟩ := h
  refine ⟨comp, h1, ?_⟩
  rw [Option.bind_eq_some_iff] at h2 ⊢
  obtain ⟨c, h3, h4⟩ := h2
  have e1 := va_idx_bare U.vm comp
  have e2 := va_idx_bare u.vm comp
  have eb : U.vm.bare = u.vm.bare := by first | exact hvm.bare_eq | exact hvm.bare_eq.symm
  rw [eb] at e1
  refine ⟨c, e1.symm.trans (e2.trans h3), ?_⟩
  rw [Option.map_eq_some_iff] at h4 ⊢
  obtain ⟨k, h5, h6⟩ := h4
  obtain ⟨k', hk', he⟩ := hvm.2.2 _ _ h5
  refine ⟨k', hk', ?_⟩
  rw [he]
  exact h6
def xKX (G : xG) (U : State) : Prop := va_K (gD G) vwCl (xtys (gc G)) U ∧ (∃ kA : Class, U.vm.classes[gc G 3]? = some kA ∧ kA.kind = .array (gc G 0) (.array .int)) ∧ (∀ q ∈ xNW, va_Nw (.methodLinkNest q.1 q.2.1 q.2.2.1 q.2.2.2) U) ∧ ∀ t ∈ xAOs, va_Nw (.arrayOver t) U
theorem xKX.warm {G : xG} {u U : State} (hW : u.WarmedH U.vm) (h : xKX G u) : xKX G U := by
  obtain ⟨h1, ⟨kA, h2, h3⟩, h4, h5⟩ := h
  obtain ⟨k', hk', he⟩ := hW.alike.2.2 _ _ h2
  exact ⟨h1.moved hW.alike, ⟨k', hk', by rw [he]; exact h3⟩, fun q hq => (h4 q hq).warmM hW, fun t ht => ao_moved hW.alike (h5 t ht)⟩
theorem xKX.same {G : xG} {u U : State} (hv : u.vm = U.vm) (h : xKX G u) : xKX G U := by
  obtain ⟨h1, ⟨kA, h2, h3⟩, h4, h5⟩ := h
  exact ⟨h1.moved (hv ▸ Vm.Alike.refl _), ⟨kA, by rw [← hv]; exact h2, h3⟩, fun q hq => (h4 q hq).same rfl hv, fun t ht => ao_moved (hv ▸ Vm.Alike.refl _) (h5 t ht)⟩
def xC (G : xG) (K : xK) (own : String) (cc : ByteArray) (nL : Nat) : Prop :=
  (kp K).tables.exec = Jvm.exec ∧ (kc K).code = cc ∧ (kc K).maxLocals = nL ∧ (ks K).vm.findClass own = some (km K).cls ∧ (∀ w ∈ xWA, w.before (ka K) (ks K) = true) ∧ (kt K).locks = false ∧ xKX G (ks K) ∧ gN G ≤ (ks K).heap.size
theorem xC.hK {G : xG} {K : xK} {own : String} {cc : ByteArray} {nL : Nat} (C : xC G K own cc nL) : va_K (gD G) vwCl (xtys (gc G)) (ks K) := C.2.2.2.2.2.2.1.1
def isLong : Option Value → Bool
  | some (.long _) => true
  | some (.double _) => true
  | _ => false
theorem isLong_of {v : Value} (h : v.category = 2) : isLong (some v) = true := by cases v <;> first | rfl | simp [Value.category] at h
def st1 : List (Option Value) → Nat → Value → List (Option Value)
  | [], _, _ => []
  | _ :: l, 0, v => some v :: l
  | x :: l, i + 1, v => (if i = 0 ∧ isLong x = true then none else x) :: st1 l i v
def st2 : List (Option Value) → Nat → Value → List (Option Value)
  | [], _, _ => []
  | [_], 0, v => [some v]
  | _ :: _ :: l, 0, v => some v :: none :: l
  | x :: l, i + 1, v => (if i = 0 ∧ isLong x = true then none else x) :: st2 l i v
theorem st1_get : ∀ (l : List (Option Value)) (i : Nat) (v : Value) (j : Nat) (u : Value), (st1 l i v)[j]? = some (some u) → (j = i ∧ u = v) ∨ (j ≠ i ∧ l[j]? = some (some u) ∧ ¬ (j + 1 = i ∧ u.category = 2))
  | [], i, v, j, u, h => by simp [st1] at h
  | x :: l, 0, v, j, u, h => by
    cases j with
    | zero => simp [st1] at h; exact Or.inl ⟨rfl, h.symm⟩
    | succ j => exact Or.inr ⟨by omega, by simpa [st1] using h, by omega⟩
  | x :: l, i + 1, v, j, u, h => by
    cases j with
    | zero =>
      simp only [st1, List.getElem?_cons_zero, Option.some.injEq] at h
      by_cases c : i = 0 ∧ isLong x = true
      · rw [if_pos c] at h; cases h
      · rw [if_neg c] at h
        subst h
        exact Or.inr ⟨by omega, rfl, fun q => c ⟨by omega, isLong_of q.2⟩⟩
    | succ j =>
      simp only [st1, List.getElem?_cons_succ] at h
      rcases st1_get l i v j u h with ⟨a, b⟩ | ⟨a, b, c⟩
      · exact Or.inl ⟨by omega, b⟩
      · exact Or.inr ⟨by omega, by simpa using b, fun q => c ⟨by omega, q.2⟩⟩
theorem st2_get : ∀ (l : List (Option Value)) (i : Nat) (v : Value) (j : Nat) (u : Value), (st2 l i v)[j]? = some (some u) → (j = i ∧ u = v) ∨ (j ≠ i ∧ j ≠ i + 1 ∧ l[j]? = some (some u) ∧ ¬ (j + 1 = i ∧ u.category = 2))
  | [], i, v, j, u, h => by simp [st2] at h
  | [x], 0, v, j, u, h => by
    cases j with
    | zero => simp [st2] at h; exact Or.inl ⟨rfl, h.symm⟩
    | succ j => simp [st2] at h
  | x :: y :: l, 0, v, j, u, h => by
    match j with
    | 0 => simp [st2] at h; exact Or.inl ⟨rfl, h.symm⟩
    | 1 => simp [st2] at h
    | j + 2 => exact Or.inr ⟨by omega, by omega, by simpa [st2] using h, by omega⟩
  | x :: l, i + 1, v, j, u, h => by
    cases j with
    | zero =>
      simp only [st2, List.getElem?_cons_zero, Option.some.injEq] at h
      by_cases c : i = 0 ∧ isLong x = true
      · rw [if_pos c] at h; cases h
      · rw [if_neg c] at h
        subst h
        exact Or.inr ⟨by omega, by omega, rfl, fun q => c ⟨by omega, isLong_of q.2⟩⟩
    | succ j =>
      simp only [st2, List.getElem?_cons_succ] at h
      rcases st2_get l i v j u h with ⟨a, b⟩ | ⟨a, a2, b, c⟩
      · exact Or.inl ⟨by omega, b⟩
      · exact Or.inr ⟨by omega, by omega, by simpa using b, fun q => c ⟨by omega, q.2⟩⟩
def xlv (ls : List (Option Value)) : List (Nat × Value) := (List.range ls.length).filterMap fun i => match ls[i]? with
  | some (some v) => some (i, v)
  | _ => none
theorem xlv_mem {ls : List (Option Value)} {i : Nat} {v : Value} : (i, v) ∈ xlv ls ↔ ls[i]? = some (some v) := by
  unfold xlv
  rw [List.mem_filterMap]
  constructor
  · rintro ⟨j, -, hj⟩
    cases h : ls[j]? with
    | none => rw [h] at hj; cases hj
    | some o =>
      cases o with
      | none => rw [h] at hj; cases hj
      | some u => rw [h] at hj; cases hj; exact h
  · intro h
    exact ⟨i, List.mem_range.mpr (List.getElem?_eq_some_iff.mp h).1, by rw [h]⟩
theorem xV.has {lsA : Array Slot} {nL : Nat} {ls : List (Option Value)} (h : xV lsA nL ls) : lv_has lsA nL (xlv ls) := ⟨h.1, h.2.1, fun q hq => h.2.2 q.1 q.2 (xlv_mem.mp hq)⟩
theorem xV.get {lsA : Array Slot} {nL : Nat} {ls : List (Option Value)} (h : xV lsA nL ls) {i : Nat} {v : Value} (hi : ls[i]? = some (some v)) : lsA[i]? = some (.val v) := h.2.2 i v hi
theorem xV.put1 {ls' : Array Slot} {nL : Nat} {ls : List (Option Value)} {i : Nat} {v : Value} (h : lv_has ls' nL ((i, v) :: (xlv ls).filter (fun q => !(q.1 == i) && !(q.1 + 1 == i && q.2.category == 2)))) : xV ls' nL (st1 ls i v) := by
  obtain ⟨a, b, c⟩ := h
  refine ⟨a, b, fun j u hj => ?_⟩
  rcases st1_get ls i v j u hj with ⟨rfl, rfl⟩ | ⟨h1, h2, h3⟩
  · exact c _ List.mem_cons_self
  · refine c (j, u) (List.mem_cons_of_mem _ (List.mem_filter.mpr ⟨xlv_mem.mpr h2, ?_⟩))
    simp only [Bool.and_eq_true, Bool.not_eq_true', beq_eq_false_iff_ne, ne_eq, Bool.and_eq_false_iff]
    refine ⟨h1, ?_⟩
    by_cases q : j + 1 = i
    · exact Or.inr (fun z => h3 ⟨q, z⟩)
    · exact Or.inl q
theorem xV.put2 {ls' : Array Slot} {nL : Nat} {ls : List (Option Value)} {i : Nat} {v : Value} (h : lv_has ls' nL ((i, v) :: (xlv ls).filter (fun q => !(q.1 == i) && (!(q.1 == i + 1) && !(q.1 + 1 == i && q.2.category == 2))))) : xV ls' nL (st2 ls i v) := by
  obtain ⟨a, b, c⟩ := h
  refine ⟨a, b, fun j u hj => ?_⟩
  rcases st2_get ls i v j u hj with ⟨rfl, rfl⟩ | ⟨h1, h1b, h2, h3⟩
  · exact c _ List.mem_cons_self
  · refine c (j, u) (List.mem_cons_of_mem _ (List.mem_filter.mpr ⟨xlv_mem.mpr h2, ?_⟩))
    simp only [Bool.and_eq_true, Bool.not_eq_true', beq_eq_false_iff_ne, ne_eq, Bool.and_eq_false_iff]
    refine ⟨h1, h1b, ?_⟩
    by_cases q : j + 1 = i
    · exact Or.inr (fun z => h3 ⟨q, z⟩)
    · exact Or.inl q
/-- fewer locals known -/
def fewer : List (Option Value) → List (Option Value) → Bool
  | [], [] => true
  | a :: l, b :: m => (match b with | none => true | some _ => true) && fewer l m
  | _, _ => false
theorem X.sub {G : xG} {K : xK} {nL pc : Nat} {ls ls' : List (Option Value)} {st : List Value} {h : PH} {cells slots : Nat} (hs : ∀ (i : Nat) (v : Value), ls'[i]? = some (some v) → ls[i]? = some (some v)) (k : X G K nL pc ls' st h cells slots) : X G K nL pc ls st h cells slots :=
  fun H locs lsA hW hS hV => k H locs lsA hW hS ⟨hV.1, hV.2.1, fun i v hi => hV.2.2 i v (hs i v hi)⟩
theorem sub_cons {a : Option Value} {b : Option Value} {l m : List (Option Value)} (h : b = none ∨ a = b) (hs : ∀ (i : Nat) (v : Value), m[i]? = some (some v) → l[i]? = some (some v)) : ∀ (i : Nat) (v : Value), (b :: m)[i]? = some (some v) → (a :: l)[i]? = some (some v) := by
  intro i v hi
  cases i with
  | zero =>
    rcases h with h | h
    · subst h; simp at hi
    · subst h; simpa using hi
  | succ i => simpa using hs i v (by simpa using hi)
theorem sub_nil {l : List (Option Value)} : ∀ (i : Nat) (v : Value), ([] : List (Option Value))[i]? = some (some v) → l[i]? = some (some v) := fun i v h => by simp at h
/-- whole numbers as 32 bits -/
def I (z : Int) : Int32 := Int32.ofInt z
abbrev bd (z : Int) : Prop := -2147483648 ≤ z ∧ z < 2147483648
theorem I_toInt {z : Int} (h : bd z) : (I z).toInt = z := Int32.toInt_ofInt_of_le h.1 (by have := h.2; omega)
theorem I_of (x : Int32) : I x.toInt = x := Int32.ofInt_toInt x
theorem I_inj {a b : Int} (ha : bd a) (hb : bd b) : I a = I b ↔ a = b := ⟨fun h => by rw [← I_toInt ha, ← I_toInt hb, h], fun h => by rw [h]⟩
theorem I_lt {a b : Int} (ha : bd a) (hb : bd b) : I a < I b ↔ a < b := by rw [Int32.lt_iff_toInt_lt, I_toInt ha, I_toInt hb]
theorem I_le {a b : Int} (ha : bd a) (hb : bd b) : I a ≤ I b ↔ a ≤ b := by rw [Int32.le_iff_toInt_le, I_toInt ha, I_toInt hb]
theorem I_add (a b : Int) : I a + I b = I (a + b) := (Int32.ofInt_add a b).symm
theorem I_sub (a b : Int) : I a - I b = I (a - b) := (Int32.ofInt_sub a b).symm
theorem I_mul (a b : Int) : I a * I b = I (a * b) := (Int32.ofInt_mul a b).symm
theorem I_lit (n : Nat) : (OfNat.ofNat n : Int32) = I (OfNat.ofNat n) := rfl
theorem I_bd (x : Int32) : bd x.toInt := ⟨Int32.le_toInt x, Int32.toInt_lt x⟩
theorem bd_0 : bd 0 := ⟨by decide, by decide⟩
abbrev vi (z : Int) : Value := .int (I z)
def b2i (b : Bool) : Int := if b then 1 else 0
theorem bd_b2i (b : Bool) : bd (b2i b) := by cases b <;> decide
/-- cells -/
abbrev xO (ci : Nat) (fs : List Value) : Option va_E := some (.inr (ci, fs))
abbrev xI (G : xG) (n : Nat) (g : Nat → Int) : Option va_E := some (.inl (gc G 0, n, .inl (fun j => I (g j))))
abbrev xZ (G : xG) (n : Nat) (g : Nat → Bool) : Option va_E := some (.inl (gc G 1, n, .inl (fun j => I (b2i (g j)))))
abbrev xL (G : xG) (n : Nat) (g : Nat → Int64) : Option va_E := some (.inl (gc G 2, n, .inr (.inl g)))
abbrev xQ (G : xG) (t n : Nat) (g : Nat → Option Nat) : Option va_E := some (.inl (gc G t, n, .inr (.inr (.inr (.inr g)))))
theorem up_s {α : Type} {f : Nat → α} {k : Nat} {v : α} : va_up f k v k = v := if_pos rfl
theorem up_n {α : Type} {f : Nat → α} {k j : Nat} {v : α} (h : j ≠ k) : va_up f k v j = f j := if_neg h
theorem up_u {α : Type} (f : Nat → α) (k : Nat) (v u : α) : va_up (va_up f k v) k u = va_up f k u := by funext j; unfold va_up; by_cases h : j = k <;> simp [h]
theorem up_c {α : Type} (f : Nat → α) {k j : Nat} (v u : α) (h : k ≠ j) : va_up (va_up f k v) j u = va_up (va_up f j u) k v := by
  funext i; unfold va_up
  by_cases h1 : i = j
  · subst h1; simp [Ne.symm h]
  · by_cases h2 : i = k
    · subst h2; simp [h]
    · simp [h1, h2]
theorem up_self {α : Type} {f : Nat → α} {k : Nat} {v : α} (h : f k = v) : va_up f k v = f := by funext j; unfold va_up; by_cases q : j = k <;> simp [q, h]
theorem xR.set {h : PH} {ws : va_W} {A : Nat → Prop} {k a : Nat} {e e' : va_E} (r : xR h ws) (hD : va_D A ws) (hk : ws[k]? = some (a, e)) : xR (va_up h a (some e')) (ws.set k (a, e')) := by
  have hl := (List.getElem?_eq_some_iff.mp hk).1
  refine ⟨fun j b d hj => ?_, fun b d hb => ?_⟩
  · by_cases hjk : j = k
    · subst hjk
      rw [List.getElem?_set_self hl] at hj
      cases hj
      exact up_s
    · rw [List.getElem?_set_ne (Ne.symm hjk)] at hj
      rw [up_n (fun q => hjk (hD.1 j k _ _ hj hk q))]
      exact r.1 j b d hj
  · by_cases hba : b = a
    · subst hba
      rw [up_s] at hb
      cases hb
      exact ⟨k, List.getElem?_set_self hl⟩
    · rw [up_n hba] at hb
      obtain ⟨j, hj⟩ := r.2 b d hb
      refine ⟨j, ?_⟩
      rw [List.getElem?_set_ne]
      · exact hj
      · intro q
        subst q
        rw [hk] at hj
        cases hj
        exact hba rfl
theorem xR.push {h : PH} {ws : va_W} {q : Nat} {e : va_E} (r : xR h ws) {A : Nat → Prop} (hD : va_D A (ws ++ [(q, e)])) : h q = none ∧ xR (va_up h q (some e)) (ws ++ [(q, e)]) := by
  have hq : h q = none := by
    cases hz : h q with
    | none => rfl
    | some d =>
      obtain ⟨k, hk⟩ := r.2 q d hz
      have hl := (List.getElem?_eq_some_iff.mp hk).1
      have := hD.1 k ws.length (q, d) (q, e) (by rw [List.getElem?_append_left hl]; exact hk) (by simp) rfl
      omega
  refine ⟨hq, fun j b d hj => ?_, fun b d hb => ?_⟩
  · by_cases hl : j < ws.length
    · rw [List.getElem?_append_left hl] at hj
      have h1 := r.1 j b d hj
      rw [up_n (fun z => by rw [z, hq] at h1; cases h1)]
      exact h1
    · rw [List.getElem?_append_right (by omega)] at hj
      have hz : j - ws.length < 1 := (List.getElem?_eq_some_iff.mp hj).1
      rw [show j - ws.length = 0 by omega] at hj
      cases hj
      exact up_s
  · by_cases hbq : b = q
    · subst hbq
      rw [up_s] at hb
      cases hb
      exact ⟨ws.length, by simp⟩
    · rw [up_n hbq] at hb
      obtain ⟨j, hj⟩ := r.2 b d hb
      exact ⟨j, by rw [List.getElem?_append_left (List.getElem?_eq_some_iff.mp hj).1]; exact hj⟩
section XR
variable {G : xG} {K : xK} {own : String} {cc : ByteArray} {nL pc : Nat} {ls : List (Option Value)} {st : List Value} {h : PH} {cells slots : Nat}
theorem x_iload (C : xC G K own cc nL) {i : Nat} {x : Int32} (hd : decode cc pc = .ok (.iload i, 2)) (hl : ls[i]? = some (some (.int x))) (k : X G K nL (pc + 2) ls (.int x :: st) h cells slots) : X G K nL pc ls (st) h cells slots := fun H locs lsA hW hS hV => lv_iload C.1 C.2.1 hd (hV.get hl) (k H locs lsA hW hS hV)
theorem x_iload_n (C : xC G K own cc nL) {n : Fin 4} {i : Nat} {x : Int32} (hd : decode cc pc = .ok (.iload_n n, 1)) (hi : (n : Nat) = i) (hl : ls[i]? = some (some (.int x))) (k : X G K nL (pc + 1) ls (.int x :: st) h cells slots) : X G K nL pc ls (st) h cells slots := fun H locs lsA hW hS hV => lv_iload_n C.1 C.2.1 hd hi (hV.get hl) (k H locs lsA hW hS hV)
theorem x_istore (C : xC G K own cc nL) {i : Nat} {x : Int32} {ls' : List (Option Value)} (hd : decode cc pc = .ok (.istore i, 2)) (hi : i < nL) (hl : st1 ls i (.int x) = ls') (k : X G K nL (pc + 2) ls' st h cells slots) : X G K nL pc ls (.int x :: st) h cells slots := fun H locs lsA hW hS hV => lv_istore C.1 C.2.1 hd hV.has hi rfl (fun l' hl' => k H locs l' hW hS (by rw [← hl]; exact xV.put1 hl'))
theorem x_istore_n (C : xC G K own cc nL) {n : Fin 4} {i : Nat} {x : Int32} {ls' : List (Option Value)} (hd : decode cc pc = .ok (.istore_n n, 1)) (hn : (n : Nat) = i) (hi : i < nL) (hl : st1 ls i (.int x) = ls') (k : X G K nL (pc + 1) ls' st h cells slots) : X G K nL pc ls (.int x :: st) h cells slots := fun H locs lsA hW hS hV => lv_istore_n C.1 C.2.1 hd hn hV.has hi rfl (fun l' hl' => k H locs l' hW hS (by rw [← hl]; exact xV.put1 hl'))
theorem x_lload (C : xC G K own cc nL) {i : Nat} {x : Int64} (hd : decode cc pc = .ok (.lload i, 2)) (hl : ls[i]? = some (some (.long x))) (k : X G K nL (pc + 2) ls (.long x :: st) h cells slots) : X G K nL pc ls (st) h cells slots := fun H locs lsA hW hS hV => lv_lload C.1 C.2.1 hd (hV.get hl) (k H locs lsA hW hS hV)
theorem x_lload_n (C : xC G K own cc nL) {n : Fin 4} {i : Nat} {x : Int64} (hd : decode cc pc = .ok (.lload_n n, 1)) (hi : (n : Nat) = i) (hl : ls[i]? = some (some (.long x))) (k : X G K nL (pc + 1) ls (.long x :: st) h cells slots) : X G K nL pc ls (st) h cells slots := fun H locs lsA hW hS hV => lv_lload_n C.1 C.2.1 hd hi (hV.get hl) (k H locs lsA hW hS hV)
theorem x_lstore (C : xC G K own cc nL) {i : Nat} {x : Int64} {ls' : List (Option Value)} (hd : decode cc pc = .ok (.lstore i, 2)) (hi : i + 1 < nL) (hl : st2 ls i (.long x) = ls') (k : X G K nL (pc + 2) ls' st h cells slots) : X G K nL pc ls (.long x :: st) h cells slots := fun H locs lsA hW hS hV => lv_lstore C.1 C.2.1 hd hV.has hi rfl (fun l' hl' => k H locs l' hW hS (by rw [← hl]; exact xV.put2 hl'))
theorem x_lstore_n (C : xC G K own cc nL) {n : Fin 4} {i : Nat} {x : Int64} {ls' : List (Option Value)} (hd : decode cc pc = .ok (.lstore_n n, 1)) (hn : (n : Nat) = i) (hi : i + 1 < nL) (hl : st2 ls i (.long x) = ls') (k : X G K nL (pc + 1) ls' st h cells slots) : X G K nL pc ls (.long x :: st) h cells slots := fun H locs lsA hW hS hV => lv_lstore_n C.1 C.2.1 hd hn hV.has hi rfl (fun l' hl' => k H locs l' hW hS (by rw [← hl]; exact xV.put2 hl'))
theorem x_aload (C : xC G K own cc nL) {i : Nat} {x : Nat} (hd : decode cc pc = .ok (.aload i, 2)) (hl : ls[i]? = some (some (.ref x))) (k : X G K nL (pc + 2) ls (.ref x :: st) h cells slots) : X G K nL pc ls (st) h cells slots := fun H locs lsA hW hS hV => lv_aload C.1 C.2.1 hd (hV.get hl) (k H locs lsA hW hS hV)
theorem x_aload_n (C : xC G K own cc nL) {n : Fin 4} {i : Nat} {x : Nat} (hd : decode cc pc = .ok (.aload_n n, 1)) (hi : (n : Nat) = i) (hl : ls[i]? = some (some (.ref x))) (k : X G K nL (pc + 1) ls (.ref x :: st) h cells slots) : X G K nL pc ls (st) h cells slots := fun H locs lsA hW hS hV => lv_aload_n C.1 C.2.1 hd hi (hV.get hl) (k H locs lsA hW hS hV)
theorem x_astore (C : xC G K own cc nL) {i : Nat} {x : Nat} {ls' : List (Option Value)} (hd : decode cc pc = .ok (.astore i, 2)) (hi : i < nL) (hl : st1 ls i (.ref x) = ls') (k : X G K nL (pc + 2) ls' st h cells slots) : X G K nL pc ls (.ref x :: st) h cells slots := fun H locs lsA hW hS hV => lv_astore C.1 C.2.1 hd hV.has hi rfl (fun l' hl' => k H locs l' hW hS (by rw [← hl]; exact xV.put1 hl'))
theorem x_astore_n (C : xC G K own cc nL) {n : Fin 4} {i : Nat} {x : Nat} {ls' : List (Option Value)} (hd : decode cc pc = .ok (.astore_n n, 1)) (hn : (n : Nat) = i) (hi : i < nL) (hl : st1 ls i (.ref x) = ls') (k : X G K nL (pc + 1) ls' st h cells slots) : X G K nL pc ls (.ref x :: st) h cells slots := fun H locs lsA hW hS hV => lv_astore_n C.1 C.2.1 hd hn hV.has hi rfl (fun l' hl' => k H locs l' hW hS (by rw [← hl]; exact xV.put1 hl'))
theorem x_iinc (C : xC G K own cc nL) {i : Nat} {n z : Int} {ls' : List (Option Value)} (hd : decode cc pc = .ok (.iinc i n, 3)) (hl : ls[i]? = some (some (vi z))) (hi : i < nL) {z1 : Int} (hz : z + n = z1) (hs : st1 ls i (vi z1) = ls') (k : X G K nL (pc + 3) ls' st h cells slots) : X G K nL pc ls st h cells slots := fun H locs lsA hW hS hV => by
  obtain ⟨k0, hk0⟩ := List.getElem?_of_mem (xlv_mem.mpr hl)
  subst hz
  exact lv_iinc C.1 C.2.1 hd hV.has hk0 (v := I (z + n)) (I_add z n) hi rfl (fun l' hl' => k H locs l' hW hS (by rw [← hs]; exact xV.put1 hl'))
theorem x_iconst (C : xC G K own cc nL) {n : Int} (hd : decode cc pc = .ok (.iconst n, 1)) (k : X G K nL (pc + 1) ls (vi n :: st) h cells slots) : X G K nL pc ls (st) h cells slots := fun H locs lsA hW hS hV => lv_iconst C.1 C.2.1 hd rfl (k H locs lsA hW hS hV)
theorem x_bipush (C : xC G K own cc nL) {n z : Int} (hd : decode cc pc = .ok (.bipush n, 2)) (hz : (Int8.ofInt n).toInt32 = I z) (k : X G K nL (pc + 2) ls (vi z :: st) h cells slots) : X G K nL pc ls (st) h cells slots := fun H locs lsA hW hS hV => lv_bipush C.1 C.2.1 hd hz (k H locs lsA hW hS hV)
theorem x_sipush (C : xC G K own cc nL) {n z : Int} (hd : decode cc pc = .ok (.sipush n, 3)) (hz : (Int16.ofInt n).toInt32 = I z) (k : X G K nL (pc + 3) ls (vi z :: st) h cells slots) : X G K nL pc ls (st) h cells slots := fun H locs lsA hW hS hV => lv_sipush C.1 C.2.1 hd hz (k H locs lsA hW hS hV)
theorem x_lconst (C : xC G K own cc nL) {n : Fin 2} {v : Int64} (hd : decode cc pc = .ok (.lconst n, 1)) (hv : Int64.ofNat (n : Nat) = v) (k : X G K nL (pc + 1) ls (.long v :: st) h cells slots) : X G K nL pc ls (st) h cells slots := fun H locs lsA hW hS hV => lv_lconst C.1 C.2.1 hd hv (k H locs lsA hW hS hV)
theorem x_ldc (C : xC G K own cc nL) {idx : Nat} {z : Int} (hw : Cond.constant own idx (I z) ∈ xWA) (hd : decode cc pc = .ok (.ldc idx, 2)) (k : X G K nL (pc + 2) ls (vi z :: st) h cells slots) : X G K nL pc ls (st) h cells slots := fun H locs lsA hW hS hV => lv_ldc C.1 C.2.1 C.2.2.2.1 (C.2.2.2.2.1 _ hw) hd (k H locs lsA hW hS hV)
theorem x_ldcw (C : xC G K own cc nL) {idx : Nat} {z : Int} (hw : Cond.constant own idx (I z) ∈ xWA) (hd : decode cc pc = .ok (.ldc_w idx, 3)) (k : X G K nL (pc + 3) ls (vi z :: st) h cells slots) : X G K nL pc ls (st) h cells slots := fun H locs lsA hW hS hV => lv_ldcw C.1 C.2.1 C.2.2.2.1 (C.2.2.2.2.1 _ hw) hd (k H locs lsA hW hS hV)
theorem x_ldc2 (C : xC G K own cc nL) {idx : Nat} {v : Int64} (hw : Cond.constantLong own idx v ∈ xWA) (hd : decode cc pc = .ok (.ldc2_w idx, 3)) (k : X G K nL (pc + 3) ls (.long v :: st) h cells slots) : X G K nL pc ls (st) h cells slots := fun H locs lsA hW hS hV => lv_ldc2 C.1 C.2.1 C.2.2.2.1 (C.2.2.2.2.1 _ hw) hd (k H locs lsA hW hS hV)
theorem x_dup (C : xC G K own cc nL) {v : Value} (hd : decode cc pc = .ok (.dup, 1)) (hv : v.category = 1) (k : X G K nL (pc + 1) ls (v :: v :: st) h cells slots) : X G K nL pc ls (v :: st) h cells slots := fun H locs lsA hW hS hV => lv_dup C.1 C.2.1 hd hv (k H locs lsA hW hS hV)
theorem x_dup_x1 (C : xC G K own cc nL) {v u : Value} (hd : decode cc pc = .ok (.dup_x1, 1)) (hv : v.category = 1) (hu : u.category = 1) (k : X G K nL (pc + 1) ls (v :: u :: v :: st) h cells slots) : X G K nL pc ls (v :: u :: st) h cells slots := fun H locs lsA hW hS hV => lv_dup_x1 C.1 C.2.1 hd hv hu (k H locs lsA hW hS hV)
theorem x_pop (C : xC G K own cc nL) {v : Value} (hd : decode cc pc = .ok (.pop, 1)) (hv : v.category = 1) (k : X G K nL (pc + 1) ls (st) h cells slots) : X G K nL pc ls (v :: st) h cells slots := fun H locs lsA hW hS hV => lv_pop C.1 C.2.1 hd hv (k H locs lsA hW hS hV)
theorem x_iadd (C : xC G K own cc nL) {a b : Int} (hd : decode cc pc = .ok (.iadd, 1)) (k : X G K nL (pc + 1) ls (vi (a + b) :: st) h cells slots) : X G K nL pc ls (vi b :: vi a :: st) h cells slots := fun H locs lsA hW hS hV => lv_iadd C.1 C.2.1 hd (by rw [I_add]; exact (k H locs lsA hW hS hV))
theorem x_isub (C : xC G K own cc nL) {a b : Int} (hd : decode cc pc = .ok (.isub, 1)) (k : X G K nL (pc + 1) ls (vi (a - b) :: st) h cells slots) : X G K nL pc ls (vi b :: vi a :: st) h cells slots := fun H locs lsA hW hS hV => lv_isub C.1 C.2.1 hd (by rw [I_sub]; exact (k H locs lsA hW hS hV))
theorem x_imul (C : xC G K own cc nL) {a b : Int} (hd : decode cc pc = .ok (.imul, 1)) (k : X G K nL (pc + 1) ls (vi (a * b) :: st) h cells slots) : X G K nL pc ls (vi b :: vi a :: st) h cells slots := fun H locs lsA hW hS hV => lv_imul C.1 C.2.1 hd (by rw [I_mul]; exact (k H locs lsA hW hS hV))
theorem x_iand (C : xC G K own cc nL) {a b c : Int} (hd : decode cc pc = .ok (.iand, 1)) (hc : I a &&& I b = I c) (k : X G K nL (pc + 1) ls (vi c :: st) h cells slots) : X G K nL pc ls (vi b :: vi a :: st) h cells slots := fun H locs lsA hW hS hV => lv_iand C.1 C.2.1 hd (by rw [hc]; exact (k H locs lsA hW hS hV))
theorem x_ior (C : xC G K own cc nL) {a b c : Int} (hd : decode cc pc = .ok (.ior, 1)) (hc : I a ||| I b = I c) (k : X G K nL (pc + 1) ls (vi c :: st) h cells slots) : X G K nL pc ls (vi b :: vi a :: st) h cells slots := fun H locs lsA hW hS hV => lv_ior C.1 C.2.1 hd (by rw [hc]; exact (k H locs lsA hW hS hV))
theorem x_ixor (C : xC G K own cc nL) {a b c : Int} (hd : decode cc pc = .ok (.ixor, 1)) (hc : I a ^^^ I b = I c) (k : X G K nL (pc + 1) ls (vi c :: st) h cells slots) : X G K nL pc ls (vi b :: vi a :: st) h cells slots := fun H locs lsA hW hS hV => lv_ixor C.1 C.2.1 hd (by rw [hc]; exact (k H locs lsA hW hS hV))
theorem x_ishl (C : xC G K own cc nL) {a b c : Int} (hd : decode cc pc = .ok (.ishl, 1)) (hc : I a <<< (I b &&& 31) = I c) (k : X G K nL (pc + 1) ls (vi c :: st) h cells slots) : X G K nL pc ls (vi b :: vi a :: st) h cells slots := fun H locs lsA hW hS hV => lv_ishl C.1 C.2.1 hd (by rw [hc]; exact (k H locs lsA hW hS hV))
theorem x_ishr (C : xC G K own cc nL) {a b c : Int} (hd : decode cc pc = .ok (.ishr, 1)) (hc : I a >>> (I b &&& 31) = I c) (k : X G K nL (pc + 1) ls (vi c :: st) h cells slots) : X G K nL pc ls (vi b :: vi a :: st) h cells slots := fun H locs lsA hW hS hV => lv_ishr C.1 C.2.1 hd (by rw [hc]; exact (k H locs lsA hW hS hV))
theorem x_iushr (C : xC G K own cc nL) {a b c : Int} (hd : decode cc pc = .ok (.iushr, 1)) (hc : ((I a).toUInt32 >>> ((I b).toUInt32 &&& Int32.toUInt32 31)).toInt32 = I c) (k : X G K nL (pc + 1) ls (vi c :: st) h cells slots) : X G K nL pc ls (vi b :: vi a :: st) h cells slots := fun H locs lsA hW hS hV => lv_iushr C.1 C.2.1 hd hc (k H locs lsA hW hS hV)
theorem x_idiv (C : xC G K own cc nL) {a b c : Int} (hd : decode cc pc = .ok (.idiv, 1)) (h0 : ¬ I b = 0) (hc : I a / I b = I c) (k : X G K nL (pc + 1) ls (vi c :: st) h cells slots) : X G K nL pc ls (vi b :: vi a :: st) h cells slots := fun H locs lsA hW hS hV => lv_idiv C.1 C.2.1 hd h0 (by rw [hc]; exact (k H locs lsA hW hS hV))
theorem x_irem (C : xC G K own cc nL) {a b c : Int} (hd : decode cc pc = .ok (.irem, 1)) (h0 : ¬ I b = 0) (hc : I a - I a / I b * I b = I c) (k : X G K nL (pc + 1) ls (vi c :: st) h cells slots) : X G K nL pc ls (vi b :: vi a :: st) h cells slots := fun H locs lsA hW hS hV => lv_irem C.1 C.2.1 hd h0 (by rw [hc]; exact (k H locs lsA hW hS hV))
theorem x_i2l (C : xC G K own cc nL) {a : Int} (hd : decode cc pc = .ok (.i2l, 1)) (k : X G K nL (pc + 1) ls (.long (I a).toInt64 :: st) h cells slots) : X G K nL pc ls (vi a :: st) h cells slots := fun H locs lsA hW hS hV => lv_i2l C.1 C.2.1 hd rfl (k H locs lsA hW hS hV)
theorem x_ladd (C : xC G K own cc nL) {a b : Int64} (hd : decode cc pc = .ok (.ladd, 1)) (k : X G K nL (pc + 1) ls (.long (a + b) :: st) h cells slots) : X G K nL pc ls (.long b :: .long a :: st) h cells slots := fun H locs lsA hW hS hV => lv_ladd C.1 C.2.1 hd (k H locs lsA hW hS hV)
theorem x_lmul (C : xC G K own cc nL) {a b : Int64} (hd : decode cc pc = .ok (.lmul, 1)) (k : X G K nL (pc + 1) ls (.long (a * b) :: st) h cells slots) : X G K nL pc ls (.long b :: .long a :: st) h cells slots := fun H locs lsA hW hS hV => lv_lmul C.1 C.2.1 hd (k H locs lsA hW hS hV)
theorem x_goto (C : xC G K own cc nL) {off : Int} {tgt : Nat} (hd : decode cc pc = .ok (.goto off, 3)) (ht : (pc : Int) + off = (tgt : Int)) (k : X G K nL (tgt) ls (st) h cells slots) : X G K nL pc ls (st) h cells slots := fun H locs lsA hW hS hV => lv_goto C.1 C.2.1 hd ht (k H locs lsA hW hS hV)
theorem x_null (C : xC G K own cc nL) (hd : decode cc pc = .ok (.aconst_null, 1)) (k : X G K nL (pc + 1) ls (.null :: st) h cells slots) : X G K nL pc ls (st) h cells slots := fun H locs lsA hW hS hV => lv_null C.1 C.2.1 hd (k H locs lsA hW hS hV)
theorem x_icmp_eq (C : xC G K own cc nL) {a b off : Int} {tgt : Nat} (hd : decode cc pc = .ok (.if_icmp .eq off, 3)) (ht : (pc : Int) + off = (tgt : Int)) (ha : bd a) (hb : bd b) (kt : a = b → X G K nL tgt ls st h cells slots) (kf : ¬ a = b → X G K nL (pc + 3) ls st h cells slots) : X G K nL pc ls (vi b :: vi a :: st) h cells slots := fun H locs lsA hW hS hV => lv_icmp_eq C.1 C.2.1 hd ht (fun c => kt ((I_inj ha hb).mp c) H locs lsA hW hS hV) (fun c => kf (fun q => c ((I_inj ha hb).mpr q)) H locs lsA hW hS hV)
theorem x_if_eq (C : xC G K own cc nL) {a off : Int} {tgt : Nat} (hd : decode cc pc = .ok (.ifCond .eq off, 3)) (ht : (pc : Int) + off = (tgt : Int)) (ha : bd a) (kt : a = 0 → X G K nL tgt ls st h cells slots) (kf : ¬ a = 0 → X G K nL (pc + 3) ls st h cells slots) : X G K nL pc ls (vi a :: st) h cells slots := fun H locs lsA hW hS hV => lv_if_eq C.1 C.2.1 hd ht (fun c => kt ((I_inj ha bd_0).mp c) H locs lsA hW hS hV) (fun c => kf (fun q => c ((I_inj ha bd_0).mpr q)) H locs lsA hW hS hV)
theorem x_icmp_ne (C : xC G K own cc nL) {a b off : Int} {tgt : Nat} (hd : decode cc pc = .ok (.if_icmp .ne off, 3)) (ht : (pc : Int) + off = (tgt : Int)) (ha : bd a) (hb : bd b) (kt : ¬ a = b → X G K nL tgt ls st h cells slots) (kf : a = b → X G K nL (pc + 3) ls st h cells slots) : X G K nL pc ls (vi b :: vi a :: st) h cells slots := fun H locs lsA hW hS hV => lv_icmp_ne C.1 C.2.1 hd ht (fun c => kt (fun q => c ((I_inj ha hb).mpr q)) H locs lsA hW hS hV) (fun c => kf ((I_inj ha hb).mp c) H locs lsA hW hS hV)
theorem x_if_ne (C : xC G K own cc nL) {a off : Int} {tgt : Nat} (hd : decode cc pc = .ok (.ifCond .ne off, 3)) (ht : (pc : Int) + off = (tgt : Int)) (ha : bd a) (kt : ¬ a = 0 → X G K nL tgt ls st h cells slots) (kf : a = 0 → X G K nL (pc + 3) ls st h cells slots) : X G K nL pc ls (vi a :: st) h cells slots := fun H locs lsA hW hS hV => lv_if_ne C.1 C.2.1 hd ht (fun c => kt (fun q => c ((I_inj ha bd_0).mpr q)) H locs lsA hW hS hV) (fun c => kf ((I_inj ha bd_0).mp c) H locs lsA hW hS hV)
theorem x_icmp_lt (C : xC G K own cc nL) {a b off : Int} {tgt : Nat} (hd : decode cc pc = .ok (.if_icmp .lt off, 3)) (ht : (pc : Int) + off = (tgt : Int)) (ha : bd a) (hb : bd b) (kt : a < b → X G K nL tgt ls st h cells slots) (kf : b ≤ a → X G K nL (pc + 3) ls st h cells slots) : X G K nL pc ls (vi b :: vi a :: st) h cells slots := fun H locs lsA hW hS hV => lv_icmp_lt C.1 C.2.1 hd ht (fun c => kt ((I_lt ha hb).mp c) H locs lsA hW hS hV) (fun c => kf (by have := mt (I_lt ha hb).mpr c; omega) H locs lsA hW hS hV)
theorem x_if_lt (C : xC G K own cc nL) {a off : Int} {tgt : Nat} (hd : decode cc pc = .ok (.ifCond .lt off, 3)) (ht : (pc : Int) + off = (tgt : Int)) (ha : bd a) (kt : a < 0 → X G K nL tgt ls st h cells slots) (kf : 0 ≤ a → X G K nL (pc + 3) ls st h cells slots) : X G K nL pc ls (vi a :: st) h cells slots := fun H locs lsA hW hS hV => lv_if_lt C.1 C.2.1 hd ht (fun c => kt ((I_lt ha bd_0).mp c) H locs lsA hW hS hV) (fun c => kf (by have := mt (I_lt ha bd_0).mpr c; omega) H locs lsA hW hS hV)
theorem x_icmp_ge (C : xC G K own cc nL) {a b off : Int} {tgt : Nat} (hd : decode cc pc = .ok (.if_icmp .ge off, 3)) (ht : (pc : Int) + off = (tgt : Int)) (ha : bd a) (hb : bd b) (kt : b ≤ a → X G K nL tgt ls st h cells slots) (kf : a < b → X G K nL (pc + 3) ls st h cells slots) : X G K nL pc ls (vi b :: vi a :: st) h cells slots := fun H locs lsA hW hS hV => lv_icmp_ge C.1 C.2.1 hd ht (fun c => kt ((I_le hb ha).mp c) H locs lsA hW hS hV) (fun c => kf (by have := mt (I_le hb ha).mpr c; omega) H locs lsA hW hS hV)
theorem x_if_ge (C : xC G K own cc nL) {a off : Int} {tgt : Nat} (hd : decode cc pc = .ok (.ifCond .ge off, 3)) (ht : (pc : Int) + off = (tgt : Int)) (ha : bd a) (kt : 0 ≤ a → X G K nL tgt ls st h cells slots) (kf : a < 0 → X G K nL (pc + 3) ls st h cells slots) : X G K nL pc ls (vi a :: st) h cells slots := fun H locs lsA hW hS hV => lv_if_ge C.1 C.2.1 hd ht (fun c => kt ((I_le bd_0 ha).mp c) H locs lsA hW hS hV) (fun c => kf (by have := mt (I_le bd_0 ha).mpr c; omega) H locs lsA hW hS hV)
theorem x_icmp_gt (C : xC G K own cc nL) {a b off : Int} {tgt : Nat} (hd : decode cc pc = .ok (.if_icmp .gt off, 3)) (ht : (pc : Int) + off = (tgt : Int)) (ha : bd a) (hb : bd b) (kt : b < a → X G K nL tgt ls st h cells slots) (kf : a ≤ b → X G K nL (pc + 3) ls st h cells slots) : X G K nL pc ls (vi b :: vi a :: st) h cells slots := fun H locs lsA hW hS hV => lv_icmp_gt C.1 C.2.1 hd ht (fun c => kt ((I_lt hb ha).mp c) H locs lsA hW hS hV) (fun c => kf (by have := mt (I_lt hb ha).mpr c; omega) H locs lsA hW hS hV)
theorem x_if_gt (C : xC G K own cc nL) {a off : Int} {tgt : Nat} (hd : decode cc pc = .ok (.ifCond .gt off, 3)) (ht : (pc : Int) + off = (tgt : Int)) (ha : bd a) (kt : 0 < a → X G K nL tgt ls st h cells slots) (kf : a ≤ 0 → X G K nL (pc + 3) ls st h cells slots) : X G K nL pc ls (vi a :: st) h cells slots := fun H locs lsA hW hS hV => lv_if_gt C.1 C.2.1 hd ht (fun c => kt ((I_lt bd_0 ha).mp c) H locs lsA hW hS hV) (fun c => kf (by have := mt (I_lt bd_0 ha).mpr c; omega) H locs lsA hW hS hV)
theorem x_icmp_le (C : xC G K own cc nL) {a b off : Int} {tgt : Nat} (hd : decode cc pc = .ok (.if_icmp .le off, 3)) (ht : (pc : Int) + off = (tgt : Int)) (ha : bd a) (hb : bd b) (kt : a ≤ b → X G K nL tgt ls st h cells slots) (kf : b < a → X G K nL (pc + 3) ls st h cells slots) : X G K nL pc ls (vi b :: vi a :: st) h cells slots := fun H locs lsA hW hS hV => lv_icmp_le C.1 C.2.1 hd ht (fun c => kt ((I_le ha hb).mp c) H locs lsA hW hS hV) (fun c => kf (by have := mt (I_le ha hb).mpr c; omega) H locs lsA hW hS hV)
theorem x_if_le (C : xC G K own cc nL) {a off : Int} {tgt : Nat} (hd : decode cc pc = .ok (.ifCond .le off, 3)) (ht : (pc : Int) + off = (tgt : Int)) (ha : bd a) (kt : a ≤ 0 → X G K nL tgt ls st h cells slots) (kf : 0 < a → X G K nL (pc + 3) ls st h cells slots) : X G K nL pc ls (vi a :: st) h cells slots := fun H locs lsA hW hS hV => lv_if_le C.1 C.2.1 hd ht (fun c => kt ((I_le ha bd_0).mp c) H locs lsA hW hS hV) (fun c => kf (by have := mt (I_le ha bd_0).mpr c; omega) H locs lsA hW hS hV)
theorem x_ifeqB (C : xC G K own cc nL) {p : Bool} {off : Int} {tgt : Nat} (hd : decode cc pc = .ok (.ifCond .eq off, 3)) (ht : (pc : Int) + off = (tgt : Int)) (kt : p = false → X G K nL tgt ls st h cells slots) (kf : p = true → X G K nL (pc + 3) ls st h cells slots) : X G K nL pc ls (vi (b2i p) :: st) h cells slots := fun H locs lsA hW hS hV => by
  cases p
  · exact lv_if_eq C.1 C.2.1 hd ht (fun c => kt rfl H locs lsA hW hS hV) (fun c => absurd rfl c)
  · exact lv_if_eq C.1 C.2.1 hd ht (fun c => absurd c (by decide)) (fun c => kf rfl H locs lsA hW hS hV)
theorem x_ifneB (C : xC G K own cc nL) {p : Bool} {off : Int} {tgt : Nat} (hd : decode cc pc = .ok (.ifCond .ne off, 3)) (ht : (pc : Int) + off = (tgt : Int)) (kt : p = true → X G K nL tgt ls st h cells slots) (kf : p = false → X G K nL (pc + 3) ls st h cells slots) : X G K nL pc ls (vi (b2i p) :: st) h cells slots := fun H locs lsA hW hS hV => by
  cases p
  · exact lv_if_ne C.1 C.2.1 hd ht (fun c => absurd rfl c) (fun c => kf rfl H locs lsA hW hS hV)
  · exact lv_if_ne C.1 C.2.1 hd ht (fun c => kt rfl H locs lsA hW hS hV) (fun c => absurd c (by decide))
theorem x_tsw (C : xC G K own cc nL) {dflt lo hi z : Int} {offs : Array Int} {len tgt : Nat} {off : Int} (hd : decode cc pc = .ok (.tableswitch dflt lo hi offs, len)) (hz : bd z) (h1 : lo ≤ z) (h2 : z ≤ hi) (ho : offs[(z - lo).toNat]? = some off) (ht : (pc : Int) + off = (tgt : Int)) (k : X G K nL tgt ls st h cells slots) : X G K nL pc ls (vi z :: st) h cells slots := fun H locs lsA hW hS hV => lv_tableIn C.1 C.2.1 hd (by rw [I_toInt hz]; omega) (by rw [I_toInt hz]; omega) (by rw [I_toInt hz]; exact ho) ht (k H locs lsA hW hS hV)
theorem x_tswD (C : xC G K own cc nL) {dflt lo hi z : Int} {offs : Array Int} {len tgt : Nat} (hd : decode cc pc = .ok (.tableswitch dflt lo hi offs, len)) (hz : bd z) (h1 : z < lo ∨ hi < z) (ht : (pc : Int) + dflt = (tgt : Int)) (k : X G K nL tgt ls st h cells slots) : X G K nL pc ls (vi z :: st) h cells slots := fun H locs lsA hW hS hV => lv_tableOut C.1 C.2.1 hd (by rw [I_toInt hz]; exact h1) ht (k H locs lsA hW hS hV)
theorem in_of {i : Int} {n : Nat} (h : 0 ≤ i ∧ i < n ∧ i < 2147483648) : vp_in (I i) n ∧ (I i).toNatClampNeg = i.toNat := by
  have hb : bd i := ⟨by omega, h.2.2⟩
  refine ⟨vp_in_iff.mpr (by rw [I_toInt hb]; exact ⟨h.1, h.2.1⟩), ?_⟩
  show (I i).toInt.toNat = _
  rw [I_toInt hb]
theorem upI (g : Nat → Int) (k : Nat) (z : Int) : upd (fun j => I (g j)) k (I z) = fun j => I (va_up g k z j) := by
  funext j; unfold upd va_up
  by_cases q : j = k <;> simp [q]
theorem upZ (g : Nat → Bool) (k : Nat) (z : Bool) : upd (fun j => I (b2i (g j))) k (I (b2i z)) = fun j => I (b2i (va_up g k z j)) := by
  funext j; unfold upd va_up
  by_cases q : j = k <;> simp [q]
theorem narB (z : Bool) : vp_nar .boolean (I (b2i z)) = I (b2i z) := by cases z <;> decide
theorem x_iald (C : xC G K own cc nL) {a n : Nat} {g : Nat → Int} {i : Int} (hA : h a = xI G n g) (hi : 0 ≤ i ∧ i < n ∧ i < 2147483648) {v : Int} (hv : g i.toNat = v) (hd : decode cc pc = .ok (.iaload, 1)) (k : X G K nL (pc + 1) ls (vi v :: st) h cells slots) : X G K nL pc ls (vi i :: .ref a :: st) h cells slots := fun H locs lsA hW hS hV => by
  obtain ⟨ws, r, hP, hD⟩ := id hW
  obtain ⟨q, hq⟩ := r.2 a _ hA
  obtain ⟨h1, h2⟩ := in_of hi
  exact va_iald C.1 C.2.1 C.hK hP q 0 hq (xtys_at rfl) h1 hd (by rw [h2, hv]; exact k H locs lsA hW hS hV)
theorem x_zald (C : xC G K own cc nL) {a n : Nat} {g : Nat → Bool} {i : Int} (hA : h a = xZ G n g) (hi : 0 ≤ i ∧ i < n ∧ i < 2147483648) {v : Bool} (hv : g i.toNat = v) (hd : decode cc pc = .ok (.baload, 1)) (k : X G K nL (pc + 1) ls (vi (b2i v) :: st) h cells slots) : X G K nL pc ls (vi i :: .ref a :: st) h cells slots := fun H locs lsA hW hS hV => by
  obtain ⟨ws, r, hP, hD⟩ := id hW
  obtain ⟨q, hq⟩ := r.2 a _ hA
  obtain ⟨h1, h2⟩ := in_of hi
  exact va_zald C.1 C.2.1 C.hK hP q 1 hq (xtys_at rfl) h1 hd (by rw [h2, hv]; exact k H locs lsA hW hS hV)
theorem x_aald (C : xC G K own cc nL) {a t n b : Nat} {ty : FieldType} {g : Nat → Option Nat} {i : Int} (ht : xtyL[t]? = some ty) (hr : ty.isReference = true) (hA : h a = xQ G t n g) (hi : 0 ≤ i ∧ i < n ∧ i < 2147483648) (hg : g i.toNat = some b) (hd : decode cc pc = .ok (.aaload, 1)) (k : X G K nL (pc + 1) ls (.ref b :: st) h cells slots) : X G K nL pc ls (vi i :: .ref a :: st) h cells slots := fun H locs lsA hW hS hV => by
  obtain ⟨ws, r, hP, hD⟩ := id hW
  obtain ⟨q, hq⟩ := r.2 a _ hA
  obtain ⟨h1, h2⟩ := in_of hi
  have hlt : (I i).toNatClampNeg < n := Nat.not_le.mp fun q => h1 (Or.inr q)
  exact W.aald (v := va_rf (g (I i).toNatClampNeg)) (ty := ty) C.1 C.2.1 (hP q _ hq) ((C.hK.2 t _ (xtys_at ht)).1 n (fun j => va_rf (g j))) hr (fun q => by cases q) (by show ¬ (I i < 0 ∨ (arrV _ _ _).slots.size ≤ _); rw [arrV_size]; exact h1) (by show (arrV _ _ _).slots[_]? = _; rw [arrV_read _ _ hlt]) rfl rfl hd (by rw [h2, hg]; exact k H locs lsA hW hS hV)
theorem x_iast (C : xC G K own cc nL) {a n : Nat} {g : Nat → Int} {i z : Int} (hA : h a = xI G n g) (hi : 0 ≤ i ∧ i < n ∧ i < 2147483648) {h1 : PH} (he : va_up h a (xI G n (va_up g i.toNat z)) = h1) (hd : decode cc pc = .ok (.iastore, 1)) (k : X G K nL (pc + 1) ls st h1 cells slots) : X G K nL pc ls (vi z :: vi i :: .ref a :: st) h cells slots := fun H locs lsA hW hS hV => by
  obtain ⟨ws, r, hP, hD⟩ := id hW
  obtain ⟨q, hq⟩ := r.2 a _ hA
  obtain ⟨i1, i2⟩ := in_of hi
  refine va_iast C.1 C.2.1 C.hK hP hD hS q 0 hq (xtys_at rfl) i1 hd (fun H1 locs1 hP1 hD1 hS1 => ?_)
  rw [i2, upI] at hP1 hD1
  exact k H1 locs1 lsA ⟨_, he ▸ r.set hD hq, hP1, hD1⟩ hS1 hV
theorem x_zast (C : xC G K own cc nL) {a n : Nat} {g : Nat → Bool} {i : Int} {z : Bool} (hA : h a = xZ G n g) (hi : 0 ≤ i ∧ i < n ∧ i < 2147483648) {h1 : PH} (he : va_up h a (xZ G n (va_up g i.toNat z)) = h1) (hd : decode cc pc = .ok (.bastore, 1)) (k : X G K nL (pc + 1) ls st h1 cells slots) : X G K nL pc ls (vi (b2i z) :: vi i :: .ref a :: st) h cells slots := fun H locs lsA hW hS hV => by
  obtain ⟨ws, r, hP, hD⟩ := id hW
  obtain ⟨q, hq⟩ := r.2 a _ hA
  obtain ⟨i1, i2⟩ := in_of hi
  refine va_zast C.1 C.2.1 C.hK hP hD hS q 1 hq (xtys_at rfl) i1 hd (fun H1 locs1 hP1 hD1 hS1 => ?_)
  rw [i2, narB, upZ] at hP1 hD1
  exact k H1 locs1 lsA ⟨_, he ▸ r.set hD hq, hP1, hD1⟩ hS1 hV
theorem x_alen (C : xC G K own cc nL) {a t : Nat} {x : vp_A} {ty : FieldType} (ht : xtyL[t]? = some ty) (hA : h a = some (.inl (gc G t, x))) (hd : decode cc pc = .ok (.arraylength, 1)) (k : X G K nL (pc + 1) ls (vi (x.1 : Nat) :: st) h cells slots) : X G K nL pc ls (.ref a :: st) h cells slots := fun H locs lsA hW hS hV => by
  obtain ⟨ws, r, hP, hD⟩ := id hW
  obtain ⟨q, hq⟩ := r.2 a _ hA
  exact va_alen C.1 C.2.1 C.hK hP q t hq (xtys_at ht) (v := I (x.1 : Nat)) rfl hd (k H locs lsA hW hS hV)
/-- an object's field: the tables' words of the access at 'own', entry 'idx' -/
def xF (own : String) (idx ci k : Nat) : Prop := ∃ (Cn : String) (T : u_T) (N : Nat), vwCl[ci]? = some (Cn, T, N) ∧ (∀ w ∈ u_ws Cn T N, w ∈ xWA) ∧ k < N ∧ Cond.fieldLink own idx (T k).1 (T k).2.1 (T k).2.2.1 ∈ xWA
def xP (own : String) (idx ci k : Nat) (ty : FieldType) (fin : Bool) : Prop := ∃ (Cn : String) (T : u_T) (N : Nat) (ty0 : Nat → FieldType), vwCl[ci]? = some (Cn, T, N) ∧ (∀ w ∈ u_ws Cn T N, w ∈ xWA) ∧ k < N ∧ Cond.fieldLink own idx (T k).1 (T k).2.1 (T k).2.2.1 ∈ xWA ∧ (∀ k, k < N → parseFieldDescriptor (T k).2.2.1 = some (ty0 k)) ∧ (∀ a, a < N → ∀ b, b < N → a ≠ b → (T a).2.1 ≠ (T b).2.1) ∧ (T k).2.2.2 = fin ∧ parseFieldDescriptor (T k).2.2.1 = some ty ∧ (fin = false ∨ (T k).1 = own)
def fitsV (ty : FieldType) (v : Value) : Prop := narrow ty v = v ∧ fits ty v = true
theorem fit_int (x : Int32) : fitsV .int (.int x) := ⟨rfl, rfl⟩
theorem fit_bool (z : Bool) : fitsV .boolean (vi (b2i z)) := by cases z <;> exact ⟨by decide, by decide⟩
theorem fit_ref (s : String) (q : Nat) : fitsV (.object s) (.ref q) := ⟨rfl, rfl⟩
theorem fit_arr (t : FieldType) (q : Nat) : fitsV (.array t) (.ref q) := ⟨rfl, rfl⟩
theorem x_get (C : xC G K own cc nL) {idx ci f : Nat} (F : xF own idx ci f) {a : Nat} {fs : List Value} {v : Value} (hA : h a = xO ci fs) (hv : fs[f]? = some v) (hd : decode cc pc = .ok (.getfield idx, 3)) (k : X G K nL (pc + 3) ls (v :: st) h cells slots) : X G K nL pc ls (.ref a :: st) h cells slots := fun H locs lsA hW hS hV => by
  obtain ⟨ws, r, hP, hD⟩ := id hW
  obtain ⟨q, hq⟩ := r.2 a _ hA
  obtain ⟨Cn, T, N, hc, hin, hk, hl⟩ := F
  exact va_get C.1 C.2.1 C.2.2.2.2.1 hin C.2.2.2.1 C.hK hP q hq hc f hk (C.2.2.2.2.1 _ hl) (fun _ h9 => h9) hv hd (k H locs lsA hW hS hV)
theorem x_put (C : xC G K own cc nL) {idx ci f : Nat} {ty : FieldType} (F : xP own idx ci f ty false) {a : Nat} {fs : List Value} {v : Value} (hA : h a = xO ci fs) (hv : fitsV ty v) (hlen : f < fs.length) {h1 : PH} (he : va_up h a (xO ci (fs.set f v)) = h1) (hd : decode cc pc = .ok (.putfield idx, 3)) (k : X G K nL (pc + 3) ls st h1 cells slots) : X G K nL pc ls (v :: .ref a :: st) h cells slots := fun H locs lsA hW hS hV => by
  obtain ⟨ws, r, hP, hD⟩ := id hW
  obtain ⟨q, hq⟩ := r.2 a _ hA
  obtain ⟨Cn, T, N, ty0, hc, hin, hk, hl, g1, g2, g3, g4, -⟩ := F
  exact va_put C.1 C.2.1 C.2.2.2.2.1 hin ty0 g1 g2 C.2.2.2.1 C.hK hP hD hS q hq hc f hk (C.2.2.2.2.1 _ hl) (fun _ h9 => h9) g3 g4 hv.1 hv.2 hlen hd (fun H1 locs1 hP1 hD1 hS1 => k H1 locs1 lsA ⟨_, he ▸ r.set hD hq, hP1, hD1⟩ hS1 hV)
theorem x_putF (C : xC G K own cc nL) {idx ci f : Nat} {ty : FieldType} (F : xP own idx ci f ty true) (hin2 : (kt K).name = "<init>") {a : Nat} {fs : List Value} {v : Value} (hA : h a = xO ci fs) (hv : fitsV ty v) (hlen : f < fs.length) {h1 : PH} (he : va_up h a (xO ci (fs.set f v)) = h1) (hd : decode cc pc = .ok (.putfield idx, 3)) (k : X G K nL (pc + 3) ls st h1 cells slots) : X G K nL pc ls (v :: .ref a :: st) h cells slots := fun H locs lsA hW hS hV => by
  obtain ⟨ws, r, hP, hD⟩ := id hW
  obtain ⟨q, hq⟩ := r.2 a _ hA
  obtain ⟨Cn, T, N, ty0, hc, hin, hk, hl, g1, g2, g3, g4, g5⟩ := F
  exact va_putF C.1 C.2.1 C.2.2.2.2.1 hin ty0 g1 g2 C.2.2.2.1 C.hK hP hD hS q hq hc f hk (C.2.2.2.2.1 _ hl) (fun _ h9 => h9) g3 hin2 (g5.resolve_left (by decide)) g4 hv.1 hv.2 hlen hd (fun H1 locs1 hP1 hD1 hS1 => k H1 locs1 lsA ⟨_, he ▸ r.set hD hq, hP1, hD1⟩ hS1 hV)
/-- the same rows over plain 32 bits -/
theorem xr_iadd (C : xC G K own cc nL) {a b : Int32} (hd : decode cc pc = .ok (.iadd, 1)) (k : X G K nL (pc + 1) ls (.int (a + b) :: st) h cells slots) : X G K nL pc ls (.int b :: .int a :: st) h cells slots := fun H locs lsA hW hS hV => lv_iadd C.1 C.2.1 hd (k H locs lsA hW hS hV)
theorem xr_isub (C : xC G K own cc nL) {a b : Int32} (hd : decode cc pc = .ok (.isub, 1)) (k : X G K nL (pc + 1) ls (.int (a - b) :: st) h cells slots) : X G K nL pc ls (.int b :: .int a :: st) h cells slots := fun H locs lsA hW hS hV => lv_isub C.1 C.2.1 hd (k H locs lsA hW hS hV)
theorem xr_iand (C : xC G K own cc nL) {a b : Int32} (hd : decode cc pc = .ok (.iand, 1)) (k : X G K nL (pc + 1) ls (.int (a &&& b) :: st) h cells slots) : X G K nL pc ls (.int b :: .int a :: st) h cells slots := fun H locs lsA hW hS hV => lv_iand C.1 C.2.1 hd (k H locs lsA hW hS hV)
theorem xr_iushr (C : xC G K own cc nL) {a b : Int32} (hd : decode cc pc = .ok (.iushr, 1)) (k : X G K nL (pc + 1) ls (.int ((a.toUInt32 >>> (b.toUInt32 &&& Int32.toUInt32 31)).toInt32) :: st) h cells slots) : X G K nL pc ls (.int b :: .int a :: st) h cells slots := fun H locs lsA hW hS hV => lv_iushr C.1 C.2.1 hd rfl (k H locs lsA hW hS hV)
/-- another name for what stands on the stack, for the heap -/
theorem x_re {a b : Int} (he : a = b) (k : X G K nL pc ls (vi b :: st) h cells slots) : X G K nL pc ls (vi a :: st) h cells slots := he ▸ k
theorem X.heq {h1 : PH} (he : h = h1) (k : X G K nL pc ls st h1 cells slots) : X G K nL pc ls st h cells slots := he ▸ k
theorem X.cs {c1 s1 : Nat} (hc : cells = c1) (hs : slots = s1) (k : X G K nL pc ls st h c1 s1) : X G K nL pc ls st h cells slots := by subst hc; subst hs; exact k
/-- the room is at least -/
def xGe (K : xK) (d mc ms : Nat) : Prop := d ≤ (kR K).frames ∧ 48 * d ≤ (kR K).locals ∧ mc ≤ (kR K).cells ∧ ms ≤ (kR K).slots
end XR

