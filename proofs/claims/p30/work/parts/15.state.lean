/-! An instrument and a piece in the heap; what a planner reads. -/
def InstR (G : xG) (h : PH) (ad : Nat → Nat) (j n : Nat) (op : Nat → Int) (sl : Nat → Bool) (cp rc : Int) : Prop := h (ad j) = xO 3 [.ref (ad (j + 1)), .ref (ad (j + 2)), vi (n : Int), vi cp, vi rc] ∧ h (ad (j + 1)) = xI G 6 op ∧ h (ad (j + 2)) = xZ G 6 sl
def PieceR (G : xG) (h : PH) (ad : Nat → Nat) (m : Nat) (si : Nat → Nat) (pt : Nat → Nat → Int) (cl cf : Nat → Int) : Prop := h (ad 7) = xO 4 [.ref (ad 8), vi (m : Int)] ∧ h (ad 8) = xQ G 4 12 (fun c => some (ad (20 + c))) ∧ ∀ c, c < 12 → h (ad (20 + c)) = xO 0 [.ref (ad (40 + c)), vi (si c : Int), vi (cl c), vi (cf c)] ∧ h (ad (40 + c)) = xI G 4 (pt c)
/-- the numbers of an instrument and of a piece are what the document says -/
def IV (n : Nat) (op : Nat → Int) (cp rc : Int) : Prop := n ≤ 6 ∧ (∀ j : Nat, j < 6 → 0 ≤ op j ∧ op j ≤ 60) ∧ (0 ≤ cp ∧ cp ≤ 7) ∧ 1 ≤ rc ∧ rc ≤ 6
def CV (m : Nat) (si : Nat → Nat) (pt : Nat → Nat → Int) (cl cf : Nat → Int) : Prop := m ≤ 12 ∧ (∀ c, si c ≤ 4) ∧ (∀ c j, bd (pt c j)) ∧ (∀ c j, c < m → j < si c → 0 ≤ pt c j ∧ pt c j ≤ 80) ∧ ∀ c, bd (cl c) ∧ bd (cf c)
def LT (n : Nat) (op : Nat → Int) (sl : Nat → Bool) (cp rc : Int) (si : Nat → Nat) (pt : Nat → Nat → Int) (c : Nat) : List Nat := plc n op sl cp rc (ptL (pt c) 0 (si c)) 0 []
def numL (L : List Nat) (z : Int) : Int := nOf (fun j => ((L.getD j 0 : Nat) : Int)) z L.length L.length
theorem nOf_cong {g g2 : Nat → Int} {z : Int} {n : Nat} (h : ∀ j, j < n → g j = g2 j) : ∀ m, m ≤ n → nOf g z n m = nOf g2 z n m
  | 0, _ => rfl
  | m + 1, hm => by
    rw [nOf_s, nOf_s, h _ (by omega), nOf_cong h m (by omega)]
theorem nOf_rg (g : Nat → Int) (z : Int) (n : Nat) : ∀ m, m ≤ n → -1 ≤ nOf g z n m ∧ (nOf g z n m < n)
  | 0, _ => by simp only [nOf]; omega
  | m + 1, hm => by
    have h := nOf_rg g z n m (by omega)
    rw [nOf_s]
    split
    · omega
    · exact h
theorem numL_rg (L : List Nat) (z : Int) : -1 ≤ numL L z ∧ numL L z < L.length := nOf_rg _ _ _ _ (Nat.le_refl _)
/-- the first k as in f, the others as in g -/
def upk {α : Type} (k : Nat) (f g : Nat → α) : Nat → α := fun c => if c < k then f c else g c
theorem upk_0 {α : Type} (f g : Nat → α) : upk 0 f g = g := by funext c; simp [upk]
theorem upk_s {α : Type} (k : Nat) (f g : Nat → α) : va_up (upk k f g) k (f k) = upk (k + 1) f g := by
  funext c
  unfold va_up upk
  by_cases h : c = k
  · subst h; simp
  · by_cases h2 : c < k
    · rw [if_neg h, if_pos h2, if_pos (by omega)]
    · rw [if_neg h, if_neg h2, if_neg (by omega)]
theorem upk_lt {α : Type} {k c : Nat} (f g : Nat → α) (h : c < k) : upk k f g c = f c := if_pos h
theorem upk_ge {α : Type} {k c : Nat} (f g : Nat → α) (h : k ≤ c) : upk k f g c = g c := if_neg (by omega)
theorem upk_bd {k : Nat} {f g : Nat → Int} (hf : ∀ c, bd (f c)) (hg : ∀ c, bd (g c)) : ∀ c, bd (upk k f g c) := by
  intro c
  unfold upk
  split
  · exact hf c
  · exact hg c
/-- outside of a planner nothing has changed -/
def frB (ad : Nat → Nat) (B : Nat) (h h' : PH) : Prop := ∀ x, (∀ i, i < 68 → x ≠ ad (B + i)) → h' x = h x
theorem frB.ad {ad : Nat → Nat} {B : Nat} {h h' : PH} (F : frB ad B h h') (hj : ∀ i j, i < 300 → j < 300 → ad i = ad j → i = j) (hB : B = 100 ∨ B = 200) {i : Nat} (hi : i < 300) (ho : i < B ∨ B + 68 ≤ i) : h' (ad i) = h (ad i) := F _ (fun k hk => adne hj (by omega) hi (by omega))
theorem PR.upd {G : xG} {h h1 : PH} {ad : Nat → Nat} {B : Nat} {Ls : Nat → List Nat} {fx ln ch fx1 ln1 : Nat → Int} {tot : Int} {cnt : Nat} {rs : Nat → Nat → Int} (P : PR G h ad B Ls fx ln ch tot cnt rs) {c0 : Nat} (hc : c0 < 12) {L1 : List Nat} (hG : HG G h1 (ad (B + 8 + c0)) (ad (B + 20 + c0)) (ad (B + 32 + c0)) (ad (B + 44 + c0)) L1) (hH : HH G h1 (ad (B + 6)) (ad (B + 7)))
    (e2 : h1 (ad (B + 2)) = xI G 12 fx1) (e4 : h1 (ad (B + 4)) = xI G 12 ln1) (er : ∀ i, i < 68 → i ≠ 2 → i ≠ 4 → i ≠ 6 → i ≠ 7 → i ≠ 8 + c0 → i ≠ 20 + c0 → i ≠ 32 + c0 → i ≠ 44 + c0 → h1 (ad (B + i)) = h (ad (B + i))) : PR G h1 ad B (va_up Ls c0 L1) fx1 ln1 ch tot cnt rs := by
  obtain ⟨p1, p2, p3, p4, p5, p6, p7, p8, p9⟩ := P
  have e : ∀ j c, c < 12 → j + c < 68 → (j = 8 ∨ j = 20 ∨ j = 32 ∨ j = 44 ∨ j = 56) → (j = 56 ∨ c ≠ c0) → h1 (ad (B + j + c)) = h (ad (B + j + c)) := fun j c h1 h2 h3 h4 => by
    have := er (j + c) h2 (by omega) (by omega) (by omega) (by omega) (by omega) (by omega) (by omega) (by omega)
    rwa [← Nat.add_assoc] at this
  refine ⟨(er 0 (by omega) (by omega) (by omega) (by omega) (by omega) (by omega) (by omega) (by omega) (by omega)).trans p1, (er 1 (by omega) (by omega) (by omega) (by omega) (by omega) (by omega) (by omega) (by omega) (by omega)).trans p2, e2, (er 3 (by omega) (by omega) (by omega) (by omega) (by omega) (by omega) (by omega) (by omega) (by omega)).trans p4, e4, (er 5 (by omega) (by omega) (by omega) (by omega) (by omega) (by omega) (by omega) (by omega) (by omega)).trans p6, hH, fun c h12 => ?_, fun c h12 => (e 56 c h12 (by omega) (by omega) (Or.inl rfl)).trans (p9 c h12)⟩
  by_cases q : c = c0
  · subst q
    rw [up_s]
    exact hG
  · rw [up_n q]
    exact (p8 c h12).kept (e 8 c h12 (by omega) (by omega) (Or.inr q)) (e 20 c h12 (by omega) (by omega) (Or.inr q)) (e 32 c h12 (by omega) (by omega) (Or.inr q)) (e 44 c h12 (by omega) (by omega) (Or.inr q))
theorem ndpA {ad : Nat → Nat} {B : Nat} (hj : ∀ i j, i < 300 → j < 300 → ad i = ad j → i = j) (hB : B = 100 ∨ B = 200) {k j : Nat} (hk : k < 12) (hJ : j = 1 ∨ j = 4) : ndp [ad (B + 8 + k), ad (B + 20 + k), ad (B + 32 + k), ad (B + 44 + k), ad (B + 6), ad (B + 7)] [ad j, ad (j + 1), ad (j + 2), ad (20 + k), ad (40 + k)] := by
  have key : ∀ (x : Nat) (l : List Nat), x < 300 → (∀ y ∈ l, y < 300 ∧ x ≠ y) → ∀ z ∈ l.map ad, ad x ≠ z := fun x l hx hl z hz => by
    obtain ⟨y, hy, rfl⟩ := List.mem_map.mp hz
    exact adne hj (hl y hy).2 hx (hl y hy).1
  have g : ∀ (xs ys : List Nat), ndp xs ys → (∀ x ∈ xs, x < 300) → (∀ y ∈ ys, y < 300) → ndp (xs.map ad) (ys.map ad) := by
    intro xs
    induction xs with
    | nil => intro ys _ _ _; trivial
    | cons x xs ih =>
      intro ys hn h1 h2
      exact ⟨key x xs (h1 x List.mem_cons_self) (fun y hy => ⟨h1 y (List.mem_cons_of_mem _ hy), hn.1 y hy⟩), key x ys (h1 x List.mem_cons_self) (fun y hy => ⟨h2 y hy, hn.2.1 y hy⟩), ih ys hn.2.2 (fun z hz => h1 z (List.mem_cons_of_mem _ hz)) h2⟩
  refine g [B + 8 + k, B + 20 + k, B + 32 + k, B + 44 + k, B + 6, B + 7] [j, j + 1, j + 2, 20 + k, 40 + k] ?_ ?_ ?_
  · refine ⟨?_, ?_, ?_, ?_, ?_, ?_, ?_, ?_, ?_, ?_, ?_, ?_, trivial⟩ <;> (intro y hy; simp only [List.mem_cons, List.not_mem_nil, or_false] at hy <;> omega)
  · intro x hx; simp only [List.mem_cons, List.not_mem_nil, or_false] at hx; omega
  · intro x hx; simp only [List.mem_cons, List.not_mem_nil, or_false] at hx; omega
