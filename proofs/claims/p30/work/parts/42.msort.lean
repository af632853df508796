/-! Lists of codes, sorted by what they take. -/
/-- which one of two codes comes first -/
def klt (a b : Nat) : Prop := hEff (fr a) < hEff (fr b) ∨ (hEff (fr a) = hEff (fr b) ∧ a < b)
theorem klt_irr (a : Nat) : ¬ klt a a := by unfold klt; omega
theorem klt_tr {a b c : Nat} (h1 : klt a b) (h2 : klt b c) : klt a c := by unfold klt at *; omega
theorem klt_tot (a b : Nat) : klt a b ∨ a = b ∨ klt b a := by unfold klt; omega
theorem klt_as {a b : Nat} (h : klt a b) : ¬ klt b a := by unfold klt at *; omega
def kltb (a b : Nat) : Bool := decide (hEff (fr a) < hEff (fr b) ∨ (hEff (fr a) = hEff (fr b) ∧ a < b))
theorem kltb_t {a b : Nat} : kltb a b = true ↔ klt a b := decide_eq_true_iff
def ins (c : Nat) : List Nat → List Nat
  | [] => [c]
  | x :: L => if kltb c x = true then c :: x :: L else x :: ins c L
theorem ins_mem {c y : Nat} : ∀ {L : List Nat}, y ∈ ins c L ↔ y = c ∨ y ∈ L
  | [] => by simp [ins]
  | x :: L => by
    unfold ins
    split
    · simp
    · rw [List.mem_cons, ins_mem, List.mem_cons]
      constructor
      · rintro (h | h | h)
        · exact Or.inr (Or.inl h)
        · exact Or.inl h
        · exact Or.inr (Or.inr h)
      · rintro (h | h | h)
        · exact Or.inr (Or.inl h)
        · exact Or.inl h
        · exact Or.inr (Or.inr h)
/-- strictly sorted -/
def srt : List Nat → Prop
  | [] => True
  | x :: L => (∀ y ∈ L, klt x y) ∧ srt L
theorem srt_ins {c : Nat} : ∀ {L : List Nat}, srt L → c ∉ L → srt (ins c L)
  | [], _, _ => ⟨fun y hy => (nomatch hy), trivial⟩
  | x :: L, h, hc => by
    unfold ins
    have hx : c ≠ x := fun e => hc (by rw [e]; exact List.mem_cons_self)
    split
    · rename_i q
      have q := kltb_t.mp q
      refine ⟨fun y hy => ?_, h⟩
      rcases List.mem_cons.mp hy with e | e
      · rw [e]; exact q
      · exact klt_tr q (h.1 y e)
    · rename_i q
      have q : klt x c := by
        rcases klt_tot c x with w | w | w
        · exact absurd (kltb_t.mpr w) q
        · exact absurd w hx
        · exact w
      refine ⟨fun y hy => ?_, srt_ins h.2 (fun w => hc (List.mem_cons_of_mem _ w))⟩
      rcases ins_mem.mp hy with e | e
      · rw [e]; exact q
      · exact h.1 y e
/-- sorted lists with the same members are the same -/
theorem srt_eq : ∀ {L M : List Nat}, srt L → srt M → (∀ y, y ∈ L ↔ y ∈ M) → L = M
  | [], [], _, _, _ => rfl
  | [], y :: M, _, _, h => absurd ((h y).mpr List.mem_cons_self) (by simp)
  | x :: L, [], _, _, h => absurd ((h x).mp List.mem_cons_self) (by simp)
  | x :: L, y :: M, hL, hM, h => by
    have e : x = y := by
      rcases List.mem_cons.mp ((h x).mp List.mem_cons_self) with a | a
      · exact a
      · rcases List.mem_cons.mp ((h y).mpr List.mem_cons_self) with b | b
        · exact b.symm
        · exact absurd (hL.1 y b) (klt_as (hM.1 x a))
    subst e
    refine congrArg (x :: ·) (srt_eq hL.2 hM.2 (fun z => ?_))
    constructor
    · intro hz
      rcases List.mem_cons.mp ((h z).mp (List.mem_cons_of_mem _ hz)) with a | a
      · subst a; exact absurd (hL.1 z hz) (klt_irr z)
      · exact a
    · intro hz
      rcases List.mem_cons.mp ((h z).mpr (List.mem_cons_of_mem _ hz)) with a | a
      · subst a; exact absurd (hM.1 z hz) (klt_irr z)
      · exact a
theorem srt_take : ∀ {L : List Nat} (k : Nat), srt L → srt (L.take k)
  | [], _, _ => by simp [srt]
  | x :: L, 0, _ => by simp [srt]
  | x :: L, k + 1, h => ⟨fun y hy => h.1 y (List.mem_of_mem_take hy), srt_take k h.2⟩
/-- a row that is cut is cut as the whole one -/
theorem ins_take (c : Nat) : ∀ (k : Nat) (L : List Nat), (ins c (L.take k)).take k = (ins c L).take k
  | 0, L => by simp
  | k + 1, [] => rfl
  | k + 1, x :: L => by
    show (ins c (x :: L.take k)).take (k + 1) = (ins c (x :: L)).take (k + 1)
    unfold ins
    split
    · show c :: (x :: L.take k).take k = c :: (x :: L).take k
      refine congrArg (c :: ·) ?_
      cases k with
      | zero => rfl
      | succ j =>
        show x :: (L.take (j + 1)).take j = x :: L.take j
        rw [List.take_take, show min j (j + 1) = j by omega]
    · show x :: (ins c (L.take k)).take k = x :: (ins c L).take k
      rw [ins_take c k L]
/-- the place that a planner gives a code is that of the sorted row -/
theorem aposL_0 {c : Nat} : ∀ (L : List Nat) (n : Nat), n ≤ L.length → ∀ j, apos (fun j => hEff (fr (L.getD j 0))) (fun j => ((L.getD j 0 : Nat) : Int)) (hEff (fr c)) (c : Int) n ≤ j → j < n → klt c (L.getD j 0)
  | L, 0, _, j, _, hj => absurd hj (Nat.not_lt_zero _)
  | L, n + 1, hn, j, h, hj => by
    rw [apos_s] at h
    by_cases q : hEff (fr c) < hEff (fr (L.getD n 0)) ∨ hEff (fr c) = hEff (fr (L.getD n 0)) ∧ (c : Int) < ((L.getD n 0 : Nat) : Int)
    · rw [if_pos q] at h
      by_cases e : j = n
      · rw [e]; unfold klt; omega
      · exact aposL_0 L n (by omega) j h (by omega)
    · rw [if_neg q] at h
      omega
theorem aposL_1 {c : Nat} : ∀ (L : List Nat) (n : Nat), apos (fun j => hEff (fr (L.getD j 0))) (fun j => ((L.getD j 0 : Nat) : Int)) (hEff (fr c)) (c : Int) n = 0 ∨ ¬ klt c (L.getD (apos (fun j => hEff (fr (L.getD j 0))) (fun j => ((L.getD j 0 : Nat) : Int)) (hEff (fr c)) (c : Int) n - 1) 0)
  | L, 0 => Or.inl rfl
  | L, n + 1 => by
    rw [apos_s]
    by_cases q : hEff (fr c) < hEff (fr (L.getD n 0)) ∨ hEff (fr c) = hEff (fr (L.getD n 0)) ∧ (c : Int) < ((L.getD n 0 : Nat) : Int)
    · rw [if_pos q]
      exact aposL_1 L n
    · rw [if_neg q]
      refine Or.inr ?_
      show ¬ klt c (L.getD (n + 1 - 1) 0)
      rw [Nat.add_sub_cancel]
      unfold klt
      omega
theorem srt_get : ∀ {L : List Nat}, srt L → ∀ i j, i < j → j < L.length → klt (L.getD i 0) (L.getD j 0)
  | x :: L, h, 0, j + 1, _, hj => by
    have hj : j < L.length := by simpa using hj
    show klt x (L.getD j 0)
    refine h.1 _ ?_
    rw [List.getD_eq_getElem?_getD, List.getElem?_eq_getElem hj]
    exact List.getElem_mem hj
  | x :: L, h, i + 1, j + 1, hij, hj => srt_get h.2 i j (by omega) (by simpa using hj)
/-- ins by a place -/
theorem ins_at {c : Nat} : ∀ (L : List Nat) (p : Nat), p ≤ L.length → (∀ j, j < p → ¬ klt c (L.getD j 0)) → (∀ j, p ≤ j → j < L.length → klt c (L.getD j 0)) → ins c L = L.take p ++ c :: L.drop p
  | [], p, hp, _, _ => by
    have : p = 0 := by simpa using hp
    subst this
    rfl
  | x :: L, 0, _, _, h2 => by
    have : klt c x := h2 0 (Nat.le_refl _) (by simp)
    unfold ins
    rw [if_pos (kltb_t.mpr this)]
    rfl
  | x :: L, p + 1, hp, h1, h2 => by
    have a : ¬ klt c x := h1 0 (by omega)
    unfold ins
    rw [if_neg (fun q => a (kltb_t.mp q))]
    show x :: ins c L = x :: (L.take p ++ c :: L.drop p)
    rw [ins_at L p (by simpa using hp) (fun j hj => h1 (j + 1) (by omega)) (fun j h3 h4 => h2 (j + 1) (by omega) (by simpa using h4))]
theorem insL_ins {L : List Nat} {c : Nat} (h : srt L) (hl : L.length ≤ 30) : insL L c = (ins c L).take 30 := by
  have hp := aposL_le L c
  have h2 := aposL_0 (c := c) L L.length (Nat.le_refl _)
  have h1 := aposL_1 (c := c) L L.length
  have e : ins c L = L.take (aposL L c) ++ c :: L.drop (aposL L c) := by
    refine ins_at L _ hp (fun j hj => ?_) (fun j h3 h4 => h2 j h3 h4)
    rcases h1 with q | q
    · have q : aposL L c = 0 := q
      omega
    · by_cases r : j = aposL L c - 1
      · rw [r]; exact q
      · intro w
        exact q (klt_tr w (srt_get h j (aposL L c - 1) (by omega) (by omega)))
  unfold insL
  by_cases q : aposL L c < 30
  · rw [if_pos q, e]
  · rw [if_neg q, e]
    have e30 : aposL L c = 30 := by omega
    rw [e30, List.take_append_of_le_length (by simp; omega), List.take_take, show min 30 30 = 30 from rfl, List.take_of_length_le hl]
/-- sorted, one by one -/
def isort (cs : List Nat) : List Nat := cs.foldl (fun L c => ins c L) []
theorem foldl_ins {cs : List Nat} : ∀ (L : List Nat), srt L → cs.Nodup → (∀ c ∈ cs, c ∉ L) → srt (cs.foldl (fun L c => ins c L) L) ∧ (∀ y, y ∈ cs.foldl (fun L c => ins c L) L ↔ y ∈ L ∨ y ∈ cs) ∧ cs.foldl insL (L.take 30) = (cs.foldl (fun L c => ins c L) L).take 30 := by
  induction cs with
  | nil => intro L h _ _; exact ⟨h, fun y => by simp, rfl⟩
  | cons c cs ih =>
    intro L h hn hd
    have hn := List.nodup_cons.mp hn
    have h2 := srt_ins h (hd c List.mem_cons_self)
    obtain ⟨a, b, d⟩ := ih (ins c L) h2 hn.2 (fun x hx w => by
      rcases ins_mem.mp w with e | e
      · rw [e] at hx; exact hn.1 hx
      · exact hd x (List.mem_cons_of_mem _ hx) e)
    refine ⟨a, fun y => ?_, ?_⟩
    · show y ∈ cs.foldl _ (ins c L) ↔ _
      rw [b y, ins_mem, List.mem_cons]
      constructor
      · rintro ((e | e) | e)
        · exact Or.inr (Or.inl e)
        · exact Or.inl e
        · exact Or.inr (Or.inr e)
      · rintro (e | e | e)
        · exact Or.inl (Or.inr e)
        · exact Or.inl (Or.inl e)
        · exact Or.inr e
    · show cs.foldl insL (insL (L.take 30) c) = _
      rw [insL_ins (srt_take 30 h) (by simp; omega), ins_take]
      exact d
theorem isort_spec {cs : List Nat} (hn : cs.Nodup) : srt (isort cs) ∧ (∀ y, y ∈ isort cs ↔ y ∈ cs) ∧ cs.foldl insL [] = (isort cs).take 30 := by
  obtain ⟨a, b, c⟩ := foldl_ins (cs := cs) [] trivial hn (fun _ _ h => nomatch h)
  exact ⟨a, fun y => by rw [show isort cs = cs.foldl (fun L c => ins c L) [] from rfl, b y]; simp, c⟩
