/-! Shapes: what holds of the best one. -/
section MSH
variable (op : Nat → Int) (cp : Int)
/-- the classes that sound on the first strings, and the lowest pitch -/
def metF (f : Nat → Int) : Nat → Nat
  | 0 => 0
  | k + 1 => if f k < 0 then metF f k else metF f k ||| 2 ^ (pit op cp k (f k).toNat % 12)
def lowF (f : Nat → Int) : Nat → Int
  | 0 => -1
  | k + 1 => if f k < 0 then lowF f k else lowT (lowF f k) (pit op cp k (f k).toNat)
variable {op cp}
theorem metF_cong {f g : Nat → Int} : ∀ k, (∀ s, s < k → f s = g s) → metF op cp f k = metF op cp g k ∧ lowF op cp f k = lowF op cp g k
  | 0, _ => ⟨rfl, rfl⟩
  | k + 1, h => by
    obtain ⟨a, b⟩ := metF_cong k (fun s hs => h s (by omega))
    unfold metF lowF
    rw [a, b, h k (Nat.lt_succ_self k)]
    exact ⟨rfl, rfl⟩
variable (n : Nat) (sl : Nat → Bool) (cls bass fm : Nat)
/-- a fret that a shape may have on a string -/
def gdS (s : Nat) (f : Int) : Prop := f = -1 ∨ (used n sl s = true ∧ 0 ≤ f ∧ f ≤ 12 - cp ∧ (f = 0 ∨ (fm : Int) ≤ f ∧ f ≤ (fm : Int) + 3))
def SG (c : Nat) : Prop := c < 16777216 ∧ (∀ s, s < 6 → gdS (cp := cp) n sl fm s (fr c s)) ∧ metF op cp (fr c) 6 = cls ∧ 0 ≤ lowF op cp (fr c) 6 ∧ lowF op cp (fr c) 6 % 12 = (bass : Int)
def SI (p : ShS) : Prop := (p.1 = 0 ∧ p.2.1 = -1 ∧ p.2.2.2 = 0) ∨ (0 < p.1 ∧ 0 ≤ p.2.1 ∧ SG (op := op) (cp := cp) n sl cls bass fm p.2.2.2)
variable {n sl cls bass fm}
theorem SI_off {rc : Int} {c : Nat} {p : ShS} (h : SI (op := op) (cp := cp) n sl cls bass fm p) (hc : SG (op := op) (cp := cp) n sl cls bass fm c) : SI (op := op) (cp := cp) n sl cls bass fm (offS rc c p) := by
  have he := hEff_0 (fr_fbd c)
  unfold offS
  by_cases a : hPlay (fr c) rc = true
  · rw [if_pos a]
    by_cases b : p.2.1 = -1 ∨ btr (hEff (fr c)) (hSnd (fr c)) c p = true
    · rw [if_pos b]
      refine Or.inr ⟨?_, he, hc⟩
      show 0 < p.1 + 1
      rcases h with h | h <;> omega
    · rw [if_neg b]
      rcases h with h | h
      · exact absurd (Or.inl h.2.1) b
      · exact Or.inr ⟨by show 0 < p.1 + 1; omega, h.2⟩
  · rw [if_neg a]
    exact h
theorem shp_SI (rc : Int) (hcp : 0 ≤ cp ∧ cp ≤ 7) : ∀ (rem c hd : Nat) (lo : Int) (p : ShS), rem ≤ 6 → c < 16777216 → (∀ s, 6 - rem ≤ s → s < 6 → fr c s = -1) → (∀ s, s < 6 - rem → gdS (cp := cp) n sl fm s (fr c s)) → hd = metF op cp (fr c) (6 - rem) → lo = lowF op cp (fr c) (6 - rem) → SI (op := op) (cp := cp) n sl cls bass fm p → SI (op := op) (cp := cp) n sl cls bass fm (shp n op sl cp rc cls bass fm rem c hd lo p)
  | 0, c, hd, lo, p, _, hc, h1, h2, h3, h4, h => by
    unfold shp
    by_cases q : hd = cls ∧ 0 ≤ lo ∧ lo % 12 = (bass : Int)
    · rw [if_pos q]
      refine SI_off h ⟨hc, fun s hs => h2 s (by omega), ?_, ?_, ?_⟩
      · rw [← q.1, h3]
      · rw [show lowF op cp (fr c) 6 = lo from h4.symm]; exact q.2.1
      · rw [show lowF op cp (fr c) 6 = lo from h4.symm]; exact q.2.2
    · rw [if_neg q]
      exact h
  | rem + 1, c, hd, lo, p, hr, hc, h1, h2, h3, h4, h => by
    have es : 6 - rem = (6 - (rem + 1)) + 1 := by omega
    have hs6 : 6 - (rem + 1) < 6 := by omega
    have hsil : fr c (6 - (rem + 1)) = -1 := h1 _ (Nat.le_refl _) hs6
    have base : SI (op := op) (cp := cp) n sl cls bass fm (shp n op sl cp rc cls bass fm rem c hd lo p) := by
      refine shp_SI rc hcp rem c hd lo p (by omega) hc (fun s a b => h1 s (by omega) b) (fun s a => ?_) ?_ ?_ h
      · by_cases q : s = 6 - (rem + 1)
        · rw [q, hsil]; exact Or.inl rfl
        · exact h2 s (by omega)
      · rw [es]; unfold metF; rw [if_pos (by omega), ← h3]
      · rw [es]; unfold lowF; rw [if_pos (by omega), ← h4]
    unfold shp
    by_cases hu : used n sl (6 - (rem + 1)) = true
    · rw [if_pos hu]
      refine foldl_V (P := fun p => SI (op := op) (cp := cp) n sl cls bass fm p) _ _ base (fun a k hk ha => ?_)
      have hk := List.mem_range.mp hk
      have hl : lstF fm cp ≤ 12 - cp ∧ lstF fm cp ≤ (fm : Int) + 3 := by unfold lstF; split <;> omega
      have hkl : (k : Int) ≤ 12 - cp ∧ (k : Int) ≤ (fm : Int) + 3 := by
        unfold nF at hk
        have h0 : 0 ≤ lstF fm cp := by unfold lstF; split <;> omega
        omega
      unfold shStep
      by_cases b : (0 < k ∧ k < fm) ∨ cls &&& 2 ^ (pit op cp (6 - (rem + 1)) k % 12) = 0
      · rw [if_pos b]; exact ha
      · rw [if_neg b]
        have b1 : ¬ (0 < k ∧ k < fm) := fun q => b (Or.inl q)
        have fw : ∀ t, t < 6 → fr (wi c (6 - (rem + 1)) (k : Int)) t = if t = 6 - (rem + 1) then (k : Int) else fr c t := fun t ht => fr_wi hs6 ht ⟨by omega, by omega⟩ hsil
        have fs := fw (6 - (rem + 1)) hs6
        rw [if_pos rfl] at fs
        have cg := metF_cong (op := op) (cp := cp) (f := fr (wi c (6 - (rem + 1)) (k : Int))) (g := fr c) (6 - (rem + 1)) (fun s hs => by rw [fw s (by omega), if_neg (by omega)])
        refine shp_SI rc hcp rem _ _ _ a (by omega) (wi_lt hc hs6 ⟨by omega, by omega⟩) (fun s s1 s2 => ?_) (fun s s1 => ?_) ?_ ?_ ha
        · rw [fw s s2, if_neg (by omega)]
          exact h1 s (by omega) s2
        · rw [fw s (by omega)]
          by_cases q : s = 6 - (rem + 1)
          · rw [if_pos q, q]
            exact Or.inr ⟨hu, by omega, by omega, by omega⟩
          · rw [if_neg q]
            exact h2 s (by omega)
        · rw [es]
          unfold metF
          rw [fs, if_neg (by omega), cg.1, ← h3]
          simp only [Int.toNat_natCast]
        · rw [es]
          unfold lowF
          rw [fs, if_neg (by omega), cg.2, ← h4]
          simp only [Int.toNat_natCast]
    · rw [if_neg hu]
      exact base
theorem shA_SI (rc : Int) (hcp : 0 ≤ cp ∧ cp ≤ 7) : SI (op := op) (cp := cp) n sl cls bass fm (shA n op sl cp rc cls bass fm) := by
  refine shp_SI rc hcp 6 0 0 (-1) (0, -1, 0, 0) (Nat.le_refl _) (by decide) (fun s _ _ => fr_0 s) (fun s hs => absurd hs (by omega)) rfl rfl (Or.inl ⟨rfl, rfl, rfl⟩)
/-- silent strings behind add nothing -/
theorem metF_end {f : Nat → Int} {m : Nat} : ∀ k, (∀ s, m ≤ s → s < m + k → f s < 0) → metF op cp f (m + k) = metF op cp f m ∧ lowF op cp f (m + k) = lowF op cp f m
  | 0, _ => ⟨rfl, rfl⟩
  | k + 1, h => by
    obtain ⟨a, b⟩ := metF_end k (fun s h1 h2 => h s h1 (by omega))
    have hf := h (m + k) (by omega) (by omega)
    show (if f (m + k) < 0 then metF op cp f (m + k) else _) = _ ∧ (if f (m + k) < 0 then lowF op cp f (m + k) else _) = _
    rw [if_pos hf, if_pos hf]
    exact ⟨a, b⟩
end MSH
