/-! The barre, by its two reckonings. -/
/-- the last low string so far -/
def lst (f : Nat → Int) (low : Int) : Nat → Int
  | 0 => -1
  | k + 1 => if 0 < f k ∧ f k = low then (k : Int) else lst f low k
theorem lst_rg (f : Nat → Int) (low : Int) : ∀ k, -1 ≤ lst f low k ∧ lst f low k < k
  | 0 => by simp [lst]
  | k + 1 => by
    have h := lst_rg f low k
    unfold lst
    split <;> omega
theorem fb_1 (f : Nat → Int) (low : Int) (k : Nat) (h : 0 < f k ∧ f k = low) : (fb f low (k + 1)).1 = (fb f low k).1 + 1 ∧ (fb f low (k + 1)).2.1 = (fb f low k).2.1 ∧ (fb f low (k + 1)).2.2 = (fb f low k).2.1 := by
  show (fbS low (f k) (fb f low k)).1 = _ ∧ (fbS low (f k) (fb f low k)).2.1 = _ ∧ (fbS low (f k) (fb f low k)).2.2 = _
  unfold fbS
  rw [if_neg (show ¬ (f k = 0 ∧ 0 < (fb f low k).1) by omega), if_pos h]
  exact ⟨rfl, rfl, rfl⟩
theorem fb_0 (f : Nat → Int) (low : Int) (k : Nat) (h : ¬ (0 < f k ∧ f k = low)) : (fb f low (k + 1)).1 = (fb f low k).1 ∧ (fb f low (k + 1)).2.1 = (if f k = 0 ∧ 0 < (fb f low k).1 then true else (fb f low k).2.1) ∧ (fb f low (k + 1)).2.2 = (fb f low k).2.2 := by
  show (fbS low (f k) (fb f low k)).1 = _ ∧ (fbS low (f k) (fb f low k)).2.1 = _ ∧ (fbS low (f k) (fb f low k)).2.2 = _
  unfold fbS
  rw [if_neg h]
  exact ⟨rfl, rfl, rfl⟩
/-- without a low string nothing is cut -/
theorem fb_z (f : Nat → Int) (low : Int) : ∀ k, ((fb f low k).1 = 0 ↔ lst f low k = -1) ∧ ((fb f low k).1 = 0 → (fb f low k).2.1 = false ∧ (fb f low k).2.2 = false)
  | 0 => ⟨⟨fun _ => rfl, fun _ => rfl⟩, fun _ => ⟨rfl, rfl⟩⟩
  | k + 1 => by
    obtain ⟨h1, h2⟩ := fb_z f low k
    have h3 := (fb_rg f low k).1
    by_cases c : 0 < f k ∧ f k = low
    · obtain ⟨e1, e2, e3⟩ := fb_1 f low k c
      have e4 : lst f low (k + 1) = (k : Int) := if_pos c
      rw [e1, e4]
      exact ⟨⟨fun q => by omega, fun q => by omega⟩, fun q => by omega⟩
    · obtain ⟨e1, e2, e3⟩ := fb_0 f low k c
      have e4 : lst f low (k + 1) = lst f low k := if_neg c
      rw [e1, e4, e2, e3]
      refine ⟨h1, fun q => ?_⟩
      rw [if_neg (by omega)]
      exact h2 q
/-- what is cut was open at the last low string -/
theorem fb_l (f : Nat → Int) (low : Int) : ∀ k (l : Nat), lst f low k = (l : Int) → l < k ∧ (0 < f l ∧ f l = low) ∧ (fb f low k).2.2 = (fb f low (l + 1)).2.1 ∧ ∀ o, l < o → o < k → ¬ (0 < f o ∧ f o = low)
  | 0, l, h => by
    have : (-1 : Int) = (l : Int) := h
    omega
  | k + 1, l, h => by
    by_cases c : 0 < f k ∧ f k = low
    · have e4 : lst f low (k + 1) = (k : Int) := if_pos c
      have e : l = k := by omega
      subst e
      obtain ⟨e1, e2, e3⟩ := fb_1 f low l c
      exact ⟨Nat.lt_succ_self l, c, by rw [e3, e2], fun o h1 h2 => by omega⟩
    · have e4 : lst f low (k + 1) = lst f low k := if_neg c
      obtain ⟨a1, a2, a3, a4⟩ := fb_l f low k l (e4 ▸ h)
      obtain ⟨e1, e2, e3⟩ := fb_0 f low k c
      refine ⟨by omega, a2, by rw [e3]; exact a3, fun o h1 h2 => ?_⟩
      by_cases q : o = k
      · rw [q]; exact c
      · exact a4 o h1 (by omega)
/-- once cut behind an open one, always -/
theorem fb_cut (f : Nat → Int) (low : Int) {k : Nat} (h1 : (fb f low k).2.1 = true) (h2 : (fb f low k).2.2 = true) : ∀ d, (fb f low (k + d)).2.1 = true ∧ (fb f low (k + d)).2.2 = true
  | 0 => ⟨h1, h2⟩
  | d + 1 => by
    obtain ⟨a, b⟩ := fb_cut f low h1 h2 d
    show (fb f low (k + d + 1)).2.1 = true ∧ (fb f low (k + d + 1)).2.2 = true
    by_cases c : 0 < f (k + d) ∧ f (k + d) = low
    · obtain ⟨e1, e2, e3⟩ := fb_1 f low (k + d) c
      rw [e2, e3]
      exact ⟨a, a⟩
    · obtain ⟨e1, e2, e3⟩ := fb_0 f low (k + d) c
      rw [e2, e3]
      refine ⟨?_, b⟩
      split
      · rfl
      · exact a
/-- no low string any more: nothing is counted, nothing is cut -/
theorem fb_no (f : Nat → Int) (low : Int) {k : Nat} : ∀ d, (∀ o, k ≤ o → o < k + d → ¬ (0 < f o ∧ f o = low)) → (fb f low (k + d)).1 = (fb f low k).1 ∧ (fb f low (k + d)).2.2 = (fb f low k).2.2
  | 0, _ => ⟨rfl, rfl⟩
  | d + 1, h => by
    obtain ⟨a, b⟩ := fb_no f low d (fun o h1 h2 => h o h1 (by omega))
    obtain ⟨e1, e2, e3⟩ := fb_0 f low (k + d) (h (k + d) (by omega) (by omega))
    show (fb f low (k + d + 1)).1 = _ ∧ (fb f low (k + d + 1)).2.2 = _
    rw [e1, e3]
    exact ⟨a, b⟩
theorem hBar_cut {f : Nat → Int} {k : Nat} (hk : k < 6) (h : 0 < f k ∧ f k = hLow f) (ho : (fb f (hLow f) k).2.1 = true) : hBar f = false := by
  obtain ⟨e1, e2, e3⟩ := fb_1 f (hLow f) k h
  obtain ⟨-, b⟩ := fb_cut f (hLow f) (k := k + 1) (by rw [e2]; exact ho) (by rw [e3]; exact ho) (5 - k)
  rw [show k + 1 + (5 - k) = 6 by omega] at b
  unfold hBar
  rw [b]
  simp
theorem hBar_yes {f : Nat → Int} {k : Nat} (hk : k < 6) (h : 0 < f k ∧ f k = hLow f) (hp : 0 < (fb f (hLow f) k).1) (ho : (fb f (hLow f) k).2.1 = false) (hm : ∀ o, k < o → o < 6 → ¬ (0 < f o ∧ f o = hLow f)) : hBar f = true := by
  obtain ⟨e1, e2, e3⟩ := fb_1 f (hLow f) k h
  obtain ⟨a, b⟩ := fb_no f (hLow f) (k := k + 1) (5 - k) (fun o h1 h2 => hm o (by omega) (by omega))
  rw [show k + 1 + (5 - k) = 6 by omega] at a b
  unfold hBar hPal
  rw [b, e3, ho, a, e1, decide_eq_true (show 2 ≤ (fb f (hLow f) k).1 + 1 by omega)]
  rfl
theorem hBar_few {f : Nat → Int} (h : (fb f (hLow f) 6).1 ≤ 1) : hBar f = false := by
  unfold hBar hPal
  rw [decide_eq_false (by omega)]
  rfl
/-- frets below one, and at one -/
def clF (f : Nat → Int) (F : Int) : Nat → Int
  | 0 => 0
  | k + 1 => clF f F k + (if 0 < f k ∧ f k < F then 1 else 0)
def ceF (f : Nat → Int) (F : Int) : Nat → Int
  | 0 => 0
  | k + 1 => ceF f F k + (if f k = F then 1 else 0)
theorem clF_rg (f : Nat → Int) (F : Int) : ∀ k, 0 ≤ clF f F k ∧ clF f F k ≤ k
  | 0 => by simp [clF]
  | k + 1 => by
    have := clF_rg f F k
    unfold clF
    split <;> omega
theorem ceF_rg (f : Nat → Int) (F : Int) : ∀ k, 0 ≤ ceF f F k ∧ ceF f F k ≤ k
  | 0 => by simp [ceF]
  | k + 1 => by
    have := ceF_rg f F k
    unfold ceF
    split <;> omega
theorem clF_s (f : Nat → Int) {F : Int} (hF : 0 < F) : ∀ k, clF f (F + 1) k = clF f F k + ceF f F k
  | 0 => rfl
  | k + 1 => by
    have ih := clF_s f hF k
    unfold clF ceF
    by_cases a : 0 < f k ∧ f k < F
    · rw [if_pos a, if_pos (by omega), if_neg (by omega)]; omega
    · by_cases b : f k = F
      · rw [if_neg a, if_pos b, if_pos (by omega)]; omega
      · rw [if_neg a, if_neg b, if_neg (by omega)]; omega
theorem bf_split {f : Nat → Int} {x : Nat} (hx : 0 < f x) : ∀ m, bf f x m = clF f (f x) m + ceF f (f x) (if m ≤ x then m else x)
  | 0 => by simp [bf, clF, ceF]
  | m + 1 => by
    have ih := bf_split hx m
    show bfS f x (f m) m (bf f x m) = _
    unfold bfS clF
    by_cases a : m < x
    · rw [if_pos (show m ≤ x by omega)] at ih
      rw [if_pos (show m + 1 ≤ x by omega)]
      unfold ceF
      by_cases b : 0 < f m ∧ f m < f x
      · rw [if_pos ⟨b.1, Or.inl b.2⟩, if_pos b, if_neg (by omega)]; omega
      · by_cases c : f m = f x
        · rw [if_pos ⟨by omega, Or.inr ⟨c, a⟩⟩, if_neg b, if_pos c]; omega
        · rw [if_neg (by omega), if_neg b, if_neg c]; omega
    · have e : (if m ≤ x then m else x) = x := by split <;> omega
      rw [e] at ih
      rw [if_neg (show ¬ m + 1 ≤ x by omega)]
      by_cases b : 0 < f m ∧ f m < f x
      · rw [if_pos ⟨b.1, Or.inl b.2⟩, if_pos b]; omega
      · rw [if_neg (by omega), if_neg b]; omega
theorem clF_end {f : Nat → Int} {F : Int} {m : Nat} : ∀ k, (∀ j, m ≤ j → j < m + k → f j ≤ 0) → clF f F (m + k) = clF f F m
  | 0, _ => rfl
  | k + 1, h => by
    have ih := clF_end (F := F) k (fun j h1 h2 => h j h1 (by omega))
    show clF f F (m + k) + (if 0 < f (m + k) ∧ f (m + k) < F then 1 else 0) = _
    rw [if_neg (by have := h (m + k) (by omega) (by omega); omega), ih]
    omega
/-- none is below low, and at low there are as many as low ones -/
theorem clF_low {f : Nat → Int} : ∀ k, k ≤ 6 → clF f (hLow f) k = 0
  | 0, _ => rfl
  | k + 1, h => by
    have ih := clF_low (f := f) k (by omega)
    unfold clF
    rw [ih, if_neg (fun q => by have := hLow_in (show k < 6 by omega) q.1; omega)]
    rfl
theorem ceF_low {f : Nat → Int} {low : Int} (hl : 0 < low) : ∀ k, ceF f low k = (fb f low k).1
  | 0 => rfl
  | k + 1 => by
    have ih := ceF_low (f := f) hl k
    unfold ceF
    by_cases c : 0 < f k ∧ f k = low
    · rw [(fb_1 f low k c).1, if_pos c.2, ih]
    · rw [(fb_0 f low k c).1, if_neg (by omega), ih]
      omega
/-- the next finger, when the frets below are done -/
def nxF (f : Nat → Int) (F : Int) : Int := 1 + clF f F 6 - (if hBar f = true ∧ hLow f < F then hPal f - 1 else 0)
theorem nxF_rg {f : Nat → Int} (F : Int) : -10 ≤ nxF f F ∧ nxF f F ≤ 10 := by
  have h1 := clF_rg f F 6
  have h2 := fb_rg f (hLow f) 6
  have h3 : hPal f = (fb f (hLow f) 6).1 := rfl
  unfold nxF
  split <;> omega
theorem hLow_bar {f : Nat → Int} (h : hBar f = true) : 0 < hLow f := by
  have h1 := hBar_pal h
  have h2 := cp_nn f 6
  have h3 : hPal f = (fb f (hLow f) 6).1 := rfl
  by_cases q : 0 < hLow f
  · exact q
  · exfalso
    have hl : hLow f = 0 := by
      have : hLow f = (cp f 6).1 := rfl
      omega
    have : (fb f (hLow f) (0 + 6)).1 = (fb f (hLow f) 0).1 := (fb_no f (hLow f) 6 (fun o _ _ => by rw [hl]; omega)).1
    rw [Nat.zero_add] at this
    rw [h3, this] at h1
    have h4 : (fb f (hLow f) 0).1 = 0 := rfl
    omega
theorem nxF_s {f : Nat → Int} {F : Int} (hF : 0 < F) : nxF f (F + 1) = if hBar f = true ∧ F = hLow f then nxF f F + 1 else nxF f F + ceF f F 6 := by
  have h1 := clF_s f hF 6
  have h3 : hPal f = (fb f (hLow f) 6).1 := rfl
  have p1 : ∀ (c : Prop) [Decidable c], c → (if c then hPal f - 1 else 0) = hPal f - 1 := fun c _ h => if_pos h
  have p0 : ∀ (c : Prop) [Decidable c], ¬ c → (if c then hPal f - 1 else 0) = 0 := fun c _ h => if_neg h
  unfold nxF
  by_cases a : hBar f = true
  · by_cases b : F = hLow f
    · have h2 := ceF_low (f := f) hF 6
      have e1 : hBar f = true ∧ hLow f < F + 1 := ⟨a, by omega⟩
      have e2 : ¬ (hBar f = true ∧ hLow f < F) := fun q => by omega
      have e3 : hBar f = true ∧ F = hLow f := ⟨a, b⟩
      rw [p1 _ e1, p0 _ e2, if_pos e3]
      rw [← b] at h3
      omega
    · have e3 : ¬ (hBar f = true ∧ F = hLow f) := fun q => b q.2
      rw [if_neg e3]
      by_cases c : hLow f < F
      · have e1 : hBar f = true ∧ hLow f < F + 1 := ⟨a, by omega⟩
        have e2 : hBar f = true ∧ hLow f < F := ⟨a, c⟩
        rw [p1 _ e1, p1 _ e2]; omega
      · have e1 : ¬ (hBar f = true ∧ hLow f < F + 1) := fun q => by omega
        have e2 : ¬ (hBar f = true ∧ hLow f < F) := fun q => c q.2
        rw [p0 _ e1, p0 _ e2]; omega
  · have e1 : ¬ (hBar f = true ∧ hLow f < F + 1) := fun q => a q.1
    have e2 : ¬ (hBar f = true ∧ hLow f < F) := fun q => a q.1
    have e3 : ¬ (hBar f = true ∧ F = hLow f) := fun q => a q.1
    rw [p0 _ e1, p0 _ e2, if_neg e3]; omega
/-- the finger of a string when its turn has come -/
theorem nxF_fin {f : Nat → Int} {x : Nat} (hx6 : x < 6) (hx : 0 < f x) : hFin f x = if hBar f = true ∧ f x = hLow f then nxF f (f x) else nxF f (f x) + ceF f (f x) x := by
  have h1 := bf_split hx 6
  rw [if_neg (by omega)] at h1
  have h2 := hLow_in hx6 hx
  unfold nxF
  by_cases a : hBar f = true
  · rw [fin_bar a hx]
    by_cases b : f x = hLow f
    · rw [if_pos b, if_pos ⟨a, b⟩, if_neg (by omega), b, clF_low 6 (Nat.le_refl _)]
      rfl
    · rw [if_neg b, if_neg (fun q => b q.2), if_pos ⟨a, by omega⟩]
      omega
  · rw [fin_nob a hx, if_neg (fun q => a q.1), if_neg (fun q => a q.1)]
    omega
