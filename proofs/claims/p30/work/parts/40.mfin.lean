/-! Fingers: what holds of any hand. -/
theorem cp_nn (f : Nat → Int) : ∀ n, 0 ≤ (cp f n).1
  | 0 => Int.le_refl _
  | n + 1 => by
    have h := cp_nn f n
    show 0 ≤ (cpS (f n) (cp f n)).1
    unfold cpS
    split
    · dsimp only
      split <;> omega
    · exact h
/-- pressed strings are not below low, not above high -/
theorem cp_in {f : Nat → Int} : ∀ n o, o < n → 0 < f o → 0 < (cp f n).1 ∧ (cp f n).1 ≤ f o ∧ f o ≤ (cp f n).2.1
  | n + 1, o, ho, hp => by
    have h0 := cp_nn f n
    show 0 < (cpS (f n) (cp f n)).1 ∧ (cpS (f n) (cp f n)).1 ≤ f o ∧ f o ≤ (cpS (f n) (cp f n)).2.1
    by_cases c : o = n
    · subst c
      unfold cpS
      rw [if_pos hp]
      dsimp only
      split <;> split <;> omega
    · have h := cp_in n o (by omega) hp
      unfold cpS
      split
      · dsimp only
        split <;> split <;> omega
      · exact h
theorem hLow_in {f : Nat → Int} {o : Nat} (ho : o < 6) (hp : 0 < f o) : 0 < hLow f ∧ hLow f ≤ f o ∧ f o ≤ hHigh f := cp_in 6 o ho hp
/-- low strings are pressed ones -/
theorem fb_cp (f : Nat → Int) (low : Int) : ∀ n, (fb f low n).1 ≤ (cp f n).2.2
  | 0 => by simp [fb, cp]
  | n + 1 => by
    have h := fb_cp f low n
    show (fbS low (f n) (fb f low n)).1 ≤ (cpS (f n) (cp f n)).2.2
    unfold fbS cpS
    by_cases a : 0 < f n
    · rw [if_pos a]
      dsimp only
      split <;> dsimp only <;> omega
    · rw [if_neg a, if_neg (fun q => a q.1)]
      exact h
theorem hPal_le (f : Nat → Int) : hPal f ≤ hPr f := fb_cp f _ 6
theorem hFc_0 {f : Nat → Int} : 0 ≤ hFc f := by
  have h1 := hPal_le f
  have h2 := (fb_rg f (hLow f) 6).1
  have h3 : 0 ≤ hPal f := h2
  unfold hFc
  split <;> omega
theorem hEff_0 {f : Nat → Int} (hf : fbd f) : 0 ≤ hEff f := by
  have h1 := hrg hf
  have h2 := hFc_0 (f := f)
  unfold hEff
  split <;> omega
theorem hBar_pal {f : Nat → Int} (h : hBar f = true) : 2 ≤ hPal f := by
  unfold hBar at h
  rw [Bool.and_eq_true] at h
  exact of_decide_eq_true h.1
theorem hBar_eff {f : Nat → Int} (hf : fbd f) (h : hBar f = true) : 4 ≤ hEff f := by
  have h1 := hrg hf
  have h2 := hPal_le f
  have h3 := hBar_pal h
  unfold hEff hFc
  rw [if_pos h, if_pos h]
  omega
/-- who comes before a lower one comes before a higher one -/
theorem bf_lt {f : Nat → Int} {a b : Nat} (hb : 0 < f b) (h : f b < f a ∨ f b = f a ∧ b < a) : ∀ n, bf f b n + (if b < n then 1 else 0) ≤ bf f a n
  | 0 => by simp [bf]
  | n + 1 => by
    have ih := bf_lt hb h n
    show bfS f b (f n) n (bf f b n) + _ ≤ bfS f a (f n) n (bf f a n)
    by_cases c : n = b
    · subst c
      have h1 : bfS f n (f n) n (bf f n n) = bf f n n := by
        unfold bfS
        exact if_neg (by omega)
      have h2 : bfS f a (f n) n (bf f a n) = bf f a n + 1 := by
        unfold bfS
        exact if_pos ⟨hb, by omega⟩
      rw [h1, h2, if_pos (Nat.lt_succ_self n)]
      rw [if_neg (Nat.lt_irrefl n)] at ih
      omega
    · have e : (if b < n + 1 then (1 : Int) else 0) = if b < n then 1 else 0 := by
        by_cases q : b < n
        · rw [if_pos q, if_pos (by omega)]
        · rw [if_neg q, if_neg (by omega)]
      rw [e]
      unfold bfS
      by_cases q : 0 < f n ∧ (f n < f b ∨ f n = f b ∧ n < b)
      · have e2 : 0 < f n ∧ (f n < f a ∨ f n = f a ∧ n < a) := ⟨q.1, by omega⟩
        rw [if_pos q, if_pos e2]
        omega
      · rw [if_neg q]
        by_cases e2 : 0 < f n ∧ (f n < f a ∨ f n = f a ∧ n < a)
        · rw [if_pos e2]; omega
        · rw [if_neg e2]; exact ih
theorem pal_bf {f : Nat → Int} {low : Int} {a : Nat} (h : low < f a) : ∀ n, (fb f low n).1 ≤ bf f a n
  | 0 => by simp [fb, bf]
  | n + 1 => by
    have ih := pal_bf h n
    show (fbS low (f n) (fb f low n)).1 ≤ bfS f a (f n) n (bf f a n)
    unfold fbS bfS
    by_cases q : 0 < f n ∧ f n = low
    · have e2 : 0 < f n ∧ (f n < f a ∨ f n = f a ∧ n < a) := ⟨q.1, Or.inl (by omega)⟩
      rw [if_pos q, if_pos e2]
      dsimp only
      omega
    · rw [if_neg q]
      dsimp only
      by_cases e2 : 0 < f n ∧ (f n < f a ∨ f n = f a ∧ n < a)
      · rw [if_pos e2]; omega
      · rw [if_neg e2]; exact ih
theorem fin_bar {f : Nat → Int} {x : Nat} (c : hBar f = true) (hp : 0 < f x) : hFin f x = if f x = hLow f then 1 else bf f x 6 - hPal f + 2 := by
  unfold hFin
  rw [if_neg (by omega)]
  by_cases d : f x = hLow f
  · rw [if_pos ⟨c, d⟩, if_pos d]
  · rw [if_neg (fun q => d q.2), if_pos c, if_neg d]
theorem fin_nob {f : Nat → Int} {x : Nat} (c : ¬ hBar f = true) (hp : 0 < f x) : hFin f x = bf f x 6 + 1 := by
  unfold hFin
  rw [if_neg (by omega), if_neg (fun q => c q.1), if_neg c]
/-- a greater fret, or the same one behind, has no smaller finger -/
theorem fin_mono {f : Nat → Int} {a b : Nat} (ha6 : a < 6) (hb6 : b < 6) (hb : 0 < f b) (h : f b < f a ∨ f b = f a ∧ b < a) : hFin f b ≤ hFin f a ∧ (f b < f a → hFin f b < hFin f a) := by
  have h1 := bf_lt hb h 6
  rw [if_pos hb6] at h1
  have hl := hLow_in hb6 hb
  have hp : hLow f < f a → hPal f ≤ bf f a 6 := fun q => pal_bf q 6
  have hpb : hLow f < f b → hPal f ≤ bf f b 6 := fun q => pal_bf q 6
  have h2 := hBar_pal (f := f)
  by_cases c : hBar f = true
  · have h2 := h2 c
    rw [fin_bar c hb, fin_bar c (by omega)]
    by_cases d : f b = hLow f <;> by_cases e : f a = hLow f
    · rw [if_pos d, if_pos e]; omega
    · rw [if_pos d, if_neg e]; omega
    · rw [if_neg d, if_pos e]; omega
    · rw [if_neg d, if_neg e]; omega
  · rw [fin_nob c hb, fin_nob c (by omega)]
    omega
/-- the string that comes last: all pressed ones come before it -/
theorem top_ex (f : Nat → Int) : ∀ n, (∀ o, o < n → f o ≤ 0) ∨ ∃ x, x < n ∧ 0 < f x ∧ ∀ o, o < n → 0 < f o → f o < f x ∨ f o = f x ∧ o ≤ x
  | 0 => Or.inl (fun o h => absurd h (Nat.not_lt_zero _))
  | n + 1 => by
    by_cases c : 0 < f n
    · rcases top_ex f n with h | ⟨x, h1, h2, h3⟩
      · refine Or.inr ⟨n, Nat.lt_succ_self n, c, fun o ho hp => ?_⟩
        by_cases q : o = n
        · exact Or.inr ⟨by rw [q], by omega⟩
        · exact absurd (h o (by omega)) (by omega)
      · by_cases d : f n < f x
        · refine Or.inr ⟨x, by omega, h2, fun o ho hp => ?_⟩
          by_cases q : o = n
          · exact Or.inl (by rw [q]; exact d)
          · exact h3 o (by omega) hp
        · refine Or.inr ⟨n, Nat.lt_succ_self n, c, fun o ho hp => ?_⟩
          by_cases q : o = n
          · exact Or.inr ⟨by rw [q], by omega⟩
          · have := h3 o (by omega) hp
            omega
    · rcases top_ex f n with h | ⟨x, h1, h2, h3⟩
      · refine Or.inl (fun o ho => ?_)
        by_cases q : o = n
        · rw [q]; omega
        · exact h o (by omega)
      · refine Or.inr ⟨x, by omega, h2, fun o ho hp => ?_⟩
        by_cases q : o = n
        · rw [q] at hp; exact absurd hp c
        · exact h3 o (by omega) hp
theorem pr_none {f : Nat → Int} : ∀ n, (∀ o, o < n → f o ≤ 0) → (cp f n).2.2 = 0
  | 0, _ => rfl
  | n + 1, h => by
    have ih := pr_none n (fun o ho => h o (by omega))
    show (cpS (f n) (cp f n)).2.2 = 0
    unfold cpS
    rw [if_neg (by have := h n (Nat.lt_succ_self n); omega)]
    exact ih
theorem bf_top {f : Nat → Int} {x : Nat} (hx : 0 < f x) : ∀ n, (∀ o, o < n → 0 < f o → f o < f x ∨ f o = f x ∧ o ≤ x) → bf f x n + (if x < n then 1 else 0) = (cp f n).2.2
  | 0, _ => rfl
  | n + 1, h => by
    have ih := bf_top hx n (fun o ho => h o (by omega))
    show bfS f x (f n) n (bf f x n) + _ = (cpS (f n) (cp f n)).2.2
    have hn := h n (Nat.lt_succ_self n)
    unfold bfS cpS
    by_cases c : n = x
    · subst c
      rw [if_neg (by omega), if_pos (Nat.lt_succ_self n), if_pos hx]
      rw [if_neg (Nat.lt_irrefl n)] at ih
      dsimp only
      omega
    · have e : (if x < n + 1 then (1 : Int) else 0) = if x < n then 1 else 0 := by
        by_cases q : x < n
        · rw [if_pos q, if_pos (by omega)]
        · rw [if_neg q, if_neg (by omega)]
      rw [e]
      by_cases q : 0 < f n
      · rw [if_pos q, if_pos ⟨q, by have := hn q; omega⟩]
        dsimp only
        omega
      · rw [if_neg q, if_neg (fun w => q w.1)]
        exact ih
/-- all low: as many as pressed -/
theorem pal_all {f : Nat → Int} {low : Int} : ∀ n, (∀ o, o < n → 0 < f o → f o = low) → (fb f low n).1 = (cp f n).2.2
  | 0, _ => rfl
  | n + 1, h => by
    have ih := pal_all n (fun o ho => h o (by omega))
    have hn := h n (Nat.lt_succ_self n)
    show (fbS low (f n) (fb f low n)).1 = (cpS (f n) (cp f n)).2.2
    unfold fbS cpS
    by_cases q : 0 < f n
    · rw [if_pos q, if_pos ⟨q, hn q⟩]
      dsimp only
      omega
    · rw [if_neg q, if_neg (fun w => q w.1)]
      exact ih
/-- the greatest finger is as many as there are -/
theorem fin_top (f : Nat → Int) : (hFc f = 0 ∧ ∀ a, a < 6 → hFin f a = 0) ∨ ∃ x, x < 6 ∧ hFin f x = hFc f ∧ ∀ a, a < 6 → hFin f a ≤ hFc f := by
  rcases top_ex f 6 with h | ⟨x, h1, h2, h3⟩
  · refine Or.inl ⟨?_, fun a ha => ?_⟩
    · have e : hPr f = 0 := pr_none 6 h
      have h1 := hPal_le f
      have h2 := hBar_pal (f := f)
      unfold hFc
      rw [if_neg (fun q => by have := h2 q; omega), e]
    · unfold hFin
      exact if_pos (h a ha)
  · have hb : bf f x 6 + 1 = hPr f := by
      have := bf_top h2 6 h3
      rw [if_pos h1] at this
      exact this
    have hl := hLow_in h1 h2
    have e : hFin f x = hFc f := by
      unfold hFin hFc
      rw [if_neg (by omega)]
      by_cases c : hBar f = true
      · by_cases d : f x = hLow f
        · have : hPal f = hPr f := pal_all 6 (fun o ho hp => by have := h3 o ho hp; have := hLow_in ho hp; omega)
          rw [if_pos ⟨c, d⟩, if_pos c]
          omega
        · rw [if_neg (fun q => d q.2), if_pos c, if_pos c]
          omega
      · rw [if_neg (fun q => c q.1), if_neg c, if_neg c]
        exact hb
    refine Or.inr ⟨x, h1, e, fun a ha => ?_⟩
    rw [← e]
    by_cases q : 0 < f a
    · by_cases r : a = x
      · rw [r]; exact Int.le_refl _
      · exact (fin_mono h1 ha q (by have := h3 a ha q; omega)).1
    · have : hFin f a = 0 := by unfold hFin; exact if_pos (by omega)
      rw [this, e]
      exact hFc_0
/-- the greatest finger so far -/
def mxF (g : Nat → Int) : Nat → Int
  | 0 => 0
  | n + 1 => if mxF g n < g n then g n else mxF g n
theorem mxF_ge (g : Nat → Int) : ∀ n a, a < n → g a ≤ mxF g n
  | n + 1, a, h => by
    unfold mxF
    by_cases q : a = n
    · subst q; split <;> omega
    · have := mxF_ge g n a (by omega)
      split <;> omega
theorem mxF_0 (g : Nat → Int) : ∀ n, 0 ≤ mxF g n
  | 0 => Int.le_refl _
  | n + 1 => by
    have := mxF_0 g n
    unfold mxF
    split <;> omega
theorem mxF_le {g : Nat → Int} {m : Int} (hm : 0 ≤ m) : ∀ n, (∀ a, a < n → g a ≤ m) → mxF g n ≤ m
  | 0, _ => hm
  | n + 1, h => by
    have h1 := mxF_le hm n (fun a ha => h a (by omega))
    have h2 := h n (Nat.lt_succ_self n)
    unfold mxF
    split <;> omega
theorem mxF_fin {f : Nat → Int} {n : Nat} (hn : n ≤ 6) (hs : ∀ a, n ≤ a → a < 6 → f a ≤ 0) : mxF (hFin f) n = hFc f := by
  have h0 := hFc_0 (f := f)
  rcases fin_top f with ⟨h1, h2⟩ | ⟨x, h1, h2, h3⟩
  · have a1 := mxF_le (g := hFin f) h0 n (fun a ha => by rw [h2 a (by omega)]; exact h0)
    have a2 := mxF_0 (hFin f) n
    omega
  · have a1 := mxF_le (g := hFin f) h0 n (fun a ha => h3 a (by omega))
    by_cases c : x < n
    · have := mxF_ge (hFin f) n x c
      omega
    · have : hFin f x = 0 := by unfold hFin; exact if_pos (hs x (by omega) h1)
      have a2 := mxF_0 (hFin f) n
      omega
