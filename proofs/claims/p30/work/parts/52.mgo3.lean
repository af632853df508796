/-! Neck's search finds the class's grips. -/
section MGO3
variable {p : Nat → Int} {Ln : Nat} {op : Nat → Int} {sl : Nat → Bool} {cp : Int}
theorem aS_nodup (hL : Ln < 5) (hinj : ∀ j k, j < Ln → k < Ln → p j = p k → j = k) (hcp : 0 ≤ cp) : ∀ rem s met c0, s + rem ≤ 6 → met < 2 ^ Ln → c0 < 16777216 → (∀ j, s ≤ j → j < 6 → fr c0 j = -1) → (aS p Ln op sl cp rem s met c0).Nodup
  | 0, s, met, c0, _, _, _, _ => by
    unfold aS
    split <;> simp
  | rem + 1, s, met, c0, hs, hm, hc0, h0 => by
    have h0s : fr c0 s = -1 := h0 s (Nat.le_refl _) (by omega)
    have h1 : ∀ j, s + 1 ≤ j → j < 6 → fr c0 j = -1 := fun j j1 j2 => h0 j (by omega) j2
    have lt : ∀ k, okS p op sl cp s k met → wi c0 s (p k - op s - cp) < 16777216 := fun k ok => wi_lt hc0 (by omega) ⟨ok.2.1, by have := ok.2.2.1; omega⟩
    have fw : ∀ k j, okS p op sl cp s k met → j < 6 → fr (wi c0 s (p k - op s - cp)) j = if j = s then p k - op s - cp else fr c0 j := fun k j ok hj => fr_wi (by omega) hj ⟨ok.2.1, by have := ok.2.2.1; omega⟩ h0s
    have hk1 : ∀ k, okS p op sl cp s k met → ∀ j, s + 1 ≤ j → j < 6 → fr (wi c0 s (p k - op s - cp)) j = -1 := fun k ok j j1 j2 => by
      rw [fw k j ok j2, if_neg (by omega)]
      exact h1 j j1 j2
    have atS : ∀ k, k < Ln → okS p op sl cp s k met → ∀ x ∈ aS p Ln op sl cp rem (s + 1) (met + 2 ^ k) (wi c0 s (p k - op s - cp)), fr x s = p k - op s - cp := fun k hk ok x hx => by
      have := ((aS_mem hL hinj hcp rem (s + 1) (met + 2 ^ k) _ (by omega) (bit_lt Ln hL met hm k hk ok.2.2.2) (lt k ok) (hk1 k ok) x).mp hx).2.1 s (by omega) (Or.inl (Nat.lt_succ_self s))
      rw [this, fw k s ok (by omega), if_pos rfl]
    have at0 : ∀ x ∈ aS p Ln op sl cp rem (s + 1) met c0, fr x s = -1 := fun x hx =>
      (((aS_mem hL hinj hcp rem (s + 1) met c0 (by omega) hm hc0 h1 x).mp hx).2.1 s (by omega) (Or.inl (Nat.lt_succ_self s))).trans h0s
    unfold aS
    refine List.pairwise_append.mpr ⟨aS_nodup hL hinj hcp rem (s + 1) met c0 (by omega) hm hc0 h1, flat_nodup _ List.nodup_range (fun k hk => ?_) (fun j hj k hk ne x hx hy => ?_), fun x hx y hy e => ?_⟩
    · have hk := List.mem_range.mp hk
      by_cases ok : okS p op sl cp s k met
      · rw [if_pos ok]
        exact aS_nodup hL hinj hcp rem (s + 1) _ _ (by omega) (bit_lt Ln hL met hm k hk ok.2.2.2) (lt k ok) (hk1 k ok)
      · rw [if_neg ok]
        exact List.nodup_nil
    · have hj := List.mem_range.mp hj
      have hk := List.mem_range.mp hk
      by_cases o1 : okS p op sl cp s j met
      · by_cases o2 : okS p op sl cp s k met
        · rw [if_pos o1] at hx
          rw [if_pos o2] at hy
          have e1 := atS j hj o1 x hx
          have e2 := atS k hk o2 x hy
          exact ne (hinj j k hj hk (by omega))
        · rw [if_neg o2] at hy
          cases hy
      · rw [if_neg o1] at hx
        cases hx
    · obtain ⟨k, hk, hy⟩ := List.mem_flatMap.mp hy
      have hk := List.mem_range.mp hk
      by_cases ok : okS p op sl cp s k met
      · rw [if_pos ok] at hy
        have e1 := at0 x hx
        have e2 := atS k hk ok y hy
        have := ok.2.1
        rw [← e, e1] at e2
        omega
      · rw [if_neg ok] at hy
        cases hy
/-- the row's pitches as a list -/
def rwL (p : Nat → Int) (Ln : Nat) : List Int := (List.range Ln).map p
theorem rwL_mem {x : Int} : x ∈ rwL p Ln ↔ ∃ k, k < Ln ∧ p k = x := by
  unfold rwL
  rw [List.mem_map]
  constructor
  · rintro ⟨k, hk, e⟩
    exact ⟨k, List.mem_range.mp hk, e⟩
  · rintro ⟨k, hk, e⟩
    exact ⟨k, List.mem_range.mpr hk, e⟩
theorem PS_Ext {n : Nat} (hn : n ≤ 6) (c : Nat) : PS p Ln op sl cp 0 n 0 0 c ↔ Ext n op sl cp (rwL p Ln) 0 c := by
  have us : ∀ s, used n sl s = true ↔ s < n ∧ sl s = false := fun s => ⟨used_n, fun h => by unfold used; rw [decide_eq_true h.1, h.2]; rfl⟩
  constructor
  · rintro ⟨a1, a2, a3, a4⟩
    have sil : ∀ j, j < 6 → n ≤ j → fr c j = -1 := fun j hj w => (a2 j hj (Or.inr w)).trans (fr_0 j)
    refine ⟨a1, fun s hs => ?_, fun x hx => ?_⟩
    · by_cases w : s < n
      · rcases a3 s (Nat.zero_le _) w with q | ⟨q1, q2, q3, k, k1, k2, k3⟩
        · exact Or.inl (q.trans (fr_0 s).symm)
        · exact Or.inr ⟨fr_0 s, (us s).mpr ⟨w, q1⟩, q2, q3, rwL_mem.mpr ⟨k, k1, k3.symm⟩⟩
      · exact Or.inl (a2 s hs (Or.inr (by omega)))
    · obtain ⟨k, hk, e⟩ := rwL_mem.mp hx
      obtain ⟨j, b1, b2, b3, b4, b5⟩ := a4 k hk (bit_0 k)
      refine ⟨j, by omega, fr_0 j, b3, b4.trans e, fun t t1 _ t3 t4 => ?_⟩
      by_cases w : t < n
      · exact b5 t (Nat.zero_le _) w t3 (t4.trans e.symm)
      · have := sil t t1 (by omega)
        omega
  · rintro ⟨a1, a2, a3⟩
    have hu : ∀ j, j < 6 → 0 ≤ fr c j → j < n := fun j hj h => by
      rcases a2 j hj with q | ⟨-, q, -⟩
      · rw [fr_0] at q
        omega
      · exact (used_n q).1
    refine ⟨a1, fun j hj w => ?_, fun j _ j2 => ?_, fun k hk _ => ?_⟩
    · rcases a2 j hj with q | ⟨-, q, -⟩
      · exact q
      · have := (used_n q).1
        omega
    · rcases a2 j (by omega) with q | ⟨-, q1, q2, q3, q4⟩
      · exact Or.inl (q.trans (fr_0 j))
      · obtain ⟨k, hk, e⟩ := rwL_mem.mp q4
        exact Or.inr ⟨(used_n q1).2, q2, q3, k, hk, bit_0 k, e.symm⟩
    · obtain ⟨j, b1, -, b3, b4, b5⟩ := a3 (p k) (rwL_mem.mpr ⟨k, hk, rfl⟩)
      exact ⟨j, Nat.zero_le _, hu j b1 b3, b3, b4, fun t _ t2 t3 t4 => b5 t (by omega) (fr_0 t) t3 t4⟩
/-- what go finds, in its order -/
def nkL (p : Nat → Int) (Ln n : Nat) (op : Nat → Int) (sl : Nat → Bool) (cp rc : Int) : List Nat := ((aS p Ln op sl cp n 0 0 0).filter (fun c => hPlay (fr c) rc)).foldl (fun L c => insK c L) []
theorem nkL_spec {n : Nat} (hn : n ≤ 6) (hL : Ln < 5) (hinj : ∀ j k, j < Ln → k < Ln → p j = p k → j = k) (hcp : 0 ≤ cp) (rc : Int) : srt (nkL p Ln n op sl cp rc) ∧ (∀ y, y ∈ nkL p Ln n op sl cp rc ↔ Ext n op sl cp (rwL p Ln) 0 y ∧ hPlay (fr y) rc = true) ∧ plc n op sl cp rc (rwL p Ln) 0 [] = (nkL p Ln n op sl cp rc).take 30 := by
  have h2 : 0 < 2 ^ Ln := Nat.two_pow_pos Ln
  have hnd := (aS_nodup (op := op) (sl := sl) hL hinj hcp n 0 0 0 (by omega) h2 (by decide) (fun j _ _ => fr_0 j)).filter (fun c => hPlay (fr c) rc)
  have hl : (rwL p Ln).Nodup := by
    unfold rwL
    refine List.pairwise_map.mpr (List.Pairwise.imp_of_mem (fun {a b} ha hb ne e => ne (hinj a b (List.mem_range.mp ha) (List.mem_range.mp hb) e)) List.nodup_range)
  obtain ⟨a, b, -⟩ := isort_spec hnd
  have e : nkL p Ln n op sl cp rc = isort ((aS p Ln op sl cp n 0 0 0).filter (fun c => hPlay (fr c) rc)) := fold_insK _ hnd (fun c _ q => by cases q)
  have hm : ∀ y, y ∈ nkL p Ln n op sl cp rc ↔ Ext n op sl cp (rwL p Ln) 0 y ∧ hPlay (fr y) rc = true := fun y => by
    rw [e, b y, List.mem_filter, aS_mem hL hinj hcp n 0 0 0 (by omega) h2 (by decide) (fun j _ _ => fr_0 j), Nat.zero_add, PS_Ext hn]
  obtain ⟨a2, b2, c2⟩ := plc_isort (op := op) (sl := sl) rc hn hcp hl
  refine ⟨e ▸ a, hm, ?_⟩
  rw [c2]
  congr 1
  exact srt_eq a2 (e ▸ a) (fun y => by rw [b2 y, hm y])
end MGO3
