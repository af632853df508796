/-! The placements by strings. -/
abbrev bit (met k : Nat) : Prop := met / 2 ^ k % 2 = 1
theorem bit_all : ∀ Ln, Ln < 5 → ∀ met, met < 2 ^ Ln → (met = 2 ^ Ln - 1 ↔ ∀ k, k < Ln → bit met k) := by decide +kernel
theorem bit_add16 : ∀ met, met < 16 → ∀ k, k < 4 → ¬ bit met k → ∀ j, j < 4 → (bit (met + 2 ^ k) j ↔ bit met j ∨ j = k) := by decide +kernel
theorem bit_lt : ∀ Ln, Ln < 5 → ∀ met, met < 2 ^ Ln → ∀ k, k < Ln → ¬ bit met k → met + 2 ^ k < 2 ^ Ln := by decide +kernel
theorem pow_le16 : ∀ Ln, Ln < 5 → 2 ^ Ln ≤ 16 := by decide
theorem bit_0 (k : Nat) : ¬ bit 0 k := by unfold bit; rw [Nat.zero_div]; decide
section MGO
variable (p : Nat → Int) (Ln : Nat) (op : Nat → Int) (sl : Nat → Bool) (cp : Int)
abbrev okS (s k met : Nat) : Prop := sl s = false ∧ 0 ≤ p k - op s - cp ∧ p k - op s - cp ≤ 12 - cp ∧ ¬ bit met k
def aS : Nat → Nat → Nat → Nat → List Nat
  | 0, _, met, c => if met = 2 ^ Ln - 1 then [c] else []
  | rem + 1, s, met, c => aS rem (s + 1) met c ++ (List.range Ln).flatMap (fun k => if okS p op sl cp s k met then aS rem (s + 1) (met + 2 ^ k) (wi c s (p k - op s - cp)) else [])
def Bd : Nat → Nat → Nat
  | 0, met => if met = 2 ^ Ln - 1 then 1 else 0
  | rem + 1, met => Bd rem met + ((List.range Ln).map (fun k => if bit met k then 0 else Bd rem (met + 2 ^ k))).sum
theorem sum_le {α : Type} {f g : α → Nat} : ∀ (l : List α), (∀ x ∈ l, f x ≤ g x) → (l.map f).sum ≤ (l.map g).sum
  | [], _ => Nat.le_refl _
  | x :: l, h => by
    have := sum_le l (fun y hy => h y (List.mem_cons_of_mem _ hy))
    have := h x List.mem_cons_self
    simp only [List.map_cons, List.sum_cons]
    omega
theorem aS_len : ∀ rem s met c, (aS p Ln op sl cp rem s met c).length ≤ Bd Ln rem met
  | 0, s, met, c => by
    unfold aS Bd
    split <;> simp
  | rem + 1, s, met, c => by
    have h1 := aS_len rem (s + 1) met c
    unfold aS Bd
    rw [List.length_append, List.length_flatMap]
    refine Nat.add_le_add h1 (sum_le _ (fun k _ => ?_))
    by_cases b : okS p op sl cp s k met
    · rw [if_pos b, if_neg b.2.2.2]
      exact aS_len rem (s + 1) _ _
    · rw [if_neg b]
      exact Nat.zero_le _
theorem Bd_24 : ∀ L, L < 5 → ∀ rem, rem < 5 → Bd L rem 0 ≤ 24 := by decide +kernel
variable {p Ln op sl cp}
def PS (p : Nat → Int) (Ln : Nat) (op : Nat → Int) (sl : Nat → Bool) (cp : Int) (s e met c0 c : Nat) : Prop := c < 16777216 ∧ (∀ j, j < 6 → (j < s ∨ e ≤ j) → fr c j = fr c0 j) ∧ (∀ j, s ≤ j → j < e → fr c j = -1 ∨ (sl j = false ∧ 0 ≤ fr c j ∧ fr c j ≤ 12 - cp ∧ ∃ k, k < Ln ∧ ¬ bit met k ∧ fr c j + op j + cp = p k)) ∧ ∀ k, k < Ln → ¬ bit met k → ∃ j, s ≤ j ∧ j < e ∧ 0 ≤ fr c j ∧ fr c j + op j + cp = p k ∧ ∀ t, s ≤ t → t < e → 0 ≤ fr c t → fr c t + op t + cp = p k → t = j
theorem aS_mem (hL : Ln < 5) (hinj : ∀ j k, j < Ln → k < Ln → p j = p k → j = k) (hcp : 0 ≤ cp) : ∀ rem s met c0, s + rem ≤ 6 → met < 2 ^ Ln → c0 < 16777216 → (∀ j, s ≤ j → j < 6 → fr c0 j = -1) → ∀ c, c ∈ aS p Ln op sl cp rem s met c0 ↔ PS p Ln op sl cp s (s + rem) met c0 c
  | 0, s, met, c0, hs, hm, hc0, h0, c => by
    unfold aS
    have hb := bit_all Ln hL met hm
    constructor
    · intro q
      by_cases w : met = 2 ^ Ln - 1
      · rw [if_pos w] at q
        rw [List.mem_singleton.mp q]
        exact ⟨hc0, fun _ _ _ => rfl, fun j h1 h2 => by omega, fun k hk nk => absurd (hb.mp w k hk) nk⟩
      · rw [if_neg w] at q
        cases q
    · rintro ⟨a1, a2, a3, a4⟩
      have e : c = c0 := code_ext a1 hc0 (fun j hj => a2 j hj (by omega))
      rw [if_pos (hb.mpr (fun k hk => Decidable.byContradiction (fun nk => by
        obtain ⟨j, j1, j2, -⟩ := a4 k hk nk
        omega))), e]
      exact List.mem_singleton.mpr rfl
  | rem + 1, s, met, c0, hs, hm, hc0, h0, c => by
    have hm16 := pow_le16 Ln hL
    have es : s + 1 + rem = s + (rem + 1) := by omega
    have h0s : fr c0 s = -1 := h0 s (Nat.le_refl _) (by omega)
    have I0 := aS_mem hL hinj hcp rem (s + 1) met c0 (by omega) hm hc0 (fun j j1 j2 => h0 j (by omega) j2) c
    rw [es] at I0
    have Ik : ∀ k, k < Ln → okS p op sl cp s k met → (c ∈ aS p Ln op sl cp rem (s + 1) (met + 2 ^ k) (wi c0 s (p k - op s - cp)) ↔ PS p Ln op sl cp (s + 1) (s + (rem + 1)) (met + 2 ^ k) (wi c0 s (p k - op s - cp)) c) := fun k hk ok => by
      have := aS_mem hL hinj hcp rem (s + 1) (met + 2 ^ k) (wi c0 s (p k - op s - cp)) (by omega) (bit_lt Ln hL met hm k hk ok.2.2.2) (wi_lt hc0 (by omega) ⟨ok.2.1, by have := ok.2.2.1; omega⟩) (fun j j1 j2 => by
        rw [fr_wi (by omega) j2 ⟨ok.2.1, by have := ok.2.2.1; omega⟩ h0s, if_neg (by omega)]
        exact h0 j (by omega) j2) c
      rw [es] at this
      exact this
    have fw : ∀ k j, okS p op sl cp s k met → j < 6 → fr (wi c0 s (p k - op s - cp)) j = if j = s then p k - op s - cp else fr c0 j := fun k j ok hj => fr_wi (by omega) hj ⟨ok.2.1, by have := ok.2.2.1; omega⟩ h0s
    unfold aS
    rw [List.mem_append, I0, List.mem_flatMap]
    constructor
    · rintro (⟨a1, a2, a3, a4⟩ | ⟨k, hk, hc⟩)
      · have es : fr c s = -1 := (a2 s (by omega) (Or.inl (Nat.lt_succ_self s))).trans h0s
        refine ⟨a1, fun j hj w => a2 j hj (by omega), fun j j1 j2 => ?_, fun k hk nk => ?_⟩
        · by_cases w : j = s
          · rw [w]; exact Or.inl es
          · exact a3 j (by omega) j2
        · obtain ⟨j, b1, b2, b3, b4, b5⟩ := a4 k hk nk
          refine ⟨j, by omega, b2, b3, b4, fun t t1 t2 t3 t4 => ?_⟩
          by_cases w : t = s
          · rw [w, es] at t3
            exact absurd t3 (by decide)
          · exact b5 t (by omega) t2 t3 t4
      · have hk := List.mem_range.mp hk
        by_cases ok : okS p op sl cp s k met
        · rw [if_pos ok] at hc
          obtain ⟨a1, a2, a3, a4⟩ := (Ik k hk ok).mp hc
          have ba := bit_add16 met (by omega) k (by omega) ok.2.2.2
          have es : fr c s = p k - op s - cp := by
            rw [a2 s (by omega) (Or.inl (Nat.lt_succ_self s)), fw k s ok (by omega), if_pos rfl]
          refine ⟨a1, fun j hj w => ?_, fun j j1 j2 => ?_, fun k2 hk2 nk => ?_⟩
          · rw [a2 j hj (by omega), fw k j ok hj, if_neg (by omega)]
          · by_cases w : j = s
            · rw [w, es]
              exact Or.inr ⟨ok.1, ok.2.1, ok.2.2.1, k, hk, ok.2.2.2, by omega⟩
            · rcases a3 j (by omega) j2 with q | ⟨q1, q2, q3, k3, k4, k5, k6⟩
              · exact Or.inl q
              · exact Or.inr ⟨q1, q2, q3, k3, k4, fun z => k5 ((ba k3 (by omega)).mpr (Or.inl z)), k6⟩
          · by_cases w : k2 = k
            · subst w
              refine ⟨s, Nat.le_refl _, by omega, by rw [es]; exact ok.2.1, by rw [es]; omega, fun t t1 t2 t3 t4 => ?_⟩
              by_cases z : t = s
              · exact z
              · rcases a3 t (by omega) t2 with q | ⟨q1, q2, q3, k3, k4, k5, k6⟩
                · omega
                · have : k3 = k2 := hinj k3 k2 k4 hk (by omega)
                  exact absurd ((ba k3 (by omega)).mpr (Or.inr this)) k5
            · obtain ⟨j, b1, b2, b3, b4, b5⟩ := a4 k2 hk2 (fun z => ((ba k2 (by omega)).mp z).elim nk w)
              refine ⟨j, by omega, b2, b3, b4, fun t t1 t2 t3 t4 => ?_⟩
              by_cases z : t = s
              · rw [z, es] at t4
                exact absurd (hinj k2 k hk2 hk (by omega)) w
              · exact b5 t (by omega) t2 t3 t4
        · rw [if_neg ok] at hc
          cases hc
    · rintro ⟨a1, a2, a3, a4⟩
      rcases a3 s (Nat.le_refl _) (by omega) with q | ⟨q1, q2, q3, k, k1, k2, k3⟩
      · refine Or.inl ⟨a1, fun j hj w => ?_, fun j j1 j2 => a3 j (by omega) j2, fun k hk nk => ?_⟩
        · by_cases z : j = s
          · rw [z, q, h0s]
          · exact a2 j hj (by omega)
        · obtain ⟨j, b1, b2, b3, b4, b5⟩ := a4 k hk nk
          refine ⟨j, ?_, b2, b3, b4, fun t t1 t2 => b5 t (by omega) t2⟩
          by_cases z : j = s
          · rw [z, q] at b3
            exact absurd b3 (by decide)
          · omega
      · have ok : okS p op sl cp s k met := ⟨q1, by omega, by omega, k2⟩
        have ba := bit_add16 met (by omega) k (by omega) k2
        have es : fr c s = p k - op s - cp := by omega
        refine Or.inr ⟨k, List.mem_range.mpr k1, ?_⟩
        rw [if_pos ok]
        refine (Ik k k1 ok).mpr ⟨a1, fun j hj w => ?_, fun j j1 j2 => ?_, fun k4 hk4 nk => ?_⟩
        · rw [fw k j ok hj]
          by_cases z : j = s
          · rw [if_pos z, z]; exact es
          · rw [if_neg z]
            exact a2 j hj (by omega)
        · rcases a3 j (by omega) j2 with w | ⟨w1, w2, w3, k5, k6, k7, k8⟩
          · exact Or.inl w
          · refine Or.inr ⟨w1, w2, w3, k5, k6, fun z => ?_, k8⟩
            rcases (ba k5 (by omega)).mp z with y | y
            · exact k7 y
            · obtain ⟨j3, -, -, -, -, c5⟩ := a4 k k1 k2
              have e1 := c5 j (by omega) j2 w2 (by rw [k8, y])
              have e2 := c5 s (Nat.le_refl _) (by omega) q2 k3
              omega
        · have nk4 : ¬ bit met k4 := fun z => nk ((ba k4 (by omega)).mpr (Or.inl z))
          have ne : k4 ≠ k := fun z => nk ((ba k4 (by omega)).mpr (Or.inr z))
          obtain ⟨j, b1, b2, b3, b4, b5⟩ := a4 k4 hk4 nk4
          refine ⟨j, ?_, b2, b3, b4, fun t t1 t2 => b5 t (by omega) t2⟩
          by_cases z : j = s
          · subst z
            exact absurd (hinj k4 k hk4 k1 (by omega)) ne
          · omega
end MGO
