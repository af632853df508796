/-! Addresses that are given out one after the other. -/
section XEXT2
variable {G : xG} {K : xK} {nL pc : Nat} {ls : List (Option Value)} {st : List Value} {h : PH} {cells slots : Nat}
theorem X.qeq {a t n : Nat} {g g' : Nat → Option Nat} (hA : h a = xQ G t n g) (hg : ∀ j, j < n → g j = g' j) (k : X G K nL pc ls st (va_up h a (xQ G t n g')) cells slots) : X G K nL pc ls st h cells slots := fun H locs lsA hW hS hV => by
  obtain ⟨ws, r, hP, hD⟩ := hW
  obtain ⟨q, hq⟩ := r.2 a _ hA
  refine k H locs lsA ⟨_, r.set hD hq, hP.set hD hq ?_ (fun _ _ => rfl), hD.set hq⟩ hS hV
  have h1 := hP q _ hq
  show H[a]? = some (vp_cell _ _)
  refine (show H[a]? = some (vp_cell _ _) from h1).trans (congrArg some ?_)
  rw [vp_cell_q, vp_cell_q]
  exact arrV_congr _ _ (fun j hj => by rw [hg j hj])
end XEXT2
def AD (ad : Nat → Nat) (S A : Nat → Prop) : Prop := (∀ i, S i → A (ad i)) ∧ ∀ i j, S i → S j → ad i = ad j → i = j
theorem AD.new {ad : Nat → Nat} {S A A2 : Nat → Prop} (D : AD ad S A) {q : Nat} (hq : ¬ A q) (h2 : ∀ x, A x → A2 x) (h3 : A2 q) (i : Nat) : AD (va_up ad i q) (fun j => j = i ∨ S j) A2 := by
  have e : ∀ j, j ≠ i → va_up ad i q j = ad j := fun j hj => up_n hj
  have f : va_up ad i q i = q := up_s
  refine ⟨fun j hj => ?_, fun j k hj hk he => ?_⟩
  · by_cases c : j = i
    · subst c; rw [f]; exact h3
    · rw [e j c]; exact h2 _ (D.1 j (hj.resolve_left c))
  · by_cases c : j = i <;> by_cases d : k = i
    · omega
    · subst c; rw [f, e k d] at he
      exact absurd (he ▸ D.1 k (hk.resolve_left d)) hq
    · subst d; rw [f, e j c] at he
      exact absurd (he ▸ D.1 j (hj.resolve_left c)) hq
    · rw [e j c, e k d] at he
      exact D.2 j k (hj.resolve_left c) (hk.resolve_left d) he
theorem AD.sub {ad : Nat → Nat} {S S2 A A2 : Nat → Prop} (D : AD ad S A) (hs : ∀ i, S2 i → S i) (ha : ∀ x, A x → A2 x) : AD ad S2 A2 := ⟨fun i hi => ha _ (D.1 i (hs i hi)), fun i j hi hj => D.2 i j (hs i hi) (hs j hj)⟩
/-- many at once, one behind the other -/
theorem AD.row {ad : Nat → Nat} {S A A2 : Nat → Prop} (D : AD ad S A) {b n q : Nat} (hq : ∀ i, i < n → ¬ A (q + i)) (h2 : ∀ x, A x → A2 x) (h3 : ∀ i, i < n → A2 (q + i)) : AD (fun j => if b ≤ j ∧ j < b + n then q + (j - b) else ad j) (fun j => (b ≤ j ∧ j < b + n) ∨ S j) A2 := by
  refine ⟨fun j hj => ?_, fun j k hj hk he => ?_⟩
  · dsimp only
    by_cases c : b ≤ j ∧ j < b + n
    · rw [if_pos c]; exact h3 _ (by omega)
    · rw [if_neg c]; exact h2 _ (D.1 j (hj.resolve_left c))
  · dsimp only at he
    by_cases c : b ≤ j ∧ j < b + n <;> by_cases d : b ≤ k ∧ k < b + n
    · rw [if_pos c, if_pos d] at he; omega
    · rw [if_pos c, if_neg d] at he
      exact absurd (he ▸ D.1 k (hk.resolve_left d)) (hq _ (by omega))
    · rw [if_neg c, if_pos d] at he
      exact absurd (he ▸ D.1 j (hj.resolve_left c)) (hq _ (by omega))
    · rw [if_neg c, if_neg d] at he
      exact D.2 j k (hj.resolve_left c) (hk.resolve_left d) he
/-- the heap's own places -/
abbrev alv (h : PH) (x : Nat) : Prop := h x ≠ none
theorem up_none {h : PH} {q x : Nat} {v : va_E} (z : va_up h q (some v) x = none) : x ≠ q ∧ h x = none := by
  by_cases c : x = q
  · subst c; rw [up_s] at z; cases z
  · rw [up_n c] at z; exact ⟨c, z⟩
theorem alv_up {h : PH} {q x : Nat} {v : va_E} (z : alv h x) : alv (va_up h q (some v)) x := by
  by_cases c : x = q
  · subst c; show va_up h x (some v) x ≠ none; rw [up_s]; exact Option.some_ne_none _
  · show va_up h q (some v) x ≠ none; rw [up_n c]; exact z
theorem alv_q {h : PH} {q : Nat} {v : va_E} : alv (va_up h q (some v)) q := by show va_up h q (some v) q ≠ none; rw [up_s]; exact Option.some_ne_none _
theorem alv_of {h : PH} {q : Nat} {v : va_E} (e : h q = some v) : alv h q := by show h q ≠ none; rw [e]; exact Option.some_ne_none _
theorem mn_old {G : xG} {h : PH} {q n k x : Nat} (z : ∀ i, i ≤ n → h (q + i) = none) (hx : alv h x) : mnH G h q n k x = h x := by
  unfold mnH
  have n0 : ¬ x = q := fun e => hx (by have := z 0 (by omega); rw [e]; exact this)
  have n1 : ¬ (q < x ∧ x ≤ q + n) := fun c => hx (by have := z (x - q) (by omega); rwa [show q + (x - q) = x by omega] at this)
  rw [if_neg n0, if_neg n1]
theorem mn_q {G : xG} {h : PH} {q n k : Nat} : mnH G h q n k q = xQ G 3 n (fun i => if i < n then some (q + 1 + i) else none) := if_pos rfl
theorem mn_row {G : xG} {h : PH} {q n k i : Nat} (hi : i < n) : mnH G h q n k (q + 1 + i) = xI G k (fun _ => 0) := by
  unfold mnH
  rw [if_neg (by omega), if_pos (by omega)]
/-- the roles without a place get one that is far away -/
theorem mkad {ad : Nat → Nat} {S A : Nat → Prop} (D : AD ad S A) : ∃ ad2 : Nat → Nat, (∀ i, S i → ad2 i = ad i) ∧ ∀ i j, i < 300 → j < 300 → ad2 i = ad2 j → i = j := by
  have hM : ∀ n, ∃ M, ∀ i, i < n → ad i < M := fun n => by
    induction n with
    | zero => exact ⟨0, fun i hi => absurd hi (Nat.not_lt_zero _)⟩
    | succ n ih =>
      obtain ⟨M, hM⟩ := ih
      refine ⟨M + ad n + 1, fun i hi => ?_⟩
      by_cases c : i = n
      · subst c; omega
      · have := hM i (by omega); omega
  obtain ⟨M, hM⟩ := hM 300
  classical
  refine ⟨fun i => if S i then ad i else M + i, fun i hi => if_pos hi, fun i j hi hj he => ?_⟩
  have h1 := hM i hi
  have h2 := hM j hj
  dsimp only at he
  by_cases c : S i <;> by_cases d : S j
  · rw [if_pos c, if_pos d] at he; exact D.2 i j c d he
  · rw [if_pos c, if_neg d] at he; omega
  · rw [if_neg c, if_pos d] at he; omega
  · rw [if_neg c, if_neg d] at he; omega
