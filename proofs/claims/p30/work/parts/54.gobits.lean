/-! The bits of what is met; go's list, string by string. -/
theorem shr_bit : ∀ met : Nat, met < 16 → ∀ k : Nat, k < 4 → I (met : Int) >>> (I (k : Int) &&& 31) = I ((met / 2 ^ k : Nat) : Int) := by decide +kernel
theorem and_one : ∀ m : Nat, m < 16 → I (m : Int) &&& I 1 = I ((m % 2 : Nat) : Int) := by decide +kernel
theorem or_bit : ∀ met : Nat, met < 16 → ∀ k : Nat, k < 4 → ¬ bit met k → I (met : Int) ||| I ((2 ^ k : Nat) : Int) = I ((met + 2 ^ k : Nat) : Int) := by decide +kernel
theorem shl_k : ∀ k : Nat, k < 4 → I 1 <<< (I (k : Int) &&& 31) = I ((2 ^ k : Nat) : Int) := by decide +kernel
/-- the playable ones of a list, put in -/
def foF (rc : Int) (xs L : List Nat) : List Nat := (xs.filter (fun c => hPlay (fr c) rc)).foldl (fun L c => insK c L) L
theorem foF_nil (rc : Int) (L : List Nat) : foF rc [] L = L := rfl
theorem foF_app (rc : Int) (xs ys L : List Nat) : foF rc (xs ++ ys) L = foF rc ys (foF rc xs L) := by
  unfold foF
  rw [List.filter_append, List.foldl_append]
theorem foF_one (rc : Int) (c : Nat) (L : List Nat) : foF rc [c] L = if hPlay (fr c) rc = true then insK c L else L := by
  unfold foF
  by_cases h : hPlay (fr c) rc = true
  · rw [if_pos h]
    simp [h]
  · rw [if_neg h]
    simp [h]
theorem fold_len : ∀ (xs L : List Nat), (xs.foldl (fun L c => insK c L) L).length = L.length + xs.length
  | [], _ => rfl
  | x :: xs, L => by
    rw [List.foldl_cons, fold_len xs, insK_len, List.length_cons]
    omega
theorem foF_len (rc : Int) (xs L : List Nat) : (foF rc xs L).length ≤ L.length + xs.length := by
  unfold foF
  rw [fold_len]
  have := List.length_filter_le (fun c => hPlay (fr c) rc) xs
  omega
theorem insK_mem {c y : Nat} : ∀ {L : List Nat}, y ∈ insK c L → y = c ∨ y ∈ L
  | [], h => Or.inl (List.mem_singleton.mp h)
  | x :: L, h => by
    unfold insK at h
    by_cases q : kltb x c = true
    · rw [if_pos q] at h
      rcases List.mem_cons.mp h with w | w
      · exact Or.inr (by rw [w]; exact List.mem_cons_self)
      · exact (insK_mem w).imp id (List.mem_cons_of_mem _)
    · rw [if_neg q] at h
      rcases List.mem_cons.mp h with w | w
      · exact Or.inl w
      · exact Or.inr w
theorem foF_mem {rc : Int} {y : Nat} : ∀ {xs L : List Nat}, y ∈ foF rc xs L → y ∈ xs ∨ y ∈ L := by
  intro xs
  induction xs with
  | nil => intro L h; exact Or.inr h
  | cons x xs ih =>
    intro L h
    rw [show x :: xs = [x] ++ xs from rfl, foF_app, foF_one] at h
    rcases ih h with w | w
    · exact Or.inl (List.mem_cons_of_mem _ w)
    · by_cases q : hPlay (fr x) rc = true
      · rw [if_pos q] at w
        rcases insK_mem w with z | z
        · exact Or.inl (by rw [z]; exact List.mem_cons_self)
        · exact Or.inr z
      · rw [if_neg q] at w
        exact Or.inr w
section GOB
variable (p : Nat → Int) (Ln : Nat) (op : Nat → Int) (sl : Nat → Bool) (cp : Int)
/-- what the first k pitches of a string give -/
def aSk (rem s met c k : Nat) : List Nat := (List.range k).flatMap (fun k => if okS p op sl cp s k met then aS p Ln op sl cp rem (s + 1) (met + 2 ^ k) (wi c s (p k - op s - cp)) else [])
theorem aSk_s (rem s met c k : Nat) : aSk p Ln op sl cp rem s met c (k + 1) = aSk p Ln op sl cp rem s met c k ++ (if okS p op sl cp s k met then aS p Ln op sl cp rem (s + 1) (met + 2 ^ k) (wi c s (p k - op s - cp)) else []) := by
  unfold aSk
  rw [List.range_succ, List.flatMap_append]
  simp
theorem aS_s (rem s met c : Nat) : aS p Ln op sl cp (rem + 1) s met c = aS p Ln op sl cp rem (s + 1) met c ++ aSk p Ln op sl cp rem s met c Ln := rfl
/-- room of the first k pitches -/
def Bdk (rem met k : Nat) : Nat := ((List.range k).map (fun k => if bit met k then 0 else Bd Ln rem (met + 2 ^ k))).sum
theorem Bdk_s (rem met k : Nat) : Bdk Ln rem met (k + 1) = Bdk Ln rem met k + (if bit met k then 0 else Bd Ln rem (met + 2 ^ k)) := by
  unfold Bdk
  rw [List.range_succ, List.map_append, List.sum_append]
  simp
theorem Bd_s (rem met : Nat) : Bd Ln (rem + 1) met = Bd Ln rem met + Bdk Ln rem met Ln := rfl
end GOB
