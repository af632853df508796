/-! The law: how many shapes there may be; what a best shape sounds; two classes as bits. -/
theorem foldl_cnt {α : Type} {f : α → Nat → α} {m : α → Int} {B : Int} : ∀ (l : List Nat) (a : α), (∀ a k, k ∈ l → m a ≤ m (f a k) ∧ m (f a k) ≤ m a + B) → m a ≤ m (l.foldl f a) ∧ m (l.foldl f a) ≤ m a + (l.length : Int) * B
  | [], a, _ => by
    show m a ≤ m a ∧ m a ≤ m a + ((0 : Nat) : Int) * B
    rw [show ((0 : Nat) : Int) * B = 0 from Int.zero_mul B]
    omega
  | k :: l, a, h => by
    have h1 := h a k List.mem_cons_self
    have h2 := foldl_cnt l (f a k) (fun a j hj => h a j (List.mem_cons_of_mem _ hj))
    have e : ((l.length + 1 : Nat) : Int) * B = (l.length : Int) * B + B := by
      rw [Int.natCast_add, Int.add_mul]
      show _ + ((1 : Nat) : Int) * B = _
      rw [show ((1 : Nat) : Int) * B = B from Int.one_mul B]
    show m a ≤ m (l.foldl f (f a k)) ∧ m (l.foldl f (f a k)) ≤ m a + ((l.length + 1 : Nat) : Int) * B
    rw [e]
    omega
theorem shp_cnt (n : Nat) (op : Nat → Int) (sl : Nat → Bool) {cp : Int} (rc : Int) (cls bass fm : Nat) (hc : 0 ≤ cp ∧ cp ≤ 7) : ∀ rem c hd lo p, p.1 ≤ (shp n op sl cp rc cls bass fm rem c hd lo p).1 ∧ (shp n op sl cp rc cls bass fm rem c hd lo p).1 ≤ p.1 + ((14 ^ rem : Nat) : Int)
  | 0, c, hd, lo, p => by
    unfold shp
    split
    · unfold offS
      split
      · split
        · show p.1 ≤ p.1 + 1 ∧ p.1 + 1 ≤ p.1 + 1
          omega
        · show p.1 ≤ p.1 + 1 ∧ p.1 + 1 ≤ p.1 + 1
          omega
      · show p.1 ≤ p.1 ∧ p.1 ≤ p.1 + 1
        omega
    · show p.1 ≤ p.1 ∧ p.1 ≤ p.1 + 1
      omega
  | rem + 1, c, hd, lo, p => by
    have h2 := shp_cnt n op sl rc cls bass fm hc rem c hd lo p
    have hp : ((14 ^ (rem + 1) : Nat) : Int) = 14 * ((14 ^ rem : Nat) : Int) := by
      rw [Nat.pow_succ]
      omega
    have hB : 0 ≤ ((14 ^ rem : Nat) : Int) := Int.natCast_nonneg _
    unfold shp
    split
    · have hf := foldl_cnt (f := shStep op cp cls fm (6 - (rem + 1)) (shp n op sl cp rc cls bass fm rem) c hd lo) (m := fun p => p.1) (B := ((14 ^ rem : Nat) : Int)) (List.range (nF fm cp)) (shp n op sl cp rc cls bass fm rem c hd lo p) (fun a k hk => by
        unfold shStep
        split
        · show a.1 ≤ a.1 ∧ a.1 ≤ a.1 + _
          omega
        · exact shp_cnt n op sl rc cls bass fm hc rem _ _ _ _)
      have hn := nF_le (fm := fm) hc
      rw [List.length_range] at hf
      have hm : ((nF fm cp : Nat) : Int) * ((14 ^ rem : Nat) : Int) ≤ 13 * ((14 ^ rem : Nat) : Int) := Int.mul_le_mul_of_nonneg_right (by omega) hB
      have hf1 := hf.1
      have hf2 := hf.2
      omega
    · omega
theorem shA_cnt (n : Nat) (op : Nat → Int) (sl : Nat → Bool) {cp : Int} (rc : Int) (cls bass fm : Nat) (hc : 0 ≤ cp ∧ cp ≤ 7) : 0 ≤ (shA n op sl cp rc cls bass fm).1 ∧ (shA n op sl cp rc cls bass fm).1 ≤ 7529536 := by
  have h := shp_cnt n op sl rc cls bass fm hc 6 0 0 (-1) (0, -1, 0, 0)
  have e : ((14 ^ 6 : Nat) : Int) = 7529536 := by decide +kernel
  rw [e] at h
  have h1 := h.1
  have h2 := h.2
  dsimp only at h1 h2
  unfold shA
  omega
theorem shl12 : ∀ k : Nat, k < 12 → I 1 <<< (I (k : Int) &&& 31) = I ((2 ^ k : Nat) : Int) := by decide +kernel
def clB (b : Nat) : Nat := 2 ^ b ||| 2 ^ ((b + 4) % 12)
theorem clB_ok : ∀ b : Nat, b < 12 → (1 ≤ clB b ∧ clB b ≤ 4095) ∧ clB b / 2 ^ b % 2 = 1 ∧ bci (clB b) ≤ 4 := by decide +kernel
theorem metF_s (op : Nat → Int) (cp : Int) (f : Nat → Int) (k : Nat) : metF op cp f (k + 1) = if f k < 0 then metF op cp f k else metF op cp f k ||| 2 ^ (pit op cp k (f k).toNat % 12) := rfl
theorem lowF_s (op : Nat → Int) (cp : Int) (f : Nat → Int) (k : Nat) : lowF op cp f (k + 1) = if f k < 0 then lowF op cp f k else lowT (lowF op cp f k) (pit op cp k (f k).toNat) := rfl
theorem sh_fact {op : Nat → Int} {cp : Int} {n : Nat} {sl : Nat → Bool} {cls bass fm : Nat} {p : ShS} (h : SI (op := op) (cp := cp) n sl cls bass fm p) {a : Nat} (ha : a < 6) (hf : 0 ≤ fr p.2.2.2 a) : a < n ∧ sl a = false ∧ fr p.2.2.2 a ≤ 12 - cp ∧ (fr p.2.2.2 a = 0 ∨ (fm : Int) ≤ fr p.2.2.2 a ∧ fr p.2.2.2 a ≤ (fm : Int) + 3) := by
  rcases h with ⟨-, -, q⟩ | ⟨-, -, -, q, -⟩
  · rw [q, fr_0] at hf
    omega
  · rcases q a ha with w | ⟨w1, w2, w3, w4⟩
    · omega
    · exact ⟨(used_n w1).1, (used_n w1).2, w3, w4⟩
theorem sh_end {op : Nat → Int} {cp : Int} {n : Nat} {sl : Nat → Bool} {cls bass fm : Nat} {p : ShS} (h : SI (op := op) (cp := cp) n sl cls bass fm p) (hn : n ≤ 6) (h0 : 0 < p.1) : metF op cp (fr p.2.2.2) n = cls ∧ 0 ≤ lowF op cp (fr p.2.2.2) n ∧ lowF op cp (fr p.2.2.2) n % 12 = (bass : Int) := by
  have he := metF_end (op := op) (cp := cp) (f := fr p.2.2.2) (m := n) (6 - n) (fun s h1 h2 => by
    by_cases w : fr p.2.2.2 s < 0
    · exact w
    · have := sh_fact h (a := s) (by omega) (by omega)
      omega)
  rw [show n + (6 - n) = 6 by omega] at he
  rcases h with ⟨q, -⟩ | ⟨-, -, -, -, q1, q2, q3⟩
  · omega
  · rw [← he.1, ← he.2]
    exact ⟨q1, q2, q3⟩
theorem sh_num {op : Nat → Int} {cp : Int} {n : Nat} {sl : Nat → Bool} {cls bass fm : Nat} {p : ShS} (h : SI (op := op) (cp := cp) n sl cls bass fm p) : (p.1 = 0 ∧ p.2.1 = -1) ∨ (0 < p.1 ∧ 0 ≤ p.2.1) := by
  rcases h with ⟨q1, q2, -⟩ | ⟨q1, q2, -⟩
  · exact Or.inl ⟨q1, q2⟩
  · exact Or.inr ⟨q1, q2⟩
theorem I_remI {a : Int} {b : Nat} (ha : 0 ≤ a ∧ a < 2147483648) (hb : 0 < b ∧ b < 2147483648) : I a - I a / I (b : Int) * I (b : Int) = I (a % (b : Int)) := by
  obtain ⟨n, rfl⟩ : ∃ n : Nat, a = (n : Int) := ⟨a.toNat, by omega⟩
  exact I_rem (by omega) hb.1 (by omega)
