/-! The plan: what holds of it. -/
/-- which ones may be taken -/
def alw (fx : Int) (j : Nat) : Prop := fx = -1 ∨ fx = (j : Int)
theorem bst_spec (fx : Int) (cost : Nat → Int) : ∀ n, ((bst fx cost n).1 = -1 ∧ ∀ j, j < n → ¬ alw fx j) ∨ ∃ k, k < n ∧ (bst fx cost n).1 = (k : Int) ∧ alw fx k ∧ (bst fx cost n).2 = cost k ∧ (∀ j, j < n → alw fx j → cost k ≤ cost j) ∧ ∀ j, j < k → alw fx j → cost k < cost j
  | 0 => Or.inl ⟨rfl, fun j h => absurd h (Nat.not_lt_zero _)⟩
  | n + 1 => by
    have e : bst fx cost (n + 1) = bstS fx (cost n) n (bst fx cost n) := rfl
    rw [e]
    unfold bstS
    by_cases c : fx ≠ -1 ∧ fx ≠ n
    · rw [if_pos c]
      have na : ¬ alw fx n := fun q => q.elim (fun q => c.1 q) (fun q => c.2 q)
      rcases bst_spec fx cost n with ⟨h1, h2⟩ | ⟨k, h1, h2, h3, h4, h5, h6⟩
      · refine Or.inl ⟨h1, fun j hj => ?_⟩
        by_cases q : j = n
        · rw [q]; exact na
        · exact h2 j (by omega)
      · refine Or.inr ⟨k, by omega, h2, h3, h4, fun j hj ha => ?_, h6⟩
        by_cases q : j = n
        · rw [q] at ha; exact absurd ha na
        · exact h5 j (by omega) ha
    · rw [if_neg c]
      have na : alw fx n := by unfold alw; omega
      rcases bst_spec fx cost n with ⟨h1, h2⟩ | ⟨k, h1, h2, h3, h4, h5, h6⟩
      · rw [if_pos (Or.inl h1)]
        refine Or.inr ⟨n, Nat.lt_succ_self n, rfl, na, rfl, fun j hj ha => ?_, fun j hj ha => absurd ha (h2 j hj)⟩
        by_cases q : j = n
        · rw [q]; exact Int.le_refl _
        · exact absurd ha (h2 j (by omega))
      · by_cases d : (bst fx cost n).1 = -1 ∨ cost n < (bst fx cost n).2
        · rw [if_pos d]
          have d : cost n < cost k := by rcases d with d | d <;> omega
          refine Or.inr ⟨n, Nat.lt_succ_self n, rfl, na, rfl, fun j hj ha => ?_, fun j hj ha => ?_⟩
          · by_cases q : j = n
            · rw [q]; exact Int.le_refl _
            · have := h5 j (by omega) ha; omega
          · have := h5 j hj ha; omega
        · rw [if_neg d]
          have d : cost k ≤ cost n := by
            rw [h4] at d
            have : ¬ cost n < cost k := fun q => d (Or.inr q)
            omega
          refine Or.inr ⟨k, by omega, h2, h3, h4, fun j hj ha => ?_, h6⟩
          by_cases q : j = n
          · rw [q]; exact d
          · exact h5 j (by omega) ha
/-- it is the one that is first with the least cost -/
theorem bst_is {fx : Int} {cost : Nat → Int} {n k : Nat} (hk : k < n) (ha : alw fx k) (h1 : ∀ j, j < n → alw fx j → cost k ≤ cost j) (h2 : ∀ j, j < k → alw fx j → cost k < cost j) : (bst fx cost n).1 = (k : Int) := by
  rcases bst_spec fx cost n with ⟨q1, q2⟩ | ⟨i, q1, q2, q3, q4, q5, q6⟩
  · exact absurd ha (q2 k hk)
  · have e : i = k := by
      by_cases a : i < k
      · have := h2 i a q3
        have := q5 k hk ha
        omega
      · by_cases b : k < i
        · have := q6 k b ha
          have := h1 i q1 q3
          omega
        · omega
    rw [q2, e]
section DP
variable {Ls : Nat → List Nat} {fx ln : Nat → Int} {cnt : Nat}
/-- what is fixed is a grip, and every chord has one -/
def okF (Ls : Nat → List Nat) (fx : Nat → Int) (cnt : Nat) : Prop := ∀ c, c < cnt → 0 < (Ls c).length ∧ (fx c = -1 ∨ 0 ≤ fx c ∧ fx c < ((Ls c).length : Int))
theorem bestF_spec (ok : okF Ls fx cnt) (rs : Nat → Nat → Int) {c : Nat} (hc : c < cnt) (b : Int) : ∃ k, k < (Ls c).length ∧ bestF Ls fx ln cnt rs c b = (k : Int) ∧ alw (fx c) k ∧ (∀ j, j < (Ls c).length → alw (fx c) j → rs c k + mvF Ls ln cnt ((c : Int) - 1) b k ≤ rs c j + mvF Ls ln cnt ((c : Int) - 1) b j) ∧ ∀ j, j < k → alw (fx c) j → rs c k + mvF Ls ln cnt ((c : Int) - 1) b k < rs c j + mvF Ls ln cnt ((c : Int) - 1) b j := by
  unfold bestF
  rw [if_neg (by omega)]
  rcases bst_spec (fx c) (fun g => rs c g + mvF Ls ln cnt ((c : Int) - 1) b g) (Ls c).length with ⟨q1, q2⟩ | ⟨k, q1, q2, q3, q4, q5, q6⟩
  · obtain ⟨h1, h2⟩ := ok c hc
    exfalso
    rcases h2 with h2 | ⟨h2, h3⟩
    · exact q2 0 h1 (Or.inl h2)
    · exact q2 (fx c).toNat (by omega) (Or.inr (by omega))
  · exact ⟨k, q1, q2, q3, q5, q6⟩
theorem CH_spec (ok : okF Ls fx cnt) {c : Nat} (hc : c < cnt) : ∃ k, k < (Ls c).length ∧ CH Ls fx ln cnt c = (k : Int) ∧ alw (fx c) k := by
  cases c with
  | zero =>
    obtain ⟨k, h1, h2, h3, -⟩ := bestF_spec (ln := ln) ok (RS Ls fx ln cnt) hc (-1)
    exact ⟨k, h1, h2, h3⟩
  | succ c =>
    obtain ⟨k, h1, h2, h3, -⟩ := bestF_spec (ln := ln) ok (RS Ls fx ln cnt) hc (CH Ls fx ln cnt c)
    exact ⟨k, h1, h2, h3⟩
/-- from a grip of the plan on -/
theorem RS_CH (ok : okF Ls fx cnt) {c : Nat} (hc : c < cnt) : RS Ls fx ln cnt c (CH Ls fx ln cnt c).toNat = hEff (fr ((Ls c).getD (CH Ls fx ln cnt c).toNat 0)) + (if c + 1 < cnt then RS Ls fx ln cnt (c + 1) (CH Ls fx ln cnt (c + 1)).toNat + mvF Ls ln cnt (c : Int) (CH Ls fx ln cnt c) (CH Ls fx ln cnt (c + 1)) else 0) := by
  obtain ⟨k, h1, h2, h3⟩ := CH_spec (ln := ln) ok hc
  have e : (((CH Ls fx ln cnt c).toNat : Nat) : Int) = CH Ls fx ln cnt c := by omega
  rw [RS_c hc, e]
  have e2 : bestF Ls fx ln cnt (RS Ls fx ln cnt) (c + 1) (CH Ls fx ln cnt c) = CH Ls fx ln cnt (c + 1) := rfl
  rw [e2]
  by_cases q : c + 1 < cnt
  · obtain ⟨j, j1, j2, j3⟩ := CH_spec (ln := ln) ok q
    rw [if_pos q, if_neg (by omega)]
  · rw [if_neg q, if_pos (by rw [← e2]; unfold bestF; exact if_pos (by omega))]
/-- the sum of the efforts and the moves of the plan -/
def smA (Ls : Nat → List Nat) (ln ch : Nat → Int) (cnt : Nat) : Nat → Int
  | 0 => 0
  | c + 1 => smA Ls ln ch cnt c + (hEff (fr ((Ls c).getD (ch c).toNat 0)) + (if c + 1 < cnt then mvF Ls ln cnt (c : Int) (ch c) (ch (c + 1)) else 0))
theorem smA_RS (ok : okF Ls fx cnt) : ∀ c, c < cnt → smA Ls ln (CH Ls fx ln cnt) cnt c + RS Ls fx ln cnt c (CH Ls fx ln cnt c).toNat = RS Ls fx ln cnt 0 (CH Ls fx ln cnt 0).toNat
  | 0, _ => by unfold smA; omega
  | c + 1, h => by
    have ih := smA_RS ok c (by omega)
    have e := RS_CH (ln := ln) ok (c := c) (by omega)
    rw [if_pos h] at e
    unfold smA
    rw [if_pos h]
    omega
theorem gless_0 : ∀ n, (gless Ls n = 0 ↔ ∀ c, c < n → 0 < (Ls c).length)
  | 0 => ⟨fun _ c h => absurd h (Nat.not_lt_zero _), fun _ => rfl⟩
  | n + 1 => by
    have ih := gless_0 n
    have hr := gless_rg Ls n
    show (if ((Ls n).length : Int) = 0 then gless Ls n + 1 else gless Ls n) = 0 ↔ _
    by_cases q : ((Ls n).length : Int) = 0
    · rw [if_pos q]
      exact ⟨fun h => by omega, fun h => by have := h n (Nat.lt_succ_self n); omega⟩
    · rw [if_neg q, ih]
      refine ⟨fun h c hc => ?_, fun h c hc => h c (by omega)⟩
      by_cases r : c = n
      · rw [r]; omega
      · exact h c (by omega)
theorem RSk_0 : ∀ k g, 0 ≤ RSk Ls fx ln cnt k g
  | 0, g => by simp [RSk]
  | k + 1, g => by
    unfold RSk
    have h1 := hEff_0 (fr_fbd ((Ls (cnt - (k + 1))).getD g 0))
    have h2 := RSk_0 k (bestF Ls fx ln cnt (fun _ => RSk Ls fx ln cnt k) (cnt - k) (g : Int)).toNat
    have h3 := mvF_rg Ls ln cnt ((cnt - (k + 1) : Nat) : Int) (g : Int) (bestF Ls fx ln cnt (fun _ => RSk Ls fx ln cnt k) (cnt - k) (g : Int))
    split <;> omega
/-- a plan that is there -/
theorem totS_in (ok : okF Ls fx cnt) (h0 : 0 < cnt) : totS Ls fx ln cnt = RS Ls fx ln cnt 0 (CH Ls fx ln cnt 0).toNat ∧ 0 ≤ totS Ls fx ln cnt := by
  have hg : gless Ls cnt = 0 := (gless_0 cnt).mpr (fun c hc => (ok c hc).1)
  obtain ⟨k, h1, h2, h3⟩ := CH_spec (ln := ln) ok h0
  have e : totS Ls fx ln cnt = RS Ls fx ln cnt 0 (CH Ls fx ln cnt 0).toNat := by
    unfold totS
    rw [if_neg (by omega), if_pos (by omega)]
  exact ⟨e, by rw [e]; exact RSk_0 _ _⟩
theorem totS_sum (ok : okF Ls fx cnt) (h0 : 0 < cnt) : smA Ls ln (CH Ls fx ln cnt) cnt cnt = totS Ls fx ln cnt := by
  rw [(totS_in ok h0).1]
  obtain ⟨c, rfl⟩ : ∃ c, cnt = c + 1 := ⟨cnt - 1, by omega⟩
  have ih := smA_RS (ln := ln) ok c (by omega)
  have e := RS_CH (ln := ln) ok (c := c) (by omega)
  rw [if_neg (by omega)] at e
  show smA Ls ln _ _ c + (_ + (if c + 1 < c + 1 then _ else 0)) = _
  rw [if_neg (by omega)]
  omega
/-- what is fixed as it is planned changes no total -/
theorem RS_fix (ok : okF Ls fx cnt) {c0 : Nat} (h0 : c0 < cnt) (hf : fx c0 = -1) : ∀ d c, c + d = c0 →
    (∀ g, RS Ls fx ln cnt c g ≤ RS Ls (va_up fx c0 (CH Ls fx ln cnt c0)) ln cnt c g) ∧ RS Ls (va_up fx c0 (CH Ls fx ln cnt c0)) ln cnt c (CH Ls fx ln cnt c).toNat = RS Ls fx ln cnt c (CH Ls fx ln cnt c).toNat := by
  obtain ⟨k0, k1, k2, k3⟩ := CH_spec (ln := ln) ok h0
  generalize hF : va_up fx c0 (CH Ls fx ln cnt c0) = fy
  have fy0 : fy c0 = CH Ls fx ln cnt c0 := by rw [← hF]; exact up_s
  have fyn : ∀ c, c ≠ c0 → fy c = fx c := fun c hc => by rw [← hF]; exact up_n hc
  have oky : okF Ls fy cnt := fun c hc => by
    by_cases q : c = c0
    · rw [q, fy0]; exact ⟨(ok c0 h0).1, Or.inr (by omega)⟩
    · rw [fyn c q]; exact ok c hc
  -- behind c0 nothing differs
  have tail : ∀ k, cnt - k > c0 → ∀ g, RSk Ls fy ln cnt k g = RSk Ls fx ln cnt k g := by
    intro k
    induction k with
    | zero => intro _ g; rfl
    | succ k ih =>
      intro hk g
      have ih := ih (by omega)
      have e : ∀ b, bestF Ls fy ln cnt (fun _ => RSk Ls fy ln cnt k) (cnt - k) b = bestF Ls fx ln cnt (fun _ => RSk Ls fx ln cnt k) (cnt - k) b := fun b => by
        unfold bestF
        by_cases q : cnt ≤ cnt - k
        · rw [if_pos q, if_pos q]
        · rw [if_neg q, if_neg q, fyn (cnt - k) (by omega)]
          exact congrArg Prod.fst (bst_cong _ (fun j _ => by show RSk Ls fy ln cnt k j + _ = RSk Ls fx ln cnt k j + _; rw [ih]))
      unfold RSk
      rw [e]
      simp only [ih]
  have same : ∀ g, RS Ls fy ln cnt c0 g = RS Ls fx ln cnt c0 g := fun g => by
    rw [RS_c h0, RS_c h0]
    have t : RS Ls fy ln cnt (c0 + 1) = RS Ls fx ln cnt (c0 + 1) := funext fun g => by
      by_cases q : c0 + 1 < cnt
      · exact tail (cnt - (c0 + 1)) (by omega) g
      · show RSk _ _ _ _ (cnt - (c0 + 1)) g = RSk _ _ _ _ (cnt - (c0 + 1)) g
        rw [show cnt - (c0 + 1) = 0 by omega]
        rfl
    have e : bestF Ls fy ln cnt (RS Ls fy ln cnt) (c0 + 1) (g : Int) = bestF Ls fx ln cnt (RS Ls fx ln cnt) (c0 + 1) (g : Int) := by
      unfold bestF
      by_cases q : cnt ≤ c0 + 1
      · rw [if_pos q, if_pos q]
      · rw [if_neg q, if_neg q, fyn (c0 + 1) (by omega)]
        exact congrArg Prod.fst (bst_cong _ (fun j _ => by rw [t]))
    rw [e, t]
  intro d
  induction d with
  | zero =>
    intro c hc
    obtain rfl : c = c0 := by omega
    exact ⟨fun g => Int.le_of_eq (same g).symm, same _⟩
  | succ d ih =>
    intro c hc
    obtain ⟨ih1, ih2⟩ := ih (c + 1) (by omega)
    have hc1 : c + 1 < cnt := by omega
    refine ⟨fun g => ?_, ?_⟩
    · rw [RS_c (by omega) g, RS_c (by omega) g]
      obtain ⟨i, i1, i2, i3, i4, i5⟩ := bestF_spec (ln := ln) ok (RS Ls fx ln cnt) hc1 (g : Int)
      obtain ⟨j, j1, j2, j3, j4, j5⟩ := bestF_spec (ln := ln) oky (RS Ls fy ln cnt) hc1 (g : Int)
      rw [i2, j2, if_neg (by omega), if_neg (by omega)]
      have aj : alw (fx (c + 1)) j := by
        by_cases q : c + 1 = c0
        · rw [q, hf]; exact Or.inl rfl
        · rw [← fyn (c + 1) q]; exact j3
      have h1 := i4 j j1 aj
      have h2 := ih1 j
      have e : (((c + 1 : Nat) : Int) - 1) = (c : Int) := by omega
      rw [e] at h1
      simp only [Int.toNat_natCast]
      omega
    · rw [RS_CH ok (c := c) (by omega), if_pos hc1]
      obtain ⟨k, q1, q2, q3⟩ := CH_spec (ln := ln) ok (c := c) (by omega)
      have e : (((CH Ls fx ln cnt c).toNat : Nat) : Int) = CH Ls fx ln cnt c := by omega
      rw [RS_c (by omega), e]
      obtain ⟨i, i1, i2, i3, i4, i5⟩ := bestF_spec (ln := ln) ok (RS Ls fx ln cnt) hc1 (CH Ls fx ln cnt c)
      have eCH : CH Ls fx ln cnt (c + 1) = (i : Int) := i2
      have ei : (CH Ls fx ln cnt (c + 1)).toNat = i := by omega
      rw [ei] at ih2
      have b : bestF Ls fy ln cnt (RS Ls fy ln cnt) (c + 1) (CH Ls fx ln cnt c) = (i : Int) := by
        unfold bestF
        rw [if_neg (by omega)]
        refine bst_is i1 ?_ (fun j hj ha => ?_) (fun j hj ha => ?_)
        · by_cases q : c + 1 = c0
          · rw [q, fy0, ← q, eCH]; exact Or.inr rfl
          · rw [fyn (c + 1) q]; exact i3
        · have aj : alw (fx (c + 1)) j := by
            by_cases q : c + 1 = c0
            · rw [q, hf]; exact Or.inl rfl
            · rw [← fyn (c + 1) q]; exact ha
          have h1 := i4 j hj aj
          have h2 := ih1 j
          show RS Ls fy ln cnt (c + 1) i + _ ≤ RS Ls fy ln cnt (c + 1) j + _
          omega
        · have aj : alw (fx (c + 1)) j := by
            by_cases q : c + 1 = c0
            · rw [q, hf]; exact Or.inl rfl
            · rw [← fyn (c + 1) q]; exact ha
          have h1 := i5 j hj aj
          have h2 := ih1 j
          show RS Ls fy ln cnt (c + 1) i + _ < RS Ls fy ln cnt (c + 1) j + _
          omega
      rw [b, if_neg (by omega), eCH]
      simp only [Int.toNat_natCast]
      omega
theorem totS_fix (ok : okF Ls fx cnt) {c0 : Nat} (h0 : c0 < cnt) (hf : fx c0 = -1) : totS Ls (va_up fx c0 (CH Ls fx ln cnt c0)) ln cnt = totS Ls fx ln cnt := by
  obtain ⟨k0, k1, k2, k3⟩ := CH_spec (ln := ln) ok h0
  have oky : okF Ls (va_up fx c0 (CH Ls fx ln cnt c0)) cnt := fun c hc => by
    by_cases q : c = c0
    · rw [q, up_s]; exact ⟨(ok c0 h0).1, Or.inr (by omega)⟩
    · rw [up_n q]; exact ok c hc
  obtain ⟨r1, r2⟩ := RS_fix (ln := ln) ok h0 hf c0 0 (by omega)
  rw [(totS_in ok (by omega)).1, (totS_in oky (by omega)).1, ← r2]
  have e : CH Ls (va_up fx c0 (CH Ls fx ln cnt c0)) ln cnt 0 = CH Ls fx ln cnt 0 := by
    obtain ⟨i, i1, i2, i3, i4, i5⟩ := bestF_spec (ln := ln) ok (RS Ls fx ln cnt) (c := 0) (by omega) (-1)
    have eCH : CH Ls fx ln cnt 0 = (i : Int) := i2
    have ei : (CH Ls fx ln cnt 0).toNat = i := by omega
    rw [ei] at r2
    rw [eCH]
    show bestF _ _ _ _ _ 0 (-1) = _
    unfold bestF
    rw [if_neg (by omega)]
    have al : ∀ j, alw (va_up fx c0 (CH Ls fx ln cnt c0) 0) j → alw (fx 0) j := fun j ha => by
      by_cases q : (0 : Nat) = c0
      · rw [q, hf]; exact Or.inl rfl
      · rw [up_n q] at ha; exact ha
    refine bst_is i1 ?_ (fun j hj ha => ?_) (fun j hj ha => ?_)
    · by_cases q : (0 : Nat) = c0
      · rw [← q, up_s, eCH]; exact Or.inr rfl
      · rw [up_n q]; exact i3
    · have h1 := i4 j hj (al j ha)
      have h2 := r1 j
      show RS _ _ _ _ 0 i + _ ≤ RS _ _ _ _ 0 j + _
      omega
    · have h1 := i5 j hj (al j ha)
      have h2 := r1 j
      show RS _ _ _ _ 0 i + _ < RS _ _ _ _ 0 j + _
      omega
  rw [e]
end DP
/-- the best capo is no worse than any that has a plan -/
theorem bC_spec (Q : Ins) (P : Pie) : ∀ k, ((bC Q P k).1 = -1 ∧ ∀ j, j < k → qT (Q.n, Q.op, Q.sl, (j : Int), Q.rc) P = -1) ∨ ∃ b : Nat, b < k ∧ (bC Q P k).1 = (b : Int) ∧ (bC Q P k).2 = qT (Q.n, Q.op, Q.sl, (b : Int), Q.rc) P ∧ qT (Q.n, Q.op, Q.sl, (b : Int), Q.rc) P ≠ -1 ∧ ∀ j, j < k → qT (Q.n, Q.op, Q.sl, (j : Int), Q.rc) P ≠ -1 → qT (Q.n, Q.op, Q.sl, (b : Int), Q.rc) P ≤ qT (Q.n, Q.op, Q.sl, (j : Int), Q.rc) P
  | 0 => Or.inl ⟨rfl, fun j h => absurd h (Nat.not_lt_zero _)⟩
  | k + 1 => by
    have e : bC Q P (k + 1) = bCs Q P k (bC Q P k) := rfl
    rw [e]
    unfold bCs
    rcases bC_spec Q P k with ⟨h1, h2⟩ | ⟨b, h1, h2, h3, h4, h5⟩
    · by_cases c : qT (Q.n, Q.op, Q.sl, (k : Int), Q.rc) P = -1
      · rw [if_neg (fun q => q.1 c)]
        refine Or.inl ⟨h1, fun j hj => ?_⟩
        by_cases r : j = k
        · rw [r]; exact c
        · exact h2 j (by omega)
      · rw [if_pos ⟨c, Or.inl h1⟩]
        refine Or.inr ⟨k, Nat.lt_succ_self k, rfl, rfl, c, fun j hj hn => ?_⟩
        by_cases r : j = k
        · rw [r]; exact Int.le_refl _
        · exact absurd (h2 j (by omega)) hn
    · by_cases c : ¬ qT (Q.n, Q.op, Q.sl, (k : Int), Q.rc) P = -1 ∧ ((bC Q P k).1 = -1 ∨ qT (Q.n, Q.op, Q.sl, (k : Int), Q.rc) P < (bC Q P k).2)
      · rw [if_pos c]
        obtain ⟨c1, c2⟩ := c
        rw [h3] at c2
        refine Or.inr ⟨k, Nat.lt_succ_self k, rfl, rfl, c1, fun j hj hn => ?_⟩
        by_cases r : j = k
        · rw [r]; exact Int.le_refl _
        · have := h5 j (by omega) hn
          omega
      · rw [if_neg c]
        refine Or.inr ⟨b, by omega, h2, h3, h4, fun j hj hn => ?_⟩
        by_cases r : j = k
        · subst r
          rw [h3] at c
          have : ¬ qT (Q.n, Q.op, Q.sl, (j : Int), Q.rc) P < qT (Q.n, Q.op, Q.sl, (b : Int), Q.rc) P := fun q => c ⟨hn, Or.inr q⟩
          omega
        · exact h5 j (by omega) hn
