/-! Mathematics of Neck's search by strings. -/
theorem cp_cong {f g : Nat → Int} : ∀ n, (∀ j, j < n → f j = g j) → cp f n = cp g n
  | 0, _ => rfl
  | n + 1, h => by
    show cpS (f n) (cp f n) = cpS (g n) (cp g n)
    rw [h n (Nat.lt_succ_self n), cp_cong n (fun j hj => h j (by omega))]
theorem cs_cong {f g : Nat → Int} : ∀ n, (∀ j, j < n → f j = g j) → cs f n = cs g n
  | 0, _ => rfl
  | n + 1, h => by
    show csS (f n) (cs f n) = csS (g n) (cs g n)
    rw [h n (Nat.lt_succ_self n), cs_cong n (fun j hj => h j (by omega))]
theorem fb_cong {f g : Nat → Int} {low : Int} : ∀ n, (∀ j, j < n → f j = g j) → fb f low n = fb g low n
  | 0, _ => rfl
  | n + 1, h => by
    show fbS low (f n) (fb f low n) = fbS low (g n) (fb g low n)
    rw [h n (Nat.lt_succ_self n), fb_cong n (fun j hj => h j (by omega))]
theorem h_cong {f g : Nat → Int} (h : ∀ j, j < 6 → f j = g j) : hEff f = hEff g ∧ hLow f = hLow g ∧ hHigh f = hHigh g ∧ hFc f = hFc g ∧ ∀ rc, hPlay f rc = hPlay g rc := by
  have a := cp_cong 6 h
  have b := cs_cong 6 h
  have lo : hLow f = hLow g := by unfold hLow; rw [a]
  have hi : hHigh f = hHigh g := by unfold hHigh; rw [a]
  have pr : hPr f = hPr g := by unfold hPr; rw [a]
  have sk : hSkp f = hSkp g := by unfold hSkp; rw [b]
  have fq : fb f (hLow f) 6 = fb g (hLow g) 6 := by rw [lo]; exact fb_cong 6 h
  have pal : hPal f = hPal g := by unfold hPal; rw [fq]
  have bar : hBar f = hBar g := by unfold hBar; rw [pal, fq]
  have fc : hFc f = hFc g := by unfold hFc; rw [bar, pr, pal]
  refine ⟨by unfold hEff; rw [hi, lo, fc, bar, sk], lo, hi, fc, fun rc => by unfold hPlay; rw [hi, lo, fc]⟩
/-- before the first that is not less -/
def insK (c : Nat) : List Nat → List Nat
  | [] => [c]
  | x :: L => if kltb x c = true then x :: insK c L else c :: x :: L
def posK (c : Nat) : List Nat → Nat
  | [] => 0
  | x :: L => if kltb x c = true then posK c L + 1 else 0
theorem insK_ins {c : Nat} : ∀ {L : List Nat}, c ∉ L → insK c L = ins c L
  | [], _ => rfl
  | x :: L, h => by
    have h1 : ¬ c = x := fun q => h (by rw [q]; exact List.mem_cons_self)
    have h2 : c ∉ L := fun q => h (List.mem_cons_of_mem _ q)
    unfold insK ins
    by_cases a : klt x c
    · rw [if_pos (kltb_t.mpr a), if_neg (fun q => klt_as a (kltb_t.mp q)), insK_ins h2]
    · rw [if_neg (fun q => a (kltb_t.mp q))]
      rcases klt_tot c x with w | w | w
      · rw [if_pos (kltb_t.mpr w)]
      · exact absurd w h1
      · exact absurd w a
theorem posK_le {c : Nat} : ∀ (L : List Nat), posK c L ≤ L.length
  | [] => Nat.le_refl _
  | x :: L => by
    have h := posK_le (c := c) L
    show (if kltb x c = true then posK c L + 1 else 0) ≤ L.length + 1
    split <;> omega
/-- the place is the first that is not less -/
theorem posK_eq {c : Nat} : ∀ (L : List Nat) (k : Nat), k ≤ L.length → (∀ j, j < k → klt (L.getD j 0) c) → (k < L.length → ¬ klt (L.getD k 0) c) → posK c L = k
  | [], k, h, _, _ => by
    have : k = 0 := Nat.le_zero.mp h
    rw [this]
    rfl
  | x :: L, 0, _, _, h2 => by
    show (if kltb x c = true then posK c L + 1 else 0) = 0
    have hx : ¬ klt x c := h2 (Nat.succ_pos _)
    exact if_neg (fun q => hx (kltb_t.mp q))
  | x :: L, k + 1, h, h1, h2 => by
    show (if kltb x c = true then posK c L + 1 else 0) = k + 1
    have hx : klt x c := h1 0 (Nat.succ_pos _)
    rw [if_pos (kltb_t.mpr hx), posK_eq L k (Nat.le_of_succ_le_succ h) (fun j hj => h1 (j + 1) (Nat.succ_lt_succ hj)) (fun q => h2 (Nat.succ_lt_succ q))]
theorem insK_len {c : Nat} : ∀ (L : List Nat), (insK c L).length = L.length + 1
  | [] => rfl
  | x :: L => by
    unfold insK
    split
    · rw [List.length_cons, insK_len L, List.length_cons]
    · rfl
theorem insK_get {c : Nat} : ∀ (L : List Nat), (∀ j, j < posK c L → (insK c L).getD j 0 = L.getD j 0) ∧ (insK c L).getD (posK c L) 0 = c ∧ ∀ j, posK c L ≤ j → (insK c L).getD (j + 1) 0 = L.getD j 0
  | [] => ⟨fun j hj => absurd hj (Nat.not_lt_zero _), rfl, fun j _ => by simp [insK]⟩
  | x :: L => by
    obtain ⟨a, b, d⟩ := insK_get (c := c) L
    unfold insK posK
    by_cases q : kltb x c = true
    · rw [if_pos q, if_pos q]
      refine ⟨fun j hj => ?_, ?_, fun j hj => ?_⟩
      · cases j with
        | zero => rfl
        | succ j => exact a j (by omega)
      · exact b
      · cases j with
        | zero => omega
        | succ j => exact d j (by omega)
    · rw [if_neg q, if_neg q]
      exact ⟨fun j hj => absurd hj (Nat.not_lt_zero _), rfl, fun j _ => rfl⟩
theorem fold_insK {cs : List Nat} : ∀ (L : List Nat), cs.Nodup → (∀ c ∈ cs, c ∉ L) → cs.foldl (fun L c => insK c L) L = cs.foldl (fun L c => ins c L) L := by
  induction cs with
  | nil => intro L _ _; rfl
  | cons x cs ih =>
    intro L hn hd
    rw [List.foldl_cons, List.foldl_cons, insK_ins (hd x List.mem_cons_self)]
    refine ih _ (List.nodup_cons.mp hn).2 (fun c hc q => ?_)
    rcases ins_mem.mp q with w | w
    · rw [w] at hc
      exact (List.nodup_cons.mp hn).1 hc
    · exact hd c (List.mem_cons_of_mem _ hc) w
/-! codes in their order -/
theorem lexP_s {f g : Nat → Int} {k : Nat} : lexP f g (k + 1) ↔ lexP f g k ∨ ((∀ j, j < k → f j = g j) ∧ f k < g k) := by
  constructor
  · rintro ⟨o, o1, o2, o3⟩
    by_cases q : o = k
    · subst q
      exact Or.inr ⟨o2, o3⟩
    · exact Or.inl ⟨o, by omega, o2, o3⟩
  · rintro (⟨o, o1, o2, o3⟩ | ⟨o2, o3⟩)
    · exact ⟨o, by omega, o2, o3⟩
    · exact ⟨k, by omega, o2, o3⟩
theorem pre_step (a : Nat) {k : Nat} (hk : k < 6) : a / 16 ^ (5 - k) = 16 * (a / 16 ^ (6 - k)) + dg a k := by
  have e : 16 ^ (6 - k) = 16 ^ (5 - k) * 16 := by
    rw [← Nat.pow_succ]
    congr 1
    omega
  unfold dg
  rw [e, ← Nat.div_div_eq_div_mul]
  exact (Nat.div_add_mod _ 16).symm
theorem lex_pre {a b : Nat} (ha : a < 16777216) (hb : b < 16777216) : ∀ k, k ≤ 6 → (a / 16 ^ (6 - k) < b / 16 ^ (6 - k) ↔ lexP (fr a) (fr b) k) ∧ (a / 16 ^ (6 - k) = b / 16 ^ (6 - k) ↔ ∀ j, j < k → fr a j = fr b j)
  | 0, _ => by
    have e1 : a / 16 ^ (6 - 0) = 0 := Nat.div_eq_of_lt ha
    have e2 : b / 16 ^ (6 - 0) = 0 := Nat.div_eq_of_lt hb
    rw [e1, e2]
    exact ⟨⟨fun q => absurd q (Nat.lt_irrefl 0), fun ⟨o, o1, _⟩ => absurd o1 (Nat.not_lt_zero _)⟩, fun _ j hj => absurd hj (Nat.not_lt_zero _), fun _ => rfl⟩
  | k + 1, hk => by
    obtain ⟨i1, i2⟩ := lex_pre ha hb k (by omega)
    have e : 6 - (k + 1) = 5 - k := by omega
    have da : dg a k < 16 := Nat.mod_lt _ (by decide)
    have db : dg b k < 16 := Nat.mod_lt _ (by decide)
    have ea := fr_dg a k
    have eb := fr_dg b k
    rw [e, pre_step a (by omega), pre_step b (by omega), lexP_s, ← i1, ← i2]
    have hs : (∀ j, j < k + 1 → fr a j = fr b j) ↔ (a / 16 ^ (6 - k) = b / 16 ^ (6 - k)) ∧ fr a k = fr b k := by
      rw [i2]
      constructor
      · exact fun q => ⟨fun j hj => q j (by omega), q k (by omega)⟩
      · rintro ⟨q1, q2⟩ j hj
        by_cases w : j = k
        · rw [w]; exact q2
        · exact q1 j (by omega)
    rw [hs, ea, eb]
    generalize a / 16 ^ (6 - k) = x
    generalize b / 16 ^ (6 - k) = y
    generalize dg a k = u at *
    generalize dg b k = v at *
    constructor <;> omega
theorem lex_lt {a b n : Nat} (hn : n ≤ 6) (ha : a < 16777216) (hb : b < 16777216) (hs : ∀ s, n ≤ s → s < 6 → fr a s = fr b s) : lexP (fr a) (fr b) n ↔ a < b := by
  have h := (lex_pre ha hb 6 (Nat.le_refl 6)).1
  rw [Nat.sub_self, Nat.pow_zero, Nat.div_one, Nat.div_one] at h
  rw [h]
  constructor
  · rintro ⟨o, o1, o2, o3⟩
    exact ⟨o, by omega, o2, o3⟩
  · rintro ⟨o, o1, o2, o3⟩
    refine ⟨o, ?_, o2, o3⟩
    by_cases q : o < n
    · exact q
    · have := hs o (by omega) o1
      omega
theorem lexP_cong {f g f2 g2 : Nat → Int} {n : Nat} (hf : ∀ j, j < n → f j = f2 j) (hg : ∀ j, j < n → g j = g2 j) : lexP f g n ↔ lexP f2 g2 n := by
  constructor
  · rintro ⟨o, o1, o2, o3⟩
    exact ⟨o, o1, fun j hj => by rw [← hf j (by omega), ← hg j (by omega)]; exact o2 j hj, by rw [← hf o o1, ← hg o o1]; exact o3⟩
  · rintro ⟨o, o1, o2, o3⟩
    exact ⟨o, o1, fun j hj => by rw [hf j (by omega), hg j (by omega)]; exact o2 j hj, by rw [hf o o1, hg o o1]; exact o3⟩
