/-! The placements of a chord: all of them, each once. -/
theorem or_z (a : Nat) : a ||| 0 = a := Nat.or_zero a
/-- a digit of a code -/
def dg (c s : Nat) : Nat := c / 16 ^ (5 - s) % 16
theorem fr_dg (c s : Nat) : fr c s = ((dg c s : Nat) : Int) - 1 := rfl
theorem dg_or (a b s : Nat) (hs : s < 6) : dg (a ||| b) s = dg a s ||| dg b s := by
  unfold dg
  rw [p16 s hs, ← Nat.shiftRight_eq_div_pow, ← Nat.shiftRight_eq_div_pow, ← Nat.shiftRight_eq_div_pow, Nat.shiftRight_or_distrib]
  exact Nat.or_mod_two_pow (n := 4)
theorem dg_sh {d : Nat} (hd : d < 16) (s t : Nat) (hs : s < 6) (ht : t < 6) : dg (d * 16 ^ (5 - s)) t = if t = s then d else 0 := by
  have hs : s = 0 ∨ s = 1 ∨ s = 2 ∨ s = 3 ∨ s = 4 ∨ s = 5 := by omega
  have ht : t = 0 ∨ t = 1 ∨ t = 2 ∨ t = 3 ∨ t = 4 ∨ t = 5 := by omega
  unfold dg
  rcases hs with rfl | rfl | rfl | rfl | rfl | rfl <;> rcases ht with rfl | rfl | rfl | rfl | rfl | rfl <;> simp <;> omega
/-- a code with a fret on a string that was free -/
theorem fr_wi {c s t : Nat} {f : Int} (hs : s < 6) (ht : t < 6) (hf : 0 ≤ f ∧ f ≤ 14) (hc : fr c s = -1) : fr (wi c s f) t = if t = s then f else fr c t := by
  rw [fr_dg] at hc
  rw [fr_dg, fr_dg]
  unfold wi
  rw [dg_or _ _ t ht, dg_sh (by omega) s t hs ht]
  by_cases q : t = s
  · rw [if_pos q, if_pos q, q]
    have e : dg c s = 0 := by omega
    rw [e, Nat.zero_or]
    omega
  · rw [if_neg q, if_neg q, Nat.or_zero]
/-- a code is what its frets are -/
theorem code_ext {a b : Nat} (ha : a < 16777216) (hb : b < 16777216) (h : ∀ s, s < 6 → fr a s = fr b s) : a = b := by
  have d : ∀ s, s < 6 → dg a s = dg b s := fun s hs => by
    have := h s hs
    rw [fr_dg, fr_dg] at this
    omega
  have h0 := d 0 (by omega)
  have h1 := d 1 (by omega)
  have h2 := d 2 (by omega)
  have h3 := d 3 (by omega)
  have h4 := d 4 (by omega)
  have h5 := d 5 (by omega)
  unfold dg at h0 h1 h2 h3 h4 h5
  simp only [Nat.reduceSub, Nat.reducePow] at h0 h1 h2 h3 h4 h5
  omega
theorem fr_0 (s : Nat) : fr 0 s = -1 := by unfold fr; simp
section PL
variable (n : Nat) (op : Nat → Int) (sl : Nat → Bool) (cp : Int)
def plS : List Int → Nat → List Nat
  | [], c => [c]
  | p :: ps, c => (List.range n).flatMap (fun s => if fretF n op sl cp s p ≠ -1 ∧ fr c s = -1 then plS ps (wi c s (fretF n op sl cp s p)) else [])
theorem plc_plS (rc : Int) : ∀ (l : List Int) (c : Nat) (L : List Nat), plc n op sl cp rc l c L = ((plS n op sl cp l c).filter (fun c => hPlay (fr c) rc)).foldl insL L
  | [], c, L => by
    unfold plc plS
    by_cases h : hPlay (fr c) rc = true
    · rw [if_pos h]
      simp [List.filter, h]
    · rw [if_neg h]
      have h : hPlay (fr c) rc = false := by simpa using h
      simp [List.filter, h]
  | p :: ps, c, L => by
    unfold plc plS
    generalize List.range n = R
    induction R generalizing L with
    | nil => rfl
    | cons s R ih =>
      rw [List.foldl_cons, ih, List.flatMap_cons, List.filter_append, List.foldl_append]
      congr 1
      by_cases h : fretF n op sl cp s p ≠ -1 ∧ fr c s = -1
      · rw [if_pos h, if_pos h]
        exact plc_plS rc ps _ L
      · rw [if_neg h, if_neg h]
        rfl
/-- a code that puts these pitches on strings that were free, each on one -/
def Ext (l : List Int) (c0 c : Nat) : Prop := c < 16777216 ∧ (∀ s, s < 6 → fr c s = fr c0 s ∨ (fr c0 s = -1 ∧ used n sl s = true ∧ 0 ≤ fr c s ∧ fr c s ≤ 12 - cp ∧ fr c s + op s + cp ∈ l)) ∧ ∀ p ∈ l, ∃ s, s < 6 ∧ fr c0 s = -1 ∧ 0 ≤ fr c s ∧ fr c s + op s + cp = p ∧ ∀ t, t < 6 → fr c0 t = -1 → 0 ≤ fr c t → fr c t + op t + cp = p → t = s
variable {n op sl cp}
theorem used_n {s : Nat} (h : used n sl s = true) : s < n ∧ sl s = false := by
  unfold used at h
  rw [Bool.and_eq_true] at h
  exact ⟨of_decide_eq_true h.1, by simpa using h.2⟩
theorem fretF_s {s : Nat} {p : Int} (h : fretF n op sl cp s p ≠ -1) : used n sl s = true ∧ 0 ≤ fretF n op sl cp s p ∧ fretF n op sl cp s p ≤ 12 - cp ∧ fretF n op sl cp s p + op s + cp = p := by
  unfold fretF at *
  by_cases q : used n sl s = true ∧ 0 ≤ p - op s - cp ∧ p - op s - cp ≤ 12 - cp
  · rw [if_pos q] at *
    exact ⟨q.1, q.2.1, q.2.2, by omega⟩
  · rw [if_neg q] at h
    exact absurd rfl h
theorem fretF_i {s : Nat} {p f : Int} (h1 : used n sl s = true) (h2 : 0 ≤ f) (h3 : f ≤ 12 - cp) (h4 : f + op s + cp = p) : fretF n op sl cp s p = f := by
  unfold fretF
  rw [if_pos ⟨h1, by omega, by omega⟩]
  omega
theorem plS_mem (hn : n ≤ 6) (hcp : 0 ≤ cp) : ∀ (l : List Int) (c0 : Nat), l.Nodup → c0 < 16777216 → ∀ c, c ∈ plS n op sl cp l c0 ↔ Ext n op sl cp l c0 c
  | [], c0, _, hc0, c => by
    unfold plS Ext
    rw [List.mem_singleton]
    constructor
    · rintro rfl
      exact ⟨hc0, fun s _ => Or.inl rfl, fun p hp => nomatch hp⟩
    · rintro ⟨h1, h2, -⟩
      refine code_ext h1 hc0 (fun s hs => ?_)
      rcases h2 s hs with q | q
      · exact q
      · exact absurd q.2.2.2.2 (by simp)
  | p :: ps, c0, hl, hc0, c => by
    have hl := List.nodup_cons.mp hl
    unfold plS
    rw [List.mem_flatMap]
    constructor
    · rintro ⟨s, hs, hm⟩
      have hs := List.mem_range.mp hs
      by_cases q : fretF n op sl cp s p ≠ -1 ∧ fr c0 s = -1
      · rw [if_pos q] at hm
        obtain ⟨u1, u2, u3, u4⟩ := fretF_s q.1
        generalize fretF n op sl cp s p = f at *
        have hw : wi c0 s f < 16777216 := wi_lt hc0 (by omega) ⟨by omega, by omega⟩
        obtain ⟨e1, e2, e3⟩ := (plS_mem hn hcp ps (wi c0 s f) hl.2 hw c).mp hm
        have fw : ∀ t, t < 6 → fr (wi c0 s f) t = if t = s then f else fr c0 t := fun t ht => fr_wi (by omega) ht ⟨by omega, by omega⟩ q.2
        have fs : fr c s = f := by
          rcases e2 s (by omega) with w | w
          · rw [w, fw s (by omega), if_pos rfl]
          · rw [fw s (by omega), if_pos rfl] at w
            omega
        refine ⟨e1, fun t ht => ?_, fun r hr => ?_⟩
        · by_cases z : t = s
          · subst z
            exact Or.inr ⟨q.2, u1, by omega, by omega, by rw [fs, u4]; exact List.mem_cons_self⟩
          · have w := e2 t ht
            rw [fw t ht, if_neg z] at w
            rcases w with w | ⟨w1, w2, w3, w4, w5⟩
            · exact Or.inl w
            · exact Or.inr ⟨w1, w2, w3, w4, List.mem_cons_of_mem _ w5⟩
        · rcases List.mem_cons.mp hr with rfl | hr
          · refine ⟨s, by omega, q.2, by omega, by rw [fs]; exact u4, fun t ht t1 t2 t3 => ?_⟩
            by_cases z : t = s
            · exact z
            · exfalso
              have w := e2 t ht
              rw [fw t ht, if_neg z] at w
              rcases w with w | ⟨w1, w2, w3, w4, w5⟩
              · omega
              · rw [t3] at w5; exact hl.1 w5
          · obtain ⟨t, t1, t2, t3, t4, t5⟩ := e3 r hr
            have z : t ≠ s := fun z => by
              rw [z, fw s (by omega), if_pos rfl] at t2
              omega
            rw [fw t t1, if_neg z] at t2
            refine ⟨t, t1, t2, t3, t4, fun v v1 v2 v3 v4 => ?_⟩
            by_cases y : v = s
            · exfalso
              rw [y, fs, u4] at v4
              rw [v4] at hl
              exact hl.1 hr
            · exact t5 v v1 (by rw [fw v v1, if_neg y]; exact v2) v3 v4
      · rw [if_neg q] at hm
        exact absurd hm (by simp)
    · rintro ⟨e1, e2, e3⟩
      obtain ⟨s, s1, s2, s3, s4, s5⟩ := e3 p List.mem_cons_self
      rcases e2 s s1 with w | ⟨w1, w2, w3, w4, w5⟩
      · omega
      · have fe := fretF_i (op := op) w2 w3 w4 s4
        have hsn := (used_n w2).1
        refine ⟨s, List.mem_range.mpr hsn, ?_⟩
        rw [fe, if_pos ⟨by omega, s2⟩]
        generalize hf : fr c s = f at *
        have hw : wi c0 s f < 16777216 := wi_lt hc0 (by omega) ⟨by omega, by omega⟩
        have fw : ∀ t, t < 6 → fr (wi c0 s f) t = if t = s then f else fr c0 t := fun t ht => fr_wi (by omega) ht ⟨by omega, by omega⟩ s2
        refine (plS_mem hn hcp ps (wi c0 s f) hl.2 hw c).mpr ⟨e1, fun t ht => ?_, fun r hr => ?_⟩
        · rw [fw t ht]
          by_cases z : t = s
          · rw [if_pos z, z]; exact Or.inl hf
          · rw [if_neg z]
            rcases e2 t ht with v | ⟨v1, v2, v3, v4, v5⟩
            · exact Or.inl v
            · refine Or.inr ⟨v1, v2, v3, v4, ?_⟩
              rcases List.mem_cons.mp v5 with y | y
              · exact absurd (s5 t ht v1 v3 y) z
              · exact y
        · obtain ⟨t, t1, t2, t3, t4, t5⟩ := e3 r (List.mem_cons_of_mem _ hr)
          have z : t ≠ s := fun z => by
            rw [z, hf] at t4
            have : p = r := by omega
            rw [this] at hl
            exact hl.1 hr
          refine ⟨t, t1, by rw [fw t t1, if_neg z]; exact t2, t3, t4, fun v v1 v2 v3 v4 => ?_⟩
          by_cases y : v = s
          · exfalso
            rw [y, fw s s1, if_pos rfl] at v2
            omega
          · rw [fw v v1, if_neg y] at v2
            exact t5 v v1 v2 v3 v4
theorem flat_nodup {f : Nat → List Nat} : ∀ (R : List Nat), R.Nodup → (∀ a ∈ R, (f a).Nodup) → (∀ a ∈ R, ∀ b ∈ R, a ≠ b → ∀ x ∈ f a, x ∉ f b) → (R.flatMap f).Nodup
  | [], _, _, _ => by simp
  | a :: R, h, h1, h2 => by
    have h := List.nodup_cons.mp h
    rw [List.flatMap_cons]
    refine List.pairwise_append.mpr ⟨h1 a List.mem_cons_self, flat_nodup R h.2 (fun b hb => h1 b (List.mem_cons_of_mem _ hb)) (fun b hb c hc => h2 b (List.mem_cons_of_mem _ hb) c (List.mem_cons_of_mem _ hc)), fun x hx y hy e => ?_⟩
    obtain ⟨b, hb, hy⟩ := List.mem_flatMap.mp hy
    subst e
    exact h2 a List.mem_cons_self b (List.mem_cons_of_mem _ hb) (fun e => by rw [e] at h; exact h.1 hb) x hx hy
theorem plS_nodup (hn : n ≤ 6) (hcp : 0 ≤ cp) : ∀ (l : List Int) (c0 : Nat), l.Nodup → c0 < 16777216 → (plS n op sl cp l c0).Nodup
  | [], c0, _, _ => by unfold plS; simp
  | p :: ps, c0, hl, hc0 => by
    have hl2 := List.nodup_cons.mp hl
    have key : ∀ s, s ∈ List.range n → ∀ x, x ∈ (if fretF n op sl cp s p ≠ -1 ∧ fr c0 s = -1 then plS n op sl cp ps (wi c0 s (fretF n op sl cp s p)) else []) → fr c0 s = -1 ∧ 0 ≤ fr x s ∧ fr x s + op s + cp = p := fun s hs x hx => by
      have hs := List.mem_range.mp hs
      by_cases q : fretF n op sl cp s p ≠ -1 ∧ fr c0 s = -1
      · rw [if_pos q] at hx
        obtain ⟨u1, u2, u3, u4⟩ := fretF_s q.1
        generalize fretF n op sl cp s p = f at *
        have hw : wi c0 s f < 16777216 := wi_lt hc0 (by omega) ⟨by omega, by omega⟩
        obtain ⟨e1, e2, e3⟩ := (plS_mem hn hcp ps (wi c0 s f) hl2.2 hw x).mp hx
        have fw := fr_wi (t := s) (by omega) (by omega) ⟨by omega, by omega⟩ q.2 (c := c0) (s := s) (f := f)
        rw [if_pos rfl] at fw
        rcases e2 s (by omega) with w | w
        · exact ⟨q.2, by omega, by omega⟩
        · omega
      · rw [if_neg q] at hx
        exact absurd hx (by simp)
    unfold plS
    refine flat_nodup _ List.nodup_range (fun s hs => ?_) (fun s hs t ht hst x hx hy => ?_)
    · have hs := List.mem_range.mp hs
      by_cases q : fretF n op sl cp s p ≠ -1 ∧ fr c0 s = -1
      · rw [if_pos q]
        obtain ⟨u1, u2, u3, u4⟩ := fretF_s q.1
        exact plS_nodup hn hcp ps _ hl2.2 (wi_lt hc0 (by omega) ⟨by omega, by omega⟩)
      · rw [if_neg q]; simp
    · have k1 := key s hs x hx
      have k2 := key t ht x hy
      have hm : x ∈ plS n op sl cp (p :: ps) c0 := by
        unfold plS
        exact List.mem_flatMap.mpr ⟨s, hs, hx⟩
      obtain ⟨-, -, e3⟩ := (plS_mem hn hcp (p :: ps) c0 hl hc0 x).mp hm
      obtain ⟨v, v1, v2, v3, v4, v5⟩ := e3 p List.mem_cons_self
      have hs := List.mem_range.mp hs
      have ht := List.mem_range.mp ht
      exact hst ((v5 s (by omega) k1.1 k1.2.1 k1.2.2).trans (v5 t (by omega) k2.1 k2.2.1 k2.2.2).symm)
end PL
/-- the grips of a chord: the first thirty of all that are playable, sorted -/
theorem plc_isort {n : Nat} {op : Nat → Int} {sl : Nat → Bool} {cp : Int} (rc : Int) (hn : n ≤ 6) (hcp : 0 ≤ cp) {l : List Int} (hl : l.Nodup) : srt (isort ((plS n op sl cp l 0).filter (fun c => hPlay (fr c) rc))) ∧ (∀ y, y ∈ isort ((plS n op sl cp l 0).filter (fun c => hPlay (fr c) rc)) ↔ Ext n op sl cp l 0 y ∧ hPlay (fr y) rc = true) ∧ plc n op sl cp rc l 0 [] = (isort ((plS n op sl cp l 0).filter (fun c => hPlay (fr c) rc))).take 30 := by
  have hd := plS_nodup (op := op) (sl := sl) hn hcp l 0 hl (by decide)
  obtain ⟨a, b, c⟩ := isort_spec (cs := (plS n op sl cp l 0).filter (fun c => hPlay (fr c) rc)) (hd.filter _)
  refine ⟨a, fun y => ?_, by rw [plc_plS, c]⟩
  rw [b y, List.mem_filter, plS_mem hn hcp l 0 hl (by decide)]
