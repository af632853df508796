/-! The grips of a chord as a list of codes; apartness; what a heap holds of grips and hands. -/
def ndp : List Nat → List Nat → Prop
  | [], _ => True
  | x :: xs, ys => (∀ y ∈ xs, x ≠ y) ∧ (∀ y ∈ ys, x ≠ y) ∧ ndp xs ys
theorem ndp_l : ∀ {xs ys : List Nat} (_ : ndp xs ys) (i j : Nat) {x y : Nat} (_ : xs[i]? = some x) (_ : xs[j]? = some y) (_ : i < j), x ≠ y
  | [], _, _, i, j, x, y, hi, _, _ => by simp at hi
  | a :: xs, ys, nd, 0, j + 1, x, y, hi, hj, _ => by
    simp at hi hj
    subst hi
    exact nd.1 y (List.mem_of_getElem? hj)
  | a :: xs, ys, nd, i + 1, j + 1, x, y, hi, hj, h => ndp_l nd.2.2 i j (by simpa using hi) (by simpa using hj) (by omega)
theorem ndp_r : ∀ {xs ys : List Nat} (_ : ndp xs ys) (i j : Nat) {x y : Nat} (_ : xs[i]? = some x) (_ : ys[j]? = some y), x ≠ y
  | [], _, _, i, j, x, y, hi, _ => by simp at hi
  | a :: xs, ys, nd, 0, j, x, y, hi, hj => by
    simp at hi
    subst hi
    exact nd.2.1 y (List.mem_of_getElem? hj)
  | a :: xs, ys, nd, i + 1, j, x, y, hi, hj => ndp_r nd.2.2 i j (by simpa using hi) hj
/-- a list's place for a code -/
def aposL (L : List Nat) (c : Nat) : Nat := apos (fun j => hEff (fr (L.getD j 0))) (fun j => ((L.getD j 0 : Nat) : Int)) (hEff (fr c)) (c : Int) L.length
def insL (L : List Nat) (c : Nat) : List Nat := if aposL L c < 30 then (L.take (aposL L c) ++ c :: L.drop (aposL L c)).take 30 else L
theorem apos_cong {ge gb ge2 gb2 : Nat → Int} {ef cd : Int} : ∀ n, (∀ j, j < n → ge j = ge2 j ∧ gb j = gb2 j) → apos ge gb ef cd n = apos ge2 gb2 ef cd n
  | 0, _ => rfl
  | n + 1, h => by
    rw [apos_s, apos_s, (h n (Nat.lt_succ_self n)).1, (h n (Nat.lt_succ_self n)).2, apos_cong n (fun j hj => h j (by omega))]
theorem aposL_le (L : List Nat) (c : Nat) : aposL L c ≤ L.length := apos_le _ _ _ _ _
theorem insL_len {L : List Nat} {c : Nat} : (insL L c).length = iN (aposL L c) L.length ∨ 30 < L.length := by
  have h := aposL_le L c
  unfold insL iN
  by_cases q : aposL L c < 30
  · rw [if_pos q, if_pos q]
    left
    simp only [List.length_take, List.length_append, List.length_cons, List.length_drop]
    omega
  · rw [if_neg q, if_neg q]
    exact Or.inl rfl
theorem insL_get {L : List Nat} {c j : Nat} (h : aposL L c < 30) (hj : j < min (L.length + 1) 30) : (insL L c).getD j 0 = if j < aposL L c then L.getD j 0 else if j = aposL L c then c else L.getD (j - 1) 0 := by
  have hp := aposL_le L c
  unfold insL
  rw [if_pos h]
  generalize aposL L c = p at h hp ⊢
  rw [List.getD_eq_getElem?_getD, List.getElem?_take, if_pos (by omega)]
  by_cases a : j < p
  · rw [if_pos a, List.getElem?_append_left (by simp; omega), List.getElem?_take, if_pos a, List.getD_eq_getElem?_getD]
  · rw [if_neg a, List.getElem?_append_right (by simp; omega)]
    have e : (L.take p).length = p := by simp; omega
    rw [e]
    by_cases b : j = p
    · rw [if_pos b, b, Nat.sub_self]; rfl
    · rw [if_neg b]
      obtain ⟨t, ht⟩ : ∃ t, j - p = t + 1 := ⟨j - p - 1, by omega⟩
      rw [ht, List.getElem?_cons_succ, List.getElem?_drop, List.getD_eq_getElem?_getD, show p + t = j - 1 by omega]
def GL (L : List Nat) (gb ge gl : Nat → Int) : Prop := L.length ≤ 30 ∧ (∀ j, j < L.length → gb j = ((L.getD j 0 : Nat) : Int) ∧ ge j = hEff (fr (L.getD j 0)) ∧ gl j = hLow (fr (L.getD j 0))) ∧ (∀ j, bd (gb j) ∧ bd (ge j) ∧ bd (gl j)) ∧ ∀ c ∈ L, c < 16777216
theorem insA_bd {g : Nat → Int} {p n : Nat} {x : Int} (h : ∀ j, bd (g j)) (hx : bd x) : ∀ j, bd (insA g p n x j) := by
  intro j
  unfold insA
  split
  · exact h j
  · split
    · exact hx
    · split
      · exact h _
      · exact h j
theorem iA_bd {g : Nat → Int} {p n : Nat} {x : Int} (h : ∀ j, bd (g j)) (hx : bd x) : ∀ j, bd (iA p n x g j) := by
  intro j
  unfold iA
  split
  · exact insA_bd h hx j
  · exact h j
theorem GL_ins {L : List Nat} {gb ge gl : Nat → Int} {c : Nat} (h : GL L gb ge gl) (hc : c < 16777216) : GL (insL L c) (iA (aposL L c) L.length (c : Int) gb) (iA (aposL L c) L.length (hEff (fr c)) ge) (iA (aposL L c) L.length (hLow (fr c)) gl) ∧ (insL L c).length = iN (aposL L c) L.length ∧ aposL L c = apos ge gb (hEff (fr c)) (c : Int) L.length := by
  obtain ⟨h1, h2, h3, h4⟩ := h
  have hlen : (insL L c).length = iN (aposL L c) L.length := by
    rcases insL_len (L := L) (c := c) with q | q
    · exact q
    · omega
  have hp := aposL_le L c
  have b1 : bd (c : Int) := ⟨by omega, by omega⟩
  have b2 : bd (hEff (fr c)) := by have := hEff_rg (fr_fbd c); exact ⟨by omega, by omega⟩
  have b3 : bd (hLow (fr c)) := by have := hrg (fr_fbd c); exact ⟨by omega, by omega⟩
  refine ⟨⟨?_, fun j hj => ?_, fun j => ⟨iA_bd (fun j => (h3 j).1) b1 j, iA_bd (fun j => (h3 j).2.1) b2 j, iA_bd (fun j => (h3 j).2.2) b3 j⟩, fun d hd => ?_⟩, hlen, ?_⟩
  · rw [hlen]; unfold iN; split <;> omega
  · rw [hlen] at hj
    by_cases q : aposL L c < 30
    · unfold iN at hj
      rw [if_pos q] at hj
      rw [insL_get q hj]
      unfold iA insA
      simp only [if_pos q]
      by_cases a : j < aposL L c
      · simp only [if_pos a]
        exact h2 j (by omega)
      · simp only [if_neg a]
        by_cases b : j = aposL L c
        · simp only [if_pos b, and_self]
        · simp only [if_neg b, if_pos hj]
          exact h2 (j - 1) (by omega)
    · unfold iN at hj
      rw [if_neg q] at hj
      unfold iA insL
      simp only [if_neg q]
      exact h2 j hj
  · unfold insL at hd
    split at hd
    · have hd := List.mem_of_mem_take hd
      rcases List.mem_append.mp hd with q | q
      · exact h4 d (List.mem_of_mem_take q)
      · rcases List.mem_cons.mp q with q | q
        · rw [q]; exact hc
        · exact h4 d (List.mem_of_mem_drop q)
    · exact h4 d hd
  · exact apos_cong _ (fun j hj => ⟨(h2 j hj).2.1.symm, (h2 j hj).1.symm⟩)
theorem GL_nil {L : List Nat} {gb ge gl : Nat → Int} (h : GL L gb ge gl) : GL [] gb ge gl := ⟨by simp, fun j hj => by simp at hj, h.2.2.1, fun c hc => by simp at hc⟩
/-- a heap holds the grips L at these addresses -/
def HG (G : xG) (h : PH) (a b e l : Nat) (L : List Nat) : Prop := ∃ gb ge gl : Nat → Int, h a = xO 1 [.ref b, .ref e, .ref l, vi ((L.length : Nat) : Int)] ∧ h b = xI G 30 gb ∧ h e = xI G 30 ge ∧ h l = xI G 30 gl ∧ GL L gb ge gl
/-- a heap holds a hand at these addresses -/
def HH (G : xG) (h : PH) (u v : Nat) : Prop := ∃ (lo hi so pr pl sk : Int) (ba : Bool) (g : Nat → Int), h u = xO 2 [vi lo, vi hi, vi so, vi (b2i ba), .ref v, vi pr, vi pl, vi sk] ∧ h v = xI G 6 g
theorem HG.kept {G : xG} {h h' : PH} {a b e l : Nat} {L : List Nat} (H : HG G h a b e l L) (ha : h' a = h a) (hb : h' b = h b) (he : h' e = h e) (hl : h' l = h l) : HG G h' a b e l L := by
  obtain ⟨gb, ge, gl, h1, h2, h3, h4, h5⟩ := H
  exact ⟨gb, ge, gl, ha.trans h1, hb.trans h2, he.trans h3, hl.trans h4, h5⟩
theorem HH.kept {G : xG} {h h' : PH} {u v : Nat} (H : HH G h u v) (hu : h' u = h u) (hv : h' v = h v) : HH G h' u v := by
  obtain ⟨lo, hi, so, pr, pl, sk, ba, g, h1, h2⟩ := H
  exact ⟨lo, hi, so, pr, pl, sk, ba, g, hu.trans h1, hv.trans h2⟩
theorem HH.of {G : xG} {h : PH} {u v : Nat} {f g : Nat → Int} (hu : h u = xHd v f) (hv : h v = xI G 6 g) : HH G h u v := ⟨_, _, _, _, _, _, _, _, hu, hv⟩
/-- the grips of the pitches that are left, put down from the code c on -/
def plc (n : Nat) (op : Nat → Int) (sl : Nat → Bool) (cp rc : Int) : List Int → Nat → List Nat → List Nat
  | [], c, L => if hPlay (fr c) rc = true then insL L c else L
  | p :: ps, c, L => (List.range n).foldl (fun L s => if fretF n op sl cp s p ≠ -1 ∧ fr c s = -1 then plc n op sl cp rc ps (wi c s (fretF n op sl cp s p)) L else L) L
/-- the pitches from k on -/
def ptL (pt : Nat → Int) (k rem : Nat) : List Int := (List.range rem).map (fun t => pt (k + t))
theorem ptL_s (pt : Nat → Int) (k rem : Nat) : ptL pt k (rem + 1) = pt k :: ptL pt (k + 1) rem := by
  unfold ptL
  rw [List.range_succ_eq_map, List.map_cons, List.map_map]
  congr 1
  apply List.map_congr_left
  intro t _
  show pt (k + (t + 1)) = pt (k + 1 + t)
  congr 1
  omega
theorem wi_lt {c s : Nat} {f : Int} (hc : c < 16777216) (hs : s < 6) (hf : 0 ≤ f ∧ f ≤ 14) : wi c s f < 16777216 := by
  unfold wi
  have h1 : (f + 1).toNat * 16 ^ (5 - s) < 2 ^ 24 := by
    have h2 : (f + 1).toNat ≤ 15 := by omega
    have h3 : 16 ^ (5 - s) ≤ 16 ^ 5 := Nat.pow_le_pow_right (by decide) (by omega)
    have h4 : (f + 1).toNat * 16 ^ (5 - s) ≤ 15 * 16 ^ 5 := Nat.mul_le_mul h2 h3
    omega
  exact Nat.or_lt_two_pow (n := 24) hc h1
theorem fretF_rg (n : Nat) (op : Nat → Int) (sl : Nat → Bool) {cp : Int} (hcp : 0 ≤ cp ∧ cp ≤ 12) (s : Nat) (p : Int) : -1 ≤ fretF n op sl cp s p ∧ fretF n op sl cp s p ≤ 12 := by
  unfold fretF
  split <;> omega
