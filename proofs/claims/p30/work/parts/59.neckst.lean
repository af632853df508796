/-! Neck's state: what its arrays hold of an instrument and a piece. -/
theorem HH.a1 {G : xG} {h : PH} {u v : Nat} (H : HH G h u v) : alv h u ∧ alv h v := by
  obtain ⟨lo, hi, so, pr, pl, sk, ba, g, h1, h2⟩ := H
  exact ⟨alv_of h1, alv_of h2⟩
theorem PlanA.al {G : xG} {h : PH} {ad : Nat → Nat} {B : Nat} (P : PlanA G h ad B) {i : Nat} (hi : i < 68) : alv h (ad (B + i)) := by
  obtain ⟨Ls, fx, ln, ch, tot, cnt, rs, ⟨p1, p2, p3, p4, p5, p6, p7, p8, p9⟩, -⟩ := P
  by_cases a : i < 8
  · rcases (show i = 0 ∨ i = 1 ∨ i = 2 ∨ i = 3 ∨ i = 4 ∨ i = 5 ∨ i = 6 ∨ i = 7 by omega) with rfl | rfl | rfl | rfl | rfl | rfl | rfl | rfl
    · exact alv_of p1
    · exact alv_of p2
    · exact alv_of p3
    · exact alv_of p4
    · exact alv_of p5
    · exact alv_of p6
    · exact p7.a1.1
    · exact p7.a1.2
  · by_cases b : i < 56
    · have hc : (i - 8) % 12 < 12 := Nat.mod_lt _ (by decide)
      obtain ⟨gb, ge, gl, q1, q2, q3, q4, -⟩ := p8 ((i - 8) % 12) hc
      rcases (show B + i = B + 8 + (i - 8) % 12 ∨ B + i = B + 20 + (i - 8) % 12 ∨ B + i = B + 32 + (i - 8) % 12 ∨ B + i = B + 44 + (i - 8) % 12 by omega) with w | w | w | w
      · rw [w]; exact alv_of q1
      · rw [w]; exact alv_of q2
      · rw [w]; exact alv_of q3
      · rw [w]; exact alv_of q4
    · have := p9 (i - 56) (by omega)
      rw [show B + 56 + (i - 56) = B + i by omega] at this
      exact alv_of this
theorem TabR.al {G : xG} {h : PH} {ad : Nat → Nat} {fr : Bool} {Q : Ins} {P : Pie} (T : TabR G h ad fr Q P) (i : Nat) (ho : own i) : alv h (ad i) := by
  obtain ⟨⟨st, -, t0, t1, -⟩, i1, ⟨n4, op4, sl4, cp4, rc4, i4⟩, pc, h12, t2, ⟨h10, p, cls, bass, fm, h9, -⟩, -, -⟩ := T
  by_cases a : i < 14
  · rcases (show i = 0 ∨ i = 1 ∨ i = 2 ∨ i = 3 ∨ i = 4 ∨ i = 5 ∨ i = 6 ∨ i = 7 ∨ i = 8 ∨ i = 9 ∨ i = 10 ∨ i = 11 ∨ i = 12 ∨ i = 13 by omega) with rfl | rfl | rfl | rfl | rfl | rfl | rfl | rfl | rfl | rfl | rfl | rfl | rfl | rfl
    · exact alv_of t0
    · exact alv_of i1.1
    · exact alv_of i1.2.1
    · exact alv_of i1.2.2
    · exact alv_of i4.1
    · exact alv_of i4.2.1
    · exact alv_of i4.2.2
    · exact alv_of pc.1
    · exact alv_of pc.2.1
    · exact alv_of h9
    · exact h10.a1.1
    · exact h10.a1.2
    · exact h12.a1.1
    · exact h12.a1.2
  · unfold own at ho
    rcases ho with w | w | w | w | w
    · exact absurd w a
    · have := (pc.2.2 (i - 20) (by omega)).1
      rw [show 20 + (i - 20) = i by omega] at this
      exact alv_of this
    · have := (pc.2.2 (i - 40) (by omega)).2
      rw [show 40 + (i - 40) = i by omega] at this
      exact alv_of this
    · have := t1.al (i := i - 100) (by omega)
      rwa [show 100 + (i - 100) = i by omega] at this
    · have := t2.al (i := i - 200) (by omega)
      rwa [show 200 + (i - 200) = i by omega] at this
theorem TabR.o {G : xG} {h : PH} {ad : Nat → Nat} {fr : Bool} {Q : Ins} {P : Pie} (T : TabR G h ad fr Q P) : ∃ fs, h (ad 0) = xO 7 fs := by
  obtain ⟨⟨st, -, t0, -⟩, -⟩ := T
  exact ⟨_, t0⟩
theorem TabR.kept {G : xG} {h h1 : PH} {ad : Nat → Nat} {fr : Bool} {Q : Ins} {P : Pie} (T : TabR G h ad fr Q P) (hk : ∀ i, own i → h1 (ad i) = h (ad i)) : TabR G h1 ad fr Q P :=
  T.small (T.2.2.2.2.1.kept (hk 12 (by unfold own; omega)) (hk 13 (by unfold own; omega))) (T.2.2.2.2.2.2.1.kept (fun i hi => hk (9 + i) (by unfold own; omega))) (fun i ho _ => hk i ho)
/-- addresses that no call touches -/
def EX (ad : Nat → Nat) (nk oa sl x : Nat) : Prop := x ≠ nk ∧ x ≠ oa ∧ x ≠ sl ∧ ∀ i, own i → x ≠ ad i
def ChR (G : xG) (h : PH) (S : Nat → Prop) (ca : Nat) (P : Pie) : Prop := ∃ f : Nat → Option Nat, h ca = xQ G 3 P.m f ∧ ∀ c, c < P.m → ∃ q, f c = some q ∧ S q ∧ h q = xI G (P.si c) (P.pt c)
def FxR (G : xG) (h : PH) (S : Nat → Prop) (fa : Nat) (P : Pie) : Prop := ∃ f : Nat → Option Nat, h fa = xQ G 3 P.m f ∧ ∀ c, c < P.m → ∃ q n u, f c = some q ∧ S q ∧ h q = xI G n u ∧ n ≤ 6 ∧ (n = 0 → P.cf c = -1)
/-- a chord's pitches are not two the same -/
def PiV (P : Pie) : Prop := ∀ c, c < P.m → 1 ≤ P.si c ∧ ∀ j k, j < P.si c → k < P.si c → P.pt c j = P.pt c k → j = k
def NkR (G : xG) (h : PH) (ad : Nat → Nat) (nk b sl : Nat) (dr : Int) (Q : Ins) (P : Pie) : Prop := ∃ (oa ca la fa fo : Nat) (ln2 : Nat → Int), h nk = xO 8 [.ref (ad 0), .ref b, vi dr, .ref oa, .ref sl, vi Q.cp, vi Q.rc, .ref ca, .ref la, .ref fa, .ref fo] ∧ h oa = xI G Q.n Q.op ∧ h sl = xZ G 6 Q.sl ∧ (∀ j, Q.n ≤ j → Q.sl j = false) ∧ ChR G h (EX ad nk oa sl) ca P ∧ h la = xI G P.m ln2 ∧ FxR G h (EX ad nk oa sl) fa P ∧ ((∀ i, own i → nk ≠ ad i) ∧ (∀ i, own i → oa ≠ ad i) ∧ (∀ i, own i → sl ≠ ad i) ∧ (∀ i, own i → ca ≠ ad i) ∧ (∀ i, own i → la ≠ ad i) ∧ (∀ i, own i → fa ≠ ad i) ∧ sl ≠ oa ∧ sl ≠ la ∧ oa ≠ la ∧ ca ≠ fa) ∧ (0 ≤ dr ∧ dr < 100000) ∧ PiV P
/-- what a call keeps: all that was there, is its own and not named -/
def KpS (S : Nat → Prop) (h h' : PH) : Prop := ∀ x, alv h x → S x → h' x = h x
theorem ChR.kp {G : xG} {h h' : PH} {S : Nat → Prop} {ca : Nat} {P : Pie} (C : ChR G h S ca P) (k : KpS S h h') (hc : h' ca = h ca) : ChR G h' S ca P := by
  obtain ⟨f, h1, h2⟩ := C
  refine ⟨f, hc.trans h1, fun c hc => ?_⟩
  obtain ⟨q, e1, e2, e3⟩ := h2 c hc
  exact ⟨q, e1, e2, (k q (alv_of e3) e2).trans e3⟩
theorem FxR.kp {G : xG} {h h' : PH} {S : Nat → Prop} {fa : Nat} {P : Pie} (C : FxR G h S fa P) (k : KpS S h h') (hc : h' fa = h fa) : FxR G h' S fa P := by
  obtain ⟨f, h1, h2⟩ := C
  refine ⟨f, hc.trans h1, fun c hc => ?_⟩
  obtain ⟨q, n, u, e1, e2, e3, e4⟩ := h2 c hc
  exact ⟨q, n, u, e1, e2, (k q (alv_of e3) e2).trans e3, e4⟩
theorem NkR.keep {G : xG} {h h' : PH} {ad : Nat → Nat} {nk b sl : Nat} {dr : Int} {Q : Ins} {P : Pie} (N : NkR G h ad nk b sl dr Q P) (k : ∀ x, alv h x → (∀ i, own i → x ≠ ad i) → h' x = h x) : NkR G h' ad nk b sl dr Q P := by
  obtain ⟨oa, ca, la, fa, fo, ln2, hN, hO, hS, hSv, hC, hLa, hF, hE, hd, hV⟩ := N
  have ka : ∀ {x : Nat} {v : va_E}, h x = some v → (∀ i, own i → x ≠ ad i) → h' x = h x := fun e n => k _ (alv_of e) n
  have kk : KpS (EX ad nk oa sl) h h' := fun x a s => k x a s.2.2.2
  exact ⟨oa, ca, la, fa, fo, ln2, (ka hN hE.1).trans hN, (ka hO hE.2.1).trans hO, (ka hS hE.2.2.1).trans hS, hSv, hC.kp kk (ka hC.choose_spec.1 hE.2.2.2.1), (ka hLa hE.2.2.2.2.1).trans hLa, hF.kp kk (ka hF.choose_spec.1 hE.2.2.2.2.2.1), hE, hd, hV⟩
theorem NkR.fr {G : xG} {h h' : PH} {ad : Nat → Nat} {nk b sl : Nat} {dr : Int} {Q : Ins} {P : Pie} (N : NkR G h ad nk b sl dr Q P) (p : frO ad h h') : NkR G h' ad nk b sl dr Q P := N.keep (fun x _ s => p x s)
theorem up_same {α : Type} {f : Nat → α} {k : Nat} {v : α} (h : f k = v) : va_up f k v = f := by
  funext j
  by_cases q : j = k
  · subst q; rw [up_s, h]
  · rw [up_n q]
theorem slk_none {sl : Nat → Bool} {n : Nat} : ∀ k, (∀ j, n ≤ j → j < n + k → sl j = false) → slk sl (n + k) = slk sl n
  | 0, _ => rfl
  | k + 1, h => by
    rw [← Nat.add_assoc]
    show (if sl (n + k) = true then slk sl (n + k) + 1 else slk sl (n + k)) = _
    rw [h (n + k) (by omega) (by omega), if_neg (by decide)]
    exact slk_none k (fun j h1 h2 => h j h1 (by omega))
