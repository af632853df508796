/-! Addresses that are given out one after the other. -/
section XEXT2
variable {G : xG} {K : xK} {nL pc : Nat} {ls : List (Option Value)} {st : List Value} {h : PH} {cells slots : Nat}
theorem X.qeq {a t n : Nat} {g g' : Nat → Option Nat} (hA : h a = xQ G t n g) (hg : ∀ j, j < n → g j = g' j) (k : X G K nL pc ls st (va_up h a (xQ G t n g')) cells slots) : X G K nL pc ls st h cells slots := fun H locs lsA hW hS hV => by
  obtain ⟨ws, r, hP, hD⟩ := hW
  obtain ⟨q, hq⟩ := r.2 a _ hA
  refine k H locs lsA ⟨_, r.set hD hq, hP.set hD hq ?_ (fun _ _ => rfl), hD.set hq⟩ hS hV
  have h1 := hP q _ hq
  show H[a]? = some (vp_cell _ _)
  refine (show H[a]? = some (vp_cell _ _) from h1).trans (congrArg some ?_)
  rw [vp_cell_q, vp_cell_q]
  exact arrV_congr _ _ (fun j hj => by rw [hg j hj])
end XEXT2
def AD (ad : Nat → Nat) (S A : Nat → Prop) : Prop := (∀ i, S i → A (ad i)) ∧ ∀ i j, S i → S j → ad i = ad j → i = j
theorem AD.new {ad : Nat → Nat} {S A A2 : Nat → Prop} (D : AD ad S A) {q : Nat} (hq : ¬ A q) (h2 : ∀ x, A x → A2 x) (h3 : A2 q) (i : Nat) : AD (va_up ad i q) (fun j => j = i ∨ S j) A2 := by
  have e : ∀ j, j ≠ i → va_up ad i q j = ad j := fun j hj => up_n hj
  have f : va_up ad i q i = q := up_s
  refine ⟨fun j hj => ?_, fun j k hj hk he => ?_⟩
  · by_cases c : j = i
    · subst c; rw [f]; exact h3
    · rw [e j c]; exact h2 _ (D.1 j (hj.resolve_left c))
  · by_cases c : j = i <;> by_cases d : k = i
    · omega
    · subst c; rw [f, e k d] at he
      exact absurd (he ▸ D.1 k (hk.resolve_left d)) hq
    · subst d; rw [f, e j c] at he
      exact absurd (he ▸ D.1 j (hj.resolve_left c)) hq
    · rw [e j c, e k d] at he
      exact D.2 j k (hj.resolve_left c) (hk.resolve_left d) he
theorem AD.sub {ad : Nat → Nat} {S S2 A A2 : Nat → Prop} (D : AD ad S A) (hs : ∀ i, S2 i → S i) (ha : ∀ x, A x → A2 x) : AD ad S2 A2 := ⟨fun i hi => ha _ (D.1 i (hs i hi)), fun i j hi hj => D.2 i j (hs i hi) (hs j hj)⟩
/-- many at once, one behind the other -/
theorem AD.row {ad : Nat → Nat} {S A A2 : Nat → Prop} (D : AD ad S A) {b n q : Nat} (hq : ∀ i, i < n → ¬ A (q + i)) (h2 : ∀ x, A x → A2 x) (h3 : ∀ i, i < n → A2 (q + i)) : AD (fun j => if b ≤ j ∧ j < b + n then q + (j - b) else ad j) (fun j => (b ≤ j ∧ j < b + n) ∨ S j) A2 := by
  refine ⟨fun j hj => ?_, fun j k hj hk he => ?_⟩
  · dsimp only
    by_cases c : b ≤ j ∧ j < b + n
    · rw [if_pos c]; exact h3 _ (by omega)
    · rw [if_neg c]; exact h2 _ (D.1 j (hj.resolve_left c))
  · dsimp only at he
    by_cases c : b ≤ j ∧ j < b + n <;> by_cases d : b ≤ k ∧ k < b + n
    · rw [if_pos c, if_pos d] at he; omega
    · rw [if_pos c, if_neg d] at he
      exact absurd (he ▸ D.1 k (hk.resolve_left d)) (hq _ (by omega))
    · rw [if_neg c, if_pos d] at he
      exact absurd (he ▸ D.1 j (hj.resolve_left c)) (hq _ (by omega))
    · rw [if_neg c, if_neg d] at he
      exact D.2 j k (hj.resolve_left c) (hk.resolve_left d) he
/-- the heap's own places -/
abbrev alv (h : PH) (x : Nat) : Prop := h x ≠ none
theorem up_none {h : PH} {q x : Nat} {v : va_E} (z : va_up h q (some v) x = none) : x ≠ q ∧ h x = none := by
  by_cases c : x = q
  · subst c; rw [up_s] at z; cases z
  · rw [up_n c] at z; exact ⟨c, z⟩
theorem alv_up {h : PH} {q x : Nat} {v : va_E} (z : alv h x) : alv (va_up h q (some v)) x := by
  by_cases c : x = q
  · subst c; show va_up h x (some v) x ≠ none; rw [up_s]; exact Option.some_ne_none _
  · show va_up h q (some v) x ≠ none; rw [up_n c]; exact z
theorem alv_q {h : PH} {q : Nat} {v : va_E} : alv (va_up h q (some v)) q := by show va_up h q (some v) q ≠ none; rw [up_s]; exact Option.some_ne_none _
theorem alv_of {h : PH} {q : Nat} {v : va_E} (e : h q = some v) : alv h q := by show h q ≠ none; rw [e]; exact Option.some_ne_none _
theorem mn_old {G : xG} {h : PH} {q n k x : Nat} (z : ∀ i, i ≤ n → h (q + i) = none) (hx : alv h x) : mnH G h q n k x = h x := by
  unfold mnH
  have n0 : ¬ x = q := fun e => hx (by have := z 0 (by omega); rw [e]; exact this)
  have n1 : ¬ (q < x ∧ x ≤ q + n) := fun c => hx (by have := z (x - q) (by omega); rwa [show q + (x - q) = x by omega] at this)
  rw [if_neg n0, if_neg n1]
theorem mn_q {G : xG} {h : PH} {q n k : Nat} : mnH G h q n k q = xQ G 3 n (fun i => if i < n then some (q + 1 + i) else none) := if_pos rfl
theorem mn_row {G : xG} {h : PH} {q n k i : Nat} (hi : i < n) : mnH G h q n k (q + 1 + i) = xI G k (fun _ => 0) := by
  unfold mnH
  rw [if_neg (by omega), if_pos (by omega)]
/-- the roles without a place get one that is far away -/
theorem mkad {ad : Nat → Nat} {S A : Nat → Prop} (D : AD ad S A) : ∃ ad2 : Nat → Nat, (∀ i, S i → ad2 i = ad i) ∧ ∀ i j, i < 300 → j < 300 → ad2 i = ad2 j → i = j := by
  have hM : ∀ n, ∃ M, ∀ i, i < n → ad i < M := fun n => by
    induction n with
    | zero => exact ⟨0, fun i hi => absurd hi (Nat.not_lt_zero _)⟩
    | succ n ih =>
      obtain ⟨M, hM⟩ := ih
      refine ⟨M + ad n + 1, fun i hi => ?_⟩
      by_cases c : i = n
      · subst c; omega
      · have := hM i (by omega); omega
  obtain ⟨M, hM⟩ := hM 300
  classical
  refine ⟨fun i => if S i then ad i else M + i, fun i hi => if_pos hi, fun i j hi hj he => ?_⟩
  have h1 := hM i hi
  have h2 := hM j hj
  dsimp only at he
  by_cases c : S i <;> by_cases d : S j
  · rw [if_pos c, if_pos d] at he; exact D.2 i j c d he
  · rw [if_pos c, if_neg d] at he; omega
  · rw [if_neg c, if_pos d] at he; omega
  · rw [if_neg c, if_neg d] at he; omega
theorem alv_c {h1 h2 : PH} {q x : Nat} {v w : va_E} (hh : alv h1 x → alv h2 x) (z : alv (va_up h1 q (some v)) x) : alv (va_up h2 q (some w)) x := by
  by_cases c : x = q
  · subst c; exact alv_q
  · exact alv_up (hh (by have z : va_up h1 q (some v) x ≠ none := z; rwa [up_n c] at z))
/-! A planner and a piece while they are made. -/
def S1 (S : Nat → Prop) (B k i : Nat) : Prop := S i ∨ (B ≤ i ∧ i < B + 8 + k) ∨ (B + 20 ≤ i ∧ i < B + 20 + k) ∨ (B + 32 ≤ i ∧ i < B + 32 + k) ∨ (B + 44 ≤ i ∧ i < B + 44 + k) ∨ (B + 56 ≤ i ∧ i < B + 68)
def PK (G : xG) (hp : PH) (ad : Nat → Nat) (B k : Nat) (g : Nat → Option Nat) : Prop :=
  hp (ad B) = xO 5 [.ref (ad (B + 1)), .ref (ad (B + 2)), .ref (ad (B + 3)), vi (-1), .ref (ad (B + 4)), .ref (ad (B + 5)), .ref (ad (B + 6)), vi 0] ∧ hp (ad (B + 1)) = xQ G 5 12 g ∧ hp (ad (B + 2)) = xI G 12 (fun _ => 0) ∧ hp (ad (B + 3)) = xI G 12 (fun _ => 0) ∧ hp (ad (B + 4)) = xI G 12 (fun _ => 0) ∧ hp (ad (B + 5)) = xQ G 3 12 (fun i => some (ad (B + 56 + i))) ∧ HH G hp (ad (B + 6)) (ad (B + 7)) ∧ (∀ c, c < 12 → hp (ad (B + 56 + c)) = xI G 30 (fun _ => 0)) ∧ ∀ c, c < k → g c = some (ad (B + 8 + c)) ∧ HG G hp (ad (B + 8 + c)) (ad (B + 20 + c)) (ad (B + 32 + c)) (ad (B + 44 + c)) []
def ad4 (ad : Nat → Nat) (B k q b e l : Nat) : Nat → Nat := va_up (va_up (va_up (va_up ad (B + 8 + k) q) (B + 20 + k) b) (B + 32 + k) e) (B + 44 + k) l
theorem ad4_n (ad : Nat → Nat) (B k q b e l : Nat) {i : Nat} (h1 : i ≠ B + 8 + k) (h2 : i ≠ B + 20 + k) (h3 : i ≠ B + 32 + k) (h4 : i ≠ B + 44 + k) : ad4 ad B k q b e l i = ad i := by
  unfold ad4
  rw [up_n h4, up_n h3, up_n h2, up_n h1]
theorem ad4_s (ad : Nat → Nat) {B k q b e l : Nat} : ad4 ad B k q b e l (B + 8 + k) = q ∧ ad4 ad B k q b e l (B + 20 + k) = b ∧ ad4 ad B k q b e l (B + 32 + k) = e ∧ ad4 ad B k q b e l (B + 44 + k) = l := by
  unfold ad4
  refine ⟨?_, ?_, ?_, ?_⟩
  · rw [up_n (by omega), up_n (by omega), up_n (by omega), up_s]
  · rw [up_n (by omega), up_n (by omega), up_s]
  · rw [up_n (by omega), up_s]
  · rw [up_s]
theorem HG_new {G : xG} {h : PH} {a b e l : Nat} (h1 : h a = xO 1 [.ref b, .ref e, .ref l, vi 0]) (h2 : h b = xI G 30 (fun _ => 0)) (h3 : h e = xI G 30 (fun _ => 0)) (h4 : h l = xI G 30 (fun _ => 0)) : HG G h a b e l [] :=
  ⟨_, _, _, h1, h2, h3, h4, by simp, fun j hj => absurd hj (Nat.not_lt_zero _), fun _ => ⟨bd_0, bd_0, bd_0⟩, fun c hc => absurd hc (by simp)⟩
theorem PK.step {G : xG} {hp h2 : PH} {ad : Nat → Nat} {S : Nat → Prop} {B k : Nat} {g : Nat → Option Nat} (P : PK G hp ad B k g) (D : AD ad (S1 S B k) (alv hp)) (hS : ∀ i, S i → i ≤ B ∨ B + 68 ≤ i) (hk : k < 12) {q b e l : Nat} (zq : hp q = none) (zb : hp b = none) (ze : hp e = none) (zl : hp l = none) (nqb : q ≠ b) (nqe : q ≠ e) (nql : q ≠ l) (nbe : b ≠ e) (nbl : b ≠ l) (nel : e ≠ l)
    (eq : h2 q = xO 1 [.ref b, .ref e, .ref l, vi 0]) (eb : h2 b = xI G 30 (fun _ => 0)) (ee : h2 e = xI G 30 (fun _ => 0)) (el : h2 l = xI G 30 (fun _ => 0)) (eg : h2 (ad (B + 1)) = xQ G 5 12 (va_up g k (some q))) (ek : ∀ x, alv hp x → x ≠ ad (B + 1) → h2 x = hp x) :
    PK G h2 (ad4 ad B k q b e l) B (k + 1) (va_up g k (some q)) ∧ AD (ad4 ad B k q b e l) (S1 S B (k + 1)) (alv h2) := by
  have hm : ∀ x, alv hp x → alv h2 x := fun x w => by
    by_cases c : x = ad (B + 1)
    · subst c; exact alv_of eg
    · show h2 x ≠ none; rw [ek x w c]; exact w
  have n4 : ∀ i, i ≠ B + 8 + k → i ≠ B + 20 + k → i ≠ B + 32 + k → i ≠ B + 44 + k → ad4 ad B k q b e l i = ad i := fun i => ad4_n ad B k q b e l
  have s4 := ad4_s ad (B := B) (k := k) (q := q) (b := b) (e := e) (l := l)
  have al : ∀ i, S1 S B k i → i ≠ B + 1 → h2 (ad i) = hp (ad i) := fun i hi h1 => ek _ (D.1 i hi) (fun z => h1 (D.2 i (B + 1) hi (Or.inr (Or.inl ⟨by omega, by omega⟩)) z))
  constructor
  · obtain ⟨p1, p2, p3, p4, p5, p6, p7, p8, p9⟩ := P
    have w : ∀ i, i < B + 8 → B ≤ i → i ≠ B + 1 → h2 (ad i) = hp (ad i) := fun i h1 h3 h4 => al i (Or.inr (Or.inl ⟨h3, by omega⟩)) h4
    refine ⟨?_, ?_, ?_, ?_, ?_, ?_, ?_, fun c hc => ?_, fun c hc => ?_⟩
    · rw [n4 B (by omega) (by omega) (by omega) (by omega), n4 (B + 1) (by omega) (by omega) (by omega) (by omega), n4 (B + 2) (by omega) (by omega) (by omega) (by omega), n4 (B + 3) (by omega) (by omega) (by omega) (by omega), n4 (B + 4) (by omega) (by omega) (by omega) (by omega), n4 (B + 5) (by omega) (by omega) (by omega) (by omega), n4 (B + 6) (by omega) (by omega) (by omega) (by omega), w B (by omega) (by omega) (by omega)]
      exact p1
    · rw [n4 (B + 1) (by omega) (by omega) (by omega) (by omega)]; exact eg
    · rw [n4 (B + 2) (by omega) (by omega) (by omega) (by omega), w _ (by omega) (by omega) (by omega)]; exact p3
    · rw [n4 (B + 3) (by omega) (by omega) (by omega) (by omega), w _ (by omega) (by omega) (by omega)]; exact p4
    · rw [n4 (B + 4) (by omega) (by omega) (by omega) (by omega), w _ (by omega) (by omega) (by omega)]; exact p5
    · rw [n4 (B + 5) (by omega) (by omega) (by omega) (by omega), w _ (by omega) (by omega) (by omega), p6]
      refine congrArg (fun f => xQ G 3 12 f) (funext fun i => ?_)
      rw [n4 (B + 56 + i) (by omega) (by omega) (by omega) (by omega)]
    · rw [n4 (B + 6) (by omega) (by omega) (by omega) (by omega), n4 (B + 7) (by omega) (by omega) (by omega) (by omega)]
      exact p7.kept (w _ (by omega) (by omega) (by omega)) (w _ (by omega) (by omega) (by omega))
    · rw [n4 (B + 56 + c) (by omega) (by omega) (by omega) (by omega), al _ (Or.inr (Or.inr (Or.inr (Or.inr (Or.inr ⟨by omega, by omega⟩))))) (by omega)]
      exact p8 c hc
    · by_cases t : c = k
      · subst t
        rw [up_s, s4.1, s4.2.1, s4.2.2.1, s4.2.2.2]
        exact ⟨rfl, HG_new eq eb ee el⟩
      · have hc' : c < k := by omega
        rw [up_n t, n4 (B + 8 + c) (by omega) (by omega) (by omega) (by omega), n4 (B + 20 + c) (by omega) (by omega) (by omega) (by omega), n4 (B + 32 + c) (by omega) (by omega) (by omega) (by omega), n4 (B + 44 + c) (by omega) (by omega) (by omega) (by omega)]
        refine ⟨(p9 c hc').1, (p9 c hc').2.kept (al _ (Or.inr (Or.inl ⟨by omega, by omega⟩)) (by omega)) (al _ (Or.inr (Or.inr (Or.inl ⟨by omega, by omega⟩))) (by omega)) (al _ (Or.inr (Or.inr (Or.inr (Or.inl ⟨by omega, by omega⟩)))) (by omega)) (al _ (Or.inr (Or.inr (Or.inr (Or.inr (Or.inl ⟨by omega, by omega⟩))))) (by omega))⟩
  · have a0 : AD ad (S1 S B k) (alv hp) := D
    have a1 := a0.new (A2 := fun x => alv hp x ∨ x = q) (q := q) (fun w => w zq) (fun x w => Or.inl w) (Or.inr rfl) (B + 8 + k)
    have a2 := a1.new (A2 := fun x => (alv hp x ∨ x = q) ∨ x = b) (q := b) (fun w => w.elim (fun w => w zb) (fun w => nqb w.symm)) (fun x w => Or.inl w) (Or.inr rfl) (B + 20 + k)
    have a3 := a2.new (A2 := fun x => ((alv hp x ∨ x = q) ∨ x = b) ∨ x = e) (q := e) (fun w => w.elim (fun w => w.elim (fun w => w ze) (fun w => nqe w.symm)) (fun w => nbe w.symm)) (fun x w => Or.inl w) (Or.inr rfl) (B + 32 + k)
    have a4 := a3.new (A2 := fun x => (((alv hp x ∨ x = q) ∨ x = b) ∨ x = e) ∨ x = l) (q := l) (fun w => w.elim (fun w => w.elim (fun w => w.elim (fun w => w zl) (fun w => nql w.symm)) (fun w => nbl w.symm)) (fun w => nel w.symm)) (fun x w => Or.inl w) (Or.inr rfl) (B + 44 + k)
    refine a4.sub (fun i hi => ?_) (fun x w => ?_)
    · rcases hi with hi | hi
      · exact Or.inr (Or.inr (Or.inr (Or.inr (Or.inl hi))))
      · have h2 : i = B + 44 + k ∨ i = B + 32 + k ∨ i = B + 20 + k ∨ i = B + 8 + k ∨ ((B ≤ i ∧ i < B + 8 + k) ∨ (B + 20 ≤ i ∧ i < B + 20 + k) ∨ (B + 32 ≤ i ∧ i < B + 32 + k) ∨ (B + 44 ≤ i ∧ i < B + 44 + k) ∨ (B + 56 ≤ i ∧ i < B + 68)) := by omega
        exact h2.imp id (Or.imp id (Or.imp id (Or.imp id Or.inr)))
    · rcases w with (((w | w) | w) | w) | w
      · exact hm x w
      · subst w; exact alv_of eq
      · subst w; exact alv_of eb
      · subst w; exact alv_of ee
      · subst w; exact alv_of el
theorem PK.done {G : xG} {hp : PH} {ad : Nat → Nat} {B : Nat} {g : Nat → Option Nat} (P : PK G hp ad B 12 g) (hg : g = fun c => some (ad (B + 8 + c))) : PR G hp ad B (fun _ => []) (fun _ => 0) (fun _ => 0) (fun _ => 0) (-1) 0 (fun _ _ => 0) := by
  obtain ⟨p1, p2, p3, p4, p5, p6, p7, p8, p9⟩ := P
  subst hg
  exact ⟨p1, p2, p3, p4, p5, p6, p7, fun c hc => (p9 c hc).2, p8⟩
theorem PV0 : PV (fun _ => 0) (fun _ => 0) (fun _ => 0) (-1) 0 (fun _ _ => 0) := ⟨fun _ => ⟨bd_0, bd_0, bd_0⟩, ⟨by decide, by decide⟩, by decide, fun _ _ => ⟨by show (-1000000 : Int) ≤ 0; decide, by show (0 : Int) ≤ 1000000; decide⟩⟩
def S2 (S : Nat → Prop) (k i : Nat) : Prop := S i ∨ (7 ≤ i ∧ i < 9) ∨ (20 ≤ i ∧ i < 20 + k) ∨ (40 ≤ i ∧ i < 40 + k)
def PcK (G : xG) (hp : PH) (ad : Nat → Nat) (k : Nat) (g : Nat → Option Nat) : Prop :=
  hp (ad 7) = xO 4 [.ref (ad 8), vi 0] ∧ hp (ad 8) = xQ G 4 12 g ∧ ∀ c, c < k → g c = some (ad (20 + c)) ∧ hp (ad (20 + c)) = xO 0 [.ref (ad (40 + c)), vi 0, vi 1, vi (-1)] ∧ hp (ad (40 + c)) = xI G 4 (fun _ => 0)
def ad2 (ad : Nat → Nat) (k q b : Nat) : Nat → Nat := va_up (va_up ad (20 + k) q) (40 + k) b
theorem ad2_n (ad : Nat → Nat) (k q b : Nat) {i : Nat} (h1 : i ≠ 20 + k) (h2 : i ≠ 40 + k) : ad2 ad k q b i = ad i := by
  unfold ad2
  rw [up_n h2, up_n h1]
theorem ad2_s (ad : Nat → Nat) {k q b : Nat} : ad2 ad k q b (20 + k) = q ∧ ad2 ad k q b (40 + k) = b := by
  unfold ad2
  refine ⟨?_, ?_⟩
  · rw [up_n (by omega), up_s]
  · rw [up_s]
theorem PcK.step {G : xG} {hp h2 : PH} {ad : Nat → Nat} {S : Nat → Prop} {k : Nat} {g : Nat → Option Nat} (P : PcK G hp ad k g) (D : AD ad (S2 S k) (alv hp)) (hk : k < 12) {q b : Nat} (zq : hp q = none) (zb : hp b = none) (nqb : q ≠ b)
    (eq : h2 q = xO 0 [.ref b, vi 0, vi 1, vi (-1)]) (eb : h2 b = xI G 4 (fun _ => 0)) (eg : h2 (ad 8) = xQ G 4 12 (va_up g k (some q))) (ek : ∀ x, alv hp x → x ≠ ad 8 → h2 x = hp x) :
    PcK G h2 (ad2 ad k q b) (k + 1) (va_up g k (some q)) ∧ AD (ad2 ad k q b) (S2 S (k + 1)) (alv h2) := by
  have hm : ∀ x, alv hp x → alv h2 x := fun x w => by
    by_cases c : x = ad 8
    · subst c; exact alv_of eg
    · show h2 x ≠ none; rw [ek x w c]; exact w
  have n4 : ∀ i, i ≠ 20 + k → i ≠ 40 + k → ad2 ad k q b i = ad i := fun i => ad2_n ad k q b
  have s4 := ad2_s ad (k := k) (q := q) (b := b)
  have al : ∀ i, S2 S k i → i ≠ 8 → h2 (ad i) = hp (ad i) := fun i hi h1 => ek _ (D.1 i hi) (fun z => h1 (D.2 i 8 hi (Or.inr (Or.inl ⟨by omega, by omega⟩)) z))
  constructor
  · obtain ⟨p1, p2, p9⟩ := P
    refine ⟨?_, ?_, fun c hc => ?_⟩
    · rw [n4 7 (by omega) (by omega), n4 8 (by omega) (by omega), al 7 (Or.inr (Or.inl ⟨by omega, by omega⟩)) (by omega)]
      exact p1
    · rw [n4 8 (by omega) (by omega)]; exact eg
    · by_cases t : c = k
      · subst t
        rw [up_s, s4.1, s4.2]
        exact ⟨rfl, eq, eb⟩
      · have hc' : c < k := by omega
        rw [up_n t, n4 (20 + c) (by omega) (by omega), n4 (40 + c) (by omega) (by omega), al (20 + c) (Or.inr (Or.inr (Or.inl ⟨by omega, by omega⟩))) (by omega), al (40 + c) (Or.inr (Or.inr (Or.inr ⟨by omega, by omega⟩))) (by omega)]
        exact p9 c hc'
  · have a1 := D.new (A2 := fun x => alv hp x ∨ x = q) (q := q) (fun w => w zq) (fun x w => Or.inl w) (Or.inr rfl) (20 + k)
    have a2 := a1.new (A2 := fun x => (alv hp x ∨ x = q) ∨ x = b) (q := b) (fun w => w.elim (fun w => w zb) (fun w => nqb w.symm)) (fun x w => Or.inl w) (Or.inr rfl) (40 + k)
    refine a2.sub (fun i hi => ?_) (fun x w => ?_)
    · rcases hi with hi | hi
      · exact Or.inr (Or.inr (Or.inl hi))
      · have h2 : i = 40 + k ∨ i = 20 + k ∨ ((7 ≤ i ∧ i < 9) ∨ (20 ≤ i ∧ i < 20 + k) ∨ (40 ≤ i ∧ i < 40 + k)) := by omega
        exact h2.imp id (Or.imp id Or.inr)
    · rcases w with (w | w) | w
      · exact hm x w
      · subst w; exact alv_of eq
      · subst w; exact alv_of eb
theorem PcK.done {G : xG} {hp : PH} {ad : Nat → Nat} {g : Nat → Option Nat} (P : PcK G hp ad 12 g) (hg : g = fun c => some (ad (20 + c))) : PieceR G hp ad 0 (fun _ => 0) (fun _ _ => 0) (fun _ => 1) (fun _ => -1) := by
  obtain ⟨p1, p2, p9⟩ := P
  subst hg
  exact ⟨p1, p2, fun c hc => (p9 c hc).2⟩
theorem kf {h : PH} {x a : Nat} {v : Option va_E} (e : x = a) (p : h x = v) : h a = v := e ▸ p
theorem PcK.norm {G : xG} {hp : PH} {ad : Nat → Nat} {S : Nat → Prop} {g : Nat → Option Nat} (P : PcK G hp ad 12 g) (D : AD ad (S2 S 12) (alv hp)) : PieceR G (va_up hp (ad 8) (xQ G 4 12 (fun c => some (ad (20 + c))))) ad 0 (fun _ => 0) (fun _ _ => 0) (fun _ => 1) (fun _ => -1) := by
  have n : ∀ i, S2 S 12 i → i ≠ 8 → va_up hp (ad 8) (xQ G 4 12 (fun c => some (ad (20 + c)))) (ad i) = hp (ad i) := fun i hi h8 => up_n (fun e => h8 (D.2 i 8 hi (Or.inr (Or.inl ⟨by omega, by omega⟩)) e))
  obtain ⟨p1, p2, p9⟩ := P
  exact ⟨(n 7 (Or.inr (Or.inl ⟨by omega, by omega⟩)) (by omega)).trans p1, up_s, fun c hc => ⟨(n _ (Or.inr (Or.inr (Or.inl ⟨by omega, by omega⟩))) (by omega)).trans (p9 c hc).2.1, (n _ (Or.inr (Or.inr (Or.inr ⟨by omega, by omega⟩))) (by omega)).trans (p9 c hc).2.2⟩⟩
theorem PK.norm {G : xG} {hp : PH} {ad : Nat → Nat} {S : Nat → Prop} {B : Nat} {g : Nat → Option Nat} (P : PK G hp ad B 12 g) (D : AD ad (S1 S B 12) (alv hp)) : PR G (va_up hp (ad (B + 1)) (xQ G 5 12 (fun c => some (ad (B + 8 + c))))) ad B (fun _ => []) (fun _ => 0) (fun _ => 0) (fun _ => 0) (-1) 0 (fun _ _ => 0) := by
  have n : ∀ i, S1 S B 12 i → i ≠ B + 1 → va_up hp (ad (B + 1)) (xQ G 5 12 (fun c => some (ad (B + 8 + c)))) (ad i) = hp (ad i) := fun i hi h8 => up_n (fun e => h8 (D.2 i (B + 1) hi (Or.inr (Or.inl ⟨by omega, by omega⟩)) e))
  have w : ∀ i, i < B + 20 → B ≤ i → i ≠ B + 1 → va_up hp (ad (B + 1)) (xQ G 5 12 (fun c => some (ad (B + 8 + c)))) (ad i) = hp (ad i) := fun i h1 h2 h3 => n i (Or.inr (Or.inl ⟨h2, by omega⟩)) h3
  obtain ⟨p1, p2, p3, p4, p5, p6, p7, p8, p9⟩ := P
  refine ⟨(w B (by omega) (by omega) (by omega)).trans p1, up_s, (w _ (by omega) (by omega) (by omega)).trans p3, (w _ (by omega) (by omega) (by omega)).trans p4, (w _ (by omega) (by omega) (by omega)).trans p5, (w _ (by omega) (by omega) (by omega)).trans p6, p7.kept (w _ (by omega) (by omega) (by omega)) (w _ (by omega) (by omega) (by omega)), fun c hc => ?_, fun c hc => (n _ (Or.inr (Or.inr (Or.inr (Or.inr (Or.inr ⟨by omega, by omega⟩))))) (by omega)).trans (p8 c hc)⟩
  exact (p9 c hc).2.kept (w _ (by omega) (by omega) (by omega)) (n _ (Or.inr (Or.inr (Or.inl ⟨by omega, by omega⟩))) (by omega)) (n _ (Or.inr (Or.inr (Or.inr (Or.inl ⟨by omega, by omega⟩)))) (by omega)) (n _ (Or.inr (Or.inr (Or.inr (Or.inr (Or.inl ⟨by omega, by omega⟩))))) (by omega))
/-- the addresses of a planner's own things -/
def adP (ad0 : Nat → Nat) (B g1 f1 c1 l1 r1 hd hf : Nat) : Nat → Nat := va_up (va_up (fun j => if B + 56 ≤ j ∧ j < B + 56 + 12 then r1 + 1 + (j - (B + 56)) else (va_up (va_up (va_up (va_up (va_up ad0 (B + 1) g1) (B + 2) f1) (B + 3) c1) (B + 4) l1) (B + 5) r1) j) (B + 6) hd) (B + 7) hf
theorem adP_s (ad0 : Nat → Nat) (B g1 f1 c1 l1 r1 hd hf : Nat) : adP ad0 B g1 f1 c1 l1 r1 hd hf (B + 1) = g1 ∧ adP ad0 B g1 f1 c1 l1 r1 hd hf (B + 2) = f1 ∧ adP ad0 B g1 f1 c1 l1 r1 hd hf (B + 3) = c1 ∧ adP ad0 B g1 f1 c1 l1 r1 hd hf (B + 4) = l1 ∧ adP ad0 B g1 f1 c1 l1 r1 hd hf (B + 5) = r1 ∧ adP ad0 B g1 f1 c1 l1 r1 hd hf (B + 6) = hd ∧ adP ad0 B g1 f1 c1 l1 r1 hd hf (B + 7) = hf ∧ (∀ i, i < 12 → adP ad0 B g1 f1 c1 l1 r1 hd hf (B + 56 + i) = r1 + 1 + i) ∧ ∀ i, i ≤ B ∨ B + 68 ≤ i → adP ad0 B g1 f1 c1 l1 r1 hd hf i = ad0 i := by
  unfold adP
  refine ⟨?_, ?_, ?_, ?_, ?_, ?_, ?_, fun i hi => ?_, fun i hi => ?_⟩
  · rw [up_n (by omega), up_n (by omega), if_neg (by omega), up_n (by omega), up_n (by omega), up_n (by omega), up_n (by omega), up_s]
  · rw [up_n (by omega), up_n (by omega), if_neg (by omega), up_n (by omega), up_n (by omega), up_n (by omega), up_s]
  · rw [up_n (by omega), up_n (by omega), if_neg (by omega), up_n (by omega), up_n (by omega), up_s]
  · rw [up_n (by omega), up_n (by omega), if_neg (by omega), up_n (by omega), up_s]
  · rw [up_n (by omega), up_n (by omega), if_neg (by omega), up_s]
  · rw [up_n (by omega), up_s]
  · rw [up_s]
  · rw [up_n (by omega), up_n (by omega), if_pos (by omega)]; omega
  · rw [up_n (by omega), up_n (by omega), if_neg (by omega), up_n (by omega), up_n (by omega), up_n (by omega), up_n (by omega), up_n (by omega)]
theorem PK.init {G : xG} {hp : PH} {ad0 : Nat → Nat} {B a g1 f1 c1 l1 r1 hd hf : Nat} {gr : Nat → Option Nat} (ha : ad0 B = a) (e0 : hp a = xO 5 [.ref g1, .ref f1, .ref c1, vi (-1), .ref l1, .ref r1, .ref hd, vi 0]) (e1 : hp g1 = xQ G 5 12 (fun _ => none)) (e2 : hp f1 = xI G 12 (fun _ => 0)) (e3 : hp c1 = xI G 12 (fun _ => 0)) (e4 : hp l1 = xI G 12 (fun _ => 0)) (e5 : hp r1 = xQ G 3 12 gr) (eg : gr = fun i => some (adP ad0 B g1 f1 c1 l1 r1 hd hf (B + 56 + i))) (e6 : HH G hp hd hf) (e7 : ∀ i, i < 12 → hp (r1 + 1 + i) = xI G 30 (fun _ => 0)) : PK G hp (adP ad0 B g1 f1 c1 l1 r1 hd hf) B 0 (fun _ => none) := by
  obtain ⟨s1, s2, s3, s4, s5, s6, s7, s8, s9⟩ := adP_s ad0 B g1 f1 c1 l1 r1 hd hf
  unfold PK
  rw [s1, s2, s3, s4, s5, s6, s7, s9 B (Or.inl (Nat.le_refl _)), ha]
  refine ⟨e0, e1, e2, e3, e4, by rw [e5, eg], e6, fun c hc => ?_, fun c hc => absurd hc (Nat.not_lt_zero _)⟩
  rw [s8 c hc]
  exact e7 c hc
theorem PR.move {G : xG} {h h2 : PH} {ad ad2 : Nat → Nat} {B : Nat} {Ls : Nat → List Nat} {fx ln ch : Nat → Int} {tot : Int} {cnt : Nat} {rs : Nat → Nat → Int} (P : PR G h ad B Ls fx ln ch tot cnt rs) (he : ∀ i, i < 68 → ad2 (B + i) = ad (B + i)) (h1 : h2 (ad2 (B + 1)) = xQ G 5 12 (fun c => some (ad2 (B + 8 + c)))) (h5 : h2 (ad2 (B + 5)) = xQ G 3 12 (fun c => some (ad2 (B + 56 + c)))) (hk : ∀ i, i < 68 → i ≠ 1 → i ≠ 5 → h2 (ad (B + i)) = h (ad (B + i))) : PR G h2 ad2 B Ls fx ln ch tot cnt rs := by
  obtain ⟨p1, p2, p3, p4, p5, p6, p7, p8, p9⟩ := P
  have e : ∀ j c, c < 12 → j + c < 68 → (j = 8 ∨ j = 20 ∨ j = 32 ∨ j = 44 ∨ j = 56) → ad2 (B + j + c) = ad (B + j + c) ∧ h2 (ad (B + j + c)) = h (ad (B + j + c)) := fun j c hc h3 h4 => by
    have a := he (j + c) h3
    have b := hk (j + c) h3 (by omega) (by omega)
    rw [← Nat.add_assoc] at a b
    exact ⟨a, b⟩
  have e0 : ad2 B = ad B := he 0 (by omega)
  have k0 : h2 (ad B) = h (ad B) := hk 0 (by omega) (by omega) (by omega)
  refine ⟨?_, h1, ?_, ?_, ?_, h5, ?_, fun c hc => ?_, fun c hc => ?_⟩
  · rw [e0, he 1 (by omega), he 2 (by omega), he 3 (by omega), he 4 (by omega), he 5 (by omega), he 6 (by omega), k0]; exact p1
  · rw [he 2 (by omega), hk 2 (by omega) (by omega) (by omega)]; exact p3
  · rw [he 3 (by omega), hk 3 (by omega) (by omega) (by omega)]; exact p4
  · rw [he 4 (by omega), hk 4 (by omega) (by omega) (by omega)]; exact p5
  · rw [he 6 (by omega), he 7 (by omega)]
    exact p7.kept (hk 6 (by omega) (by omega) (by omega)) (hk 7 (by omega) (by omega) (by omega))
  · rw [(e 8 c hc (by omega) (by omega)).1, (e 20 c hc (by omega) (by omega)).1, (e 32 c hc (by omega) (by omega)).1, (e 44 c hc (by omega) (by omega)).1]
    exact (p8 c hc).kept (e 8 c hc (by omega) (by omega)).2 (e 20 c hc (by omega) (by omega)).2 (e 32 c hc (by omega) (by omega)).2 (e 44 c hc (by omega) (by omega)).2
  · rw [(e 56 c hc (by omega) (by omega)).1, (e 56 c hc (by omega) (by omega)).2]
    exact p9 c hc
theorem PieceR.move {G : xG} {h h2 : PH} {ad ad2 : Nat → Nat} {m : Nat} {si : Nat → Nat} {pt : Nat → Nat → Int} {cl cf : Nat → Int} (P : PieceR G h ad m si pt cl cf) (e7 : ad2 7 = ad 7) (k7 : h2 (ad 7) = h (ad 7)) (e8 : ad2 8 = ad 8) (h8 : h2 (ad2 8) = xQ G 4 12 (fun c => some (ad2 (20 + c)))) (hc : ∀ c, c < 12 → (ad2 (20 + c) = ad (20 + c) ∧ h2 (ad (20 + c)) = h (ad (20 + c))) ∧ ad2 (40 + c) = ad (40 + c) ∧ h2 (ad (40 + c)) = h (ad (40 + c))) : PieceR G h2 ad2 m si pt cl cf := by
  refine ⟨?_, h8, fun c q => ?_⟩
  · rw [e7, e8, k7]; exact P.1
  · obtain ⟨⟨a1, a2⟩, a3, a4⟩ := hc c q
    rw [a1, a3, a2, a4]
    exact P.2.2 c q
/-- an instrument and a piece at their start -/
def Q0 : Ins := (0, fun _ => 0, fun _ => false, 0, 3)
def P0 : Pie := (0, fun _ => 0, fun _ _ => 0, fun _ => 1, fun _ => -1)
theorem IV0 : IV Q0.n Q0.op Q0.cp Q0.rc := ⟨by decide, fun _ _ => ⟨by show (0 : Int) ≤ 0; decide, by show (0 : Int) ≤ 60; decide⟩, ⟨by decide, by decide⟩, by decide, by decide⟩
theorem CV0 : CV P0.m P0.si P0.pt P0.cl P0.cf := ⟨by decide, fun _ => by show 0 ≤ 4; decide, fun _ _ => bd_0, fun c j hc => absurd hc (Nat.not_lt_zero _), fun _ => ⟨⟨by show (-2147483648 : Int) ≤ 1; decide, by show (1 : Int) < 2147483648; decide⟩, ⟨by show (-2147483648 : Int) ≤ -1; decide, by show (-1 : Int) < 2147483648; decide⟩⟩⟩
/-- what lay in the heap before, as roles of its own -/
def oldR (h : PH) (a i : Nat) : Prop := 1000 ≤ i ∧ alv h (i - 1000) ∧ i - 1000 ≠ a
def adO (a : Nat) : Nat → Nat := fun i => if i = 0 then a else i - 1000
theorem AD.old {h : PH} {a : Nat} {v : va_E} : AD (adO a) (fun i => i = 0 ∨ oldR h a i) (alv (va_up h a (some v))) := by
  have f : ∀ i, oldR h a i → adO a i = i - 1000 := fun i hi => if_neg (by have := hi.1; omega)
  refine ⟨fun i hi => ?_, fun i j hi hj he => ?_⟩
  · rcases hi with rfl | hi
    · exact alv_q
    · rw [f i hi]; exact alv_up hi.2.1
  · rcases hi with rfl | hi <;> rcases hj with rfl | hj
    · rfl
    · rw [f j hj] at he; exact absurd he.symm hj.2.2
    · rw [f i hi] at he; exact absurd he hi.2.2
    · rw [f i hi, f j hj] at he
      have := hi.1
      have := hj.1
      omega
theorem oldR_ge {h : PH} {a i : Nat} (w : oldR h a i) : 1000 ≤ i := w.1
