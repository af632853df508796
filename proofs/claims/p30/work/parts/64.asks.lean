/-! What the law asks of an object, and what holds of the answers. -/
theorem c_many0 {G : xG} {h : PH} {ad : Nat → Nat} (hj : ∀ i j, i < 300 → j < 300 → ad i = ad j → i = j) {fq : Bool} {Q : Ins} {P : Pie} (T : TabR G h ad fq Q P) : Cn G m_Tab_many 10 0 0 [.ref (ad 0), vi 0] h (fun r h' => r = some (vi ((Q.n : Nat) : Int)) ∧ TabR G h' ad true Q P ∧ frO ad h h') := c_many hj T (w := 0) (by decide)
theorem c_many2 {G : xG} {h : PH} {ad : Nat → Nat} (hj : ∀ i j, i < 300 → j < 300 → ad i = ad j → i = j) {fq : Bool} {Q : Ins} {P : Pie} (T : TabR G h ad fq Q P) : Cn G m_Tab_many 10 0 0 [.ref (ad 0), vi 2] h (fun r h' => r = some (vi Q.cp) ∧ TabR G h' ad true Q P ∧ frO ad h h') := c_many hj T (w := 2) (by decide)
theorem c_many3 {G : xG} {h : PH} {ad : Nat → Nat} (hj : ∀ i j, i < 300 → j < 300 → ad i = ad j → i = j) {fq : Bool} {Q : Ins} {P : Pie} (T : TabR G h ad fq Q P) : Cn G m_Tab_many 10 0 0 [.ref (ad 0), vi 3] h (fun r h' => r = some (vi Q.rc) ∧ TabR G h' ad true Q P ∧ frO ad h h') := c_many hj T (w := 3) (by decide)
theorem c_many4 {G : xG} {h : PH} {ad : Nat → Nat} (hj : ∀ i j, i < 300 → j < 300 → ad i = ad j → i = j) {fq : Bool} {Q : Ins} {P : Pie} (T : TabR G h ad fq Q P) : Cn G m_Tab_many 10 0 0 [.ref (ad 0), vi 4] h (fun r h' => r = some (vi ((P.m : Nat) : Int)) ∧ TabR G h' ad true Q P ∧ frO ad h h') := c_many hj T (w := 4) (by decide)
theorem c_many5 {G : xG} {h : PH} {ad : Nat → Nat} (hj : ∀ i j, i < 300 → j < 300 → ad i = ad j → i = j) {fq : Bool} {Q : Ins} {P : Pie} (T : TabR G h ad fq Q P) : Cn G m_Tab_many 10 0 0 [.ref (ad 0), vi 5] h (fun r h' => r = some (vi (gless (qL Q P) P.m)) ∧ TabR G h' ad true Q P ∧ frO ad h h') := c_many hj T (w := 5) (by decide)
theorem c_ofChord4 {G : xG} {h : PH} {ad : Nat → Nat} (hj : ∀ i j, i < 300 → j < 300 → ad i = ad j → i = j) {fq : Bool} {Q : Ins} {P : Pie} (T : TabR G h ad fq Q P) {c : Nat} (hc : c < P.m) : Cn G m_Tab_ofChord 10 0 0 [.ref (ad 0), vi (c : Int), vi 4] h (fun r h' => r = some (vi (((qL Q P c).length : Nat) : Int)) ∧ TabR G h' ad true Q P ∧ frO ad h h') := c_ofChord hj T hc (w := 4) (by decide)
theorem c_ofChord5 {G : xG} {h : PH} {ad : Nat → Nat} (hj : ∀ i j, i < 300 → j < 300 → ad i = ad j → i = j) {fq : Bool} {Q : Ins} {P : Pie} (T : TabR G h ad fq Q P) {c : Nat} (hc : c < P.m) : Cn G m_Tab_ofChord 10 0 0 [.ref (ad 0), vi (c : Int), vi 5] h (fun r h' => r = some (vi (qF Q P c)) ∧ TabR G h' ad true Q P ∧ frO ad h h') := c_ofChord hj T hc (w := 5) (by decide)
theorem c_ofGrip0 {G : xG} {h : PH} {ad : Nat → Nat} (hj : ∀ i j, i < 300 → j < 300 → ad i = ad j → i = j) {fq : Bool} {Q : Ins} {P : Pie} (T : TabR G h ad fq Q P) {c g : Nat} (hc : c < P.m) (hg : g < (qL Q P c).length) : Cn G m_Tab_ofGrip 11 0 0 [.ref (ad 0), vi (c : Int), vi (g : Int), vi 0] h (fun r h' => r = some (vi (hEff (fr ((qL Q P c).getD g 0)))) ∧ TabR G h' ad true Q P ∧ frO ad h h') := c_ofGrip hj T hc hg (w := 0) (by decide)
theorem c_ofGrip1 {G : xG} {h : PH} {ad : Nat → Nat} (hj : ∀ i j, i < 300 → j < 300 → ad i = ad j → i = j) {fq : Bool} {Q : Ins} {P : Pie} (T : TabR G h ad fq Q P) {c g : Nat} (hc : c < P.m) (hg : g < (qL Q P c).length) : Cn G m_Tab_ofGrip 11 0 0 [.ref (ad 0), vi (c : Int), vi (g : Int), vi 1] h (fun r h' => r = some (vi (hLow (fr ((qL Q P c).getD g 0)))) ∧ TabR G h' ad true Q P ∧ frO ad h h') := c_ofGrip hj T hc hg (w := 1) (by decide)
theorem c_ofGrip2 {G : xG} {h : PH} {ad : Nat → Nat} (hj : ∀ i j, i < 300 → j < 300 → ad i = ad j → i = j) {fq : Bool} {Q : Ins} {P : Pie} (T : TabR G h ad fq Q P) {c g : Nat} (hc : c < P.m) (hg : g < (qL Q P c).length) : Cn G m_Tab_ofGrip 11 0 0 [.ref (ad 0), vi (c : Int), vi (g : Int), vi 2] h (fun r h' => r = some (vi (hHigh (fr ((qL Q P c).getD g 0)))) ∧ TabR G h' ad true Q P ∧ frO ad h h') := c_ofGrip hj T hc hg (w := 2) (by decide)
theorem c_ofGrip3 {G : xG} {h : PH} {ad : Nat → Nat} (hj : ∀ i j, i < 300 → j < 300 → ad i = ad j → i = j) {fq : Bool} {Q : Ins} {P : Pie} (T : TabR G h ad fq Q P) {c g : Nat} (hc : c < P.m) (hg : g < (qL Q P c).length) : Cn G m_Tab_ofGrip 11 0 0 [.ref (ad 0), vi (c : Int), vi (g : Int), vi 3] h (fun r h' => r = some (vi (hFc (fr ((qL Q P c).getD g 0)))) ∧ TabR G h' ad true Q P ∧ frO ad h h') := c_ofGrip hj T hc hg (w := 3) (by decide)
theorem c_ofGrip4 {G : xG} {h : PH} {ad : Nat → Nat} (hj : ∀ i j, i < 300 → j < 300 → ad i = ad j → i = j) {fq : Bool} {Q : Ins} {P : Pie} (T : TabR G h ad fq Q P) {c g : Nat} (hc : c < P.m) (hg : g < (qL Q P c).length) : Cn G m_Tab_ofGrip 11 0 0 [.ref (ad 0), vi (c : Int), vi (g : Int), vi 4] h (fun r h' => r = some (vi (if hBar (fr ((qL Q P c).getD g 0)) = true then 1 else 0)) ∧ TabR G h' ad true Q P ∧ frO ad h h') := c_ofGrip hj T hc hg (w := 4) (by decide)
/-- behind a draw -/
theorem TN_draw {G : xG} {h : PH} {ad : Nat → Nat} {fq : Bool} {nk b sl : Nat} {d : Int} {Q : Ins} {P : Pie} (T : TabR G h ad fq Q P) (N : NkR G h ad nk b sl d Q P) (hd : d < 90000) : 0 ≤ d ∧ ∃ oa ca la fa fo, h nk = xO 8 [.ref (ad 0), .ref b, vi d, .ref oa, .ref sl, vi Q.cp, vi Q.rc, .ref ca, .ref la, .ref fa, .ref fo] ∧ ∀ h', h' = va_up h nk (xO 8 [.ref (ad 0), .ref b, vi (d + 1), .ref oa, .ref sl, vi Q.cp, vi Q.rc, .ref ca, .ref la, .ref fa, .ref fo]) → TabR G h' ad fq Q P ∧ NkR G h' ad nk b sl (d + 1) Q P := by
  obtain ⟨oa, ca, la, fa, fo, ln2, hN, hO, hS, hSv, hC, hLa, hF, hE, hd0, hV⟩ := N
  refine ⟨hd0.1, oa, ca, la, fa, fo, hN, fun h' e => ?_⟩
  subst e
  have kk : KpS (EX ad nk oa sl) h (va_up h nk (xO 8 [.ref (ad 0), .ref b, vi (d + 1), .ref oa, .ref sl, vi Q.cp, vi Q.rc, .ref ca, .ref la, .ref fa, .ref fo])) := fun x _ s => up_n s.1
  refine ⟨T.kept (fun i hi => up_n (Ne.symm (hE.1 i hi))), oa, ca, la, fa, fo, ln2, up_s, (up_n (ne_kd hO hN rfl)).trans hO, (up_n (ne_kd hS hN rfl)).trans hS, hSv, hC.kp kk (up_n (ne_kd hC.choose_spec.1 hN rfl)), (up_n (ne_kd hLa hN rfl)).trans hLa, hF.kp kk (up_n (ne_kd hF.choose_spec.1 hN rfl)), hE, ⟨by omega, by omega⟩, hV⟩
theorem NkR.d0 {G : xG} {h : PH} {ad : Nat → Nat} {nk b sl : Nat} {d : Int} {Q : Ins} {P : Pie} (N : NkR G h ad nk b sl d Q P) : 0 ≤ d ∧ d < 100000 ∧ PiV P := by
  obtain ⟨oa, ca, la, fa, fo, ln2, hN, hO, hS, hSv, hC, hLa, hF, hE, hd0, hV⟩ := N
  exact ⟨hd0.1, hd0.2, hV⟩
/-- what an object's numbers are -/
theorem TabR.iv {G : xG} {h : PH} {ad : Nat → Nat} {fr : Bool} {Q : Ins} {P : Pie} (T : TabR G h ad fr Q P) : IV Q.n Q.op Q.cp Q.rc ∧ CV P.m P.si P.pt P.cl P.cf := T.2.2.2.2.2.2.2
theorem qF_ok {Q : Ins} {P : Pie} (h : gless (qL Q P) P.m = 0) : okF (qL Q P) (qF Q P) P.m := fun c hc => by
  have h1 := (gless_0 P.m).mp h c hc
  have h2 := numL_rg (qL Q P c) (P.cf c)
  refine ⟨h1, ?_⟩
  show numL (qL Q P c) (P.cf c) = -1 ∨ 0 ≤ numL (qL Q P c) (P.cf c) ∧ numL (qL Q P c) (P.cf c) < _
  omega
theorem qT_cases (Q : Ins) (P : Pie) : ((P.m = 0 ∨ 0 < gless (qL Q P) P.m) ∧ qT Q P = -1) ∨ (0 < P.m ∧ gless (qL Q P) P.m = 0 ∧ 0 ≤ qT Q P ∧ okF (qL Q P) (qF Q P) P.m ∧ qC Q P = CH (qL Q P) (qF Q P) P.cl P.m) := by
  have hg := gless_rg (qL Q P) P.m
  by_cases a : (P.m : Int) = 0 ∨ 0 < gless (qL Q P) P.m
  · refine Or.inl ⟨by omega, ?_⟩
    unfold qT totS
    rw [if_pos a]
  · have h0 : 0 < P.m := by omega
    have h1 : gless (qL Q P) P.m = 0 := by omega
    refine Or.inr ⟨h0, h1, (totS_in (qF_ok h1) h0).2, qF_ok h1, ?_⟩
    unfold qC
    rw [if_neg a]
theorem plan_ok {Q : Ins} {P : Pie} (h : 0 ≤ qT Q P) {c : Nat} (hc : c < P.m) : ∃ k : Nat, k < (qL Q P c).length ∧ qC Q P c = (k : Int) ∧ (qF Q P c = -1 ∨ qF Q P c = (k : Int)) := by
  rcases qT_cases Q P with ⟨-, a⟩ | ⟨a1, a2, a3, a4, a5⟩
  · omega
  · rw [a5]
    exact CH_spec a4 hc
theorem plan_sum {Q : Ins} {P : Pie} (h : 0 ≤ qT Q P) : smA (qL Q P) P.cl (qC Q P) P.m P.m = qT Q P := by
  rcases qT_cases Q P with ⟨-, a⟩ | ⟨a1, a2, a3, a4, a5⟩
  · omega
  · rw [a5]
    exact totS_sum a4 a1
theorem best_ok {Q : Ins} {P : Pie} (hI : IV Q.n Q.op Q.cp Q.rc) (h : 0 ≤ qT Q P) : ∃ b : Nat, b < 8 ∧ (bC Q P 8).1 = (b : Int) ∧ qT (Q.n, Q.op, Q.sl, (b : Int), Q.rc) P ≤ qT Q P := by
  have hc := hI.2.2.1
  have e : qT (Q.n, Q.op, Q.sl, ((Q.cp.toNat : Nat) : Int), Q.rc) P = qT Q P := by
    rw [show ((Q.cp.toNat : Nat) : Int) = Q.cp by omega]
  rcases bC_spec Q P 8 with ⟨-, a⟩ | ⟨b, b1, b2, -, -, b3⟩
  · have := a Q.cp.toNat (by omega)
    rw [e] at this
    omega
  · refine ⟨b, b1, b2, ?_⟩
    have := b3 Q.cp.toNat (by omega) (by rw [e]; omega)
    rwa [e] at this
theorem nOf_neg {g : Nat → Int} {n : Nat} (h : ∀ j, 0 ≤ g j) : ∀ m, nOf g (-1) n m = -1
  | 0 => rfl
  | m + 1 => by
    rw [nOf_s, if_neg (by have := h (n - (m + 1)); omega)]
    exact nOf_neg h m
theorem nOf_at {g : Nat → Int} {n k : Nat} (hk : k < n) (h : ∀ i, i < k → g i ≠ g k) : ∀ m, m ≤ n → n - m ≤ k → nOf g (g k) n m = (k : Int)
  | 0, _, h2 => absurd h2 (by omega)
  | m + 1, h1, h2 => by
    rw [nOf_s]
    by_cases q : n - (m + 1) = k
    · rw [q, if_pos rfl]
    · rw [if_neg (h _ (by omega))]
      exact nOf_at hk h m (by omega) (by omega)
theorem qF_free {Q : Ins} {P : Pie} {c : Nat} (h : P.cf c = -1) : qF Q P c = -1 := by
  show numL (qL Q P c) (P.cf c) = -1
  rw [h]
  exact nOf_neg (fun j => Int.natCast_nonneg _) _
/-- what is fixed as it is planned -/
theorem fix_same {Q : Ins} {P : Pie} (hI : IV Q.n Q.op Q.cp Q.rc) (hC : CV P.m P.si P.pt P.cl P.cf) (hV : PiV P) (h : 0 ≤ qT Q P) {c k : Nat} (hc : c < P.m) (hk : k < (qL Q P c).length) (hp : qC Q P c = (k : Int)) (hf : P.cf c = -1) : qTF Q P c (k : Int) = qT Q P ∧ qT Q (P.m, P.si, P.pt, P.cl, va_up P.cf c (((qL Q P c).getD k 0 : Nat) : Int)) = qT Q P := by
  have e1 : qTF Q P c (k : Int) = qT Q P := by
    rcases qT_cases Q P with ⟨-, a⟩ | ⟨a1, a2, a3, a4, a5⟩
    · omega
    · have := totS_fix (ln := P.cl) a4 hc (qF_free hf)
      rw [← a5, hp] at this
      exact this
  refine ⟨e1, ?_⟩
  have e2 : qF Q (P.m, P.si, P.pt, P.cl, va_up P.cf c (((qL Q P c).getD k 0 : Nat) : Int)) = va_up (qF Q P) c (k : Int) := by
    funext d
    show numL (qL Q P d) (va_up P.cf c (((qL Q P c).getD k 0 : Nat) : Int) d) = _
    by_cases q : d = c
    · rw [q, up_s, up_s]
      exact nOf_at (g := fun j => (((qL Q P c).getD j 0 : Nat) : Int)) hk (fun i hi e => by
        have e : (qL Q P c).getD i 0 = (qL Q P c).getD k 0 := Int.ofNat.inj e
        have := qL_klt hI hC hV hc hi hk
        rw [e] at this
        exact klt_irr _ this) _ (Nat.le_refl _) (by omega)
    · rw [up_n q, up_n q]
      rfl
  show totS (qL Q P) (qF Q (P.m, P.si, P.pt, P.cl, va_up P.cf c (((qL Q P c).getD k 0 : Nat) : Int))) P.cl P.m = qT Q P
  rw [e2]
  exact e1
/-- one behind the other, two grips differ -/
theorem two_differ {Q : Ins} {P : Pie} (hI : IV Q.n Q.op Q.cp Q.rc) (hC : CV P.m P.si P.pt P.cl P.cf) (hV : PiV P) {c k : Nat} (hc : c < P.m) (hk : k + 1 < (qL Q P c).length) : ¬ ∀ j, j < Q.n → fr ((qL Q P c).getD (k + 1) 0) j = fr ((qL Q P c).getD k 0) j := fun h => by
  have h1 := qL_cd hI hC hV hc hk
  have h2 := qL_cd hI hC hV hc (show k < (qL Q P c).length by omega)
  have e : (qL Q P c).getD (k + 1) 0 = (qL Q P c).getD k 0 := code_ext h1.1 h2.1 (fun s hs => by
    by_cases q : s < Q.n
    · exact h s q
    · rw [h1.2.2 s (by omega) hs, h2.2.2 s (by omega) hs])
  have := qL_klt hI hC hV hc (show k < k + 1 by omega) hk
  rw [e] at this
  exact klt_irr _ this
theorem up_back {α : Type} (f : Nat → α) (k : Nat) (v : α) : va_up (va_up f k v) k (f k) = f := by
  rw [up_u]
  exact up_same rfl
theorem hHigh_0 (f : Nat → Int) : 0 ≤ hHigh f := cp_hn f 6
