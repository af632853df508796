/-! The whole object's state: an instrument, a piece; what is reckoned from them. -/
abbrev Ins : Type := Nat × (Nat → Int) × (Nat → Bool) × Int × Int
abbrev Ins.n (I : Ins) : Nat := I.1
abbrev Ins.op (I : Ins) : Nat → Int := I.2.1
abbrev Ins.sl (I : Ins) : Nat → Bool := I.2.2.1
abbrev Ins.cp (I : Ins) : Int := I.2.2.2.1
abbrev Ins.rc (I : Ins) : Int := I.2.2.2.2
abbrev Pie : Type := Nat × (Nat → Nat) × (Nat → Nat → Int) × (Nat → Int) × (Nat → Int)
abbrev Pie.m (P : Pie) : Nat := P.1
abbrev Pie.si (P : Pie) : Nat → Nat := P.2.1
abbrev Pie.pt (P : Pie) : Nat → Nat → Int := P.2.2.1
abbrev Pie.cl (P : Pie) : Nat → Int := P.2.2.2.1
abbrev Pie.cf (P : Pie) : Nat → Int := P.2.2.2.2
section CONG
variable {Ls L2 : Nat → List Nat} {fx f2 ln l2 ch ch2 : Nat → Int} {cnt : Nat}
theorem mvF_cong (h : ∀ c, c < cnt → Ls c = L2 c ∧ ln c = l2 c) (c g n : Int) : mvF Ls ln cnt c g n = mvF L2 l2 cnt c g n := by
  unfold mvF
  by_cases q : 0 ≤ c ∧ c + 1 < cnt
  · rw [(h c.toNat (by omega)).1, (h c.toNat (by omega)).2, (h (c.toNat + 1) (by omega)).1]
  · rw [if_neg (fun w => q ⟨w.1, w.2.1⟩), if_neg (fun w => q ⟨w.1, w.2.1⟩)]
theorem bestF_cong2 (h : ∀ c, c < cnt → Ls c = L2 c ∧ ln c = l2 c) (hf : ∀ c, c < cnt → fx c = f2 c) {r1 r2 : Nat → Nat → Int} {c : Nat} {b : Int} (hr : c < cnt → ∀ g, r1 c g = r2 c g) : bestF Ls fx ln cnt r1 c b = bestF L2 f2 l2 cnt r2 c b := by
  unfold bestF
  by_cases q : cnt ≤ c
  · rw [if_pos q, if_pos q]
  · rw [if_neg q, if_neg q, (h c (by omega)).1, hf c (by omega)]
    refine congrArg Prod.fst (bst_cong _ (fun j _ => ?_))
    rw [hr (by omega) j, mvF_cong h]
theorem RSk_cong (h : ∀ c, c < cnt → Ls c = L2 c ∧ ln c = l2 c) (hf : ∀ c, c < cnt → fx c = f2 c) : ∀ (k g : Nat), k ≤ cnt → RSk Ls fx ln cnt k g = RSk L2 f2 l2 cnt k g
  | 0, g, _ => rfl
  | k + 1, g, hk => by
    have e : ∀ b, bestF Ls fx ln cnt (fun _ => RSk Ls fx ln cnt k) (cnt - k) b = bestF L2 f2 l2 cnt (fun _ => RSk L2 f2 l2 cnt k) (cnt - k) b := fun b => bestF_cong2 h hf (fun _ g => RSk_cong h hf k g (by omega))
    unfold RSk
    rw [e, RSk_cong h hf k _ (by omega), mvF_cong h, (h (cnt - (k + 1)) (by omega)).1]
theorem RS_cong (h : ∀ c, c < cnt → Ls c = L2 c ∧ ln c = l2 c) (hf : ∀ c, c < cnt → fx c = f2 c) (c g : Nat) : RS Ls fx ln cnt c g = RS L2 f2 l2 cnt c g := RSk_cong h hf _ _ (by omega)
theorem CH_cong (h : ∀ c, c < cnt → Ls c = L2 c ∧ ln c = l2 c) (hf : ∀ c, c < cnt → fx c = f2 c) : ∀ c, CH Ls fx ln cnt c = CH L2 f2 l2 cnt c
  | 0 => bestF_cong2 h hf (fun _ g => RS_cong h hf _ g)
  | c + 1 => by
    show bestF _ _ _ _ _ (c + 1) (CH Ls fx ln cnt c) = bestF _ _ _ _ _ (c + 1) (CH L2 f2 l2 cnt c)
    rw [CH_cong h hf c]
    exact bestF_cong2 h hf (fun _ g => RS_cong h hf _ g)
theorem gless_cong (h : ∀ c, c < cnt → Ls c = L2 c) : ∀ n, n ≤ cnt → gless Ls n = gless L2 n
  | 0, _ => rfl
  | n + 1, hn => by
    unfold gless
    rw [h n (by omega), gless_cong h n (by omega)]
theorem fixd_cong (h : ∀ c, c < cnt → fx c = f2 c) : ∀ n, n ≤ cnt → fixd fx n = fixd f2 n
  | 0, _ => rfl
  | n + 1, hn => by
    unfold fixd
    rw [h n (by omega), fixd_cong h n (by omega)]
theorem smF_cong (h : ∀ c, c < cnt → Ls c = L2 c ∧ ln c = l2 c) (hc : ∀ c, c < cnt → ch c = ch2 c) : ∀ n, n ≤ cnt - 1 → smF Ls ln ch cnt n = smF L2 l2 ch2 cnt n
  | 0, _ => rfl
  | n + 1, hn => by
    unfold smF
    rw [smF_cong h hc n (by omega), mvF_cong h, hc n (by omega), hc (n + 1) (by omega)]
theorem hdF_cong (h : ∀ c, c < cnt → Ls c = L2 c ∧ ln c = l2 c) (hc : ∀ c, c < cnt → ch c = ch2 c) : ∀ n, n ≤ cnt - 1 → hdF Ls ln ch cnt n = hdF L2 l2 ch2 cnt n
  | 0, _ => rfl
  | n + 1, hn => by
    unfold hdF
    rw [hdF_cong h hc n (by omega), mvF_cong h, hc n (by omega), hc (n + 1) (by omega)]
theorem totS_cong (h : ∀ c, c < cnt → Ls c = L2 c ∧ ln c = l2 c) (hf : ∀ c, c < cnt → fx c = f2 c) : totS Ls fx ln cnt = totS L2 f2 l2 cnt := by
  unfold totS
  rw [gless_cong (fun c hc => (h c hc).1) cnt (Nat.le_refl _), CH_cong h hf]
  by_cases q : (cnt : Int) = 0 ∨ 0 < gless L2 cnt
  · rw [if_pos q, if_pos q]
  · rw [if_neg q, if_neg q, (h 0 (by omega)).1, RS_cong h hf]
end CONG
def qL (I : Ins) (P : Pie) : Nat → List Nat := LT I.n I.op I.sl I.cp I.rc P.si P.pt
def qF (I : Ins) (P : Pie) : Nat → Int := fun c => numL (qL I P c) (P.cf c)
def qT (I : Ins) (P : Pie) : Int := totS (qL I P) (qF I P) P.cl P.m
def qC (I : Ins) (P : Pie) : Nat → Int := if (P.m : Int) = 0 ∨ 0 < gless (qL I P) P.m then (fun _ => -1) else CH (qL I P) (qF I P) P.cl P.m
def qSm (I : Ins) (P : Pie) : Int := if qT I P = -1 then -1 else smF (qL I P) P.cl (qC I P) P.m (P.m - 1)
def qHd (I : Ins) (P : Pie) : Int := if qT I P = -1 then -1 else (hdF (qL I P) P.cl (qC I P) P.m (P.m - 1)).1
def insS (ad : Nat → Nat) (st : Bool) : Option va_E := xO 7 [.ref (ad 1), .ref (ad 4), .ref (ad 7), .ref (ad 100), .ref (ad 200), .ref (ad 9), .ref (ad 12), vi (b2i st)]
def PlanA (G : xG) (h : PH) (ad : Nat → Nat) (B : Nat) : Prop := ∃ (Ls : Nat → List Nat) (fx ln ch : Nat → Int) (tot : Int) (cnt : Nat) (rs : Nat → Nat → Int), PR G h ad B Ls fx ln ch tot cnt rs ∧ PV fx ln ch tot cnt rs
def PlanR (G : xG) (h : PH) (ad : Nat → Nat) (I : Ins) (P : Pie) : Prop := ∃ (Ls : Nat → List Nat) (fx ln ch : Nat → Int) (rs : Nat → Nat → Int), PR G h ad 100 Ls fx ln ch (qT I P) P.m rs ∧ PV fx ln ch (qT I P) P.m rs ∧ ∀ c, c < P.m → (Ls c = qL I P c ∧ ln c = P.cl c) ∧ fx c = qF I P c ∧ ch c = qC I P c
def VoiR (G : xG) (h : PH) (ad : Nat → Nat) (I : Ins) : Prop := HH G h (ad 10) (ad 11) ∧ ∃ (p : ShS) (cls bass fm : Nat), h (ad 9) = xSh p cls bass fm (ad 10) ∧ ShV p ∧ (cls ≤ 4095 ∧ bass ≤ 11 ∧ fm ≤ 9) ∧ (cls ≠ 0 → p = shA I.n I.op I.sl I.cp I.rc cls bass fm)
def StaR (G : xG) (h : PH) (ad : Nat → Nat) (fr : Bool) (I : Ins) (P : Pie) : Prop := ∃ st : Bool, (fr = true → st = false) ∧ h (ad 0) = insS ad st ∧ PlanA G h ad 100 ∧ (st = false → PlanR G h ad I P)
def TabR (G : xG) (h : PH) (ad : Nat → Nat) (fr : Bool) (I : Ins) (P : Pie) : Prop :=
  StaR G h ad fr I P ∧ InstR G h ad 1 I.n I.op I.sl I.cp I.rc ∧ (∃ n op sl cp rc, InstR G h ad 4 n op sl cp rc) ∧ PieceR G h ad P.m P.si P.pt P.cl P.cf ∧ HH G h (ad 12) (ad 13) ∧ PlanA G h ad 200 ∧ VoiR G h ad I ∧ IV I.n I.op I.cp I.rc ∧ CV P.m P.si P.pt P.cl P.cf
/-- the object's own places -/
def own (i : Nat) : Prop := i < 14 ∨ (20 ≤ i ∧ i < 32) ∨ (40 ≤ i ∧ i < 52) ∨ (100 ≤ i ∧ i < 168) ∨ (200 ≤ i ∧ i < 268)
def frO (ad : Nat → Nat) (h h' : PH) : Prop := ∀ x, (∀ i, own i → x ≠ ad i) → h' x = h x
theorem frO.refl (ad : Nat → Nat) (h : PH) : frO ad h h := fun _ _ => rfl
theorem frO.trans {ad : Nat → Nat} {h h1 h2 : PH} (a : frO ad h h1) (b : frO ad h1 h2) : frO ad h h2 := fun x hx => (b x hx).trans (a x hx)
theorem frO.up {ad : Nat → Nat} {h h1 : PH} (a : frO ad h h1) {i : Nat} (hi : own i) (v : Option va_E) : frO ad h (va_up h1 (ad i) v) := fun x hx => (up_n (hx i hi)).trans (a x hx)
theorem frO.B {ad : Nat → Nat} {h h1 h2 : PH} (a : frO ad h h1) {B : Nat} (hB : B = 100 ∨ B = 200) (b : frB ad B h1 h2) : frO ad h h2 := fun x hx => (b x (fun i hi => hx _ (by unfold own; omega))).trans (a x hx)
theorem InstR.kept {G : xG} {h h' : PH} {ad : Nat → Nat} {j n : Nat} {op : Nat → Int} {sl : Nat → Bool} {cp rc : Int} (P : InstR G h ad j n op sl cp rc) (hk : ∀ i, i < 3 → h' (ad (j + i)) = h (ad (j + i))) : InstR G h' ad j n op sl cp rc := ⟨(hk 0 (by omega)).trans P.1, (hk 1 (by omega)).trans P.2.1, (hk 2 (by omega)).trans P.2.2⟩
theorem PieceR.kept {G : xG} {h h' : PH} {ad : Nat → Nat} {m : Nat} {si : Nat → Nat} {pt : Nat → Nat → Int} {cl cf : Nat → Int} (P : PieceR G h ad m si pt cl cf) (h7 : h' (ad 7) = h (ad 7)) (h8 : h' (ad 8) = h (ad 8)) (hc : ∀ c, c < 12 → h' (ad (20 + c)) = h (ad (20 + c)) ∧ h' (ad (40 + c)) = h (ad (40 + c))) : PieceR G h' ad m si pt cl cf := ⟨h7.trans P.1, h8.trans P.2.1, fun c q => ⟨(hc c q).1.trans (P.2.2 c q).1, (hc c q).2.trans (P.2.2 c q).2⟩⟩
theorem PlanA.kept {G : xG} {h h' : PH} {ad : Nat → Nat} {B : Nat} (P : PlanA G h ad B) (hk : ∀ i, i < 68 → h' (ad (B + i)) = h (ad (B + i))) : PlanA G h' ad B := by
  obtain ⟨Ls, fx, ln, ch, tot, cnt, rs, p, v⟩ := P
  exact ⟨Ls, fx, ln, ch, tot, cnt, rs, p.kept hk, v⟩
theorem PlanR.kept {G : xG} {h h' : PH} {ad : Nat → Nat} {I : Ins} {P : Pie} (p : PlanR G h ad I P) (hk : ∀ i, i < 68 → h' (ad (100 + i)) = h (ad (100 + i))) : PlanR G h' ad I P := by
  obtain ⟨Ls, fx, ln, ch, rs, p, v⟩ := p
  exact ⟨Ls, fx, ln, ch, rs, p.kept hk, v⟩
theorem VoiR.kept {G : xG} {h h' : PH} {ad : Nat → Nat} {I : Ins} (p : VoiR G h ad I) (hk : ∀ i, i < 3 → h' (ad (9 + i)) = h (ad (9 + i))) : VoiR G h' ad I := by
  obtain ⟨p1, p, cls, bass, fm, p2, p3⟩ := p
  exact ⟨p1.kept (hk 1 (by omega)) (hk 2 (by omega)), p, cls, bass, fm, (hk 0 (by omega)).trans p2, p3⟩
theorem StaR.kept {G : xG} {h h' : PH} {ad : Nat → Nat} {fr : Bool} {I : Ins} {P : Pie} (p : StaR G h ad fr I P) (h0 : h' (ad 0) = h (ad 0)) (hk : ∀ i, i < 68 → h' (ad (100 + i)) = h (ad (100 + i))) : StaR G h' ad fr I P := by
  obtain ⟨st, p1, p2, p3, p4⟩ := p
  exact ⟨st, p1, h0.trans p2, p3.kept hk, fun q => (p4 q).kept hk⟩
theorem StaR.weak {G : xG} {h : PH} {ad : Nat → Nat} {fr : Bool} {I : Ins} {P : Pie} (p : StaR G h ad fr I P) : StaR G h ad false I P := by
  obtain ⟨st, p1, p2⟩ := p
  exact ⟨st, fun q => absurd q (by decide), p2⟩
theorem TabR.weak {G : xG} {h : PH} {ad : Nat → Nat} {fr : Bool} {I : Ins} {P : Pie} (T : TabR G h ad fr I P) : TabR G h ad false I P := ⟨T.1.weak, T.2⟩
/-- a planner that was not touched -/
theorem TabR.instr {G : xG} {h h1 : PH} {ad : Nat → Nat} {fr : Bool} {I I2 : Ins} {P : Pie} (T : TabR G h ad fr I P) (h0 : h1 (ad 0) = insS ad true) (hI : InstR G h1 ad 1 I2.n I2.op I2.sl I2.cp I2.rc) (hS : ∃ (p : ShS) (bass fm : Nat), h1 (ad 9) = xSh p 0 bass fm (ad 10) ∧ ShV p ∧ bass ≤ 11 ∧ fm ≤ 9) (hk : ∀ i, own i → i ≠ 0 → i ≠ 1 → i ≠ 2 → i ≠ 3 → i ≠ 9 → h1 (ad i) = h (ad i)) (hV : IV I2.n I2.op I2.cp I2.rc) : TabR G h1 ad false I2 P := by
  obtain ⟨⟨st, t1, t2, t3, t4⟩, t5, ⟨n4, op4, sl4, cp4, rc4, t6⟩, t7, t8, t9, t10, t11, t12⟩ := T
  obtain ⟨p, bass, fm, s1, s2, s3, s4⟩ := hS
  have k : ∀ i, 9 < i → own i → h1 (ad i) = h (ad i) := fun i h9 ho => hk i ho (by omega) (by omega) (by omega) (by omega) (by omega)
  refine ⟨⟨true, fun q => absurd q (by decide), h0, t3.kept (fun i hi => k _ (by omega) (by unfold own; omega)), fun q => absurd q (by decide)⟩, hI, ⟨n4, op4, sl4, cp4, rc4, t6.kept (fun i hi => hk _ (by unfold own; omega) (by omega) (by omega) (by omega) (by omega) (by omega))⟩, t7.kept (hk 7 (by unfold own; omega) (by omega) (by omega) (by omega) (by omega) (by omega)) (hk 8 (by unfold own; omega) (by omega) (by omega) (by omega) (by omega) (by omega)) (fun c hc => ⟨k _ (by omega) (by unfold own; omega), k _ (by omega) (by unfold own; omega)⟩), t8.kept (k 12 (by omega) (by unfold own; omega)) (k 13 (by omega) (by unfold own; omega)), t9.kept (fun i hi => k _ (by omega) (by unfold own; omega)), ⟨t10.1.kept (k 10 (by omega) (by unfold own; omega)) (k 11 (by omega) (by unfold own; omega)), p, 0, bass, fm, s1, s2, ⟨by omega, s3, s4⟩, fun q => absurd rfl q⟩, hV, t12⟩
theorem TabR.piece {G : xG} {h h1 : PH} {ad : Nat → Nat} {fr : Bool} {I : Ins} {P P2 : Pie} (T : TabR G h ad fr I P) (h0 : h1 (ad 0) = insS ad true) (hP : PieceR G h1 ad P2.m P2.si P2.pt P2.cl P2.cf) (hk : ∀ i, own i → i ≠ 0 → i ≠ 7 → i ≠ 8 → i < 20 ∨ 52 ≤ i → h1 (ad i) = h (ad i)) (hV : CV P2.m P2.si P2.pt P2.cl P2.cf) : TabR G h1 ad false I P2 := by
  obtain ⟨⟨st, t1, t2, t3, t4⟩, t5, ⟨n4, op4, sl4, cp4, rc4, t6⟩, t7, t8, t9, t10, t11, t12⟩ := T
  have k : ∀ i, own i → i ≠ 0 → i ≠ 7 → i ≠ 8 → i < 20 ∨ 52 ≤ i → h1 (ad i) = h (ad i) := hk
  exact ⟨⟨true, fun q => absurd q (by decide), h0, t3.kept (fun i hi => k _ (by unfold own; omega) (by omega) (by omega) (by omega) (by omega)), fun q => absurd q (by decide)⟩, t5.kept (fun i hi => k _ (by unfold own; omega) (by omega) (by omega) (by omega) (by omega)), ⟨n4, op4, sl4, cp4, rc4, t6.kept (fun i hi => k _ (by unfold own; omega) (by omega) (by omega) (by omega) (by omega))⟩, hP, t8.kept (k 12 (by unfold own; omega) (by omega) (by omega) (by omega) (by omega)) (k 13 (by unfold own; omega) (by omega) (by omega) (by omega) (by omega)), t9.kept (fun i hi => k _ (by unfold own; omega) (by omega) (by omega) (by omega) (by omega)), t10.kept (fun i hi => k _ (by unfold own; omega) (by omega) (by omega) (by omega) (by omega)), t11, hV⟩
theorem TabR.plan {G : xG} {h h1 : PH} {ad : Nat → Nat} {fr : Bool} {I : Ins} {P : Pie} (T : TabR G h ad fr I P) (h0 : h1 (ad 0) = insS ad false) (hP : PlanR G h1 ad I P) (hk : ∀ i, own i → i ≠ 0 → i < 100 ∨ 168 ≤ i → h1 (ad i) = h (ad i)) : TabR G h1 ad true I P := by
  obtain ⟨⟨st, t1, t2, t3, t4⟩, t5, ⟨n4, op4, sl4, cp4, rc4, t6⟩, t7, t8, t9, t10, t11, t12⟩ := T
  have hA : PlanA G h1 ad 100 := by
    obtain ⟨Ls, fx, ln, ch, rs, p, v, _⟩ := hP
    exact ⟨Ls, fx, ln, ch, _, _, rs, p, v⟩
  have k : ∀ i, own i → i ≠ 0 → i < 100 ∨ 168 ≤ i → h1 (ad i) = h (ad i) := hk
  exact ⟨⟨false, fun _ => rfl, h0, hA, fun _ => hP⟩, t5.kept (fun i hi => k _ (by unfold own; omega) (by omega) (by omega)), ⟨n4, op4, sl4, cp4, rc4, t6.kept (fun i hi => k _ (by unfold own; omega) (by omega) (by omega))⟩, t7.kept (k 7 (by unfold own; omega) (by omega) (by omega)) (k 8 (by unfold own; omega) (by omega) (by omega)) (fun c hc => ⟨k _ (by unfold own; omega) (by omega) (by omega), k _ (by unfold own; omega) (by omega) (by omega)⟩), t8.kept (k 12 (by unfold own; omega) (by omega) (by omega)) (k 13 (by unfold own; omega) (by omega) (by omega)), t9.kept (fun i hi => k _ (by unfold own; omega) (by omega) (by omega)), t10.kept (fun i hi => k _ (by unfold own; omega) (by omega) (by omega)), t11, t12⟩
theorem TabR.trial {G : xG} {h h1 : PH} {ad : Nat → Nat} {fr : Bool} {I : Ins} {P : Pie} (T : TabR G h ad fr I P) (hI : ∃ n op sl cp rc, InstR G h1 ad 4 n op sl cp rc) (hP : PlanA G h1 ad 200) (hk : ∀ i, own i → i < 200 → i ≠ 4 → i ≠ 5 → i ≠ 6 → h1 (ad i) = h (ad i)) : TabR G h1 ad fr I P := by
  obtain ⟨t0, t5, -, t7, t8, -, t10, t11, t12⟩ := T
  have k : ∀ i, own i → i < 200 → i ≠ 4 → i ≠ 5 → i ≠ 6 → h1 (ad i) = h (ad i) := hk
  exact ⟨t0.kept (k 0 (by unfold own; omega) (by omega) (by omega) (by omega) (by omega)) (fun i hi => k _ (by unfold own; omega) (by omega) (by omega) (by omega) (by omega)), t5.kept (fun i hi => k _ (by unfold own; omega) (by omega) (by omega) (by omega) (by omega)), hI, t7.kept (k 7 (by unfold own; omega) (by omega) (by omega) (by omega) (by omega)) (k 8 (by unfold own; omega) (by omega) (by omega) (by omega) (by omega)) (fun c hc => ⟨k _ (by unfold own; omega) (by omega) (by omega) (by omega) (by omega), k _ (by unfold own; omega) (by omega) (by omega) (by omega) (by omega)⟩), t8.kept (k 12 (by unfold own; omega) (by omega) (by omega) (by omega) (by omega)) (k 13 (by unfold own; omega) (by omega) (by omega) (by omega) (by omega)), hP, t10.kept (fun i hi => k _ (by unfold own; omega) (by omega) (by omega) (by omega) (by omega)), t11, t12⟩
theorem TabR.small {G : xG} {h h1 : PH} {ad : Nat → Nat} {fr : Bool} {I : Ins} {P : Pie} (T : TabR G h ad fr I P) (hH : HH G h1 (ad 12) (ad 13)) (hV : VoiR G h1 ad I) (hk : ∀ i, own i → i < 9 ∨ 14 ≤ i → h1 (ad i) = h (ad i)) : TabR G h1 ad fr I P := by
  obtain ⟨t0, t5, ⟨n4, op4, sl4, cp4, rc4, t6⟩, t7, t8, t9, t10, t11, t12⟩ := T
  have k : ∀ i, own i → i < 9 ∨ 14 ≤ i → h1 (ad i) = h (ad i) := hk
  exact ⟨t0.kept (k 0 (by unfold own; omega) (by omega)) (fun i hi => k _ (by unfold own; omega) (by omega)), t5.kept (fun i hi => k _ (by unfold own; omega) (by omega)), ⟨n4, op4, sl4, cp4, rc4, t6.kept (fun i hi => k _ (by unfold own; omega) (by omega))⟩, t7.kept (k 7 (by unfold own; omega) (by omega)) (k 8 (by unfold own; omega) (by omega)) (fun c hc => ⟨k _ (by unfold own; omega) (by omega), k _ (by unfold own; omega) (by omega)⟩), hH, t9.kept (fun i hi => k _ (by unfold own; omega) (by omega)), hV, t11, t12⟩
theorem TabR.plR {G : xG} {h : PH} {ad : Nat → Nat} {I : Ins} {P : Pie} (T : TabR G h ad true I P) : h (ad 0) = insS ad false ∧ PlanR G h ad I P := by
  obtain ⟨⟨st, t1, t2, t3, t4⟩, -⟩ := T
  have e := t1 rfl
  subst e
  exact ⟨t2, t4 rfl⟩
/-- what read and solve leave in a planner -/
theorem PlanR.of {G : xG} {h : PH} {ad : Nat → Nat} {I : Ins} {P : Pie} {Ls : Nat → List Nat} {fx ln ch : Nat → Int} {rs : Nat → Nat → Int} (p : PR G h ad 100 (upk P.m (qL I P) Ls) (upk P.m (qF I P) fx) (upk P.m P.cl ln) (chS (upk P.m (qL I P) Ls) (upk P.m (qF I P) fx) (upk P.m P.cl ln) ch P.m) (totS (upk P.m (qL I P) Ls) (upk P.m (qF I P) fx) (upk P.m P.cl ln) P.m) P.m rs) (v : PV (upk P.m (qF I P) fx) (upk P.m P.cl ln) (chS (upk P.m (qL I P) Ls) (upk P.m (qF I P) fx) (upk P.m P.cl ln) ch P.m) (totS (upk P.m (qL I P) Ls) (upk P.m (qF I P) fx) (upk P.m P.cl ln) P.m) P.m rs) : PlanR G h ad I P := by
  have h1 : ∀ c, c < P.m → upk P.m (qL I P) Ls c = qL I P c ∧ upk P.m P.cl ln c = P.cl c := fun c hc => ⟨upk_lt _ _ hc, upk_lt _ _ hc⟩
  have h2 : ∀ c, c < P.m → upk P.m (qF I P) fx c = qF I P c := fun c hc => upk_lt _ _ hc
  have e1 : totS (upk P.m (qL I P) Ls) (upk P.m (qF I P) fx) (upk P.m P.cl ln) P.m = qT I P := totS_cong h1 h2
  rw [e1] at p v
  refine ⟨_, _, _, _, rs, p, v, fun c hc => ⟨h1 c hc, h2 c hc, ?_⟩⟩
  unfold chS qC
  rw [upk_lt _ _ hc, gless_cong (fun c hc => (h1 c hc).1) _ (Nat.le_refl _)]
  by_cases q : (P.m : Int) = 0 ∨ 0 < gless (qL I P) P.m
  · rw [if_pos q, if_pos q]
  · rw [if_neg q, if_neg q, CH_cong h1 h2]
theorem totU {I : Ins} {P : Pie} {Ls : Nat → List Nat} {fx ln : Nat → Int} : totS (upk P.m (qL I P) Ls) (upk P.m (qF I P) fx) (upk P.m P.cl ln) P.m = qT I P := totS_cong (fun c hc => ⟨upk_lt _ _ hc, upk_lt _ _ hc⟩) (fun c hc => upk_lt _ _ hc)
