/-! The plan, reckoned from the last chord back. -/
theorem bestF_cong {Ls : Nat → List Nat} {fx ln : Nat → Int} {cnt : Nat} {r1 r2 : Nat → Nat → Int} {c : Nat} {b : Int} (h : c < cnt → ∀ g, g < (Ls c).length → r1 c g = r2 c g) : bestF Ls fx ln cnt r1 c b = bestF Ls fx ln cnt r2 c b := by
  unfold bestF
  by_cases q : cnt ≤ c
  · rw [if_pos q, if_pos q]
  · rw [if_neg q, if_neg q, bst_cong (c2 := fun g => r2 c g + mvF Ls ln cnt ((c : Int) - 1) b g) _ (fun j hj => by show r1 c j + _ = r2 c j + _; rw [h (by omega) j hj])]
theorem bestF_rg (Ls : Nat → List Nat) (fx ln : Nat → Int) (cnt : Nat) (rs : Nat → Nat → Int) (c : Nat) (b : Int) : -1 ≤ bestF Ls fx ln cnt rs c b ∧ (bestF Ls fx ln cnt rs c b = -1 ∨ c < cnt ∧ bestF Ls fx ln cnt rs c b < (Ls c).length) := by
  unfold bestF
  split
  · omega
  · have := bst_rg (fx c) (fun g => rs c g + mvF Ls ln cnt ((c : Int) - 1) b g) (Ls c).length
    omega
def RSk (Ls : Nat → List Nat) (fx ln : Nat → Int) (cnt : Nat) : Nat → Nat → Int
  | 0, _ => 0
  | k + 1, g => hEff (fr ((Ls (cnt - (k + 1))).getD g 0)) + (if bestF Ls fx ln cnt (fun _ => RSk Ls fx ln cnt k) (cnt - k) (g : Int) = -1 then 0 else RSk Ls fx ln cnt k (bestF Ls fx ln cnt (fun _ => RSk Ls fx ln cnt k) (cnt - k) (g : Int)).toNat + mvF Ls ln cnt ((cnt - (k + 1) : Nat) : Int) (g : Int) (bestF Ls fx ln cnt (fun _ => RSk Ls fx ln cnt k) (cnt - k) (g : Int)))
theorem RSk_rg (Ls : Nat → List Nat) (fx ln : Nat → Int) (cnt : Nat) : ∀ (k g : Nat), -6 * (k : Int) ≤ RSk Ls fx ln cnt k g ∧ RSk Ls fx ln cnt k g ≤ 1000 * (k : Int)
  | 0, g => by simp [RSk]
  | k + 1, g => by
    unfold RSk
    have h1 := hEff_rg (fr_fbd ((Ls (cnt - (k + 1))).getD g 0))
    have h2 := RSk_rg Ls fx ln cnt k (bestF Ls fx ln cnt (fun _ => RSk Ls fx ln cnt k) (cnt - k) (g : Int)).toNat
    have h3 := mvF_rg Ls ln cnt ((cnt - (k + 1) : Nat) : Int) (g : Int) (bestF Ls fx ln cnt (fun _ => RSk Ls fx ln cnt k) (cnt - k) (g : Int))
    split <;> omega
def RS (Ls : Nat → List Nat) (fx ln : Nat → Int) (cnt c : Nat) : Nat → Int := RSk Ls fx ln cnt (cnt - c)
theorem RS_rg (Ls : Nat → List Nat) (fx ln : Nat → Int) {cnt : Nat} (h : cnt ≤ 12) (c g : Nat) : -100 ≤ RS Ls fx ln cnt c g ∧ RS Ls fx ln cnt c g ≤ 12000 := by
  have := RSk_rg Ls fx ln cnt (cnt - c) g
  unfold RS
  omega
theorem RS_c {Ls : Nat → List Nat} {fx ln : Nat → Int} {cnt c : Nat} (h : c < cnt) (g : Nat) : RS Ls fx ln cnt c g = hEff (fr ((Ls c).getD g 0)) + (if bestF Ls fx ln cnt (RS Ls fx ln cnt) (c + 1) (g : Int) = -1 then 0 else RS Ls fx ln cnt (c + 1) (bestF Ls fx ln cnt (RS Ls fx ln cnt) (c + 1) (g : Int)).toNat + mvF Ls ln cnt (c : Int) (g : Int) (bestF Ls fx ln cnt (RS Ls fx ln cnt) (c + 1) (g : Int))) := by
  obtain ⟨k, hk⟩ : ∃ k, cnt - c = k + 1 := ⟨cnt - c - 1, by omega⟩
  have e1 : cnt - (k + 1) = c := by omega
  have e2 : cnt - k = c + 1 := by omega
  have e3 : RS Ls fx ln cnt (c + 1) = RSk Ls fx ln cnt k := by unfold RS; rw [show cnt - (c + 1) = k by omega]
  have e4 : bestF Ls fx ln cnt (RS Ls fx ln cnt) (c + 1) (g : Int) = bestF Ls fx ln cnt (fun _ => RSk Ls fx ln cnt k) (cnt - k) (g : Int) := by
    rw [e2]
    exact bestF_cong (fun _ j _ => by rw [e3])
  rw [e4, e3]
  show RSk Ls fx ln cnt (cnt - c) g = _
  rw [hk]
  conv => lhs; unfold RSk
  rw [e1]
def CH (Ls : Nat → List Nat) (fx ln : Nat → Int) (cnt : Nat) : Nat → Int
  | 0 => bestF Ls fx ln cnt (RS Ls fx ln cnt) 0 (-1)
  | c + 1 => bestF Ls fx ln cnt (RS Ls fx ln cnt) (c + 1) (CH Ls fx ln cnt c)
theorem CH_bd (Ls : Nat → List Nat) (fx ln : Nat → Int) {cnt : Nat} (hl : ∀ c, (Ls c).length ≤ 30) : ∀ c, -1 ≤ CH Ls fx ln cnt c ∧ CH Ls fx ln cnt c ≤ 30 := by
  intro c
  cases c with
  | zero => have := bestF_rg Ls fx ln cnt (RS Ls fx ln cnt) 0 (-1); have := hl 0; unfold CH; omega
  | succ c => have := bestF_rg Ls fx ln cnt (RS Ls fx ln cnt) (c + 1) (CH Ls fx ln cnt c); have := hl (c + 1); unfold CH; omega
def canS (Ls : Nat → List Nat) (cnt : Nat) : Prop := ¬ (cnt : Int) = 0 ∧ gless Ls cnt ≤ 0
def chS (Ls : Nat → List Nat) (fx ln ch : Nat → Int) (cnt : Nat) : Nat → Int := upk cnt (if (cnt : Int) = 0 ∨ 0 < gless Ls cnt then (fun _ => -1) else CH Ls fx ln cnt) ch
def totS (Ls : Nat → List Nat) (fx ln : Nat → Int) (cnt : Nat) : Int := if (cnt : Int) = 0 ∨ 0 < gless Ls cnt then -1 else if 0 ≤ CH Ls fx ln cnt 0 ∧ CH Ls fx ln cnt 0 < ((Ls 0).length : Int) then RS Ls fx ln cnt 0 (CH Ls fx ln cnt 0).toNat else -1
theorem PR.row {G : xG} {h : PH} {ad : Nat → Nat} {B : Nat} {Ls : Nat → List Nat} {fx ln ch : Nat → Int} {tot : Int} {cnt : Nat} {rs : Nat → Nat → Int} (hj : ∀ i j, i < 300 → j < 300 → ad i = ad j → i = j) (hB : B = 100 ∨ B = 200) (P : PR G h ad B Ls fx ln ch tot cnt rs) {c : Nat} (hc : c < 12) (r : Nat → Int) : PR G (va_up h (ad (B + 56 + c)) (xI G 30 r)) ad B Ls fx ln ch tot cnt (va_up rs c r) := by
  obtain ⟨p1, p2, p3, p4, p5, p6, p7, p8, p9⟩ := P
  have n : ∀ i, i < 300 → i ≠ B + 56 + c → va_up h (ad (B + 56 + c)) (xI G 30 r) (ad i) = h (ad i) := fun i hi hn => up_n (adne hj hn hi (by omega))
  refine ⟨(n _ (by omega) (by omega)).trans p1, (n _ (by omega) (by omega)).trans p2, (n _ (by omega) (by omega)).trans p3, (n _ (by omega) (by omega)).trans p4, (n _ (by omega) (by omega)).trans p5, (n _ (by omega) (by omega)).trans p6, p7.kept (n _ (by omega) (by omega)) (n _ (by omega) (by omega)), fun d hd => (p8 d hd).kept (n _ (by omega) (by omega)) (n _ (by omega) (by omega)) (n _ (by omega) (by omega)) (n _ (by omega) (by omega)), fun d hd => ?_⟩
  by_cases q : d = c
  · subst q; rw [up_s, up_s]
  · rw [up_n q, n _ (by omega) (by omega)]; exact p9 d hd
theorem PR.chs {G : xG} {h : PH} {ad : Nat → Nat} {B : Nat} {Ls : Nat → List Nat} {fx ln ch : Nat → Int} {tot : Int} {cnt : Nat} {rs : Nat → Nat → Int} (hj : ∀ i j, i < 300 → j < 300 → ad i = ad j → i = j) (hB : B = 100 ∨ B = 200) (P : PR G h ad B Ls fx ln ch tot cnt rs) (r : Nat → Int) : PR G (va_up h (ad (B + 3)) (xI G 12 r)) ad B Ls fx ln r tot cnt rs := by
  obtain ⟨p1, p2, p3, p4, p5, p6, p7, p8, p9⟩ := P
  have n : ∀ i, i < 300 → i ≠ B + 3 → va_up h (ad (B + 3)) (xI G 12 r) (ad i) = h (ad i) := fun i hi hn => up_n (adne hj hn hi (by omega))
  exact ⟨(n _ (by omega) (by omega)).trans p1, (n _ (by omega) (by omega)).trans p2, (n _ (by omega) (by omega)).trans p3, up_s, (n _ (by omega) (by omega)).trans p5, (n _ (by omega) (by omega)).trans p6, p7.kept (n _ (by omega) (by omega)) (n _ (by omega) (by omega)), fun d hd => (p8 d hd).kept (n _ (by omega) (by omega)) (n _ (by omega) (by omega)) (n _ (by omega) (by omega)) (n _ (by omega) (by omega)), fun d hd => (n _ (by omega) (by omega)).trans (p9 d hd)⟩
theorem PR.fixs {G : xG} {h : PH} {ad : Nat → Nat} {B : Nat} {Ls : Nat → List Nat} {fx ln ch : Nat → Int} {tot : Int} {cnt : Nat} {rs : Nat → Nat → Int} (hj : ∀ i j, i < 300 → j < 300 → ad i = ad j → i = j) (hB : B = 100 ∨ B = 200) (P : PR G h ad B Ls fx ln ch tot cnt rs) (r : Nat → Int) : PR G (va_up h (ad (B + 2)) (xI G 12 r)) ad B Ls r ln ch tot cnt rs := by
  obtain ⟨p1, p2, p3, p4, p5, p6, p7, p8, p9⟩ := P
  have n : ∀ i, i < 300 → i ≠ B + 2 → va_up h (ad (B + 2)) (xI G 12 r) (ad i) = h (ad i) := fun i hi hn => up_n (adne hj hn hi (by omega))
  exact ⟨(n _ (by omega) (by omega)).trans p1, (n _ (by omega) (by omega)).trans p2, up_s, (n _ (by omega) (by omega)).trans p4, (n _ (by omega) (by omega)).trans p5, (n _ (by omega) (by omega)).trans p6, p7.kept (n _ (by omega) (by omega)) (n _ (by omega) (by omega)), fun d hd => (p8 d hd).kept (n _ (by omega) (by omega)) (n _ (by omega) (by omega)) (n _ (by omega) (by omega)) (n _ (by omega) (by omega)), fun d hd => (n _ (by omega) (by omega)).trans (p9 d hd)⟩
theorem PR.tots {G : xG} {h : PH} {ad : Nat → Nat} {B : Nat} {Ls : Nat → List Nat} {fx ln ch : Nat → Int} {tot : Int} {cnt : Nat} {rs : Nat → Nat → Int} (hj : ∀ i j, i < 300 → j < 300 → ad i = ad j → i = j) (hB : B = 100 ∨ B = 200) (P : PR G h ad B Ls fx ln ch tot cnt rs) (t : Int) (m : Nat) : PR G (va_up h (ad B) (xO 5 [.ref (ad (B + 1)), .ref (ad (B + 2)), .ref (ad (B + 3)), vi t, .ref (ad (B + 4)), .ref (ad (B + 5)), .ref (ad (B + 6)), vi (m : Int)])) ad B Ls fx ln ch t m rs := by
  obtain ⟨p1, p2, p3, p4, p5, p6, p7, p8, p9⟩ := P
  have n : ∀ i v, i < 300 → i ≠ B → va_up h (ad B) v (ad i) = h (ad i) := fun i v hi hn => up_n (adne hj hn hi (by omega))
  exact ⟨up_s, (n _ _ (by omega) (by omega)).trans p2, (n _ _ (by omega) (by omega)).trans p3, (n _ _ (by omega) (by omega)).trans p4, (n _ _ (by omega) (by omega)).trans p5, (n _ _ (by omega) (by omega)).trans p6, p7.kept (n _ _ (by omega) (by omega)) (n _ _ (by omega) (by omega)), fun d hd => (p8 d hd).kept (n _ _ (by omega) (by omega)) (n _ _ (by omega) (by omega)) (n _ _ (by omega) (by omega)) (n _ _ (by omega) (by omega)), fun d hd => (n _ _ (by omega) (by omega)).trans (p9 d hd)⟩
