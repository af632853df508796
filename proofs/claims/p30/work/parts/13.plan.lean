/-! A planner in the heap; the plan as numbers. -/
theorem adne {ad : Nat → Nat} (hj : ∀ i j, i < 300 → j < 300 → ad i = ad j → i = j) {i j : Nat} (h : i ≠ j) (h1 : i < 300) (h2 : j < 300) : ad i ≠ ad j := fun q => h (hj i j h1 h2 q)
def PR (G : xG) (h : PH) (ad : Nat → Nat) (B : Nat) (Ls : Nat → List Nat) (fx ln ch : Nat → Int) (tot : Int) (cnt : Nat) (rs : Nat → Nat → Int) : Prop :=
  h (ad B) = xO 5 [.ref (ad (B + 1)), .ref (ad (B + 2)), .ref (ad (B + 3)), vi tot, .ref (ad (B + 4)), .ref (ad (B + 5)), .ref (ad (B + 6)), vi (cnt : Int)] ∧
  h (ad (B + 1)) = xQ G 5 12 (fun c => some (ad (B + 8 + c))) ∧ h (ad (B + 2)) = xI G 12 fx ∧ h (ad (B + 3)) = xI G 12 ch ∧ h (ad (B + 4)) = xI G 12 ln ∧ h (ad (B + 5)) = xQ G 3 12 (fun c => some (ad (B + 56 + c))) ∧ HH G h (ad (B + 6)) (ad (B + 7)) ∧
  (∀ c, c < 12 → HG G h (ad (B + 8 + c)) (ad (B + 20 + c)) (ad (B + 32 + c)) (ad (B + 44 + c)) (Ls c)) ∧ ∀ c, c < 12 → h (ad (B + 56 + c)) = xI G 30 (rs c)
/-- the numbers of a planner are small -/
def PV (fx ln ch : Nat → Int) (tot : Int) (cnt : Nat) (rs : Nat → Nat → Int) : Prop := (∀ c, bd (fx c) ∧ bd (ln c) ∧ bd (ch c)) ∧ bd tot ∧ cnt ≤ 12 ∧ ∀ c g, -1000000 ≤ rs c g ∧ rs c g ≤ 1000000
theorem PR.kept {G : xG} {h h' : PH} {ad : Nat → Nat} {B : Nat} {Ls : Nat → List Nat} {fx ln ch : Nat → Int} {tot : Int} {cnt : Nat} {rs : Nat → Nat → Int} (P : PR G h ad B Ls fx ln ch tot cnt rs) (hk : ∀ i, i < 68 → h' (ad (B + i)) = h (ad (B + i))) : PR G h' ad B Ls fx ln ch tot cnt rs := by
  obtain ⟨p1, p2, p3, p4, p5, p6, p7, p8, p9⟩ := P
  refine ⟨(hk 0 (by omega)).trans p1, (hk 1 (by omega)).trans p2, (hk 2 (by omega)).trans p3, (hk 3 (by omega)).trans p4, (hk 4 (by omega)).trans p5, (hk 5 (by omega)).trans p6, p7.kept (hk 6 (by omega)) (hk 7 (by omega)), fun c hc => (p8 c hc).kept ?_ ?_ ?_ ?_, fun c hc => ?_⟩
  · have := hk (8 + c) (by omega); rwa [← Nat.add_assoc] at this
  · have := hk (20 + c) (by omega); rwa [← Nat.add_assoc] at this
  · have := hk (32 + c) (by omega); rwa [← Nat.add_assoc] at this
  · have := hk (44 + c) (by omega); rwa [← Nat.add_assoc] at this
  · have := hk (56 + c) (by omega); rw [← Nat.add_assoc] at this
    exact this.trans (p9 c hc)
theorem HG.obj {G : xG} {h : PH} {a b e l : Nat} {L : List Nat} (H : HG G h a b e l L) : h a = xO 1 [.ref b, .ref e, .ref l, vi ((L.length : Nat) : Int)] := by
  obtain ⟨_, _, _, h1, -⟩ := H
  exact h1
theorem HG.len {G : xG} {h : PH} {a b e l : Nat} {L : List Nat} (H : HG G h a b e l L) : L.length ≤ 30 := by
  obtain ⟨_, _, _, -, -, -, -, h5⟩ := H
  exact h5.1
theorem HG.small {G : xG} {h : PH} {a b e l : Nat} {L : List Nat} (H : HG G h a b e l L) : ∀ c ∈ L, c < 16777216 := by
  obtain ⟨_, _, _, -, -, -, -, h5⟩ := H
  exact h5.2.2.2
theorem getD_lt {L : List Nat} (h : ∀ c ∈ L, c < 16777216) (j : Nat) : L.getD j 0 < 16777216 := by
  rw [List.getD_eq_getElem?_getD]
  cases q : L[j]? with
  | none => simp
  | some x => exact h x (List.mem_of_getElem? q)
/-- what bitCount answers -/
def bci (n : Nat) : Int := (bc (I (n : Int))).toInt
theorem bci_rg (n : Nat) : 0 ≤ bci n ∧ bci n ≤ 63 ∧ bc (I (n : Int)) = I (bci n) := by
  obtain ⟨z, h1, h2, h3⟩ := bc_rg (I (n : Int))
  have e : bci n = z := by unfold bci; rw [h1, I_toInt ⟨by omega, by omega⟩]
  rw [e]
  exact ⟨h2, h3, h1⟩
/-- what a move takes, between two codes -/
def mvG (a b : Nat) (ln : Int) : Int := if hLow (fr a) = 0 ∨ hLow (fr b) = 0 then 0 else (if ln = 1 then 6 else 3) * (if 0 ≤ hLow (fr b) - hLow (fr a) then hLow (fr b) - hLow (fr a) else 0 - (hLow (fr b) - hLow (fr a))) + bci (np a b)
theorem mvG_rg (a b : Nat) (ln : Int) : 0 ≤ mvG a b ln ∧ mvG a b ln ≤ 700 := by
  have h1 := hrg (fr_fbd a)
  have h2 := hrg (fr_fbd b)
  have h3 := bci_rg (np a b)
  unfold mvG
  by_cases c1 : hLow (fr a) = 0 ∨ hLow (fr b) = 0
  · rw [if_pos c1]; omega
  · rw [if_neg c1]
    by_cases c2 : ln = 1 <;> by_cases c3 : 0 ≤ hLow (fr b) - hLow (fr a) <;> simp only [c2, c3, if_true, if_false] <;> omega
def mvF (Ls : Nat → List Nat) (ln : Nat → Int) (cnt : Nat) (c g n : Int) : Int :=
  if 0 ≤ c ∧ c + 1 < cnt ∧ (0 ≤ g ∧ g < (Ls c.toNat).length) ∧ 0 ≤ n ∧ n < (Ls (c.toNat + 1)).length then mvG ((Ls c.toNat).getD g.toNat 0) ((Ls (c.toNat + 1)).getD n.toNat 0) (ln c.toNat) else 0
theorem mvF_rg (Ls : Nat → List Nat) (ln : Nat → Int) (cnt : Nat) (c g n : Int) : 0 ≤ mvF Ls ln cnt c g n ∧ mvF Ls ln cnt c g n ≤ 700 := by
  unfold mvF
  split
  · exact mvG_rg _ _ _
  · omega
/-- the best of n: the first one with the least cost, of those that are allowed -/
def bstS (fx : Int) (cost : Int) (n : Nat) (p : Int × Int) : Int × Int := if fx ≠ -1 ∧ fx ≠ n then p else if p.1 = -1 ∨ cost < p.2 then ((n : Int), cost) else p
def bst (fx : Int) (cost : Nat → Int) : Nat → Int × Int
  | 0 => (-1, 0)
  | n + 1 => bstS fx (cost n) n (bst fx cost n)
theorem bst_rg (fx : Int) (cost : Nat → Int) : ∀ n, -1 ≤ (bst fx cost n).1 ∧ (bst fx cost n).1 < n
  | 0 => by simp [bst]
  | n + 1 => by
    have h := bst_rg fx cost n
    unfold bst bstS
    by_cases c : fx ≠ -1 ∧ fx ≠ n
    · rw [if_pos c]; omega
    · rw [if_neg c]
      by_cases d : (bst fx cost n).1 = -1 ∨ cost n < (bst fx cost n).2
      · rw [if_pos d]; dsimp only; omega
      · rw [if_neg d]; omega
theorem bst_cost {fx : Int} {cost : Nat → Int} {lo hi : Int} (h0 : lo ≤ 0 ∧ 0 ≤ hi) (hc : ∀ n, lo ≤ cost n ∧ cost n ≤ hi) : ∀ n, lo ≤ (bst fx cost n).2 ∧ (bst fx cost n).2 ≤ hi
  | 0 => h0
  | n + 1 => by
    have h := bst_cost (fx := fx) h0 hc n
    unfold bst bstS
    by_cases c : fx ≠ -1 ∧ fx ≠ n
    · rw [if_pos c]; exact h
    · rw [if_neg c]
      by_cases d : (bst fx cost n).1 = -1 ∨ cost n < (bst fx cost n).2
      · rw [if_pos d]; exact hc n
      · rw [if_neg d]; exact h
theorem bst_cong {fx : Int} {c1 c2 : Nat → Int} : ∀ n, (∀ j, j < n → c1 j = c2 j) → bst fx c1 n = bst fx c2 n
  | 0, _ => rfl
  | n + 1, h => by
    show bstS fx (c1 n) n (bst fx c1 n) = bstS fx (c2 n) n (bst fx c2 n)
    rw [h n (Nat.lt_succ_self n), bst_cong n (fun j hj => h j (by omega))]
def bestF (Ls : Nat → List Nat) (fx ln : Nat → Int) (cnt : Nat) (rs : Nat → Nat → Int) (c : Nat) (before : Int) : Int := if cnt ≤ c then -1 else (bst (fx c) (fun g => rs c g + mvF Ls ln cnt ((c : Int) - 1) before g) (Ls c).length).1
def gless (Ls : Nat → List Nat) : Nat → Int
  | 0 => 0
  | n + 1 => if ((Ls n).length : Int) = 0 then gless Ls n + 1 else gless Ls n
theorem gless_rg (Ls : Nat → List Nat) : ∀ n, 0 ≤ gless Ls n ∧ gless Ls n ≤ n
  | 0 => by simp [gless]
  | n + 1 => by
    have := gless_rg Ls n
    unfold gless
    split <;> omega
def fixd (fx : Nat → Int) : Nat → Int
  | 0 => 0
  | n + 1 => if fx n = -1 then fixd fx n else fixd fx n + 1
