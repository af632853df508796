/-! Neck.go, any string. -/
theorem aSk_sl {p : Nat → Int} {Ln : Nat} {op : Nat → Int} {sl : Nat → Bool} {cp : Int} {rem s met c : Nat} (h : sl s = true) : ∀ k, aSk p Ln op sl cp rem s met c k = []
  | 0 => rfl
  | k + 1 => by
    rw [aSk_s, aSk_sl h k, if_neg (fun q => by have := q.1; rw [h] at this; cases this)]
    rfl
theorem aSk_len {p : Nat → Int} {Ln : Nat} {op : Nat → Int} {sl : Nat → Bool} {cp : Int} {rem s met c : Nat} : ∀ k, (aSk p Ln op sl cp rem s met c k).length ≤ Bdk Ln rem met k
  | 0 => Nat.zero_le _
  | k + 1 => by
    have ih := aSk_len (p := p) (Ln := Ln) (op := op) (sl := sl) (cp := cp) (rem := rem) (s := s) (met := met) (c := c) k
    rw [aSk_s, Bdk_s, List.length_append]
    by_cases b : okS p op sl cp s k met
    · rw [if_pos b, if_neg b.2.2.2]
      have := aS_len p Ln op sl cp rem (s + 1) (met + 2 ^ k) (wi c s (p k - op s - cp))
      omega
    · rw [if_neg b]
      exact Nat.le_trans ih (Nat.le_add_right _ _)
theorem Bdk_mono (Ln rem met k : Nat) : ∀ d, Bdk Ln rem met k ≤ Bdk Ln rem met (k + d)
  | 0 => Nat.le_refl _
  | d + 1 => by
    have := Bdk_mono Ln rem met k d
    rw [show k + (d + 1) = (k + d) + 1 by omega, Bdk_s]
    omega
theorem cdG_wi {n c s : Nat} {f : Int} (hn : n ≤ 6) (hs : s < n) (hc : cdG n c) (h0 : fr c s = -1) (hf : 0 ≤ f ∧ f ≤ 12) : cdG n (wi c s f) := by
  refine ⟨wi_lt hc.1 (by omega) ⟨hf.1, by omega⟩, fun t ht => ?_, fun t h1 h2 => ?_⟩
  · rw [fr_wi (by omega) ht ⟨hf.1, by omega⟩ h0]
    split
    · exact hf.2
    · exact hc.2.1 t ht
  · rw [fr_wi (by omega) h2 ⟨hf.1, by omega⟩ h0, if_neg (by omega)]
    exact hc.2.2 t h1 h2
theorem aS_cd {p : Nat → Int} {Ln n : Nat} {op : Nat → Int} {sl : Nat → Bool} {cp : Int} (hn : n ≤ 6) (hcp : 0 ≤ cp) : ∀ rem s met c, s + rem ≤ n → cdG n c → (∀ t, s ≤ t → t < 6 → fr c t = -1) → ∀ x ∈ aS p Ln op sl cp rem s met c, cdG n x
  | 0, s, met, c, _, hc, _, x, hx => by
    unfold aS at hx
    by_cases h : met = 2 ^ Ln - 1
    · rw [if_pos h] at hx
      rw [List.mem_singleton.mp hx]
      exact hc
    · rw [if_neg h] at hx
      cases hx
  | rem + 1, s, met, c, hs, hc, h0, x, hx => by
    unfold aS at hx
    rcases List.mem_append.mp hx with h | h
    · exact aS_cd hn hcp rem (s + 1) met c (by omega) hc (fun t h1 h2 => h0 t (by omega) h2) x h
    · obtain ⟨k, -, h⟩ := List.mem_flatMap.mp h
      by_cases ok : okS p op sl cp s k met
      · rw [if_pos ok] at h
        have hf : 0 ≤ p k - op s - cp ∧ p k - op s - cp ≤ 12 := ⟨ok.2.1, by have := ok.2.2.1; omega⟩
        refine aS_cd hn hcp rem (s + 1) _ _ (by omega) (cdG_wi hn (by omega) hc (h0 s (Nat.le_refl _) (by omega)) hf) (fun t h1 h2 => ?_) x h
        rw [fr_wi (by omega) h2 ⟨hf.1, by omega⟩ (h0 s (Nat.le_refl _) (by omega)), if_neg (by omega)]
        exact h0 t (by omega) h2
      · rw [if_neg ok] at h
        cases h
def goV (Ln n : Nat) (p op : Nat → Int) (cp rc : Int) : Prop := n ≤ 6 ∧ Ln < 5 ∧ (0 ≤ cp ∧ cp ≤ 12) ∧ (0 ≤ rc ∧ rc ≤ 100) ∧ (∀ t, t < n → 0 ≤ op t ∧ op t ≤ 1000) ∧ ∀ k, k < Ln → 0 ≤ p k ∧ p k ≤ 1000
def GoOK (G : xG) (rem : Nat) : Prop := ∀ {h : PH} {nk m sa oa sl ca la fa fo ra ga n Ln met c s : Nat} {dr cp rc : Int} {p op g : Nat → Int} {slk : Nat → Bool} {L : List Nat}, h nk = xO 8 [.ref m, .ref sa, vi dr, .ref oa, .ref sl, vi cp, vi rc, .ref ca, .ref la, .ref fa, .ref fo] → h oa = xI G n op → h sl = xZ G 6 slk → h ra = xI G Ln p → h ga = xI G n g → ga ≠ oa ∧ ga ≠ ra ∧ ga ≠ sl → FoundR G h ga fo n L → (∀ x ∈ L, cdG n x) → L.length + Bd Ln rem met ≤ 24 → goV Ln n p op cp rc → s + rem = n → met < 2 ^ Ln → (∀ t, t < s → g t = fr c t) → cdG n c → (∀ t, s ≤ t → t < 6 → fr c t = -1) →
  Cn G m_Neck_go (8 + rem) (Bd Ln rem met * 110) (Bd Ln rem met * 700) [.ref nk, .ref ra, .ref ga, vi (s : Int), vi (met : Int)] h (goQ G h nk m sa oa sl ca la fa ga n s dr cp rc g (foF rc (aS p Ln op slk cp rem s met c) L))
theorem go_ok0 {G : xG} : GoOK G 0 := by
  intro h nk m sa oa sl ca la fa fo ra ga n Ln met c s dr cp rc p op g slk L hN hO hS hRa hGa nd hF hLc h24 hV hs hmet hg hc h0
  have hs : s = n := by omega
  subst hs
  have h16 := pow_le16 Ln hV.2.1
  by_cases hm : met = 2 ^ Ln - 1
  · have e1 : Bd Ln 0 met = 1 := if_pos hm
    have e2 : foF rc (aS p Ln op slk cp 0 s met c) L = (if met = 2 ^ Ln - 1 ∧ hPlay (fr c) rc = true then insK c L else L) := by
      unfold aS
      rw [if_pos hm, foF_one]
      by_cases w : hPlay (fr c) rc = true
      · rw [if_pos w, if_pos ⟨hm, w⟩]
      · rw [if_neg w, if_neg (fun q => w q.2)]
    rw [e1, e2]
    exact c_N_go_0 hN hO hRa hGa hF hLc (by omega) hV.1 hV.2.1 (by omega) hV.2.2.2.1 hg hc
  · have e1 : Bd Ln 0 met = 0 := if_neg hm
    have e2 : foF rc (aS p Ln op slk cp 0 s met c) L = L := by
      unfold aS
      rw [if_neg hm, foF_nil]
    rw [e1, e2]
    exact c_N_go_n hN hO hRa hGa hF hLc (by omega) hV.1 hV.2.1 (by omega) hV.2.2.2.1 hg hc hm
