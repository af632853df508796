/-! Neck.go, any string. -/
theorem aSk_sl {p : Nat → Int} {Ln : Nat} {op : Nat → Int} {sl : Nat → Bool} {cp : Int} {rem s met c : Nat} (h : sl s = true) : ∀ k, aSk p Ln op sl cp rem s met c k = []
  | 0 => rfl
  | k + 1 => by
    rw [aSk_s, aSk_sl h k, if_neg (fun q => by have := q.1; rw [h] at this; cases this)]
    rfl
theorem aSk_len {p : Nat → Int} {Ln : Nat} {op : Nat → Int} {sl : Nat → Bool} {cp : Int} {rem s met c : Nat} : ∀ k, (aSk p Ln op sl cp rem s met c k).length ≤ Bdk Ln rem met k
  | 0 => Nat.zero_le _
  | k + 1 => by
    have ih := aSk_len (p := p) (Ln := Ln) (op := op) (sl := sl) (cp := cp) (rem := rem) (s := s) (met := met) (c := c) k
    rw [aSk_s, Bdk_s, List.length_append]
    by_cases b : okS p op sl cp s k met
    · rw [if_pos b, if_neg b.2.2.2]
      have := aS_len p Ln op sl cp rem (s + 1) (met + 2 ^ k) (wi c s (p k - op s - cp))
      omega
    · rw [if_neg b]
      exact Nat.le_trans ih (Nat.le_add_right _ _)
theorem Bdk_mono (Ln rem met k : Nat) : ∀ d, Bdk Ln rem met k ≤ Bdk Ln rem met (k + d)
  | 0 => Nat.le_refl _
  | d + 1 => by
    have := Bdk_mono Ln rem met k d
    rw [show k + (d + 1) = (k + d) + 1 by omega, Bdk_s]
    omega
theorem cdG_wi {n c s : Nat} {f : Int} (hn : n ≤ 6) (hs : s < n) (hc : cdG n c) (h0 : fr c s = -1) (hf : 0 ≤ f ∧ f ≤ 12) : cdG n (wi c s f) := by
  refine ⟨wi_lt hc.1 (by omega) ⟨hf.1, by omega⟩, fun t ht => ?_, fun t h1 h2 => ?_⟩
  · rw [fr_wi (by omega) ht ⟨hf.1, by omega⟩ h0]
    split
    · exact hf.2
    · exact hc.2.1 t ht
  · rw [fr_wi (by omega) h2 ⟨hf.1, by omega⟩ h0, if_neg (by omega)]
    exact hc.2.2 t h1 h2
theorem aS_cd {p : Nat → Int} {Ln n : Nat} {op : Nat → Int} {sl : Nat → Bool} {cp : Int} (hn : n ≤ 6) (hcp : 0 ≤ cp) : ∀ rem s met c, s + rem ≤ n → cdG n c → (∀ t, s ≤ t → t < 6 → fr c t = -1) → ∀ x ∈ aS p Ln op sl cp rem s met c, cdG n x
  | 0, s, met, c, _, hc, _, x, hx => by
    unfold aS at hx
    by_cases h : met = 2 ^ Ln - 1
    · rw [if_pos h] at hx
      rw [List.mem_singleton.mp hx]
      exact hc
    · rw [if_neg h] at hx
      cases hx
  | rem + 1, s, met, c, hs, hc, h0, x, hx => by
    unfold aS at hx
    rcases List.mem_append.mp hx with h | h
    · exact aS_cd hn hcp rem (s + 1) met c (by omega) hc (fun t h1 h2 => h0 t (by omega) h2) x h
    · obtain ⟨k, -, h⟩ := List.mem_flatMap.mp h
      by_cases ok : okS p op sl cp s k met
      · rw [if_pos ok] at h
        have hf : 0 ≤ p k - op s - cp ∧ p k - op s - cp ≤ 12 := ⟨ok.2.1, by have := ok.2.2.1; omega⟩
        refine aS_cd hn hcp rem (s + 1) _ _ (by omega) (cdG_wi hn (by omega) hc (h0 s (Nat.le_refl _) (by omega)) hf) (fun t h1 h2 => ?_) x h
        rw [fr_wi (by omega) h2 ⟨hf.1, by omega⟩ (h0 s (Nat.le_refl _) (by omega)), if_neg (by omega)]
        exact h0 t (by omega) h2
      · rw [if_neg ok] at h
        cases h
def goV (Ln n : Nat) (p op : Nat → Int) (cp rc : Int) : Prop := n ≤ 6 ∧ Ln < 5 ∧ (0 ≤ cp ∧ cp ≤ 12) ∧ (0 ≤ rc ∧ rc ≤ 100) ∧ (∀ t, t < n → 0 ≤ op t ∧ op t ≤ 1000) ∧ ∀ k, k < Ln → 0 ≤ p k ∧ p k ≤ 1000
def GoOK (G : xG) (rem : Nat) : Prop := ∀ {A : Nat → Prop} {h : PH} {nk m sa oa sl ca la fa fo ra ga n Ln met c s : Nat} {dr cp rc : Int} {p op g : Nat → Int} {slk : Nat → Bool} {L : List Nat}, h nk = xO 8 [.ref m, .ref sa, vi dr, .ref oa, .ref sl, vi cp, vi rc, .ref ca, .ref la, .ref fa, .ref fo] → h oa = xI G n op → h sl = xZ G 6 slk → h ra = xI G Ln p → h ga = xI G n g → ga ≠ oa ∧ ga ≠ ra ∧ ga ≠ sl → (A ga ∧ ∀ x, A x → alv h x) → FoundR G h A fo n L → (∀ x ∈ L, cdG n x) → L.length + Bd Ln rem met ≤ 24 → goV Ln n p op cp rc → s + rem = n → met < 2 ^ Ln → (∀ t, t < s → g t = fr c t) → cdG n c → (∀ t, s ≤ t → t < 6 → fr c t = -1) →
  Cn G m_Neck_go (8 + rem) (Bd Ln rem met * 110) (Bd Ln rem met * 700) [.ref nk, .ref ra, .ref ga, vi (s : Int), vi (met : Int)] h (goQ G A h nk m sa oa sl ca la fa ga n s dr cp rc g (foF rc (aS p Ln op slk cp rem s met c) L))
theorem go_ok0 {G : xG} : GoOK G 0 := by
  intro A h nk m sa oa sl ca la fa fo ra ga n Ln met c s dr cp rc p op g slk L hN hO hS hRa hGa nd hA hF hLc h24 hV hs hmet hg hc h0
  have hs : s = n := by omega
  subst hs
  have h16 := pow_le16 Ln hV.2.1
  by_cases hm : met = 2 ^ Ln - 1
  · have e1 : Bd Ln 0 met = 1 := if_pos hm
    have e2 : foF rc (aS p Ln op slk cp 0 s met c) L = (if met = 2 ^ Ln - 1 ∧ hPlay (fr c) rc = true then insK c L else L) := by
      unfold aS
      rw [if_pos hm, foF_one]
      by_cases w : hPlay (fr c) rc = true
      · rw [if_pos w, if_pos ⟨hm, w⟩]
      · rw [if_neg w, if_neg (fun q => w q.2)]
    rw [e1, e2]
    exact c_N_go_0 hN hO hRa hGa hA.2 hF hLc (by omega) hV.1 hV.2.1 (by omega) hV.2.2.2.1 hg hc
  · have e1 : Bd Ln 0 met = 0 := if_neg hm
    have e2 : foF rc (aS p Ln op slk cp 0 s met c) L = L := by
      unfold aS
      rw [if_neg hm, foF_nil]
    rw [e1, e2]
    exact c_N_go_n hN hO hRa hGa hA.2 hF hLc (by omega) hV.1 hV.2.1 (by omega) hV.2.2.2.1 hg hc hm

theorem FoundR.upg {G : xG} {h : PH} {A : Nat → Prop} {ga fo n : Nat} {L : List Nat} {g g2 : Nat → Int} (F : FoundR G h A fo n L) (hAg : A ga) (hGa : h ga = xI G n g) : FoundR G (va_up h ga (xI G n g2)) A fo n L := by
  obtain ⟨f, h1, h2⟩ := F
  have nfg : fo ≠ ga := fun e => by
    rw [e, hGa] at h1
    simp at h1
  refine ⟨f, (up_n nfg).trans h1, fun j hj => ?_⟩
  obtain ⟨q, u, e1, e2, e3, e4⟩ := h2 j hj
  exact ⟨q, u, e1, e2, (up_n (fun e => e2 (by rw [e]; exact hAg))).trans e3, e4⟩

theorem aS_sub {p : Nat → Int} {Ln : Nat} {op : Nat → Int} {sl : Nat → Bool} {cp : Int} {rem s met c k x : Nat} (hk : k ≤ Ln) (h : x ∈ aS p Ln op sl cp rem (s + 1) met c ++ aSk p Ln op sl cp rem s met c k) : x ∈ aS p Ln op sl cp (rem + 1) s met c := by
  rw [aS_s]
  rcases List.mem_append.mp h with w | w
  · exact List.mem_append_left _ w
  · refine List.mem_append_right _ ?_
    unfold aSk at *
    obtain ⟨j, hj, w⟩ := List.mem_flatMap.mp w
    exact List.mem_flatMap.mpr ⟨j, List.mem_range.mpr (Nat.lt_of_lt_of_le (List.mem_range.mp hj) hk), w⟩

set_option maxRecDepth 100000 in
set_option maxHeartbeats 4000000 in
theorem c_N_go_s {G : xG} {rem : Nat} (ih0 : GoOK G rem) {A : Nat → Prop} {h : PH} {nk m sa oa sl ca la fa fo ra ga n Ln met c s : Nat} {dr cp rc : Int} {p op g : Nat → Int} {slk : Nat → Bool} {L : List Nat} (hN : h nk = xO 8 [.ref m, .ref sa, vi dr, .ref oa, .ref sl, vi cp, vi rc, .ref ca, .ref la, .ref fa, .ref fo]) (hO : h oa = xI G n op) (hS : h sl = xZ G 6 slk) (hRa : h ra = xI G Ln p) (hGa : h ga = xI G n g) (nd : ga ≠ oa ∧ ga ≠ ra ∧ ga ≠ sl) (hA : A ga ∧ ∀ x, A x → alv h x) (hF : FoundR G h A fo n L) (hLc : ∀ x ∈ L, cdG n x) (h24 : L.length + Bd Ln (rem + 1) met ≤ 24) (hV : goV Ln n p op cp rc) (hs : s + (rem + 1) = n) (hmet : met < 2 ^ Ln) (hg : ∀ t, t < s → g t = fr c t) (hc : cdG n c) (h0 : ∀ t, s ≤ t → t < 6 → fr c t = -1)  : Cn G m_Neck_go (8 + (rem + 1)) (Bd Ln (rem + 1) met * 110) (Bd Ln (rem + 1) met * 700) [.ref nk, .ref ra, .ref ga, vi (s : Int), vi (met : Int)] h (fun r h' => goQ G A h nk m sa oa sl ca la fa ga n s dr cp rc g (foF rc (aS p Ln op slk cp (rem + 1) s met c) L) r h') := by
  refine Cn_of (by decide) (Nat.le_of_ble_eq_true rfl) (fun K C hR E => ?_)
  have nng : nk ≠ ga := fun e => by rw [e, hGa] at hN; cases hN
  obtain ⟨v1, v2, v3, v4, v5, v6⟩ := id hV
  have h16 := pow_le16 Ln v2
  have hbs := Bd_s Ln rem met
  have h0s : fr c s = -1 := h0 s (Nat.le_refl _) (by omega)
  have h01 : ∀ t, s + 1 ≤ t → t < 6 → fr c t = -1 := fun t a b => h0 t (by omega) b
  show X G K 7 0 [some (.ref nk), some (.ref ra), some (.ref ga), some (vi (s : Int)), some (vi (met : Int)), none, none] [] h 0 0
  refine x_iload_n C dX9_go_0 rfl rfl ?_
  refine x_aload_n C dX9_go_1 rfl rfl ?_
  refine x_get C f_Neck_16 hN rfl dX9_go_2 ?_
  refine x_alen C (t := 0) rfl hO dX9_go_5 ?_
  refine x_icmp_ne C (tgt := 147) dX9_go_6 (by decide) ⟨by omega, by omega⟩ ⟨by omega, by omega⟩ (fun c6 => ?_) (fun c6 => ?_)
  · skip
    refine x_aload_n C dX9_go_147 rfl rfl ?_
    refine x_iload_n C dX9_go_148 rfl rfl ?_
    refine x_iconst C dX9_go_149 ?_
    refine x_iast C hGa ⟨by omega, by omega, by omega⟩ (h1 := (va_up h ga (xI G n (va_up g s (-1))))) rfl dX9_go_150 ?_
    have hg1s : ∀ t, t < s + 1 → va_up g s (-1) t = fr c t := fun t ht => by by_cases w : t = s; subst w; rw [up_s]; exact h0s.symm; rw [up_n w]; exact hg t (by omega)
    refine x_aload_n C dX9_go_151 rfl rfl ?_
    refine x_aload_n C dX9_go_152 rfl rfl ?_
    refine x_aload_n C dX9_go_153 rfl rfl ?_
    refine x_iload_n C dX9_go_154 rfl rfl ?_
    refine x_iconst C dX9_go_155 ?_
    refine x_iadd C dX9_go_156 ?_
    refine x_iload C dX9_go_157 rfl ?_
    refine x_invV C s_Neck_136 (st := []) (ih0 ((up_n nng).trans hN) ((up_n (Ne.symm nd.1)).trans hO) ((up_n (Ne.symm nd.2.2)).trans hS) ((up_n (Ne.symm nd.2.1)).trans hRa) up_s nd ⟨hA.1, fun x a => alv_up (hA.2 x a)⟩ (hF.upg hA.1 hGa) hLc (by omega) hV (by omega) hmet (fun t ht => hg1s t ht) hc h01 (s := s + 1)) ((up_n nng).trans hN) rfl rfl (Nat.le_of_ble_eq_true rfl) (xRm_of hR (by omega) (by decide) (by omega) (by omega)) dX9_go_159 (fun r9 h9 hq => ?_)
    obtain ⟨rfl, fo1, g1, H1, H2, G1, G2, HF, K0⟩ := hq
    refine x_iconst C dX9_go_162 ?_
    refine x_istore C (ls' := [some (.ref nk), some (.ref ra), some (.ref ga), some (vi (s : Int)), some (vi (met : Int)), some (vi 0), none]) dX9_go_163 (by decide) rfl ?_
    have L165 : ∀ (n0 : Nat) (k : Nat) (hp : PH) (fo1 : Nat) (g1 : Nat → Int) (L1 : List Nat) (cc : Nat) (ss : Nat), Ln - k < n0 → (k ≤ Ln) → (L1 = foF rc ((aS p Ln op slk cp rem (s + 1) met c) ++ (aSk p Ln op slk cp rem s met c k)) L) → (hp nk = xO 8 [.ref m, .ref sa, vi dr, .ref oa, .ref sl, vi cp, vi rc, .ref ca, .ref la, .ref fa, .ref fo1]) → (hp ga = xI G n g1) → (∀ t, t < s → g1 t = g t) → (∀ t, s ≤ t → t < n → g1 t = -1) → (FoundR G hp A fo1 n L1) → (∀ x, alv h x → x ≠ nk → x ≠ ga → hp x = h x) → (cc ≤ (Bd Ln rem met + Bdk Ln rem met k) * 110 ∧ ss ≤ (Bd Ln rem met + Bdk Ln rem met k) * 700) → X G K 7 165 [some (.ref nk), some (.ref ra), some (.ref ga), some (vi (s : Int)), some (vi (met : Int)), some (vi (k : Int)), none] [] hp cc ss := by
      intro n0
      induction n0 with
      | zero => intro k hp fo1 g1 L1 cc ss hm; exact absurd hm (Nat.not_lt_zero _)
      | succ n0 ih_L165 =>
        intro k hp fo1 g1 L1 cc ss hm i1 i2 H1 H2 G1 G2 HF K r1
        have hmn : Bdk Ln rem met k ≤ Bdk Ln rem met Ln := by have := Bdk_mono Ln rem met k (Ln - k); rw [show k + (Ln - k) = Ln by omega] at this; exact this
        refine x_iload C dX9_go_165 rfl ?_
        refine x_aload_n C dX9_go_167 rfl rfl ?_
        refine x_alen C (t := 0) rfl ((K ra (alv_of hRa) (fun e => by rw [e, hN] at hRa; cases hRa) (Ne.symm nd.2.1)).trans hRa) dX9_go_168 ?_
        refine x_icmp_ge C (tgt := 261) dX9_go_169 (by decide) ⟨by omega, by omega⟩ ⟨by omega, by omega⟩ (fun c169 => ?_) (fun c169 => ?_)
        · skip
          have hend : foF rc (aS p Ln op slk cp (rem + 1) s met c) L = L1 := by rw [i2, aS_s]; first | (rw [show k = Ln by omega]) | (rw [aSk_sl c178, aSk_sl c178])
          exact x_vret C E rfl (by rw [hbs]; omega) (by rw [hbs]; omega) dX9_go_261 (⟨rfl, fo1, g1, H1, H2, G1, G2, hend ▸ HF, K⟩)
        · skip
          have hAp : ∀ x, A x → alv hp x := fun x a => by by_cases w : x = nk; rw [w]; exact alv_of H1; by_cases w2 : x = ga; rw [w2]; exact alv_of H2; show hp x ≠ none; rw [K x (hA.2 x a) w w2]; exact hA.2 x a
          have hpk := v6 k (by omega)
          have hos := v5 s (by omega)
          refine x_aload_n C dX9_go_172 rfl rfl ?_
          refine x_get C f_Neck_20 H1 rfl dX9_go_173 ?_
          refine x_iload_n C dX9_go_176 rfl rfl ?_
          refine x_zald C ((K sl (alv_of hS) (fun e => by rw [e, hN] at hS; cases hS) (Ne.symm nd.2.2)).trans hS) ⟨by omega, by omega, by omega⟩ (v := (slk s)) rfl dX9_go_177 ?_
          refine x_ifneB C (tgt := 261) dX9_go_178 (by decide) (fun c178 => ?_) (fun c178 => ?_)
          · skip
            have hend : foF rc (aS p Ln op slk cp (rem + 1) s met c) L = L1 := by rw [i2, aS_s]; first | (rw [show k = Ln by omega]) | (rw [aSk_sl c178, aSk_sl c178])
            exact x_vret C E rfl (by rw [hbs]; omega) (by rw [hbs]; omega) dX9_go_261 (⟨rfl, fo1, g1, H1, H2, G1, G2, hend ▸ HF, K⟩)
          · skip
            refine x_aload_n C dX9_go_181 rfl rfl ?_
            refine x_iload C dX9_go_182 rfl ?_
            refine x_iald C ((K ra (alv_of hRa) (fun e => by rw [e, hN] at hRa; cases hRa) (Ne.symm nd.2.1)).trans hRa) ⟨by omega, by omega, by omega⟩ (v := (p k)) rfl dX9_go_184 ?_
            refine x_aload_n C dX9_go_185 rfl rfl ?_
            refine x_get C f_Neck_16 H1 rfl dX9_go_186 ?_
            refine x_iload_n C dX9_go_189 rfl rfl ?_
            refine x_iald C ((K oa (alv_of hO) (fun e => by rw [e, hN] at hO; cases hO) (Ne.symm nd.1)).trans hO) ⟨by omega, by omega, by omega⟩ (v := (op s)) rfl dX9_go_190 ?_
            refine x_isub C dX9_go_191 ?_
            refine x_aload_n C dX9_go_192 rfl rfl ?_
            refine x_get C f_Neck_80 H1 rfl dX9_go_193 ?_
            refine x_isub C dX9_go_196 ?_
            refine x_istore C (ls' := [some (.ref nk), some (.ref ra), some (.ref ga), some (vi (s : Int)), some (vi (met : Int)), some (vi (k : Int)), some (vi (((p k) - (op s)) - cp))]) dX9_go_197 (by decide) rfl ?_
            refine x_iload C dX9_go_199 rfl ?_
            refine x_if_lt C (tgt := 255) dX9_go_201 (by decide) ⟨by omega, by omega⟩ (fun c201 => ?_) (fun c201 => ?_)
            · skip
              refine x_iinc C (ls' := [some (.ref nk), some (.ref ra), some (.ref ga), some (vi (s : Int)), some (vi (met : Int)), some (vi ((k : Int) + 1)), some (vi (((p k) - (op s)) - cp))]) dX9_go_255 rfl (by decide) (z1 := ((k : Int) + 1)) rfl rfl ?_
              refine x_goto C (tgt := 165) dX9_go_258 (by decide) ?_
              refine X.sub (ls' := [some (.ref nk), some (.ref ra), some (.ref ga), some (vi (s : Int)), some (vi (met : Int)), some (vi ((k : Int) + 1)), none]) (sub_cons (Or.inr rfl) (sub_cons (Or.inr rfl) (sub_cons (Or.inr rfl) (sub_cons (Or.inr rfl) (sub_cons (Or.inr rfl) (sub_cons (Or.inr rfl) (sub_cons (Or.inl rfl) sub_nil))))))) ?_
              exact ih_L165 (k + 1) hp _ _ _ _ _ (by omega) (by omega) (by rw [i2, aSk_s, if_neg (fun q => by first | (exact absurd q.2.1 (by omega)) | (exact absurd q.2.2.1 (by omega)) | (exact q.2.2.2 (by show met / 2 ^ k % 2 = 1; omega))), List.append_nil]) (H1) (H2) (G1) (G2) (HF) (K) (by have := Bdk_s Ln rem met k; constructor <;> omega)
            · skip
              refine x_iload C dX9_go_204 rfl ?_
              refine x_bipush C (z := 12) dX9_go_206 (by decide) ?_
              refine x_aload_n C dX9_go_208 rfl rfl ?_
              refine x_get C f_Neck_80 H1 rfl dX9_go_209 ?_
              refine x_isub C dX9_go_212 ?_
              refine x_icmp_gt C (tgt := 255) dX9_go_213 (by decide) ⟨by omega, by omega⟩ ⟨by omega, by omega⟩ (fun c213 => ?_) (fun c213 => ?_)
              · skip
                refine x_iinc C (ls' := [some (.ref nk), some (.ref ra), some (.ref ga), some (vi (s : Int)), some (vi (met : Int)), some (vi ((k : Int) + 1)), some (vi (((p k) - (op s)) - cp))]) dX9_go_255 rfl (by decide) (z1 := ((k : Int) + 1)) rfl rfl ?_
                refine x_goto C (tgt := 165) dX9_go_258 (by decide) ?_
                refine X.sub (ls' := [some (.ref nk), some (.ref ra), some (.ref ga), some (vi (s : Int)), some (vi (met : Int)), some (vi ((k : Int) + 1)), none]) (sub_cons (Or.inr rfl) (sub_cons (Or.inr rfl) (sub_cons (Or.inr rfl) (sub_cons (Or.inr rfl) (sub_cons (Or.inr rfl) (sub_cons (Or.inr rfl) (sub_cons (Or.inl rfl) sub_nil))))))) ?_
                exact ih_L165 (k + 1) hp _ _ _ _ _ (by omega) (by omega) (by rw [i2, aSk_s, if_neg (fun q => by first | (exact absurd q.2.1 (by omega)) | (exact absurd q.2.2.1 (by omega)) | (exact q.2.2.2 (by show met / 2 ^ k % 2 = 1; omega))), List.append_nil]) (H1) (H2) (G1) (G2) (HF) (K) (by have := Bdk_s Ln rem met k; constructor <;> omega)
              · skip
                refine x_iload C dX9_go_216 rfl ?_
                refine x_iload C dX9_go_218 rfl ?_
                refine x_ishr C (c := ((met / 2 ^ k : Nat) : Int)) dX9_go_220 (shr_bit met (by omega) k (by omega)) ?_
                refine x_iconst C dX9_go_221 ?_
                refine x_iand C (c := ((met / 2 ^ k % 2 : Nat) : Int)) dX9_go_222 (and_one _ (Nat.lt_of_le_of_lt (Nat.div_le_self _ _) (by omega))) ?_
                refine x_iconst C dX9_go_223 ?_
                refine x_icmp_ne C (tgt := 230) dX9_go_224 (by decide) ⟨by omega, by omega⟩ (by decide) (fun c224 => ?_) (fun c224 => ?_)
                · skip
                  have ok : okS p op slk cp s k met := ⟨c178, by omega, by omega, fun z => c224 (by rw [z]; rfl)⟩
                  have hbk := Bdk_s Ln rem met k
                  rw [if_neg ok.2.2.2] at hbk
                  have hmn2 : Bdk Ln rem met (k + 1) ≤ Bdk Ln rem met Ln := by have := Bdk_mono Ln rem met (k + 1) (Ln - (k + 1)); rw [show k + 1 + (Ln - (k + 1)) = Ln by omega] at this; exact this
                  have hll : L1.length + Bd Ln rem (met + 2 ^ k) ≤ 24 := by have a1 := foF_len rc ((aS p Ln op slk cp rem (s + 1) met c) ++ (aSk p Ln op slk cp rem s met c k)) L; rw [← i2, List.length_append] at a1; have a2 := aS_len p Ln op slk cp rem (s + 1) met c; have a3 := aSk_len (p := p) (Ln := Ln) (op := op) (sl := slk) (cp := cp) (rem := rem) (s := s) (met := met) (c := c) k; omega
                  have hL1 : ∀ x ∈ L1, cdG n x := fun x hx => by rw [i2] at hx; rcases foF_mem hx with z | z; exact aS_cd v1 v3.1 (rem + 1) s met c (by omega) hc h0 x (aS_sub (by omega) z); exact hLc x z
                  have hg2s : ∀ t, t < s + 1 → va_up g1 s (p k - op s - cp) t = fr (wi c s (p k - op s - cp)) t := fun t ht => by rw [fr_wi (by omega) (by omega) ⟨ok.2.1, by omega⟩ h0s]; by_cases w : t = s; rw [if_pos w, w]; exact up_s; rw [if_neg w, up_n w, G1 t (by omega)]; exact hg t (by omega)
                  refine x_aload_n C dX9_go_230 rfl rfl ?_
                  refine x_iload_n C dX9_go_231 rfl rfl ?_
                  refine x_iload C dX9_go_232 rfl ?_
                  refine x_iast C H2 ⟨by omega, by omega, by omega⟩ (h1 := (va_up hp ga (xI G n (va_up g1 s (((p k) - (op s)) - cp))))) rfl dX9_go_234 ?_
                  refine x_aload_n C dX9_go_235 rfl rfl ?_
                  refine x_aload_n C dX9_go_236 rfl rfl ?_
                  refine x_aload_n C dX9_go_237 rfl rfl ?_
                  refine x_iload_n C dX9_go_238 rfl rfl ?_
                  refine x_iconst C dX9_go_239 ?_
                  refine x_iadd C dX9_go_240 ?_
                  refine x_iload C dX9_go_241 rfl ?_
                  refine x_iconst C dX9_go_243 ?_
                  refine x_iload C dX9_go_244 rfl ?_
                  refine x_ishl C (c := ((2 ^ k : Nat) : Int)) dX9_go_246 (shl_k k (by omega)) ?_
                  refine x_ior C (c := ((met + 2 ^ k : Nat) : Int)) dX9_go_247 (or_bit met (by omega) k (by omega) ok.2.2.2) ?_
                  refine x_invV C s_Neck_136 (st := []) (ih0 ((up_n nng).trans H1) ((up_n (Ne.symm nd.1)).trans ((K oa (alv_of hO) (fun e => by rw [e, hN] at hO; cases hO) (Ne.symm nd.1)).trans hO)) ((up_n (Ne.symm nd.2.2)).trans ((K sl (alv_of hS) (fun e => by rw [e, hN] at hS; cases hS) (Ne.symm nd.2.2)).trans hS)) ((up_n (Ne.symm nd.2.1)).trans ((K ra (alv_of hRa) (fun e => by rw [e, hN] at hRa; cases hRa) (Ne.symm nd.2.1)).trans hRa)) up_s nd ⟨hA.1, fun x a => alv_up (hAp x a)⟩ (HF.upg hA.1 H2) hL1 (by omega) hV (by omega) (bit_lt Ln v2 met hmet k (by omega) ok.2.2.2) (fun t ht => hg2s t ht) (cdG_wi v1 (by omega) hc h0s ⟨ok.2.1, by omega⟩) (fun t a b => by rw [fr_wi (by omega) b ⟨ok.2.1, by omega⟩ h0s, if_neg (by omega)]; exact h01 t a b) (s := s + 1) (c := wi c s (p k - op s - cp)) (met := met + 2 ^ k)) ((up_n nng).trans H1) rfl rfl (Nat.le_of_ble_eq_true rfl) (xRm_of hR (by omega) (by decide) (by omega) (by omega)) dX9_go_248 (fun r9 h92 hq => ?_)
                  obtain ⟨rfl, fo2, g2, H3, H4, G3, G4, HF2, K2⟩ := hq
                  refine x_aload_n C dX9_go_251 rfl rfl ?_
                  refine x_iload_n C dX9_go_252 rfl rfl ?_
                  refine x_iconst C dX9_go_253 ?_
                  refine x_iast C H4 ⟨by omega, by omega, by omega⟩ (h1 := (va_up h92 ga (xI G n (va_up g2 s (-1))))) rfl dX9_go_254 ?_
                  refine x_iinc C (ls' := [some (.ref nk), some (.ref ra), some (.ref ga), some (vi (s : Int)), some (vi (met : Int)), some (vi ((k : Int) + 1)), some (vi (((p k) - (op s)) - cp))]) dX9_go_255 rfl (by decide) (z1 := ((k : Int) + 1)) rfl rfl ?_
                  refine x_goto C (tgt := 165) dX9_go_258 (by decide) ?_
                  refine X.sub (ls' := [some (.ref nk), some (.ref ra), some (.ref ga), some (vi (s : Int)), some (vi (met : Int)), some (vi ((k : Int) + 1)), none]) (sub_cons (Or.inr rfl) (sub_cons (Or.inr rfl) (sub_cons (Or.inr rfl) (sub_cons (Or.inr rfl) (sub_cons (Or.inr rfl) (sub_cons (Or.inr rfl) (sub_cons (Or.inl rfl) sub_nil))))))) ?_
                  exact ih_L165 (k + 1) (va_up h92 ga (xI G n (va_up g2 s (-1)))) _ _ _ _ _ (by omega) (by omega) (by rw [aSk_s, if_pos ok, ← List.append_assoc, foF_app, ← i2]) (((up_n nng).trans H3)) (up_s) (fun t ht => by rw [up_n (by omega), G3 t (by omega), up_n (by omega)]; exact G1 t ht) (fun t a b => by by_cases w : t = s; rw [w]; exact up_s; rw [up_n w]; exact G4 t (by omega) b) (HF2.upg hA.1 H4) (fun x z e1 e2 => (up_n e2).trans ((K2 x (by show va_up _ _ _ x ≠ none; rw [up_n e2, K x z e1 e2]; exact z) e1 e2).trans ((up_n e2).trans (K x z e1 e2)))) (by constructor <;> omega)
                · skip
                  refine x_goto C (tgt := 255) dX9_go_227 (by decide) ?_
                  refine x_iinc C (ls' := [some (.ref nk), some (.ref ra), some (.ref ga), some (vi (s : Int)), some (vi (met : Int)), some (vi ((k : Int) + 1)), some (vi (((p k) - (op s)) - cp))]) dX9_go_255 rfl (by decide) (z1 := ((k : Int) + 1)) rfl rfl ?_
                  refine x_goto C (tgt := 165) dX9_go_258 (by decide) ?_
                  refine X.sub (ls' := [some (.ref nk), some (.ref ra), some (.ref ga), some (vi (s : Int)), some (vi (met : Int)), some (vi ((k : Int) + 1)), none]) (sub_cons (Or.inr rfl) (sub_cons (Or.inr rfl) (sub_cons (Or.inr rfl) (sub_cons (Or.inr rfl) (sub_cons (Or.inr rfl) (sub_cons (Or.inr rfl) (sub_cons (Or.inl rfl) sub_nil))))))) ?_
                  exact ih_L165 (k + 1) hp _ _ _ _ _ (by omega) (by omega) (by rw [i2, aSk_s, if_neg (fun q => by first | (exact absurd q.2.1 (by omega)) | (exact absurd q.2.2.1 (by omega)) | (exact q.2.2.2 (by show met / 2 ^ k % 2 = 1; omega))), List.append_nil]) (H1) (H2) (G1) (G2) (HF) (K) (by have := Bdk_s Ln rem met k; constructor <;> omega)
    exact L165 _ 0 h9 _ _ _ _ _ (Nat.lt_succ_self _) (Nat.zero_le _) (by show _ = foF rc ((aS p Ln op slk cp rem (s + 1) met c) ++ []) L; rw [List.append_nil]) (H1) (H2) (fun t ht => (G1 t (by omega)).trans (up_n (by omega))) (fun t a b => by by_cases w : t = s; rw [w, G1 s (by omega)]; exact up_s; exact G2 t (by omega) b) (HF) (fun x z e1 e2 => (K0 x (alv_up z) e1 e2).trans (up_n e2)) (⟨by show _ ≤ (_ + 0) * 110; omega, by show _ ≤ (_ + 0) * 700; omega⟩)
  · skip
    exfalso; omega

theorem go_ok {G : xG} : ∀ rem, GoOK G rem
  | 0 => go_ok0
  | rem + 1 => fun a b c d e f g h i j k l m n o p => c_N_go_s (go_ok rem) a b c d e f g h i j k l m n o p
