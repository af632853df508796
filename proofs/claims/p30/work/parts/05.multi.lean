/-! THE CORE, fourth part: new int[n][k]. -/
/-- the heap with an outer array at q and its rows behind it -/
def mnH (G : xG) (h : PH) (q n k : Nat) : PH := fun a => if a = q then xQ G 3 n (fun i => if i < n then some (q + 1 + i) else none) else if q < a ∧ a ≤ q + n then xI G k (fun _ => 0) else h a
theorem mn_outer (c : ClassId) (N h0 : Nat) : ∀ i : Nat, Jvm.Free.Multi.outerC c N h0 i = arrV c N (fun j => va_rf (if j < i then some (h0 + 1 + j) else none))
  | 0 => by
    show ({ cls := c, slots := Array.replicate N .null, vm := .none } : Cell) = _
    rw [arrV_new]
    rfl
  | i + 1 => by
    unfold Jvm.Free.Multi.outerC
    rw [mn_outer c N h0 i, arrV_store]
    congr 1
    funext j
    unfold updV
    by_cases q : j = i
    · subst q; simp [va_rf]
    · by_cases q2 : j < i
      · have : j < i + 1 := by omega
        simp [q, q2, this]
      · have : ¬ j < i + 1 := by omega
        simp [q, q2, this]
section XMULTI
variable {G : xG} {K : xK} {own : String} {cc : ByteArray} {nL pc : Nat} {ls : List (Option Value)} {st stk : List Value} {h : PH} {cells slots : Nat}
theorem x_mna (C : xC G K own cc nL) {idx : Nat} {n k : Int} (hn : 0 ≤ n ∧ n ≤ 100000) (hk : 0 ≤ k ∧ k ≤ 100000) (w1 : Cond.classLink own idx "[[I" ∈ xWA) (w2 : FieldType.array .int ∈ xAOs) (w3 : Cond.arrayClass .int ∈ xWA) {d mc ms : Nat} (hR : xGe K d mc ms) (hc : cells + (1 + n.toNat) ≤ mc) (hs : slots + (n.toNat + n.toNat * k.toNat) ≤ ms) (hd : decode cc pc = .ok (.multianewarray idx 2, 4))
    (kk : ∀ q : Nat, (∀ i, i ≤ n.toNat → h (q + i) = none) → X G K nL (pc + 4) ls (.ref q :: st) (mnH G h q n.toNat k.toNat) (cells + 1 + n.toNat) (slots + n.toNat + n.toNat * k.toNat)) : X G K nL pc ls (vi k :: vi n :: st) h cells slots := fun H locs lsA hW hS hV => by
  obtain ⟨ws, r, hP, hD⟩ := id hW
  obtain ⟨n1, n2⟩ := nn_of (n := n) ⟨hn.1, by omega⟩
  obtain ⟨k1, k2⟩ := nn_of (n := k) ⟨hk.1, by omega⟩
  intro T hT Xs
  obtain ⟨vm₁, cA, comp, -, fA, fC, hO, -, X', step⟩ := Xs.multianewarray2F C.1 C.2.2.2.1 (ty := .int) (C.2.2.2.2.1 _ w1) (C.2.2.2.2.2.2.1.2.2.2 _ w2) (C.2.2.2.2.1 _ w3) (g := F0 (km K) pc lsA (vi k :: vi n :: st)) rfl (by rw [C.2.1]; exact hd) rfl n1 k1 (by rw [n2]; omega) (by rw [k2]; show k.toNat * 4 ≤ _; omega) (by rw [k2]; omega) rfl rfl (by rw [n2]; exact Nat.le_trans hc hR.2.2.1) (by rw [n2, k2]; exact Nat.le_trans hs hR.2.2.2)
  rw [n2, k2] at X' step
  have ec : comp = gc G 0 := Option.some.inj (fC.symm.trans (C.hK.2 0 _ (xtys_at rfl)).2)
  have ea : cA = gc G 3 := Option.some.inj (fA.symm.trans (C.hK.2 3 _ (xtys_at rfl)).2)
  subst ec
  subst ea
  generalize hF : Jvm.Free.Multi.fill (T.setVm vm₁) (gc G 3) (gc G 0) n.toNat k.toNat (defaultValue .int) n.toNat = F at X' step
  have hTh : (T.setVm vm₁).heap = H := hT
  obtain ⟨f1, f2, -, -⟩ := Jvm.Free.Multi.fill_facts (T.setVm vm₁) (gc G 3) (gc G 0) n.toNat k.toNat (defaultValue .int) n.toNat
  rw [hF, hTh] at f1 f2
  have hold : ∀ x : Nat, x < H.size → F.heap[x]? = H[x]? := fun x hx => by
    have := Jvm.Free.Multi.fill_old (T.setVm vm₁) (gc G 3) (gc G 0) n.toNat k.toNat (defaultValue .int) (a := x) (by rw [hTh]; exact hx) n.toNat
    rw [hF, hTh] at this
    exact this
  have hrow : ∀ j : Nat, j < n.toNat → F.heap[H.size + 1 + j]? = some (vp_cell (gc G 0) (k.toNat, .inl (fun _ => I 0))) := fun j hj => by
    have := Jvm.Free.Multi.fill_inner (T.setVm vm₁) (gc G 3) (gc G 0) n.toNat k.toNat (defaultValue .int) n.toNat j hj
    rw [hF, hTh] at this
    rw [this, vp_cell_i]
    exact congrArg some (arrV_new _ _ _)
  rw [mn_outer] at f2
  have hfree : ∀ i, h (H.size + i) = none := fun i => by
    cases hz : h (H.size + i) with
    | none => rfl
    | some e =>
      obtain ⟨j, hj⟩ := r.2 _ _ hz
      have := (hP j _ hj).lt
      have : H.size + i < H.size := this
      omega
  have hlt : ∀ a e, h a = some e → a < H.size := fun a e hz => by
    obtain ⟨j, hj⟩ := r.2 _ _ hz
    exact (hP j _ hj).lt
  let rows : va_W := (List.range n.toNat).map (fun i => (H.size + 1 + i, (.inl (gc G 0, k.toNat, .inl (fun _ => I 0)) : va_E)))
  let oc : va_E := .inl (gc G 3, n.toNat, .inr (.inr (.inr (.inr (fun i => if i < n.toNat then some (H.size + 1 + i) else none)))))
  have hrows : ∀ (j a : Nat) (e : va_E), rows[j]? = some (a, e) ↔ j < n.toNat ∧ a = H.size + 1 + j ∧ e = .inl (gc G 0, k.toNat, .inl (fun _ => I 0)) := fun j a e => by
    show ((List.range n.toNat).map _)[j]? = _ ↔ _
    rw [List.getElem?_map]
    by_cases hj : j < n.toNat
    · rw [List.getElem?_range hj]
      constructor
      · intro q; cases q; exact ⟨hj, rfl, rfl⟩
      · rintro ⟨-, rfl, rfl⟩; rfl
    · rw [List.getElem?_eq_none (by rw [List.length_range]; omega)]
      exact ⟨fun q => (by cases q), fun q => absurd q.1 hj⟩
  have hP1 : va_P (gD G) vwCl ((ws ++ [(H.size, oc)]) ++ rows) F.heap := by
    refine ((hP.kept (fun j x hx => hold x.1 ((hP j x hx).lt))).app (fun j x hx => ?_)).app (fun j x hx => ?_)
    · have hz : j < 1 := (List.getElem?_eq_some_iff.mp hx).1
      rw [show j = 0 by omega] at hx
      cases hx
      exact f2
    · obtain ⟨a, e⟩ := x
      obtain ⟨hj, rfl, rfl⟩ := (hrows j a e).mp hx
      exact hrow j hj
  have hD0 := hD.push (e := oc) hP rfl (x_hA C _ hS.1)
  obtain ⟨-, r0⟩ := r.push hD0
  have hle : ∀ (j : Nat) (x : Nat × va_E), (ws ++ [(H.size, oc)])[j]? = some x → x.1 ≤ H.size := fun j x hx => by
    by_cases hl : j < ws.length
    · rw [List.getElem?_append_left hl] at hx
      exact Nat.le_of_lt ((hP j x hx).lt)
    · rw [List.getElem?_append_right (by omega)] at hx
      have h0 : j - ws.length < 1 := (List.getElem?_eq_some_iff.mp hx).1
      rw [show j - ws.length = 0 by omega] at hx
      cases hx
      exact Nat.le_refl _
  have hD1 : va_D (xA G) ((ws ++ [(H.size, oc)]) ++ rows) := by
    refine hD0.app ⟨fun i j x y hi hj hxy => ?_, fun j x hx => ?_⟩ (fun i j x y hi hj hxy => ?_)
    · obtain ⟨a, e⟩ := x
      obtain ⟨b, d⟩ := y
      obtain ⟨-, rfl, -⟩ := (hrows i a e).mp hi
      obtain ⟨-, rfl, -⟩ := (hrows j b d).mp hj
      have hxy : H.size + 1 + i = H.size + 1 + j := hxy
      omega
    · obtain ⟨a, e⟩ := x
      obtain ⟨-, rfl, -⟩ := (hrows j a e).mp hx
      exact x_hA C _ (by have := hS.1; show _ ≤ H.size + 1 + j; omega)
    · obtain ⟨b, d⟩ := y
      have := hle i x hi
      obtain ⟨-, rfl, -⟩ := (hrows j b d).mp hj
      have hxy : x.1 = H.size + 1 + j := hxy
      omega
  have hR : xR (mnH G h H.size n.toNat k.toNat) ((ws ++ [(H.size, oc)]) ++ rows) := by
    refine ⟨fun j a e hj => ?_, fun a e ha => ?_⟩
    · by_cases hl : j < (ws ++ [(H.size, oc)]).length
      · rw [List.getElem?_append_left hl] at hj
        have h1 := r0.1 j a e hj
        have h2 := hle j _ hj
        unfold mnH
        by_cases c : a = H.size
        · subst c
          rw [up_s] at h1
          rw [if_pos rfl]
          exact h1
        · rw [up_n c] at h1
          rw [if_neg c, if_neg (fun z => by have : a ≤ H.size := h2; omega)]
          exact h1
      · rw [List.getElem?_append_right (by omega)] at hj
        obtain ⟨h1, rfl, rfl⟩ := (hrows _ a e).mp hj
        unfold mnH
        rw [if_neg (by omega), if_pos (by omega)]
    · unfold mnH at ha
      by_cases c : a = H.size
      · subst c
        rw [if_pos rfl] at ha
        cases ha
        exact ⟨ws.length, by rw [List.getElem?_append_left (by simp), List.getElem?_append_right (Nat.le_refl _), Nat.sub_self]; rfl⟩
      · rw [if_neg c] at ha
        by_cases c2 : H.size < a ∧ a ≤ H.size + n.toNat
        · rw [if_pos c2] at ha
          cases ha
          refine ⟨(ws ++ [(H.size, oc)]).length + (a - (H.size + 1)), ?_⟩
          rw [List.getElem?_append_right (by omega)]
          refine (hrows _ _ _).mpr ⟨by omega, by omega, rfl⟩
        · rw [if_neg c2] at ha
          obtain ⟨j, hj⟩ := r.2 a e ha
          have hl := (List.getElem?_eq_some_iff.mp hj).1
          exact ⟨j, by rw [List.getElem?_append_left (by simp; omega), List.getElem?_append_left hl]; exact hj⟩
  obtain ⟨t, a1, b1⟩ := kk H.size (fun i _ => hfree i) F.heap locs lsA ⟨_, hR, hP1, hD1⟩ ⟨by rw [f1]; have := hS.1; omega, fun x h1 h2 => (hold x (Nat.lt_of_lt_of_le h1 hS.1)).trans (hS.2.1 x h1 h2), hS.2.2⟩ hV F rfl X'
  refine ⟨t, step t ?_, b1⟩
  have e : T.heap.size = H.size := by rw [hT]
  rw [e]
  exact a1
end XMULTI
