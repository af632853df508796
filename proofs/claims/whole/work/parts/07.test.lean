def nOf (g : Nat → Int) (c : Int) : Nat → Int
  | 0 => -1
  | n + 1 => 0

set_option maxRecDepth 100000 in
set_option maxHeartbeats 4000000 in
theorem c_Grips_numberOf {G : xG} {h : PH} {a b e l : Nat} {cnt : Nat} {g : Nat → Int} {cd : Int} (hA : h a = xO 1 [.ref b, .ref e, .ref l, vi cnt]) (hB : h b = xI G 30 g) (h1 : cnt ≤ 30) (hg : ∀ j : Nat, j < 30 → bd (g j)) (h2 : bd cd) : Cn G m_Grips_numberOf 0 0 0 [.ref a, vi cd] h (fun r h' => (∃ z : Int, r = some (vi z) ∧ z = nOf g cd cnt) ∧ h' = h) := by
  refine Cn_of (by decide) (Nat.le_of_ble_eq_true rfl) (fun K C hR E => ?_)
  show X G K 3 0 [some (.ref a), some (vi cd), none] [] h 0 0
  refine x_iconst C dX2_numberOf_0 ?_
  refine x_istore_n C (ls' := [some (.ref a), some (vi cd), some (vi 0)]) dX2_numberOf_1 rfl (by decide) rfl ?_
  have L2 : ∀ (n0 : Nat) (k : Nat), cnt - k < n0 → k ≤ cnt → nOf g cd cnt = nOf g cd cnt → X G K 3 2 [some (.ref a), some (vi cd), some (vi (k : Int))] [] h 0 0 := by
    intro n0
    induction n0 with
    | zero => intro k hm; exact absurd hm (Nat.not_lt_zero _)
    | succ n0 ih_L2 =>
      intro k hm i1 i2
      refine x_iload_n C dX2_numberOf_2 rfl rfl ?_
      refine x_aload_n C dX2_numberOf_3 rfl rfl ?_
      refine x_get C f_Grips_21 hA rfl dX2_numberOf_4 ?_
      refine x_icmp_ge C (tgt := 28) dX2_numberOf_7 (by decide) ⟨by omega, by omega⟩ ⟨by omega, by omega⟩ (fun c7 => ?_) (fun c7 => ?_)
      · skip
        refine x_iconst C dX2_numberOf_28 ?_
        exact x_iret C E rfl (by omega) (by omega) dX2_numberOf_29 (⟨⟨_, rfl, sorry⟩, rfl⟩)
      · skip
        refine x_aload_n C dX2_numberOf_10 rfl rfl ?_
        refine x_get C f_Grips_9 hA rfl dX2_numberOf_11 ?_
        refine x_iload_n C dX2_numberOf_14 rfl rfl ?_
        refine x_iald C hB ⟨by omega, by omega, by omega⟩ (v := (g k)) rfl dX2_numberOf_15 ?_
        refine x_iload_n C dX2_numberOf_16 rfl rfl ?_
        refine x_icmp_ne C (tgt := 22) dX2_numberOf_17 (by decide) (hg _ (by omega)) h2 (fun c17 => ?_) (fun c17 => ?_)
        · skip
          refine x_iinc C (ls' := [some (.ref a), some (vi cd), some (vi ((k : Int) + 1))]) dX2_numberOf_22 rfl (by decide) rfl ?_
          refine x_goto C (tgt := 2) dX2_numberOf_25 (by decide) ?_
          exact ih_L2 (k + 1) (by omega) (by omega) (rfl)
        · skip
          refine x_iload_n C dX2_numberOf_20 rfl rfl ?_
          exact x_iret C E rfl (by omega) (by omega) dX2_numberOf_21 (⟨⟨_, rfl, sorry⟩, rfl⟩)
  exact L2 _ 0 (Nat.lt_succ_self _) (by omega) (rfl)
