/-! Planner.read. -/
set_option maxRecDepth 100000 in
set_option maxHeartbeats 4000000 in
theorem c_read {G : xG} {h : PH} {ad : Nat → Nat} {B : Nat} {Ls : Nat → List Nat} {fx ln ch : Nat → Int} {tot : Int} {cnt : Nat} {rs : Nat → Nat → Int} (hj : ∀ i j, i < 300 → j < 300 → ad i = ad j → i = j) (hB : B = 100 ∨ B = 200) (P : PR G h ad B Ls fx ln ch tot cnt rs) (V : PV fx ln ch tot cnt rs) {jI n : Nat} {op : Nat → Int} {sl : Nat → Bool} {cp rc : Int} (hJ : jI = 1 ∨ jI = 4) (PI : InstR G h ad jI n op sl cp rc) (VI : IV n op cp rc) {m : Nat} {si : Nat → Nat} {pt : Nat → Nat → Int} {cl cf : Nat → Int} (PP : PieceR G h ad m si pt cl cf) (VC : CV m si pt cl cf) : Cn G m_Plan_read 8 0 0 [.ref (ad B), .ref (ad jI), .ref (ad 7)] h (fun r h' => r = none ∧ PR G h' ad B (upk m (LT n op sl cp rc si pt) Ls) (upk m (fun c => numL (LT n op sl cp rc si pt c) (cf c)) fx) (upk m cl ln) ch tot m rs ∧ frB ad B h h') := by
  refine Cn_of (by decide) (Nat.le_of_ble_eq_true rfl) (fun K C hR E => ?_)
  have V3 := V.2.2.1
  have VC1 := VC.1
  have hVm := hj
  show X G K 5 0 [some (.ref (ad B)), some (.ref (ad jI)), some (.ref (ad 7)), none, none] [] h 0 0
  refine x_aload_n C dX6_read_0 rfl rfl ?_
  refine x_aload_n C dX6_read_1 rfl rfl ?_
  refine x_get C f_Plan_47 PP.1 rfl dX6_read_2 ?_
  refine x_bipush C (z := 12) dX6_read_5 (by decide) ?_
  refine x_min C s_Plan_50 static_Math_min i_Math code_Math_min ⟨by omega, by omega⟩ (by decide) (Nat.le_of_ble_eq_true rfl) hR (by omega) (by omega) (by omega) dX6_read_7 ?_
  refine x_re (b := (m : Int)) (by split <;> omega) ?_
  refine x_put C p_Plan_43 P.1 (fit_int _) (Nat.le_of_ble_eq_true rfl) (h1 := (va_up h (ad B) (xO 5 [.ref (ad (B + 1)), .ref (ad (B + 2)), .ref (ad (B + 3)), vi tot, .ref (ad (B + 4)), .ref (ad (B + 5)), .ref (ad (B + 6)), vi (m : Int)]))) rfl dX6_read_10 ?_
  have P0 : PR G (va_up h (ad B) (xO 5 [.ref (ad (B + 1)), .ref (ad (B + 2)), .ref (ad (B + 3)), vi tot, .ref (ad (B + 4)), .ref (ad (B + 5)), .ref (ad (B + 6)), vi (m : Int)])) ad B Ls fx ln ch tot m rs := by
    obtain ⟨p1, p2, p3, p4, p5, p6, p7, p8, p9⟩ := P
    exact ⟨up_s, (up_n (adne hj (by omega) (by omega) (by omega))).trans p2, (up_n (adne hj (by omega) (by omega) (by omega))).trans p3, (up_n (adne hj (by omega) (by omega) (by omega))).trans p4, (up_n (adne hj (by omega) (by omega) (by omega))).trans p5, (up_n (adne hj (by omega) (by omega) (by omega))).trans p6, p7.kept (up_n (adne hj (by omega) (by omega) (by omega))) (up_n (adne hj (by omega) (by omega) (by omega))), fun c hc => (p8 c hc).kept (up_n (adne hj (by omega) (by omega) (by omega))) (up_n (adne hj (by omega) (by omega) (by omega))) (up_n (adne hj (by omega) (by omega) (by omega))) (up_n (adne hj (by omega) (by omega) (by omega))), fun c hc => (up_n (adne hj (by omega) (by omega) (by omega))).trans (p9 c hc)⟩
  have F0 : frB ad B h (va_up h (ad B) (xO 5 [.ref (ad (B + 1)), .ref (ad (B + 2)), .ref (ad (B + 3)), vi tot, .ref (ad (B + 4)), .ref (ad (B + 5)), .ref (ad (B + 6)), vi (m : Int)])) := fun x hx => up_n (hx 0 (by omega))
  refine x_iconst C dX6_read_13 ?_
  refine x_istore_n C (ls' := [some (.ref (ad B)), some (.ref (ad jI)), some (.ref (ad 7)), some (vi 0), none]) dX6_read_14 rfl (by decide) rfl ?_
  have L15 : ∀ (n0 : Nat) (k : Nat) (hp : PH), m - k < n0 → (k ≤ m) → (PR G hp ad B (upk k (LT n op sl cp rc si pt) Ls) (upk k (fun c => numL (LT n op sl cp rc si pt c) (cf c)) fx) (upk k cl ln) ch tot m rs) → (frB ad B h hp) → X G K 5 15 [some (.ref (ad B)), some (.ref (ad jI)), some (.ref (ad 7)), some (vi (k : Int)), none] [] hp 0 0 := by
    intro n0
    induction n0 with
    | zero => intro k hp hm; exact absurd hm (Nat.not_lt_zero _)
    | succ n0 ih_L15 =>
      intro k hp hm i1 P1 F
      skip
      refine x_iload_n C dX6_read_15 rfl rfl ?_
      refine x_aload_n C dX6_read_16 rfl rfl ?_
      refine x_get C f_Plan_43 P1.1 rfl dX6_read_17 ?_
      refine x_icmp_ge C (tgt := 96) dX6_read_20 (by decide) ⟨by omega, by omega⟩ ⟨by omega, by omega⟩ (fun c20 => ?_) (fun c20 => ?_)
      · skip
        have e0 : k = m := by omega
        subst e0
        exact x_vret C E rfl (by omega) (by omega) dX6_read_96 (⟨rfl, P1, F⟩)
      · skip
        refine x_aload_n C dX6_read_23 rfl rfl ?_
        refine x_get C f_Plan_56 ((F.ad hj hB (by omega) (by omega)).trans PP.1) rfl dX6_read_24 ?_
        refine x_iload_n C dX6_read_27 rfl rfl ?_
        refine x_aald C (t := 4) rfl rfl ((F.ad hj hB (by omega) (by omega)).trans PP.2.1) ⟨by omega, by omega, by omega⟩ (b := (ad (20 + k))) rfl dX6_read_28 ?_
        refine x_astore C (ls' := [some (.ref (ad B)), some (.ref (ad jI)), some (.ref (ad 7)), some (vi (k : Int)), some (.ref (ad (20 + k)))]) dX6_read_29 (by decide) rfl ?_
        have hsi := VC.2.1 k
        refine x_aload_n C dX6_read_31 rfl rfl ?_
        refine x_get C f_Plan_11 P1.1 rfl dX6_read_32 ?_
        refine x_iload_n C dX6_read_35 rfl rfl ?_
        refine x_aald C (t := 5) rfl rfl P1.2.1 ⟨by omega, by omega, by omega⟩ (b := (ad (B + 8 + k))) rfl dX6_read_36 ?_
        obtain ⟨gbk, gek, glk, -, hgbk, hgek, hglk, hGLk⟩ := P1.2.2.2.2.2.2.2.1 k (by omega)
        refine x_iconst C dX6_read_37 ?_
        refine x_put C p_Plan_60 (P1.2.2.2.2.2.2.2.1 k (by omega)).obj (fit_int _) (Nat.le_of_ble_eq_true rfl) (h1 := (va_up hp (ad (B + 8 + k)) (xO 1 [.ref (ad (B + 20 + k)), .ref (ad (B + 32 + k)), .ref (ad (B + 44 + k)), vi 0]))) rfl dX6_read_38 ?_
        refine x_aload_n C dX6_read_41 rfl rfl ?_
        refine x_get C f_Plan_11 ((up_n (adne hj (by omega) (by omega) (by omega))).trans P1.1) rfl dX6_read_42 ?_
        refine x_iload_n C dX6_read_45 rfl rfl ?_
        refine x_aald C (t := 5) rfl rfl ((up_n (adne hj (by omega) (by omega) (by omega))).trans P1.2.1) ⟨by omega, by omega, by omega⟩ (b := (ad (B + 8 + k))) rfl dX6_read_46 ?_
        refine x_aload_n C dX6_read_47 rfl rfl ?_
        refine x_get C f_Plan_39 ((up_n (adne hj (by omega) (by omega) (by omega))).trans P1.1) rfl dX6_read_48 ?_
        refine x_aload_n C dX6_read_51 rfl rfl ?_
        refine x_aload C dX6_read_52 rfl ?_
        refine x_iconst C dX6_read_54 ?_
        refine x_iconst C dX6_read_55 ?_
        refine x_invS C s_Plan_63 (st := []) (c_place (si k) (L := []) (k := 0) (cd := 0) ⟨gbk, gek, glk, up_s, ((up_n (adne hj (by omega) (by omega) (by omega))).trans hgbk), ((up_n (adne hj (by omega) (by omega) (by omega))).trans hgek), ((up_n (adne hj (by omega) (by omega) (by omega))).trans hglk), GL_nil hGLk⟩ (P1.2.2.2.2.2.2.1.kept (up_n (adne hj (by omega) (by omega) (by omega))) (up_n (adne hj (by omega) (by omega) (by omega)))) ⟨((up_n (adne hj (by omega) (by omega) (by omega))).trans ((F.ad hj hB (by omega) (by omega)).trans PI.1)), ((up_n (adne hj (by omega) (by omega) (by omega))).trans ((F.ad hj hB (by omega) (by omega)).trans PI.2.1)), ((up_n (adne hj (by omega) (by omega) (by omega))).trans ((F.ad hj hB (by omega) (by omega)).trans PI.2.2)), ((up_n (adne hj (by omega) (by omega) (by omega))).trans ((F.ad hj hB (by omega) (by omega)).trans (PP.2.2 k (by omega)).1)), ((up_n (adne hj (by omega) (by omega) (by omega))).trans ((F.ad hj hB (by omega) (by omega)).trans (PP.2.2 k (by omega)).2))⟩ ⟨VI.1, fun j hj => by have := VI.2.1 j hj; omega, by have := VI.2.2.1; omega, (by have := VI.2.2.2; exact ⟨by omega, by omega⟩), hsi, fun j hj => by have := VC.2.2.2.1 k j (by omega) hj; omega⟩ (ndpA hj hB (by omega) hJ) (by omega) (by omega)) rfl rfl (Nat.le_of_ble_eq_true rfl) (xRm_of hR (by omega) (by decide) (by omega) (by omega)) dX6_read_56 (fun r9 h9 hq => ?_)
        obtain ⟨rfl, hG9, hH9, F2⟩ := hq
        obtain ⟨gbk9, gek9, glk9, hgok9, hgbk9, hgek9, hglk9, hGLk9⟩ := id hG9
        have en : num gbk9 (cf k) (((LT n op sl cp rc si pt k)).length) = numL (LT n op sl cp rc si pt k) (cf k) := nOf_cong (fun j hj => (hGLk9.2.1 j hj).1) _ (Nat.le_refl _)
        refine x_aload_n C dX6_read_59 rfl rfl ?_
        refine x_get C f_Plan_17 ((F2 (ad B) (adne hj (by omega) (by omega) (by omega)) (adne hj (by omega) (by omega) (by omega)) (adne hj (by omega) (by omega) (by omega)) (adne hj (by omega) (by omega) (by omega)) (adne hj (by omega) (by omega) (by omega)) (adne hj (by omega) (by omega) (by omega))).trans ((up_n (adne hj (by omega) (by omega) (by omega))).trans P1.1)) rfl dX6_read_60 ?_
        refine x_iload_n C dX6_read_63 rfl rfl ?_
        refine x_aload_n C dX6_read_64 rfl rfl ?_
        refine x_get C f_Plan_11 ((F2 (ad B) (adne hj (by omega) (by omega) (by omega)) (adne hj (by omega) (by omega) (by omega)) (adne hj (by omega) (by omega) (by omega)) (adne hj (by omega) (by omega) (by omega)) (adne hj (by omega) (by omega) (by omega)) (adne hj (by omega) (by omega) (by omega))).trans ((up_n (adne hj (by omega) (by omega) (by omega))).trans P1.1)) rfl dX6_read_65 ?_
        refine x_iload_n C dX6_read_68 rfl rfl ?_
        refine x_aald C (t := 5) rfl rfl ((F2 (ad (B + 1)) (adne hj (by omega) (by omega) (by omega)) (adne hj (by omega) (by omega) (by omega)) (adne hj (by omega) (by omega) (by omega)) (adne hj (by omega) (by omega) (by omega)) (adne hj (by omega) (by omega) (by omega)) (adne hj (by omega) (by omega) (by omega))).trans ((up_n (adne hj (by omega) (by omega) (by omega))).trans P1.2.1)) ⟨by omega, by omega, by omega⟩ (b := (ad (B + 8 + k))) rfl dX6_read_69 ?_
        refine x_aload C dX6_read_70 rfl ?_
        refine x_get C f_Plan_67 ((F2 (ad (20 + k)) (adne hj (by omega) (by omega) (by omega)) (adne hj (by omega) (by omega) (by omega)) (adne hj (by omega) (by omega) (by omega)) (adne hj (by omega) (by omega) (by omega)) (adne hj (by omega) (by omega) (by omega)) (adne hj (by omega) (by omega) (by omega))).trans ((up_n (adne hj (by omega) (by omega) (by omega))).trans ((F.ad hj hB (by omega) (by omega)).trans (PP.2.2 k (by omega)).1))) rfl dX6_read_72 ?_
        refine x_invV C s_Plan_72 (st := [vi (k : Int), .ref (ad (B + 2))]) (c_Grips_numberOf hgok9 hGLk9.1 hgbk9 (fun j _ => (hGLk9.2.2.1 j).1) (VC.2.2.2.2 k).2) hgok9 rfl rfl (Nat.le_of_ble_eq_true rfl) (xRm_of hR (by omega) (by decide) (by omega) (by omega)) dX6_read_75 (fun r9 h9 hq => ?_)
        obtain ⟨rfl, e9⟩ := hq
        have e9 := e9.symm
        subst e9
        refine x_re (b := (numL (LT n op sl cp rc si pt k) (cf k))) (en) ?_
        refine x_iast C ((F2 (ad (B + 2)) (adne hj (by omega) (by omega) (by omega)) (adne hj (by omega) (by omega) (by omega)) (adne hj (by omega) (by omega) (by omega)) (adne hj (by omega) (by omega) (by omega)) (adne hj (by omega) (by omega) (by omega)) (adne hj (by omega) (by omega) (by omega))).trans ((up_n (adne hj (by omega) (by omega) (by omega))).trans P1.2.2.1)) ⟨by omega, by omega, by omega⟩ (h1 := (va_up h9 (ad (B + 2)) (xI G 12 (va_up (upk k (fun c => numL (LT n op sl cp rc si pt c) (cf c)) fx) k (numL (LT n op sl cp rc si pt k) (cf k)))))) rfl dX6_read_78 ?_
        refine x_aload_n C dX6_read_79 rfl rfl ?_
        refine x_get C f_Plan_28 ((up_n (adne hj (by omega) (by omega) (by omega))).trans ((F2 (ad B) (adne hj (by omega) (by omega) (by omega)) (adne hj (by omega) (by omega) (by omega)) (adne hj (by omega) (by omega) (by omega)) (adne hj (by omega) (by omega) (by omega)) (adne hj (by omega) (by omega) (by omega)) (adne hj (by omega) (by omega) (by omega))).trans ((up_n (adne hj (by omega) (by omega) (by omega))).trans P1.1))) rfl dX6_read_80 ?_
        refine x_iload_n C dX6_read_83 rfl rfl ?_
        refine x_aload C dX6_read_84 rfl ?_
        refine x_get C f_Plan_76 ((up_n (adne hj (by omega) (by omega) (by omega))).trans ((F2 (ad (20 + k)) (adne hj (by omega) (by omega) (by omega)) (adne hj (by omega) (by omega) (by omega)) (adne hj (by omega) (by omega) (by omega)) (adne hj (by omega) (by omega) (by omega)) (adne hj (by omega) (by omega) (by omega)) (adne hj (by omega) (by omega) (by omega))).trans ((up_n (adne hj (by omega) (by omega) (by omega))).trans ((F.ad hj hB (by omega) (by omega)).trans (PP.2.2 k (by omega)).1)))) rfl dX6_read_86 ?_
        refine x_iast C ((up_n (adne hj (by omega) (by omega) (by omega))).trans ((F2 (ad (B + 4)) (adne hj (by omega) (by omega) (by omega)) (adne hj (by omega) (by omega) (by omega)) (adne hj (by omega) (by omega) (by omega)) (adne hj (by omega) (by omega) (by omega)) (adne hj (by omega) (by omega) (by omega)) (adne hj (by omega) (by omega) (by omega))).trans ((up_n (adne hj (by omega) (by omega) (by omega))).trans P1.2.2.2.2.1))) ⟨by omega, by omega, by omega⟩ (h1 := (va_up (va_up h9 (ad (B + 2)) (xI G 12 (va_up (upk k (fun c => numL (LT n op sl cp rc si pt c) (cf c)) fx) k (numL (LT n op sl cp rc si pt k) (cf k))))) (ad (B + 4)) (xI G 12 (va_up (upk k cl ln) k (cl k))))) rfl dX6_read_89 ?_
        refine x_iinc C (ls' := [some (.ref (ad B)), some (.ref (ad jI)), some (.ref (ad 7)), some (vi ((k : Int) + 1)), some (.ref (ad (20 + k)))]) dX6_read_90 rfl (by decide) (z1 := ((k : Int) + 1)) rfl rfl ?_
        refine x_goto C (tgt := 15) dX6_read_93 (by decide) ?_
        refine X.sub (ls' := [some (.ref (ad B)), some (.ref (ad jI)), some (.ref (ad 7)), some (vi ((k : Int) + 1)), none]) (sub_cons (Or.inr rfl) (sub_cons (Or.inr rfl) (sub_cons (Or.inr rfl) (sub_cons (Or.inr rfl) (sub_cons (Or.inl rfl) sub_nil))))) ?_
        have F9 : ∀ x, (∀ i, i < 68 → x ≠ ad (B + i)) → (va_up (va_up h9 (ad (B + 2)) (xI G 12 (va_up (upk k (fun c => numL (LT n op sl cp rc si pt c) (cf c)) fx) k (numL (LT n op sl cp rc si pt k) (cf k))))) (ad (B + 4)) (xI G 12 (va_up (upk k cl ln) k (cl k)))) x = h x := fun x hx => by
          have t2 := F2 x (by rw [Nat.add_assoc]; exact hx _ (by omega)) (by rw [Nat.add_assoc]; exact hx _ (by omega)) (by rw [Nat.add_assoc]; exact hx _ (by omega)) (by rw [Nat.add_assoc]; exact hx _ (by omega)) (hx _ (by omega)) (hx _ (by omega))
          have t3 : hp x = h x := F x hx
          exact (up_n (hx _ (by omega))).trans ((up_n (hx _ (by omega))).trans (t2.trans ((up_n (by rw [Nat.add_assoc]; exact hx _ (by omega))).trans t3)))
        have P9 := P1.upd (c0 := k) (L1 := LT n op sl cp rc si pt k) (h1 := (va_up (va_up h9 (ad (B + 2)) (xI G 12 (va_up (upk k (fun c => numL (LT n op sl cp rc si pt c) (cf c)) fx) k (numL (LT n op sl cp rc si pt k) (cf k))))) (ad (B + 4)) (xI G 12 (va_up (upk k cl ln) k (cl k))))) (by omega) (hG9.kept (((up_n (adne hj (by omega) (by omega) (by omega))).trans (up_n (adne hj (by omega) (by omega) (by omega))))) (((up_n (adne hj (by omega) (by omega) (by omega))).trans (up_n (adne hj (by omega) (by omega) (by omega))))) (((up_n (adne hj (by omega) (by omega) (by omega))).trans (up_n (adne hj (by omega) (by omega) (by omega))))) (((up_n (adne hj (by omega) (by omega) (by omega))).trans (up_n (adne hj (by omega) (by omega) (by omega)))))) (hH9.kept ((up_n (adne hj (by omega) (by omega) (by omega))).trans (up_n (adne hj (by omega) (by omega) (by omega)))) ((up_n (adne hj (by omega) (by omega) (by omega))).trans (up_n (adne hj (by omega) (by omega) (by omega))))) (((up_n (adne hj (by omega) (by omega) (by omega))).trans up_s)) (up_s) (fun i hi n2 n4 n6 n7 n8 n20 n32 n44 => (up_n (adne hj (by omega) (by omega) (by omega))).trans ((up_n (adne hj (by omega) (by omega) (by omega))).trans ((F2 (ad (B + i)) (adne hj (by omega) (by omega) (by omega)) (adne hj (by omega) (by omega) (by omega)) (adne hj (by omega) (by omega) (by omega)) (adne hj (by omega) (by omega) (by omega)) (adne hj (by omega) (by omega) (by omega)) (adne hj (by omega) (by omega) (by omega))).trans (up_n (adne hj (by omega) (by omega) (by omega))))))
        have P8 : PR G (va_up (va_up h9 (ad (B + 2)) (xI G 12 (va_up (upk k (fun c => numL (LT n op sl cp rc si pt c) (cf c)) fx) k (numL (LT n op sl cp rc si pt k) (cf k))))) (ad (B + 4)) (xI G 12 (va_up (upk k cl ln) k (cl k)))) ad B (upk (k + 1) (LT n op sl cp rc si pt) Ls) (upk (k + 1) (fun c => numL (LT n op sl cp rc si pt c) (cf c)) fx) (upk (k + 1) cl ln) ch tot m rs := by rw [← upk_s, ← upk_s, ← upk_s]; exact P9
        exact ih_L15 (k + 1) (va_up (va_up h9 (ad (B + 2)) (xI G 12 (va_up (upk k (fun c => numL (LT n op sl cp rc si pt c) (cf c)) fx) k (numL (LT n op sl cp rc si pt k) (cf k))))) (ad (B + 4)) (xI G 12 (va_up (upk k cl ln) k (cl k)))) (by omega) (by omega) (P8) (F9)
  exact L15 _ 0 (va_up h (ad B) (xO 5 [.ref (ad (B + 1)), .ref (ad (B + 2)), .ref (ad (B + 3)), vi tot, .ref (ad (B + 4)), .ref (ad (B + 5)), .ref (ad (B + 6)), vi (m : Int)])) (Nat.lt_succ_self _) (by omega) (by rw [upk_0, upk_0, upk_0]; exact P0) (F0)
