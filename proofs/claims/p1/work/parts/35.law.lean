/-! The law: what each kind of call comes to, at the start. -/
set_option maxRecDepth 100000 in
set_option maxHeartbeats 4000000 in
theorem law_string_no {G : xG} {K : xK} {h : PH} {ad : Nat → Nat} {fq : Bool} {sb b o a1 a2 a3 a4 a5 a6 a7 a8 bt L cells slots mc9 ms9 : Nat} {go : Nat → Int64} {xs : Nat → Int32} (C : xC G K "TablatureLaw" code 9) (hR : xGe K 200 mc9 ms9) (hrm : 100000 ≤ mc9 ∧ 1000000 ≤ ms9) (T : xTS G (ks K) (ks K).heap) (hj : ∀ i j, i < 300 → j < 300 → ad i = ad j → i = j) (TT : TabR G h ad fq Q0 P0) (hB : h b = (xO 8 [vi 0, vi 0, .ref a1, .ref a2, vi 0, vi 3, vi 0, .ref a3, .ref a4, .ref a5, .ref a6, .ref a7, .ref a8, vi 0, vi 0, .ref bt])) (hO : h o = xL G 1 go) (hA1 : h a1 = xI G 6 (fun _ => 0)) (hA3 : h a3 = xQ G 3 12 (fun _ => none)) (hA4 : h a4 = xI G 12 (fun _ => 0)) (hA5 : h a5 = xZ G 12 (fun _ => false)) (n45 : a4 ≠ a5) (hn : ∀ i, own i → b ≠ ad i ∧ o ≠ ad i ∧ a1 ≠ ad i ∧ a3 ≠ ad i ∧ a4 ≠ ad i ∧ a5 ≠ ad i) (hX : va_X sb L xs (ks K) (ks K).heap) (hbl : sb < gN G) (hbs : sb < (ks K).heap.size) (hL : L = 6) (hc : cells ≤ 1000) (hs : slots ≤ 10000) (kk : ∀ (h' : PH) (c9 s9 : Nat), c9 ≤ 2000 → s9 ≤ 20000 → X G K 9 1818 [some (.ref sb), some (.ref (ad 0)), some (.ref b), some (.ref o), some (vi 0), none, none, none, none] [] h' c9 s9) (hv : ¬ (0 ≤ (xs 1).toInt ∧ (xs 1).toInt ≤ 60)) : X G K 9 164 [some (.ref sb), some (.ref (ad 0)), some (.ref b), some (.ref o), some (vi 0), none, none, none, none] [] h cells slots := by
  obtain ⟨tq, -, tt, -, -⟩ := id TT.1
  have hnb := fun i hi => (hn i hi).1
  have hno := fun i hi => (hn i hi).2.1
  have hna := fun i hi => (hn i hi).2.2
  refine x_aload_n C dL_law_164 rfl rfl ?_
  refine x_aload_n C dL_law_165 rfl rfl ?_
  refine x_iload C dL_law_166 rfl ?_
  refine x_iconst C dL_law_168 ?_
  refine x_iadd C dL_law_169 ?_
  refine x_sld C hX hbl hbs (v := (xs 1).toInt) ⟨by omega, by omega, by omega⟩ (I_of _).symm dL_law_170 ?_
  refine x_aload_n C dL_law_171 rfl rfl ?_
  refine x_invSH C T sh_91 (st := []) (c_H_string_no tt (c_string_no hj TT (v := (xs 1).toInt) (I_bd (xs 1)) hv)) rfl rfl (Nat.le_of_ble_eq_true rfl) (xRm_of hR (by omega) (by decide) (by omega) (by omega)) dL_law_172 (fun r9 h9 hq => ?_)
  obtain ⟨rfl, e9⟩ := hq
  have e9 := e9.symm
  subst e9
  refine x_istore C (ls' := [some (.ref sb), some (.ref (ad 0)), some (.ref b), some (.ref o), some (vi 0), some (vi 1), none, none, none]) dL_law_175 (by decide) rfl ?_
  refine x_aload_n C dL_law_177 rfl rfl ?_
  refine x_aload_n C dL_law_178 rfl rfl ?_
  refine x_iload C dL_law_179 rfl ?_
  refine x_iconst C dL_law_181 ?_
  refine x_iadd C dL_law_182 ?_
  refine x_sld C hX hbl hbs (v := (xs 1).toInt) ⟨by omega, by omega, by omega⟩ (I_of _).symm dL_law_183 ?_
  refine x_invV C s_Law_96 (st := []) (c_Mo_string_no hB hO (v := (xs 1).toInt) (I_bd (xs 1)) hv) hB rfl rfl (Nat.le_of_ble_eq_true rfl) (xRm_of hR (by omega) (by decide) (by omega) (by omega)) dL_law_184 (fun r9 h8 hq => ?_)
  obtain ⟨rfl, ⟨fs8, gb⟩, g8⟩ := hq
  refine x_istore C (ls' := [some (.ref sb), some (.ref (ad 0)), some (.ref b), some (.ref o), some (vi 0), some (vi 1), some (vi 0), none, none]) dL_law_187 (by decide) rfl ?_
  refine x_aload_n C dL_law_189 rfl rfl ?_
  refine x_invV C s_Law_97 (st := []) (c_Mo_thrown gb) gb rfl rfl (Nat.le_of_ble_eq_true rfl) (xRm_of hR (by omega) (by decide) (by omega) (by omega)) dL_law_190 (fun r9 h7 hq => ?_)
  obtain ⟨rfl, e9⟩ := hq
  have e9 := e9.symm
  subst e9
  refine x_iload C dL_law_193 rfl ?_
  refine x_icmp_eq C (tgt := 200) dL_law_195 (by decide) (by decide) (by decide) (fun c195 => ?_) (fun c195 => ?_)
  · skip
    refine x_iload C dL_law_200 rfl ?_
    refine x_if_ne C (tgt := 217) dL_law_202 (by decide) (by decide) (fun c202 => ?_) (fun c202 => ?_)
    · skip
      refine x_goto C (tgt := 1818) dL_law_217 (by decide) ?_
      refine X.sub (ls' := [some (.ref sb), some (.ref (ad 0)), some (.ref b), some (.ref o), some (vi 0), none, none, none, none]) (sub_cons (Or.inr rfl) (sub_cons (Or.inr rfl) (sub_cons (Or.inr rfl) (sub_cons (Or.inr rfl) (sub_cons (Or.inr rfl) (sub_cons (Or.inl rfl) (sub_cons (Or.inl rfl) (sub_cons (Or.inl rfl) (sub_cons (Or.inl rfl) sub_nil))))))))) ?_
      exact kk h8 _ _ (by omega) (by omega)
    · skip
      exact absurd c202 (by decide)
  · skip
    exact absurd rfl c195

set_option maxRecDepth 100000 in
set_option maxHeartbeats 4000000 in
theorem law_string_ok {G : xG} {K : xK} {h : PH} {ad : Nat → Nat} {fq : Bool} {sb b o a1 a2 a3 a4 a5 a6 a7 a8 bt L cells slots mc9 ms9 : Nat} {go : Nat → Int64} {xs : Nat → Int32} (C : xC G K "TablatureLaw" code 9) (hR : xGe K 200 mc9 ms9) (hrm : 100000 ≤ mc9 ∧ 1000000 ≤ ms9) (T : xTS G (ks K) (ks K).heap) (hj : ∀ i j, i < 300 → j < 300 → ad i = ad j → i = j) (TT : TabR G h ad fq Q0 P0) (hB : h b = (xO 8 [vi 0, vi 0, .ref a1, .ref a2, vi 0, vi 3, vi 0, .ref a3, .ref a4, .ref a5, .ref a6, .ref a7, .ref a8, vi 0, vi 0, .ref bt])) (hO : h o = xL G 1 go) (hA1 : h a1 = xI G 6 (fun _ => 0)) (hA3 : h a3 = xQ G 3 12 (fun _ => none)) (hA4 : h a4 = xI G 12 (fun _ => 0)) (hA5 : h a5 = xZ G 12 (fun _ => false)) (n45 : a4 ≠ a5) (hn : ∀ i, own i → b ≠ ad i ∧ o ≠ ad i ∧ a1 ≠ ad i ∧ a3 ≠ ad i ∧ a4 ≠ ad i ∧ a5 ≠ ad i) (hX : va_X sb L xs (ks K) (ks K).heap) (hbl : sb < gN G) (hbs : sb < (ks K).heap.size) (hL : L = 6) (hc : cells ≤ 1000) (hs : slots ≤ 10000) (kk : ∀ (h' : PH) (c9 s9 : Nat), c9 ≤ 2000 → s9 ≤ 20000 → X G K 9 1818 [some (.ref sb), some (.ref (ad 0)), some (.ref b), some (.ref o), some (vi 0), none, none, none, none] [] h' c9 s9) (hv : 0 ≤ (xs 1).toInt ∧ (xs 1).toInt ≤ 60) : X G K 9 164 [some (.ref sb), some (.ref (ad 0)), some (.ref b), some (.ref o), some (vi 0), none, none, none, none] [] h cells slots := by
  obtain ⟨tq, -, tt, -, -⟩ := id TT.1
  have hnb := fun i hi => (hn i hi).1
  have hno := fun i hi => (hn i hi).2.1
  have hna := fun i hi => (hn i hi).2.2
  refine x_aload_n C dL_law_164 rfl rfl ?_
  refine x_aload_n C dL_law_165 rfl rfl ?_
  refine x_iload C dL_law_166 rfl ?_
  refine x_iconst C dL_law_168 ?_
  refine x_iadd C dL_law_169 ?_
  refine x_sld C hX hbl hbs (v := (xs 1).toInt) ⟨by omega, by omega, by omega⟩ (I_of _).symm dL_law_170 ?_
  refine x_aload_n C dL_law_171 rfl rfl ?_
  refine x_invSH C T sh_91 (st := []) (c_H_string_ok tt (z := 0) (PP := frO ad h) (c0_string hj TT hv) (fun h1 p1 => (p1 _ hno).trans hO)) rfl rfl (Nat.le_of_ble_eq_true rfl) (xRm_of hR (by omega) (by decide) (by omega) (by omega)) dL_law_172 (fun r9 h9 hq => ?_)
  obtain ⟨rfl, h1, p1, rfl⟩ := hq
  refine x_istore C (ls' := [some (.ref sb), some (.ref (ad 0)), some (.ref b), some (.ref o), some (vi 0), some (vi 0), none, none, none]) dL_law_175 (by decide) rfl ?_
  refine x_aload_n C dL_law_177 rfl rfl ?_
  refine x_aload_n C dL_law_178 rfl rfl ?_
  refine x_iload C dL_law_179 rfl ?_
  refine x_iconst C dL_law_181 ?_
  refine x_iadd C dL_law_182 ?_
  refine x_sld C hX hbl hbs (v := (xs 1).toInt) ⟨by omega, by omega, by omega⟩ (I_of _).symm dL_law_183 ?_
  refine x_invV C s_Law_96 (st := []) (c_Mo_string_ok ((up_n (ne_k ((p1 _ (hnb)).trans hB) ((p1 _ (hno)).trans hO) (knn rfl))).trans ((p1 _ (hnb)).trans hB)) up_s ((up_n (ne_k ((p1 _ (fun i hi => (hna i hi).1)).trans hA1) ((p1 _ (hno)).trans hO) (knn rfl))).trans ((p1 _ (fun i hi => (hna i hi).1)).trans hA1)) (v := (xs 1).toInt) hv) ((up_n (ne_k ((p1 _ (hnb)).trans hB) ((p1 _ (hno)).trans hO) (knn rfl))).trans ((p1 _ (hnb)).trans hB)) rfl rfl (Nat.le_of_ble_eq_true rfl) (xRm_of hR (by omega) (by decide) (by omega) (by omega)) dL_law_184 (fun r9 h8 hq => ?_)
  obtain ⟨rfl, ⟨fs8, gb⟩, g8⟩ := hq
  refine x_istore C (ls' := [some (.ref sb), some (.ref (ad 0)), some (.ref b), some (.ref o), some (vi 0), some (vi 0), some (vi 0), none, none]) dL_law_187 (by decide) rfl ?_
  refine x_aload_n C dL_law_189 rfl rfl ?_
  refine x_invV C s_Law_97 (st := []) (c_Mo_thrown gb) gb rfl rfl (Nat.le_of_ble_eq_true rfl) (xRm_of hR (by omega) (by decide) (by omega) (by omega)) dL_law_190 (fun r9 h7 hq => ?_)
  obtain ⟨rfl, e9⟩ := hq
  have e9 := e9.symm
  subst e9
  refine x_iload C dL_law_193 rfl ?_
  refine x_icmp_eq C (tgt := 200) dL_law_195 (by decide) (by decide) (by decide) (fun c195 => ?_) (fun c195 => ?_)
  · skip
    refine x_iload C dL_law_200 rfl ?_
    refine x_if_ne C (tgt := 217) dL_law_202 (by decide) (by decide) (fun c202 => ?_) (fun c202 => ?_)
    · skip
      exact absurd rfl c202
    · skip
      refine x_aload_n C dL_law_205 rfl rfl ?_
      refine x_iconst C dL_law_206 ?_
      refine x_lald C g8 ⟨by omega, by omega, by omega⟩ dL_law_207 ?_
      refine x_iload C dL_law_208 rfl ?_
      refine x_i2l C dL_law_210 ?_
      refine x_lcmpQ C (vpu_s _ _ _) dL_law_211 ?_
      refine x_if_eq C (tgt := 217) dL_law_212 (by decide) (by decide) (fun c212 => ?_) (fun c212 => ?_)
      · skip
        refine x_goto C (tgt := 1818) dL_law_217 (by decide) ?_
        refine X.sub (ls' := [some (.ref sb), some (.ref (ad 0)), some (.ref b), some (.ref o), some (vi 0), none, none, none, none]) (sub_cons (Or.inr rfl) (sub_cons (Or.inr rfl) (sub_cons (Or.inr rfl) (sub_cons (Or.inr rfl) (sub_cons (Or.inr rfl) (sub_cons (Or.inl rfl) (sub_cons (Or.inl rfl) (sub_cons (Or.inl rfl) (sub_cons (Or.inl rfl) sub_nil))))))))) ?_
        exact kk h8 _ _ (by omega) (by omega)
      · skip
        exact absurd rfl c212
  · skip
    exact absurd rfl c195

set_option maxRecDepth 100000 in
set_option maxHeartbeats 4000000 in
theorem law_tune_no {G : xG} {K : xK} {h : PH} {ad : Nat → Nat} {fq : Bool} {sb b o a1 a2 a3 a4 a5 a6 a7 a8 bt L cells slots mc9 ms9 : Nat} {go : Nat → Int64} {xs : Nat → Int32} (C : xC G K "TablatureLaw" code 9) (hR : xGe K 200 mc9 ms9) (hrm : 100000 ≤ mc9 ∧ 1000000 ≤ ms9) (T : xTS G (ks K) (ks K).heap) (hj : ∀ i j, i < 300 → j < 300 → ad i = ad j → i = j) (TT : TabR G h ad fq Q0 P0) (hB : h b = (xO 8 [vi 0, vi 0, .ref a1, .ref a2, vi 0, vi 3, vi 0, .ref a3, .ref a4, .ref a5, .ref a6, .ref a7, .ref a8, vi 0, vi 0, .ref bt])) (hO : h o = xL G 1 go) (hA1 : h a1 = xI G 6 (fun _ => 0)) (hA3 : h a3 = xQ G 3 12 (fun _ => none)) (hA4 : h a4 = xI G 12 (fun _ => 0)) (hA5 : h a5 = xZ G 12 (fun _ => false)) (n45 : a4 ≠ a5) (hn : ∀ i, own i → b ≠ ad i ∧ o ≠ ad i ∧ a1 ≠ ad i ∧ a3 ≠ ad i ∧ a4 ≠ ad i ∧ a5 ≠ ad i) (hX : va_X sb L xs (ks K) (ks K).heap) (hbl : sb < gN G) (hbs : sb < (ks K).heap.size) (hL : L = 6) (hc : cells ≤ 1000) (hs : slots ≤ 10000) (kk : ∀ (h' : PH) (c9 s9 : Nat), c9 ≤ 2000 → s9 ≤ 20000 → X G K 9 1818 [some (.ref sb), some (.ref (ad 0)), some (.ref b), some (.ref o), some (vi 0), none, none, none, none] [] h' c9 s9)  : X G K 9 220 [some (.ref sb), some (.ref (ad 0)), some (.ref b), some (.ref o), some (vi 0), none, none, none, none] [] h cells slots := by
  obtain ⟨tq, -, tt, -, -⟩ := id TT.1
  have hnb := fun i hi => (hn i hi).1
  have hno := fun i hi => (hn i hi).2.1
  have hna := fun i hi => (hn i hi).2.2
  refine x_aload_n C dL_law_220 rfl rfl ?_
  refine x_aload_n C dL_law_221 rfl rfl ?_
  refine x_iload C dL_law_222 rfl ?_
  refine x_iconst C dL_law_224 ?_
  refine x_iadd C dL_law_225 ?_
  refine x_sld C hX hbl hbs (v := (xs 1).toInt) ⟨by omega, by omega, by omega⟩ (I_of _).symm dL_law_226 ?_
  refine x_aload_n C dL_law_227 rfl rfl ?_
  refine x_iload C dL_law_228 rfl ?_
  refine x_iconst C dL_law_230 ?_
  refine x_iadd C dL_law_231 ?_
  refine x_sld C hX hbl hbs (v := (xs 2).toInt) ⟨by omega, by omega, by omega⟩ (I_of _).symm dL_law_232 ?_
  refine x_aload_n C dL_law_233 rfl rfl ?_
  refine x_invSH C T sh_101 (st := []) (c_H_tune_no tt (c_tune_no hj TT (v := (xs 1).toInt) (I_bd (xs 1)) (by show ¬ (0 ≤ _ ∧ _ < (0 : Int)); omega))) rfl rfl (Nat.le_of_ble_eq_true rfl) (xRm_of hR (by omega) (by decide) (by omega) (by omega)) dL_law_234 (fun r9 h9 hq => ?_)
  obtain ⟨rfl, e9⟩ := hq
  have e9 := e9.symm
  subst e9
  refine x_istore C (ls' := [some (.ref sb), some (.ref (ad 0)), some (.ref b), some (.ref o), some (vi 0), some (vi 1), none, none, none]) dL_law_237 (by decide) rfl ?_
  refine x_aload_n C dL_law_239 rfl rfl ?_
  refine x_aload_n C dL_law_240 rfl rfl ?_
  refine x_iload C dL_law_241 rfl ?_
  refine x_iconst C dL_law_243 ?_
  refine x_iadd C dL_law_244 ?_
  refine x_sld C hX hbl hbs (v := (xs 1).toInt) ⟨by omega, by omega, by omega⟩ (I_of _).symm dL_law_245 ?_
  refine x_aload_n C dL_law_246 rfl rfl ?_
  refine x_iload C dL_law_247 rfl ?_
  refine x_iconst C dL_law_249 ?_
  refine x_iadd C dL_law_250 ?_
  refine x_sld C hX hbl hbs (v := (xs 2).toInt) ⟨by omega, by omega, by omega⟩ (I_of _).symm dL_law_251 ?_
  refine x_invV C s_Law_104 (st := []) (c_Mo_tune hB hO (v := (xs 1).toInt) (w1 := (xs 2).toInt) (I_bd (xs 1))) hB rfl rfl (Nat.le_of_ble_eq_true rfl) (xRm_of hR (by omega) (by decide) (by omega) (by omega)) dL_law_252 (fun r9 h8 hq => ?_)
  obtain ⟨rfl, ⟨fs8, gb⟩, g8⟩ := hq
  refine x_istore C (ls' := [some (.ref sb), some (.ref (ad 0)), some (.ref b), some (.ref o), some (vi 0), some (vi 1), some (vi 0), none, none]) dL_law_255 (by decide) rfl ?_
  refine x_aload_n C dL_law_257 rfl rfl ?_
  refine x_invV C s_Law_97 (st := []) (c_Mo_thrown gb) gb rfl rfl (Nat.le_of_ble_eq_true rfl) (xRm_of hR (by omega) (by decide) (by omega) (by omega)) dL_law_258 (fun r9 h7 hq => ?_)
  obtain ⟨rfl, e9⟩ := hq
  have e9 := e9.symm
  subst e9
  refine x_iload C dL_law_261 rfl ?_
  refine x_icmp_eq C (tgt := 268) dL_law_263 (by decide) (by decide) (by decide) (fun c263 => ?_) (fun c263 => ?_)
  · skip
    refine x_iload C dL_law_268 rfl ?_
    refine x_if_ne C (tgt := 285) dL_law_270 (by decide) (by decide) (fun c270 => ?_) (fun c270 => ?_)
    · skip
      refine x_goto C (tgt := 1818) dL_law_285 (by decide) ?_
      refine X.sub (ls' := [some (.ref sb), some (.ref (ad 0)), some (.ref b), some (.ref o), some (vi 0), none, none, none, none]) (sub_cons (Or.inr rfl) (sub_cons (Or.inr rfl) (sub_cons (Or.inr rfl) (sub_cons (Or.inr rfl) (sub_cons (Or.inr rfl) (sub_cons (Or.inl rfl) (sub_cons (Or.inl rfl) (sub_cons (Or.inl rfl) (sub_cons (Or.inl rfl) sub_nil))))))))) ?_
      exact kk h8 _ _ (by omega) (by omega)
    · skip
      exact absurd c270 (by decide)
  · skip
    exact absurd rfl c263

set_option maxRecDepth 100000 in
set_option maxHeartbeats 4000000 in
theorem law_slacken_no {G : xG} {K : xK} {h : PH} {ad : Nat → Nat} {fq : Bool} {sb b o a1 a2 a3 a4 a5 a6 a7 a8 bt L cells slots mc9 ms9 : Nat} {go : Nat → Int64} {xs : Nat → Int32} (C : xC G K "TablatureLaw" code 9) (hR : xGe K 200 mc9 ms9) (hrm : 100000 ≤ mc9 ∧ 1000000 ≤ ms9) (T : xTS G (ks K) (ks K).heap) (hj : ∀ i j, i < 300 → j < 300 → ad i = ad j → i = j) (TT : TabR G h ad fq Q0 P0) (hB : h b = (xO 8 [vi 0, vi 0, .ref a1, .ref a2, vi 0, vi 3, vi 0, .ref a3, .ref a4, .ref a5, .ref a6, .ref a7, .ref a8, vi 0, vi 0, .ref bt])) (hO : h o = xL G 1 go) (hA1 : h a1 = xI G 6 (fun _ => 0)) (hA3 : h a3 = xQ G 3 12 (fun _ => none)) (hA4 : h a4 = xI G 12 (fun _ => 0)) (hA5 : h a5 = xZ G 12 (fun _ => false)) (n45 : a4 ≠ a5) (hn : ∀ i, own i → b ≠ ad i ∧ o ≠ ad i ∧ a1 ≠ ad i ∧ a3 ≠ ad i ∧ a4 ≠ ad i ∧ a5 ≠ ad i) (hX : va_X sb L xs (ks K) (ks K).heap) (hbl : sb < gN G) (hbs : sb < (ks K).heap.size) (hL : L = 6) (hc : cells ≤ 1000) (hs : slots ≤ 10000) (kk : ∀ (h' : PH) (c9 s9 : Nat), c9 ≤ 2000 → s9 ≤ 20000 → X G K 9 1818 [some (.ref sb), some (.ref (ad 0)), some (.ref b), some (.ref o), some (vi 0), none, none, none, none] [] h' c9 s9)  : X G K 9 288 [some (.ref sb), some (.ref (ad 0)), some (.ref b), some (.ref o), some (vi 0), none, none, none, none] [] h cells slots := by
  obtain ⟨tq, -, tt, -, -⟩ := id TT.1
  have hnb := fun i hi => (hn i hi).1
  have hno := fun i hi => (hn i hi).2.1
  have hna := fun i hi => (hn i hi).2.2
  refine x_aload_n C dL_law_288 rfl rfl ?_
  refine x_aload_n C dL_law_289 rfl rfl ?_
  refine x_iload C dL_law_290 rfl ?_
  refine x_iconst C dL_law_292 ?_
  refine x_iadd C dL_law_293 ?_
  refine x_sld C hX hbl hbs (v := (xs 1).toInt) ⟨by omega, by omega, by omega⟩ (I_of _).symm dL_law_294 ?_
  refine x_aload_n C dL_law_295 rfl rfl ?_
  refine x_iload C dL_law_296 rfl ?_
  refine x_iconst C dL_law_298 ?_
  refine x_iadd C dL_law_299 ?_
  refine x_sld C hX hbl hbs (v := (xs 2).toInt) ⟨by omega, by omega, by omega⟩ (I_of _).symm dL_law_300 ?_
  refine x_if_eq C (tgt := 308) dL_law_301 (by decide) (I_bd (xs 2)) (fun c301 => ?_) (fun c301 => ?_)
  · skip
    refine x_iconst C dL_law_308 ?_
    refine x_aload_n C dL_law_309 rfl rfl ?_
    refine x_invSH C T sh_105 (st := []) (c_H_slacken_no tt (c_slacken_no hj TT (v := (xs 1).toInt) (w1 := 0) (I_bd (xs 1)) (by show ¬ (0 ≤ _ ∧ _ < (0 : Int)); omega))) rfl rfl (Nat.le_of_ble_eq_true rfl) (xRm_of hR (by omega) (by decide) (by omega) (by omega)) dL_law_310 (fun r9 h9 hq => ?_)
    obtain ⟨rfl, e9⟩ := hq
    have e9 := e9.symm
    subst e9
    refine x_istore C (ls' := [some (.ref sb), some (.ref (ad 0)), some (.ref b), some (.ref o), some (vi 0), some (vi 1), none, none, none]) dL_law_313 (by decide) rfl ?_
    refine x_aload_n C dL_law_315 rfl rfl ?_
    refine x_aload_n C dL_law_316 rfl rfl ?_
    refine x_iload C dL_law_317 rfl ?_
    refine x_iconst C dL_law_319 ?_
    refine x_iadd C dL_law_320 ?_
    refine x_sld C hX hbl hbs (v := (xs 1).toInt) ⟨by omega, by omega, by omega⟩ (I_of _).symm dL_law_321 ?_
    refine x_aload_n C dL_law_322 rfl rfl ?_
    refine x_iload C dL_law_323 rfl ?_
    refine x_iconst C dL_law_325 ?_
    refine x_iadd C dL_law_326 ?_
    refine x_sld C hX hbl hbs (v := (xs 2).toInt) ⟨by omega, by omega, by omega⟩ (I_of _).symm dL_law_327 ?_
    refine x_if_eq C (tgt := 335) dL_law_328 (by decide) (I_bd (xs 2)) (fun c328 => ?_) (fun c328 => ?_)
    · skip
      refine x_iconst C dL_law_335 ?_
      refine x_invV C s_Law_108 (st := []) (c_Mo_slacken hB hO (v := (xs 1).toInt) (w1 := 0) (I_bd (xs 1))) hB rfl rfl (Nat.le_of_ble_eq_true rfl) (xRm_of hR (by omega) (by decide) (by omega) (by omega)) dL_law_336 (fun r9 h8 hq => ?_)
      obtain ⟨rfl, ⟨fs8, gb⟩, g8⟩ := hq
      refine x_istore C (ls' := [some (.ref sb), some (.ref (ad 0)), some (.ref b), some (.ref o), some (vi 0), some (vi 1), some (vi 0), none, none]) dL_law_339 (by decide) rfl ?_
      refine x_aload_n C dL_law_341 rfl rfl ?_
      refine x_invV C s_Law_97 (st := []) (c_Mo_thrown gb) gb rfl rfl (Nat.le_of_ble_eq_true rfl) (xRm_of hR (by omega) (by decide) (by omega) (by omega)) dL_law_342 (fun r9 h7 hq => ?_)
      obtain ⟨rfl, e9⟩ := hq
      have e9 := e9.symm
      subst e9
      refine x_iload C dL_law_345 rfl ?_
      refine x_icmp_eq C (tgt := 352) dL_law_347 (by decide) (by decide) (by decide) (fun c347 => ?_) (fun c347 => ?_)
      · skip
        refine x_iload C dL_law_352 rfl ?_
        refine x_if_ne C (tgt := 369) dL_law_354 (by decide) (by decide) (fun c354 => ?_) (fun c354 => ?_)
        · skip
          refine x_goto C (tgt := 1818) dL_law_369 (by decide) ?_
          refine X.sub (ls' := [some (.ref sb), some (.ref (ad 0)), some (.ref b), some (.ref o), some (vi 0), none, none, none, none]) (sub_cons (Or.inr rfl) (sub_cons (Or.inr rfl) (sub_cons (Or.inr rfl) (sub_cons (Or.inr rfl) (sub_cons (Or.inr rfl) (sub_cons (Or.inl rfl) (sub_cons (Or.inl rfl) (sub_cons (Or.inl rfl) (sub_cons (Or.inl rfl) sub_nil))))))))) ?_
          exact kk h8 _ _ (by omega) (by omega)
        · skip
          exact absurd c354 (by decide)
      · skip
        exact absurd rfl c347
    · skip
      refine x_iconst C dL_law_331 ?_
      refine x_goto C (tgt := 336) dL_law_332 (by decide) ?_
      refine x_invV C s_Law_108 (st := []) (c_Mo_slacken hB hO (v := (xs 1).toInt) (w1 := 1) (I_bd (xs 1))) hB rfl rfl (Nat.le_of_ble_eq_true rfl) (xRm_of hR (by omega) (by decide) (by omega) (by omega)) dL_law_336 (fun r9 h8 hq => ?_)
      obtain ⟨rfl, ⟨fs8, gb⟩, g8⟩ := hq
      refine x_istore C (ls' := [some (.ref sb), some (.ref (ad 0)), some (.ref b), some (.ref o), some (vi 0), some (vi 1), some (vi 0), none, none]) dL_law_339 (by decide) rfl ?_
      refine x_aload_n C dL_law_341 rfl rfl ?_
      refine x_invV C s_Law_97 (st := []) (c_Mo_thrown gb) gb rfl rfl (Nat.le_of_ble_eq_true rfl) (xRm_of hR (by omega) (by decide) (by omega) (by omega)) dL_law_342 (fun r9 h7 hq => ?_)
      obtain ⟨rfl, e9⟩ := hq
      have e9 := e9.symm
      subst e9
      refine x_iload C dL_law_345 rfl ?_
      refine x_icmp_eq C (tgt := 352) dL_law_347 (by decide) (by decide) (by decide) (fun c347 => ?_) (fun c347 => ?_)
      · skip
        refine x_iload C dL_law_352 rfl ?_
        refine x_if_ne C (tgt := 369) dL_law_354 (by decide) (by decide) (fun c354 => ?_) (fun c354 => ?_)
        · skip
          refine x_goto C (tgt := 1818) dL_law_369 (by decide) ?_
          refine X.sub (ls' := [some (.ref sb), some (.ref (ad 0)), some (.ref b), some (.ref o), some (vi 0), none, none, none, none]) (sub_cons (Or.inr rfl) (sub_cons (Or.inr rfl) (sub_cons (Or.inr rfl) (sub_cons (Or.inr rfl) (sub_cons (Or.inr rfl) (sub_cons (Or.inl rfl) (sub_cons (Or.inl rfl) (sub_cons (Or.inl rfl) (sub_cons (Or.inl rfl) sub_nil))))))))) ?_
          exact kk h8 _ _ (by omega) (by omega)
        · skip
          exact absurd c354 (by decide)
      · skip
        exact absurd rfl c347
  · skip
    refine x_iconst C dL_law_304 ?_
    refine x_goto C (tgt := 309) dL_law_305 (by decide) ?_
    refine x_aload_n C dL_law_309 rfl rfl ?_
    refine x_invSH C T sh_105 (st := []) (c_H_slacken_no tt (c_slacken_no hj TT (v := (xs 1).toInt) (w1 := 1) (I_bd (xs 1)) (by show ¬ (0 ≤ _ ∧ _ < (0 : Int)); omega))) rfl rfl (Nat.le_of_ble_eq_true rfl) (xRm_of hR (by omega) (by decide) (by omega) (by omega)) dL_law_310 (fun r9 h9 hq => ?_)
    obtain ⟨rfl, e9⟩ := hq
    have e9 := e9.symm
    subst e9
    refine x_istore C (ls' := [some (.ref sb), some (.ref (ad 0)), some (.ref b), some (.ref o), some (vi 0), some (vi 1), none, none, none]) dL_law_313 (by decide) rfl ?_
    refine x_aload_n C dL_law_315 rfl rfl ?_
    refine x_aload_n C dL_law_316 rfl rfl ?_
    refine x_iload C dL_law_317 rfl ?_
    refine x_iconst C dL_law_319 ?_
    refine x_iadd C dL_law_320 ?_
    refine x_sld C hX hbl hbs (v := (xs 1).toInt) ⟨by omega, by omega, by omega⟩ (I_of _).symm dL_law_321 ?_
    refine x_aload_n C dL_law_322 rfl rfl ?_
    refine x_iload C dL_law_323 rfl ?_
    refine x_iconst C dL_law_325 ?_
    refine x_iadd C dL_law_326 ?_
    refine x_sld C hX hbl hbs (v := (xs 2).toInt) ⟨by omega, by omega, by omega⟩ (I_of _).symm dL_law_327 ?_
    refine x_if_eq C (tgt := 335) dL_law_328 (by decide) (I_bd (xs 2)) (fun c328 => ?_) (fun c328 => ?_)
    · skip
      refine x_iconst C dL_law_335 ?_
      refine x_invV C s_Law_108 (st := []) (c_Mo_slacken hB hO (v := (xs 1).toInt) (w1 := 0) (I_bd (xs 1))) hB rfl rfl (Nat.le_of_ble_eq_true rfl) (xRm_of hR (by omega) (by decide) (by omega) (by omega)) dL_law_336 (fun r9 h8 hq => ?_)
      obtain ⟨rfl, ⟨fs8, gb⟩, g8⟩ := hq
      refine x_istore C (ls' := [some (.ref sb), some (.ref (ad 0)), some (.ref b), some (.ref o), some (vi 0), some (vi 1), some (vi 0), none, none]) dL_law_339 (by decide) rfl ?_
      refine x_aload_n C dL_law_341 rfl rfl ?_
      refine x_invV C s_Law_97 (st := []) (c_Mo_thrown gb) gb rfl rfl (Nat.le_of_ble_eq_true rfl) (xRm_of hR (by omega) (by decide) (by omega) (by omega)) dL_law_342 (fun r9 h7 hq => ?_)
      obtain ⟨rfl, e9⟩ := hq
      have e9 := e9.symm
      subst e9
      refine x_iload C dL_law_345 rfl ?_
      refine x_icmp_eq C (tgt := 352) dL_law_347 (by decide) (by decide) (by decide) (fun c347 => ?_) (fun c347 => ?_)
      · skip
        refine x_iload C dL_law_352 rfl ?_
        refine x_if_ne C (tgt := 369) dL_law_354 (by decide) (by decide) (fun c354 => ?_) (fun c354 => ?_)
        · skip
          refine x_goto C (tgt := 1818) dL_law_369 (by decide) ?_
          refine X.sub (ls' := [some (.ref sb), some (.ref (ad 0)), some (.ref b), some (.ref o), some (vi 0), none, none, none, none]) (sub_cons (Or.inr rfl) (sub_cons (Or.inr rfl) (sub_cons (Or.inr rfl) (sub_cons (Or.inr rfl) (sub_cons (Or.inr rfl) (sub_cons (Or.inl rfl) (sub_cons (Or.inl rfl) (sub_cons (Or.inl rfl) (sub_cons (Or.inl rfl) sub_nil))))))))) ?_
          exact kk h8 _ _ (by omega) (by omega)
        · skip
          exact absurd c354 (by decide)
      · skip
        exact absurd rfl c347
    · skip
      refine x_iconst C dL_law_331 ?_
      refine x_goto C (tgt := 336) dL_law_332 (by decide) ?_
      refine x_invV C s_Law_108 (st := []) (c_Mo_slacken hB hO (v := (xs 1).toInt) (w1 := 1) (I_bd (xs 1))) hB rfl rfl (Nat.le_of_ble_eq_true rfl) (xRm_of hR (by omega) (by decide) (by omega) (by omega)) dL_law_336 (fun r9 h8 hq => ?_)
      obtain ⟨rfl, ⟨fs8, gb⟩, g8⟩ := hq
      refine x_istore C (ls' := [some (.ref sb), some (.ref (ad 0)), some (.ref b), some (.ref o), some (vi 0), some (vi 1), some (vi 0), none, none]) dL_law_339 (by decide) rfl ?_
      refine x_aload_n C dL_law_341 rfl rfl ?_
      refine x_invV C s_Law_97 (st := []) (c_Mo_thrown gb) gb rfl rfl (Nat.le_of_ble_eq_true rfl) (xRm_of hR (by omega) (by decide) (by omega) (by omega)) dL_law_342 (fun r9 h7 hq => ?_)
      obtain ⟨rfl, e9⟩ := hq
      have e9 := e9.symm
      subst e9
      refine x_iload C dL_law_345 rfl ?_
      refine x_icmp_eq C (tgt := 352) dL_law_347 (by decide) (by decide) (by decide) (fun c347 => ?_) (fun c347 => ?_)
      · skip
        refine x_iload C dL_law_352 rfl ?_
        refine x_if_ne C (tgt := 369) dL_law_354 (by decide) (by decide) (fun c354 => ?_) (fun c354 => ?_)
        · skip
          refine x_goto C (tgt := 1818) dL_law_369 (by decide) ?_
          refine X.sub (ls' := [some (.ref sb), some (.ref (ad 0)), some (.ref b), some (.ref o), some (vi 0), none, none, none, none]) (sub_cons (Or.inr rfl) (sub_cons (Or.inr rfl) (sub_cons (Or.inr rfl) (sub_cons (Or.inr rfl) (sub_cons (Or.inr rfl) (sub_cons (Or.inl rfl) (sub_cons (Or.inl rfl) (sub_cons (Or.inl rfl) (sub_cons (Or.inl rfl) sub_nil))))))))) ?_
          exact kk h8 _ _ (by omega) (by omega)
        · skip
          exact absurd c354 (by decide)
      · skip
        exact absurd rfl c347

set_option maxRecDepth 100000 in
set_option maxHeartbeats 4000000 in
theorem law_capo_no {G : xG} {K : xK} {h : PH} {ad : Nat → Nat} {fq : Bool} {sb b o a1 a2 a3 a4 a5 a6 a7 a8 bt L cells slots mc9 ms9 : Nat} {go : Nat → Int64} {xs : Nat → Int32} (C : xC G K "TablatureLaw" code 9) (hR : xGe K 200 mc9 ms9) (hrm : 100000 ≤ mc9 ∧ 1000000 ≤ ms9) (T : xTS G (ks K) (ks K).heap) (hj : ∀ i j, i < 300 → j < 300 → ad i = ad j → i = j) (TT : TabR G h ad fq Q0 P0) (hB : h b = (xO 8 [vi 0, vi 0, .ref a1, .ref a2, vi 0, vi 3, vi 0, .ref a3, .ref a4, .ref a5, .ref a6, .ref a7, .ref a8, vi 0, vi 0, .ref bt])) (hO : h o = xL G 1 go) (hA1 : h a1 = xI G 6 (fun _ => 0)) (hA3 : h a3 = xQ G 3 12 (fun _ => none)) (hA4 : h a4 = xI G 12 (fun _ => 0)) (hA5 : h a5 = xZ G 12 (fun _ => false)) (n45 : a4 ≠ a5) (hn : ∀ i, own i → b ≠ ad i ∧ o ≠ ad i ∧ a1 ≠ ad i ∧ a3 ≠ ad i ∧ a4 ≠ ad i ∧ a5 ≠ ad i) (hX : va_X sb L xs (ks K) (ks K).heap) (hbl : sb < gN G) (hbs : sb < (ks K).heap.size) (hL : L = 6) (hc : cells ≤ 1000) (hs : slots ≤ 10000) (kk : ∀ (h' : PH) (c9 s9 : Nat), c9 ≤ 2000 → s9 ≤ 20000 → X G K 9 1818 [some (.ref sb), some (.ref (ad 0)), some (.ref b), some (.ref o), some (vi 0), none, none, none, none] [] h' c9 s9) (hv : ¬ (0 ≤ (xs 1).toInt ∧ (xs 1).toInt ≤ 7)) : X G K 9 372 [some (.ref sb), some (.ref (ad 0)), some (.ref b), some (.ref o), some (vi 0), none, none, none, none] [] h cells slots := by
  obtain ⟨tq, -, tt, -, -⟩ := id TT.1
  have hnb := fun i hi => (hn i hi).1
  have hno := fun i hi => (hn i hi).2.1
  have hna := fun i hi => (hn i hi).2.2
  refine x_aload_n C dL_law_372 rfl rfl ?_
  refine x_aload_n C dL_law_373 rfl rfl ?_
  refine x_iload C dL_law_374 rfl ?_
  refine x_iconst C dL_law_376 ?_
  refine x_iadd C dL_law_377 ?_
  refine x_sld C hX hbl hbs (v := (xs 1).toInt) ⟨by omega, by omega, by omega⟩ (I_of _).symm dL_law_378 ?_
  refine x_aload_n C dL_law_379 rfl rfl ?_
  refine x_invSH C T sh_109 (st := []) (c_H_capo_no tt (c_capo_no hj TT (v := (xs 1).toInt) (I_bd (xs 1)) hv)) rfl rfl (Nat.le_of_ble_eq_true rfl) (xRm_of hR (by omega) (by decide) (by omega) (by omega)) dL_law_380 (fun r9 h9 hq => ?_)
  obtain ⟨rfl, e9⟩ := hq
  have e9 := e9.symm
  subst e9
  refine x_istore C (ls' := [some (.ref sb), some (.ref (ad 0)), some (.ref b), some (.ref o), some (vi 0), some (vi 1), none, none, none]) dL_law_383 (by decide) rfl ?_
  refine x_aload_n C dL_law_385 rfl rfl ?_
  refine x_aload_n C dL_law_386 rfl rfl ?_
  refine x_iload C dL_law_387 rfl ?_
  refine x_iconst C dL_law_389 ?_
  refine x_iadd C dL_law_390 ?_
  refine x_sld C hX hbl hbs (v := (xs 1).toInt) ⟨by omega, by omega, by omega⟩ (I_of _).symm dL_law_391 ?_
  refine x_invV C s_Law_111 (st := []) (c_Mo_capo_no hB hO (v := (xs 1).toInt) (I_bd (xs 1)) hv) hB rfl rfl (Nat.le_of_ble_eq_true rfl) (xRm_of hR (by omega) (by decide) (by omega) (by omega)) dL_law_392 (fun r9 h8 hq => ?_)
  obtain ⟨rfl, ⟨fs8, gb⟩, g8⟩ := hq
  refine x_istore C (ls' := [some (.ref sb), some (.ref (ad 0)), some (.ref b), some (.ref o), some (vi 0), some (vi 1), some (vi 0), none, none]) dL_law_395 (by decide) rfl ?_
  refine x_aload_n C dL_law_397 rfl rfl ?_
  refine x_invV C s_Law_97 (st := []) (c_Mo_thrown gb) gb rfl rfl (Nat.le_of_ble_eq_true rfl) (xRm_of hR (by omega) (by decide) (by omega) (by omega)) dL_law_398 (fun r9 h7 hq => ?_)
  obtain ⟨rfl, e9⟩ := hq
  have e9 := e9.symm
  subst e9
  refine x_iload C dL_law_401 rfl ?_
  refine x_icmp_eq C (tgt := 408) dL_law_403 (by decide) (by decide) (by decide) (fun c403 => ?_) (fun c403 => ?_)
  · skip
    refine x_iload C dL_law_408 rfl ?_
    refine x_if_ne C (tgt := 425) dL_law_410 (by decide) (by decide) (fun c410 => ?_) (fun c410 => ?_)
    · skip
      refine x_goto C (tgt := 1818) dL_law_425 (by decide) ?_
      refine X.sub (ls' := [some (.ref sb), some (.ref (ad 0)), some (.ref b), some (.ref o), some (vi 0), none, none, none, none]) (sub_cons (Or.inr rfl) (sub_cons (Or.inr rfl) (sub_cons (Or.inr rfl) (sub_cons (Or.inr rfl) (sub_cons (Or.inr rfl) (sub_cons (Or.inl rfl) (sub_cons (Or.inl rfl) (sub_cons (Or.inl rfl) (sub_cons (Or.inl rfl) sub_nil))))))))) ?_
      exact kk h8 _ _ (by omega) (by omega)
    · skip
      exact absurd c410 (by decide)
  · skip
    exact absurd rfl c403

set_option maxRecDepth 100000 in
set_option maxHeartbeats 4000000 in
theorem law_capo_ok {G : xG} {K : xK} {h : PH} {ad : Nat → Nat} {fq : Bool} {sb b o a1 a2 a3 a4 a5 a6 a7 a8 bt L cells slots mc9 ms9 : Nat} {go : Nat → Int64} {xs : Nat → Int32} (C : xC G K "TablatureLaw" code 9) (hR : xGe K 200 mc9 ms9) (hrm : 100000 ≤ mc9 ∧ 1000000 ≤ ms9) (T : xTS G (ks K) (ks K).heap) (hj : ∀ i j, i < 300 → j < 300 → ad i = ad j → i = j) (TT : TabR G h ad fq Q0 P0) (hB : h b = (xO 8 [vi 0, vi 0, .ref a1, .ref a2, vi 0, vi 3, vi 0, .ref a3, .ref a4, .ref a5, .ref a6, .ref a7, .ref a8, vi 0, vi 0, .ref bt])) (hO : h o = xL G 1 go) (hA1 : h a1 = xI G 6 (fun _ => 0)) (hA3 : h a3 = xQ G 3 12 (fun _ => none)) (hA4 : h a4 = xI G 12 (fun _ => 0)) (hA5 : h a5 = xZ G 12 (fun _ => false)) (n45 : a4 ≠ a5) (hn : ∀ i, own i → b ≠ ad i ∧ o ≠ ad i ∧ a1 ≠ ad i ∧ a3 ≠ ad i ∧ a4 ≠ ad i ∧ a5 ≠ ad i) (hX : va_X sb L xs (ks K) (ks K).heap) (hbl : sb < gN G) (hbs : sb < (ks K).heap.size) (hL : L = 6) (hc : cells ≤ 1000) (hs : slots ≤ 10000) (kk : ∀ (h' : PH) (c9 s9 : Nat), c9 ≤ 2000 → s9 ≤ 20000 → X G K 9 1818 [some (.ref sb), some (.ref (ad 0)), some (.ref b), some (.ref o), some (vi 0), none, none, none, none] [] h' c9 s9) (hv : 0 ≤ (xs 1).toInt ∧ (xs 1).toInt ≤ 7) : X G K 9 372 [some (.ref sb), some (.ref (ad 0)), some (.ref b), some (.ref o), some (vi 0), none, none, none, none] [] h cells slots := by
  obtain ⟨tq, -, tt, -, -⟩ := id TT.1
  have hnb := fun i hi => (hn i hi).1
  have hno := fun i hi => (hn i hi).2.1
  have hna := fun i hi => (hn i hi).2.2
  refine x_aload_n C dL_law_372 rfl rfl ?_
  refine x_aload_n C dL_law_373 rfl rfl ?_
  refine x_iload C dL_law_374 rfl ?_
  refine x_iconst C dL_law_376 ?_
  refine x_iadd C dL_law_377 ?_
  refine x_sld C hX hbl hbs (v := (xs 1).toInt) ⟨by omega, by omega, by omega⟩ (I_of _).symm dL_law_378 ?_
  refine x_aload_n C dL_law_379 rfl rfl ?_
  refine x_invSH C T sh_109 (st := []) (c_H_capo_ok tt (z := 0) (PP := frO ad h) (c0_capo hj TT hv) (fun h1 p1 => (p1 _ hno).trans hO)) rfl rfl (Nat.le_of_ble_eq_true rfl) (xRm_of hR (by omega) (by decide) (by omega) (by omega)) dL_law_380 (fun r9 h9 hq => ?_)
  obtain ⟨rfl, h1, p1, rfl⟩ := hq
  refine x_istore C (ls' := [some (.ref sb), some (.ref (ad 0)), some (.ref b), some (.ref o), some (vi 0), some (vi 0), none, none, none]) dL_law_383 (by decide) rfl ?_
  refine x_aload_n C dL_law_385 rfl rfl ?_
  refine x_aload_n C dL_law_386 rfl rfl ?_
  refine x_iload C dL_law_387 rfl ?_
  refine x_iconst C dL_law_389 ?_
  refine x_iadd C dL_law_390 ?_
  refine x_sld C hX hbl hbs (v := (xs 1).toInt) ⟨by omega, by omega, by omega⟩ (I_of _).symm dL_law_391 ?_
  refine x_invV C s_Law_111 (st := []) (c_Mo_capo_ok ((up_n (ne_k ((p1 _ (hnb)).trans hB) ((p1 _ (hno)).trans hO) (knn rfl))).trans ((p1 _ (hnb)).trans hB)) up_s (v := (xs 1).toInt) hv) ((up_n (ne_k ((p1 _ (hnb)).trans hB) ((p1 _ (hno)).trans hO) (knn rfl))).trans ((p1 _ (hnb)).trans hB)) rfl rfl (Nat.le_of_ble_eq_true rfl) (xRm_of hR (by omega) (by decide) (by omega) (by omega)) dL_law_392 (fun r9 h8 hq => ?_)
  obtain ⟨rfl, ⟨fs8, gb⟩, g8⟩ := hq
  refine x_istore C (ls' := [some (.ref sb), some (.ref (ad 0)), some (.ref b), some (.ref o), some (vi 0), some (vi 0), some (vi 0), none, none]) dL_law_395 (by decide) rfl ?_
  refine x_aload_n C dL_law_397 rfl rfl ?_
  refine x_invV C s_Law_97 (st := []) (c_Mo_thrown gb) gb rfl rfl (Nat.le_of_ble_eq_true rfl) (xRm_of hR (by omega) (by decide) (by omega) (by omega)) dL_law_398 (fun r9 h7 hq => ?_)
  obtain ⟨rfl, e9⟩ := hq
  have e9 := e9.symm
  subst e9
  refine x_iload C dL_law_401 rfl ?_
  refine x_icmp_eq C (tgt := 408) dL_law_403 (by decide) (by decide) (by decide) (fun c403 => ?_) (fun c403 => ?_)
  · skip
    refine x_iload C dL_law_408 rfl ?_
    refine x_if_ne C (tgt := 425) dL_law_410 (by decide) (by decide) (fun c410 => ?_) (fun c410 => ?_)
    · skip
      exact absurd rfl c410
    · skip
      refine x_aload_n C dL_law_413 rfl rfl ?_
      refine x_iconst C dL_law_414 ?_
      refine x_lald C g8 ⟨by omega, by omega, by omega⟩ dL_law_415 ?_
      refine x_iload C dL_law_416 rfl ?_
      refine x_i2l C dL_law_418 ?_
      refine x_lcmpQ C (vpu_s _ _ _) dL_law_419 ?_
      refine x_if_eq C (tgt := 425) dL_law_420 (by decide) (by decide) (fun c420 => ?_) (fun c420 => ?_)
      · skip
        refine x_goto C (tgt := 1818) dL_law_425 (by decide) ?_
        refine X.sub (ls' := [some (.ref sb), some (.ref (ad 0)), some (.ref b), some (.ref o), some (vi 0), none, none, none, none]) (sub_cons (Or.inr rfl) (sub_cons (Or.inr rfl) (sub_cons (Or.inr rfl) (sub_cons (Or.inr rfl) (sub_cons (Or.inr rfl) (sub_cons (Or.inl rfl) (sub_cons (Or.inl rfl) (sub_cons (Or.inl rfl) (sub_cons (Or.inl rfl) sub_nil))))))))) ?_
        exact kk h8 _ _ (by omega) (by omega)
      · skip
        exact absurd rfl c420
  · skip
    exact absurd rfl c403

set_option maxRecDepth 100000 in
set_option maxHeartbeats 4000000 in
theorem law_reach_no {G : xG} {K : xK} {h : PH} {ad : Nat → Nat} {fq : Bool} {sb b o a1 a2 a3 a4 a5 a6 a7 a8 bt L cells slots mc9 ms9 : Nat} {go : Nat → Int64} {xs : Nat → Int32} (C : xC G K "TablatureLaw" code 9) (hR : xGe K 200 mc9 ms9) (hrm : 100000 ≤ mc9 ∧ 1000000 ≤ ms9) (T : xTS G (ks K) (ks K).heap) (hj : ∀ i j, i < 300 → j < 300 → ad i = ad j → i = j) (TT : TabR G h ad fq Q0 P0) (hB : h b = (xO 8 [vi 0, vi 0, .ref a1, .ref a2, vi 0, vi 3, vi 0, .ref a3, .ref a4, .ref a5, .ref a6, .ref a7, .ref a8, vi 0, vi 0, .ref bt])) (hO : h o = xL G 1 go) (hA1 : h a1 = xI G 6 (fun _ => 0)) (hA3 : h a3 = xQ G 3 12 (fun _ => none)) (hA4 : h a4 = xI G 12 (fun _ => 0)) (hA5 : h a5 = xZ G 12 (fun _ => false)) (n45 : a4 ≠ a5) (hn : ∀ i, own i → b ≠ ad i ∧ o ≠ ad i ∧ a1 ≠ ad i ∧ a3 ≠ ad i ∧ a4 ≠ ad i ∧ a5 ≠ ad i) (hX : va_X sb L xs (ks K) (ks K).heap) (hbl : sb < gN G) (hbs : sb < (ks K).heap.size) (hL : L = 6) (hc : cells ≤ 1000) (hs : slots ≤ 10000) (kk : ∀ (h' : PH) (c9 s9 : Nat), c9 ≤ 2000 → s9 ≤ 20000 → X G K 9 1818 [some (.ref sb), some (.ref (ad 0)), some (.ref b), some (.ref o), some (vi 0), none, none, none, none] [] h' c9 s9) (hv : ¬ (1 ≤ (xs 1).toInt ∧ (xs 1).toInt ≤ 6)) : X G K 9 428 [some (.ref sb), some (.ref (ad 0)), some (.ref b), some (.ref o), some (vi 0), none, none, none, none] [] h cells slots := by
  obtain ⟨tq, -, tt, -, -⟩ := id TT.1
  have hnb := fun i hi => (hn i hi).1
  have hno := fun i hi => (hn i hi).2.1
  have hna := fun i hi => (hn i hi).2.2
  refine x_aload_n C dL_law_428 rfl rfl ?_
  refine x_aload_n C dL_law_429 rfl rfl ?_
  refine x_iload C dL_law_430 rfl ?_
  refine x_iconst C dL_law_432 ?_
  refine x_iadd C dL_law_433 ?_
  refine x_sld C hX hbl hbs (v := (xs 1).toInt) ⟨by omega, by omega, by omega⟩ (I_of _).symm dL_law_434 ?_
  refine x_aload_n C dL_law_435 rfl rfl ?_
  refine x_invSH C T sh_112 (st := []) (c_H_reach_no tt (c_reach_no hj TT (v := (xs 1).toInt) (I_bd (xs 1)) hv)) rfl rfl (Nat.le_of_ble_eq_true rfl) (xRm_of hR (by omega) (by decide) (by omega) (by omega)) dL_law_436 (fun r9 h9 hq => ?_)
  obtain ⟨rfl, e9⟩ := hq
  have e9 := e9.symm
  subst e9
  refine x_istore C (ls' := [some (.ref sb), some (.ref (ad 0)), some (.ref b), some (.ref o), some (vi 0), some (vi 1), none, none, none]) dL_law_439 (by decide) rfl ?_
  refine x_aload_n C dL_law_441 rfl rfl ?_
  refine x_aload_n C dL_law_442 rfl rfl ?_
  refine x_iload C dL_law_443 rfl ?_
  refine x_iconst C dL_law_445 ?_
  refine x_iadd C dL_law_446 ?_
  refine x_sld C hX hbl hbs (v := (xs 1).toInt) ⟨by omega, by omega, by omega⟩ (I_of _).symm dL_law_447 ?_
  refine x_invV C s_Law_114 (st := []) (c_Mo_reach_no hB hO (v := (xs 1).toInt) (I_bd (xs 1)) hv) hB rfl rfl (Nat.le_of_ble_eq_true rfl) (xRm_of hR (by omega) (by decide) (by omega) (by omega)) dL_law_448 (fun r9 h8 hq => ?_)
  obtain ⟨rfl, ⟨fs8, gb⟩, g8⟩ := hq
  refine x_istore C (ls' := [some (.ref sb), some (.ref (ad 0)), some (.ref b), some (.ref o), some (vi 0), some (vi 1), some (vi 0), none, none]) dL_law_451 (by decide) rfl ?_
  refine x_aload_n C dL_law_453 rfl rfl ?_
  refine x_invV C s_Law_97 (st := []) (c_Mo_thrown gb) gb rfl rfl (Nat.le_of_ble_eq_true rfl) (xRm_of hR (by omega) (by decide) (by omega) (by omega)) dL_law_454 (fun r9 h7 hq => ?_)
  obtain ⟨rfl, e9⟩ := hq
  have e9 := e9.symm
  subst e9
  refine x_iload C dL_law_457 rfl ?_
  refine x_icmp_eq C (tgt := 464) dL_law_459 (by decide) (by decide) (by decide) (fun c459 => ?_) (fun c459 => ?_)
  · skip
    refine x_iload C dL_law_464 rfl ?_
    refine x_if_ne C (tgt := 481) dL_law_466 (by decide) (by decide) (fun c466 => ?_) (fun c466 => ?_)
    · skip
      refine x_goto C (tgt := 1818) dL_law_481 (by decide) ?_
      refine X.sub (ls' := [some (.ref sb), some (.ref (ad 0)), some (.ref b), some (.ref o), some (vi 0), none, none, none, none]) (sub_cons (Or.inr rfl) (sub_cons (Or.inr rfl) (sub_cons (Or.inr rfl) (sub_cons (Or.inr rfl) (sub_cons (Or.inr rfl) (sub_cons (Or.inl rfl) (sub_cons (Or.inl rfl) (sub_cons (Or.inl rfl) (sub_cons (Or.inl rfl) sub_nil))))))))) ?_
      exact kk h8 _ _ (by omega) (by omega)
    · skip
      exact absurd c466 (by decide)
  · skip
    exact absurd rfl c459

set_option maxRecDepth 100000 in
set_option maxHeartbeats 4000000 in
theorem law_reach_ok {G : xG} {K : xK} {h : PH} {ad : Nat → Nat} {fq : Bool} {sb b o a1 a2 a3 a4 a5 a6 a7 a8 bt L cells slots mc9 ms9 : Nat} {go : Nat → Int64} {xs : Nat → Int32} (C : xC G K "TablatureLaw" code 9) (hR : xGe K 200 mc9 ms9) (hrm : 100000 ≤ mc9 ∧ 1000000 ≤ ms9) (T : xTS G (ks K) (ks K).heap) (hj : ∀ i j, i < 300 → j < 300 → ad i = ad j → i = j) (TT : TabR G h ad fq Q0 P0) (hB : h b = (xO 8 [vi 0, vi 0, .ref a1, .ref a2, vi 0, vi 3, vi 0, .ref a3, .ref a4, .ref a5, .ref a6, .ref a7, .ref a8, vi 0, vi 0, .ref bt])) (hO : h o = xL G 1 go) (hA1 : h a1 = xI G 6 (fun _ => 0)) (hA3 : h a3 = xQ G 3 12 (fun _ => none)) (hA4 : h a4 = xI G 12 (fun _ => 0)) (hA5 : h a5 = xZ G 12 (fun _ => false)) (n45 : a4 ≠ a5) (hn : ∀ i, own i → b ≠ ad i ∧ o ≠ ad i ∧ a1 ≠ ad i ∧ a3 ≠ ad i ∧ a4 ≠ ad i ∧ a5 ≠ ad i) (hX : va_X sb L xs (ks K) (ks K).heap) (hbl : sb < gN G) (hbs : sb < (ks K).heap.size) (hL : L = 6) (hc : cells ≤ 1000) (hs : slots ≤ 10000) (kk : ∀ (h' : PH) (c9 s9 : Nat), c9 ≤ 2000 → s9 ≤ 20000 → X G K 9 1818 [some (.ref sb), some (.ref (ad 0)), some (.ref b), some (.ref o), some (vi 0), none, none, none, none] [] h' c9 s9) (hv : 1 ≤ (xs 1).toInt ∧ (xs 1).toInt ≤ 6) : X G K 9 428 [some (.ref sb), some (.ref (ad 0)), some (.ref b), some (.ref o), some (vi 0), none, none, none, none] [] h cells slots := by
  obtain ⟨tq, -, tt, -, -⟩ := id TT.1
  have hnb := fun i hi => (hn i hi).1
  have hno := fun i hi => (hn i hi).2.1
  have hna := fun i hi => (hn i hi).2.2
  refine x_aload_n C dL_law_428 rfl rfl ?_
  refine x_aload_n C dL_law_429 rfl rfl ?_
  refine x_iload C dL_law_430 rfl ?_
  refine x_iconst C dL_law_432 ?_
  refine x_iadd C dL_law_433 ?_
  refine x_sld C hX hbl hbs (v := (xs 1).toInt) ⟨by omega, by omega, by omega⟩ (I_of _).symm dL_law_434 ?_
  refine x_aload_n C dL_law_435 rfl rfl ?_
  refine x_invSH C T sh_112 (st := []) (c_H_reach_ok tt (z := 3) (PP := frO ad h) (c0_reach hj TT hv) (fun h1 p1 => (p1 _ hno).trans hO)) rfl rfl (Nat.le_of_ble_eq_true rfl) (xRm_of hR (by omega) (by decide) (by omega) (by omega)) dL_law_436 (fun r9 h9 hq => ?_)
  obtain ⟨rfl, h1, p1, rfl⟩ := hq
  refine x_istore C (ls' := [some (.ref sb), some (.ref (ad 0)), some (.ref b), some (.ref o), some (vi 0), some (vi 0), none, none, none]) dL_law_439 (by decide) rfl ?_
  refine x_aload_n C dL_law_441 rfl rfl ?_
  refine x_aload_n C dL_law_442 rfl rfl ?_
  refine x_iload C dL_law_443 rfl ?_
  refine x_iconst C dL_law_445 ?_
  refine x_iadd C dL_law_446 ?_
  refine x_sld C hX hbl hbs (v := (xs 1).toInt) ⟨by omega, by omega, by omega⟩ (I_of _).symm dL_law_447 ?_
  refine x_invV C s_Law_114 (st := []) (c_Mo_reach_ok ((up_n (ne_k ((p1 _ (hnb)).trans hB) ((p1 _ (hno)).trans hO) (knn rfl))).trans ((p1 _ (hnb)).trans hB)) up_s (v := (xs 1).toInt) hv) ((up_n (ne_k ((p1 _ (hnb)).trans hB) ((p1 _ (hno)).trans hO) (knn rfl))).trans ((p1 _ (hnb)).trans hB)) rfl rfl (Nat.le_of_ble_eq_true rfl) (xRm_of hR (by omega) (by decide) (by omega) (by omega)) dL_law_448 (fun r9 h8 hq => ?_)
  obtain ⟨rfl, ⟨fs8, gb⟩, g8⟩ := hq
  refine x_istore C (ls' := [some (.ref sb), some (.ref (ad 0)), some (.ref b), some (.ref o), some (vi 0), some (vi 0), some (vi 3), none, none]) dL_law_451 (by decide) rfl ?_
  refine x_aload_n C dL_law_453 rfl rfl ?_
  refine x_invV C s_Law_97 (st := []) (c_Mo_thrown gb) gb rfl rfl (Nat.le_of_ble_eq_true rfl) (xRm_of hR (by omega) (by decide) (by omega) (by omega)) dL_law_454 (fun r9 h7 hq => ?_)
  obtain ⟨rfl, e9⟩ := hq
  have e9 := e9.symm
  subst e9
  refine x_iload C dL_law_457 rfl ?_
  refine x_icmp_eq C (tgt := 464) dL_law_459 (by decide) (by decide) (by decide) (fun c459 => ?_) (fun c459 => ?_)
  · skip
    refine x_iload C dL_law_464 rfl ?_
    refine x_if_ne C (tgt := 481) dL_law_466 (by decide) (by decide) (fun c466 => ?_) (fun c466 => ?_)
    · skip
      exact absurd rfl c466
    · skip
      refine x_aload_n C dL_law_469 rfl rfl ?_
      refine x_iconst C dL_law_470 ?_
      refine x_lald C g8 ⟨by omega, by omega, by omega⟩ dL_law_471 ?_
      refine x_iload C dL_law_472 rfl ?_
      refine x_i2l C dL_law_474 ?_
      refine x_lcmpQ C (vpu_s _ _ _) dL_law_475 ?_
      refine x_if_eq C (tgt := 481) dL_law_476 (by decide) (by decide) (fun c476 => ?_) (fun c476 => ?_)
      · skip
        refine x_goto C (tgt := 1818) dL_law_481 (by decide) ?_
        refine X.sub (ls' := [some (.ref sb), some (.ref (ad 0)), some (.ref b), some (.ref o), some (vi 0), none, none, none, none]) (sub_cons (Or.inr rfl) (sub_cons (Or.inr rfl) (sub_cons (Or.inr rfl) (sub_cons (Or.inr rfl) (sub_cons (Or.inr rfl) (sub_cons (Or.inl rfl) (sub_cons (Or.inl rfl) (sub_cons (Or.inl rfl) (sub_cons (Or.inl rfl) sub_nil))))))))) ?_
        exact kk h8 _ _ (by omega) (by omega)
      · skip
        exact absurd rfl c476
  · skip
    exact absurd rfl c459

set_option maxRecDepth 100000 in
set_option maxHeartbeats 4000000 in
theorem law_fretOf_no {G : xG} {K : xK} {h : PH} {ad : Nat → Nat} {fq : Bool} {sb b o a1 a2 a3 a4 a5 a6 a7 a8 bt L cells slots mc9 ms9 : Nat} {go : Nat → Int64} {xs : Nat → Int32} (C : xC G K "TablatureLaw" code 9) (hR : xGe K 200 mc9 ms9) (hrm : 100000 ≤ mc9 ∧ 1000000 ≤ ms9) (T : xTS G (ks K) (ks K).heap) (hj : ∀ i j, i < 300 → j < 300 → ad i = ad j → i = j) (TT : TabR G h ad fq Q0 P0) (hB : h b = (xO 8 [vi 0, vi 0, .ref a1, .ref a2, vi 0, vi 3, vi 0, .ref a3, .ref a4, .ref a5, .ref a6, .ref a7, .ref a8, vi 0, vi 0, .ref bt])) (hO : h o = xL G 1 go) (hA1 : h a1 = xI G 6 (fun _ => 0)) (hA3 : h a3 = xQ G 3 12 (fun _ => none)) (hA4 : h a4 = xI G 12 (fun _ => 0)) (hA5 : h a5 = xZ G 12 (fun _ => false)) (n45 : a4 ≠ a5) (hn : ∀ i, own i → b ≠ ad i ∧ o ≠ ad i ∧ a1 ≠ ad i ∧ a3 ≠ ad i ∧ a4 ≠ ad i ∧ a5 ≠ ad i) (hX : va_X sb L xs (ks K) (ks K).heap) (hbl : sb < gN G) (hbs : sb < (ks K).heap.size) (hL : L = 6) (hc : cells ≤ 1000) (hs : slots ≤ 10000) (kk : ∀ (h' : PH) (c9 s9 : Nat), c9 ≤ 2000 → s9 ≤ 20000 → X G K 9 1818 [some (.ref sb), some (.ref (ad 0)), some (.ref b), some (.ref o), some (vi 0), none, none, none, none] [] h' c9 s9)  : X G K 9 484 [some (.ref sb), some (.ref (ad 0)), some (.ref b), some (.ref o), some (vi 0), none, none, none, none] [] h cells slots := by
  obtain ⟨tq, -, tt, -, -⟩ := id TT.1
  have hnb := fun i hi => (hn i hi).1
  have hno := fun i hi => (hn i hi).2.1
  have hna := fun i hi => (hn i hi).2.2
  refine x_aload_n C dL_law_484 rfl rfl ?_
  refine x_aload_n C dL_law_485 rfl rfl ?_
  refine x_iload C dL_law_486 rfl ?_
  refine x_iconst C dL_law_488 ?_
  refine x_iadd C dL_law_489 ?_
  refine x_sld C hX hbl hbs (v := (xs 1).toInt) ⟨by omega, by omega, by omega⟩ (I_of _).symm dL_law_490 ?_
  refine x_aload_n C dL_law_491 rfl rfl ?_
  refine x_iload C dL_law_492 rfl ?_
  refine x_iconst C dL_law_494 ?_
  refine x_iadd C dL_law_495 ?_
  refine x_sld C hX hbl hbs (v := (xs 2).toInt) ⟨by omega, by omega, by omega⟩ (I_of _).symm dL_law_496 ?_
  refine x_aload_n C dL_law_497 rfl rfl ?_
  refine x_invSH C T sh_115 (st := []) (c_H_fretOf_no tt (c_fretOf_no hj TT (v := (xs 1).toInt) (I_bd (xs 1)) (by show ¬ (0 ≤ _ ∧ _ < (0 : Int)); omega))) rfl rfl (Nat.le_of_ble_eq_true rfl) (xRm_of hR (by omega) (by decide) (by omega) (by omega)) dL_law_498 (fun r9 h9 hq => ?_)
  obtain ⟨rfl, e9⟩ := hq
  have e9 := e9.symm
  subst e9
  refine x_istore C (ls' := [some (.ref sb), some (.ref (ad 0)), some (.ref b), some (.ref o), some (vi 0), some (vi 1), none, none, none]) dL_law_501 (by decide) rfl ?_
  refine x_aload_n C dL_law_503 rfl rfl ?_
  refine x_aload_n C dL_law_504 rfl rfl ?_
  refine x_iload C dL_law_505 rfl ?_
  refine x_iconst C dL_law_507 ?_
  refine x_iadd C dL_law_508 ?_
  refine x_sld C hX hbl hbs (v := (xs 1).toInt) ⟨by omega, by omega, by omega⟩ (I_of _).symm dL_law_509 ?_
  refine x_aload_n C dL_law_510 rfl rfl ?_
  refine x_iload C dL_law_511 rfl ?_
  refine x_iconst C dL_law_513 ?_
  refine x_iadd C dL_law_514 ?_
  refine x_sld C hX hbl hbs (v := (xs 2).toInt) ⟨by omega, by omega, by omega⟩ (I_of _).symm dL_law_515 ?_
  refine x_invV C s_Law_117 (st := []) (c_Mo_fretOf hB hO (v := (xs 1).toInt) (w1 := (xs 2).toInt) (I_bd (xs 1))) hB rfl rfl (Nat.le_of_ble_eq_true rfl) (xRm_of hR (by omega) (by decide) (by omega) (by omega)) dL_law_516 (fun r9 h8 hq => ?_)
  obtain ⟨rfl, ⟨fs8, gb⟩, g8⟩ := hq
  refine x_istore C (ls' := [some (.ref sb), some (.ref (ad 0)), some (.ref b), some (.ref o), some (vi 0), some (vi 1), some (vi 0), none, none]) dL_law_519 (by decide) rfl ?_
  refine x_aload_n C dL_law_521 rfl rfl ?_
  refine x_invV C s_Law_97 (st := []) (c_Mo_thrown gb) gb rfl rfl (Nat.le_of_ble_eq_true rfl) (xRm_of hR (by omega) (by decide) (by omega) (by omega)) dL_law_522 (fun r9 h7 hq => ?_)
  obtain ⟨rfl, e9⟩ := hq
  have e9 := e9.symm
  subst e9
  refine x_iload C dL_law_525 rfl ?_
  refine x_icmp_eq C (tgt := 532) dL_law_527 (by decide) (by decide) (by decide) (fun c527 => ?_) (fun c527 => ?_)
  · skip
    refine x_iload C dL_law_532 rfl ?_
    refine x_if_ne C (tgt := 549) dL_law_534 (by decide) (by decide) (fun c534 => ?_) (fun c534 => ?_)
    · skip
      refine x_goto C (tgt := 1818) dL_law_549 (by decide) ?_
      refine X.sub (ls' := [some (.ref sb), some (.ref (ad 0)), some (.ref b), some (.ref o), some (vi 0), none, none, none, none]) (sub_cons (Or.inr rfl) (sub_cons (Or.inr rfl) (sub_cons (Or.inr rfl) (sub_cons (Or.inr rfl) (sub_cons (Or.inr rfl) (sub_cons (Or.inl rfl) (sub_cons (Or.inl rfl) (sub_cons (Or.inl rfl) (sub_cons (Or.inl rfl) sub_nil))))))))) ?_
      exact kk h8 _ _ (by omega) (by omega)
    · skip
      exact absurd c534 (by decide)
  · skip
    exact absurd rfl c527

set_option maxRecDepth 100000 in
set_option maxHeartbeats 4000000 in
theorem law_chord_no {G : xG} {K : xK} {h : PH} {ad : Nat → Nat} {fq : Bool} {sb b o a1 a2 a3 a4 a5 a6 a7 a8 bt L cells slots mc9 ms9 : Nat} {go : Nat → Int64} {xs : Nat → Int32} (C : xC G K "TablatureLaw" code 9) (hR : xGe K 200 mc9 ms9) (hrm : 100000 ≤ mc9 ∧ 1000000 ≤ ms9) (T : xTS G (ks K) (ks K).heap) (hj : ∀ i j, i < 300 → j < 300 → ad i = ad j → i = j) (TT : TabR G h ad fq Q0 P0) (hB : h b = (xO 8 [vi 0, vi 0, .ref a1, .ref a2, vi 0, vi 3, vi 0, .ref a3, .ref a4, .ref a5, .ref a6, .ref a7, .ref a8, vi 0, vi 0, .ref bt])) (hO : h o = xL G 1 go) (hA1 : h a1 = xI G 6 (fun _ => 0)) (hA3 : h a3 = xQ G 3 12 (fun _ => none)) (hA4 : h a4 = xI G 12 (fun _ => 0)) (hA5 : h a5 = xZ G 12 (fun _ => false)) (n45 : a4 ≠ a5) (hn : ∀ i, own i → b ≠ ad i ∧ o ≠ ad i ∧ a1 ≠ ad i ∧ a3 ≠ ad i ∧ a4 ≠ ad i ∧ a5 ≠ ad i) (hX : va_X sb L xs (ks K) (ks K).heap) (hbl : sb < gN G) (hbs : sb < (ks K).heap.size) (hL : L = 6) (hc : cells ≤ 1000) (hs : slots ≤ 10000) (kk : ∀ (h' : PH) (c9 s9 : Nat), c9 ≤ 2000 → s9 ≤ 20000 → X G K 9 1818 [some (.ref sb), some (.ref (ad 0)), some (.ref b), some (.ref o), some (vi 0), none, none, none, none] [] h' c9 s9) (hk : ¬ chOK (xs 1).toInt (xs 2).toInt (xs 3).toInt (xs 4).toInt (xs 5).toInt) : X G K 9 552 [some (.ref sb), some (.ref (ad 0)), some (.ref b), some (.ref o), some (vi 0), none, none, none, none] [] h cells slots := by
  obtain ⟨tq, -, tt, -, -⟩ := id TT.1
  have hnb := fun i hi => (hn i hi).1
  have hno := fun i hi => (hn i hi).2.1
  have hna := fun i hi => (hn i hi).2.2
  refine x_aload_n C dL_law_552 rfl rfl ?_
  refine x_aload_n C dL_law_553 rfl rfl ?_
  refine x_iload C dL_law_554 rfl ?_
  refine x_iconst C dL_law_556 ?_
  refine x_iadd C dL_law_557 ?_
  refine x_sld C hX hbl hbs (v := (xs 1).toInt) ⟨by omega, by omega, by omega⟩ (I_of _).symm dL_law_558 ?_
  refine x_aload_n C dL_law_559 rfl rfl ?_
  refine x_iload C dL_law_560 rfl ?_
  refine x_iconst C dL_law_562 ?_
  refine x_iadd C dL_law_563 ?_
  refine x_sld C hX hbl hbs (v := (xs 2).toInt) ⟨by omega, by omega, by omega⟩ (I_of _).symm dL_law_564 ?_
  refine x_aload_n C dL_law_565 rfl rfl ?_
  refine x_iload C dL_law_566 rfl ?_
  refine x_iconst C dL_law_568 ?_
  refine x_iadd C dL_law_569 ?_
  refine x_sld C hX hbl hbs (v := (xs 3).toInt) ⟨by omega, by omega, by omega⟩ (I_of _).symm dL_law_570 ?_
  refine x_aload_n C dL_law_571 rfl rfl ?_
  refine x_iload C dL_law_572 rfl ?_
  refine x_iconst C dL_law_574 ?_
  refine x_iadd C dL_law_575 ?_
  refine x_sld C hX hbl hbs (v := (xs 4).toInt) ⟨by omega, by omega, by omega⟩ (I_of _).symm dL_law_576 ?_
  refine x_aload_n C dL_law_577 rfl rfl ?_
  refine x_iload C dL_law_578 rfl ?_
  refine x_iconst C dL_law_580 ?_
  refine x_iadd C dL_law_581 ?_
  refine x_sld C hX hbl hbs (v := (xs 5).toInt) ⟨by omega, by omega, by omega⟩ (I_of _).symm dL_law_582 ?_
  refine x_aload_n C dL_law_583 rfl rfl ?_
  refine x_invSH C T sh_118 (st := []) (c_H_chord_no tt (c_chord_no hj TT (I_bd (xs 1)) (I_bd (xs 2)) (I_bd (xs 3)) (I_bd (xs 4)) (I_bd (xs 5)) hk (by decide))) rfl rfl (Nat.le_of_ble_eq_true rfl) (xRm_of hR (by omega) (by decide) (by omega) (by omega)) dL_law_584 (fun r9 h9 hq => ?_)
  obtain ⟨rfl, e9⟩ := hq
  have e9 := e9.symm
  subst e9
  refine x_istore C (ls' := [some (.ref sb), some (.ref (ad 0)), some (.ref b), some (.ref o), some (vi 0), some (vi 1), none, none, none]) dL_law_587 (by decide) rfl ?_
  refine x_aload_n C dL_law_589 rfl rfl ?_
  refine x_aload_n C dL_law_590 rfl rfl ?_
  refine x_iload C dL_law_591 rfl ?_
  refine x_iconst C dL_law_593 ?_
  refine x_iadd C dL_law_594 ?_
  refine x_sld C hX hbl hbs (v := (xs 1).toInt) ⟨by omega, by omega, by omega⟩ (I_of _).symm dL_law_595 ?_
  refine x_aload_n C dL_law_596 rfl rfl ?_
  refine x_iload C dL_law_597 rfl ?_
  refine x_iconst C dL_law_599 ?_
  refine x_iadd C dL_law_600 ?_
  refine x_sld C hX hbl hbs (v := (xs 2).toInt) ⟨by omega, by omega, by omega⟩ (I_of _).symm dL_law_601 ?_
  refine x_aload_n C dL_law_602 rfl rfl ?_
  refine x_iload C dL_law_603 rfl ?_
  refine x_iconst C dL_law_605 ?_
  refine x_iadd C dL_law_606 ?_
  refine x_sld C hX hbl hbs (v := (xs 3).toInt) ⟨by omega, by omega, by omega⟩ (I_of _).symm dL_law_607 ?_
  refine x_aload_n C dL_law_608 rfl rfl ?_
  refine x_iload C dL_law_609 rfl ?_
  refine x_iconst C dL_law_611 ?_
  refine x_iadd C dL_law_612 ?_
  refine x_sld C hX hbl hbs (v := (xs 4).toInt) ⟨by omega, by omega, by omega⟩ (I_of _).symm dL_law_613 ?_
  refine x_aload_n C dL_law_614 rfl rfl ?_
  refine x_iload C dL_law_615 rfl ?_
  refine x_iconst C dL_law_617 ?_
  refine x_iadd C dL_law_618 ?_
  refine x_sld C hX hbl hbs (v := (xs 5).toInt) ⟨by omega, by omega, by omega⟩ (I_of _).symm dL_law_619 ?_
  refine x_invV C s_Law_121 (st := []) (c_Mo_chord_no hB hO (w0 := (xs 1).toInt) (w1 := (xs 2).toInt) (w2 := (xs 3).toInt) (w3 := (xs 4).toInt) (w4 := (xs 5).toInt) (I_bd (xs 1)) (I_bd (xs 2)) (I_bd (xs 3)) (I_bd (xs 4)) (I_bd (xs 5)) (by cases q : okO (g4 (xs 1).toInt (xs 2).toInt (xs 3).toInt (xs 4).toInt) (decide ((0 ≤ (xs 1).toInt ∧ (xs 1).toInt ≤ 80) ∧ 1 ≤ (xs 5).toInt ∧ (xs 5).toInt ≤ 8)) 4; rfl; exact absurd (okO_ch.mp q) hk)) hB rfl rfl (Nat.le_of_ble_eq_true rfl) (xRm_of hR (by omega) (by decide) (by omega) (by omega)) dL_law_620 (fun r9 h8 hq => ?_)
  obtain ⟨rfl, ⟨fs8, gb⟩, g8⟩ := hq
  refine x_istore C (ls' := [some (.ref sb), some (.ref (ad 0)), some (.ref b), some (.ref o), some (vi 0), some (vi 1), some (vi 0), none, none]) dL_law_623 (by decide) rfl ?_
  refine x_aload_n C dL_law_625 rfl rfl ?_
  refine x_invV C s_Law_97 (st := []) (c_Mo_thrown gb) gb rfl rfl (Nat.le_of_ble_eq_true rfl) (xRm_of hR (by omega) (by decide) (by omega) (by omega)) dL_law_626 (fun r9 h7 hq => ?_)
  obtain ⟨rfl, e9⟩ := hq
  have e9 := e9.symm
  subst e9
  refine x_iload C dL_law_629 rfl ?_
  refine x_icmp_eq C (tgt := 636) dL_law_631 (by decide) (by decide) (by decide) (fun c631 => ?_) (fun c631 => ?_)
  · skip
    refine x_iload C dL_law_636 rfl ?_
    refine x_if_ne C (tgt := 653) dL_law_638 (by decide) (by decide) (fun c638 => ?_) (fun c638 => ?_)
    · skip
      refine x_goto C (tgt := 1818) dL_law_653 (by decide) ?_
      refine X.sub (ls' := [some (.ref sb), some (.ref (ad 0)), some (.ref b), some (.ref o), some (vi 0), none, none, none, none]) (sub_cons (Or.inr rfl) (sub_cons (Or.inr rfl) (sub_cons (Or.inr rfl) (sub_cons (Or.inr rfl) (sub_cons (Or.inr rfl) (sub_cons (Or.inl rfl) (sub_cons (Or.inl rfl) (sub_cons (Or.inl rfl) (sub_cons (Or.inl rfl) sub_nil))))))))) ?_
      exact kk h8 _ _ (by omega) (by omega)
    · skip
      exact absurd c638 (by decide)
  · skip
    exact absurd rfl c631

set_option maxRecDepth 100000 in
set_option maxHeartbeats 4000000 in
theorem law_chord_ok {G : xG} {K : xK} {h : PH} {ad : Nat → Nat} {fq : Bool} {sb b o a1 a2 a3 a4 a5 a6 a7 a8 bt L cells slots mc9 ms9 : Nat} {go : Nat → Int64} {xs : Nat → Int32} (C : xC G K "TablatureLaw" code 9) (hR : xGe K 200 mc9 ms9) (hrm : 100000 ≤ mc9 ∧ 1000000 ≤ ms9) (T : xTS G (ks K) (ks K).heap) (hj : ∀ i j, i < 300 → j < 300 → ad i = ad j → i = j) (TT : TabR G h ad fq Q0 P0) (hB : h b = (xO 8 [vi 0, vi 0, .ref a1, .ref a2, vi 0, vi 3, vi 0, .ref a3, .ref a4, .ref a5, .ref a6, .ref a7, .ref a8, vi 0, vi 0, .ref bt])) (hO : h o = xL G 1 go) (hA1 : h a1 = xI G 6 (fun _ => 0)) (hA3 : h a3 = xQ G 3 12 (fun _ => none)) (hA4 : h a4 = xI G 12 (fun _ => 0)) (hA5 : h a5 = xZ G 12 (fun _ => false)) (n45 : a4 ≠ a5) (hn : ∀ i, own i → b ≠ ad i ∧ o ≠ ad i ∧ a1 ≠ ad i ∧ a3 ≠ ad i ∧ a4 ≠ ad i ∧ a5 ≠ ad i) (hX : va_X sb L xs (ks K) (ks K).heap) (hbl : sb < gN G) (hbs : sb < (ks K).heap.size) (hL : L = 6) (hc : cells ≤ 1000) (hs : slots ≤ 10000) (kk : ∀ (h' : PH) (c9 s9 : Nat), c9 ≤ 2000 → s9 ≤ 20000 → X G K 9 1818 [some (.ref sb), some (.ref (ad 0)), some (.ref b), some (.ref o), some (vi 0), none, none, none, none] [] h' c9 s9) (hk : chOK (xs 1).toInt (xs 2).toInt (xs 3).toInt (xs 4).toInt (xs 5).toInt) : X G K 9 552 [some (.ref sb), some (.ref (ad 0)), some (.ref b), some (.ref o), some (vi 0), none, none, none, none] [] h cells slots := by
  obtain ⟨tq, -, tt, -, -⟩ := id TT.1
  have hnb := fun i hi => (hn i hi).1
  have hno := fun i hi => (hn i hi).2.1
  have hna := fun i hi => (hn i hi).2.2
  refine x_aload_n C dL_law_552 rfl rfl ?_
  refine x_aload_n C dL_law_553 rfl rfl ?_
  refine x_iload C dL_law_554 rfl ?_
  refine x_iconst C dL_law_556 ?_
  refine x_iadd C dL_law_557 ?_
  refine x_sld C hX hbl hbs (v := (xs 1).toInt) ⟨by omega, by omega, by omega⟩ (I_of _).symm dL_law_558 ?_
  refine x_aload_n C dL_law_559 rfl rfl ?_
  refine x_iload C dL_law_560 rfl ?_
  refine x_iconst C dL_law_562 ?_
  refine x_iadd C dL_law_563 ?_
  refine x_sld C hX hbl hbs (v := (xs 2).toInt) ⟨by omega, by omega, by omega⟩ (I_of _).symm dL_law_564 ?_
  refine x_aload_n C dL_law_565 rfl rfl ?_
  refine x_iload C dL_law_566 rfl ?_
  refine x_iconst C dL_law_568 ?_
  refine x_iadd C dL_law_569 ?_
  refine x_sld C hX hbl hbs (v := (xs 3).toInt) ⟨by omega, by omega, by omega⟩ (I_of _).symm dL_law_570 ?_
  refine x_aload_n C dL_law_571 rfl rfl ?_
  refine x_iload C dL_law_572 rfl ?_
  refine x_iconst C dL_law_574 ?_
  refine x_iadd C dL_law_575 ?_
  refine x_sld C hX hbl hbs (v := (xs 4).toInt) ⟨by omega, by omega, by omega⟩ (I_of _).symm dL_law_576 ?_
  refine x_aload_n C dL_law_577 rfl rfl ?_
  refine x_iload C dL_law_578 rfl ?_
  refine x_iconst C dL_law_580 ?_
  refine x_iadd C dL_law_581 ?_
  refine x_sld C hX hbl hbs (v := (xs 5).toInt) ⟨by omega, by omega, by omega⟩ (I_of _).symm dL_law_582 ?_
  refine x_aload_n C dL_law_583 rfl rfl ?_
  refine x_invSH C T sh_118 (st := []) (c_H_chord_ok tt (z := 0) (PP := frO ad h) (c0_chord hj TT hk) (fun h1 p1 => (p1 _ hno).trans hO)) rfl rfl (Nat.le_of_ble_eq_true rfl) (xRm_of hR (by omega) (by decide) (by omega) (by omega)) dL_law_584 (fun r9 h9 hq => ?_)
  obtain ⟨rfl, h1, p1, rfl⟩ := hq
  refine x_istore C (ls' := [some (.ref sb), some (.ref (ad 0)), some (.ref b), some (.ref o), some (vi 0), some (vi 0), none, none, none]) dL_law_587 (by decide) rfl ?_
  refine x_aload_n C dL_law_589 rfl rfl ?_
  refine x_aload_n C dL_law_590 rfl rfl ?_
  refine x_iload C dL_law_591 rfl ?_
  refine x_iconst C dL_law_593 ?_
  refine x_iadd C dL_law_594 ?_
  refine x_sld C hX hbl hbs (v := (xs 1).toInt) ⟨by omega, by omega, by omega⟩ (I_of _).symm dL_law_595 ?_
  refine x_aload_n C dL_law_596 rfl rfl ?_
  refine x_iload C dL_law_597 rfl ?_
  refine x_iconst C dL_law_599 ?_
  refine x_iadd C dL_law_600 ?_
  refine x_sld C hX hbl hbs (v := (xs 2).toInt) ⟨by omega, by omega, by omega⟩ (I_of _).symm dL_law_601 ?_
  refine x_aload_n C dL_law_602 rfl rfl ?_
  refine x_iload C dL_law_603 rfl ?_
  refine x_iconst C dL_law_605 ?_
  refine x_iadd C dL_law_606 ?_
  refine x_sld C hX hbl hbs (v := (xs 3).toInt) ⟨by omega, by omega, by omega⟩ (I_of _).symm dL_law_607 ?_
  refine x_aload_n C dL_law_608 rfl rfl ?_
  refine x_iload C dL_law_609 rfl ?_
  refine x_iconst C dL_law_611 ?_
  refine x_iadd C dL_law_612 ?_
  refine x_sld C hX hbl hbs (v := (xs 4).toInt) ⟨by omega, by omega, by omega⟩ (I_of _).symm dL_law_613 ?_
  refine x_aload_n C dL_law_614 rfl rfl ?_
  refine x_iload C dL_law_615 rfl ?_
  refine x_iconst C dL_law_617 ?_
  refine x_iadd C dL_law_618 ?_
  refine x_sld C hX hbl hbs (v := (xs 5).toInt) ⟨by omega, by omega, by omega⟩ (I_of _).symm dL_law_619 ?_
  refine x_invV C s_Law_121 (st := []) (c_Mo_chord_ok ((up_n (ne_k ((p1 _ (hnb)).trans hB) ((p1 _ (hno)).trans hO) (knn rfl))).trans ((p1 _ (hnb)).trans hB)) up_s ((up_n (ne_k ((p1 _ (fun i hi => (hna i hi).2.1)).trans hA3) ((p1 _ (hno)).trans hO) (knn rfl))).trans ((p1 _ (fun i hi => (hna i hi).2.1)).trans hA3)) ((up_n (ne_k ((p1 _ (fun i hi => (hna i hi).2.2.1)).trans hA4) ((p1 _ (hno)).trans hO) (knn rfl))).trans ((p1 _ (fun i hi => (hna i hi).2.2.1)).trans hA4)) ((up_n (ne_k ((p1 _ (fun i hi => (hna i hi).2.2.2)).trans hA5) ((p1 _ (hno)).trans hO) (knn rfl))).trans ((p1 _ (fun i hi => (hna i hi).2.2.2)).trans hA5)) n45 (w0 := (xs 1).toInt) (w1 := (xs 2).toInt) (w2 := (xs 3).toInt) (w3 := (xs 4).toInt) (w4 := (xs 5).toInt) (I_bd (xs 1)) (I_bd (xs 2)) (I_bd (xs 3)) (I_bd (xs 4)) (I_bd (xs 5)) (okO_ch.mpr hk)) ((up_n (ne_k ((p1 _ (hnb)).trans hB) ((p1 _ (hno)).trans hO) (knn rfl))).trans ((p1 _ (hnb)).trans hB)) rfl rfl (Nat.le_of_ble_eq_true rfl) (xRm_of hR (by omega) (by decide) (by omega) (by omega)) dL_law_620 (fun r9 h8 hq => ?_)
  obtain ⟨rfl, ⟨fs8, gb⟩, g8⟩ := hq
  refine x_istore C (ls' := [some (.ref sb), some (.ref (ad 0)), some (.ref b), some (.ref o), some (vi 0), some (vi 0), some (vi 0), none, none]) dL_law_623 (by decide) rfl ?_
  refine x_aload_n C dL_law_625 rfl rfl ?_
  refine x_invV C s_Law_97 (st := []) (c_Mo_thrown gb) gb rfl rfl (Nat.le_of_ble_eq_true rfl) (xRm_of hR (by omega) (by decide) (by omega) (by omega)) dL_law_626 (fun r9 h7 hq => ?_)
  obtain ⟨rfl, e9⟩ := hq
  have e9 := e9.symm
  subst e9
  refine x_iload C dL_law_629 rfl ?_
  refine x_icmp_eq C (tgt := 636) dL_law_631 (by decide) (by decide) (by decide) (fun c631 => ?_) (fun c631 => ?_)
  · skip
    refine x_iload C dL_law_636 rfl ?_
    refine x_if_ne C (tgt := 653) dL_law_638 (by decide) (by decide) (fun c638 => ?_) (fun c638 => ?_)
    · skip
      exact absurd rfl c638
    · skip
      refine x_aload_n C dL_law_641 rfl rfl ?_
      refine x_iconst C dL_law_642 ?_
      refine x_lald C g8 ⟨by omega, by omega, by omega⟩ dL_law_643 ?_
      refine x_iload C dL_law_644 rfl ?_
      refine x_i2l C dL_law_646 ?_
      refine x_lcmpQ C (vpu_s _ _ _) dL_law_647 ?_
      refine x_if_eq C (tgt := 653) dL_law_648 (by decide) (by decide) (fun c648 => ?_) (fun c648 => ?_)
      · skip
        refine x_goto C (tgt := 1818) dL_law_653 (by decide) ?_
        refine X.sub (ls' := [some (.ref sb), some (.ref (ad 0)), some (.ref b), some (.ref o), some (vi 0), none, none, none, none]) (sub_cons (Or.inr rfl) (sub_cons (Or.inr rfl) (sub_cons (Or.inr rfl) (sub_cons (Or.inr rfl) (sub_cons (Or.inr rfl) (sub_cons (Or.inl rfl) (sub_cons (Or.inl rfl) (sub_cons (Or.inl rfl) (sub_cons (Or.inl rfl) sub_nil))))))))) ?_
        exact kk h8 _ _ (by omega) (by omega)
      · skip
        exact absurd rfl c648
  · skip
    exact absurd rfl c631

set_option maxRecDepth 100000 in
set_option maxHeartbeats 4000000 in
theorem law_strike_no {G : xG} {K : xK} {h : PH} {ad : Nat → Nat} {fq : Bool} {sb b o a1 a2 a3 a4 a5 a6 a7 a8 bt L cells slots mc9 ms9 : Nat} {go : Nat → Int64} {xs : Nat → Int32} (C : xC G K "TablatureLaw" code 9) (hR : xGe K 200 mc9 ms9) (hrm : 100000 ≤ mc9 ∧ 1000000 ≤ ms9) (T : xTS G (ks K) (ks K).heap) (hj : ∀ i j, i < 300 → j < 300 → ad i = ad j → i = j) (TT : TabR G h ad fq Q0 P0) (hB : h b = (xO 8 [vi 0, vi 0, .ref a1, .ref a2, vi 0, vi 3, vi 0, .ref a3, .ref a4, .ref a5, .ref a6, .ref a7, .ref a8, vi 0, vi 0, .ref bt])) (hO : h o = xL G 1 go) (hA1 : h a1 = xI G 6 (fun _ => 0)) (hA3 : h a3 = xQ G 3 12 (fun _ => none)) (hA4 : h a4 = xI G 12 (fun _ => 0)) (hA5 : h a5 = xZ G 12 (fun _ => false)) (n45 : a4 ≠ a5) (hn : ∀ i, own i → b ≠ ad i ∧ o ≠ ad i ∧ a1 ≠ ad i ∧ a3 ≠ ad i ∧ a4 ≠ ad i ∧ a5 ≠ ad i) (hX : va_X sb L xs (ks K) (ks K).heap) (hbl : sb < gN G) (hbs : sb < (ks K).heap.size) (hL : L = 6) (hc : cells ≤ 1000) (hs : slots ≤ 10000) (kk : ∀ (h' : PH) (c9 s9 : Nat), c9 ≤ 2000 → s9 ≤ 20000 → X G K 9 1818 [some (.ref sb), some (.ref (ad 0)), some (.ref b), some (.ref o), some (vi 0), none, none, none, none] [] h' c9 s9)  : X G K 9 656 [some (.ref sb), some (.ref (ad 0)), some (.ref b), some (.ref o), some (vi 0), none, none, none, none] [] h cells slots := by
  obtain ⟨tq, -, tt, -, -⟩ := id TT.1
  have hnb := fun i hi => (hn i hi).1
  have hno := fun i hi => (hn i hi).2.1
  have hna := fun i hi => (hn i hi).2.2
  refine x_aload_n C dL_law_656 rfl rfl ?_
  refine x_aload_n C dL_law_657 rfl rfl ?_
  refine x_iload C dL_law_658 rfl ?_
  refine x_iconst C dL_law_660 ?_
  refine x_iadd C dL_law_661 ?_
  refine x_sld C hX hbl hbs (v := (xs 1).toInt) ⟨by omega, by omega, by omega⟩ (I_of _).symm dL_law_662 ?_
  refine x_aload_n C dL_law_663 rfl rfl ?_
  refine x_invSH C T sh_122 (st := []) (c_H_strike_no tt (c_strike_no hj TT (v := (xs 1).toInt) (I_bd (xs 1)) (by show ¬ (0 ≤ _ ∧ _ < (0 : Int)); omega))) rfl rfl (Nat.le_of_ble_eq_true rfl) (xRm_of hR (by omega) (by decide) (by omega) (by omega)) dL_law_664 (fun r9 h9 hq => ?_)
  obtain ⟨rfl, e9⟩ := hq
  have e9 := e9.symm
  subst e9
  refine x_istore C (ls' := [some (.ref sb), some (.ref (ad 0)), some (.ref b), some (.ref o), some (vi 0), some (vi 1), none, none, none]) dL_law_667 (by decide) rfl ?_
  refine x_aload_n C dL_law_669 rfl rfl ?_
  refine x_aload_n C dL_law_670 rfl rfl ?_
  refine x_iload C dL_law_671 rfl ?_
  refine x_iconst C dL_law_673 ?_
  refine x_iadd C dL_law_674 ?_
  refine x_sld C hX hbl hbs (v := (xs 1).toInt) ⟨by omega, by omega, by omega⟩ (I_of _).symm dL_law_675 ?_
  refine x_invV C s_Law_124 (st := []) (c_Mo_strike hB hO (v := (xs 1).toInt) (I_bd (xs 1))) hB rfl rfl (Nat.le_of_ble_eq_true rfl) (xRm_of hR (by omega) (by decide) (by omega) (by omega)) dL_law_676 (fun r9 h8 hq => ?_)
  obtain ⟨rfl, ⟨fs8, gb⟩, g8⟩ := hq
  refine x_istore C (ls' := [some (.ref sb), some (.ref (ad 0)), some (.ref b), some (.ref o), some (vi 0), some (vi 1), some (vi 0), none, none]) dL_law_679 (by decide) rfl ?_
  refine x_aload_n C dL_law_681 rfl rfl ?_
  refine x_invV C s_Law_97 (st := []) (c_Mo_thrown gb) gb rfl rfl (Nat.le_of_ble_eq_true rfl) (xRm_of hR (by omega) (by decide) (by omega) (by omega)) dL_law_682 (fun r9 h7 hq => ?_)
  obtain ⟨rfl, e9⟩ := hq
  have e9 := e9.symm
  subst e9
  refine x_iload C dL_law_685 rfl ?_
  refine x_icmp_eq C (tgt := 692) dL_law_687 (by decide) (by decide) (by decide) (fun c687 => ?_) (fun c687 => ?_)
  · skip
    refine x_iload C dL_law_692 rfl ?_
    refine x_if_ne C (tgt := 709) dL_law_694 (by decide) (by decide) (fun c694 => ?_) (fun c694 => ?_)
    · skip
      refine x_goto C (tgt := 1818) dL_law_709 (by decide) ?_
      refine X.sub (ls' := [some (.ref sb), some (.ref (ad 0)), some (.ref b), some (.ref o), some (vi 0), none, none, none, none]) (sub_cons (Or.inr rfl) (sub_cons (Or.inr rfl) (sub_cons (Or.inr rfl) (sub_cons (Or.inr rfl) (sub_cons (Or.inr rfl) (sub_cons (Or.inl rfl) (sub_cons (Or.inl rfl) (sub_cons (Or.inl rfl) (sub_cons (Or.inl rfl) sub_nil))))))))) ?_
      exact kk h8 _ _ (by omega) (by omega)
    · skip
      exact absurd c694 (by decide)
  · skip
    exact absurd rfl c687

set_option maxRecDepth 100000 in
set_option maxHeartbeats 4000000 in
theorem law_fix_no {G : xG} {K : xK} {h : PH} {ad : Nat → Nat} {fq : Bool} {sb b o a1 a2 a3 a4 a5 a6 a7 a8 bt L cells slots mc9 ms9 : Nat} {go : Nat → Int64} {xs : Nat → Int32} (C : xC G K "TablatureLaw" code 9) (hR : xGe K 200 mc9 ms9) (hrm : 100000 ≤ mc9 ∧ 1000000 ≤ ms9) (T : xTS G (ks K) (ks K).heap) (hj : ∀ i j, i < 300 → j < 300 → ad i = ad j → i = j) (TT : TabR G h ad fq Q0 P0) (hB : h b = (xO 8 [vi 0, vi 0, .ref a1, .ref a2, vi 0, vi 3, vi 0, .ref a3, .ref a4, .ref a5, .ref a6, .ref a7, .ref a8, vi 0, vi 0, .ref bt])) (hO : h o = xL G 1 go) (hA1 : h a1 = xI G 6 (fun _ => 0)) (hA3 : h a3 = xQ G 3 12 (fun _ => none)) (hA4 : h a4 = xI G 12 (fun _ => 0)) (hA5 : h a5 = xZ G 12 (fun _ => false)) (n45 : a4 ≠ a5) (hn : ∀ i, own i → b ≠ ad i ∧ o ≠ ad i ∧ a1 ≠ ad i ∧ a3 ≠ ad i ∧ a4 ≠ ad i ∧ a5 ≠ ad i) (hX : va_X sb L xs (ks K) (ks K).heap) (hbl : sb < gN G) (hbs : sb < (ks K).heap.size) (hL : L = 6) (hc : cells ≤ 1000) (hs : slots ≤ 10000) (kk : ∀ (h' : PH) (c9 s9 : Nat), c9 ≤ 2000 → s9 ≤ 20000 → X G K 9 1818 [some (.ref sb), some (.ref (ad 0)), some (.ref b), some (.ref o), some (vi 0), none, none, none, none] [] h' c9 s9)  : X G K 9 712 [some (.ref sb), some (.ref (ad 0)), some (.ref b), some (.ref o), some (vi 0), none, none, none, none] [] h cells slots := by
  obtain ⟨tq, -, tt, -, -⟩ := id TT.1
  have hnb := fun i hi => (hn i hi).1
  have hno := fun i hi => (hn i hi).2.1
  have hna := fun i hi => (hn i hi).2.2
  refine x_aload_n C dL_law_712 rfl rfl ?_
  refine x_aload_n C dL_law_713 rfl rfl ?_
  refine x_iload C dL_law_714 rfl ?_
  refine x_iconst C dL_law_716 ?_
  refine x_iadd C dL_law_717 ?_
  refine x_sld C hX hbl hbs (v := (xs 1).toInt) ⟨by omega, by omega, by omega⟩ (I_of _).symm dL_law_718 ?_
  refine x_aload_n C dL_law_719 rfl rfl ?_
  refine x_iload C dL_law_720 rfl ?_
  refine x_iconst C dL_law_722 ?_
  refine x_iadd C dL_law_723 ?_
  refine x_sld C hX hbl hbs (v := (xs 2).toInt) ⟨by omega, by omega, by omega⟩ (I_of _).symm dL_law_724 ?_
  refine x_aload_n C dL_law_725 rfl rfl ?_
  refine x_invSH C T sh_125 (st := []) (c_H_fix_no tt (c_fix_no hj TT (v := (xs 1).toInt) (I_bd (xs 1)) (by show ¬ (0 ≤ _ ∧ _ < (0 : Int)); omega))) rfl rfl (Nat.le_of_ble_eq_true rfl) (xRm_of hR (by omega) (by decide) (by omega) (by omega)) dL_law_726 (fun r9 h9 hq => ?_)
  obtain ⟨rfl, e9⟩ := hq
  have e9 := e9.symm
  subst e9
  refine x_istore C (ls' := [some (.ref sb), some (.ref (ad 0)), some (.ref b), some (.ref o), some (vi 0), some (vi 1), none, none, none]) dL_law_729 (by decide) rfl ?_
  refine x_aload_n C dL_law_731 rfl rfl ?_
  refine x_aload_n C dL_law_732 rfl rfl ?_
  refine x_iload C dL_law_733 rfl ?_
  refine x_iconst C dL_law_735 ?_
  refine x_iadd C dL_law_736 ?_
  refine x_sld C hX hbl hbs (v := (xs 1).toInt) ⟨by omega, by omega, by omega⟩ (I_of _).symm dL_law_737 ?_
  refine x_aload_n C dL_law_738 rfl rfl ?_
  refine x_iload C dL_law_739 rfl ?_
  refine x_iconst C dL_law_741 ?_
  refine x_iadd C dL_law_742 ?_
  refine x_sld C hX hbl hbs (v := (xs 2).toInt) ⟨by omega, by omega, by omega⟩ (I_of _).symm dL_law_743 ?_
  refine x_invV C s_Law_127 (st := []) (c_Mo_fix hB hO (v := (xs 1).toInt) (w1 := (xs 2).toInt) (I_bd (xs 1))) hB rfl rfl (Nat.le_of_ble_eq_true rfl) (xRm_of hR (by omega) (by decide) (by omega) (by omega)) dL_law_744 (fun r9 h8 hq => ?_)
  obtain ⟨rfl, ⟨fs8, gb⟩, g8⟩ := hq
  refine x_istore C (ls' := [some (.ref sb), some (.ref (ad 0)), some (.ref b), some (.ref o), some (vi 0), some (vi 1), some (vi 0), none, none]) dL_law_747 (by decide) rfl ?_
  refine x_aload_n C dL_law_749 rfl rfl ?_
  refine x_invV C s_Law_97 (st := []) (c_Mo_thrown gb) gb rfl rfl (Nat.le_of_ble_eq_true rfl) (xRm_of hR (by omega) (by decide) (by omega) (by omega)) dL_law_750 (fun r9 h7 hq => ?_)
  obtain ⟨rfl, e9⟩ := hq
  have e9 := e9.symm
  subst e9
  refine x_iload C dL_law_753 rfl ?_
  refine x_icmp_eq C (tgt := 760) dL_law_755 (by decide) (by decide) (by decide) (fun c755 => ?_) (fun c755 => ?_)
  · skip
    refine x_iload C dL_law_760 rfl ?_
    refine x_if_ne C (tgt := 777) dL_law_762 (by decide) (by decide) (fun c762 => ?_) (fun c762 => ?_)
    · skip
      refine x_goto C (tgt := 1818) dL_law_777 (by decide) ?_
      refine X.sub (ls' := [some (.ref sb), some (.ref (ad 0)), some (.ref b), some (.ref o), some (vi 0), none, none, none, none]) (sub_cons (Or.inr rfl) (sub_cons (Or.inr rfl) (sub_cons (Or.inr rfl) (sub_cons (Or.inr rfl) (sub_cons (Or.inr rfl) (sub_cons (Or.inl rfl) (sub_cons (Or.inl rfl) (sub_cons (Or.inl rfl) (sub_cons (Or.inl rfl) sub_nil))))))))) ?_
      exact kk h8 _ _ (by omega) (by omega)
    · skip
      exact absurd c762 (by decide)
  · skip
    exact absurd rfl c755

set_option maxRecDepth 100000 in
set_option maxHeartbeats 4000000 in
theorem law_ofChord_no {G : xG} {K : xK} {h : PH} {ad : Nat → Nat} {fq : Bool} {sb b o a1 a2 a3 a4 a5 a6 a7 a8 bt L cells slots mc9 ms9 : Nat} {go : Nat → Int64} {xs : Nat → Int32} (C : xC G K "TablatureLaw" code 9) (hR : xGe K 200 mc9 ms9) (hrm : 100000 ≤ mc9 ∧ 1000000 ≤ ms9) (T : xTS G (ks K) (ks K).heap) (hj : ∀ i j, i < 300 → j < 300 → ad i = ad j → i = j) (TT : TabR G h ad fq Q0 P0) (hB : h b = (xO 8 [vi 0, vi 0, .ref a1, .ref a2, vi 0, vi 3, vi 0, .ref a3, .ref a4, .ref a5, .ref a6, .ref a7, .ref a8, vi 0, vi 0, .ref bt])) (hO : h o = xL G 1 go) (hA1 : h a1 = xI G 6 (fun _ => 0)) (hA3 : h a3 = xQ G 3 12 (fun _ => none)) (hA4 : h a4 = xI G 12 (fun _ => 0)) (hA5 : h a5 = xZ G 12 (fun _ => false)) (n45 : a4 ≠ a5) (hn : ∀ i, own i → b ≠ ad i ∧ o ≠ ad i ∧ a1 ≠ ad i ∧ a3 ≠ ad i ∧ a4 ≠ ad i ∧ a5 ≠ ad i) (hX : va_X sb L xs (ks K) (ks K).heap) (hbl : sb < gN G) (hbs : sb < (ks K).heap.size) (hL : L = 6) (hc : cells ≤ 1000) (hs : slots ≤ 10000) (kk : ∀ (h' : PH) (c9 s9 : Nat), c9 ≤ 2000 → s9 ≤ 20000 → X G K 9 1818 [some (.ref sb), some (.ref (ad 0)), some (.ref b), some (.ref o), some (vi 0), none, none, none, none] [] h' c9 s9)  : X G K 9 780 [some (.ref sb), some (.ref (ad 0)), some (.ref b), some (.ref o), some (vi 0), none, none, none, none] [] h cells slots := by
  obtain ⟨tq, -, tt, -, -⟩ := id TT.1
  have hnb := fun i hi => (hn i hi).1
  have hno := fun i hi => (hn i hi).2.1
  have hna := fun i hi => (hn i hi).2.2
  refine x_aload_n C dL_law_780 rfl rfl ?_
  refine x_aload_n C dL_law_781 rfl rfl ?_
  refine x_iload C dL_law_782 rfl ?_
  refine x_iconst C dL_law_784 ?_
  refine x_iadd C dL_law_785 ?_
  refine x_sld C hX hbl hbs (v := (xs 1).toInt) ⟨by omega, by omega, by omega⟩ (I_of _).symm dL_law_786 ?_
  refine x_aload_n C dL_law_787 rfl rfl ?_
  refine x_iload C dL_law_788 rfl ?_
  refine x_iconst C dL_law_790 ?_
  refine x_iadd C dL_law_791 ?_
  refine x_sld C hX hbl hbs (v := (xs 2).toInt) ⟨by omega, by omega, by omega⟩ (I_of _).symm dL_law_792 ?_
  refine x_aload_n C dL_law_793 rfl rfl ?_
  refine x_invSH C T sh_128 (st := []) (c_H_ofChord_no tt (c_ofChord_no hj TT (v := (xs 1).toInt) (I_bd (xs 1)) (by show ¬ (0 ≤ _ ∧ _ < (0 : Int)); omega))) rfl rfl (Nat.le_of_ble_eq_true rfl) (xRm_of hR (by omega) (by decide) (by omega) (by omega)) dL_law_794 (fun r9 h9 hq => ?_)
  obtain ⟨rfl, e9⟩ := hq
  have e9 := e9.symm
  subst e9
  refine x_istore C (ls' := [some (.ref sb), some (.ref (ad 0)), some (.ref b), some (.ref o), some (vi 0), some (vi 1), none, none, none]) dL_law_797 (by decide) rfl ?_
  refine x_aload_n C dL_law_799 rfl rfl ?_
  refine x_aload_n C dL_law_800 rfl rfl ?_
  refine x_iload C dL_law_801 rfl ?_
  refine x_iconst C dL_law_803 ?_
  refine x_iadd C dL_law_804 ?_
  refine x_sld C hX hbl hbs (v := (xs 1).toInt) ⟨by omega, by omega, by omega⟩ (I_of _).symm dL_law_805 ?_
  refine x_aload_n C dL_law_806 rfl rfl ?_
  refine x_iload C dL_law_807 rfl ?_
  refine x_iconst C dL_law_809 ?_
  refine x_iadd C dL_law_810 ?_
  refine x_sld C hX hbl hbs (v := (xs 2).toInt) ⟨by omega, by omega, by omega⟩ (I_of _).symm dL_law_811 ?_
  refine x_invV C s_Law_130 (st := []) (c_Mo_ofChord hB hO (v := (xs 1).toInt) (w1 := (xs 2).toInt) (I_bd (xs 1))) hB rfl rfl (Nat.le_of_ble_eq_true rfl) (xRm_of hR (by omega) (by decide) (by omega) (by omega)) dL_law_812 (fun r9 h8 hq => ?_)
  obtain ⟨rfl, ⟨fs8, gb⟩, g8⟩ := hq
  refine x_istore C (ls' := [some (.ref sb), some (.ref (ad 0)), some (.ref b), some (.ref o), some (vi 0), some (vi 1), some (vi 0), none, none]) dL_law_815 (by decide) rfl ?_
  refine x_aload_n C dL_law_817 rfl rfl ?_
  refine x_invV C s_Law_97 (st := []) (c_Mo_thrown gb) gb rfl rfl (Nat.le_of_ble_eq_true rfl) (xRm_of hR (by omega) (by decide) (by omega) (by omega)) dL_law_818 (fun r9 h7 hq => ?_)
  obtain ⟨rfl, e9⟩ := hq
  have e9 := e9.symm
  subst e9
  refine x_iload C dL_law_821 rfl ?_
  refine x_icmp_eq C (tgt := 828) dL_law_823 (by decide) (by decide) (by decide) (fun c823 => ?_) (fun c823 => ?_)
  · skip
    refine x_iload C dL_law_828 rfl ?_
    refine x_if_ne C (tgt := 845) dL_law_830 (by decide) (by decide) (fun c830 => ?_) (fun c830 => ?_)
    · skip
      refine x_goto C (tgt := 1818) dL_law_845 (by decide) ?_
      refine X.sub (ls' := [some (.ref sb), some (.ref (ad 0)), some (.ref b), some (.ref o), some (vi 0), none, none, none, none]) (sub_cons (Or.inr rfl) (sub_cons (Or.inr rfl) (sub_cons (Or.inr rfl) (sub_cons (Or.inr rfl) (sub_cons (Or.inr rfl) (sub_cons (Or.inl rfl) (sub_cons (Or.inl rfl) (sub_cons (Or.inl rfl) (sub_cons (Or.inl rfl) sub_nil))))))))) ?_
      exact kk h8 _ _ (by omega) (by omega)
    · skip
      exact absurd c830 (by decide)
  · skip
    exact absurd rfl c823

set_option maxRecDepth 100000 in
set_option maxHeartbeats 4000000 in
theorem law_ofGrip_no {G : xG} {K : xK} {h : PH} {ad : Nat → Nat} {fq : Bool} {sb b o a1 a2 a3 a4 a5 a6 a7 a8 bt L cells slots mc9 ms9 : Nat} {go : Nat → Int64} {xs : Nat → Int32} (C : xC G K "TablatureLaw" code 9) (hR : xGe K 200 mc9 ms9) (hrm : 100000 ≤ mc9 ∧ 1000000 ≤ ms9) (T : xTS G (ks K) (ks K).heap) (hj : ∀ i j, i < 300 → j < 300 → ad i = ad j → i = j) (TT : TabR G h ad fq Q0 P0) (hB : h b = (xO 8 [vi 0, vi 0, .ref a1, .ref a2, vi 0, vi 3, vi 0, .ref a3, .ref a4, .ref a5, .ref a6, .ref a7, .ref a8, vi 0, vi 0, .ref bt])) (hO : h o = xL G 1 go) (hA1 : h a1 = xI G 6 (fun _ => 0)) (hA3 : h a3 = xQ G 3 12 (fun _ => none)) (hA4 : h a4 = xI G 12 (fun _ => 0)) (hA5 : h a5 = xZ G 12 (fun _ => false)) (n45 : a4 ≠ a5) (hn : ∀ i, own i → b ≠ ad i ∧ o ≠ ad i ∧ a1 ≠ ad i ∧ a3 ≠ ad i ∧ a4 ≠ ad i ∧ a5 ≠ ad i) (hX : va_X sb L xs (ks K) (ks K).heap) (hbl : sb < gN G) (hbs : sb < (ks K).heap.size) (hL : L = 6) (hc : cells ≤ 1000) (hs : slots ≤ 10000) (kk : ∀ (h' : PH) (c9 s9 : Nat), c9 ≤ 2000 → s9 ≤ 20000 → X G K 9 1818 [some (.ref sb), some (.ref (ad 0)), some (.ref b), some (.ref o), some (vi 0), none, none, none, none] [] h' c9 s9)  : X G K 9 848 [some (.ref sb), some (.ref (ad 0)), some (.ref b), some (.ref o), some (vi 0), none, none, none, none] [] h cells slots := by
  obtain ⟨tq, -, tt, -, -⟩ := id TT.1
  have hnb := fun i hi => (hn i hi).1
  have hno := fun i hi => (hn i hi).2.1
  have hna := fun i hi => (hn i hi).2.2
  refine x_aload_n C dL_law_848 rfl rfl ?_
  refine x_aload_n C dL_law_849 rfl rfl ?_
  refine x_iload C dL_law_850 rfl ?_
  refine x_iconst C dL_law_852 ?_
  refine x_iadd C dL_law_853 ?_
  refine x_sld C hX hbl hbs (v := (xs 1).toInt) ⟨by omega, by omega, by omega⟩ (I_of _).symm dL_law_854 ?_
  refine x_aload_n C dL_law_855 rfl rfl ?_
  refine x_iload C dL_law_856 rfl ?_
  refine x_iconst C dL_law_858 ?_
  refine x_iadd C dL_law_859 ?_
  refine x_sld C hX hbl hbs (v := (xs 2).toInt) ⟨by omega, by omega, by omega⟩ (I_of _).symm dL_law_860 ?_
  refine x_aload_n C dL_law_861 rfl rfl ?_
  refine x_iload C dL_law_862 rfl ?_
  refine x_iconst C dL_law_864 ?_
  refine x_iadd C dL_law_865 ?_
  refine x_sld C hX hbl hbs (v := (xs 3).toInt) ⟨by omega, by omega, by omega⟩ (I_of _).symm dL_law_866 ?_
  refine x_aload_n C dL_law_867 rfl rfl ?_
  refine x_invSH C T sh_131 (st := []) (c_H_ofGrip_no tt (c_ofGrip_no hj TT (v := (xs 1).toInt) (I_bd (xs 1)) (by show ¬ (0 ≤ _ ∧ _ < (0 : Int)); omega))) rfl rfl (Nat.le_of_ble_eq_true rfl) (xRm_of hR (by omega) (by decide) (by omega) (by omega)) dL_law_868 (fun r9 h9 hq => ?_)
  obtain ⟨rfl, e9⟩ := hq
  have e9 := e9.symm
  subst e9
  refine x_istore C (ls' := [some (.ref sb), some (.ref (ad 0)), some (.ref b), some (.ref o), some (vi 0), some (vi 1), none, none, none]) dL_law_871 (by decide) rfl ?_
  refine x_aload_n C dL_law_873 rfl rfl ?_
  refine x_aload_n C dL_law_874 rfl rfl ?_
  refine x_iload C dL_law_875 rfl ?_
  refine x_iconst C dL_law_877 ?_
  refine x_iadd C dL_law_878 ?_
  refine x_sld C hX hbl hbs (v := (xs 1).toInt) ⟨by omega, by omega, by omega⟩ (I_of _).symm dL_law_879 ?_
  refine x_aload_n C dL_law_880 rfl rfl ?_
  refine x_iload C dL_law_881 rfl ?_
  refine x_iconst C dL_law_883 ?_
  refine x_iadd C dL_law_884 ?_
  refine x_sld C hX hbl hbs (v := (xs 2).toInt) ⟨by omega, by omega, by omega⟩ (I_of _).symm dL_law_885 ?_
  refine x_aload_n C dL_law_886 rfl rfl ?_
  refine x_iload C dL_law_887 rfl ?_
  refine x_iconst C dL_law_889 ?_
  refine x_iadd C dL_law_890 ?_
  refine x_sld C hX hbl hbs (v := (xs 3).toInt) ⟨by omega, by omega, by omega⟩ (I_of _).symm dL_law_891 ?_
  refine x_invV C s_Law_134 (st := []) (c_Mo_ofGrip hB hO (v := (xs 1).toInt) (w1 := (xs 2).toInt) (w2 := (xs 3).toInt) (I_bd (xs 1))) hB rfl rfl (Nat.le_of_ble_eq_true rfl) (xRm_of hR (by omega) (by decide) (by omega) (by omega)) dL_law_892 (fun r9 h8 hq => ?_)
  obtain ⟨rfl, ⟨fs8, gb⟩, g8⟩ := hq
  refine x_istore C (ls' := [some (.ref sb), some (.ref (ad 0)), some (.ref b), some (.ref o), some (vi 0), some (vi 1), some (vi 0), none, none]) dL_law_895 (by decide) rfl ?_
  refine x_aload_n C dL_law_897 rfl rfl ?_
  refine x_invV C s_Law_97 (st := []) (c_Mo_thrown gb) gb rfl rfl (Nat.le_of_ble_eq_true rfl) (xRm_of hR (by omega) (by decide) (by omega) (by omega)) dL_law_898 (fun r9 h7 hq => ?_)
  obtain ⟨rfl, e9⟩ := hq
  have e9 := e9.symm
  subst e9
  refine x_iload C dL_law_901 rfl ?_
  refine x_icmp_eq C (tgt := 908) dL_law_903 (by decide) (by decide) (by decide) (fun c903 => ?_) (fun c903 => ?_)
  · skip
    refine x_iload C dL_law_908 rfl ?_
    refine x_if_ne C (tgt := 925) dL_law_910 (by decide) (by decide) (fun c910 => ?_) (fun c910 => ?_)
    · skip
      refine x_goto C (tgt := 1818) dL_law_925 (by decide) ?_
      refine X.sub (ls' := [some (.ref sb), some (.ref (ad 0)), some (.ref b), some (.ref o), some (vi 0), none, none, none, none]) (sub_cons (Or.inr rfl) (sub_cons (Or.inr rfl) (sub_cons (Or.inr rfl) (sub_cons (Or.inr rfl) (sub_cons (Or.inr rfl) (sub_cons (Or.inl rfl) (sub_cons (Or.inl rfl) (sub_cons (Or.inl rfl) (sub_cons (Or.inl rfl) sub_nil))))))))) ?_
      exact kk h8 _ _ (by omega) (by omega)
    · skip
      exact absurd c910 (by decide)
  · skip
    exact absurd rfl c903

set_option maxRecDepth 100000 in
set_option maxHeartbeats 4000000 in
theorem law_fret_no {G : xG} {K : xK} {h : PH} {ad : Nat → Nat} {fq : Bool} {sb b o a1 a2 a3 a4 a5 a6 a7 a8 bt L cells slots mc9 ms9 : Nat} {go : Nat → Int64} {xs : Nat → Int32} (C : xC G K "TablatureLaw" code 9) (hR : xGe K 200 mc9 ms9) (hrm : 100000 ≤ mc9 ∧ 1000000 ≤ ms9) (T : xTS G (ks K) (ks K).heap) (hj : ∀ i j, i < 300 → j < 300 → ad i = ad j → i = j) (TT : TabR G h ad fq Q0 P0) (hB : h b = (xO 8 [vi 0, vi 0, .ref a1, .ref a2, vi 0, vi 3, vi 0, .ref a3, .ref a4, .ref a5, .ref a6, .ref a7, .ref a8, vi 0, vi 0, .ref bt])) (hO : h o = xL G 1 go) (hA1 : h a1 = xI G 6 (fun _ => 0)) (hA3 : h a3 = xQ G 3 12 (fun _ => none)) (hA4 : h a4 = xI G 12 (fun _ => 0)) (hA5 : h a5 = xZ G 12 (fun _ => false)) (n45 : a4 ≠ a5) (hn : ∀ i, own i → b ≠ ad i ∧ o ≠ ad i ∧ a1 ≠ ad i ∧ a3 ≠ ad i ∧ a4 ≠ ad i ∧ a5 ≠ ad i) (hX : va_X sb L xs (ks K) (ks K).heap) (hbl : sb < gN G) (hbs : sb < (ks K).heap.size) (hL : L = 6) (hc : cells ≤ 1000) (hs : slots ≤ 10000) (kk : ∀ (h' : PH) (c9 s9 : Nat), c9 ≤ 2000 → s9 ≤ 20000 → X G K 9 1818 [some (.ref sb), some (.ref (ad 0)), some (.ref b), some (.ref o), some (vi 0), none, none, none, none] [] h' c9 s9)  : X G K 9 928 [some (.ref sb), some (.ref (ad 0)), some (.ref b), some (.ref o), some (vi 0), none, none, none, none] [] h cells slots := by
  obtain ⟨tq, -, tt, -, -⟩ := id TT.1
  have hnb := fun i hi => (hn i hi).1
  have hno := fun i hi => (hn i hi).2.1
  have hna := fun i hi => (hn i hi).2.2
  refine x_aload_n C dL_law_928 rfl rfl ?_
  refine x_aload_n C dL_law_929 rfl rfl ?_
  refine x_iload C dL_law_930 rfl ?_
  refine x_iconst C dL_law_932 ?_
  refine x_iadd C dL_law_933 ?_
  refine x_sld C hX hbl hbs (v := (xs 1).toInt) ⟨by omega, by omega, by omega⟩ (I_of _).symm dL_law_934 ?_
  refine x_aload_n C dL_law_935 rfl rfl ?_
  refine x_iload C dL_law_936 rfl ?_
  refine x_iconst C dL_law_938 ?_
  refine x_iadd C dL_law_939 ?_
  refine x_sld C hX hbl hbs (v := (xs 2).toInt) ⟨by omega, by omega, by omega⟩ (I_of _).symm dL_law_940 ?_
  refine x_aload_n C dL_law_941 rfl rfl ?_
  refine x_iload C dL_law_942 rfl ?_
  refine x_iconst C dL_law_944 ?_
  refine x_iadd C dL_law_945 ?_
  refine x_sld C hX hbl hbs (v := (xs 3).toInt) ⟨by omega, by omega, by omega⟩ (I_of _).symm dL_law_946 ?_
  refine x_aload_n C dL_law_947 rfl rfl ?_
  refine x_invSH C T sh_135 (st := []) (c_H_fret_no tt (c_fret_no hj TT (v := (xs 1).toInt) (I_bd (xs 1)) (by show ¬ (0 ≤ _ ∧ _ < (0 : Int)); omega))) rfl rfl (Nat.le_of_ble_eq_true rfl) (xRm_of hR (by omega) (by decide) (by omega) (by omega)) dL_law_948 (fun r9 h9 hq => ?_)
  obtain ⟨rfl, e9⟩ := hq
  have e9 := e9.symm
  subst e9
  refine x_istore C (ls' := [some (.ref sb), some (.ref (ad 0)), some (.ref b), some (.ref o), some (vi 0), some (vi 1), none, none, none]) dL_law_951 (by decide) rfl ?_
  refine x_aload_n C dL_law_953 rfl rfl ?_
  refine x_aload_n C dL_law_954 rfl rfl ?_
  refine x_iload C dL_law_955 rfl ?_
  refine x_iconst C dL_law_957 ?_
  refine x_iadd C dL_law_958 ?_
  refine x_sld C hX hbl hbs (v := (xs 1).toInt) ⟨by omega, by omega, by omega⟩ (I_of _).symm dL_law_959 ?_
  refine x_aload_n C dL_law_960 rfl rfl ?_
  refine x_iload C dL_law_961 rfl ?_
  refine x_iconst C dL_law_963 ?_
  refine x_iadd C dL_law_964 ?_
  refine x_sld C hX hbl hbs (v := (xs 2).toInt) ⟨by omega, by omega, by omega⟩ (I_of _).symm dL_law_965 ?_
  refine x_aload_n C dL_law_966 rfl rfl ?_
  refine x_iload C dL_law_967 rfl ?_
  refine x_iconst C dL_law_969 ?_
  refine x_iadd C dL_law_970 ?_
  refine x_sld C hX hbl hbs (v := (xs 3).toInt) ⟨by omega, by omega, by omega⟩ (I_of _).symm dL_law_971 ?_
  refine x_invV C s_Law_137 (st := []) (c_Mo_fret hB hO (v := (xs 1).toInt) (w1 := (xs 2).toInt) (w2 := (xs 3).toInt) (I_bd (xs 1))) hB rfl rfl (Nat.le_of_ble_eq_true rfl) (xRm_of hR (by omega) (by decide) (by omega) (by omega)) dL_law_972 (fun r9 h8 hq => ?_)
  obtain ⟨rfl, ⟨fs8, gb⟩, g8⟩ := hq
  refine x_istore C (ls' := [some (.ref sb), some (.ref (ad 0)), some (.ref b), some (.ref o), some (vi 0), some (vi 1), some (vi 0), none, none]) dL_law_975 (by decide) rfl ?_
  refine x_aload_n C dL_law_977 rfl rfl ?_
  refine x_invV C s_Law_97 (st := []) (c_Mo_thrown gb) gb rfl rfl (Nat.le_of_ble_eq_true rfl) (xRm_of hR (by omega) (by decide) (by omega) (by omega)) dL_law_978 (fun r9 h7 hq => ?_)
  obtain ⟨rfl, e9⟩ := hq
  have e9 := e9.symm
  subst e9
  refine x_iload C dL_law_981 rfl ?_
  refine x_icmp_eq C (tgt := 988) dL_law_983 (by decide) (by decide) (by decide) (fun c983 => ?_) (fun c983 => ?_)
  · skip
    refine x_iload C dL_law_988 rfl ?_
    refine x_if_ne C (tgt := 1005) dL_law_990 (by decide) (by decide) (fun c990 => ?_) (fun c990 => ?_)
    · skip
      refine x_goto C (tgt := 1818) dL_law_1005 (by decide) ?_
      refine X.sub (ls' := [some (.ref sb), some (.ref (ad 0)), some (.ref b), some (.ref o), some (vi 0), none, none, none, none]) (sub_cons (Or.inr rfl) (sub_cons (Or.inr rfl) (sub_cons (Or.inr rfl) (sub_cons (Or.inr rfl) (sub_cons (Or.inr rfl) (sub_cons (Or.inl rfl) (sub_cons (Or.inl rfl) (sub_cons (Or.inl rfl) (sub_cons (Or.inl rfl) sub_nil))))))))) ?_
      exact kk h8 _ _ (by omega) (by omega)
    · skip
      exact absurd c990 (by decide)
  · skip
    exact absurd rfl c983

set_option maxRecDepth 100000 in
set_option maxHeartbeats 4000000 in
theorem law_finger_no {G : xG} {K : xK} {h : PH} {ad : Nat → Nat} {fq : Bool} {sb b o a1 a2 a3 a4 a5 a6 a7 a8 bt L cells slots mc9 ms9 : Nat} {go : Nat → Int64} {xs : Nat → Int32} (C : xC G K "TablatureLaw" code 9) (hR : xGe K 200 mc9 ms9) (hrm : 100000 ≤ mc9 ∧ 1000000 ≤ ms9) (T : xTS G (ks K) (ks K).heap) (hj : ∀ i j, i < 300 → j < 300 → ad i = ad j → i = j) (TT : TabR G h ad fq Q0 P0) (hB : h b = (xO 8 [vi 0, vi 0, .ref a1, .ref a2, vi 0, vi 3, vi 0, .ref a3, .ref a4, .ref a5, .ref a6, .ref a7, .ref a8, vi 0, vi 0, .ref bt])) (hO : h o = xL G 1 go) (hA1 : h a1 = xI G 6 (fun _ => 0)) (hA3 : h a3 = xQ G 3 12 (fun _ => none)) (hA4 : h a4 = xI G 12 (fun _ => 0)) (hA5 : h a5 = xZ G 12 (fun _ => false)) (n45 : a4 ≠ a5) (hn : ∀ i, own i → b ≠ ad i ∧ o ≠ ad i ∧ a1 ≠ ad i ∧ a3 ≠ ad i ∧ a4 ≠ ad i ∧ a5 ≠ ad i) (hX : va_X sb L xs (ks K) (ks K).heap) (hbl : sb < gN G) (hbs : sb < (ks K).heap.size) (hL : L = 6) (hc : cells ≤ 1000) (hs : slots ≤ 10000) (kk : ∀ (h' : PH) (c9 s9 : Nat), c9 ≤ 2000 → s9 ≤ 20000 → X G K 9 1818 [some (.ref sb), some (.ref (ad 0)), some (.ref b), some (.ref o), some (vi 0), none, none, none, none] [] h' c9 s9)  : X G K 9 1008 [some (.ref sb), some (.ref (ad 0)), some (.ref b), some (.ref o), some (vi 0), none, none, none, none] [] h cells slots := by
  obtain ⟨tq, -, tt, -, -⟩ := id TT.1
  have hnb := fun i hi => (hn i hi).1
  have hno := fun i hi => (hn i hi).2.1
  have hna := fun i hi => (hn i hi).2.2
  refine x_aload_n C dL_law_1008 rfl rfl ?_
  refine x_aload_n C dL_law_1009 rfl rfl ?_
  refine x_iload C dL_law_1010 rfl ?_
  refine x_iconst C dL_law_1012 ?_
  refine x_iadd C dL_law_1013 ?_
  refine x_sld C hX hbl hbs (v := (xs 1).toInt) ⟨by omega, by omega, by omega⟩ (I_of _).symm dL_law_1014 ?_
  refine x_aload_n C dL_law_1015 rfl rfl ?_
  refine x_iload C dL_law_1016 rfl ?_
  refine x_iconst C dL_law_1018 ?_
  refine x_iadd C dL_law_1019 ?_
  refine x_sld C hX hbl hbs (v := (xs 2).toInt) ⟨by omega, by omega, by omega⟩ (I_of _).symm dL_law_1020 ?_
  refine x_aload_n C dL_law_1021 rfl rfl ?_
  refine x_iload C dL_law_1022 rfl ?_
  refine x_iconst C dL_law_1024 ?_
  refine x_iadd C dL_law_1025 ?_
  refine x_sld C hX hbl hbs (v := (xs 3).toInt) ⟨by omega, by omega, by omega⟩ (I_of _).symm dL_law_1026 ?_
  refine x_aload_n C dL_law_1027 rfl rfl ?_
  refine x_invSH C T sh_138 (st := []) (c_H_finger_no tt (c_finger_no hj TT (v := (xs 1).toInt) (I_bd (xs 1)) (by show ¬ (0 ≤ _ ∧ _ < (0 : Int)); omega))) rfl rfl (Nat.le_of_ble_eq_true rfl) (xRm_of hR (by omega) (by decide) (by omega) (by omega)) dL_law_1028 (fun r9 h9 hq => ?_)
  obtain ⟨rfl, e9⟩ := hq
  have e9 := e9.symm
  subst e9
  refine x_istore C (ls' := [some (.ref sb), some (.ref (ad 0)), some (.ref b), some (.ref o), some (vi 0), some (vi 1), none, none, none]) dL_law_1031 (by decide) rfl ?_
  refine x_aload_n C dL_law_1033 rfl rfl ?_
  refine x_aload_n C dL_law_1034 rfl rfl ?_
  refine x_iload C dL_law_1035 rfl ?_
  refine x_iconst C dL_law_1037 ?_
  refine x_iadd C dL_law_1038 ?_
  refine x_sld C hX hbl hbs (v := (xs 1).toInt) ⟨by omega, by omega, by omega⟩ (I_of _).symm dL_law_1039 ?_
  refine x_aload_n C dL_law_1040 rfl rfl ?_
  refine x_iload C dL_law_1041 rfl ?_
  refine x_iconst C dL_law_1043 ?_
  refine x_iadd C dL_law_1044 ?_
  refine x_sld C hX hbl hbs (v := (xs 2).toInt) ⟨by omega, by omega, by omega⟩ (I_of _).symm dL_law_1045 ?_
  refine x_aload_n C dL_law_1046 rfl rfl ?_
  refine x_iload C dL_law_1047 rfl ?_
  refine x_iconst C dL_law_1049 ?_
  refine x_iadd C dL_law_1050 ?_
  refine x_sld C hX hbl hbs (v := (xs 3).toInt) ⟨by omega, by omega, by omega⟩ (I_of _).symm dL_law_1051 ?_
  refine x_invV C s_Law_140 (st := []) (c_Mo_finger hB hO (v := (xs 1).toInt) (w1 := (xs 2).toInt) (w2 := (xs 3).toInt) (I_bd (xs 1))) hB rfl rfl (Nat.le_of_ble_eq_true rfl) (xRm_of hR (by omega) (by decide) (by omega) (by omega)) dL_law_1052 (fun r9 h8 hq => ?_)
  obtain ⟨rfl, ⟨fs8, gb⟩, g8⟩ := hq
  refine x_istore C (ls' := [some (.ref sb), some (.ref (ad 0)), some (.ref b), some (.ref o), some (vi 0), some (vi 1), some (vi 0), none, none]) dL_law_1055 (by decide) rfl ?_
  refine x_aload_n C dL_law_1057 rfl rfl ?_
  refine x_invV C s_Law_97 (st := []) (c_Mo_thrown gb) gb rfl rfl (Nat.le_of_ble_eq_true rfl) (xRm_of hR (by omega) (by decide) (by omega) (by omega)) dL_law_1058 (fun r9 h7 hq => ?_)
  obtain ⟨rfl, e9⟩ := hq
  have e9 := e9.symm
  subst e9
  refine x_iload C dL_law_1061 rfl ?_
  refine x_icmp_eq C (tgt := 1068) dL_law_1063 (by decide) (by decide) (by decide) (fun c1063 => ?_) (fun c1063 => ?_)
  · skip
    refine x_iload C dL_law_1068 rfl ?_
    refine x_if_ne C (tgt := 1085) dL_law_1070 (by decide) (by decide) (fun c1070 => ?_) (fun c1070 => ?_)
    · skip
      refine x_goto C (tgt := 1818) dL_law_1085 (by decide) ?_
      refine X.sub (ls' := [some (.ref sb), some (.ref (ad 0)), some (.ref b), some (.ref o), some (vi 0), none, none, none, none]) (sub_cons (Or.inr rfl) (sub_cons (Or.inr rfl) (sub_cons (Or.inr rfl) (sub_cons (Or.inr rfl) (sub_cons (Or.inr rfl) (sub_cons (Or.inl rfl) (sub_cons (Or.inl rfl) (sub_cons (Or.inl rfl) (sub_cons (Or.inl rfl) sub_nil))))))))) ?_
      exact kk h8 _ _ (by omega) (by omega)
    · skip
      exact absurd c1070 (by decide)
  · skip
    exact absurd rfl c1063

set_option maxRecDepth 100000 in
set_option maxHeartbeats 4000000 in
theorem law_move_no {G : xG} {K : xK} {h : PH} {ad : Nat → Nat} {fq : Bool} {sb b o a1 a2 a3 a4 a5 a6 a7 a8 bt L cells slots mc9 ms9 : Nat} {go : Nat → Int64} {xs : Nat → Int32} (C : xC G K "TablatureLaw" code 9) (hR : xGe K 200 mc9 ms9) (hrm : 100000 ≤ mc9 ∧ 1000000 ≤ ms9) (T : xTS G (ks K) (ks K).heap) (hj : ∀ i j, i < 300 → j < 300 → ad i = ad j → i = j) (TT : TabR G h ad fq Q0 P0) (hB : h b = (xO 8 [vi 0, vi 0, .ref a1, .ref a2, vi 0, vi 3, vi 0, .ref a3, .ref a4, .ref a5, .ref a6, .ref a7, .ref a8, vi 0, vi 0, .ref bt])) (hO : h o = xL G 1 go) (hA1 : h a1 = xI G 6 (fun _ => 0)) (hA3 : h a3 = xQ G 3 12 (fun _ => none)) (hA4 : h a4 = xI G 12 (fun _ => 0)) (hA5 : h a5 = xZ G 12 (fun _ => false)) (n45 : a4 ≠ a5) (hn : ∀ i, own i → b ≠ ad i ∧ o ≠ ad i ∧ a1 ≠ ad i ∧ a3 ≠ ad i ∧ a4 ≠ ad i ∧ a5 ≠ ad i) (hX : va_X sb L xs (ks K) (ks K).heap) (hbl : sb < gN G) (hbs : sb < (ks K).heap.size) (hL : L = 6) (hc : cells ≤ 1000) (hs : slots ≤ 10000) (kk : ∀ (h' : PH) (c9 s9 : Nat), c9 ≤ 2000 → s9 ≤ 20000 → X G K 9 1818 [some (.ref sb), some (.ref (ad 0)), some (.ref b), some (.ref o), some (vi 0), none, none, none, none] [] h' c9 s9)  : X G K 9 1088 [some (.ref sb), some (.ref (ad 0)), some (.ref b), some (.ref o), some (vi 0), none, none, none, none] [] h cells slots := by
  obtain ⟨tq, -, tt, -, -⟩ := id TT.1
  have hnb := fun i hi => (hn i hi).1
  have hno := fun i hi => (hn i hi).2.1
  have hna := fun i hi => (hn i hi).2.2
  refine x_aload_n C dL_law_1088 rfl rfl ?_
  refine x_aload_n C dL_law_1089 rfl rfl ?_
  refine x_iload C dL_law_1090 rfl ?_
  refine x_iconst C dL_law_1092 ?_
  refine x_iadd C dL_law_1093 ?_
  refine x_sld C hX hbl hbs (v := (xs 1).toInt) ⟨by omega, by omega, by omega⟩ (I_of _).symm dL_law_1094 ?_
  refine x_aload_n C dL_law_1095 rfl rfl ?_
  refine x_iload C dL_law_1096 rfl ?_
  refine x_iconst C dL_law_1098 ?_
  refine x_iadd C dL_law_1099 ?_
  refine x_sld C hX hbl hbs (v := (xs 2).toInt) ⟨by omega, by omega, by omega⟩ (I_of _).symm dL_law_1100 ?_
  refine x_aload_n C dL_law_1101 rfl rfl ?_
  refine x_iload C dL_law_1102 rfl ?_
  refine x_iconst C dL_law_1104 ?_
  refine x_iadd C dL_law_1105 ?_
  refine x_sld C hX hbl hbs (v := (xs 3).toInt) ⟨by omega, by omega, by omega⟩ (I_of _).symm dL_law_1106 ?_
  refine x_aload_n C dL_law_1107 rfl rfl ?_
  refine x_invSH C T sh_141 (st := []) (c_H_move_no tt (c_move_no hj TT (v := (xs 1).toInt) (I_bd (xs 1)) (by show ¬ (0 ≤ _ ∧ _ < (0 : Int)); omega))) rfl rfl (Nat.le_of_ble_eq_true rfl) (xRm_of hR (by omega) (by decide) (by omega) (by omega)) dL_law_1108 (fun r9 h9 hq => ?_)
  obtain ⟨rfl, e9⟩ := hq
  have e9 := e9.symm
  subst e9
  refine x_istore C (ls' := [some (.ref sb), some (.ref (ad 0)), some (.ref b), some (.ref o), some (vi 0), some (vi 1), none, none, none]) dL_law_1111 (by decide) rfl ?_
  refine x_aload_n C dL_law_1113 rfl rfl ?_
  refine x_aload_n C dL_law_1114 rfl rfl ?_
  refine x_iload C dL_law_1115 rfl ?_
  refine x_iconst C dL_law_1117 ?_
  refine x_iadd C dL_law_1118 ?_
  refine x_sld C hX hbl hbs (v := (xs 1).toInt) ⟨by omega, by omega, by omega⟩ (I_of _).symm dL_law_1119 ?_
  refine x_aload_n C dL_law_1120 rfl rfl ?_
  refine x_iload C dL_law_1121 rfl ?_
  refine x_iconst C dL_law_1123 ?_
  refine x_iadd C dL_law_1124 ?_
  refine x_sld C hX hbl hbs (v := (xs 2).toInt) ⟨by omega, by omega, by omega⟩ (I_of _).symm dL_law_1125 ?_
  refine x_aload_n C dL_law_1126 rfl rfl ?_
  refine x_iload C dL_law_1127 rfl ?_
  refine x_iconst C dL_law_1129 ?_
  refine x_iadd C dL_law_1130 ?_
  refine x_sld C hX hbl hbs (v := (xs 3).toInt) ⟨by omega, by omega, by omega⟩ (I_of _).symm dL_law_1131 ?_
  refine x_invV C s_Law_143 (st := []) (c_Mo_move hB hO (v := (xs 1).toInt) (w1 := (xs 2).toInt) (w2 := (xs 3).toInt) (I_bd (xs 1))) hB rfl rfl (Nat.le_of_ble_eq_true rfl) (xRm_of hR (by omega) (by decide) (by omega) (by omega)) dL_law_1132 (fun r9 h8 hq => ?_)
  obtain ⟨rfl, ⟨fs8, gb⟩, g8⟩ := hq
  refine x_istore C (ls' := [some (.ref sb), some (.ref (ad 0)), some (.ref b), some (.ref o), some (vi 0), some (vi 1), some (vi 0), none, none]) dL_law_1135 (by decide) rfl ?_
  refine x_aload_n C dL_law_1137 rfl rfl ?_
  refine x_invV C s_Law_97 (st := []) (c_Mo_thrown gb) gb rfl rfl (Nat.le_of_ble_eq_true rfl) (xRm_of hR (by omega) (by decide) (by omega) (by omega)) dL_law_1138 (fun r9 h7 hq => ?_)
  obtain ⟨rfl, e9⟩ := hq
  have e9 := e9.symm
  subst e9
  refine x_iload C dL_law_1141 rfl ?_
  refine x_icmp_eq C (tgt := 1148) dL_law_1143 (by decide) (by decide) (by decide) (fun c1143 => ?_) (fun c1143 => ?_)
  · skip
    refine x_iload C dL_law_1148 rfl ?_
    refine x_if_ne C (tgt := 1165) dL_law_1150 (by decide) (by decide) (fun c1150 => ?_) (fun c1150 => ?_)
    · skip
      refine x_goto C (tgt := 1818) dL_law_1165 (by decide) ?_
      refine X.sub (ls' := [some (.ref sb), some (.ref (ad 0)), some (.ref b), some (.ref o), some (vi 0), none, none, none, none]) (sub_cons (Or.inr rfl) (sub_cons (Or.inr rfl) (sub_cons (Or.inr rfl) (sub_cons (Or.inr rfl) (sub_cons (Or.inr rfl) (sub_cons (Or.inl rfl) (sub_cons (Or.inl rfl) (sub_cons (Or.inl rfl) (sub_cons (Or.inl rfl) sub_nil))))))))) ?_
      exact kk h8 _ _ (by omega) (by omega)
    · skip
      exact absurd c1150 (by decide)
  · skip
    exact absurd rfl c1143

set_option maxRecDepth 100000 in
set_option maxHeartbeats 4000000 in
theorem law_plan_no {G : xG} {K : xK} {h : PH} {ad : Nat → Nat} {fq : Bool} {sb b o a1 a2 a3 a4 a5 a6 a7 a8 bt L cells slots mc9 ms9 : Nat} {go : Nat → Int64} {xs : Nat → Int32} (C : xC G K "TablatureLaw" code 9) (hR : xGe K 200 mc9 ms9) (hrm : 100000 ≤ mc9 ∧ 1000000 ≤ ms9) (T : xTS G (ks K) (ks K).heap) (hj : ∀ i j, i < 300 → j < 300 → ad i = ad j → i = j) (TT : TabR G h ad fq Q0 P0) (hB : h b = (xO 8 [vi 0, vi 0, .ref a1, .ref a2, vi 0, vi 3, vi 0, .ref a3, .ref a4, .ref a5, .ref a6, .ref a7, .ref a8, vi 0, vi 0, .ref bt])) (hO : h o = xL G 1 go) (hA1 : h a1 = xI G 6 (fun _ => 0)) (hA3 : h a3 = xQ G 3 12 (fun _ => none)) (hA4 : h a4 = xI G 12 (fun _ => 0)) (hA5 : h a5 = xZ G 12 (fun _ => false)) (n45 : a4 ≠ a5) (hn : ∀ i, own i → b ≠ ad i ∧ o ≠ ad i ∧ a1 ≠ ad i ∧ a3 ≠ ad i ∧ a4 ≠ ad i ∧ a5 ≠ ad i) (hX : va_X sb L xs (ks K) (ks K).heap) (hbl : sb < gN G) (hbs : sb < (ks K).heap.size) (hL : L = 6) (hc : cells ≤ 1000) (hs : slots ≤ 10000) (kk : ∀ (h' : PH) (c9 s9 : Nat), c9 ≤ 2000 → s9 ≤ 20000 → X G K 9 1818 [some (.ref sb), some (.ref (ad 0)), some (.ref b), some (.ref o), some (vi 0), none, none, none, none] [] h' c9 s9)  : X G K 9 1168 [some (.ref sb), some (.ref (ad 0)), some (.ref b), some (.ref o), some (vi 0), none, none, none, none] [] h cells slots := by
  obtain ⟨tq, -, tt, -, -⟩ := id TT.1
  have hnb := fun i hi => (hn i hi).1
  have hno := fun i hi => (hn i hi).2.1
  have hna := fun i hi => (hn i hi).2.2
  refine x_aload_n C dL_law_1168 rfl rfl ?_
  refine x_aload_n C dL_law_1169 rfl rfl ?_
  refine x_iload C dL_law_1170 rfl ?_
  refine x_iconst C dL_law_1172 ?_
  refine x_iadd C dL_law_1173 ?_
  refine x_sld C hX hbl hbs (v := (xs 1).toInt) ⟨by omega, by omega, by omega⟩ (I_of _).symm dL_law_1174 ?_
  refine x_aload_n C dL_law_1175 rfl rfl ?_
  refine x_invSH C T sh_144 (st := []) (c_H_plan_no tt (c_plan_no hj TT (v := (xs 1).toInt) (I_bd (xs 1)) (by show ¬ (0 ≤ _ ∧ _ < (0 : Int)); omega))) rfl rfl (Nat.le_of_ble_eq_true rfl) (xRm_of hR (by omega) (by decide) (by omega) (by omega)) dL_law_1176 (fun r9 h9 hq => ?_)
  obtain ⟨rfl, e9⟩ := hq
  have e9 := e9.symm
  subst e9
  refine x_istore C (ls' := [some (.ref sb), some (.ref (ad 0)), some (.ref b), some (.ref o), some (vi 0), some (vi 1), none, none, none]) dL_law_1179 (by decide) rfl ?_
  refine x_aload_n C dL_law_1181 rfl rfl ?_
  refine x_aload_n C dL_law_1182 rfl rfl ?_
  refine x_iload C dL_law_1183 rfl ?_
  refine x_iconst C dL_law_1185 ?_
  refine x_iadd C dL_law_1186 ?_
  refine x_sld C hX hbl hbs (v := (xs 1).toInt) ⟨by omega, by omega, by omega⟩ (I_of _).symm dL_law_1187 ?_
  refine x_invV C s_Law_146 (st := []) (c_Mo_plan hB hO (v := (xs 1).toInt) (I_bd (xs 1))) hB rfl rfl (Nat.le_of_ble_eq_true rfl) (xRm_of hR (by omega) (by decide) (by omega) (by omega)) dL_law_1188 (fun r9 h8 hq => ?_)
  obtain ⟨rfl, ⟨fs8, gb⟩, g8⟩ := hq
  refine x_istore C (ls' := [some (.ref sb), some (.ref (ad 0)), some (.ref b), some (.ref o), some (vi 0), some (vi 1), some (vi 0), none, none]) dL_law_1191 (by decide) rfl ?_
  refine x_aload_n C dL_law_1193 rfl rfl ?_
  refine x_invV C s_Law_97 (st := []) (c_Mo_thrown gb) gb rfl rfl (Nat.le_of_ble_eq_true rfl) (xRm_of hR (by omega) (by decide) (by omega) (by omega)) dL_law_1194 (fun r9 h7 hq => ?_)
  obtain ⟨rfl, e9⟩ := hq
  have e9 := e9.symm
  subst e9
  refine x_iload C dL_law_1197 rfl ?_
  refine x_icmp_eq C (tgt := 1204) dL_law_1199 (by decide) (by decide) (by decide) (fun c1199 => ?_) (fun c1199 => ?_)
  · skip
    refine x_iload C dL_law_1204 rfl ?_
    refine x_if_ne C (tgt := 1221) dL_law_1206 (by decide) (by decide) (fun c1206 => ?_) (fun c1206 => ?_)
    · skip
      refine x_goto C (tgt := 1818) dL_law_1221 (by decide) ?_
      refine X.sub (ls' := [some (.ref sb), some (.ref (ad 0)), some (.ref b), some (.ref o), some (vi 0), none, none, none, none]) (sub_cons (Or.inr rfl) (sub_cons (Or.inr rfl) (sub_cons (Or.inr rfl) (sub_cons (Or.inr rfl) (sub_cons (Or.inr rfl) (sub_cons (Or.inl rfl) (sub_cons (Or.inl rfl) (sub_cons (Or.inl rfl) (sub_cons (Or.inl rfl) sub_nil))))))))) ?_
      exact kk h8 _ _ (by omega) (by omega)
    · skip
      exact absurd c1206 (by decide)
  · skip
    exact absurd rfl c1199

set_option maxRecDepth 100000 in
set_option maxHeartbeats 4000000 in
theorem law_total {G : xG} {K : xK} {h : PH} {ad : Nat → Nat} {fq : Bool} {sb b o a1 a2 a3 a4 a5 a6 a7 a8 bt L cells slots mc9 ms9 : Nat} {go : Nat → Int64} {xs : Nat → Int32} (C : xC G K "TablatureLaw" code 9) (hR : xGe K 200 mc9 ms9) (hrm : 100000 ≤ mc9 ∧ 1000000 ≤ ms9) (T : xTS G (ks K) (ks K).heap) (hj : ∀ i j, i < 300 → j < 300 → ad i = ad j → i = j) (TT : TabR G h ad fq Q0 P0) (hB : h b = (xO 8 [vi 0, vi 0, .ref a1, .ref a2, vi 0, vi 3, vi 0, .ref a3, .ref a4, .ref a5, .ref a6, .ref a7, .ref a8, vi 0, vi 0, .ref bt])) (hO : h o = xL G 1 go) (hA1 : h a1 = xI G 6 (fun _ => 0)) (hA3 : h a3 = xQ G 3 12 (fun _ => none)) (hA4 : h a4 = xI G 12 (fun _ => 0)) (hA5 : h a5 = xZ G 12 (fun _ => false)) (n45 : a4 ≠ a5) (hn : ∀ i, own i → b ≠ ad i ∧ o ≠ ad i ∧ a1 ≠ ad i ∧ a3 ≠ ad i ∧ a4 ≠ ad i ∧ a5 ≠ ad i) (hX : va_X sb L xs (ks K) (ks K).heap) (hbl : sb < gN G) (hbs : sb < (ks K).heap.size) (hL : L = 6) (hc : cells ≤ 1000) (hs : slots ≤ 10000) (kk : ∀ (h' : PH) (c9 s9 : Nat), c9 ≤ 2000 → s9 ≤ 20000 → X G K 9 1818 [some (.ref sb), some (.ref (ad 0)), some (.ref b), some (.ref o), some (vi 0), none, none, none, none] [] h' c9 s9)  : X G K 9 1224 [some (.ref sb), some (.ref (ad 0)), some (.ref b), some (.ref o), some (vi 0), none, none, none, none] [] h cells slots := by
  obtain ⟨tq, -, tt, -, -⟩ := id TT.1
  have hnb := fun i hi => (hn i hi).1
  have hno := fun i hi => (hn i hi).2.1
  have hna := fun i hi => (hn i hi).2.2
  refine x_aload_n C dL_law_1224 rfl rfl ?_
  refine x_invV C s_Law_147 (st := []) (c0_total hj TT) tt rfl rfl (Nat.le_of_ble_eq_true rfl) (xRm_of hR (by omega) (by decide) (by omega) (by omega)) dL_law_1225 (fun r9 h9 hq => ?_)
  obtain ⟨rfl, p1⟩ := hq
  refine x_aload_n C dL_law_1228 rfl rfl ?_
  refine x_invV C s_Law_150 (st := [vi (-1)]) (c_Mo_total ((p1 _ (hnb)).trans hB) ((p1 _ (hno)).trans hO)) ((p1 _ (hnb)).trans hB) rfl rfl (Nat.le_of_ble_eq_true rfl) (xRm_of hR (by omega) (by decide) (by omega) (by omega)) dL_law_1229 (fun r9 h8 hq => ?_)
  obtain ⟨rfl, ⟨fs8, gb⟩, g8⟩ := hq
  refine x_icmp_eq C (tgt := 1818) dL_law_1232 (by decide) (by decide) (by decide) (fun c1232 => ?_) (fun c1232 => ?_)
  · skip
    exact kk h8 _ _ (by omega) (by omega)
  · skip
    exact absurd rfl c1232

set_option maxRecDepth 100000 in
set_option maxHeartbeats 4000000 in
theorem law_hardest {G : xG} {K : xK} {h : PH} {ad : Nat → Nat} {fq : Bool} {sb b o a1 a2 a3 a4 a5 a6 a7 a8 bt L cells slots mc9 ms9 : Nat} {go : Nat → Int64} {xs : Nat → Int32} (C : xC G K "TablatureLaw" code 9) (hR : xGe K 200 mc9 ms9) (hrm : 100000 ≤ mc9 ∧ 1000000 ≤ ms9) (T : xTS G (ks K) (ks K).heap) (hj : ∀ i j, i < 300 → j < 300 → ad i = ad j → i = j) (TT : TabR G h ad fq Q0 P0) (hB : h b = (xO 8 [vi 0, vi 0, .ref a1, .ref a2, vi 0, vi 3, vi 0, .ref a3, .ref a4, .ref a5, .ref a6, .ref a7, .ref a8, vi 0, vi 0, .ref bt])) (hO : h o = xL G 1 go) (hA1 : h a1 = xI G 6 (fun _ => 0)) (hA3 : h a3 = xQ G 3 12 (fun _ => none)) (hA4 : h a4 = xI G 12 (fun _ => 0)) (hA5 : h a5 = xZ G 12 (fun _ => false)) (n45 : a4 ≠ a5) (hn : ∀ i, own i → b ≠ ad i ∧ o ≠ ad i ∧ a1 ≠ ad i ∧ a3 ≠ ad i ∧ a4 ≠ ad i ∧ a5 ≠ ad i) (hX : va_X sb L xs (ks K) (ks K).heap) (hbl : sb < gN G) (hbs : sb < (ks K).heap.size) (hL : L = 6) (hc : cells ≤ 1000) (hs : slots ≤ 10000) (kk : ∀ (h' : PH) (c9 s9 : Nat), c9 ≤ 2000 → s9 ≤ 20000 → X G K 9 1818 [some (.ref sb), some (.ref (ad 0)), some (.ref b), some (.ref o), some (vi 0), none, none, none, none] [] h' c9 s9)  : X G K 9 1237 [some (.ref sb), some (.ref (ad 0)), some (.ref b), some (.ref o), some (vi 0), none, none, none, none] [] h cells slots := by
  obtain ⟨tq, -, tt, -, -⟩ := id TT.1
  have hnb := fun i hi => (hn i hi).1
  have hno := fun i hi => (hn i hi).2.1
  have hna := fun i hi => (hn i hi).2.2
  refine x_aload_n C dL_law_1237 rfl rfl ?_
  refine x_invV C s_Law_151 (st := []) (c0_hardest hj TT) tt rfl rfl (Nat.le_of_ble_eq_true rfl) (xRm_of hR (by omega) (by decide) (by omega) (by omega)) dL_law_1238 (fun r9 h9 hq => ?_)
  obtain ⟨rfl, p1⟩ := hq
  refine x_aload_n C dL_law_1241 rfl rfl ?_
  refine x_invV C s_Law_154 (st := [vi (-1)]) (c_Mo_hardest ((p1 _ (hnb)).trans hB) ((p1 _ (hno)).trans hO)) ((p1 _ (hnb)).trans hB) rfl rfl (Nat.le_of_ble_eq_true rfl) (xRm_of hR (by omega) (by decide) (by omega) (by omega)) dL_law_1242 (fun r9 h8 hq => ?_)
  obtain ⟨rfl, ⟨fs8, gb⟩, g8⟩ := hq
  refine x_icmp_eq C (tgt := 1818) dL_law_1245 (by decide) (by decide) (by decide) (fun c1245 => ?_) (fun c1245 => ?_)
  · skip
    exact kk h8 _ _ (by omega) (by omega)
  · skip
    exact absurd rfl c1245

set_option maxRecDepth 100000 in
set_option maxHeartbeats 4000000 in
theorem law_many_no {G : xG} {K : xK} {h : PH} {ad : Nat → Nat} {fq : Bool} {sb b o a1 a2 a3 a4 a5 a6 a7 a8 bt L cells slots mc9 ms9 : Nat} {go : Nat → Int64} {xs : Nat → Int32} (C : xC G K "TablatureLaw" code 9) (hR : xGe K 200 mc9 ms9) (hrm : 100000 ≤ mc9 ∧ 1000000 ≤ ms9) (T : xTS G (ks K) (ks K).heap) (hj : ∀ i j, i < 300 → j < 300 → ad i = ad j → i = j) (TT : TabR G h ad fq Q0 P0) (hB : h b = (xO 8 [vi 0, vi 0, .ref a1, .ref a2, vi 0, vi 3, vi 0, .ref a3, .ref a4, .ref a5, .ref a6, .ref a7, .ref a8, vi 0, vi 0, .ref bt])) (hO : h o = xL G 1 go) (hA1 : h a1 = xI G 6 (fun _ => 0)) (hA3 : h a3 = xQ G 3 12 (fun _ => none)) (hA4 : h a4 = xI G 12 (fun _ => 0)) (hA5 : h a5 = xZ G 12 (fun _ => false)) (n45 : a4 ≠ a5) (hn : ∀ i, own i → b ≠ ad i ∧ o ≠ ad i ∧ a1 ≠ ad i ∧ a3 ≠ ad i ∧ a4 ≠ ad i ∧ a5 ≠ ad i) (hX : va_X sb L xs (ks K) (ks K).heap) (hbl : sb < gN G) (hbs : sb < (ks K).heap.size) (hL : L = 6) (hc : cells ≤ 1000) (hs : slots ≤ 10000) (kk : ∀ (h' : PH) (c9 s9 : Nat), c9 ≤ 2000 → s9 ≤ 20000 → X G K 9 1818 [some (.ref sb), some (.ref (ad 0)), some (.ref b), some (.ref o), some (vi 0), none, none, none, none] [] h' c9 s9) (hv : ¬ (0 ≤ (xs 1).toInt ∧ (xs 1).toInt ≤ 7)) : X G K 9 1250 [some (.ref sb), some (.ref (ad 0)), some (.ref b), some (.ref o), some (vi 0), none, none, none, none] [] h cells slots := by
  obtain ⟨tq, -, tt, -, -⟩ := id TT.1
  have hnb := fun i hi => (hn i hi).1
  have hno := fun i hi => (hn i hi).2.1
  have hna := fun i hi => (hn i hi).2.2
  refine x_aload_n C dL_law_1250 rfl rfl ?_
  refine x_aload_n C dL_law_1251 rfl rfl ?_
  refine x_iload C dL_law_1252 rfl ?_
  refine x_iconst C dL_law_1254 ?_
  refine x_iadd C dL_law_1255 ?_
  refine x_sld C hX hbl hbs (v := (xs 1).toInt) ⟨by omega, by omega, by omega⟩ (I_of _).symm dL_law_1256 ?_
  refine x_aload_n C dL_law_1257 rfl rfl ?_
  refine x_invSH C T sh_155 (st := []) (c_H_many_no tt (c_many_no hj TT (v := (xs 1).toInt) (I_bd (xs 1)) hv)) rfl rfl (Nat.le_of_ble_eq_true rfl) (xRm_of hR (by omega) (by decide) (by omega) (by omega)) dL_law_1258 (fun r9 h9 hq => ?_)
  obtain ⟨rfl, e9⟩ := hq
  have e9 := e9.symm
  subst e9
  refine x_istore C (ls' := [some (.ref sb), some (.ref (ad 0)), some (.ref b), some (.ref o), some (vi 0), some (vi 1), none, none, none]) dL_law_1261 (by decide) rfl ?_
  refine x_aload_n C dL_law_1263 rfl rfl ?_
  refine x_aload_n C dL_law_1264 rfl rfl ?_
  refine x_iload C dL_law_1265 rfl ?_
  refine x_iconst C dL_law_1267 ?_
  refine x_iadd C dL_law_1268 ?_
  refine x_sld C hX hbl hbs (v := (xs 1).toInt) ⟨by omega, by omega, by omega⟩ (I_of _).symm dL_law_1269 ?_
  refine x_invV C s_Law_157 (st := []) (c_Mo_many_no hB hO (w := (xs 1).toInt) (I_bd (xs 1)) hv) hB rfl rfl (Nat.le_of_ble_eq_true rfl) (xRm_of hR (by omega) (by decide) (by omega) (by omega)) dL_law_1270 (fun r9 h8 hq => ?_)
  obtain ⟨rfl, ⟨fs8, gb⟩, g8⟩ := hq
  refine x_istore C (ls' := [some (.ref sb), some (.ref (ad 0)), some (.ref b), some (.ref o), some (vi 0), some (vi 1), some (vi 0), none, none]) dL_law_1273 (by decide) rfl ?_
  refine x_aload_n C dL_law_1275 rfl rfl ?_
  refine x_invV C s_Law_97 (st := []) (c_Mo_thrown gb) gb rfl rfl (Nat.le_of_ble_eq_true rfl) (xRm_of hR (by omega) (by decide) (by omega) (by omega)) dL_law_1276 (fun r9 h7 hq => ?_)
  obtain ⟨rfl, e9⟩ := hq
  have e9 := e9.symm
  subst e9
  refine x_iload C dL_law_1279 rfl ?_
  refine x_icmp_eq C (tgt := 1286) dL_law_1281 (by decide) (by decide) (by decide) (fun c1281 => ?_) (fun c1281 => ?_)
  · skip
    refine x_iload C dL_law_1286 rfl ?_
    refine x_if_ne C (tgt := 1303) dL_law_1288 (by decide) (by decide) (fun c1288 => ?_) (fun c1288 => ?_)
    · skip
      refine x_goto C (tgt := 1818) dL_law_1303 (by decide) ?_
      refine X.sub (ls' := [some (.ref sb), some (.ref (ad 0)), some (.ref b), some (.ref o), some (vi 0), none, none, none, none]) (sub_cons (Or.inr rfl) (sub_cons (Or.inr rfl) (sub_cons (Or.inr rfl) (sub_cons (Or.inr rfl) (sub_cons (Or.inr rfl) (sub_cons (Or.inl rfl) (sub_cons (Or.inl rfl) (sub_cons (Or.inl rfl) (sub_cons (Or.inl rfl) sub_nil))))))))) ?_
      exact kk h8 _ _ (by omega) (by omega)
    · skip
      exact absurd c1288 (by decide)
  · skip
    exact absurd rfl c1281

set_option maxRecDepth 100000 in
set_option maxHeartbeats 4000000 in
theorem law_many_ok {G : xG} {K : xK} {h : PH} {ad : Nat → Nat} {fq : Bool} {sb b o a1 a2 a3 a4 a5 a6 a7 a8 bt L cells slots mc9 ms9 : Nat} {go : Nat → Int64} {xs : Nat → Int32} (C : xC G K "TablatureLaw" code 9) (hR : xGe K 200 mc9 ms9) (hrm : 100000 ≤ mc9 ∧ 1000000 ≤ ms9) (T : xTS G (ks K) (ks K).heap) (hj : ∀ i j, i < 300 → j < 300 → ad i = ad j → i = j) (TT : TabR G h ad fq Q0 P0) (hB : h b = (xO 8 [vi 0, vi 0, .ref a1, .ref a2, vi 0, vi 3, vi 0, .ref a3, .ref a4, .ref a5, .ref a6, .ref a7, .ref a8, vi 0, vi 0, .ref bt])) (hO : h o = xL G 1 go) (hA1 : h a1 = xI G 6 (fun _ => 0)) (hA3 : h a3 = xQ G 3 12 (fun _ => none)) (hA4 : h a4 = xI G 12 (fun _ => 0)) (hA5 : h a5 = xZ G 12 (fun _ => false)) (n45 : a4 ≠ a5) (hn : ∀ i, own i → b ≠ ad i ∧ o ≠ ad i ∧ a1 ≠ ad i ∧ a3 ≠ ad i ∧ a4 ≠ ad i ∧ a5 ≠ ad i) (hX : va_X sb L xs (ks K) (ks K).heap) (hbl : sb < gN G) (hbs : sb < (ks K).heap.size) (hL : L = 6) (hc : cells ≤ 1000) (hs : slots ≤ 10000) (kk : ∀ (h' : PH) (c9 s9 : Nat), c9 ≤ 2000 → s9 ≤ 20000 → X G K 9 1818 [some (.ref sb), some (.ref (ad 0)), some (.ref b), some (.ref o), some (vi 0), none, none, none, none] [] h' c9 s9) (hv : 0 ≤ (xs 1).toInt ∧ (xs 1).toInt ≤ 7) : X G K 9 1250 [some (.ref sb), some (.ref (ad 0)), some (.ref b), some (.ref o), some (vi 0), none, none, none, none] [] h cells slots := by
  obtain ⟨tq, -, tt, -, -⟩ := id TT.1
  have hnb := fun i hi => (hn i hi).1
  have hno := fun i hi => (hn i hi).2.1
  have hna := fun i hi => (hn i hi).2.2
  refine x_aload_n C dL_law_1250 rfl rfl ?_
  refine x_aload_n C dL_law_1251 rfl rfl ?_
  refine x_iload C dL_law_1252 rfl ?_
  refine x_iconst C dL_law_1254 ?_
  refine x_iadd C dL_law_1255 ?_
  refine x_sld C hX hbl hbs (v := (xs 1).toInt) ⟨by omega, by omega, by omega⟩ (I_of _).symm dL_law_1256 ?_
  refine x_aload_n C dL_law_1257 rfl rfl ?_
  refine x_invSH C T sh_155 (st := []) (c_H_many_ok tt (z := (mA 0 3 (xs 1).toInt)) (PP := frO ad h) (c0_many hj TT hv) (fun h1 p1 => (p1 _ hno).trans hO)) rfl rfl (Nat.le_of_ble_eq_true rfl) (xRm_of hR (by omega) (by decide) (by omega) (by omega)) dL_law_1258 (fun r9 h9 hq => ?_)
  obtain ⟨rfl, h1, p1, rfl⟩ := hq
  refine x_istore C (ls' := [some (.ref sb), some (.ref (ad 0)), some (.ref b), some (.ref o), some (vi 0), some (vi 0), none, none, none]) dL_law_1261 (by decide) rfl ?_
  refine x_aload_n C dL_law_1263 rfl rfl ?_
  refine x_aload_n C dL_law_1264 rfl rfl ?_
  refine x_iload C dL_law_1265 rfl ?_
  refine x_iconst C dL_law_1267 ?_
  refine x_iadd C dL_law_1268 ?_
  refine x_sld C hX hbl hbs (v := (xs 1).toInt) ⟨by omega, by omega, by omega⟩ (I_of _).symm dL_law_1269 ?_
  refine x_invV C s_Law_157 (st := []) (c_Mo_many_ok ((up_n (ne_k ((p1 _ (hnb)).trans hB) ((p1 _ (hno)).trans hO) (knn rfl))).trans ((p1 _ (hnb)).trans hB)) up_s (w := (xs 1).toInt) hv) ((up_n (ne_k ((p1 _ (hnb)).trans hB) ((p1 _ (hno)).trans hO) (knn rfl))).trans ((p1 _ (hnb)).trans hB)) rfl rfl (Nat.le_of_ble_eq_true rfl) (xRm_of hR (by omega) (by decide) (by omega) (by omega)) dL_law_1270 (fun r9 h8 hq => ?_)
  obtain ⟨rfl, ⟨fs8, gb⟩, g8⟩ := hq
  refine x_istore C (ls' := [some (.ref sb), some (.ref (ad 0)), some (.ref b), some (.ref o), some (vi 0), some (vi 0), some (vi (mA 0 3 (xs 1).toInt)), none, none]) dL_law_1273 (by decide) rfl ?_
  refine x_aload_n C dL_law_1275 rfl rfl ?_
  refine x_invV C s_Law_97 (st := []) (c_Mo_thrown gb) gb rfl rfl (Nat.le_of_ble_eq_true rfl) (xRm_of hR (by omega) (by decide) (by omega) (by omega)) dL_law_1276 (fun r9 h7 hq => ?_)
  obtain ⟨rfl, e9⟩ := hq
  have e9 := e9.symm
  subst e9
  refine x_iload C dL_law_1279 rfl ?_
  refine x_icmp_eq C (tgt := 1286) dL_law_1281 (by decide) (by decide) (by decide) (fun c1281 => ?_) (fun c1281 => ?_)
  · skip
    refine x_iload C dL_law_1286 rfl ?_
    refine x_if_ne C (tgt := 1303) dL_law_1288 (by decide) (by decide) (fun c1288 => ?_) (fun c1288 => ?_)
    · skip
      exact absurd rfl c1288
    · skip
      refine x_aload_n C dL_law_1291 rfl rfl ?_
      refine x_iconst C dL_law_1292 ?_
      refine x_lald C g8 ⟨by omega, by omega, by omega⟩ dL_law_1293 ?_
      refine x_iload C dL_law_1294 rfl ?_
      refine x_i2l C dL_law_1296 ?_
      refine x_lcmpQ C (vpu_s _ _ _) dL_law_1297 ?_
      refine x_if_eq C (tgt := 1303) dL_law_1298 (by decide) (by decide) (fun c1298 => ?_) (fun c1298 => ?_)
      · skip
        refine x_goto C (tgt := 1818) dL_law_1303 (by decide) ?_
        refine X.sub (ls' := [some (.ref sb), some (.ref (ad 0)), some (.ref b), some (.ref o), some (vi 0), none, none, none, none]) (sub_cons (Or.inr rfl) (sub_cons (Or.inr rfl) (sub_cons (Or.inr rfl) (sub_cons (Or.inr rfl) (sub_cons (Or.inr rfl) (sub_cons (Or.inl rfl) (sub_cons (Or.inl rfl) (sub_cons (Or.inl rfl) (sub_cons (Or.inl rfl) sub_nil))))))))) ?_
        exact kk h8 _ _ (by omega) (by omega)
      · skip
        exact absurd rfl c1298
  · skip
    exact absurd rfl c1281

set_option maxRecDepth 100000 in
set_option maxHeartbeats 4000000 in
theorem law_meanEffort {G : xG} {K : xK} {h : PH} {ad : Nat → Nat} {fq : Bool} {sb b o a1 a2 a3 a4 a5 a6 a7 a8 bt L cells slots mc9 ms9 : Nat} {go : Nat → Int64} {xs : Nat → Int32} (C : xC G K "TablatureLaw" code 9) (hR : xGe K 200 mc9 ms9) (hrm : 100000 ≤ mc9 ∧ 1000000 ≤ ms9) (T : xTS G (ks K) (ks K).heap) (hj : ∀ i j, i < 300 → j < 300 → ad i = ad j → i = j) (TT : TabR G h ad fq Q0 P0) (hB : h b = (xO 8 [vi 0, vi 0, .ref a1, .ref a2, vi 0, vi 3, vi 0, .ref a3, .ref a4, .ref a5, .ref a6, .ref a7, .ref a8, vi 0, vi 0, .ref bt])) (hO : h o = xL G 1 go) (hA1 : h a1 = xI G 6 (fun _ => 0)) (hA3 : h a3 = xQ G 3 12 (fun _ => none)) (hA4 : h a4 = xI G 12 (fun _ => 0)) (hA5 : h a5 = xZ G 12 (fun _ => false)) (n45 : a4 ≠ a5) (hn : ∀ i, own i → b ≠ ad i ∧ o ≠ ad i ∧ a1 ≠ ad i ∧ a3 ≠ ad i ∧ a4 ≠ ad i ∧ a5 ≠ ad i) (hX : va_X sb L xs (ks K) (ks K).heap) (hbl : sb < gN G) (hbs : sb < (ks K).heap.size) (hL : L = 6) (hc : cells ≤ 1000) (hs : slots ≤ 10000) (kk : ∀ (h' : PH) (c9 s9 : Nat), c9 ≤ 2000 → s9 ≤ 20000 → X G K 9 1818 [some (.ref sb), some (.ref (ad 0)), some (.ref b), some (.ref o), some (vi 0), none, none, none, none] [] h' c9 s9)  : X G K 9 1306 [some (.ref sb), some (.ref (ad 0)), some (.ref b), some (.ref o), some (vi 0), none, none, none, none] [] h cells slots := by
  obtain ⟨tq, -, tt, -, -⟩ := id TT.1
  have hnb := fun i hi => (hn i hi).1
  have hno := fun i hi => (hn i hi).2.1
  have hna := fun i hi => (hn i hi).2.2
  refine x_aload_n C dL_law_1306 rfl rfl ?_
  refine x_invV C s_Law_158 (st := []) (c0_meanEffort hj TT) tt rfl rfl (Nat.le_of_ble_eq_true rfl) (xRm_of hR (by omega) (by decide) (by omega) (by omega)) dL_law_1307 (fun r9 h9 hq => ?_)
  obtain ⟨rfl, p1⟩ := hq
  refine x_dstore C (ls' := [some (.ref sb), some (.ref (ad 0)), some (.ref b), some (.ref o), some (vi 0), some (.double FP.dconst0), none, none, none]) dL_law_1310 (by decide) rfl ?_
  refine x_aload_n C dL_law_1312 rfl rfl ?_
  refine x_invV C s_Law_162 (st := []) (c_Mo_meanEffort ((p1 _ (hnb)).trans hB) ((p1 _ (hno)).trans hO)) ((p1 _ (hnb)).trans hB) rfl rfl (Nat.le_of_ble_eq_true rfl) (xRm_of hR (by omega) (by decide) (by omega) (by omega)) dL_law_1313 (fun r9 h8 hq => ?_)
  obtain ⟨rfl, g8⟩ := hq
  refine x_dstore C (ls' := [some (.ref sb), some (.ref (ad 0)), some (.ref b), some (.ref o), some (vi 0), some (.double FP.dconst0), none, some (.double FP.dconst0), none]) dL_law_1316 (by decide) rfl ?_
  refine x_dload C dL_law_1318 rfl ?_
  refine x_dload C dL_law_1320 rfl ?_
  refine x_dcmp C (z := 0) dL_law_1322 (by decide +kernel) ?_
  refine x_if_eq C (tgt := 1344) dL_law_1323 (by decide) (by decide) (fun c1323 => ?_) (fun c1323 => ?_)
  · skip
    refine x_goto C (tgt := 1818) dL_law_1344 (by decide) ?_
    refine X.sub (ls' := [some (.ref sb), some (.ref (ad 0)), some (.ref b), some (.ref o), some (vi 0), none, none, none, none]) (sub_cons (Or.inr rfl) (sub_cons (Or.inr rfl) (sub_cons (Or.inr rfl) (sub_cons (Or.inr rfl) (sub_cons (Or.inr rfl) (sub_cons (Or.inl rfl) (sub_cons (Or.inl rfl) (sub_cons (Or.inl rfl) (sub_cons (Or.inl rfl) sub_nil))))))))) ?_
    exact kk h8 _ _ (by omega) (by omega)
  · skip
    exact absurd rfl c1323

set_option maxRecDepth 100000 in
set_option maxHeartbeats 4000000 in
theorem law_shapes_no {G : xG} {K : xK} {h : PH} {ad : Nat → Nat} {fq : Bool} {sb b o a1 a2 a3 a4 a5 a6 a7 a8 bt L cells slots mc9 ms9 : Nat} {go : Nat → Int64} {xs : Nat → Int32} (C : xC G K "TablatureLaw" code 9) (hR : xGe K 200 mc9 ms9) (hrm : 100000 ≤ mc9 ∧ 1000000 ≤ ms9) (T : xTS G (ks K) (ks K).heap) (hj : ∀ i j, i < 300 → j < 300 → ad i = ad j → i = j) (TT : TabR G h ad fq Q0 P0) (hB : h b = (xO 8 [vi 0, vi 0, .ref a1, .ref a2, vi 0, vi 3, vi 0, .ref a3, .ref a4, .ref a5, .ref a6, .ref a7, .ref a8, vi 0, vi 0, .ref bt])) (hO : h o = xL G 1 go) (hA1 : h a1 = xI G 6 (fun _ => 0)) (hA3 : h a3 = xQ G 3 12 (fun _ => none)) (hA4 : h a4 = xI G 12 (fun _ => 0)) (hA5 : h a5 = xZ G 12 (fun _ => false)) (n45 : a4 ≠ a5) (hn : ∀ i, own i → b ≠ ad i ∧ o ≠ ad i ∧ a1 ≠ ad i ∧ a3 ≠ ad i ∧ a4 ≠ ad i ∧ a5 ≠ ad i) (hX : va_X sb L xs (ks K) (ks K).heap) (hbl : sb < gN G) (hbs : sb < (ks K).heap.size) (hL : L = 6) (hc : cells ≤ 1000) (hs : slots ≤ 10000) (kk : ∀ (h' : PH) (c9 s9 : Nat), c9 ≤ 2000 → s9 ≤ 20000 → X G K 9 1818 [some (.ref sb), some (.ref (ad 0)), some (.ref b), some (.ref o), some (vi 0), none, none, none, none] [] h' c9 s9) (hi : isV (xs 1).toInt (xs 2).toInt (xs 3).toInt = false) : X G K 9 1347 [some (.ref sb), some (.ref (ad 0)), some (.ref b), some (.ref o), some (vi 0), none, none, none, none] [] h cells slots := by
  obtain ⟨tq, -, tt, -, -⟩ := id TT.1
  have hnb := fun i hi => (hn i hi).1
  have hno := fun i hi => (hn i hi).2.1
  have hna := fun i hi => (hn i hi).2.2
  refine x_aload_n C dL_law_1347 rfl rfl ?_
  refine x_aload_n C dL_law_1348 rfl rfl ?_
  refine x_iload C dL_law_1349 rfl ?_
  refine x_iconst C dL_law_1351 ?_
  refine x_iadd C dL_law_1352 ?_
  refine x_sld C hX hbl hbs (v := (xs 1).toInt) ⟨by omega, by omega, by omega⟩ (I_of _).symm dL_law_1353 ?_
  refine x_aload_n C dL_law_1354 rfl rfl ?_
  refine x_iload C dL_law_1355 rfl ?_
  refine x_iconst C dL_law_1357 ?_
  refine x_iadd C dL_law_1358 ?_
  refine x_sld C hX hbl hbs (v := (xs 2).toInt) ⟨by omega, by omega, by omega⟩ (I_of _).symm dL_law_1359 ?_
  refine x_aload_n C dL_law_1360 rfl rfl ?_
  refine x_iload C dL_law_1361 rfl ?_
  refine x_iconst C dL_law_1363 ?_
  refine x_iadd C dL_law_1364 ?_
  refine x_sld C hX hbl hbs (v := (xs 3).toInt) ⟨by omega, by omega, by omega⟩ (I_of _).symm dL_law_1365 ?_
  refine x_aload_n C dL_law_1366 rfl rfl ?_
  refine x_invSH C T sh_163 (st := []) (c_H_shapes_no tt (c_shapes_no hj TT (v := (xs 1).toInt) (w1 := (xs 2).toInt) (w2 := (xs 3).toInt) (I_bd (xs 1)) (I_bd (xs 2)) (I_bd (xs 3)) hi)) rfl rfl (Nat.le_of_ble_eq_true rfl) (xRm_of hR (by omega) (by decide) (by omega) (by omega)) dL_law_1367 (fun r9 h9 hq => ?_)
  obtain ⟨rfl, e9⟩ := hq
  have e9 := e9.symm
  subst e9
  refine x_istore C (ls' := [some (.ref sb), some (.ref (ad 0)), some (.ref b), some (.ref o), some (vi 0), some (vi 1), none, none, none]) dL_law_1370 (by decide) rfl ?_
  refine x_aload_n C dL_law_1372 rfl rfl ?_
  refine x_aload_n C dL_law_1373 rfl rfl ?_
  refine x_iload C dL_law_1374 rfl ?_
  refine x_iconst C dL_law_1376 ?_
  refine x_iadd C dL_law_1377 ?_
  refine x_sld C hX hbl hbs (v := (xs 1).toInt) ⟨by omega, by omega, by omega⟩ (I_of _).symm dL_law_1378 ?_
  refine x_aload_n C dL_law_1379 rfl rfl ?_
  refine x_iload C dL_law_1380 rfl ?_
  refine x_iconst C dL_law_1382 ?_
  refine x_iadd C dL_law_1383 ?_
  refine x_sld C hX hbl hbs (v := (xs 2).toInt) ⟨by omega, by omega, by omega⟩ (I_of _).symm dL_law_1384 ?_
  refine x_aload_n C dL_law_1385 rfl rfl ?_
  refine x_iload C dL_law_1386 rfl ?_
  refine x_iconst C dL_law_1388 ?_
  refine x_iadd C dL_law_1389 ?_
  refine x_sld C hX hbl hbs (v := (xs 3).toInt) ⟨by omega, by omega, by omega⟩ (I_of _).symm dL_law_1390 ?_
  refine x_invV C s_Law_165 (st := []) (c_Mo_shapes_no hB hO (v := (xs 1).toInt) (w1 := (xs 2).toInt) (w2 := (xs 3).toInt) (I_bd (xs 1)) (I_bd (xs 2)) (I_bd (xs 3)) hi) hB rfl rfl (Nat.le_of_ble_eq_true rfl) (xRm_of hR (by omega) (by decide) (by omega) (by omega)) dL_law_1391 (fun r9 h8 hq => ?_)
  obtain ⟨rfl, ⟨fs8, gb⟩, g8⟩ := hq
  refine x_istore C (ls' := [some (.ref sb), some (.ref (ad 0)), some (.ref b), some (.ref o), some (vi 0), some (vi 1), some (vi 0), none, none]) dL_law_1394 (by decide) rfl ?_
  refine x_aload_n C dL_law_1396 rfl rfl ?_
  refine x_invV C s_Law_97 (st := []) (c_Mo_thrown gb) gb rfl rfl (Nat.le_of_ble_eq_true rfl) (xRm_of hR (by omega) (by decide) (by omega) (by omega)) dL_law_1397 (fun r9 h7 hq => ?_)
  obtain ⟨rfl, e9⟩ := hq
  have e9 := e9.symm
  subst e9
  refine x_iload C dL_law_1400 rfl ?_
  refine x_icmp_eq C (tgt := 1407) dL_law_1402 (by decide) (by decide) (by decide) (fun c1402 => ?_) (fun c1402 => ?_)
  · skip
    refine x_iload C dL_law_1407 rfl ?_
    refine x_if_ne C (tgt := 1424) dL_law_1409 (by decide) (by decide) (fun c1409 => ?_) (fun c1409 => ?_)
    · skip
      refine x_goto C (tgt := 1818) dL_law_1424 (by decide) ?_
      refine X.sub (ls' := [some (.ref sb), some (.ref (ad 0)), some (.ref b), some (.ref o), some (vi 0), none, none, none, none]) (sub_cons (Or.inr rfl) (sub_cons (Or.inr rfl) (sub_cons (Or.inr rfl) (sub_cons (Or.inr rfl) (sub_cons (Or.inr rfl) (sub_cons (Or.inl rfl) (sub_cons (Or.inl rfl) (sub_cons (Or.inl rfl) (sub_cons (Or.inl rfl) sub_nil))))))))) ?_
      exact kk h8 _ _ (by omega) (by omega)
    · skip
      exact absurd c1409 (by decide)
  · skip
    exact absurd rfl c1402

set_option maxRecDepth 100000 in
set_option maxHeartbeats 4000000 in
theorem law_shapes_ok {G : xG} {K : xK} {h : PH} {ad : Nat → Nat} {fq : Bool} {sb b o a1 a2 a3 a4 a5 a6 a7 a8 bt L cells slots mc9 ms9 : Nat} {go : Nat → Int64} {xs : Nat → Int32} (C : xC G K "TablatureLaw" code 9) (hR : xGe K 200 mc9 ms9) (hrm : 100000 ≤ mc9 ∧ 1000000 ≤ ms9) (T : xTS G (ks K) (ks K).heap) (hj : ∀ i j, i < 300 → j < 300 → ad i = ad j → i = j) (TT : TabR G h ad fq Q0 P0) (hB : h b = (xO 8 [vi 0, vi 0, .ref a1, .ref a2, vi 0, vi 3, vi 0, .ref a3, .ref a4, .ref a5, .ref a6, .ref a7, .ref a8, vi 0, vi 0, .ref bt])) (hO : h o = xL G 1 go) (hA1 : h a1 = xI G 6 (fun _ => 0)) (hA3 : h a3 = xQ G 3 12 (fun _ => none)) (hA4 : h a4 = xI G 12 (fun _ => 0)) (hA5 : h a5 = xZ G 12 (fun _ => false)) (n45 : a4 ≠ a5) (hn : ∀ i, own i → b ≠ ad i ∧ o ≠ ad i ∧ a1 ≠ ad i ∧ a3 ≠ ad i ∧ a4 ≠ ad i ∧ a5 ≠ ad i) (hX : va_X sb L xs (ks K) (ks K).heap) (hbl : sb < gN G) (hbs : sb < (ks K).heap.size) (hL : L = 6) (hc : cells ≤ 1000) (hs : slots ≤ 10000) (kk : ∀ (h' : PH) (c9 s9 : Nat), c9 ≤ 2000 → s9 ≤ 20000 → X G K 9 1818 [some (.ref sb), some (.ref (ad 0)), some (.ref b), some (.ref o), some (vi 0), none, none, none, none] [] h' c9 s9) (hi : isV (xs 1).toInt (xs 2).toInt (xs 3).toInt = true) : X G K 9 1347 [some (.ref sb), some (.ref (ad 0)), some (.ref b), some (.ref o), some (vi 0), none, none, none, none] [] h cells slots := by
  obtain ⟨tq, -, tt, -, -⟩ := id TT.1
  have hnb := fun i hi => (hn i hi).1
  have hno := fun i hi => (hn i hi).2.1
  have hna := fun i hi => (hn i hi).2.2
  refine x_aload_n C dL_law_1347 rfl rfl ?_
  refine x_aload_n C dL_law_1348 rfl rfl ?_
  refine x_iload C dL_law_1349 rfl ?_
  refine x_iconst C dL_law_1351 ?_
  refine x_iadd C dL_law_1352 ?_
  refine x_sld C hX hbl hbs (v := (xs 1).toInt) ⟨by omega, by omega, by omega⟩ (I_of _).symm dL_law_1353 ?_
  refine x_aload_n C dL_law_1354 rfl rfl ?_
  refine x_iload C dL_law_1355 rfl ?_
  refine x_iconst C dL_law_1357 ?_
  refine x_iadd C dL_law_1358 ?_
  refine x_sld C hX hbl hbs (v := (xs 2).toInt) ⟨by omega, by omega, by omega⟩ (I_of _).symm dL_law_1359 ?_
  refine x_aload_n C dL_law_1360 rfl rfl ?_
  refine x_iload C dL_law_1361 rfl ?_
  refine x_iconst C dL_law_1363 ?_
  refine x_iadd C dL_law_1364 ?_
  refine x_sld C hX hbl hbs (v := (xs 3).toInt) ⟨by omega, by omega, by omega⟩ (I_of _).symm dL_law_1365 ?_
  refine x_aload_n C dL_law_1366 rfl rfl ?_
  refine x_invSH C T sh_163 (st := []) (c_H_shapes_ok tt (z := 0) (PP := frO ad h) (c0_shapes hj TT hi) (fun h1 p1 => (p1 _ hno).trans hO)) rfl rfl (Nat.le_of_ble_eq_true rfl) (xRm_of hR (by omega) (by decide) (by omega) (by omega)) dL_law_1367 (fun r9 h9 hq => ?_)
  obtain ⟨rfl, h1, p1, rfl⟩ := hq
  refine x_istore C (ls' := [some (.ref sb), some (.ref (ad 0)), some (.ref b), some (.ref o), some (vi 0), some (vi 0), none, none, none]) dL_law_1370 (by decide) rfl ?_
  refine x_aload_n C dL_law_1372 rfl rfl ?_
  refine x_aload_n C dL_law_1373 rfl rfl ?_
  refine x_iload C dL_law_1374 rfl ?_
  refine x_iconst C dL_law_1376 ?_
  refine x_iadd C dL_law_1377 ?_
  refine x_sld C hX hbl hbs (v := (xs 1).toInt) ⟨by omega, by omega, by omega⟩ (I_of _).symm dL_law_1378 ?_
  refine x_aload_n C dL_law_1379 rfl rfl ?_
  refine x_iload C dL_law_1380 rfl ?_
  refine x_iconst C dL_law_1382 ?_
  refine x_iadd C dL_law_1383 ?_
  refine x_sld C hX hbl hbs (v := (xs 2).toInt) ⟨by omega, by omega, by omega⟩ (I_of _).symm dL_law_1384 ?_
  refine x_aload_n C dL_law_1385 rfl rfl ?_
  refine x_iload C dL_law_1386 rfl ?_
  refine x_iconst C dL_law_1388 ?_
  refine x_iadd C dL_law_1389 ?_
  refine x_sld C hX hbl hbs (v := (xs 3).toInt) ⟨by omega, by omega, by omega⟩ (I_of _).symm dL_law_1390 ?_
  refine x_invV C s_Law_165 (st := []) (c_Mo_shapes_ok ((up_n (ne_k ((p1 _ (hnb)).trans hB) ((p1 _ (hno)).trans hO) (knn rfl))).trans ((p1 _ (hnb)).trans hB)) up_s (v := (xs 1).toInt) (w1 := (xs 2).toInt) (w2 := (xs 3).toInt) (I_bd (xs 1)) (I_bd (xs 2)) (I_bd (xs 3)) hi) ((up_n (ne_k ((p1 _ (hnb)).trans hB) ((p1 _ (hno)).trans hO) (knn rfl))).trans ((p1 _ (hnb)).trans hB)) rfl rfl (Nat.le_of_ble_eq_true rfl) (xRm_of hR (by omega) (by decide) (by omega) (by omega)) dL_law_1391 (fun r9 h8 hq => ?_)
  obtain ⟨rfl, ⟨fs8, gb⟩, g8⟩ := hq
  refine x_istore C (ls' := [some (.ref sb), some (.ref (ad 0)), some (.ref b), some (.ref o), some (vi 0), some (vi 0), some (vi 0), none, none]) dL_law_1394 (by decide) rfl ?_
  refine x_aload_n C dL_law_1396 rfl rfl ?_
  refine x_invV C s_Law_97 (st := []) (c_Mo_thrown gb) gb rfl rfl (Nat.le_of_ble_eq_true rfl) (xRm_of hR (by omega) (by decide) (by omega) (by omega)) dL_law_1397 (fun r9 h7 hq => ?_)
  obtain ⟨rfl, e9⟩ := hq
  have e9 := e9.symm
  subst e9
  refine x_iload C dL_law_1400 rfl ?_
  refine x_icmp_eq C (tgt := 1407) dL_law_1402 (by decide) (by decide) (by decide) (fun c1402 => ?_) (fun c1402 => ?_)
  · skip
    refine x_iload C dL_law_1407 rfl ?_
    refine x_if_ne C (tgt := 1424) dL_law_1409 (by decide) (by decide) (fun c1409 => ?_) (fun c1409 => ?_)
    · skip
      exact absurd rfl c1409
    · skip
      refine x_aload_n C dL_law_1412 rfl rfl ?_
      refine x_iconst C dL_law_1413 ?_
      refine x_lald C g8 ⟨by omega, by omega, by omega⟩ dL_law_1414 ?_
      refine x_iload C dL_law_1415 rfl ?_
      refine x_i2l C dL_law_1417 ?_
      refine x_lcmpQ C (vpu_s _ _ _) dL_law_1418 ?_
      refine x_if_eq C (tgt := 1424) dL_law_1419 (by decide) (by decide) (fun c1419 => ?_) (fun c1419 => ?_)
      · skip
        refine x_goto C (tgt := 1818) dL_law_1424 (by decide) ?_
        refine X.sub (ls' := [some (.ref sb), some (.ref (ad 0)), some (.ref b), some (.ref o), some (vi 0), none, none, none, none]) (sub_cons (Or.inr rfl) (sub_cons (Or.inr rfl) (sub_cons (Or.inr rfl) (sub_cons (Or.inr rfl) (sub_cons (Or.inr rfl) (sub_cons (Or.inl rfl) (sub_cons (Or.inl rfl) (sub_cons (Or.inl rfl) (sub_cons (Or.inl rfl) sub_nil))))))))) ?_
        exact kk h8 _ _ (by omega) (by omega)
      · skip
        exact absurd rfl c1419
  · skip
    exact absurd rfl c1402

set_option maxRecDepth 100000 in
set_option maxHeartbeats 4000000 in
theorem law_shapeEffort_no {G : xG} {K : xK} {h : PH} {ad : Nat → Nat} {fq : Bool} {sb b o a1 a2 a3 a4 a5 a6 a7 a8 bt L cells slots mc9 ms9 : Nat} {go : Nat → Int64} {xs : Nat → Int32} (C : xC G K "TablatureLaw" code 9) (hR : xGe K 200 mc9 ms9) (hrm : 100000 ≤ mc9 ∧ 1000000 ≤ ms9) (T : xTS G (ks K) (ks K).heap) (hj : ∀ i j, i < 300 → j < 300 → ad i = ad j → i = j) (TT : TabR G h ad fq Q0 P0) (hB : h b = (xO 8 [vi 0, vi 0, .ref a1, .ref a2, vi 0, vi 3, vi 0, .ref a3, .ref a4, .ref a5, .ref a6, .ref a7, .ref a8, vi 0, vi 0, .ref bt])) (hO : h o = xL G 1 go) (hA1 : h a1 = xI G 6 (fun _ => 0)) (hA3 : h a3 = xQ G 3 12 (fun _ => none)) (hA4 : h a4 = xI G 12 (fun _ => 0)) (hA5 : h a5 = xZ G 12 (fun _ => false)) (n45 : a4 ≠ a5) (hn : ∀ i, own i → b ≠ ad i ∧ o ≠ ad i ∧ a1 ≠ ad i ∧ a3 ≠ ad i ∧ a4 ≠ ad i ∧ a5 ≠ ad i) (hX : va_X sb L xs (ks K) (ks K).heap) (hbl : sb < gN G) (hbs : sb < (ks K).heap.size) (hL : L = 6) (hc : cells ≤ 1000) (hs : slots ≤ 10000) (kk : ∀ (h' : PH) (c9 s9 : Nat), c9 ≤ 2000 → s9 ≤ 20000 → X G K 9 1818 [some (.ref sb), some (.ref (ad 0)), some (.ref b), some (.ref o), some (vi 0), none, none, none, none] [] h' c9 s9) (hi : isV (xs 1).toInt (xs 2).toInt (xs 3).toInt = false) : X G K 9 1427 [some (.ref sb), some (.ref (ad 0)), some (.ref b), some (.ref o), some (vi 0), none, none, none, none] [] h cells slots := by
  obtain ⟨tq, -, tt, -, -⟩ := id TT.1
  have hnb := fun i hi => (hn i hi).1
  have hno := fun i hi => (hn i hi).2.1
  have hna := fun i hi => (hn i hi).2.2
  refine x_aload_n C dL_law_1427 rfl rfl ?_
  refine x_aload_n C dL_law_1428 rfl rfl ?_
  refine x_iload C dL_law_1429 rfl ?_
  refine x_iconst C dL_law_1431 ?_
  refine x_iadd C dL_law_1432 ?_
  refine x_sld C hX hbl hbs (v := (xs 1).toInt) ⟨by omega, by omega, by omega⟩ (I_of _).symm dL_law_1433 ?_
  refine x_aload_n C dL_law_1434 rfl rfl ?_
  refine x_iload C dL_law_1435 rfl ?_
  refine x_iconst C dL_law_1437 ?_
  refine x_iadd C dL_law_1438 ?_
  refine x_sld C hX hbl hbs (v := (xs 2).toInt) ⟨by omega, by omega, by omega⟩ (I_of _).symm dL_law_1439 ?_
  refine x_aload_n C dL_law_1440 rfl rfl ?_
  refine x_iload C dL_law_1441 rfl ?_
  refine x_iconst C dL_law_1443 ?_
  refine x_iadd C dL_law_1444 ?_
  refine x_sld C hX hbl hbs (v := (xs 3).toInt) ⟨by omega, by omega, by omega⟩ (I_of _).symm dL_law_1445 ?_
  refine x_aload_n C dL_law_1446 rfl rfl ?_
  refine x_invSH C T sh_166 (st := []) (c_H_shapeEffort_no tt (c_shapeEffort_no hj TT (v := (xs 1).toInt) (w1 := (xs 2).toInt) (w2 := (xs 3).toInt) (I_bd (xs 1)) (I_bd (xs 2)) (I_bd (xs 3)) hi)) rfl rfl (Nat.le_of_ble_eq_true rfl) (xRm_of hR (by omega) (by decide) (by omega) (by omega)) dL_law_1447 (fun r9 h9 hq => ?_)
  obtain ⟨rfl, e9⟩ := hq
  have e9 := e9.symm
  subst e9
  refine x_istore C (ls' := [some (.ref sb), some (.ref (ad 0)), some (.ref b), some (.ref o), some (vi 0), some (vi 1), none, none, none]) dL_law_1450 (by decide) rfl ?_
  refine x_aload_n C dL_law_1452 rfl rfl ?_
  refine x_aload_n C dL_law_1453 rfl rfl ?_
  refine x_iload C dL_law_1454 rfl ?_
  refine x_iconst C dL_law_1456 ?_
  refine x_iadd C dL_law_1457 ?_
  refine x_sld C hX hbl hbs (v := (xs 1).toInt) ⟨by omega, by omega, by omega⟩ (I_of _).symm dL_law_1458 ?_
  refine x_aload_n C dL_law_1459 rfl rfl ?_
  refine x_iload C dL_law_1460 rfl ?_
  refine x_iconst C dL_law_1462 ?_
  refine x_iadd C dL_law_1463 ?_
  refine x_sld C hX hbl hbs (v := (xs 2).toInt) ⟨by omega, by omega, by omega⟩ (I_of _).symm dL_law_1464 ?_
  refine x_aload_n C dL_law_1465 rfl rfl ?_
  refine x_iload C dL_law_1466 rfl ?_
  refine x_iconst C dL_law_1468 ?_
  refine x_iadd C dL_law_1469 ?_
  refine x_sld C hX hbl hbs (v := (xs 3).toInt) ⟨by omega, by omega, by omega⟩ (I_of _).symm dL_law_1470 ?_
  refine x_invV C s_Law_168 (st := []) (c_Mo_shapeEffort_no hB hO (v := (xs 1).toInt) (w1 := (xs 2).toInt) (w2 := (xs 3).toInt) (I_bd (xs 1)) (I_bd (xs 2)) (I_bd (xs 3)) hi) hB rfl rfl (Nat.le_of_ble_eq_true rfl) (xRm_of hR (by omega) (by decide) (by omega) (by omega)) dL_law_1471 (fun r9 h8 hq => ?_)
  obtain ⟨rfl, ⟨fs8, gb⟩, g8⟩ := hq
  refine x_istore C (ls' := [some (.ref sb), some (.ref (ad 0)), some (.ref b), some (.ref o), some (vi 0), some (vi 1), some (vi 0), none, none]) dL_law_1474 (by decide) rfl ?_
  refine x_aload_n C dL_law_1476 rfl rfl ?_
  refine x_invV C s_Law_97 (st := []) (c_Mo_thrown gb) gb rfl rfl (Nat.le_of_ble_eq_true rfl) (xRm_of hR (by omega) (by decide) (by omega) (by omega)) dL_law_1477 (fun r9 h7 hq => ?_)
  obtain ⟨rfl, e9⟩ := hq
  have e9 := e9.symm
  subst e9
  refine x_iload C dL_law_1480 rfl ?_
  refine x_icmp_eq C (tgt := 1487) dL_law_1482 (by decide) (by decide) (by decide) (fun c1482 => ?_) (fun c1482 => ?_)
  · skip
    refine x_iload C dL_law_1487 rfl ?_
    refine x_if_ne C (tgt := 1504) dL_law_1489 (by decide) (by decide) (fun c1489 => ?_) (fun c1489 => ?_)
    · skip
      refine x_goto C (tgt := 1818) dL_law_1504 (by decide) ?_
      refine X.sub (ls' := [some (.ref sb), some (.ref (ad 0)), some (.ref b), some (.ref o), some (vi 0), none, none, none, none]) (sub_cons (Or.inr rfl) (sub_cons (Or.inr rfl) (sub_cons (Or.inr rfl) (sub_cons (Or.inr rfl) (sub_cons (Or.inr rfl) (sub_cons (Or.inl rfl) (sub_cons (Or.inl rfl) (sub_cons (Or.inl rfl) (sub_cons (Or.inl rfl) sub_nil))))))))) ?_
      exact kk h8 _ _ (by omega) (by omega)
    · skip
      exact absurd c1489 (by decide)
  · skip
    exact absurd rfl c1482

set_option maxRecDepth 100000 in
set_option maxHeartbeats 4000000 in
theorem law_shapeEffort_ok {G : xG} {K : xK} {h : PH} {ad : Nat → Nat} {fq : Bool} {sb b o a1 a2 a3 a4 a5 a6 a7 a8 bt L cells slots mc9 ms9 : Nat} {go : Nat → Int64} {xs : Nat → Int32} (C : xC G K "TablatureLaw" code 9) (hR : xGe K 200 mc9 ms9) (hrm : 100000 ≤ mc9 ∧ 1000000 ≤ ms9) (T : xTS G (ks K) (ks K).heap) (hj : ∀ i j, i < 300 → j < 300 → ad i = ad j → i = j) (TT : TabR G h ad fq Q0 P0) (hB : h b = (xO 8 [vi 0, vi 0, .ref a1, .ref a2, vi 0, vi 3, vi 0, .ref a3, .ref a4, .ref a5, .ref a6, .ref a7, .ref a8, vi 0, vi 0, .ref bt])) (hO : h o = xL G 1 go) (hA1 : h a1 = xI G 6 (fun _ => 0)) (hA3 : h a3 = xQ G 3 12 (fun _ => none)) (hA4 : h a4 = xI G 12 (fun _ => 0)) (hA5 : h a5 = xZ G 12 (fun _ => false)) (n45 : a4 ≠ a5) (hn : ∀ i, own i → b ≠ ad i ∧ o ≠ ad i ∧ a1 ≠ ad i ∧ a3 ≠ ad i ∧ a4 ≠ ad i ∧ a5 ≠ ad i) (hX : va_X sb L xs (ks K) (ks K).heap) (hbl : sb < gN G) (hbs : sb < (ks K).heap.size) (hL : L = 6) (hc : cells ≤ 1000) (hs : slots ≤ 10000) (kk : ∀ (h' : PH) (c9 s9 : Nat), c9 ≤ 2000 → s9 ≤ 20000 → X G K 9 1818 [some (.ref sb), some (.ref (ad 0)), some (.ref b), some (.ref o), some (vi 0), none, none, none, none] [] h' c9 s9) (hi : isV (xs 1).toInt (xs 2).toInt (xs 3).toInt = true) : X G K 9 1427 [some (.ref sb), some (.ref (ad 0)), some (.ref b), some (.ref o), some (vi 0), none, none, none, none] [] h cells slots := by
  obtain ⟨tq, -, tt, -, -⟩ := id TT.1
  have hnb := fun i hi => (hn i hi).1
  have hno := fun i hi => (hn i hi).2.1
  have hna := fun i hi => (hn i hi).2.2
  refine x_aload_n C dL_law_1427 rfl rfl ?_
  refine x_aload_n C dL_law_1428 rfl rfl ?_
  refine x_iload C dL_law_1429 rfl ?_
  refine x_iconst C dL_law_1431 ?_
  refine x_iadd C dL_law_1432 ?_
  refine x_sld C hX hbl hbs (v := (xs 1).toInt) ⟨by omega, by omega, by omega⟩ (I_of _).symm dL_law_1433 ?_
  refine x_aload_n C dL_law_1434 rfl rfl ?_
  refine x_iload C dL_law_1435 rfl ?_
  refine x_iconst C dL_law_1437 ?_
  refine x_iadd C dL_law_1438 ?_
  refine x_sld C hX hbl hbs (v := (xs 2).toInt) ⟨by omega, by omega, by omega⟩ (I_of _).symm dL_law_1439 ?_
  refine x_aload_n C dL_law_1440 rfl rfl ?_
  refine x_iload C dL_law_1441 rfl ?_
  refine x_iconst C dL_law_1443 ?_
  refine x_iadd C dL_law_1444 ?_
  refine x_sld C hX hbl hbs (v := (xs 3).toInt) ⟨by omega, by omega, by omega⟩ (I_of _).symm dL_law_1445 ?_
  refine x_aload_n C dL_law_1446 rfl rfl ?_
  refine x_invSH C T sh_166 (st := []) (c_H_shapeEffort_ok tt (z := (-1)) (PP := frO ad h) (c0_shapeEffort hj TT hi) (fun h1 p1 => (p1 _ hno).trans hO)) rfl rfl (Nat.le_of_ble_eq_true rfl) (xRm_of hR (by omega) (by decide) (by omega) (by omega)) dL_law_1447 (fun r9 h9 hq => ?_)
  obtain ⟨rfl, h1, p1, rfl⟩ := hq
  refine x_istore C (ls' := [some (.ref sb), some (.ref (ad 0)), some (.ref b), some (.ref o), some (vi 0), some (vi 0), none, none, none]) dL_law_1450 (by decide) rfl ?_
  refine x_aload_n C dL_law_1452 rfl rfl ?_
  refine x_aload_n C dL_law_1453 rfl rfl ?_
  refine x_iload C dL_law_1454 rfl ?_
  refine x_iconst C dL_law_1456 ?_
  refine x_iadd C dL_law_1457 ?_
  refine x_sld C hX hbl hbs (v := (xs 1).toInt) ⟨by omega, by omega, by omega⟩ (I_of _).symm dL_law_1458 ?_
  refine x_aload_n C dL_law_1459 rfl rfl ?_
  refine x_iload C dL_law_1460 rfl ?_
  refine x_iconst C dL_law_1462 ?_
  refine x_iadd C dL_law_1463 ?_
  refine x_sld C hX hbl hbs (v := (xs 2).toInt) ⟨by omega, by omega, by omega⟩ (I_of _).symm dL_law_1464 ?_
  refine x_aload_n C dL_law_1465 rfl rfl ?_
  refine x_iload C dL_law_1466 rfl ?_
  refine x_iconst C dL_law_1468 ?_
  refine x_iadd C dL_law_1469 ?_
  refine x_sld C hX hbl hbs (v := (xs 3).toInt) ⟨by omega, by omega, by omega⟩ (I_of _).symm dL_law_1470 ?_
  refine x_invV C s_Law_168 (st := []) (c_Mo_shapeEffort_ok ((up_n (ne_k ((p1 _ (hnb)).trans hB) ((p1 _ (hno)).trans hO) (knn rfl))).trans ((p1 _ (hnb)).trans hB)) up_s (v := (xs 1).toInt) (w1 := (xs 2).toInt) (w2 := (xs 3).toInt) (I_bd (xs 1)) (I_bd (xs 2)) (I_bd (xs 3)) hi) ((up_n (ne_k ((p1 _ (hnb)).trans hB) ((p1 _ (hno)).trans hO) (knn rfl))).trans ((p1 _ (hnb)).trans hB)) rfl rfl (Nat.le_of_ble_eq_true rfl) (xRm_of hR (by omega) (by decide) (by omega) (by omega)) dL_law_1471 (fun r9 h8 hq => ?_)
  obtain ⟨rfl, ⟨fs8, gb⟩, g8⟩ := hq
  refine x_istore C (ls' := [some (.ref sb), some (.ref (ad 0)), some (.ref b), some (.ref o), some (vi 0), some (vi 0), some (vi (-1)), none, none]) dL_law_1474 (by decide) rfl ?_
  refine x_aload_n C dL_law_1476 rfl rfl ?_
  refine x_invV C s_Law_97 (st := []) (c_Mo_thrown gb) gb rfl rfl (Nat.le_of_ble_eq_true rfl) (xRm_of hR (by omega) (by decide) (by omega) (by omega)) dL_law_1477 (fun r9 h7 hq => ?_)
  obtain ⟨rfl, e9⟩ := hq
  have e9 := e9.symm
  subst e9
  refine x_iload C dL_law_1480 rfl ?_
  refine x_icmp_eq C (tgt := 1487) dL_law_1482 (by decide) (by decide) (by decide) (fun c1482 => ?_) (fun c1482 => ?_)
  · skip
    refine x_iload C dL_law_1487 rfl ?_
    refine x_if_ne C (tgt := 1504) dL_law_1489 (by decide) (by decide) (fun c1489 => ?_) (fun c1489 => ?_)
    · skip
      exact absurd rfl c1489
    · skip
      refine x_aload_n C dL_law_1492 rfl rfl ?_
      refine x_iconst C dL_law_1493 ?_
      refine x_lald C g8 ⟨by omega, by omega, by omega⟩ dL_law_1494 ?_
      refine x_iload C dL_law_1495 rfl ?_
      refine x_i2l C dL_law_1497 ?_
      refine x_lcmpQ C (vpu_s _ _ _) dL_law_1498 ?_
      refine x_if_eq C (tgt := 1504) dL_law_1499 (by decide) (by decide) (fun c1499 => ?_) (fun c1499 => ?_)
      · skip
        refine x_goto C (tgt := 1818) dL_law_1504 (by decide) ?_
        refine X.sub (ls' := [some (.ref sb), some (.ref (ad 0)), some (.ref b), some (.ref o), some (vi 0), none, none, none, none]) (sub_cons (Or.inr rfl) (sub_cons (Or.inr rfl) (sub_cons (Or.inr rfl) (sub_cons (Or.inr rfl) (sub_cons (Or.inr rfl) (sub_cons (Or.inl rfl) (sub_cons (Or.inl rfl) (sub_cons (Or.inl rfl) (sub_cons (Or.inl rfl) sub_nil))))))))) ?_
        exact kk h8 _ _ (by omega) (by omega)
      · skip
        exact absurd rfl c1499
  · skip
    exact absurd rfl c1482

set_option maxRecDepth 100000 in
set_option maxHeartbeats 4000000 in
theorem law_shapeFret_no {G : xG} {K : xK} {h : PH} {ad : Nat → Nat} {fq : Bool} {sb b o a1 a2 a3 a4 a5 a6 a7 a8 bt L cells slots mc9 ms9 : Nat} {go : Nat → Int64} {xs : Nat → Int32} (C : xC G K "TablatureLaw" code 9) (hR : xGe K 200 mc9 ms9) (hrm : 100000 ≤ mc9 ∧ 1000000 ≤ ms9) (T : xTS G (ks K) (ks K).heap) (hj : ∀ i j, i < 300 → j < 300 → ad i = ad j → i = j) (TT : TabR G h ad fq Q0 P0) (hB : h b = (xO 8 [vi 0, vi 0, .ref a1, .ref a2, vi 0, vi 3, vi 0, .ref a3, .ref a4, .ref a5, .ref a6, .ref a7, .ref a8, vi 0, vi 0, .ref bt])) (hO : h o = xL G 1 go) (hA1 : h a1 = xI G 6 (fun _ => 0)) (hA3 : h a3 = xQ G 3 12 (fun _ => none)) (hA4 : h a4 = xI G 12 (fun _ => 0)) (hA5 : h a5 = xZ G 12 (fun _ => false)) (n45 : a4 ≠ a5) (hn : ∀ i, own i → b ≠ ad i ∧ o ≠ ad i ∧ a1 ≠ ad i ∧ a3 ≠ ad i ∧ a4 ≠ ad i ∧ a5 ≠ ad i) (hX : va_X sb L xs (ks K) (ks K).heap) (hbl : sb < gN G) (hbs : sb < (ks K).heap.size) (hL : L = 6) (hc : cells ≤ 1000) (hs : slots ≤ 10000) (kk : ∀ (h' : PH) (c9 s9 : Nat), c9 ≤ 2000 → s9 ≤ 20000 → X G K 9 1818 [some (.ref sb), some (.ref (ad 0)), some (.ref b), some (.ref o), some (vi 0), none, none, none, none] [] h' c9 s9)  : X G K 9 1507 [some (.ref sb), some (.ref (ad 0)), some (.ref b), some (.ref o), some (vi 0), none, none, none, none] [] h cells slots := by
  obtain ⟨tq, -, tt, -, -⟩ := id TT.1
  have hnb := fun i hi => (hn i hi).1
  have hno := fun i hi => (hn i hi).2.1
  have hna := fun i hi => (hn i hi).2.2
  refine x_aload_n C dL_law_1507 rfl rfl ?_
  refine x_aload_n C dL_law_1508 rfl rfl ?_
  refine x_iload C dL_law_1509 rfl ?_
  refine x_iconst C dL_law_1511 ?_
  refine x_iadd C dL_law_1512 ?_
  refine x_sld C hX hbl hbs (v := (xs 1).toInt) ⟨by omega, by omega, by omega⟩ (I_of _).symm dL_law_1513 ?_
  refine x_aload_n C dL_law_1514 rfl rfl ?_
  refine x_iload C dL_law_1515 rfl ?_
  refine x_iconst C dL_law_1517 ?_
  refine x_iadd C dL_law_1518 ?_
  refine x_sld C hX hbl hbs (v := (xs 2).toInt) ⟨by omega, by omega, by omega⟩ (I_of _).symm dL_law_1519 ?_
  refine x_aload_n C dL_law_1520 rfl rfl ?_
  refine x_iload C dL_law_1521 rfl ?_
  refine x_iconst C dL_law_1523 ?_
  refine x_iadd C dL_law_1524 ?_
  refine x_sld C hX hbl hbs (v := (xs 3).toInt) ⟨by omega, by omega, by omega⟩ (I_of _).symm dL_law_1525 ?_
  refine x_aload_n C dL_law_1526 rfl rfl ?_
  refine x_iload C dL_law_1527 rfl ?_
  refine x_iconst C dL_law_1529 ?_
  refine x_iadd C dL_law_1530 ?_
  refine x_sld C hX hbl hbs (v := (xs 4).toInt) ⟨by omega, by omega, by omega⟩ (I_of _).symm dL_law_1531 ?_
  refine x_aload_n C dL_law_1532 rfl rfl ?_
  refine x_invSH C T sh_169 (st := []) (c_H_shapeFret_no tt (c_shapeFret_no hj TT (v := (xs 4).toInt) (I_bd (xs 4)) (by show ¬ (0 ≤ _ ∧ _ < (0 : Int)); omega))) rfl rfl (Nat.le_of_ble_eq_true rfl) (xRm_of hR (by omega) (by decide) (by omega) (by omega)) dL_law_1533 (fun r9 h9 hq => ?_)
  obtain ⟨rfl, e9⟩ := hq
  have e9 := e9.symm
  subst e9
  refine x_istore C (ls' := [some (.ref sb), some (.ref (ad 0)), some (.ref b), some (.ref o), some (vi 0), some (vi 1), none, none, none]) dL_law_1536 (by decide) rfl ?_
  refine x_aload_n C dL_law_1538 rfl rfl ?_
  refine x_aload_n C dL_law_1539 rfl rfl ?_
  refine x_iload C dL_law_1540 rfl ?_
  refine x_iconst C dL_law_1542 ?_
  refine x_iadd C dL_law_1543 ?_
  refine x_sld C hX hbl hbs (v := (xs 1).toInt) ⟨by omega, by omega, by omega⟩ (I_of _).symm dL_law_1544 ?_
  refine x_aload_n C dL_law_1545 rfl rfl ?_
  refine x_iload C dL_law_1546 rfl ?_
  refine x_iconst C dL_law_1548 ?_
  refine x_iadd C dL_law_1549 ?_
  refine x_sld C hX hbl hbs (v := (xs 2).toInt) ⟨by omega, by omega, by omega⟩ (I_of _).symm dL_law_1550 ?_
  refine x_aload_n C dL_law_1551 rfl rfl ?_
  refine x_iload C dL_law_1552 rfl ?_
  refine x_iconst C dL_law_1554 ?_
  refine x_iadd C dL_law_1555 ?_
  refine x_sld C hX hbl hbs (v := (xs 3).toInt) ⟨by omega, by omega, by omega⟩ (I_of _).symm dL_law_1556 ?_
  refine x_aload_n C dL_law_1557 rfl rfl ?_
  refine x_iload C dL_law_1558 rfl ?_
  refine x_iconst C dL_law_1560 ?_
  refine x_iadd C dL_law_1561 ?_
  refine x_sld C hX hbl hbs (v := (xs 4).toInt) ⟨by omega, by omega, by omega⟩ (I_of _).symm dL_law_1562 ?_
  refine x_invV C s_Law_172 (st := []) (c_Mo_shapeFret hB hO (v := (xs 4).toInt) (w1 := (xs 1).toInt) (w2 := (xs 2).toInt) (w3 := (xs 3).toInt) (I_bd (xs 4))) hB rfl rfl (Nat.le_of_ble_eq_true rfl) (xRm_of hR (by omega) (by decide) (by omega) (by omega)) dL_law_1563 (fun r9 h8 hq => ?_)
  obtain ⟨rfl, ⟨fs8, gb⟩, g8⟩ := hq
  refine x_istore C (ls' := [some (.ref sb), some (.ref (ad 0)), some (.ref b), some (.ref o), some (vi 0), some (vi 1), some (vi 0), none, none]) dL_law_1566 (by decide) rfl ?_
  refine x_aload_n C dL_law_1568 rfl rfl ?_
  refine x_invV C s_Law_97 (st := []) (c_Mo_thrown gb) gb rfl rfl (Nat.le_of_ble_eq_true rfl) (xRm_of hR (by omega) (by decide) (by omega) (by omega)) dL_law_1569 (fun r9 h7 hq => ?_)
  obtain ⟨rfl, e9⟩ := hq
  have e9 := e9.symm
  subst e9
  refine x_iload C dL_law_1572 rfl ?_
  refine x_icmp_eq C (tgt := 1579) dL_law_1574 (by decide) (by decide) (by decide) (fun c1574 => ?_) (fun c1574 => ?_)
  · skip
    refine x_iload C dL_law_1579 rfl ?_
    refine x_if_ne C (tgt := 1596) dL_law_1581 (by decide) (by decide) (fun c1581 => ?_) (fun c1581 => ?_)
    · skip
      refine x_goto C (tgt := 1818) dL_law_1596 (by decide) ?_
      refine X.sub (ls' := [some (.ref sb), some (.ref (ad 0)), some (.ref b), some (.ref o), some (vi 0), none, none, none, none]) (sub_cons (Or.inr rfl) (sub_cons (Or.inr rfl) (sub_cons (Or.inr rfl) (sub_cons (Or.inr rfl) (sub_cons (Or.inr rfl) (sub_cons (Or.inl rfl) (sub_cons (Or.inl rfl) (sub_cons (Or.inl rfl) (sub_cons (Or.inl rfl) sub_nil))))))))) ?_
      exact kk h8 _ _ (by omega) (by omega)
    · skip
      exact absurd c1581 (by decide)
  · skip
    exact absurd rfl c1574

set_option maxRecDepth 100000 in
set_option maxHeartbeats 4000000 in
theorem law_totalWith_no1 {G : xG} {K : xK} {h : PH} {ad : Nat → Nat} {fq : Bool} {sb b o a1 a2 a3 a4 a5 a6 a7 a8 bt L cells slots mc9 ms9 : Nat} {go : Nat → Int64} {xs : Nat → Int32} (C : xC G K "TablatureLaw" code 9) (hR : xGe K 200 mc9 ms9) (hrm : 100000 ≤ mc9 ∧ 1000000 ≤ ms9) (T : xTS G (ks K) (ks K).heap) (hj : ∀ i j, i < 300 → j < 300 → ad i = ad j → i = j) (TT : TabR G h ad fq Q0 P0) (hB : h b = (xO 8 [vi 0, vi 0, .ref a1, .ref a2, vi 0, vi 3, vi 0, .ref a3, .ref a4, .ref a5, .ref a6, .ref a7, .ref a8, vi 0, vi 0, .ref bt])) (hO : h o = xL G 1 go) (hA1 : h a1 = xI G 6 (fun _ => 0)) (hA3 : h a3 = xQ G 3 12 (fun _ => none)) (hA4 : h a4 = xI G 12 (fun _ => 0)) (hA5 : h a5 = xZ G 12 (fun _ => false)) (n45 : a4 ≠ a5) (hn : ∀ i, own i → b ≠ ad i ∧ o ≠ ad i ∧ a1 ≠ ad i ∧ a3 ≠ ad i ∧ a4 ≠ ad i ∧ a5 ≠ ad i) (hX : va_X sb L xs (ks K) (ks K).heap) (hbl : sb < gN G) (hbs : sb < (ks K).heap.size) (hL : L = 6) (hc : cells ≤ 1000) (hs : slots ≤ 10000) (kk : ∀ (h' : PH) (c9 s9 : Nat), c9 ≤ 2000 → s9 ≤ 20000 → X G K 9 1818 [some (.ref sb), some (.ref (ad 0)), some (.ref b), some (.ref o), some (vi 0), none, none, none, none] [] h' c9 s9) (hv : ¬ (0 ≤ (xs 1).toInt ∧ (xs 1).toInt ≤ 7)) : X G K 9 1599 [some (.ref sb), some (.ref (ad 0)), some (.ref b), some (.ref o), some (vi 0), none, none, none, none] [] h cells slots := by
  obtain ⟨tq, -, tt, -, -⟩ := id TT.1
  have hnb := fun i hi => (hn i hi).1
  have hno := fun i hi => (hn i hi).2.1
  have hna := fun i hi => (hn i hi).2.2
  refine x_aload_n C dL_law_1599 rfl rfl ?_
  refine x_aload_n C dL_law_1600 rfl rfl ?_
  refine x_iload C dL_law_1601 rfl ?_
  refine x_iconst C dL_law_1603 ?_
  refine x_iadd C dL_law_1604 ?_
  refine x_sld C hX hbl hbs (v := (xs 1).toInt) ⟨by omega, by omega, by omega⟩ (I_of _).symm dL_law_1605 ?_
  refine x_aload_n C dL_law_1606 rfl rfl ?_
  refine x_iload C dL_law_1607 rfl ?_
  refine x_iconst C dL_law_1609 ?_
  refine x_iadd C dL_law_1610 ?_
  refine x_sld C hX hbl hbs (v := (xs 2).toInt) ⟨by omega, by omega, by omega⟩ (I_of _).symm dL_law_1611 ?_
  refine x_aload_n C dL_law_1612 rfl rfl ?_
  refine x_invSH C T sh_173 (st := []) (c_H_totalWith_no tt (c_totalWith_no1 hj TT (v := (xs 1).toInt) (w := (xs 2).toInt) (I_bd (xs 1)) hv)) rfl rfl (Nat.le_of_ble_eq_true rfl) (xRm_of hR (by omega) (by decide) (by omega) (by omega)) dL_law_1613 (fun r9 h9 hq => ?_)
  obtain ⟨rfl, e9⟩ := hq
  have e9 := e9.symm
  subst e9
  refine x_istore C (ls' := [some (.ref sb), some (.ref (ad 0)), some (.ref b), some (.ref o), some (vi 0), some (vi 1), none, none, none]) dL_law_1616 (by decide) rfl ?_
  refine x_aload_n C dL_law_1618 rfl rfl ?_
  refine x_aload_n C dL_law_1619 rfl rfl ?_
  refine x_iload C dL_law_1620 rfl ?_
  refine x_iconst C dL_law_1622 ?_
  refine x_iadd C dL_law_1623 ?_
  refine x_sld C hX hbl hbs (v := (xs 1).toInt) ⟨by omega, by omega, by omega⟩ (I_of _).symm dL_law_1624 ?_
  refine x_aload_n C dL_law_1625 rfl rfl ?_
  refine x_iload C dL_law_1626 rfl ?_
  refine x_iconst C dL_law_1628 ?_
  refine x_iadd C dL_law_1629 ?_
  refine x_sld C hX hbl hbs (v := (xs 2).toInt) ⟨by omega, by omega, by omega⟩ (I_of _).symm dL_law_1630 ?_
  refine x_invV C s_Law_175 (st := []) (c_Mo_totalWith_no hB hO (v := (xs 1).toInt) (w1 := (xs 2).toInt) (I_bd (xs 1)) (I_bd (xs 2)) (fun q => hv q.1)) hB rfl rfl (Nat.le_of_ble_eq_true rfl) (xRm_of hR (by omega) (by decide) (by omega) (by omega)) dL_law_1631 (fun r9 h8 hq => ?_)
  obtain ⟨rfl, ⟨fs8, gb⟩, g8⟩ := hq
  refine x_istore C (ls' := [some (.ref sb), some (.ref (ad 0)), some (.ref b), some (.ref o), some (vi 0), some (vi 1), some (vi 0), none, none]) dL_law_1634 (by decide) rfl ?_
  refine x_aload_n C dL_law_1636 rfl rfl ?_
  refine x_invV C s_Law_97 (st := []) (c_Mo_thrown gb) gb rfl rfl (Nat.le_of_ble_eq_true rfl) (xRm_of hR (by omega) (by decide) (by omega) (by omega)) dL_law_1637 (fun r9 h7 hq => ?_)
  obtain ⟨rfl, e9⟩ := hq
  have e9 := e9.symm
  subst e9
  refine x_iload C dL_law_1640 rfl ?_
  refine x_icmp_eq C (tgt := 1647) dL_law_1642 (by decide) (by decide) (by decide) (fun c1642 => ?_) (fun c1642 => ?_)
  · skip
    refine x_iload C dL_law_1647 rfl ?_
    refine x_if_ne C (tgt := 1664) dL_law_1649 (by decide) (by decide) (fun c1649 => ?_) (fun c1649 => ?_)
    · skip
      refine x_goto C (tgt := 1818) dL_law_1664 (by decide) ?_
      refine X.sub (ls' := [some (.ref sb), some (.ref (ad 0)), some (.ref b), some (.ref o), some (vi 0), none, none, none, none]) (sub_cons (Or.inr rfl) (sub_cons (Or.inr rfl) (sub_cons (Or.inr rfl) (sub_cons (Or.inr rfl) (sub_cons (Or.inr rfl) (sub_cons (Or.inl rfl) (sub_cons (Or.inl rfl) (sub_cons (Or.inl rfl) (sub_cons (Or.inl rfl) sub_nil))))))))) ?_
      exact kk h8 _ _ (by omega) (by omega)
    · skip
      exact absurd c1649 (by decide)
  · skip
    exact absurd rfl c1642

set_option maxRecDepth 100000 in
set_option maxHeartbeats 4000000 in
theorem law_totalWith_no2 {G : xG} {K : xK} {h : PH} {ad : Nat → Nat} {fq : Bool} {sb b o a1 a2 a3 a4 a5 a6 a7 a8 bt L cells slots mc9 ms9 : Nat} {go : Nat → Int64} {xs : Nat → Int32} (C : xC G K "TablatureLaw" code 9) (hR : xGe K 200 mc9 ms9) (hrm : 100000 ≤ mc9 ∧ 1000000 ≤ ms9) (T : xTS G (ks K) (ks K).heap) (hj : ∀ i j, i < 300 → j < 300 → ad i = ad j → i = j) (TT : TabR G h ad fq Q0 P0) (hB : h b = (xO 8 [vi 0, vi 0, .ref a1, .ref a2, vi 0, vi 3, vi 0, .ref a3, .ref a4, .ref a5, .ref a6, .ref a7, .ref a8, vi 0, vi 0, .ref bt])) (hO : h o = xL G 1 go) (hA1 : h a1 = xI G 6 (fun _ => 0)) (hA3 : h a3 = xQ G 3 12 (fun _ => none)) (hA4 : h a4 = xI G 12 (fun _ => 0)) (hA5 : h a5 = xZ G 12 (fun _ => false)) (n45 : a4 ≠ a5) (hn : ∀ i, own i → b ≠ ad i ∧ o ≠ ad i ∧ a1 ≠ ad i ∧ a3 ≠ ad i ∧ a4 ≠ ad i ∧ a5 ≠ ad i) (hX : va_X sb L xs (ks K) (ks K).heap) (hbl : sb < gN G) (hbs : sb < (ks K).heap.size) (hL : L = 6) (hc : cells ≤ 1000) (hs : slots ≤ 10000) (kk : ∀ (h' : PH) (c9 s9 : Nat), c9 ≤ 2000 → s9 ≤ 20000 → X G K 9 1818 [some (.ref sb), some (.ref (ad 0)), some (.ref b), some (.ref o), some (vi 0), none, none, none, none] [] h' c9 s9) (hv : 0 ≤ (xs 1).toInt ∧ (xs 1).toInt ≤ 7) (hw : ¬ (1 ≤ (xs 2).toInt ∧ (xs 2).toInt ≤ 6)) : X G K 9 1599 [some (.ref sb), some (.ref (ad 0)), some (.ref b), some (.ref o), some (vi 0), none, none, none, none] [] h cells slots := by
  obtain ⟨tq, -, tt, -, -⟩ := id TT.1
  have hnb := fun i hi => (hn i hi).1
  have hno := fun i hi => (hn i hi).2.1
  have hna := fun i hi => (hn i hi).2.2
  refine x_aload_n C dL_law_1599 rfl rfl ?_
  refine x_aload_n C dL_law_1600 rfl rfl ?_
  refine x_iload C dL_law_1601 rfl ?_
  refine x_iconst C dL_law_1603 ?_
  refine x_iadd C dL_law_1604 ?_
  refine x_sld C hX hbl hbs (v := (xs 1).toInt) ⟨by omega, by omega, by omega⟩ (I_of _).symm dL_law_1605 ?_
  refine x_aload_n C dL_law_1606 rfl rfl ?_
  refine x_iload C dL_law_1607 rfl ?_
  refine x_iconst C dL_law_1609 ?_
  refine x_iadd C dL_law_1610 ?_
  refine x_sld C hX hbl hbs (v := (xs 2).toInt) ⟨by omega, by omega, by omega⟩ (I_of _).symm dL_law_1611 ?_
  refine x_aload_n C dL_law_1612 rfl rfl ?_
  refine x_invSH C T sh_173 (st := []) (c_H_totalWith_no tt (c_totalWith_no2 hj TT (v := (xs 1).toInt) (w := (xs 2).toInt) hv (I_bd (xs 2)) hw)) rfl rfl (Nat.le_of_ble_eq_true rfl) (xRm_of hR (by omega) (by decide) (by omega) (by omega)) dL_law_1613 (fun r9 h9 hq => ?_)
  obtain ⟨rfl, e9⟩ := hq
  have e9 := e9.symm
  subst e9
  refine x_istore C (ls' := [some (.ref sb), some (.ref (ad 0)), some (.ref b), some (.ref o), some (vi 0), some (vi 1), none, none, none]) dL_law_1616 (by decide) rfl ?_
  refine x_aload_n C dL_law_1618 rfl rfl ?_
  refine x_aload_n C dL_law_1619 rfl rfl ?_
  refine x_iload C dL_law_1620 rfl ?_
  refine x_iconst C dL_law_1622 ?_
  refine x_iadd C dL_law_1623 ?_
  refine x_sld C hX hbl hbs (v := (xs 1).toInt) ⟨by omega, by omega, by omega⟩ (I_of _).symm dL_law_1624 ?_
  refine x_aload_n C dL_law_1625 rfl rfl ?_
  refine x_iload C dL_law_1626 rfl ?_
  refine x_iconst C dL_law_1628 ?_
  refine x_iadd C dL_law_1629 ?_
  refine x_sld C hX hbl hbs (v := (xs 2).toInt) ⟨by omega, by omega, by omega⟩ (I_of _).symm dL_law_1630 ?_
  refine x_invV C s_Law_175 (st := []) (c_Mo_totalWith_no hB hO (v := (xs 1).toInt) (w1 := (xs 2).toInt) (I_bd (xs 1)) (I_bd (xs 2)) (fun q => hw q.2)) hB rfl rfl (Nat.le_of_ble_eq_true rfl) (xRm_of hR (by omega) (by decide) (by omega) (by omega)) dL_law_1631 (fun r9 h8 hq => ?_)
  obtain ⟨rfl, ⟨fs8, gb⟩, g8⟩ := hq
  refine x_istore C (ls' := [some (.ref sb), some (.ref (ad 0)), some (.ref b), some (.ref o), some (vi 0), some (vi 1), some (vi 0), none, none]) dL_law_1634 (by decide) rfl ?_
  refine x_aload_n C dL_law_1636 rfl rfl ?_
  refine x_invV C s_Law_97 (st := []) (c_Mo_thrown gb) gb rfl rfl (Nat.le_of_ble_eq_true rfl) (xRm_of hR (by omega) (by decide) (by omega) (by omega)) dL_law_1637 (fun r9 h7 hq => ?_)
  obtain ⟨rfl, e9⟩ := hq
  have e9 := e9.symm
  subst e9
  refine x_iload C dL_law_1640 rfl ?_
  refine x_icmp_eq C (tgt := 1647) dL_law_1642 (by decide) (by decide) (by decide) (fun c1642 => ?_) (fun c1642 => ?_)
  · skip
    refine x_iload C dL_law_1647 rfl ?_
    refine x_if_ne C (tgt := 1664) dL_law_1649 (by decide) (by decide) (fun c1649 => ?_) (fun c1649 => ?_)
    · skip
      refine x_goto C (tgt := 1818) dL_law_1664 (by decide) ?_
      refine X.sub (ls' := [some (.ref sb), some (.ref (ad 0)), some (.ref b), some (.ref o), some (vi 0), none, none, none, none]) (sub_cons (Or.inr rfl) (sub_cons (Or.inr rfl) (sub_cons (Or.inr rfl) (sub_cons (Or.inr rfl) (sub_cons (Or.inr rfl) (sub_cons (Or.inl rfl) (sub_cons (Or.inl rfl) (sub_cons (Or.inl rfl) (sub_cons (Or.inl rfl) sub_nil))))))))) ?_
      exact kk h8 _ _ (by omega) (by omega)
    · skip
      exact absurd c1649 (by decide)
  · skip
    exact absurd rfl c1642

set_option maxRecDepth 100000 in
set_option maxHeartbeats 4000000 in
theorem law_totalWith_ok {G : xG} {K : xK} {h : PH} {ad : Nat → Nat} {fq : Bool} {sb b o a1 a2 a3 a4 a5 a6 a7 a8 bt L cells slots mc9 ms9 : Nat} {go : Nat → Int64} {xs : Nat → Int32} (C : xC G K "TablatureLaw" code 9) (hR : xGe K 200 mc9 ms9) (hrm : 100000 ≤ mc9 ∧ 1000000 ≤ ms9) (T : xTS G (ks K) (ks K).heap) (hj : ∀ i j, i < 300 → j < 300 → ad i = ad j → i = j) (TT : TabR G h ad fq Q0 P0) (hB : h b = (xO 8 [vi 0, vi 0, .ref a1, .ref a2, vi 0, vi 3, vi 0, .ref a3, .ref a4, .ref a5, .ref a6, .ref a7, .ref a8, vi 0, vi 0, .ref bt])) (hO : h o = xL G 1 go) (hA1 : h a1 = xI G 6 (fun _ => 0)) (hA3 : h a3 = xQ G 3 12 (fun _ => none)) (hA4 : h a4 = xI G 12 (fun _ => 0)) (hA5 : h a5 = xZ G 12 (fun _ => false)) (n45 : a4 ≠ a5) (hn : ∀ i, own i → b ≠ ad i ∧ o ≠ ad i ∧ a1 ≠ ad i ∧ a3 ≠ ad i ∧ a4 ≠ ad i ∧ a5 ≠ ad i) (hX : va_X sb L xs (ks K) (ks K).heap) (hbl : sb < gN G) (hbs : sb < (ks K).heap.size) (hL : L = 6) (hc : cells ≤ 1000) (hs : slots ≤ 10000) (kk : ∀ (h' : PH) (c9 s9 : Nat), c9 ≤ 2000 → s9 ≤ 20000 → X G K 9 1818 [some (.ref sb), some (.ref (ad 0)), some (.ref b), some (.ref o), some (vi 0), none, none, none, none] [] h' c9 s9) (hv : 0 ≤ (xs 1).toInt ∧ (xs 1).toInt ≤ 7) (hw : 1 ≤ (xs 2).toInt ∧ (xs 2).toInt ≤ 6) : X G K 9 1599 [some (.ref sb), some (.ref (ad 0)), some (.ref b), some (.ref o), some (vi 0), none, none, none, none] [] h cells slots := by
  obtain ⟨tq, -, tt, -, -⟩ := id TT.1
  have hnb := fun i hi => (hn i hi).1
  have hno := fun i hi => (hn i hi).2.1
  have hna := fun i hi => (hn i hi).2.2
  refine x_aload_n C dL_law_1599 rfl rfl ?_
  refine x_aload_n C dL_law_1600 rfl rfl ?_
  refine x_iload C dL_law_1601 rfl ?_
  refine x_iconst C dL_law_1603 ?_
  refine x_iadd C dL_law_1604 ?_
  refine x_sld C hX hbl hbs (v := (xs 1).toInt) ⟨by omega, by omega, by omega⟩ (I_of _).symm dL_law_1605 ?_
  refine x_aload_n C dL_law_1606 rfl rfl ?_
  refine x_iload C dL_law_1607 rfl ?_
  refine x_iconst C dL_law_1609 ?_
  refine x_iadd C dL_law_1610 ?_
  refine x_sld C hX hbl hbs (v := (xs 2).toInt) ⟨by omega, by omega, by omega⟩ (I_of _).symm dL_law_1611 ?_
  refine x_aload_n C dL_law_1612 rfl rfl ?_
  refine x_invSH C T sh_173 (st := []) (c_H_totalWith_ok tt (z := -1) (PP := frO ad h) (c0_totalWith hj TT hv hw) (fun h1 p1 => (p1 _ hno).trans hO)) rfl rfl (Nat.le_of_ble_eq_true rfl) (xRm_of hR (by omega) (by decide) (by omega) (by omega)) dL_law_1613 (fun r9 h9 hq => ?_)
  obtain ⟨rfl, h1, p1, rfl⟩ := hq
  refine x_istore C (ls' := [some (.ref sb), some (.ref (ad 0)), some (.ref b), some (.ref o), some (vi 0), some (vi 0), none, none, none]) dL_law_1616 (by decide) rfl ?_
  refine x_aload_n C dL_law_1618 rfl rfl ?_
  refine x_aload_n C dL_law_1619 rfl rfl ?_
  refine x_iload C dL_law_1620 rfl ?_
  refine x_iconst C dL_law_1622 ?_
  refine x_iadd C dL_law_1623 ?_
  refine x_sld C hX hbl hbs (v := (xs 1).toInt) ⟨by omega, by omega, by omega⟩ (I_of _).symm dL_law_1624 ?_
  refine x_aload_n C dL_law_1625 rfl rfl ?_
  refine x_iload C dL_law_1626 rfl ?_
  refine x_iconst C dL_law_1628 ?_
  refine x_iadd C dL_law_1629 ?_
  refine x_sld C hX hbl hbs (v := (xs 2).toInt) ⟨by omega, by omega, by omega⟩ (I_of _).symm dL_law_1630 ?_
  refine x_invV C s_Law_175 (st := []) (c_Mo_totalWith_ok ((up_n (ne_k ((p1 _ (hnb)).trans hB) ((p1 _ (hno)).trans hO) (knn rfl))).trans ((p1 _ (hnb)).trans hB)) up_s (v := (xs 1).toInt) (w1 := (xs 2).toInt) hv hw) ((up_n (ne_k ((p1 _ (hnb)).trans hB) ((p1 _ (hno)).trans hO) (knn rfl))).trans ((p1 _ (hnb)).trans hB)) rfl rfl (Nat.le_of_ble_eq_true rfl) (xRm_of hR (by omega) (by decide) (by omega) (by omega)) dL_law_1631 (fun r9 h8 hq => ?_)
  obtain ⟨rfl, ⟨fs8, gb⟩, g8⟩ := hq
  refine x_istore C (ls' := [some (.ref sb), some (.ref (ad 0)), some (.ref b), some (.ref o), some (vi 0), some (vi 0), some (vi (-1)), none, none]) dL_law_1634 (by decide) rfl ?_
  refine x_aload_n C dL_law_1636 rfl rfl ?_
  refine x_invV C s_Law_97 (st := []) (c_Mo_thrown gb) gb rfl rfl (Nat.le_of_ble_eq_true rfl) (xRm_of hR (by omega) (by decide) (by omega) (by omega)) dL_law_1637 (fun r9 h7 hq => ?_)
  obtain ⟨rfl, e9⟩ := hq
  have e9 := e9.symm
  subst e9
  refine x_iload C dL_law_1640 rfl ?_
  refine x_icmp_eq C (tgt := 1647) dL_law_1642 (by decide) (by decide) (by decide) (fun c1642 => ?_) (fun c1642 => ?_)
  · skip
    refine x_iload C dL_law_1647 rfl ?_
    refine x_if_ne C (tgt := 1664) dL_law_1649 (by decide) (by decide) (fun c1649 => ?_) (fun c1649 => ?_)
    · skip
      exact absurd rfl c1649
    · skip
      refine x_aload_n C dL_law_1652 rfl rfl ?_
      refine x_iconst C dL_law_1653 ?_
      refine x_lald C g8 ⟨by omega, by omega, by omega⟩ dL_law_1654 ?_
      refine x_iload C dL_law_1655 rfl ?_
      refine x_i2l C dL_law_1657 ?_
      refine x_lcmpQ C (vpu_s _ _ _) dL_law_1658 ?_
      refine x_if_eq C (tgt := 1664) dL_law_1659 (by decide) (by decide) (fun c1659 => ?_) (fun c1659 => ?_)
      · skip
        refine x_goto C (tgt := 1818) dL_law_1664 (by decide) ?_
        refine X.sub (ls' := [some (.ref sb), some (.ref (ad 0)), some (.ref b), some (.ref o), some (vi 0), none, none, none, none]) (sub_cons (Or.inr rfl) (sub_cons (Or.inr rfl) (sub_cons (Or.inr rfl) (sub_cons (Or.inr rfl) (sub_cons (Or.inr rfl) (sub_cons (Or.inl rfl) (sub_cons (Or.inl rfl) (sub_cons (Or.inl rfl) (sub_cons (Or.inl rfl) sub_nil))))))))) ?_
        exact kk h8 _ _ (by omega) (by omega)
      · skip
        exact absurd rfl c1659
  · skip
    exact absurd rfl c1642

set_option maxRecDepth 100000 in
set_option maxHeartbeats 4000000 in
theorem law_bestCapo {G : xG} {K : xK} {h : PH} {ad : Nat → Nat} {fq : Bool} {sb b o a1 a2 a3 a4 a5 a6 a7 a8 bt L cells slots mc9 ms9 : Nat} {go : Nat → Int64} {xs : Nat → Int32} (C : xC G K "TablatureLaw" code 9) (hR : xGe K 200 mc9 ms9) (hrm : 100000 ≤ mc9 ∧ 1000000 ≤ ms9) (T : xTS G (ks K) (ks K).heap) (hj : ∀ i j, i < 300 → j < 300 → ad i = ad j → i = j) (TT : TabR G h ad fq Q0 P0) (hB : h b = (xO 8 [vi 0, vi 0, .ref a1, .ref a2, vi 0, vi 3, vi 0, .ref a3, .ref a4, .ref a5, .ref a6, .ref a7, .ref a8, vi 0, vi 0, .ref bt])) (hO : h o = xL G 1 go) (hA1 : h a1 = xI G 6 (fun _ => 0)) (hA3 : h a3 = xQ G 3 12 (fun _ => none)) (hA4 : h a4 = xI G 12 (fun _ => 0)) (hA5 : h a5 = xZ G 12 (fun _ => false)) (n45 : a4 ≠ a5) (hn : ∀ i, own i → b ≠ ad i ∧ o ≠ ad i ∧ a1 ≠ ad i ∧ a3 ≠ ad i ∧ a4 ≠ ad i ∧ a5 ≠ ad i) (hX : va_X sb L xs (ks K) (ks K).heap) (hbl : sb < gN G) (hbs : sb < (ks K).heap.size) (hL : L = 6) (hc : cells ≤ 1000) (hs : slots ≤ 10000) (kk : ∀ (h' : PH) (c9 s9 : Nat), c9 ≤ 2000 → s9 ≤ 20000 → X G K 9 1818 [some (.ref sb), some (.ref (ad 0)), some (.ref b), some (.ref o), some (vi 0), none, none, none, none] [] h' c9 s9)  : X G K 9 1667 [some (.ref sb), some (.ref (ad 0)), some (.ref b), some (.ref o), some (vi 0), none, none, none, none] [] h cells slots := by
  obtain ⟨tq, -, tt, -, -⟩ := id TT.1
  have hnb := fun i hi => (hn i hi).1
  have hno := fun i hi => (hn i hi).2.1
  have hna := fun i hi => (hn i hi).2.2
  refine x_aload_n C dL_law_1667 rfl rfl ?_
  refine x_invV C s_Law_176 (st := []) (c0_bestCapo hj TT) tt rfl rfl (Nat.le_of_ble_eq_true rfl) (xRm_of hR (by omega) (by decide) (by omega) (by omega)) dL_law_1668 (fun r9 h9 hq => ?_)
  obtain ⟨rfl, p1⟩ := hq
  refine x_aload_n C dL_law_1671 rfl rfl ?_
  refine x_invV C s_Law_179 (st := [vi (-1)]) (c_Mo_bestCapo ((p1 _ (hnb)).trans hB) ((p1 _ (hno)).trans hO)) ((p1 _ (hnb)).trans hB) rfl rfl (Nat.le_of_ble_eq_true rfl) (xRm_of hR (by omega) (by decide) (by omega) (by omega)) dL_law_1672 (fun r9 h8 hq => ?_)
  obtain ⟨rfl, ⟨fs8, gb⟩, g8⟩ := hq
  refine x_icmp_eq C (tgt := 1818) dL_law_1675 (by decide) (by decide) (by decide) (fun c1675 => ?_) (fun c1675 => ?_)
  · skip
    exact kk h8 _ _ (by omega) (by omega)
  · skip
    exact absurd rfl c1675

set_option maxRecDepth 100000 in
set_option maxHeartbeats 4000000 in
theorem law_totalWithout_no {G : xG} {K : xK} {h : PH} {ad : Nat → Nat} {fq : Bool} {sb b o a1 a2 a3 a4 a5 a6 a7 a8 bt L cells slots mc9 ms9 : Nat} {go : Nat → Int64} {xs : Nat → Int32} (C : xC G K "TablatureLaw" code 9) (hR : xGe K 200 mc9 ms9) (hrm : 100000 ≤ mc9 ∧ 1000000 ≤ ms9) (T : xTS G (ks K) (ks K).heap) (hj : ∀ i j, i < 300 → j < 300 → ad i = ad j → i = j) (TT : TabR G h ad fq Q0 P0) (hB : h b = (xO 8 [vi 0, vi 0, .ref a1, .ref a2, vi 0, vi 3, vi 0, .ref a3, .ref a4, .ref a5, .ref a6, .ref a7, .ref a8, vi 0, vi 0, .ref bt])) (hO : h o = xL G 1 go) (hA1 : h a1 = xI G 6 (fun _ => 0)) (hA3 : h a3 = xQ G 3 12 (fun _ => none)) (hA4 : h a4 = xI G 12 (fun _ => 0)) (hA5 : h a5 = xZ G 12 (fun _ => false)) (n45 : a4 ≠ a5) (hn : ∀ i, own i → b ≠ ad i ∧ o ≠ ad i ∧ a1 ≠ ad i ∧ a3 ≠ ad i ∧ a4 ≠ ad i ∧ a5 ≠ ad i) (hX : va_X sb L xs (ks K) (ks K).heap) (hbl : sb < gN G) (hbs : sb < (ks K).heap.size) (hL : L = 6) (hc : cells ≤ 1000) (hs : slots ≤ 10000) (kk : ∀ (h' : PH) (c9 s9 : Nat), c9 ≤ 2000 → s9 ≤ 20000 → X G K 9 1818 [some (.ref sb), some (.ref (ad 0)), some (.ref b), some (.ref o), some (vi 0), none, none, none, none] [] h' c9 s9)  : X G K 9 1680 [some (.ref sb), some (.ref (ad 0)), some (.ref b), some (.ref o), some (vi 0), none, none, none, none] [] h cells slots := by
  obtain ⟨tq, -, tt, -, -⟩ := id TT.1
  have hnb := fun i hi => (hn i hi).1
  have hno := fun i hi => (hn i hi).2.1
  have hna := fun i hi => (hn i hi).2.2
  refine x_aload_n C dL_law_1680 rfl rfl ?_
  refine x_aload_n C dL_law_1681 rfl rfl ?_
  refine x_iload C dL_law_1682 rfl ?_
  refine x_iconst C dL_law_1684 ?_
  refine x_iadd C dL_law_1685 ?_
  refine x_sld C hX hbl hbs (v := (xs 1).toInt) ⟨by omega, by omega, by omega⟩ (I_of _).symm dL_law_1686 ?_
  refine x_aload_n C dL_law_1687 rfl rfl ?_
  refine x_invSH C T sh_180 (st := []) (c_H_totalWithout_no tt (c_totalWithout_no hj TT (v := (xs 1).toInt) (I_bd (xs 1)) (by show ¬ (0 ≤ _ ∧ _ < (0 : Int)); omega))) rfl rfl (Nat.le_of_ble_eq_true rfl) (xRm_of hR (by omega) (by decide) (by omega) (by omega)) dL_law_1688 (fun r9 h9 hq => ?_)
  obtain ⟨rfl, e9⟩ := hq
  have e9 := e9.symm
  subst e9
  refine x_istore C (ls' := [some (.ref sb), some (.ref (ad 0)), some (.ref b), some (.ref o), some (vi 0), some (vi 1), none, none, none]) dL_law_1691 (by decide) rfl ?_
  refine x_aload_n C dL_law_1693 rfl rfl ?_
  refine x_aload_n C dL_law_1694 rfl rfl ?_
  refine x_iload C dL_law_1695 rfl ?_
  refine x_iconst C dL_law_1697 ?_
  refine x_iadd C dL_law_1698 ?_
  refine x_sld C hX hbl hbs (v := (xs 1).toInt) ⟨by omega, by omega, by omega⟩ (I_of _).symm dL_law_1699 ?_
  refine x_invV C s_Law_182 (st := []) (c_Mo_totalWithout hB hO (v := (xs 1).toInt) (I_bd (xs 1))) hB rfl rfl (Nat.le_of_ble_eq_true rfl) (xRm_of hR (by omega) (by decide) (by omega) (by omega)) dL_law_1700 (fun r9 h8 hq => ?_)
  obtain ⟨rfl, ⟨fs8, gb⟩, g8⟩ := hq
  refine x_istore C (ls' := [some (.ref sb), some (.ref (ad 0)), some (.ref b), some (.ref o), some (vi 0), some (vi 1), some (vi 0), none, none]) dL_law_1703 (by decide) rfl ?_
  refine x_aload_n C dL_law_1705 rfl rfl ?_
  refine x_invV C s_Law_97 (st := []) (c_Mo_thrown gb) gb rfl rfl (Nat.le_of_ble_eq_true rfl) (xRm_of hR (by omega) (by decide) (by omega) (by omega)) dL_law_1706 (fun r9 h7 hq => ?_)
  obtain ⟨rfl, e9⟩ := hq
  have e9 := e9.symm
  subst e9
  refine x_iload C dL_law_1709 rfl ?_
  refine x_icmp_eq C (tgt := 1716) dL_law_1711 (by decide) (by decide) (by decide) (fun c1711 => ?_) (fun c1711 => ?_)
  · skip
    refine x_iload C dL_law_1716 rfl ?_
    refine x_if_ne C (tgt := 1733) dL_law_1718 (by decide) (by decide) (fun c1718 => ?_) (fun c1718 => ?_)
    · skip
      refine x_goto C (tgt := 1818) dL_law_1733 (by decide) ?_
      refine X.sub (ls' := [some (.ref sb), some (.ref (ad 0)), some (.ref b), some (.ref o), some (vi 0), none, none, none, none]) (sub_cons (Or.inr rfl) (sub_cons (Or.inr rfl) (sub_cons (Or.inr rfl) (sub_cons (Or.inr rfl) (sub_cons (Or.inr rfl) (sub_cons (Or.inl rfl) (sub_cons (Or.inl rfl) (sub_cons (Or.inl rfl) (sub_cons (Or.inl rfl) sub_nil))))))))) ?_
      exact kk h8 _ _ (by omega) (by omega)
    · skip
      exact absurd c1718 (by decide)
  · skip
    exact absurd rfl c1711

set_option maxRecDepth 100000 in
set_option maxHeartbeats 4000000 in
theorem law_totalFixed_no {G : xG} {K : xK} {h : PH} {ad : Nat → Nat} {fq : Bool} {sb b o a1 a2 a3 a4 a5 a6 a7 a8 bt L cells slots mc9 ms9 : Nat} {go : Nat → Int64} {xs : Nat → Int32} (C : xC G K "TablatureLaw" code 9) (hR : xGe K 200 mc9 ms9) (hrm : 100000 ≤ mc9 ∧ 1000000 ≤ ms9) (T : xTS G (ks K) (ks K).heap) (hj : ∀ i j, i < 300 → j < 300 → ad i = ad j → i = j) (TT : TabR G h ad fq Q0 P0) (hB : h b = (xO 8 [vi 0, vi 0, .ref a1, .ref a2, vi 0, vi 3, vi 0, .ref a3, .ref a4, .ref a5, .ref a6, .ref a7, .ref a8, vi 0, vi 0, .ref bt])) (hO : h o = xL G 1 go) (hA1 : h a1 = xI G 6 (fun _ => 0)) (hA3 : h a3 = xQ G 3 12 (fun _ => none)) (hA4 : h a4 = xI G 12 (fun _ => 0)) (hA5 : h a5 = xZ G 12 (fun _ => false)) (n45 : a4 ≠ a5) (hn : ∀ i, own i → b ≠ ad i ∧ o ≠ ad i ∧ a1 ≠ ad i ∧ a3 ≠ ad i ∧ a4 ≠ ad i ∧ a5 ≠ ad i) (hX : va_X sb L xs (ks K) (ks K).heap) (hbl : sb < gN G) (hbs : sb < (ks K).heap.size) (hL : L = 6) (hc : cells ≤ 1000) (hs : slots ≤ 10000) (kk : ∀ (h' : PH) (c9 s9 : Nat), c9 ≤ 2000 → s9 ≤ 20000 → X G K 9 1818 [some (.ref sb), some (.ref (ad 0)), some (.ref b), some (.ref o), some (vi 0), none, none, none, none] [] h' c9 s9)  : X G K 9 1736 [some (.ref sb), some (.ref (ad 0)), some (.ref b), some (.ref o), some (vi 0), none, none, none, none] [] h cells slots := by
  obtain ⟨tq, -, tt, -, -⟩ := id TT.1
  have hnb := fun i hi => (hn i hi).1
  have hno := fun i hi => (hn i hi).2.1
  have hna := fun i hi => (hn i hi).2.2
  refine x_aload_n C dL_law_1736 rfl rfl ?_
  refine x_aload_n C dL_law_1737 rfl rfl ?_
  refine x_iload C dL_law_1738 rfl ?_
  refine x_iconst C dL_law_1740 ?_
  refine x_iadd C dL_law_1741 ?_
  refine x_sld C hX hbl hbs (v := (xs 1).toInt) ⟨by omega, by omega, by omega⟩ (I_of _).symm dL_law_1742 ?_
  refine x_aload_n C dL_law_1743 rfl rfl ?_
  refine x_iload C dL_law_1744 rfl ?_
  refine x_iconst C dL_law_1746 ?_
  refine x_iadd C dL_law_1747 ?_
  refine x_sld C hX hbl hbs (v := (xs 2).toInt) ⟨by omega, by omega, by omega⟩ (I_of _).symm dL_law_1748 ?_
  refine x_aload_n C dL_law_1749 rfl rfl ?_
  refine x_invSH C T sh_183 (st := []) (c_H_totalFixed_no tt (c_totalFixed_no hj TT (v := (xs 1).toInt) (I_bd (xs 1)) (by show ¬ (0 ≤ _ ∧ _ < (0 : Int)); omega))) rfl rfl (Nat.le_of_ble_eq_true rfl) (xRm_of hR (by omega) (by decide) (by omega) (by omega)) dL_law_1750 (fun r9 h9 hq => ?_)
  obtain ⟨rfl, e9⟩ := hq
  have e9 := e9.symm
  subst e9
  refine x_istore C (ls' := [some (.ref sb), some (.ref (ad 0)), some (.ref b), some (.ref o), some (vi 0), some (vi 1), none, none, none]) dL_law_1753 (by decide) rfl ?_
  refine x_aload_n C dL_law_1755 rfl rfl ?_
  refine x_aload_n C dL_law_1756 rfl rfl ?_
  refine x_iload C dL_law_1757 rfl ?_
  refine x_iconst C dL_law_1759 ?_
  refine x_iadd C dL_law_1760 ?_
  refine x_sld C hX hbl hbs (v := (xs 1).toInt) ⟨by omega, by omega, by omega⟩ (I_of _).symm dL_law_1761 ?_
  refine x_aload_n C dL_law_1762 rfl rfl ?_
  refine x_iload C dL_law_1763 rfl ?_
  refine x_iconst C dL_law_1765 ?_
  refine x_iadd C dL_law_1766 ?_
  refine x_sld C hX hbl hbs (v := (xs 2).toInt) ⟨by omega, by omega, by omega⟩ (I_of _).symm dL_law_1767 ?_
  refine x_invV C s_Law_185 (st := []) (c_Mo_totalFixed hB hO (v := (xs 1).toInt) (w1 := (xs 2).toInt) (I_bd (xs 1))) hB rfl rfl (Nat.le_of_ble_eq_true rfl) (xRm_of hR (by omega) (by decide) (by omega) (by omega)) dL_law_1768 (fun r9 h8 hq => ?_)
  obtain ⟨rfl, ⟨fs8, gb⟩, g8⟩ := hq
  refine x_istore C (ls' := [some (.ref sb), some (.ref (ad 0)), some (.ref b), some (.ref o), some (vi 0), some (vi 1), some (vi 0), none, none]) dL_law_1771 (by decide) rfl ?_
  refine x_aload_n C dL_law_1773 rfl rfl ?_
  refine x_invV C s_Law_97 (st := []) (c_Mo_thrown gb) gb rfl rfl (Nat.le_of_ble_eq_true rfl) (xRm_of hR (by omega) (by decide) (by omega) (by omega)) dL_law_1774 (fun r9 h7 hq => ?_)
  obtain ⟨rfl, e9⟩ := hq
  have e9 := e9.symm
  subst e9
  refine x_iload C dL_law_1777 rfl ?_
  refine x_icmp_eq C (tgt := 1784) dL_law_1779 (by decide) (by decide) (by decide) (fun c1779 => ?_) (fun c1779 => ?_)
  · skip
    refine x_iload C dL_law_1784 rfl ?_
    refine x_if_ne C (tgt := 1801) dL_law_1786 (by decide) (by decide) (fun c1786 => ?_) (fun c1786 => ?_)
    · skip
      refine x_goto C (tgt := 1818) dL_law_1801 (by decide) ?_
      refine X.sub (ls' := [some (.ref sb), some (.ref (ad 0)), some (.ref b), some (.ref o), some (vi 0), none, none, none, none]) (sub_cons (Or.inr rfl) (sub_cons (Or.inr rfl) (sub_cons (Or.inr rfl) (sub_cons (Or.inr rfl) (sub_cons (Or.inr rfl) (sub_cons (Or.inl rfl) (sub_cons (Or.inl rfl) (sub_cons (Or.inl rfl) (sub_cons (Or.inl rfl) sub_nil))))))))) ?_
      exact kk h8 _ _ (by omega) (by omega)
    · skip
      exact absurd c1786 (by decide)
  · skip
    exact absurd rfl c1779

set_option maxRecDepth 100000 in
set_option maxHeartbeats 4000000 in
theorem law_digest {G : xG} {K : xK} {h : PH} {ad : Nat → Nat} {fq : Bool} {sb b o a1 a2 a3 a4 a5 a6 a7 a8 bt L cells slots mc9 ms9 : Nat} {go : Nat → Int64} {xs : Nat → Int32} (C : xC G K "TablatureLaw" code 9) (hR : xGe K 200 mc9 ms9) (hrm : 100000 ≤ mc9 ∧ 1000000 ≤ ms9) (T : xTS G (ks K) (ks K).heap) (hj : ∀ i j, i < 300 → j < 300 → ad i = ad j → i = j) (TT : TabR G h ad fq Q0 P0) (hB : h b = (xO 8 [vi 0, vi 0, .ref a1, .ref a2, vi 0, vi 3, vi 0, .ref a3, .ref a4, .ref a5, .ref a6, .ref a7, .ref a8, vi 0, vi 0, .ref bt])) (hO : h o = xL G 1 go) (hA1 : h a1 = xI G 6 (fun _ => 0)) (hA3 : h a3 = xQ G 3 12 (fun _ => none)) (hA4 : h a4 = xI G 12 (fun _ => 0)) (hA5 : h a5 = xZ G 12 (fun _ => false)) (n45 : a4 ≠ a5) (hn : ∀ i, own i → b ≠ ad i ∧ o ≠ ad i ∧ a1 ≠ ad i ∧ a3 ≠ ad i ∧ a4 ≠ ad i ∧ a5 ≠ ad i) (hX : va_X sb L xs (ks K) (ks K).heap) (hbl : sb < gN G) (hbs : sb < (ks K).heap.size) (hL : L = 6) (hc : cells ≤ 1000) (hs : slots ≤ 10000) (kk : ∀ (h' : PH) (c9 s9 : Nat), c9 ≤ 2000 → s9 ≤ 20000 → X G K 9 1818 [some (.ref sb), some (.ref (ad 0)), some (.ref b), some (.ref o), some (vi 0), none, none, none, none] [] h' c9 s9)  : X G K 9 1804 [some (.ref sb), some (.ref (ad 0)), some (.ref b), some (.ref o), some (vi 0), none, none, none, none] [] h cells slots := by
  obtain ⟨tq, -, tt, -, -⟩ := id TT.1
  have hnb := fun i hi => (hn i hi).1
  have hno := fun i hi => (hn i hi).2.1
  have hna := fun i hi => (hn i hi).2.2
  refine x_aload_n C dL_law_1804 rfl rfl ?_
  refine x_invV C s_Law_186 (st := []) (c0_digest hj TT) tt rfl rfl (Nat.le_of_ble_eq_true rfl) (xRm_of hR (by omega) (by decide) (by omega) (by omega)) dL_law_1805 (fun r9 h9 hq => ?_)
  obtain ⟨rfl, p1⟩ := hq
  refine x_aload_n C dL_law_1808 rfl rfl ?_
  refine x_invV C s_Law_190 (st := [.long (mAll 0 3)]) (c_Mo_digest ((p1 _ (hnb)).trans hB) ((p1 _ (hno)).trans hO)) ((p1 _ (hnb)).trans hB) rfl rfl (Nat.le_of_ble_eq_true rfl) (xRm_of hR (by omega) (by decide) (by omega) (by omega)) dL_law_1809 (fun r9 h8 hq => ?_)
  obtain ⟨rfl, g8⟩ := hq
  refine x_lcmpQ C (rfl) dL_law_1812 ?_
  refine x_if_eq C (tgt := 1818) dL_law_1813 (by decide) (by decide) (fun c1813 => ?_) (fun c1813 => ?_)
  · skip
    exact kk h8 _ _ (by omega) (by omega)
  · skip
    exact absurd rfl c1813
