theorem bR_t {p m : Nat} (h : p < m) (hm : p < 2 ^ 31) : bR (nI p) m = true := bR_true.mpr (by unfold inR; rw [nI_toInt hm]; omega)
section ZL4
variable {G : zG} {h2 : zF} {a c n i : Nat} {I B P J J' : Nat → Nat} {A X X' V : Nat → Nat → Nat} {L : zSh} {u : Nat × Nat} {Q : zQ}
theorem l_write (hI : lI h2 a c n I A P J X X' L V) (hi : i + 4 ≤ G.2.2.2.1.2.1) (hG : G.2.2.2.1.2.1 ≤ 256) (hu : u.1 + 3 ≤ 600000 ∧ u.2 + 15120 ≤ 7302250) (K : lGo G a c i u Q) : zEx G ML_law 20 600000 7302250 168 (lV G c a i) [] (hp h2 a I A B (P 1) J' X' L V) n u Q := by
  have hL := hI.2.1
  have hV := hI.2.2.2.1
  have hT := hI.tr (B := B) (J' := J')
  have f := hV.ft
  have p4 := f.p4
  have hn := hI.2.2.2.2.2.2.1
  have hb := hI.bd
  have h20 := hI.2.2.2.2.2.2.2.2
  refine x_aload_n dL_law_168 rfl ?_
  refine x_aload_n dL_law_169 rfl ?_
  refine x_iload_n dL_law_170 rfl ?_
  refine x_iconst (v := nI 1) dL_law_171 (by decide) ?_
  refine n_iadd dL_law_172 ?_
  refine l_sld dL_law_173 (by omega) hG ?_
  refine x_cVI1 dL_law_174 lkL_13 mdX7_write isX7_write rfl rfl (g_c hL.1) (by decide) (k_write hL hV) (Nat.le_of_ble_eq_true rfl) ⟨by omega, by omega⟩ ?_
  rintro v h' ⟨I1, A1, r1, V1, rfl, kv1⟩
  refine x_aload_n dL_law_177 rfl ?_
  refine x_aload_n dL_law_178 rfl ?_
  refine x_iload_n dL_law_179 rfl ?_
  refine x_iconst (v := nI 1) dL_law_180 (by decide) ?_
  refine n_iadd dL_law_181 ?_
  refine l_sld dL_law_182 (by omega) hG ?_
  refine x_eqH (hp_m (V := V1) hn hb.2) ?_
  refine x_cVI1 dL_law_183 lkL_17 mdX8_write isX8_write rfl rfl mH_a (by decide) (c_writeM f.l2) (Nat.le_of_ble_eq_true rfl) ⟨by omega, by omega⟩ ?_
  intro w h'' hw
  have hz : ∃ I2 A2, rWr I A (G.2.2.2.1.2.2 (i + 1)) w I2 A2 ∧ h'' = mH (gH (tH h2 (P 1) J' X') L V1) a I2 A2 B := by
    rcases hw with ⟨q1, q2, q3⟩ | ⟨q1, q2, q3, q4⟩ | ⟨q1, c', q2, q3, q4, q5⟩
    · exact ⟨_, _, Or.inl ⟨q1, q2, rfl, rfl⟩, q3⟩
    · exact ⟨_, _, Or.inr (Or.inl ⟨q1, q2, q3, rfl, rfl⟩), q4⟩
    · exact ⟨_, _, Or.inr (Or.inr ⟨by rw [q3, nI_toInt (by omega)]; omega, q1, c', q2, q3, q4, rfl, rfl⟩), q5⟩
  obtain ⟨I2, A2, r2, rfl⟩ := hz
  have ee := rWr.one r1 r2
  obtain ⟨rfl, rfl, rfl⟩ := ee
  have e20 : A1 20 = A 20 := by rcases r1 with ⟨_, _, _, rfl⟩ | ⟨_, _, _, _, rfl⟩ | ⟨_, _, _, _, _, _, _, rfl⟩ <;> rfl
  refine x_eqH (hp_m (V := V1) hn hb.2).symm ?_
  refine x_icmp_eq (tgt := 957) dL_law_186 (by decide) (fun _ => ?_) (fun q => absurd rfl q)
  exact K.go (hI.ch kv1 (fun j => by rw [e20]; exact h20 j))
theorem l_wipe (hI : lI h2 a c n I A P J X X' L V) (hi : i + 4 ≤ G.2.2.2.1.2.1) (hG : G.2.2.2.1.2.1 ≤ 256) (hu : u.1 + 3 ≤ 600000 ∧ u.2 + 15120 ≤ 7302250) (K : lGo G a c i u Q) : zEx G ML_law 20 600000 7302250 191 (lV G c a i) [] (hp h2 a I A B (P 1) J' X' L V) n u Q := by
  have hL := hI.2.1
  have hV := hI.2.2.2.1
  have hT := hI.tr (B := B) (J' := J')
  have f := hV.ft
  have p4 := f.p4
  have hn := hI.2.2.2.2.2.2.1
  have hb := hI.bd
  have h20 := hI.2.2.2.2.2.2.2.2
  refine x_aload_n dL_law_191 rfl ?_
  refine x_cVI0 dL_law_192 lkL_18 mdX7_wipe isX7_wipe rfl rfl (g_c hL.1) (by decide) (k_wipe hL hV) (Nat.le_of_ble_eq_true rfl) ⟨by omega, by omega⟩ ?_
  rintro v h' ⟨rfl, V1, rfl, kv1⟩
  refine x_aload_n dL_law_195 rfl ?_
  refine x_eqH (hp_m (V := V1) hn hb.2) ?_
  refine x_cVI0 dL_law_196 lkL_22 mdX8_wipe isX8_wipe rfl rfl mH_a (by decide) (c_wipeM ) (Nat.le_of_ble_eq_true rfl) ⟨by omega, by omega⟩ ?_
  rintro w h'' ⟨rfl, rfl⟩
  refine x_eqH (hp_m (V := V1) hn hb.2).symm ?_
  refine x_icmp_eq (tgt := 957) dL_law_199 (by decide) (fun _ => ?_) (fun q => absurd rfl q)
  exact K.go (hI.ch kv1 h20)
theorem l_fault (hI : lI h2 a c n I A P J X X' L V) (hi : i + 4 ≤ G.2.2.2.1.2.1) (hG : G.2.2.2.1.2.1 ≤ 256) (hu : u.1 + 3 ≤ 600000 ∧ u.2 + 15120 ≤ 7302250) (K : lGo G a c i u Q) : zEx G ML_law 20 600000 7302250 204 (lV G c a i) [] (hp h2 a I A B (P 1) J' X' L V) n u Q := by
  have hL := hI.2.1
  have hV := hI.2.2.2.1
  have hT := hI.tr (B := B) (J' := J')
  have f := hV.ft
  have p4 := f.p4
  have hn := hI.2.2.2.2.2.2.1
  have hb := hI.bd
  have h20 := hI.2.2.2.2.2.2.2.2
  refine x_aload_n dL_law_204 rfl ?_
  refine x_cVI0 dL_law_205 lkL_23 mdX7_fault isX7_fault rfl rfl (g_c hL.1) (by decide) (k_fault hL hV hI.2.2.2.2.2.1) (Nat.le_of_ble_eq_true rfl) ⟨by omega, by omega⟩ ?_
  rintro v h' ⟨rfl, V1, J2, X2, rfl, kv1, x6⟩
  refine x_aload_n dL_law_208 rfl ?_
  refine x_eqH (hp_m (V := V1) hn hb.2) ?_
  refine x_cVI0 dL_law_209 lkL_26 mdX8_fault isX8_fault rfl rfl mH_a (by decide) (c_faultM f.l2 f.l1 h20) (Nat.le_of_ble_eq_true rfl) ⟨by omega, by omega⟩ ?_
  rintro w h'' ⟨s1, A1, rfl, h21, kk, hm⟩
  have hv : w = rdV (rdT (ltr I A) (I 0) 201 0 (T0m A)).1 := by
    revert hm
    cases (rdT (ltr I A) (I 0) 201 0 (T0m A)).1 with
    | none => exact fun h => h.1
    | some f => exact fun h => h
  subst hv
  have hI1 : lI h2 a c n (va_up I 23 s1) A1 P J X X2 L V1 := ⟨hI.1, hI.2.1, hI.2.2.1, kv1.kp kk rfl rfl rfl rfl, hI.2.2.2.2.1, x6, hn, hI.2.2.2.2.2.2.2.1, h21⟩
  refine x_eqH (hp_m (V := V1) hn hb.2).symm ?_
  refine x_icmp_eq (tgt := 957) dL_law_212 (by decide) (fun _ => ?_) (fun q => absurd rfl q)
  exact K.go hI1
theorem l_thing (hI : lI h2 a c n I A P J X X' L V) (hi : i + 4 ≤ G.2.2.2.1.2.1) (hG : G.2.2.2.1.2.1 ≤ 256) (hu : u.1 + 3 ≤ 600000 ∧ u.2 + 15120 ≤ 7302250) (K : lGo G a c i u Q) : zEx G ML_law 20 600000 7302250 230 (lV G c a i) [] (hp h2 a I A B (P 1) J' X' L V) n u Q := by
  have hL := hI.2.1
  have hV := hI.2.2.2.1
  have hT := hI.tr (B := B) (J' := J')
  have f := hV.ft
  have p4 := f.p4
  have hn := hI.2.2.2.2.2.2.1
  have hb := hI.bd
  have h20 := hI.2.2.2.2.2.2.2.2
  refine x_aload_n dL_law_230 rfl ?_
  refine x_aload_n dL_law_231 rfl ?_
  refine x_iload_n dL_law_232 rfl ?_
  refine x_iconst (v := nI 1) dL_law_233 (by decide) ?_
  refine n_iadd dL_law_234 ?_
  refine l_sld dL_law_235 (by omega) hG ?_
  refine x_aload_n dL_law_236 rfl ?_
  refine x_iload_n dL_law_237 rfl ?_
  refine x_iconst (v := nI 2) dL_law_238 (by decide) ?_
  refine n_iadd dL_law_239 ?_
  refine l_sld dL_law_240 (by omega) hG ?_
  refine x_cVi2 dL_law_241 lkL_31 mdX7_thing isX7_thing rfl rfl (g_c hL.1) (by decide) (k_thing hL hT hV) (Nat.le_of_ble_eq_true rfl) ⟨by omega, by omega⟩ ?_
  refine x_aload_n dL_law_244 rfl ?_
  refine x_aload_n dL_law_245 rfl ?_
  refine x_iload_n dL_law_246 rfl ?_
  refine x_iconst (v := nI 1) dL_law_247 (by decide) ?_
  refine n_iadd dL_law_248 ?_
  refine l_sld dL_law_249 (by omega) hG ?_
  refine x_aload_n dL_law_250 rfl ?_
  refine x_iload_n dL_law_251 rfl ?_
  refine x_iconst (v := nI 2) dL_law_252 (by decide) ?_
  refine n_iadd dL_law_253 ?_
  refine l_sld dL_law_254 (by omega) hG ?_
  refine x_eqH (hp_m (V := V) hn hb.2) ?_
  refine x_cVi2 dL_law_255 lkL_35 mdX8_thing isX8_thing rfl rfl mH_a (by decide) (c_thingM f.t1 f.t8 f.p4) (Nat.le_of_ble_eq_true rfl) ⟨by omega, by omega⟩ ?_
  refine x_eqH (hp_m (V := V) hn hb.2).symm ?_
  refine x_icmp_eq (tgt := 957) dL_law_258 (by decide) (fun _ => ?_) (fun q => absurd rfl q)
  exact K.go hI
theorem l_parcel (hI : lI h2 a c n I A P J X X' L V) (hi : i + 4 ≤ G.2.2.2.1.2.1) (hG : G.2.2.2.1.2.1 ≤ 256) (hu : u.1 + 3 ≤ 600000 ∧ u.2 + 15120 ≤ 7302250) (K : lGo G a c i u Q) : zEx G ML_law 20 600000 7302250 263 (lV G c a i) [] (hp h2 a I A B (P 1) J' X' L V) n u Q := by
  have hL := hI.2.1
  have hV := hI.2.2.2.1
  have hT := hI.tr (B := B) (J' := J')
  have f := hV.ft
  have p4 := f.p4
  have hn := hI.2.2.2.2.2.2.1
  have hb := hI.bd
  have h20 := hI.2.2.2.2.2.2.2.2
  refine x_aload_n dL_law_263 rfl ?_
  refine x_aload_n dL_law_264 rfl ?_
  refine x_iload_n dL_law_265 rfl ?_
  refine x_iconst (v := nI 1) dL_law_266 (by decide) ?_
  refine n_iadd dL_law_267 ?_
  refine l_sld dL_law_268 (by omega) hG ?_
  refine x_aload_n dL_law_269 rfl ?_
  refine x_iload_n dL_law_270 rfl ?_
  refine x_iconst (v := nI 2) dL_law_271 (by decide) ?_
  refine n_iadd dL_law_272 ?_
  refine l_sld dL_law_273 (by omega) hG ?_
  refine x_cVi2 dL_law_274 lkL_36 mdX7_parcel isX7_parcel rfl rfl (g_c hL.1) (by decide) (k_parcel hL hT hV) (Nat.le_of_ble_eq_true rfl) ⟨by omega, by omega⟩ ?_
  refine x_aload_n dL_law_277 rfl ?_
  refine x_aload_n dL_law_278 rfl ?_
  refine x_iload_n dL_law_279 rfl ?_
  refine x_iconst (v := nI 1) dL_law_280 (by decide) ?_
  refine n_iadd dL_law_281 ?_
  refine l_sld dL_law_282 (by omega) hG ?_
  refine x_aload_n dL_law_283 rfl ?_
  refine x_iload_n dL_law_284 rfl ?_
  refine x_iconst (v := nI 2) dL_law_285 (by decide) ?_
  refine n_iadd dL_law_286 ?_
  refine l_sld dL_law_287 (by omega) hG ?_
  refine x_eqH (hp_m (V := V) hn hb.2) ?_
  refine x_cVi2 dL_law_288 lkL_39 mdX8_parcel isX8_parcel rfl rfl mH_a (by decide) (c_parcelM f.p1 f.p4) (Nat.le_of_ble_eq_true rfl) ⟨by omega, by omega⟩ ?_
  refine x_eqH (hp_m (V := V) hn hb.2).symm ?_
  refine x_icmp_eq (tgt := 957) dL_law_291 (by decide) (fun _ => ?_) (fun q => absurd rfl q)
  exact K.go hI
theorem l_world (hI : lI h2 a c n I A P J X X' L V) (hi : i + 4 ≤ G.2.2.2.1.2.1) (hG : G.2.2.2.1.2.1 ≤ 256) (hu : u.1 + 3 ≤ 600000 ∧ u.2 + 15120 ≤ 7302250) (K : lGo G a c i u Q) : zEx G ML_law 20 600000 7302250 296 (lV G c a i) [] (hp h2 a I A B (P 1) J' X' L V) n u Q := by
  have hL := hI.2.1
  have hV := hI.2.2.2.1
  have hT := hI.tr (B := B) (J' := J')
  have f := hV.ft
  have p4 := f.p4
  have hn := hI.2.2.2.2.2.2.1
  have hb := hI.bd
  have h20 := hI.2.2.2.2.2.2.2.2
  refine x_aload_n dL_law_296 rfl ?_
  refine x_aload_n dL_law_297 rfl ?_
  refine x_iload_n dL_law_298 rfl ?_
  refine x_iconst (v := nI 1) dL_law_299 (by decide) ?_
  refine n_iadd dL_law_300 ?_
  refine l_sld dL_law_301 (by omega) hG ?_
  refine x_aload_n dL_law_302 rfl ?_
  refine x_iload_n dL_law_303 rfl ?_
  refine x_iconst (v := nI 2) dL_law_304 (by decide) ?_
  refine n_iadd dL_law_305 ?_
  refine l_sld dL_law_306 (by omega) hG ?_
  refine x_cVi2 dL_law_307 lkL_40 mdX7_world isX7_world rfl rfl (g_c hL.1) (by decide) (k_world hL hT hV) (Nat.le_of_ble_eq_true rfl) ⟨by omega, by omega⟩ ?_
  refine x_aload_n dL_law_310 rfl ?_
  refine x_aload_n dL_law_311 rfl ?_
  refine x_iload_n dL_law_312 rfl ?_
  refine x_iconst (v := nI 1) dL_law_313 (by decide) ?_
  refine n_iadd dL_law_314 ?_
  refine l_sld dL_law_315 (by omega) hG ?_
  refine x_aload_n dL_law_316 rfl ?_
  refine x_iload_n dL_law_317 rfl ?_
  refine x_iconst (v := nI 2) dL_law_318 (by decide) ?_
  refine n_iadd dL_law_319 ?_
  refine l_sld dL_law_320 (by omega) hG ?_
  refine x_eqH (hp_m (V := V) hn hb.2) ?_
  refine x_cVi2 dL_law_321 lkL_43 mdX8_world isX8_world rfl rfl mH_a (by decide) (c_worldM f.p1 f.p4 f.w5) (Nat.le_of_ble_eq_true rfl) ⟨by omega, by omega⟩ ?_
  refine x_eqH (hp_m (V := V) hn hb.2).symm ?_
  refine x_icmp_eq (tgt := 957) dL_law_324 (by decide) (fun _ => ?_) (fun q => absurd rfl q)
  exact K.go hI
theorem l_answer (hI : lI h2 a c n I A P J X X' L V) (hi : i + 4 ≤ G.2.2.2.1.2.1) (hG : G.2.2.2.1.2.1 ≤ 256) (hu : u.1 + 3 ≤ 600000 ∧ u.2 + 15120 ≤ 7302250) (K : lGo G a c i u Q) : zEx G ML_law 20 600000 7302250 329 (lV G c a i) [] (hp h2 a I A B (P 1) J' X' L V) n u Q := by
  have hL := hI.2.1
  have hV := hI.2.2.2.1
  have hT := hI.tr (B := B) (J' := J')
  have f := hV.ft
  have p4 := f.p4
  have hn := hI.2.2.2.2.2.2.1
  have hb := hI.bd
  have h20 := hI.2.2.2.2.2.2.2.2
  refine x_aload_n dL_law_329 rfl ?_
  refine x_aload_n dL_law_330 rfl ?_
  refine x_iload_n dL_law_331 rfl ?_
  refine x_iconst (v := nI 1) dL_law_332 (by decide) ?_
  refine n_iadd dL_law_333 ?_
  refine l_sld dL_law_334 (by omega) hG ?_
  refine x_aload_n dL_law_335 rfl ?_
  refine x_iload_n dL_law_336 rfl ?_
  refine x_iconst (v := nI 2) dL_law_337 (by decide) ?_
  refine n_iadd dL_law_338 ?_
  refine l_sld dL_law_339 (by omega) hG ?_
  refine x_aload_n dL_law_340 rfl ?_
  refine x_iload_n dL_law_341 rfl ?_
  refine x_iconst (v := nI 3) dL_law_342 (by decide) ?_
  refine n_iadd dL_law_343 ?_
  refine l_sld dL_law_344 (by omega) hG ?_
  refine x_cVi3 dL_law_345 lkL_44 mdX7_answer isX7_answer rfl rfl (g_c hL.1) (by decide) (k_answer hL hT hV) (Nat.le_of_ble_eq_true rfl) ⟨by omega, by omega⟩ ?_
  refine x_aload_n dL_law_348 rfl ?_
  refine x_aload_n dL_law_349 rfl ?_
  refine x_iload_n dL_law_350 rfl ?_
  refine x_iconst (v := nI 1) dL_law_351 (by decide) ?_
  refine n_iadd dL_law_352 ?_
  refine l_sld dL_law_353 (by omega) hG ?_
  refine x_aload_n dL_law_354 rfl ?_
  refine x_iload_n dL_law_355 rfl ?_
  refine x_iconst (v := nI 2) dL_law_356 (by decide) ?_
  refine n_iadd dL_law_357 ?_
  refine l_sld dL_law_358 (by omega) hG ?_
  refine x_aload_n dL_law_359 rfl ?_
  refine x_iload_n dL_law_360 rfl ?_
  refine x_iconst (v := nI 3) dL_law_361 (by decide) ?_
  refine n_iadd dL_law_362 ?_
  refine l_sld dL_law_363 (by omega) hG ?_
  refine x_eqH (hp_m (V := V) hn hb.2) ?_
  refine x_cVi3 dL_law_364 lkL_48 mdX8_answer isX8_answer rfl rfl mH_a (by decide) (c_answerM f.tr f.p1) (Nat.le_of_ble_eq_true rfl) ⟨by omega, by omega⟩ ?_
  refine x_eqH (hp_m (V := V) hn hb.2).symm ?_
  refine x_icmp_eq (tgt := 957) dL_law_367 (by decide) (fun _ => ?_) (fun q => absurd rfl q)
  exact K.go hI
theorem l_attempt (hI : lI h2 a c n I A P J X X' L V) (hi : i + 4 ≤ G.2.2.2.1.2.1) (hG : G.2.2.2.1.2.1 ≤ 256) (hu : u.1 + 3 ≤ 600000 ∧ u.2 + 15120 ≤ 7302250) (K : lGo G a c i u Q) : zEx G ML_law 20 600000 7302250 372 (lV G c a i) [] (hp h2 a I A B (P 1) J' X' L V) n u Q := by
  have hL := hI.2.1
  have hV := hI.2.2.2.1
  have hT := hI.tr (B := B) (J' := J')
  have f := hV.ft
  have p4 := f.p4
  have hn := hI.2.2.2.2.2.2.1
  have hb := hI.bd
  have h20 := hI.2.2.2.2.2.2.2.2
  refine x_aload_n dL_law_372 rfl ?_
  refine x_aload_n dL_law_373 rfl ?_
  refine x_iload_n dL_law_374 rfl ?_
  refine x_iconst (v := nI 1) dL_law_375 (by decide) ?_
  refine n_iadd dL_law_376 ?_
  refine l_sld dL_law_377 (by omega) hG ?_
  refine x_aload_n dL_law_378 rfl ?_
  refine x_iload_n dL_law_379 rfl ?_
  refine x_iconst (v := nI 2) dL_law_380 (by decide) ?_
  refine n_iadd dL_law_381 ?_
  refine l_sld dL_law_382 (by omega) hG ?_
  refine x_cVI2 dL_law_383 lkL_49 mdX7_attempt isX7_attempt rfl rfl (g_c hL.1) (by decide) (k_attempt hL hT hV) (Nat.le_of_ble_eq_true rfl) ⟨by omega, by omega⟩ ?_
  rintro v h' ⟨I1, A1, r1, V1, rfl, kv1⟩
  refine x_aload_n dL_law_386 rfl ?_
  refine x_aload_n dL_law_387 rfl ?_
  refine x_iload_n dL_law_388 rfl ?_
  refine x_iconst (v := nI 1) dL_law_389 (by decide) ?_
  refine n_iadd dL_law_390 ?_
  refine l_sld dL_law_391 (by omega) hG ?_
  refine x_aload_n dL_law_392 rfl ?_
  refine x_iload_n dL_law_393 rfl ?_
  refine x_iconst (v := nI 2) dL_law_394 (by decide) ?_
  refine n_iadd dL_law_395 ?_
  refine l_sld dL_law_396 (by omega) hG ?_
  refine x_eqH (hp_m (V := V1) hn hb.2) ?_
  refine x_cVI2 dL_law_397 lkL_52 mdX8_attempt isX8_attempt rfl rfl mH_a (by decide) (c_attemptM f.tr f.p1 f.u8 f.sk.1 f.s2 f.s9) (Nat.le_of_ble_eq_true rfl) ⟨by omega, by omega⟩ ?_
  intro w h'' hw
  have hz : ∃ I2 A2, rAt I A (G.2.2.2.1.2.2 (i + 1)) (G.2.2.2.1.2.2 (i + 2)) w I2 A2 ∧ h'' = mH (gH (tH h2 (P 1) J' X') L V1) a I2 A2 B := by
    rcases hw with ⟨q1, q2, q3⟩ | ⟨q1, q2, q3, q4⟩ | ⟨q1, p, so, q2, q3, q4, q5⟩
    · exact ⟨_, _, Or.inl ⟨q1, q2, rfl, rfl⟩, q3⟩
    · exact ⟨_, _, Or.inr (Or.inl ⟨q1, q2, q3, rfl, rfl⟩), q4⟩
    · exact ⟨_, _, Or.inr (Or.inr ⟨by rw [q3.1, q3.2, bR_t q2.1 (by omega), bR_t q2.2 (by omega)]; rfl, q1, p, so, q2, q3, q4, rfl, rfl⟩), q5⟩
  obtain ⟨I2, A2, r2, rfl⟩ := hz
  have ee := rAt.one f.p4 r1 r2
  obtain ⟨rfl, rfl, rfl⟩ := ee
  have e20 : A1 20 = A 20 := by rcases r1 with ⟨_, _, _, rfl⟩ | ⟨_, _, _, _, rfl⟩ | ⟨_, _, _, _, _, _, _, _, rfl⟩ <;> rfl
  refine x_eqH (hp_m (V := V1) hn hb.2).symm ?_
  refine x_icmp_eq (tgt := 957) dL_law_400 (by decide) (fun _ => ?_) (fun q => absurd rfl q)
  exact K.go (hI.ch kv1 (fun j => by rw [e20]; exact h20 j))
theorem l_hear (hI : lI h2 a c n I A P J X X' L V) (hi : i + 4 ≤ G.2.2.2.1.2.1) (hG : G.2.2.2.1.2.1 ≤ 256) (hu : u.1 + 3 ≤ 600000 ∧ u.2 + 15120 ≤ 7302250) (K : lGo G a c i u Q) : zEx G ML_law 20 600000 7302250 405 (lV G c a i) [] (hp h2 a I A B (P 1) J' X' L V) n u Q := by
  have hL := hI.2.1
  have hV := hI.2.2.2.1
  have hT := hI.tr (B := B) (J' := J')
  have f := hV.ft
  have p4 := f.p4
  have hn := hI.2.2.2.2.2.2.1
  have hb := hI.bd
  have h20 := hI.2.2.2.2.2.2.2.2
  refine x_aload_n dL_law_405 rfl ?_
  refine x_aload_n dL_law_406 rfl ?_
  refine x_iload_n dL_law_407 rfl ?_
  refine x_iconst (v := nI 1) dL_law_408 (by decide) ?_
  refine n_iadd dL_law_409 ?_
  refine l_sld dL_law_410 (by omega) hG ?_
  refine x_aload_n dL_law_411 rfl ?_
  refine x_iload_n dL_law_412 rfl ?_
  refine x_iconst (v := nI 2) dL_law_413 (by decide) ?_
  refine n_iadd dL_law_414 ?_
  refine l_sld dL_law_415 (by omega) hG ?_
  refine x_aload_n dL_law_416 rfl ?_
  refine x_iload_n dL_law_417 rfl ?_
  refine x_iconst (v := nI 3) dL_law_418 (by decide) ?_
  refine n_iadd dL_law_419 ?_
  refine l_sld dL_law_420 (by omega) hG ?_
  refine x_cVI3 dL_law_421 lkL_53 mdX7_hear isX7_hear rfl rfl (g_c hL.1) (by decide) (k_hear hL hT hV) (Nat.le_of_ble_eq_true rfl) ⟨by omega, by omega⟩ ?_
  rintro v h' ⟨I1, A1, r1, V1, rfl, kv1⟩
  refine x_aload_n dL_law_424 rfl ?_
  refine x_aload_n dL_law_425 rfl ?_
  refine x_iload_n dL_law_426 rfl ?_
  refine x_iconst (v := nI 1) dL_law_427 (by decide) ?_
  refine n_iadd dL_law_428 ?_
  refine l_sld dL_law_429 (by omega) hG ?_
  refine x_aload_n dL_law_430 rfl ?_
  refine x_iload_n dL_law_431 rfl ?_
  refine x_iconst (v := nI 2) dL_law_432 (by decide) ?_
  refine n_iadd dL_law_433 ?_
  refine l_sld dL_law_434 (by omega) hG ?_
  refine x_aload_n dL_law_435 rfl ?_
  refine x_iload_n dL_law_436 rfl ?_
  refine x_iconst (v := nI 3) dL_law_437 (by decide) ?_
  refine n_iadd dL_law_438 ?_
  refine l_sld dL_law_439 (by omega) hG ?_
  refine x_eqH (hp_m (V := V1) hn hb.2) ?_
  refine x_cVI3 dL_law_440 lkL_56 mdX8_hear isX8_hear rfl rfl mH_a (by decide) (c_hearM f.p1 f.p4 f.u8 f.sk.1) (Nat.le_of_ble_eq_true rfl) ⟨by omega, by omega⟩ ?_
  intro w h'' hw
  have hz : ∃ I2 A2, rHe I A (G.2.2.2.1.2.2 (i + 1)) (G.2.2.2.1.2.2 (i + 2)) (G.2.2.2.1.2.2 (i + 3)) w I2 A2 ∧ h'' = mH (gH (tH h2 (P 1) J' X') L V1) a I2 A2 B := by
    rcases hw with ⟨q1, q2, q3⟩ | ⟨q1, q2, q3, q4⟩ | ⟨q1, p, so, w', q2, q3, q4, q5⟩
    · exact ⟨_, _, Or.inl ⟨q1, q2, rfl, rfl⟩, q3⟩
    · exact ⟨_, _, Or.inr (Or.inl ⟨q1, q2, q3, rfl, rfl⟩), q4⟩
    · exact ⟨_, _, Or.inr (Or.inr ⟨by rw [q3.1, q3.2.1, q3.2.2, bR_t q2.1 (by omega), bR_t q2.2.1 (by omega), bR_t q2.2.2 (by omega)]; rfl, q1, p, so, w', q2, q3, q4, rfl, rfl⟩), q5⟩
  obtain ⟨I2, A2, r2, rfl⟩ := hz
  have ee := rHe.one f.p4 r1 r2
  obtain ⟨rfl, rfl, rfl⟩ := ee
  have e20 : A1 20 = A 20 := by rcases r1 with ⟨_, _, _, rfl⟩ | ⟨_, _, _, _, rfl⟩ | ⟨_, _, _, _, _, _, _, _, _, rfl⟩ <;> rfl
  refine x_eqH (hp_m (V := V1) hn hb.2).symm ?_
  refine x_icmp_eq (tgt := 957) dL_law_443 (by decide) (fun _ => ?_) (fun q => absurd rfl q)
  exact K.go (hI.ch kv1 (fun j => by rw [e20]; exact h20 j))
theorem l_change (hI : lI h2 a c n I A P J X X' L V) (hi : i + 4 ≤ G.2.2.2.1.2.1) (hG : G.2.2.2.1.2.1 ≤ 256) (hu : u.1 + 3 ≤ 600000 ∧ u.2 + 15120 ≤ 7302250) (K : lGo G a c i u Q) : zEx G ML_law 20 600000 7302250 448 (lV G c a i) [] (hp h2 a I A B (P 1) J' X' L V) n u Q := by
  have hL := hI.2.1
  have hV := hI.2.2.2.1
  have hT := hI.tr (B := B) (J' := J')
  have f := hV.ft
  have p4 := f.p4
  have hn := hI.2.2.2.2.2.2.1
  have hb := hI.bd
  have h20 := hI.2.2.2.2.2.2.2.2
  refine x_aload_n dL_law_448 rfl ?_
  refine x_aload_n dL_law_449 rfl ?_
  refine x_iload_n dL_law_450 rfl ?_
  refine x_iconst (v := nI 1) dL_law_451 (by decide) ?_
  refine n_iadd dL_law_452 ?_
  refine l_sld dL_law_453 (by omega) hG ?_
  refine x_aload_n dL_law_454 rfl ?_
  refine x_iload_n dL_law_455 rfl ?_
  refine x_iconst (v := nI 2) dL_law_456 (by decide) ?_
  refine n_iadd dL_law_457 ?_
  refine l_sld dL_law_458 (by omega) hG ?_
  refine x_cVI2 dL_law_459 lkL_57 mdX7_change isX7_change rfl rfl (g_c hL.1) (by decide) (k_change hL hT hV) (Nat.le_of_ble_eq_true rfl) ⟨by omega, by omega⟩ ?_
  rintro v h' ⟨I1, A1, r1, V1, rfl, kv1⟩
  refine x_aload_n dL_law_462 rfl ?_
  refine x_aload_n dL_law_463 rfl ?_
  refine x_iload_n dL_law_464 rfl ?_
  refine x_iconst (v := nI 1) dL_law_465 (by decide) ?_
  refine n_iadd dL_law_466 ?_
  refine l_sld dL_law_467 (by omega) hG ?_
  refine x_aload_n dL_law_468 rfl ?_
  refine x_iload_n dL_law_469 rfl ?_
  refine x_iconst (v := nI 2) dL_law_470 (by decide) ?_
  refine n_iadd dL_law_471 ?_
  refine l_sld dL_law_472 (by omega) hG ?_
  refine x_eqH (hp_m (V := V1) hn hb.2) ?_
  refine x_cVI2 dL_law_473 lkL_60 mdX8_change isX8_change rfl rfl mH_a (by decide) (c_changeM f.tr f.p1 f.u8) (Nat.le_of_ble_eq_true rfl) ⟨by omega, by omega⟩ ?_
  intro w h'' hw
  have hz : ∃ I2 A2, rCh I A (G.2.2.2.1.2.2 (i + 1)) (G.2.2.2.1.2.2 (i + 2)) w I2 A2 ∧ h'' = mH (gH (tH h2 (P 1) J' X') L V1) a I2 A2 B := by
    rcases hw with ⟨q1, q2, q3⟩ | ⟨p, q, q2, q3, q4⟩
    · exact ⟨_, _, Or.inl ⟨q1, q2, rfl, rfl⟩, q3⟩
    · have z : ¬ (bR (G.2.2.2.1.2.2 (i + 1)) (A 7 0) = false ∨ bR (G.2.2.2.1.2.2 (i + 2)) (A 7 0) = false ∨ G.2.2.2.1.2.2 (i + 1) = G.2.2.2.1.2.2 (i + 2)) := by
        have k4 := f.p4
        rw [q3.1, q3.2, bR_t q2.1 (by omega), bR_t q2.2.1 (by omega)]
        rintro (e | e | e)
        · cases e
        · cases e
        · exact q2.2.2 ((nI_inj32 (by omega) (by omega)).mp e)
      rcases q4 with ⟨q5, q6, q7⟩ | ⟨q5, q6, q7⟩
      · exact ⟨_, _, Or.inr ⟨z, p, q, q2, q3, Or.inl ⟨q5, q6, rfl, rfl⟩⟩, q7⟩
      · exact ⟨_, _, Or.inr ⟨z, p, q, q2, q3, Or.inr ⟨q5, q6, rfl, rfl⟩⟩, q7⟩
  obtain ⟨I2, A2, r2, rfl⟩ := hz
  have ee := rCh.one f.p4 r1 r2
  obtain ⟨rfl, rfl, rfl⟩ := ee
  have e20 : A1 20 = A 20 := by rcases r1 with ⟨_, _, _, rfl⟩ | ⟨_, _, _, _, _, ⟨_, _, _, rfl⟩ | ⟨_, _, _, rfl⟩⟩ <;> rfl
  refine x_eqH (hp_m (V := V1) hn hb.2).symm ?_
  refine x_icmp_eq (tgt := 957) dL_law_476 (by decide) (fun _ => ?_) (fun q => absurd rfl q)
  exact K.go (hI.ch kv1 (fun j => by rw [e20]; exact h20 j))
theorem l_hide (hI : lI h2 a c n I A P J X X' L V) (hi : i + 4 ≤ G.2.2.2.1.2.1) (hG : G.2.2.2.1.2.1 ≤ 256) (hu : u.1 + 3 ≤ 600000 ∧ u.2 + 15120 ≤ 7302250) (K : lGo G a c i u Q) : zEx G ML_law 20 600000 7302250 481 (lV G c a i) [] (hp h2 a I A B (P 1) J' X' L V) n u Q := by
  have hL := hI.2.1
  have hV := hI.2.2.2.1
  have hT := hI.tr (B := B) (J' := J')
  have f := hV.ft
  have p4 := f.p4
  have hn := hI.2.2.2.2.2.2.1
  have hb := hI.bd
  have h20 := hI.2.2.2.2.2.2.2.2
  refine x_aload_n dL_law_481 rfl ?_
  refine x_aload_n dL_law_482 rfl ?_
  refine x_iload_n dL_law_483 rfl ?_
  refine x_iconst (v := nI 1) dL_law_484 (by decide) ?_
  refine n_iadd dL_law_485 ?_
  refine l_sld dL_law_486 (by omega) hG ?_
  refine x_aload_n dL_law_487 rfl ?_
  refine x_iload_n dL_law_488 rfl ?_
  refine x_iconst (v := nI 2) dL_law_489 (by decide) ?_
  refine n_iadd dL_law_490 ?_
  refine l_sld dL_law_491 (by omega) hG ?_
  refine x_cVI2 dL_law_492 lkL_61 mdX7_hide isX7_hide rfl rfl (g_c hL.1) (by decide) (k_hide hL hT hV) (Nat.le_of_ble_eq_true rfl) ⟨by omega, by omega⟩ ?_
  rintro v h' ⟨I1, A1, r1, V1, rfl, kv1⟩
  refine x_aload_n dL_law_495 rfl ?_
  refine x_aload_n dL_law_496 rfl ?_
  refine x_iload_n dL_law_497 rfl ?_
  refine x_iconst (v := nI 1) dL_law_498 (by decide) ?_
  refine n_iadd dL_law_499 ?_
  refine l_sld dL_law_500 (by omega) hG ?_
  refine x_aload_n dL_law_501 rfl ?_
  refine x_iload_n dL_law_502 rfl ?_
  refine x_iconst (v := nI 2) dL_law_503 (by decide) ?_
  refine n_iadd dL_law_504 ?_
  refine l_sld dL_law_505 (by omega) hG ?_
  refine x_eqH (hp_m (V := V1) hn hb.2) ?_
  refine x_cVI2 dL_law_506 lkL_64 mdX8_hide isX8_hide rfl rfl mH_a (by decide) (c_hideM f.p1 f.p4 f.u8) (Nat.le_of_ble_eq_true rfl) ⟨by omega, by omega⟩ ?_
  intro w h'' hw
  have hz : ∃ I2 A2, rHi I A (G.2.2.2.1.2.2 (i + 1)) (G.2.2.2.1.2.2 (i + 2)) w I2 A2 ∧ h'' = mH (gH (tH h2 (P 1) J' X') L V1) a I2 A2 B := by
    rcases hw with ⟨q1, q2, q3⟩ | ⟨p, so, q2, q3, q4, q5⟩
    · exact ⟨_, _, Or.inl ⟨q1, q2, rfl, rfl⟩, q3⟩
    · exact ⟨_, _, Or.inr ⟨by rw [q3.1, q3.2, bR_t q2.1 (by omega), bR_t q2.2 (by omega)]; rfl, p, so, q2, q3, q4, rfl, rfl⟩, q5⟩
  obtain ⟨I2, A2, r2, rfl⟩ := hz
  have ee := rHi.one f.p4 r1 r2
  obtain ⟨rfl, rfl, rfl⟩ := ee
  have e20 : A1 20 = A 20 := by rcases r1 with ⟨_, _, _, rfl⟩ | ⟨_, _, _, _, _, _, _, rfl⟩ <;> rfl
  refine x_eqH (hp_m (V := V1) hn hb.2).symm ?_
  refine x_icmp_eq (tgt := 957) dL_law_509 (by decide) (fun _ => ?_) (fun q => absurd rfl q)
  exact K.go (hI.ch kv1 (fun j => by rw [e20]; exact h20 j))
theorem l_undo (hI : lI h2 a c n I A P J X X' L V) (hi : i + 4 ≤ G.2.2.2.1.2.1) (hG : G.2.2.2.1.2.1 ≤ 256) (hu : u.1 + 3 ≤ 600000 ∧ u.2 + 15120 ≤ 7302250) (K : lGo G a c i u Q) : zEx G ML_law 20 600000 7302250 514 (lV G c a i) [] (hp h2 a I A B (P 1) J' X' L V) n u Q := by
  have hL := hI.2.1
  have hV := hI.2.2.2.1
  have hT := hI.tr (B := B) (J' := J')
  have f := hV.ft
  have p4 := f.p4
  have hn := hI.2.2.2.2.2.2.1
  have hb := hI.bd
  have h20 := hI.2.2.2.2.2.2.2.2
  refine x_aload_n dL_law_514 rfl ?_
  refine x_cVI0 dL_law_515 lkL_65 mdX7_undo isX7_undo rfl rfl (g_c hL.1) (by decide) (k_undo hL hV) (Nat.le_of_ble_eq_true rfl) ⟨by omega, by omega⟩ ?_
  rintro v h' ⟨I1, A1, r1, V1, rfl, kv1⟩
  refine x_aload_n dL_law_518 rfl ?_
  refine x_eqH (hp_m (V := V1) hn hb.2) ?_
  refine x_cVI0 dL_law_519 lkL_68 mdX8_undo isX8_undo rfl rfl mH_a (by decide) (c_undoM f.u8) (Nat.le_of_ble_eq_true rfl) ⟨by omega, by omega⟩ ?_
  intro w h'' hw
  have hz : ∃ I2 A2, rUd I A  w I2 A2 ∧ h'' = mH (gH (tH h2 (P 1) J' X') L V1) a I2 A2 B := by
    rcases hw with ⟨q1, q2, q3⟩ | ⟨q1, q2, q3⟩
    · exact ⟨_, _, Or.inl ⟨q1, q2, rfl, rfl⟩, q3⟩
    · exact ⟨_, _, Or.inr ⟨q1, q2, rfl, rfl⟩, q3⟩
  obtain ⟨I2, A2, r2, rfl⟩ := hz
  have ee := rUd.one r1 r2
  obtain ⟨rfl, rfl, rfl⟩ := ee
  have e20 : A1 20 = A 20 := by rcases r1 with ⟨_, _, _, rfl⟩ | ⟨_, _, _, rfl⟩ <;> rfl
  refine x_eqH (hp_m (V := V1) hn hb.2).symm ?_
  refine x_icmp_eq (tgt := 957) dL_law_522 (by decide) (fun _ => ?_) (fun q => absurd rfl q)
  exact K.go (hI.ch kv1 (fun j => by rw [e20]; exact h20 j))
theorem l_left (hI : lI h2 a c n I A P J X X' L V) (hi : i + 4 ≤ G.2.2.2.1.2.1) (hG : G.2.2.2.1.2.1 ≤ 256) (hu : u.1 + 3 ≤ 600000 ∧ u.2 + 15120 ≤ 7302250) (K : lGo G a c i u Q) : zEx G ML_law 20 600000 7302250 527 (lV G c a i) [] (hp h2 a I A B (P 1) J' X' L V) n u Q := by
  have hL := hI.2.1
  have hV := hI.2.2.2.1
  have hT := hI.tr (B := B) (J' := J')
  have f := hV.ft
  have p4 := f.p4
  have hn := hI.2.2.2.2.2.2.1
  have hb := hI.bd
  have h20 := hI.2.2.2.2.2.2.2.2
  refine x_aload_n dL_law_527 rfl ?_
  refine x_cVI0 dL_law_528 lkL_69 mdX7_left isX7_left rfl rfl (g_c hL.1) (by decide) (k_left hL hT hV) (Nat.le_of_ble_eq_true rfl) ⟨by omega, by omega⟩ ?_
  rintro v h' ⟨rfl, V1, rfl, kv1⟩
  refine x_aload_n dL_law_531 rfl ?_
  refine x_eqH (hp_m (V := V1) hn hb.2) ?_
  refine x_cVI0 dL_law_532 lkL_72 mdX8_left isX8_left rfl rfl mH_a (by decide) (c_leftM f.tr f.sk f.w5) (Nat.le_of_ble_eq_true rfl) ⟨by omega, by omega⟩ ?_
  rintro w h'' ⟨rfl, rfl⟩
  have kv2 := kv1.co (I' := I) (A' := (va_up A 22 (mayF A (A 17 8) (I 17)))) (fun k z1 z2 => by rw [up_ne _ _ (by omega)]) rfl rfl rfl rfl rfl rfl rfl rfl rfl
  refine x_eqH (hp_m (V := V1) hn hb.2).symm ?_
  refine x_icmp_eq (tgt := 957) dL_law_535 (by decide) (fun _ => ?_) (fun q => absurd rfl q)
  exact K.go (hI.ch kv2 h20)
theorem l_likely (hI : lI h2 a c n I A P J X X' L V) (hi : i + 4 ≤ G.2.2.2.1.2.1) (hG : G.2.2.2.1.2.1 ≤ 256) (hu : u.1 + 3 ≤ 600000 ∧ u.2 + 15120 ≤ 7302250) (K : lGo G a c i u Q) : zEx G ML_law 20 600000 7302250 540 (lV G c a i) [] (hp h2 a I A B (P 1) J' X' L V) n u Q := by
  have hL := hI.2.1
  have hV := hI.2.2.2.1
  have hT := hI.tr (B := B) (J' := J')
  have f := hV.ft
  have p4 := f.p4
  have hn := hI.2.2.2.2.2.2.1
  have hb := hI.bd
  have h20 := hI.2.2.2.2.2.2.2.2
  refine x_aload_n dL_law_540 rfl ?_
  refine x_aload_n dL_law_541 rfl ?_
  refine x_iload_n dL_law_542 rfl ?_
  refine x_iconst (v := nI 1) dL_law_543 (by decide) ?_
  refine n_iadd dL_law_544 ?_
  refine l_sld dL_law_545 (by omega) hG ?_
  refine x_aload_n dL_law_546 rfl ?_
  refine x_iload_n dL_law_547 rfl ?_
  refine x_iconst (v := nI 2) dL_law_548 (by decide) ?_
  refine n_iadd dL_law_549 ?_
  refine l_sld dL_law_550 (by omega) hG ?_
  refine x_aload_n dL_law_551 rfl ?_
  refine x_iload_n dL_law_552 rfl ?_
  refine x_iconst (v := nI 3) dL_law_553 (by decide) ?_
  refine n_iadd dL_law_554 ?_
  refine l_sld dL_law_555 (by omega) hG ?_
  refine x_cVJ3 dL_law_556 lkL_73 mdX7_likely isX7_likely rfl rfl (g_c hL.1) (by decide) (k_likely hL hT hV) (Nat.le_of_ble_eq_true rfl) ⟨by omega, by omega⟩ ?_
  rintro v h' ⟨rfl, V1, rfl, kv1⟩
  refine x_aload_n dL_law_559 rfl ?_
  refine x_aload_n dL_law_560 rfl ?_
  refine x_iload_n dL_law_561 rfl ?_
  refine x_iconst (v := nI 1) dL_law_562 (by decide) ?_
  refine n_iadd dL_law_563 ?_
  refine l_sld dL_law_564 (by omega) hG ?_
  refine x_aload_n dL_law_565 rfl ?_
  refine x_iload_n dL_law_566 rfl ?_
  refine x_iconst (v := nI 2) dL_law_567 (by decide) ?_
  refine n_iadd dL_law_568 ?_
  refine l_sld dL_law_569 (by omega) hG ?_
  refine x_aload_n dL_law_570 rfl ?_
  refine x_iload_n dL_law_571 rfl ?_
  refine x_iconst (v := nI 3) dL_law_572 (by decide) ?_
  refine n_iadd dL_law_573 ?_
  refine l_sld dL_law_574 (by omega) hG ?_
  refine x_eqH (hp_m (V := V1) hn hb.2) ?_
  refine x_cVJ3 dL_law_575 lkL_77 mdX8_likely isX8_likely rfl rfl mH_a (by decide) (c_likelyM f.tr f.p1 f.t1 f.sk f.w5) (Nat.le_of_ble_eq_true rfl) ⟨by omega, by omega⟩ ?_
  rintro w h'' ⟨rfl, ⟨f1, rfl⟩⟩
  have kv2 := kv1.co (I' := I) (A' := (va_up A 22 f1)) (fun k z1 z2 => by rw [up_ne _ _ (by omega)]) rfl rfl rfl rfl rfl rfl rfl rfl rfl
  refine x_eqH (hp_m (V := V1) hn hb.2).symm ?_
  refine x_lcmp dL_law_578 ?_
  refine l_if_eq (tgt := 957) dL_law_579 (by decide) (fun _ => ?_) (fun q => absurd rfl q)
  exact K.go (hI.ch kv2 h20)
theorem l_judge (hI : lI h2 a c n I A P J X X' L V) (hi : i + 4 ≤ G.2.2.2.1.2.1) (hG : G.2.2.2.1.2.1 ≤ 256) (hu : u.1 + 3 ≤ 600000 ∧ u.2 + 15120 ≤ 7302250) (K : lGo G a c i u Q) : zEx G ML_law 20 600000 7302250 633 (lV G c a i) [] (hp h2 a I A B (P 1) J' X' L V) n u Q := by
  have hL := hI.2.1
  have hV := hI.2.2.2.1
  have hT := hI.tr (B := B) (J' := J')
  have f := hV.ft
  have p4 := f.p4
  have hn := hI.2.2.2.2.2.2.1
  have hb := hI.bd
  have h20 := hI.2.2.2.2.2.2.2.2
  refine x_aload_n dL_law_633 rfl ?_
  refine x_cVI0 dL_law_634 lkL_83 mdX7_judge isX7_judge rfl rfl (g_c hL.1) (by decide) (k_judge hL hT hV) (Nat.le_of_ble_eq_true rfl) ⟨by omega, by omega⟩ ?_
  rintro v h' ⟨rfl, V1, rfl, kv1⟩
  refine x_aload_n dL_law_637 rfl ?_
  refine x_eqH (hp_m (V := V1) hn hb.2) ?_
  refine x_cVI0 dL_law_638 lkL_86 mdX8_judge isX8_judge rfl rfl mH_a (by decide) (c_judgeM f.tr f.sk f.w5) (Nat.le_of_ble_eq_true rfl) ⟨by omega, by omega⟩ ?_
  rintro w h'' ⟨rfl, ⟨f1, rfl⟩⟩
  have kv2 := kv1.co (I' := I) (A' := (va_up A 22 f1)) (fun k z1 z2 => by rw [up_ne _ _ (by omega)]) rfl rfl rfl rfl rfl rfl rfl rfl rfl
  refine x_eqH (hp_m (V := V1) hn hb.2).symm ?_
  refine x_icmp_eq (tgt := 957) dL_law_641 (by decide) (fun _ => ?_) (fun q => absurd rfl q)
  exact K.go (hI.ch kv2 h20)
theorem l_guess (hI : lI h2 a c n I A P J X X' L V) (hi : i + 4 ≤ G.2.2.2.1.2.1) (hG : G.2.2.2.1.2.1 ≤ 256) (hu : u.1 + 3 ≤ 600000 ∧ u.2 + 15120 ≤ 7302250) (K : lGo G a c i u Q) : zEx G ML_law 20 600000 7302250 646 (lV G c a i) [] (hp h2 a I A B (P 1) J' X' L V) n u Q := by
  have hL := hI.2.1
  have hV := hI.2.2.2.1
  have hT := hI.tr (B := B) (J' := J')
  have f := hV.ft
  have p4 := f.p4
  have hn := hI.2.2.2.2.2.2.1
  have hb := hI.bd
  have h20 := hI.2.2.2.2.2.2.2.2
  refine x_aload_n dL_law_646 rfl ?_
  refine x_aload_n dL_law_647 rfl ?_
  refine x_iload_n dL_law_648 rfl ?_
  refine x_iconst (v := nI 1) dL_law_649 (by decide) ?_
  refine n_iadd dL_law_650 ?_
  refine l_sld dL_law_651 (by omega) hG ?_
  refine x_aload_n dL_law_652 rfl ?_
  refine x_iload_n dL_law_653 rfl ?_
  refine x_iconst (v := nI 2) dL_law_654 (by decide) ?_
  refine n_iadd dL_law_655 ?_
  refine l_sld dL_law_656 (by omega) hG ?_
  refine x_cVJ2 dL_law_657 lkL_87 mdX7_guess isX7_guess rfl rfl (g_c hL.1) (by decide) (k_guess hL hT hV) (Nat.le_of_ble_eq_true rfl) ⟨by omega, by omega⟩ ?_
  rintro v h' ⟨rfl, V1, rfl, kv1⟩
  refine x_aload_n dL_law_660 rfl ?_
  refine x_aload_n dL_law_661 rfl ?_
  refine x_iload_n dL_law_662 rfl ?_
  refine x_iconst (v := nI 1) dL_law_663 (by decide) ?_
  refine n_iadd dL_law_664 ?_
  refine l_sld dL_law_665 (by omega) hG ?_
  refine x_aload_n dL_law_666 rfl ?_
  refine x_iload_n dL_law_667 rfl ?_
  refine x_iconst (v := nI 2) dL_law_668 (by decide) ?_
  refine n_iadd dL_law_669 ?_
  refine l_sld dL_law_670 (by omega) hG ?_
  refine x_eqH (hp_m (V := V1) hn hb.2) ?_
  refine x_cVJ2 dL_law_671 lkL_91 mdX8_guess isX8_guess rfl rfl mH_a (by decide) (c_guessM f.tr f.p1 f.sk f.w5) (Nat.le_of_ble_eq_true rfl) ⟨by omega, by omega⟩ ?_
  rintro w h'' ⟨rfl, ⟨f1, B1, rfl⟩⟩
  have kv2 := kv1.co (I' := I) (A' := (va_up A 22 f1)) (fun k z1 z2 => by rw [up_ne _ _ (by omega)]) rfl rfl rfl rfl rfl rfl rfl rfl rfl
  refine x_eqH (hp_m (V := V1) hn hb.2).symm ?_
  refine x_lcmp dL_law_674 ?_
  refine l_if_eq (tgt := 957) dL_law_675 (by decide) (fun _ => ?_) (fun q => absurd rfl q)
  exact K.go (hI.ch kv2 h20)
theorem l_next (hI : lI h2 a c n I A P J X X' L V) (hi : i + 4 ≤ G.2.2.2.1.2.1) (hG : G.2.2.2.1.2.1 ≤ 256) (hu : u.1 + 3 ≤ 600000 ∧ u.2 + 15120 ≤ 7302250) (K : lGo G a c i u Q) : zEx G ML_law 20 600000 7302250 680 (lV G c a i) [] (hp h2 a I A B (P 1) J' X' L V) n u Q := by
  have hL := hI.2.1
  have hV := hI.2.2.2.1
  have hT := hI.tr (B := B) (J' := J')
  have f := hV.ft
  have p4 := f.p4
  have hn := hI.2.2.2.2.2.2.1
  have hb := hI.bd
  have h20 := hI.2.2.2.2.2.2.2.2
  refine x_aload_n dL_law_680 rfl ?_
  refine x_aload_n dL_law_681 rfl ?_
  refine x_iload_n dL_law_682 rfl ?_
  refine x_iconst (v := nI 1) dL_law_683 (by decide) ?_
  refine n_iadd dL_law_684 ?_
  refine l_sld dL_law_685 (by omega) hG ?_
  refine x_cVI1 dL_law_686 lkL_92 mdX7_next isX7_next rfl rfl (g_c hL.1) (by decide) (k_next hL hT hV) (Nat.le_of_ble_eq_true rfl) ⟨by omega, by omega⟩ ?_
  rintro v h' ⟨rfl, V1, rfl, kv1⟩
  refine x_aload_n dL_law_689 rfl ?_
  refine x_aload_n dL_law_690 rfl ?_
  refine x_iload_n dL_law_691 rfl ?_
  refine x_iconst (v := nI 1) dL_law_692 (by decide) ?_
  refine n_iadd dL_law_693 ?_
  refine l_sld dL_law_694 (by omega) hG ?_
  refine x_eqH (hp_m (V := V1) hn hb.2) ?_
  refine x_cVI1 dL_law_695 lkL_95 mdX8_next isX8_next rfl rfl mH_a (by decide) (c_nextM f.tr f.p1 f.sk f.w5 f.w6) (Nat.le_of_ble_eq_true rfl) ⟨by omega, by omega⟩ ?_
  rintro w h'' ⟨rfl, ⟨f1, f2, f3, rfl⟩⟩
  have kv2 := kv1.co (I' := (va_up I 29 f1)) (A' := (va_up (va_up A 22 f2) 24 f3)) (fun k z1 z2 => by rw [up_ne _ _ (by omega), up_ne _ _ (by omega)]) rfl rfl rfl rfl rfl rfl rfl rfl rfl
  refine x_eqH (hp_m (V := V1) hn hb.2).symm ?_
  refine x_icmp_eq (tgt := 957) dL_law_698 (by decide) (fun _ => ?_) (fun q => absurd rfl q)
  exact K.go (hI.ch kv2 h20)
theorem l_few (hI : lI h2 a c n I A P J X X' L V) (hi : i + 4 ≤ G.2.2.2.1.2.1) (hG : G.2.2.2.1.2.1 ≤ 256) (hu : u.1 + 3 ≤ 600000 ∧ u.2 + 15120 ≤ 7302250) (K : lGo G a c i u Q) : zEx G ML_law 20 600000 7302250 703 (lV G c a i) [] (hp h2 a I A B (P 1) J' X' L V) n u Q := by
  have hL := hI.2.1
  have hV := hI.2.2.2.1
  have hT := hI.tr (B := B) (J' := J')
  have f := hV.ft
  have p4 := f.p4
  have hn := hI.2.2.2.2.2.2.1
  have hb := hI.bd
  have h20 := hI.2.2.2.2.2.2.2.2
  refine x_aload_n dL_law_703 rfl ?_
  refine x_aload_n dL_law_704 rfl ?_
  refine x_iload_n dL_law_705 rfl ?_
  refine x_iconst (v := nI 1) dL_law_706 (by decide) ?_
  refine n_iadd dL_law_707 ?_
  refine l_sld dL_law_708 (by omega) hG ?_
  refine x_cVI1 dL_law_709 lkL_96 mdX7_few isX7_few rfl rfl (g_c hL.1) (by decide) (k_few hL hT hV) (Nat.le_of_ble_eq_true rfl) ⟨by omega, by omega⟩ ?_
  rintro v h' ⟨rfl, V1, rfl, kv1⟩
  refine x_aload_n dL_law_712 rfl ?_
  refine x_aload_n dL_law_713 rfl ?_
  refine x_iload_n dL_law_714 rfl ?_
  refine x_iconst (v := nI 1) dL_law_715 (by decide) ?_
  refine n_iadd dL_law_716 ?_
  refine l_sld dL_law_717 (by omega) hG ?_
  refine x_eqH (hp_m (V := V1) hn hb.2) ?_
  refine x_cVI1 dL_law_718 lkL_99 mdX8_few isX8_few rfl rfl mH_a (by decide) (c_fewM f.tr f.p1 f.sk f.w5 f.w6) (Nat.le_of_ble_eq_true rfl) ⟨by omega, by omega⟩ ?_
  rintro w h'' ⟨rfl, ⟨f1, f2, f3, rfl⟩⟩
  have kv2 := kv1.co (I' := I) (A' := (va_up (va_up (va_up A 22 f1) 25 f2) 26 f3)) (fun k z1 z2 => by rw [up_ne _ _ (by omega), up_ne _ _ (by omega), up_ne _ _ (by omega)]) rfl rfl rfl rfl rfl rfl rfl rfl rfl
  refine x_eqH (hp_m (V := V1) hn hb.2).symm ?_
  refine x_icmp_eq (tgt := 957) dL_law_721 (by decide) (fun _ => ?_) (fun q => absurd rfl q)
  exact K.go (hI.ch kv2 h20)
theorem l_solved (hI : lI h2 a c n I A P J X X' L V) (hi : i + 4 ≤ G.2.2.2.1.2.1) (hG : G.2.2.2.1.2.1 ≤ 256) (hu : u.1 + 3 ≤ 600000 ∧ u.2 + 15120 ≤ 7302250) (K : lGo G a c i u Q) : zEx G ML_law 20 600000 7302250 726 (lV G c a i) [] (hp h2 a I A B (P 1) J' X' L V) n u Q := by
  have hL := hI.2.1
  have hV := hI.2.2.2.1
  have hT := hI.tr (B := B) (J' := J')
  have f := hV.ft
  have p4 := f.p4
  have hn := hI.2.2.2.2.2.2.1
  have hb := hI.bd
  have h20 := hI.2.2.2.2.2.2.2.2
  refine x_aload_n dL_law_726 rfl ?_
  refine x_aload_n dL_law_727 rfl ?_
  refine x_iload_n dL_law_728 rfl ?_
  refine x_iconst (v := nI 1) dL_law_729 (by decide) ?_
  refine n_iadd dL_law_730 ?_
  refine l_sld dL_law_731 (by omega) hG ?_
  refine x_cVI1 dL_law_732 lkL_100 mdX7_solved isX7_solved rfl rfl (g_c hL.1) (by decide) (k_solved hL hT hV) (Nat.le_of_ble_eq_true rfl) ⟨by omega, by omega⟩ ?_
  rintro v h' ⟨rfl, V1, rfl, kv1⟩
  refine x_aload_n dL_law_735 rfl ?_
  refine x_aload_n dL_law_736 rfl ?_
  refine x_iload_n dL_law_737 rfl ?_
  refine x_iconst (v := nI 1) dL_law_738 (by decide) ?_
  refine n_iadd dL_law_739 ?_
  refine l_sld dL_law_740 (by omega) hG ?_
  refine x_eqH (hp_m (V := V1) hn hb.2) ?_
  refine x_cVI1 dL_law_741 lkL_103 mdX8_solved isX8_solved rfl rfl mH_a (by decide) (c_solvedM f.tr f.p1 f.sk f.w5 f.w6 f.w3 f.s2) (Nat.le_of_ble_eq_true rfl) ⟨by omega, by omega⟩ ?_
  rintro w h'' ⟨rfl, ⟨f1, f2, f3, f4, rfl⟩⟩
  have kv2 := kv1.co (I' := (va_up (va_up I 29 f1) 32 f2)) (A' := (va_up (va_up A 22 f3) 24 f4)) (fun k z1 z2 => by rw [up_ne _ _ (by omega), up_ne _ _ (by omega)]) rfl rfl rfl rfl rfl rfl rfl rfl rfl
  refine x_eqH (hp_m (V := V1) hn hb.2).symm ?_
  refine x_icmp_eq (tgt := 957) dL_law_744 (by decide) (fun _ => ?_) (fun q => absurd rfl q)
  exact K.go (hI.ch kv2 h20)
theorem l_risk (hI : lI h2 a c n I A P J X X' L V) (hi : i + 4 ≤ G.2.2.2.1.2.1) (hG : G.2.2.2.1.2.1 ≤ 256) (hu : u.1 + 3 ≤ 600000 ∧ u.2 + 15120 ≤ 7302250) (K : lGo G a c i u Q) : zEx G ML_law 20 600000 7302250 749 (lV G c a i) [] (hp h2 a I A B (P 1) J' X' L V) n u Q := by
  have hL := hI.2.1
  have hV := hI.2.2.2.1
  have hT := hI.tr (B := B) (J' := J')
  have f := hV.ft
  have p4 := f.p4
  have hn := hI.2.2.2.2.2.2.1
  have hb := hI.bd
  have h20 := hI.2.2.2.2.2.2.2.2
  refine x_aload_n dL_law_749 rfl ?_
  refine x_aload_n dL_law_750 rfl ?_
  refine x_iload_n dL_law_751 rfl ?_
  refine x_iconst (v := nI 1) dL_law_752 (by decide) ?_
  refine n_iadd dL_law_753 ?_
  refine l_sld dL_law_754 (by omega) hG ?_
  refine x_cVj1 dL_law_755 lkL_104 mdX7_risk isX7_risk rfl rfl (g_c hL.1) (by decide) (k_risk hL hT hV) (Nat.le_of_ble_eq_true rfl) ⟨by omega, by omega⟩ ?_
  refine x_aload_n dL_law_758 rfl ?_
  refine x_aload_n dL_law_759 rfl ?_
  refine x_iload_n dL_law_760 rfl ?_
  refine x_iconst (v := nI 1) dL_law_761 (by decide) ?_
  refine n_iadd dL_law_762 ?_
  refine l_sld dL_law_763 (by omega) hG ?_
  refine x_eqH (hp_m (V := V) hn hb.2) ?_
  refine x_cVj1 dL_law_764 lkL_108 mdX8_risk isX8_risk rfl rfl mH_a (by decide) (c_riskM f.sk f.r9) (Nat.le_of_ble_eq_true rfl) ⟨by omega, by omega⟩ ?_
  refine x_eqH (hp_m (V := V) hn hb.2).symm ?_
  refine x_lcmp dL_law_767 ?_
  refine l_if_eq (tgt := 957) dL_law_768 (by decide) (fun _ => ?_) (fun q => absurd rfl q)
  exact K.go hI
theorem l_seconds (hI : lI h2 a c n I A P J X X' L V) (hi : i + 4 ≤ G.2.2.2.1.2.1) (hG : G.2.2.2.1.2.1 ≤ 256) (hu : u.1 + 3 ≤ 600000 ∧ u.2 + 15120 ≤ 7302250) (K : lGo G a c i u Q) : zEx G ML_law 20 600000 7302250 773 (lV G c a i) [] (hp h2 a I A B (P 1) J' X' L V) n u Q := by
  have hL := hI.2.1
  have hV := hI.2.2.2.1
  have hT := hI.tr (B := B) (J' := J')
  have f := hV.ft
  have p4 := f.p4
  have hn := hI.2.2.2.2.2.2.1
  have hb := hI.bd
  have h20 := hI.2.2.2.2.2.2.2.2
  refine x_aload_n dL_law_773 rfl ?_
  refine x_cVi0 dL_law_774 lkL_109 mdX7_seconds isX7_seconds rfl rfl (g_c hL.1) (by decide) (k_seconds hL hT hV) (Nat.le_of_ble_eq_true rfl) ⟨by omega, by omega⟩ ?_
  refine x_aload_n dL_law_777 rfl ?_
  refine x_eqH (hp_m (V := V) hn hb.2) ?_
  refine x_cVi0 dL_law_778 lkL_112 mdX8_seconds isX8_seconds rfl rfl mH_a (by decide) (c_secondsM f.sk) (Nat.le_of_ble_eq_true rfl) ⟨by omega, by omega⟩ ?_
  refine x_eqH (hp_m (V := V) hn hb.2).symm ?_
  refine x_icmp_eq (tgt := 957) dL_law_781 (by decide) (fun _ => ?_) (fun q => absurd rfl q)
  exact K.go hI
theorem l_misled (hI : lI h2 a c n I A P J X X' L V) (hi : i + 4 ≤ G.2.2.2.1.2.1) (hG : G.2.2.2.1.2.1 ≤ 256) (hu : u.1 + 3 ≤ 600000 ∧ u.2 + 15120 ≤ 7302250) (K : lGo G a c i u Q) : zEx G ML_law 20 600000 7302250 786 (lV G c a i) [] (hp h2 a I A B (P 1) J' X' L V) n u Q := by
  have hL := hI.2.1
  have hV := hI.2.2.2.1
  have hT := hI.tr (B := B) (J' := J')
  have f := hV.ft
  have p4 := f.p4
  have hn := hI.2.2.2.2.2.2.1
  have hb := hI.bd
  have h20 := hI.2.2.2.2.2.2.2.2
  refine x_aload_n dL_law_786 rfl ?_
  refine x_aload_n dL_law_787 rfl ?_
  refine x_iload_n dL_law_788 rfl ?_
  refine x_iconst (v := nI 1) dL_law_789 (by decide) ?_
  refine n_iadd dL_law_790 ?_
  refine l_sld dL_law_791 (by omega) hG ?_
  refine x_aload_n dL_law_792 rfl ?_
  refine x_iload_n dL_law_793 rfl ?_
  refine x_iconst (v := nI 2) dL_law_794 (by decide) ?_
  refine n_iadd dL_law_795 ?_
  refine l_sld dL_law_796 (by omega) hG ?_
  refine x_cVI2 dL_law_797 lkL_113 mdX7_misled isX7_misled rfl rfl (g_c hL.1) (by decide) (k_misled hL hT hV) (Nat.le_of_ble_eq_true rfl) ⟨by omega, by omega⟩ ?_
  rintro v h' ⟨rfl, V1, rfl, kv1⟩
  refine x_aload_n dL_law_800 rfl ?_
  refine x_aload_n dL_law_801 rfl ?_
  refine x_iload_n dL_law_802 rfl ?_
  refine x_iconst (v := nI 1) dL_law_803 (by decide) ?_
  refine n_iadd dL_law_804 ?_
  refine l_sld dL_law_805 (by omega) hG ?_
  refine x_aload_n dL_law_806 rfl ?_
  refine x_iload_n dL_law_807 rfl ?_
  refine x_iconst (v := nI 2) dL_law_808 (by decide) ?_
  refine n_iadd dL_law_809 ?_
  refine l_sld dL_law_810 (by omega) hG ?_
  refine x_eqH (hp_m (V := V1) hn hb.2) ?_
  refine x_cVI2 dL_law_811 lkL_116 mdX8_misled isX8_misled rfl rfl mH_a (by decide) (c_misledM f.tr f.p1 f.sk f.w5 f.s2) (Nat.le_of_ble_eq_true rfl) ⟨by omega, by omega⟩ ?_
  rintro w h'' ⟨rfl, ⟨f1, rfl⟩⟩
  have kv2 := kv1.co (I' := I) (A' := (va_up A 22 f1)) (fun k z1 z2 => by rw [up_ne _ _ (by omega)]) rfl rfl rfl rfl rfl rfl rfl rfl rfl
  refine x_eqH (hp_m (V := V1) hn hb.2).symm ?_
  refine x_icmp_eq (tgt := 957) dL_law_814 (by decide) (fun _ => ?_) (fun q => absurd rfl q)
  exact K.go (hI.ch kv2 h20)
theorem l_more (hI : lI h2 a c n I A P J X X' L V) (hi : i + 4 ≤ G.2.2.2.1.2.1) (hG : G.2.2.2.1.2.1 ≤ 256) (hu : u.1 + 3 ≤ 600000 ∧ u.2 + 15120 ≤ 7302250) (K : lGo G a c i u Q) : zEx G ML_law 20 600000 7302250 819 (lV G c a i) [] (hp h2 a I A B (P 1) J' X' L V) n u Q := by
  have hL := hI.2.1
  have hV := hI.2.2.2.1
  have hT := hI.tr (B := B) (J' := J')
  have f := hV.ft
  have p4 := f.p4
  have hn := hI.2.2.2.2.2.2.1
  have hb := hI.bd
  have h20 := hI.2.2.2.2.2.2.2.2
  refine x_aload_n dL_law_819 rfl ?_
  refine x_aload_n dL_law_820 rfl ?_
  refine x_iload_n dL_law_821 rfl ?_
  refine x_iconst (v := nI 1) dL_law_822 (by decide) ?_
  refine n_iadd dL_law_823 ?_
  refine l_sld dL_law_824 (by omega) hG ?_
  refine x_cVI1 dL_law_825 lkL_117 mdX7_more isX7_more rfl rfl (g_c hL.1) (by decide) (k_more hL hT hV) (Nat.le_of_ble_eq_true rfl) ⟨by omega, by omega⟩ ?_
  rintro v h' ⟨rfl, V1, rfl, kv1⟩
  refine x_aload_n dL_law_828 rfl ?_
  refine x_aload_n dL_law_829 rfl ?_
  refine x_iload_n dL_law_830 rfl ?_
  refine x_iconst (v := nI 1) dL_law_831 (by decide) ?_
  refine n_iadd dL_law_832 ?_
  refine l_sld dL_law_833 (by omega) hG ?_
  refine x_eqH (hp_m (V := V1) hn hb.2) ?_
  refine x_cVI1 dL_law_834 lkL_120 mdX8_more isX8_more rfl rfl mH_a (by decide) (c_moreM f.tr f.sk f.w5) (Nat.le_of_ble_eq_true rfl) ⟨by omega, by omega⟩ ?_
  rintro w h'' ⟨rfl, ⟨f1, rfl⟩⟩
  have kv2 := kv1.co (I' := I) (A' := (va_up A 22 f1)) (fun k z1 z2 => by rw [up_ne _ _ (by omega)]) rfl rfl rfl rfl rfl rfl rfl rfl rfl
  refine x_eqH (hp_m (V := V1) hn hb.2).symm ?_
  refine x_icmp_eq (tgt := 957) dL_law_837 (by decide) (fun _ => ?_) (fun q => absurd rfl q)
  exact K.go (hI.ch kv2 h20)
theorem l_heavier (hI : lI h2 a c n I A P J X X' L V) (hi : i + 4 ≤ G.2.2.2.1.2.1) (hG : G.2.2.2.1.2.1 ≤ 256) (hu : u.1 + 3 ≤ 600000 ∧ u.2 + 15120 ≤ 7302250) (K : lGo G a c i u Q) : zEx G ML_law 20 600000 7302250 842 (lV G c a i) [] (hp h2 a I A B (P 1) J' X' L V) n u Q := by
  have hL := hI.2.1
  have hV := hI.2.2.2.1
  have hT := hI.tr (B := B) (J' := J')
  have f := hV.ft
  have p4 := f.p4
  have hn := hI.2.2.2.2.2.2.1
  have hb := hI.bd
  have h20 := hI.2.2.2.2.2.2.2.2
  refine x_aload_n dL_law_842 rfl ?_
  refine x_aload_n dL_law_843 rfl ?_
  refine x_iload_n dL_law_844 rfl ?_
  refine x_iconst (v := nI 1) dL_law_845 (by decide) ?_
  refine n_iadd dL_law_846 ?_
  refine l_sld dL_law_847 (by omega) hG ?_
  refine x_aload_n dL_law_848 rfl ?_
  refine x_iload_n dL_law_849 rfl ?_
  refine x_iconst (v := nI 2) dL_law_850 (by decide) ?_
  refine n_iadd dL_law_851 ?_
  refine l_sld dL_law_852 (by omega) hG ?_
  refine x_cVI2 dL_law_853 lkL_121 mdX7_heavier isX7_heavier rfl rfl (g_c hL.1) (by decide) (k_heavier hL hT hV) (Nat.le_of_ble_eq_true rfl) ⟨by omega, by omega⟩ ?_
  rintro v h' ⟨rfl, V1, rfl, kv1⟩
  refine x_aload_n dL_law_856 rfl ?_
  refine x_aload_n dL_law_857 rfl ?_
  refine x_iload_n dL_law_858 rfl ?_
  refine x_iconst (v := nI 1) dL_law_859 (by decide) ?_
  refine n_iadd dL_law_860 ?_
  refine l_sld dL_law_861 (by omega) hG ?_
  refine x_aload_n dL_law_862 rfl ?_
  refine x_iload_n dL_law_863 rfl ?_
  refine x_iconst (v := nI 2) dL_law_864 (by decide) ?_
  refine n_iadd dL_law_865 ?_
  refine l_sld dL_law_866 (by omega) hG ?_
  refine x_eqH (hp_m (V := V1) hn hb.2) ?_
  refine x_cVI2 dL_law_867 lkL_124 mdX8_heavier isX8_heavier rfl rfl mH_a (by decide) (c_heavierM f.tr f.p1 f.sk f.w5) (Nat.le_of_ble_eq_true rfl) ⟨by omega, by omega⟩ ?_
  rintro w h'' ⟨rfl, ⟨f1, rfl⟩⟩
  have kv2 := kv1.co (I' := I) (A' := (va_up A 22 f1)) (fun k z1 z2 => by rw [up_ne _ _ (by omega)]) rfl rfl rfl rfl rfl rfl rfl rfl rfl
  refine x_eqH (hp_m (V := V1) hn hb.2).symm ?_
  refine x_icmp_eq (tgt := 957) dL_law_870 (by decide) (fun _ => ?_) (fun q => absurd rfl q)
  exact K.go (hI.ch kv2 h20)
theorem l_morning (hI : lI h2 a c n I A P J X X' L V) (hi : i + 4 ≤ G.2.2.2.1.2.1) (hG : G.2.2.2.1.2.1 ≤ 256) (hu : u.1 + 3 ≤ 600000 ∧ u.2 + 15120 ≤ 7302250) (K : lGo G a c i u Q) : zEx G ML_law 20 600000 7302250 875 (lV G c a i) [] (hp h2 a I A B (P 1) J' X' L V) n u Q := by
  have hL := hI.2.1
  have hV := hI.2.2.2.1
  have hT := hI.tr (B := B) (J' := J')
  have f := hV.ft
  have p4 := f.p4
  have hn := hI.2.2.2.2.2.2.1
  have hb := hI.bd
  have h20 := hI.2.2.2.2.2.2.2.2
  refine x_aload_n dL_law_875 rfl ?_
  refine x_aload_n dL_law_876 rfl ?_
  refine x_iload_n dL_law_877 rfl ?_
  refine x_iconst (v := nI 1) dL_law_878 (by decide) ?_
  refine n_iadd dL_law_879 ?_
  refine l_sld dL_law_880 (by omega) hG ?_
  refine x_aload_n dL_law_881 rfl ?_
  refine x_iload_n dL_law_882 rfl ?_
  refine x_iconst (v := nI 2) dL_law_883 (by decide) ?_
  refine n_iadd dL_law_884 ?_
  refine l_sld dL_law_885 (by omega) hG ?_
  refine x_cVI2 dL_law_886 lkL_125 mdX7_morning isX7_morning rfl rfl (g_c hL.1) (by decide) (k_morning hL hT hV) (Nat.le_of_ble_eq_true rfl) ⟨by omega, by omega⟩ ?_
  rintro v h' ⟨rfl, V1, rfl, kv1⟩
  refine x_aload_n dL_law_889 rfl ?_
  refine x_aload_n dL_law_890 rfl ?_
  refine x_iload_n dL_law_891 rfl ?_
  refine x_iconst (v := nI 1) dL_law_892 (by decide) ?_
  refine n_iadd dL_law_893 ?_
  refine l_sld dL_law_894 (by omega) hG ?_
  refine x_aload_n dL_law_895 rfl ?_
  refine x_iload_n dL_law_896 rfl ?_
  refine x_iconst (v := nI 2) dL_law_897 (by decide) ?_
  refine n_iadd dL_law_898 ?_
  refine l_sld dL_law_899 (by omega) hG ?_
  refine x_eqH (hp_m (V := V1) hn hb.2) ?_
  refine x_cVI2 dL_law_900 lkL_128 mdX8_morning isX8_morning rfl rfl mH_a (by decide) (c_morningM f.tr f.p1 f.sk f.w5 f.w0 f.w6 f.w3) (Nat.le_of_ble_eq_true rfl) ⟨by omega, by omega⟩ ?_
  rintro w h'' ⟨rfl, ⟨f1, f2, f3, f4, rfl⟩⟩
  have kv2 := kv1.co (I' := (va_up (va_up I 29 f1) 32 f2)) (A' := (va_up (va_up A 22 f3) 24 f4)) (fun k z1 z2 => by rw [up_ne _ _ (by omega), up_ne _ _ (by omega)]) rfl rfl rfl rfl rfl rfl rfl rfl rfl
  refine x_eqH (hp_m (V := V1) hn hb.2).symm ?_
  refine x_icmp_eq (tgt := 957) dL_law_903 (by decide) (fun _ => ?_) (fun q => absurd rfl q)
  exact K.go (hI.ch kv2 h20)
theorem l_keep (hI : lI h2 a c n I A P J X X' L V) (hi : i + 4 ≤ G.2.2.2.1.2.1) (hG : G.2.2.2.1.2.1 ≤ 256) (hu : u.1 + 3 ≤ 600000 ∧ u.2 + 15120 ≤ 7302250) (K : lGo G a c i u Q) : zEx G ML_law 20 600000 7302250 908 (lV G c a i) [] (hp h2 a I A B (P 1) J' X' L V) n u Q := by
  have hL := hI.2.1
  have hV := hI.2.2.2.1
  have hT := hI.tr (B := B) (J' := J')
  have f := hV.ft
  have p4 := f.p4
  have hn := hI.2.2.2.2.2.2.1
  have hb := hI.bd
  have h20 := hI.2.2.2.2.2.2.2.2
  refine x_aload_n dL_law_908 rfl ?_
  refine x_cVI0 dL_law_909 lkL_129 mdX7_keep isX7_keep rfl rfl (g_c hL.1) (by decide) (k_keep hL hV) (Nat.le_of_ble_eq_true rfl) ⟨by omega, by omega⟩ ?_
  rintro v h' ⟨I1, A1, r1, V1, rfl, kv1⟩
  refine x_aload_n dL_law_912 rfl ?_
  refine x_eqH (hp_m (V := V1) hn hb.2) ?_
  refine x_cVI0 dL_law_913 lkL_132 mdX8_keep isX8_keep rfl rfl mH_a (by decide) (c_keepM f.k2) (Nat.le_of_ble_eq_true rfl) ⟨by omega, by omega⟩ ?_
  intro w h'' hw
  have hz : ∃ I2 A2, rKp I A  w I2 A2 ∧ h'' = mH (gH (tH h2 (P 1) J' X') L V1) a I2 A2 B := by
    rcases hw with ⟨q1, q2, q3⟩ | ⟨q1, q2, q3⟩
    · exact ⟨_, _, Or.inl ⟨q1, q2, rfl, rfl⟩, q3⟩
    · exact ⟨_, _, Or.inr ⟨q1, q2, rfl, rfl⟩, q3⟩
  obtain ⟨I2, A2, r2, rfl⟩ := hz
  have ee := rKp.one r1 r2
  obtain ⟨rfl, rfl, rfl⟩ := ee
  have e20 : A1 20 = A 20 := by rcases r1 with ⟨_, _, _, rfl⟩ | ⟨_, _, _, rfl⟩ <;> rfl
  refine x_eqH (hp_m (V := V1) hn hb.2).symm ?_
  refine x_icmp_eq (tgt := 957) dL_law_916 (by decide) (fun _ => ?_) (fun q => absurd rfl q)
  exact K.go (hI.ch kv1 (fun j => by rw [e20]; exact h20 j))
theorem l_back (hI : lI h2 a c n I A P J X X' L V) (hi : i + 4 ≤ G.2.2.2.1.2.1) (hG : G.2.2.2.1.2.1 ≤ 256) (hu : u.1 + 3 ≤ 600000 ∧ u.2 + 15120 ≤ 7302250) (K : lGo G a c i u Q) : zEx G ML_law 20 600000 7302250 921 (lV G c a i) [] (hp h2 a I A B (P 1) J' X' L V) n u Q := by
  have hL := hI.2.1
  have hV := hI.2.2.2.1
  have hT := hI.tr (B := B) (J' := J')
  have f := hV.ft
  have p4 := f.p4
  have hn := hI.2.2.2.2.2.2.1
  have hb := hI.bd
  have h20 := hI.2.2.2.2.2.2.2.2
  refine x_aload_n dL_law_921 rfl ?_
  refine x_cVI0 dL_law_922 lkL_133 mdX7_back isX7_back rfl rfl (g_c hL.1) (by decide) (k_back hL hV) (Nat.le_of_ble_eq_true rfl) ⟨by omega, by omega⟩ ?_
  rintro v h' ⟨I1, A1, r1, V1, rfl, kv1⟩
  refine x_aload_n dL_law_925 rfl ?_
  refine x_eqH (hp_m (V := V1) hn hb.2) ?_
  refine x_cVI0 dL_law_926 lkL_136 mdX8_back isX8_back rfl rfl mH_a (by decide) (c_backM f.k2) (Nat.le_of_ble_eq_true rfl) ⟨by omega, by omega⟩ ?_
  intro w h'' hw
  have hz : ∃ I2 A2, rBk I A  w I2 A2 ∧ h'' = mH (gH (tH h2 (P 1) J' X') L V1) a I2 A2 B := by
    rcases hw with ⟨q1, q2, q3⟩ | ⟨q1, q2, q3⟩
    · exact ⟨_, _, Or.inl ⟨q1, q2, rfl, rfl⟩, q3⟩
    · exact ⟨_, _, Or.inr ⟨q1, q2, rfl, rfl⟩, q3⟩
  obtain ⟨I2, A2, r2, rfl⟩ := hz
  have ee := rBk.one r1 r2
  obtain ⟨rfl, rfl, rfl⟩ := ee
  have e20 : A1 20 = A 20 := by rcases r1 with ⟨_, _, _, rfl⟩ | ⟨_, _, _, rfl⟩ <;> rfl
  refine x_eqH (hp_m (V := V1) hn hb.2).symm ?_
  refine x_icmp_eq (tgt := 957) dL_law_929 (by decide) (fun _ => ?_) (fun q => absurd rfl q)
  exact K.go (hI.ch kv1 (fun j => by rw [e20]; exact h20 j))
theorem l_count (hI : lI h2 a c n I A P J X X' L V) (hi : i + 4 ≤ G.2.2.2.1.2.1) (hG : G.2.2.2.1.2.1 ≤ 256) (hu : u.1 + 3 ≤ 600000 ∧ u.2 + 15120 ≤ 7302250) (K : lGo G a c i u Q) : zEx G ML_law 20 600000 7302250 934 (lV G c a i) [] (hp h2 a I A B (P 1) J' X' L V) n u Q := by
  have hL := hI.2.1
  have hV := hI.2.2.2.1
  have hT := hI.tr (B := B) (J' := J')
  have f := hV.ft
  have p4 := f.p4
  have hn := hI.2.2.2.2.2.2.1
  have hb := hI.bd
  have h20 := hI.2.2.2.2.2.2.2.2
  refine x_aload_n dL_law_934 rfl ?_
  refine x_aload_n dL_law_935 rfl ?_
  refine x_iload_n dL_law_936 rfl ?_
  refine x_iconst (v := nI 1) dL_law_937 (by decide) ?_
  refine n_iadd dL_law_938 ?_
  refine l_sld dL_law_939 (by omega) hG ?_
  refine x_cVi1 dL_law_940 lkL_137 mdX7_count isX7_count rfl rfl (g_c hL.1) (by decide) (k_count hL hT hV) (Nat.le_of_ble_eq_true rfl) ⟨by omega, by omega⟩ ?_
  refine x_aload_n dL_law_943 rfl ?_
  refine x_aload_n dL_law_944 rfl ?_
  refine x_iload_n dL_law_945 rfl ?_
  refine x_iconst (v := nI 1) dL_law_946 (by decide) ?_
  refine n_iadd dL_law_947 ?_
  refine l_sld dL_law_948 (by omega) hG ?_
  refine x_eqH (hp_m (V := V) hn hb.2) ?_
  refine x_cVi1 dL_law_949 lkL_140 mdX8_count isX8_count rfl rfl mH_a (by decide) (c_countM ) (Nat.le_of_ble_eq_true rfl) ⟨by omega, by omega⟩ ?_
  refine x_eqH (hp_m (V := V) hn hb.2).symm ?_
  refine x_icmp_eq (tgt := 957) dL_law_952 (by decide) (fun _ => ?_) (fun q => absurd rfl q)
  exact K.go hI
end ZL4
