set_option maxHeartbeats 4000000 in
set_option maxRecDepth 100000 in
theorem lc_0 {mc : MC} {g : GG} {Q : State → Prop} {b L : Nat} {xs : Nat → Int32} {k n : Nat} {σ : Sg} (hC : Cx mc g cL_law RL 9 (some .boolean)) (hR : mR mc = rmJ 12 438 667605 7093289) (hX : va_X b L xs (mS mc) (mS mc).heap) (hbl : b < (mS mc).heap.size) (hbA : ¬ gA g b) (hRR : RC σ σ) (i : Int) (hi : 0 ≤ i ∧ i + 7 ≤ L ∧ L ≤ 3584) (hkn : k + 68 ≤ 667605 ∧ n + 340 ≤ 7093289) (kx : ∀ τ, RC τ τ → J mc g (k + 68) (n + 340) Q 2154 [(4, vI (i)), (1, .ref (gd g (0))), (2, .ref (gd g (19))), (3, .ref (gd g (27))), (0, .ref b)] [] τ) : J mc g k n Q 180 [(4, vI (i)), (1, .ref (gd g (0))), (2, .ref (gd g (19))), (3, .ref (gd g (27))), (0, .ref b)] [] σ := by
  obtain ⟨k1, n1, k2, n2, c, r, τ1, τ2, h1, h2, hk, hc, e7, e9, rr, hR2⟩ := st_addLodge (hlJ hC) g hRR 
  have rr1 := rr.1
  have rr2 := rr.2
  refine j_aload_n hC dL_law_180 1 rfl ?_
  refine j_aload_n hC dL_law_181 3 rfl ?_
  refine j_callSW1 (ar := 2) (hh := [(0, 8, 11, 13)]) hC hR h1 [] rfl (by decide) (by decide +kernel) rfl wd301 wd302 wd0 wd303 ⟨by decide, by omega⟩ (Nat.le_of_ble_eq_true rfl) dL_law_182 ?_
  refine j_istore hC dL_law_185 [(5, vI (c)), (4, vI (i)), (1, .ref (gd g (0))), (2, .ref (gd g (19))), (3, .ref (gd g (27))), (0, .ref b)] (by decide) rfl ?_
  refine j_aload_n hC dL_law_187 3 rfl ?_
  refine j_callV1 (ar := 0) hC hR (h2) [] rfl 19 rfl rfl rfl (by decide) (by decide +kernel) rfl wd614 wd615 wd616 wd4 wd617 ⟨by decide, by omega⟩ (Nat.le_of_ble_eq_true rfl) dL_law_188 ?_
  refine j_istore hC dL_law_191 [(6, vI (r)), (5, vI (c)), (4, vI (i)), (1, .ref (gd g (0))), (2, .ref (gd g (19))), (3, .ref (gd g (27))), (0, .ref b)] (by decide) rfl ?_
  refine j_aload_n hC dL_law_193 4 rfl ?_
  refine j_callV1 (ar := 0) hC hR (c_X4_thrown (hlJ hC) g τ2) [] rfl 19 rfl rfl rfl (by decide) (by decide +kernel) rfl wd610 wd611 wd612 wd4 wd613 ⟨by decide, by omega⟩ (Nat.le_of_ble_eq_true rfl) dL_law_194 ?_
  refine j_iload hC dL_law_197 1 rfl ?_
  refine j_icmp_eq (tgt := 204) hC dL_law_199 (by decide) (by omega) (fun _ => ?_) (fun h => absurd h (by omega))
  refine j_iload hC dL_law_204 1 rfl ?_
  refine j_if_ne (tgt := 221) hC dL_law_206 (by decide) (by omega) (fun h206 => ?_) (fun h206 => ?_)
  · refine j_goto (tgt := 2154) hC dL_law_221 (by decide) ?_
    refine j_sub [2, 3, 4, 5, 6] rfl ?_
    refine j_widen (k2 := k + 68) (n2 := n + 340) (by omega) (by omega) ?_
    exact kx (τ2) hR2
  · refine j_aload_n hC dL_law_209 5 rfl ?_
    refine j_iconst hC dL_law_210 ?_
    refine j_lald0 hC dL_law_211 ?_
    refine j_iload hC dL_law_212 0 rfl ?_
    refine j_i2l hC dL_law_214 (by omega) ?_
    refine j_lcmpE hC (congrArg jI (e9 h206)) dL_law_215 ?_
    refine j_if_eq (tgt := 221) hC dL_law_216 (by decide) (by omega) (fun _ => ?_) (fun h => absurd h (by omega))
    refine j_goto (tgt := 2154) hC dL_law_221 (by decide) ?_
    refine j_sub [2, 3, 4, 5, 6] rfl ?_
    refine j_widen (k2 := k + 68) (n2 := n + 340) (by omega) (by omega) ?_
    exact kx (τ2) hR2
set_option maxHeartbeats 4000000 in
set_option maxRecDepth 100000 in
theorem lc_1 {mc : MC} {g : GG} {Q : State → Prop} {b L : Nat} {xs : Nat → Int32} {k n : Nat} {σ : Sg} (hC : Cx mc g cL_law RL 9 (some .boolean)) (hR : mR mc = rmJ 12 438 667605 7093289) (hX : va_X b L xs (mS mc) (mS mc).heap) (hbl : b < (mS mc).heap.size) (hbA : ¬ gA g b) (hRR : RC σ σ) (i : Int) (hi : 0 ≤ i ∧ i + 7 ≤ L ∧ L ≤ 3584) (hkn : k + 68 ≤ 667605 ∧ n + 340 ≤ 7093289) (kx : ∀ τ, RC τ τ → J mc g (k + 68) (n + 340) Q 2154 [(4, vI (i)), (1, .ref (gd g (0))), (2, .ref (gd g (19))), (3, .ref (gd g (27))), (0, .ref b)] [] τ) : J mc g k n Q 224 [(4, vI (i)), (1, .ref (gd g (0))), (2, .ref (gd g (19))), (3, .ref (gd g (27))), (0, .ref b)] [] σ := by
  obtain ⟨z1, a1, b1, e1⟩ := iI_of (xs (i + 1).toNat)
  obtain ⟨z2, a2, b2, e2⟩ := iI_of (xs (i + 2).toNat)
  obtain ⟨z3, a3, b3, e3⟩ := iI_of (xs (i + 3).toNat)
  obtain ⟨z4, a4, b4, e4⟩ := iI_of (xs (i + 4).toNat)
  obtain ⟨z5, a5, b5, e5⟩ := iI_of (xs (i + 5).toNat)
  obtain ⟨z6, a6, b6, e6⟩ := iI_of (xs (i + 6).toNat)
  obtain ⟨k1, n1, k2, n2, c, r, τ1, τ2, h1, h2, hk, hc, e7, e9, rr, hR2⟩ := st_addSign (hlJ hC) g hRR z1 z2 z3 z4 z5 z6 ⟨a1, b1⟩ ⟨a2, b2⟩ ⟨a3, b3⟩ ⟨a4, b4⟩ ⟨a5, b5⟩ ⟨a6, b6⟩
  have rr1 := rr.1
  have rr2 := rr.2
  refine j_aload_n hC dL_law_224 1 rfl ?_
  refine j_aload_n hC dL_law_225 4 rfl ?_
  refine j_iload hC dL_law_226 0 rfl ?_
  refine j_iconst hC dL_law_228 ?_
  refine j_iadd hC dL_law_229 ?_
  refine j_sld hC hX hbl hbA (by omega) dL_law_230 ?_
  rw [e1]
  refine j_aload_n hC dL_law_231 4 rfl ?_
  refine j_iload hC dL_law_232 0 rfl ?_
  refine j_iconst hC dL_law_234 ?_
  refine j_iadd hC dL_law_235 ?_
  refine j_sld hC hX hbl hbA (by omega) dL_law_236 ?_
  rw [e2]
  refine j_aload_n hC dL_law_237 4 rfl ?_
  refine j_iload hC dL_law_238 0 rfl ?_
  refine j_iconst hC dL_law_240 ?_
  refine j_iadd hC dL_law_241 ?_
  refine j_sld hC hX hbl hbA (by omega) dL_law_242 ?_
  rw [e3]
  refine j_aload_n hC dL_law_243 4 rfl ?_
  refine j_iload hC dL_law_244 0 rfl ?_
  refine j_iconst hC dL_law_246 ?_
  refine j_iadd hC dL_law_247 ?_
  refine j_sld hC hX hbl hbA (by omega) dL_law_248 ?_
  rw [e4]
  refine j_aload_n hC dL_law_249 4 rfl ?_
  refine j_iload hC dL_law_250 0 rfl ?_
  refine j_iconst hC dL_law_252 ?_
  refine j_iadd hC dL_law_253 ?_
  refine j_sld hC hX hbl hbA (by omega) dL_law_254 ?_
  rw [e5]
  refine j_aload_n hC dL_law_255 4 rfl ?_
  refine j_iload hC dL_law_256 0 rfl ?_
  refine j_bipush hC dL_law_258 (by decide) ?_
  refine j_iadd hC dL_law_260 ?_
  refine j_sld hC hX hbl hbA (by omega) dL_law_261 ?_
  rw [e6]
  refine j_aload_n hC dL_law_262 3 rfl ?_
  refine j_callSW1 (ar := 8) (hh := [(0, 18, 21, 19), (0, 18, 25, 21), (0, 18, 29, 13)]) hC hR h1 [] rfl (by decide) (by decide +kernel) rfl wd325 wd326 wd0 wd327 ⟨by decide, by omega⟩ (Nat.le_of_ble_eq_true rfl) dL_law_263 ?_
  refine j_istore hC dL_law_266 [(5, vI (c)), (4, vI (i)), (1, .ref (gd g (0))), (2, .ref (gd g (19))), (3, .ref (gd g (27))), (0, .ref b)] (by decide) rfl ?_
  refine j_aload_n hC dL_law_268 3 rfl ?_
  refine j_aload_n hC dL_law_269 5 rfl ?_
  refine j_iload hC dL_law_270 1 rfl ?_
  refine j_iconst hC dL_law_272 ?_
  refine j_iadd hC dL_law_273 ?_
  refine j_sld hC hX hbl hbA (by omega) dL_law_274 ?_
  rw [e1]
  refine j_aload_n hC dL_law_275 5 rfl ?_
  refine j_iload hC dL_law_276 1 rfl ?_
  refine j_iconst hC dL_law_278 ?_
  refine j_iadd hC dL_law_279 ?_
  refine j_sld hC hX hbl hbA (by omega) dL_law_280 ?_
  rw [e2]
  refine j_aload_n hC dL_law_281 5 rfl ?_
  refine j_iload hC dL_law_282 1 rfl ?_
  refine j_iconst hC dL_law_284 ?_
  refine j_iadd hC dL_law_285 ?_
  refine j_sld hC hX hbl hbA (by omega) dL_law_286 ?_
  rw [e3]
  refine j_aload_n hC dL_law_287 5 rfl ?_
  refine j_iload hC dL_law_288 1 rfl ?_
  refine j_iconst hC dL_law_290 ?_
  refine j_iadd hC dL_law_291 ?_
  refine j_sld hC hX hbl hbA (by omega) dL_law_292 ?_
  rw [e4]
  refine j_aload_n hC dL_law_293 5 rfl ?_
  refine j_iload hC dL_law_294 1 rfl ?_
  refine j_iconst hC dL_law_296 ?_
  refine j_iadd hC dL_law_297 ?_
  refine j_sld hC hX hbl hbA (by omega) dL_law_298 ?_
  rw [e5]
  refine j_aload_n hC dL_law_299 5 rfl ?_
  refine j_iload hC dL_law_300 1 rfl ?_
  refine j_bipush hC dL_law_302 (by decide) ?_
  refine j_iadd hC dL_law_304 ?_
  refine j_sld hC hX hbl hbA (by omega) dL_law_305 ?_
  rw [e6]
  refine j_callV1 (ar := 6) hC hR (h2) [] rfl 19 rfl rfl rfl (by decide) (by decide +kernel) rfl wd622 wd623 wd624 wd4 wd625 ⟨by decide, by omega⟩ (Nat.le_of_ble_eq_true rfl) dL_law_306 ?_
  refine j_istore hC dL_law_309 [(6, vI (r)), (5, vI (c)), (4, vI (i)), (1, .ref (gd g (0))), (2, .ref (gd g (19))), (3, .ref (gd g (27))), (0, .ref b)] (by decide) rfl ?_
  refine j_aload_n hC dL_law_311 4 rfl ?_
  refine j_callV1 (ar := 0) hC hR (c_X4_thrown (hlJ hC) g τ2) [] rfl 19 rfl rfl rfl (by decide) (by decide +kernel) rfl wd610 wd611 wd612 wd4 wd613 ⟨by decide, by omega⟩ (Nat.le_of_ble_eq_true rfl) dL_law_312 ?_
  refine j_iload hC dL_law_315 1 rfl ?_
  refine j_icmp_eq (tgt := 322) hC dL_law_317 (by decide) (by omega) (fun _ => ?_) (fun h => absurd h (by omega))
  refine j_iload hC dL_law_322 1 rfl ?_
  refine j_if_ne (tgt := 339) hC dL_law_324 (by decide) (by omega) (fun h324 => ?_) (fun h324 => ?_)
  · refine j_goto (tgt := 2154) hC dL_law_339 (by decide) ?_
    refine j_sub [2, 3, 4, 5, 6] rfl ?_
    refine j_widen (k2 := k + 68) (n2 := n + 340) (by omega) (by omega) ?_
    exact kx (τ2) hR2
  · refine j_aload_n hC dL_law_327 5 rfl ?_
    refine j_iconst hC dL_law_328 ?_
    refine j_lald0 hC dL_law_329 ?_
    refine j_iload hC dL_law_330 0 rfl ?_
    refine j_i2l hC dL_law_332 (by omega) ?_
    refine j_lcmpE hC (congrArg jI (e9 h324)) dL_law_333 ?_
    refine j_if_eq (tgt := 339) hC dL_law_334 (by decide) (by omega) (fun _ => ?_) (fun h => absurd h (by omega))
    refine j_goto (tgt := 2154) hC dL_law_339 (by decide) ?_
    refine j_sub [2, 3, 4, 5, 6] rfl ?_
    refine j_widen (k2 := k + 68) (n2 := n + 340) (by omega) (by omega) ?_
    exact kx (τ2) hR2
set_option maxHeartbeats 4000000 in
set_option maxRecDepth 100000 in
theorem lc_2 {mc : MC} {g : GG} {Q : State → Prop} {b L : Nat} {xs : Nat → Int32} {k n : Nat} {σ : Sg} (hC : Cx mc g cL_law RL 9 (some .boolean)) (hR : mR mc = rmJ 12 438 667605 7093289) (hX : va_X b L xs (mS mc) (mS mc).heap) (hbl : b < (mS mc).heap.size) (hbA : ¬ gA g b) (hRR : RC σ σ) (i : Int) (hi : 0 ≤ i ∧ i + 7 ≤ L ∧ L ≤ 3584) (hkn : k + 68 ≤ 667605 ∧ n + 340 ≤ 7093289) (kx : ∀ τ, RC τ τ → J mc g (k + 68) (n + 340) Q 2154 [(4, vI (i)), (1, .ref (gd g (0))), (2, .ref (gd g (19))), (3, .ref (gd g (27))), (0, .ref b)] [] τ) : J mc g k n Q 342 [(4, vI (i)), (1, .ref (gd g (0))), (2, .ref (gd g (19))), (3, .ref (gd g (27))), (0, .ref b)] [] σ := by
  obtain ⟨z1, a1, b1, e1⟩ := iI_of (xs (i + 1).toNat)
  obtain ⟨z2, a2, b2, e2⟩ := iI_of (xs (i + 2).toNat)
  obtain ⟨k1, n1, k2, n2, c, r, τ1, τ2, h1, h2, hk, hc, e7, e9, rr, hR2⟩ := st_forget (hlJ hC) g hRR z1 z2 ⟨a1, b1⟩ ⟨a2, b2⟩
  have rr1 := rr.1
  have rr2 := rr.2
  refine j_aload_n hC dL_law_342 1 rfl ?_
  refine j_aload_n hC dL_law_343 4 rfl ?_
  refine j_iload hC dL_law_344 0 rfl ?_
  refine j_iconst hC dL_law_346 ?_
  refine j_iadd hC dL_law_347 ?_
  refine j_sld hC hX hbl hbA (by omega) dL_law_348 ?_
  rw [e1]
  refine j_aload_n hC dL_law_349 4 rfl ?_
  refine j_iload hC dL_law_350 0 rfl ?_
  refine j_iconst hC dL_law_352 ?_
  refine j_iadd hC dL_law_353 ?_
  refine j_sld hC hX hbl hbA (by omega) dL_law_354 ?_
  rw [e2]
  refine j_aload_n hC dL_law_355 3 rfl ?_
  refine j_callSW1 (ar := 4) (hh := [(0, 10, 13, 19)]) hC hR h1 [] rfl (by decide) (by decide +kernel) rfl wd361 wd362 wd0 wd363 ⟨by decide, by omega⟩ (Nat.le_of_ble_eq_true rfl) dL_law_356 ?_
  refine j_istore hC dL_law_359 [(5, vI (c)), (4, vI (i)), (1, .ref (gd g (0))), (2, .ref (gd g (19))), (3, .ref (gd g (27))), (0, .ref b)] (by decide) rfl ?_
  refine j_aload_n hC dL_law_361 3 rfl ?_
  refine j_aload_n hC dL_law_362 5 rfl ?_
  refine j_iload hC dL_law_363 1 rfl ?_
  refine j_iconst hC dL_law_365 ?_
  refine j_iadd hC dL_law_366 ?_
  refine j_sld hC hX hbl hbA (by omega) dL_law_367 ?_
  rw [e1]
  refine j_aload_n hC dL_law_368 5 rfl ?_
  refine j_iload hC dL_law_369 1 rfl ?_
  refine j_iconst hC dL_law_371 ?_
  refine j_iadd hC dL_law_372 ?_
  refine j_sld hC hX hbl hbA (by omega) dL_law_373 ?_
  rw [e2]
  refine j_callV1 (ar := 2) hC hR (h2) [] rfl 19 rfl rfl rfl (by decide) (by decide +kernel) rfl wd650 wd651 wd652 wd4 wd653 ⟨by decide, by omega⟩ (Nat.le_of_ble_eq_true rfl) dL_law_374 ?_
  refine j_istore hC dL_law_377 [(6, vI (r)), (5, vI (c)), (4, vI (i)), (1, .ref (gd g (0))), (2, .ref (gd g (19))), (3, .ref (gd g (27))), (0, .ref b)] (by decide) rfl ?_
  refine j_aload_n hC dL_law_379 4 rfl ?_
  refine j_callV1 (ar := 0) hC hR (c_X4_thrown (hlJ hC) g τ2) [] rfl 19 rfl rfl rfl (by decide) (by decide +kernel) rfl wd610 wd611 wd612 wd4 wd613 ⟨by decide, by omega⟩ (Nat.le_of_ble_eq_true rfl) dL_law_380 ?_
  refine j_iload hC dL_law_383 1 rfl ?_
  refine j_icmp_eq (tgt := 390) hC dL_law_385 (by decide) (by omega) (fun _ => ?_) (fun h => absurd h (by omega))
  refine j_iload hC dL_law_390 1 rfl ?_
  refine j_if_ne (tgt := 407) hC dL_law_392 (by decide) (by omega) (fun h392 => ?_) (fun h392 => ?_)
  · refine j_goto (tgt := 2154) hC dL_law_407 (by decide) ?_
    refine j_sub [2, 3, 4, 5, 6] rfl ?_
    refine j_widen (k2 := k + 68) (n2 := n + 340) (by omega) (by omega) ?_
    exact kx (τ2) hR2
  · refine j_aload_n hC dL_law_395 5 rfl ?_
    refine j_iconst hC dL_law_396 ?_
    refine j_lald0 hC dL_law_397 ?_
    refine j_iload hC dL_law_398 0 rfl ?_
    refine j_i2l hC dL_law_400 (by omega) ?_
    refine j_lcmpE hC (congrArg jI (e9 h392)) dL_law_401 ?_
    refine j_if_eq (tgt := 407) hC dL_law_402 (by decide) (by omega) (fun _ => ?_) (fun h => absurd h (by omega))
    refine j_goto (tgt := 2154) hC dL_law_407 (by decide) ?_
    refine j_sub [2, 3, 4, 5, 6] rfl ?_
    refine j_widen (k2 := k + 68) (n2 := n + 340) (by omega) (by omega) ?_
    exact kx (τ2) hR2
set_option maxHeartbeats 4000000 in
set_option maxRecDepth 100000 in
theorem lc_3 {mc : MC} {g : GG} {Q : State → Prop} {b L : Nat} {xs : Nat → Int32} {k n : Nat} {σ : Sg} (hC : Cx mc g cL_law RL 9 (some .boolean)) (hR : mR mc = rmJ 12 438 667605 7093289) (hX : va_X b L xs (mS mc) (mS mc).heap) (hbl : b < (mS mc).heap.size) (hbA : ¬ gA g b) (hRR : RC σ σ) (i : Int) (hi : 0 ≤ i ∧ i + 7 ≤ L ∧ L ≤ 3584) (hkn : k + 68 ≤ 667605 ∧ n + 340 ≤ 7093289) (kx : ∀ τ, RC τ τ → J mc g (k + 68) (n + 340) Q 2154 [(4, vI (i)), (1, .ref (gd g (0))), (2, .ref (gd g (19))), (3, .ref (gd g (27))), (0, .ref b)] [] τ) : J mc g k n Q 410 [(4, vI (i)), (1, .ref (gd g (0))), (2, .ref (gd g (19))), (3, .ref (gd g (27))), (0, .ref b)] [] σ := by
  obtain ⟨z1, a1, b1, e1⟩ := iI_of (xs (i + 1).toNat)
  obtain ⟨z2, a2, b2, e2⟩ := iI_of (xs (i + 2).toNat)
  obtain ⟨z3, a3, b3, e3⟩ := iI_of (xs (i + 3).toNat)
  obtain ⟨k1, n1, k2, n2, c, r, τ1, τ2, h1, h2, hk, hc, e7, e9, rr, hR2⟩ := st_setThumb (hlJ hC) g hRR z1 z2 z3 ⟨a1, b1⟩ ⟨a2, b2⟩ ⟨a3, b3⟩
  have rr1 := rr.1
  have rr2 := rr.2
  refine j_aload_n hC dL_law_410 1 rfl ?_
  refine j_aload_n hC dL_law_411 4 rfl ?_
  refine j_iload hC dL_law_412 0 rfl ?_
  refine j_iconst hC dL_law_414 ?_
  refine j_iadd hC dL_law_415 ?_
  refine j_sld hC hX hbl hbA (by omega) dL_law_416 ?_
  rw [e1]
  refine j_aload_n hC dL_law_417 4 rfl ?_
  refine j_iload hC dL_law_418 0 rfl ?_
  refine j_iconst hC dL_law_420 ?_
  refine j_iadd hC dL_law_421 ?_
  refine j_sld hC hX hbl hbA (by omega) dL_law_422 ?_
  rw [e2]
  refine j_aload_n hC dL_law_423 4 rfl ?_
  refine j_iload hC dL_law_424 0 rfl ?_
  refine j_iconst hC dL_law_426 ?_
  refine j_iadd hC dL_law_427 ?_
  refine j_sld hC hX hbl hbA (by omega) dL_law_428 ?_
  rw [e3]
  refine j_aload_n hC dL_law_429 3 rfl ?_
  refine j_callSW1 (ar := 5) (hh := [(0, 12, 15, 19), (0, 12, 19, 21)]) hC hR h1 [] rfl (by decide) (by decide +kernel) rfl wd376 wd377 wd0 wd378 ⟨by decide, by omega⟩ (Nat.le_of_ble_eq_true rfl) dL_law_430 ?_
  refine j_istore hC dL_law_433 [(5, vI (c)), (4, vI (i)), (1, .ref (gd g (0))), (2, .ref (gd g (19))), (3, .ref (gd g (27))), (0, .ref b)] (by decide) rfl ?_
  refine j_aload_n hC dL_law_435 3 rfl ?_
  refine j_aload_n hC dL_law_436 5 rfl ?_
  refine j_iload hC dL_law_437 1 rfl ?_
  refine j_iconst hC dL_law_439 ?_
  refine j_iadd hC dL_law_440 ?_
  refine j_sld hC hX hbl hbA (by omega) dL_law_441 ?_
  rw [e1]
  refine j_aload_n hC dL_law_442 5 rfl ?_
  refine j_iload hC dL_law_443 1 rfl ?_
  refine j_iconst hC dL_law_445 ?_
  refine j_iadd hC dL_law_446 ?_
  refine j_sld hC hX hbl hbA (by omega) dL_law_447 ?_
  rw [e2]
  refine j_aload_n hC dL_law_448 5 rfl ?_
  refine j_iload hC dL_law_449 1 rfl ?_
  refine j_iconst hC dL_law_451 ?_
  refine j_iadd hC dL_law_452 ?_
  refine j_sld hC hX hbl hbA (by omega) dL_law_453 ?_
  rw [e3]
  refine j_callV1 (ar := 3) hC hR (h2) [] rfl 19 rfl rfl rfl (by decide) (by decide +kernel) rfl wd661 wd662 wd663 wd4 wd664 ⟨by decide, by omega⟩ (Nat.le_of_ble_eq_true rfl) dL_law_454 ?_
  refine j_istore hC dL_law_457 [(6, vI (r)), (5, vI (c)), (4, vI (i)), (1, .ref (gd g (0))), (2, .ref (gd g (19))), (3, .ref (gd g (27))), (0, .ref b)] (by decide) rfl ?_
  refine j_aload_n hC dL_law_459 4 rfl ?_
  refine j_callV1 (ar := 0) hC hR (c_X4_thrown (hlJ hC) g τ2) [] rfl 19 rfl rfl rfl (by decide) (by decide +kernel) rfl wd610 wd611 wd612 wd4 wd613 ⟨by decide, by omega⟩ (Nat.le_of_ble_eq_true rfl) dL_law_460 ?_
  refine j_iload hC dL_law_463 1 rfl ?_
  refine j_icmp_eq (tgt := 470) hC dL_law_465 (by decide) (by omega) (fun _ => ?_) (fun h => absurd h (by omega))
  refine j_iload hC dL_law_470 1 rfl ?_
  refine j_if_ne (tgt := 487) hC dL_law_472 (by decide) (by omega) (fun h472 => ?_) (fun h472 => ?_)
  · refine j_goto (tgt := 2154) hC dL_law_487 (by decide) ?_
    refine j_sub [2, 3, 4, 5, 6] rfl ?_
    refine j_widen (k2 := k + 68) (n2 := n + 340) (by omega) (by omega) ?_
    exact kx (τ2) hR2
  · refine j_aload_n hC dL_law_475 5 rfl ?_
    refine j_iconst hC dL_law_476 ?_
    refine j_lald0 hC dL_law_477 ?_
    refine j_iload hC dL_law_478 0 rfl ?_
    refine j_i2l hC dL_law_480 (by omega) ?_
    refine j_lcmpE hC (congrArg jI (e9 h472)) dL_law_481 ?_
    refine j_if_eq (tgt := 487) hC dL_law_482 (by decide) (by omega) (fun _ => ?_) (fun h => absurd h (by omega))
    refine j_goto (tgt := 2154) hC dL_law_487 (by decide) ?_
    refine j_sub [2, 3, 4, 5, 6] rfl ?_
    refine j_widen (k2 := k + 68) (n2 := n + 340) (by omega) (by omega) ?_
    exact kx (τ2) hR2
set_option maxHeartbeats 4000000 in
set_option maxRecDepth 100000 in
theorem lc_4 {mc : MC} {g : GG} {Q : State → Prop} {b L : Nat} {xs : Nat → Int32} {k n : Nat} {σ : Sg} (hC : Cx mc g cL_law RL 9 (some .boolean)) (hR : mR mc = rmJ 12 438 667605 7093289) (hX : va_X b L xs (mS mc) (mS mc).heap) (hbl : b < (mS mc).heap.size) (hbA : ¬ gA g b) (hRR : RC σ σ) (i : Int) (hi : 0 ≤ i ∧ i + 7 ≤ L ∧ L ≤ 3584) (hkn : k + 68 ≤ 667605 ∧ n + 340 ≤ 7093289) (kx : ∀ τ, RC τ τ → J mc g (k + 68) (n + 340) Q 2154 [(4, vI (i)), (1, .ref (gd g (0))), (2, .ref (gd g (19))), (3, .ref (gd g (27))), (0, .ref b)] [] τ) : J mc g k n Q 490 [(4, vI (i)), (1, .ref (gd g (0))), (2, .ref (gd g (19))), (3, .ref (gd g (27))), (0, .ref b)] [] σ := by
  obtain ⟨z1, a1, b1, e1⟩ := iI_of (xs (i + 1).toNat)
  obtain ⟨z2, a2, b2, e2⟩ := iI_of (xs (i + 2).toNat)
  obtain ⟨k1, n1, k2, n2, c, r, τ1, τ2, h1, h2, hk, hc, e7, e9, rr, hR2⟩ := st_join (hlJ hC) g hRR z1 z2 ⟨a1, b1⟩ ⟨a2, b2⟩
  have rr1 := rr.1
  have rr2 := rr.2
  refine j_aload_n hC dL_law_490 1 rfl ?_
  refine j_aload_n hC dL_law_491 4 rfl ?_
  refine j_iload hC dL_law_492 0 rfl ?_
  refine j_iconst hC dL_law_494 ?_
  refine j_iadd hC dL_law_495 ?_
  refine j_sld hC hX hbl hbA (by omega) dL_law_496 ?_
  rw [e1]
  refine j_aload_n hC dL_law_497 4 rfl ?_
  refine j_iload hC dL_law_498 0 rfl ?_
  refine j_iconst hC dL_law_500 ?_
  refine j_iadd hC dL_law_501 ?_
  refine j_sld hC hX hbl hbA (by omega) dL_law_502 ?_
  rw [e2]
  refine j_aload_n hC dL_law_503 3 rfl ?_
  refine j_callSW1 (ar := 4) (hh := [(0, 10, 13, 19)]) hC hR h1 [] rfl (by decide) (by decide +kernel) rfl wd384 wd385 wd0 wd386 ⟨by decide, by omega⟩ (Nat.le_of_ble_eq_true rfl) dL_law_504 ?_
  refine j_istore hC dL_law_507 [(5, vI (c)), (4, vI (i)), (1, .ref (gd g (0))), (2, .ref (gd g (19))), (3, .ref (gd g (27))), (0, .ref b)] (by decide) rfl ?_
  refine j_aload_n hC dL_law_509 3 rfl ?_
  refine j_aload_n hC dL_law_510 5 rfl ?_
  refine j_iload hC dL_law_511 1 rfl ?_
  refine j_iconst hC dL_law_513 ?_
  refine j_iadd hC dL_law_514 ?_
  refine j_sld hC hX hbl hbA (by omega) dL_law_515 ?_
  rw [e1]
  refine j_aload_n hC dL_law_516 5 rfl ?_
  refine j_iload hC dL_law_517 1 rfl ?_
  refine j_iconst hC dL_law_519 ?_
  refine j_iadd hC dL_law_520 ?_
  refine j_sld hC hX hbl hbA (by omega) dL_law_521 ?_
  rw [e2]
  refine j_callV1 (ar := 2) hC hR (h2) [] rfl 19 rfl rfl rfl (by decide) (by decide +kernel) rfl wd665 wd666 wd667 wd4 wd668 ⟨by decide, by omega⟩ (Nat.le_of_ble_eq_true rfl) dL_law_522 ?_
  refine j_istore hC dL_law_525 [(6, vI (r)), (5, vI (c)), (4, vI (i)), (1, .ref (gd g (0))), (2, .ref (gd g (19))), (3, .ref (gd g (27))), (0, .ref b)] (by decide) rfl ?_
  refine j_aload_n hC dL_law_527 4 rfl ?_
  refine j_callV1 (ar := 0) hC hR (c_X4_thrown (hlJ hC) g τ2) [] rfl 19 rfl rfl rfl (by decide) (by decide +kernel) rfl wd610 wd611 wd612 wd4 wd613 ⟨by decide, by omega⟩ (Nat.le_of_ble_eq_true rfl) dL_law_528 ?_
  refine j_iload hC dL_law_531 1 rfl ?_
  refine j_icmp_eq (tgt := 538) hC dL_law_533 (by decide) (by omega) (fun _ => ?_) (fun h => absurd h (by omega))
  refine j_iload hC dL_law_538 1 rfl ?_
  refine j_if_ne (tgt := 555) hC dL_law_540 (by decide) (by omega) (fun h540 => ?_) (fun h540 => ?_)
  · refine j_goto (tgt := 2154) hC dL_law_555 (by decide) ?_
    refine j_sub [2, 3, 4, 5, 6] rfl ?_
    refine j_widen (k2 := k + 68) (n2 := n + 340) (by omega) (by omega) ?_
    exact kx (τ2) hR2
  · refine j_aload_n hC dL_law_543 5 rfl ?_
    refine j_iconst hC dL_law_544 ?_
    refine j_lald0 hC dL_law_545 ?_
    refine j_iload hC dL_law_546 0 rfl ?_
    refine j_i2l hC dL_law_548 (by omega) ?_
    refine j_lcmpE hC (congrArg jI (e9 h540)) dL_law_549 ?_
    refine j_if_eq (tgt := 555) hC dL_law_550 (by decide) (by omega) (fun _ => ?_) (fun h => absurd h (by omega))
    refine j_goto (tgt := 2154) hC dL_law_555 (by decide) ?_
    refine j_sub [2, 3, 4, 5, 6] rfl ?_
    refine j_widen (k2 := k + 68) (n2 := n + 340) (by omega) (by omega) ?_
    exact kx (τ2) hR2
set_option maxHeartbeats 4000000 in
set_option maxRecDepth 100000 in
theorem lc_5 {mc : MC} {g : GG} {Q : State → Prop} {b L : Nat} {xs : Nat → Int32} {k n : Nat} {σ : Sg} (hC : Cx mc g cL_law RL 9 (some .boolean)) (hR : mR mc = rmJ 12 438 667605 7093289) (hX : va_X b L xs (mS mc) (mS mc).heap) (hbl : b < (mS mc).heap.size) (hbA : ¬ gA g b) (hRR : RC σ σ) (i : Int) (hi : 0 ≤ i ∧ i + 7 ≤ L ∧ L ≤ 3584) (hkn : k + 68 ≤ 667605 ∧ n + 340 ≤ 7093289) (kx : ∀ τ, RC τ τ → J mc g (k + 68) (n + 340) Q 2154 [(4, vI (i)), (1, .ref (gd g (0))), (2, .ref (gd g (19))), (3, .ref (gd g (27))), (0, .ref b)] [] τ) : J mc g k n Q 558 [(4, vI (i)), (1, .ref (gd g (0))), (2, .ref (gd g (19))), (3, .ref (gd g (27))), (0, .ref b)] [] σ := by
  obtain ⟨z1, a1, b1, e1⟩ := iI_of (xs (i + 1).toNat)
  obtain ⟨z2, a2, b2, e2⟩ := iI_of (xs (i + 2).toNat)
  obtain ⟨z3, a3, b3, e3⟩ := iI_of (xs (i + 3).toNat)
  obtain ⟨k1, n1, k2, n2, c, r, τ1, τ2, h1, h2, hk, hc, e7, e9, rr, hR2⟩ := st_borrow (hlJ hC) g hRR z1 z2 z3 ⟨a1, b1⟩ ⟨a2, b2⟩ ⟨a3, b3⟩
  have rr1 := rr.1
  have rr2 := rr.2
  refine j_aload_n hC dL_law_558 1 rfl ?_
  refine j_aload_n hC dL_law_559 4 rfl ?_
  refine j_iload hC dL_law_560 0 rfl ?_
  refine j_iconst hC dL_law_562 ?_
  refine j_iadd hC dL_law_563 ?_
  refine j_sld hC hX hbl hbA (by omega) dL_law_564 ?_
  rw [e1]
  refine j_aload_n hC dL_law_565 4 rfl ?_
  refine j_iload hC dL_law_566 0 rfl ?_
  refine j_iconst hC dL_law_568 ?_
  refine j_iadd hC dL_law_569 ?_
  refine j_sld hC hX hbl hbA (by omega) dL_law_570 ?_
  rw [e2]
  refine j_aload_n hC dL_law_571 4 rfl ?_
  refine j_iload hC dL_law_572 0 rfl ?_
  refine j_iconst hC dL_law_574 ?_
  refine j_iadd hC dL_law_575 ?_
  refine j_sld hC hX hbl hbA (by omega) dL_law_576 ?_
  rw [e3]
  refine j_aload_n hC dL_law_577 3 rfl ?_
  refine j_callSW1 (ar := 5) (hh := [(0, 12, 15, 19), (0, 12, 19, 21), (0, 12, 23, 13)]) hC hR h1 [] rfl (by decide) (by decide +kernel) rfl wd398 wd399 wd0 wd400 ⟨by decide, by omega⟩ (Nat.le_of_ble_eq_true rfl) dL_law_578 ?_
  refine j_istore hC dL_law_581 [(5, vI (c)), (4, vI (i)), (1, .ref (gd g (0))), (2, .ref (gd g (19))), (3, .ref (gd g (27))), (0, .ref b)] (by decide) rfl ?_
  refine j_aload_n hC dL_law_583 3 rfl ?_
  refine j_aload_n hC dL_law_584 5 rfl ?_
  refine j_iload hC dL_law_585 1 rfl ?_
  refine j_iconst hC dL_law_587 ?_
  refine j_iadd hC dL_law_588 ?_
  refine j_sld hC hX hbl hbA (by omega) dL_law_589 ?_
  rw [e1]
  refine j_aload_n hC dL_law_590 5 rfl ?_
  refine j_iload hC dL_law_591 1 rfl ?_
  refine j_iconst hC dL_law_593 ?_
  refine j_iadd hC dL_law_594 ?_
  refine j_sld hC hX hbl hbA (by omega) dL_law_595 ?_
  rw [e2]
  refine j_aload_n hC dL_law_596 5 rfl ?_
  refine j_iload hC dL_law_597 1 rfl ?_
  refine j_iconst hC dL_law_599 ?_
  refine j_iadd hC dL_law_600 ?_
  refine j_sld hC hX hbl hbA (by omega) dL_law_601 ?_
  rw [e3]
  refine j_callV1 (ar := 3) hC hR (h2) [] rfl 19 rfl rfl rfl (by decide) (by decide +kernel) rfl wd681 wd682 wd683 wd4 wd684 ⟨by decide, by omega⟩ (Nat.le_of_ble_eq_true rfl) dL_law_602 ?_
  refine j_istore hC dL_law_605 [(6, vI (r)), (5, vI (c)), (4, vI (i)), (1, .ref (gd g (0))), (2, .ref (gd g (19))), (3, .ref (gd g (27))), (0, .ref b)] (by decide) rfl ?_
  refine j_aload_n hC dL_law_607 4 rfl ?_
  refine j_callV1 (ar := 0) hC hR (c_X4_thrown (hlJ hC) g τ2) [] rfl 19 rfl rfl rfl (by decide) (by decide +kernel) rfl wd610 wd611 wd612 wd4 wd613 ⟨by decide, by omega⟩ (Nat.le_of_ble_eq_true rfl) dL_law_608 ?_
  refine j_iload hC dL_law_611 1 rfl ?_
  refine j_icmp_eq (tgt := 618) hC dL_law_613 (by decide) (by omega) (fun _ => ?_) (fun h => absurd h (by omega))
  refine j_iload hC dL_law_618 1 rfl ?_
  refine j_if_ne (tgt := 635) hC dL_law_620 (by decide) (by omega) (fun h620 => ?_) (fun h620 => ?_)
  · refine j_goto (tgt := 2154) hC dL_law_635 (by decide) ?_
    refine j_sub [2, 3, 4, 5, 6] rfl ?_
    refine j_widen (k2 := k + 68) (n2 := n + 340) (by omega) (by omega) ?_
    exact kx (τ2) hR2
  · refine j_aload_n hC dL_law_623 5 rfl ?_
    refine j_iconst hC dL_law_624 ?_
    refine j_lald0 hC dL_law_625 ?_
    refine j_iload hC dL_law_626 0 rfl ?_
    refine j_i2l hC dL_law_628 (by omega) ?_
    refine j_lcmpE hC (congrArg jI (e9 h620)) dL_law_629 ?_
    refine j_if_eq (tgt := 635) hC dL_law_630 (by decide) (by omega) (fun _ => ?_) (fun h => absurd h (by omega))
    refine j_goto (tgt := 2154) hC dL_law_635 (by decide) ?_
    refine j_sub [2, 3, 4, 5, 6] rfl ?_
    refine j_widen (k2 := k + 68) (n2 := n + 340) (by omega) (by omega) ?_
    exact kx (τ2) hR2
set_option maxHeartbeats 4000000 in
set_option maxRecDepth 100000 in
theorem lc_6 {mc : MC} {g : GG} {Q : State → Prop} {b L : Nat} {xs : Nat → Int32} {k n : Nat} {σ : Sg} (hC : Cx mc g cL_law RL 9 (some .boolean)) (hR : mR mc = rmJ 12 438 667605 7093289) (hX : va_X b L xs (mS mc) (mS mc).heap) (hbl : b < (mS mc).heap.size) (hbA : ¬ gA g b) (hRR : RC σ σ) (i : Int) (hi : 0 ≤ i ∧ i + 7 ≤ L ∧ L ≤ 3584) (hkn : k + 68 ≤ 667605 ∧ n + 340 ≤ 7093289) (kx : ∀ τ, RC τ τ → J mc g (k + 68) (n + 340) Q 2154 [(4, vI (i)), (1, .ref (gd g (0))), (2, .ref (gd g (19))), (3, .ref (gd g (27))), (0, .ref b)] [] τ) : J mc g k n Q 638 [(4, vI (i)), (1, .ref (gd g (0))), (2, .ref (gd g (19))), (3, .ref (gd g (27))), (0, .ref b)] [] σ := by
  have hI := hRR.1
  have hM := hRR.2.1
  have hv : σ.1 1 = agM σ := hRR.2.2.1.2.2
  have hrg := hI.2.1
  refine j_aload_n hC dL_law_638 1 rfl ?_
  refine j_callV1 (ar := 0) hC hR (c_X3_groups (hlJ hC) g σ hI) [] rfl 0 rfl rfl rfl (by decide) (by decide +kernel) rfl wd74 wd75 wd76 wd1 wd77 ⟨by decide, by omega⟩ (Nat.le_of_ble_eq_true rfl) dL_law_639 ?_
  refine j_aload_n hC dL_law_642 2 rfl ?_
  refine j_callV1 (ar := 0) hC hR (c_X4_groups (hlJ hC) g σ hM) [vI (σ.1 1)] rfl 19 rfl rfl rfl (by decide) (by decide +kernel) rfl wd698 wd699 wd700 wd4 wd701 ⟨by decide, by omega⟩ (Nat.le_of_ble_eq_true rfl) dL_law_643 ?_
  refine j_icmp_eq (tgt := 2154) hC dL_law_646 (by decide) (by omega) (fun _ => ?_) (fun h => absurd h (by omega))
  refine j_sub [0, 1, 2, 3, 4] rfl ?_
  refine j_widen (k2 := k + 68) (n2 := n + 340) (by omega) (by omega) ?_
  exact kx (sF σ 7 0) (RC_cg hRR (eqC_sF (by decide)) (eqM_sF (by decide)) b03)
set_option maxHeartbeats 4000000 in
set_option maxRecDepth 100000 in
theorem lc_7 {mc : MC} {g : GG} {Q : State → Prop} {b L : Nat} {xs : Nat → Int32} {k n : Nat} {σ : Sg} (hC : Cx mc g cL_law RL 9 (some .boolean)) (hR : mR mc = rmJ 12 438 667605 7093289) (hX : va_X b L xs (mS mc) (mS mc).heap) (hbl : b < (mS mc).heap.size) (hbA : ¬ gA g b) (hRR : RC σ σ) (i : Int) (hi : 0 ≤ i ∧ i + 7 ≤ L ∧ L ≤ 3584) (hkn : k + 68 ≤ 667605 ∧ n + 340 ≤ 7093289) (kx : ∀ τ, RC τ τ → J mc g (k + 68) (n + 340) Q 2154 [(4, vI (i)), (1, .ref (gd g (0))), (2, .ref (gd g (19))), (3, .ref (gd g (27))), (0, .ref b)] [] τ) : J mc g k n Q 651 [(4, vI (i)), (1, .ref (gd g (0))), (2, .ref (gd g (19))), (3, .ref (gd g (27))), (0, .ref b)] [] σ := by
  obtain ⟨z1, a1, b1, e1⟩ := iI_of (xs (i + 1).toNat)
  obtain ⟨z2, a2, b2, e2⟩ := iI_of (xs (i + 2).toNat)
  obtain ⟨k1, n1, k2, n2, c, r, τ1, τ2, h1, h2, hk, hc, e7, e9, rr, hR2⟩ := st_areJoined (hlJ hC) g hRR z1 z2 ⟨a1, b1⟩ ⟨a2, b2⟩
  rcases rr with rfl | rfl
  · refine j_aload_n hC dL_law_651 1 rfl ?_
    refine j_aload_n hC dL_law_652 4 rfl ?_
    refine j_iload hC dL_law_653 0 rfl ?_
    refine j_iconst hC dL_law_655 ?_
    refine j_iadd hC dL_law_656 ?_
    refine j_sld hC hX hbl hbA (by omega) dL_law_657 ?_
    rw [e1]
    refine j_aload_n hC dL_law_658 4 rfl ?_
    refine j_iload hC dL_law_659 0 rfl ?_
    refine j_iconst hC dL_law_661 ?_
    refine j_iadd hC dL_law_662 ?_
    refine j_sld hC hX hbl hbA (by omega) dL_law_663 ?_
    rw [e2]
    refine j_aload_n hC dL_law_664 3 rfl ?_
    refine j_callSW1 (ar := 4) (hh := [(0, 17, 20, 19)]) hC hR h1 [] rfl (by decide) (by decide +kernel) rfl wd407 wd408 wd0 wd409 ⟨by decide, by omega⟩ (Nat.le_of_ble_eq_true rfl) dL_law_665 ?_
    refine j_istore hC dL_law_668 [(5, vI (c)), (4, vI (i)), (1, .ref (gd g (0))), (2, .ref (gd g (19))), (3, .ref (gd g (27))), (0, .ref b)] (by decide) rfl ?_
    refine j_aload_n hC dL_law_670 3 rfl ?_
    refine j_aload_n hC dL_law_671 5 rfl ?_
    refine j_iload hC dL_law_672 1 rfl ?_
    refine j_iconst hC dL_law_674 ?_
    refine j_iadd hC dL_law_675 ?_
    refine j_sld hC hX hbl hbA (by omega) dL_law_676 ?_
    rw [e1]
    refine j_aload_n hC dL_law_677 5 rfl ?_
    refine j_iload hC dL_law_678 1 rfl ?_
    refine j_iconst hC dL_law_680 ?_
    refine j_iadd hC dL_law_681 ?_
    refine j_sld hC hX hbl hbA (by omega) dL_law_682 ?_
    rw [e2]
    refine j_callV1 (ar := 2) hC hR (h2) [] rfl 19 rfl rfl rfl (by decide) (by decide +kernel) rfl wd706 wd707 wd708 wd4 wd709 ⟨by decide, by omega⟩ (Nat.le_of_ble_eq_true rfl) dL_law_683 ?_
    refine j_istore hC dL_law_686 [(6, vI (0)), (5, vI (c)), (4, vI (i)), (1, .ref (gd g (0))), (2, .ref (gd g (19))), (3, .ref (gd g (27))), (0, .ref b)] (by decide) rfl ?_
    refine j_aload_n hC dL_law_688 4 rfl ?_
    refine j_callV1 (ar := 0) hC hR (c_X4_thrown (hlJ hC) g τ2) [] rfl 19 rfl rfl rfl (by decide) (by decide +kernel) rfl wd610 wd611 wd612 wd4 wd613 ⟨by decide, by omega⟩ (Nat.le_of_ble_eq_true rfl) dL_law_689 ?_
    refine j_iload hC dL_law_692 1 rfl ?_
    refine j_icmp_eq (tgt := 699) hC dL_law_694 (by decide) (by omega) (fun _ => ?_) (fun h => absurd h (by omega))
    refine j_iload hC dL_law_699 1 rfl ?_
    refine j_if_ne (tgt := 723) hC dL_law_701 (by decide) (by omega) (fun h701 => ?_) (fun h701 => ?_)
    · refine j_goto (tgt := 2154) hC dL_law_723 (by decide) ?_
      refine j_sub [2, 3, 4, 5, 6] rfl ?_
      refine j_widen (k2 := k + 68) (n2 := n + 340) (by omega) (by omega) ?_
      exact kx (τ2) hR2
    · refine j_aload_n hC dL_law_704 5 rfl ?_
      refine j_iconst hC dL_law_705 ?_
      refine j_lald0 hC dL_law_706 ?_
      refine j_iload hC dL_law_707 0 rfl ?_
      refine j_if_eq (tgt := 716) hC dL_law_709 (by decide) (by omega) (fun _ => ?_) (fun h => absurd h (by omega))
      refine j_lconst (v := jI 0) hC dL_law_716 (by decide) ?_
      refine j_lcmpE hC (congrArg jI (e9 h701)) dL_law_717 ?_
      refine j_if_eq (tgt := 723) hC dL_law_718 (by decide) (by omega) (fun _ => ?_) (fun h => absurd h (by omega))
      refine j_goto (tgt := 2154) hC dL_law_723 (by decide) ?_
      refine j_sub [2, 3, 4, 5, 6] rfl ?_
      refine j_widen (k2 := k + 68) (n2 := n + 340) (by omega) (by omega) ?_
      exact kx (τ2) hR2
  · refine j_aload_n hC dL_law_651 1 rfl ?_
    refine j_aload_n hC dL_law_652 4 rfl ?_
    refine j_iload hC dL_law_653 0 rfl ?_
    refine j_iconst hC dL_law_655 ?_
    refine j_iadd hC dL_law_656 ?_
    refine j_sld hC hX hbl hbA (by omega) dL_law_657 ?_
    rw [e1]
    refine j_aload_n hC dL_law_658 4 rfl ?_
    refine j_iload hC dL_law_659 0 rfl ?_
    refine j_iconst hC dL_law_661 ?_
    refine j_iadd hC dL_law_662 ?_
    refine j_sld hC hX hbl hbA (by omega) dL_law_663 ?_
    rw [e2]
    refine j_aload_n hC dL_law_664 3 rfl ?_
    refine j_callSW1 (ar := 4) (hh := [(0, 17, 20, 19)]) hC hR h1 [] rfl (by decide) (by decide +kernel) rfl wd407 wd408 wd0 wd409 ⟨by decide, by omega⟩ (Nat.le_of_ble_eq_true rfl) dL_law_665 ?_
    refine j_istore hC dL_law_668 [(5, vI (c)), (4, vI (i)), (1, .ref (gd g (0))), (2, .ref (gd g (19))), (3, .ref (gd g (27))), (0, .ref b)] (by decide) rfl ?_
    refine j_aload_n hC dL_law_670 3 rfl ?_
    refine j_aload_n hC dL_law_671 5 rfl ?_
    refine j_iload hC dL_law_672 1 rfl ?_
    refine j_iconst hC dL_law_674 ?_
    refine j_iadd hC dL_law_675 ?_
    refine j_sld hC hX hbl hbA (by omega) dL_law_676 ?_
    rw [e1]
    refine j_aload_n hC dL_law_677 5 rfl ?_
    refine j_iload hC dL_law_678 1 rfl ?_
    refine j_iconst hC dL_law_680 ?_
    refine j_iadd hC dL_law_681 ?_
    refine j_sld hC hX hbl hbA (by omega) dL_law_682 ?_
    rw [e2]
    refine j_callV1 (ar := 2) hC hR (h2) [] rfl 19 rfl rfl rfl (by decide) (by decide +kernel) rfl wd706 wd707 wd708 wd4 wd709 ⟨by decide, by omega⟩ (Nat.le_of_ble_eq_true rfl) dL_law_683 ?_
    refine j_istore hC dL_law_686 [(6, vI (1)), (5, vI (c)), (4, vI (i)), (1, .ref (gd g (0))), (2, .ref (gd g (19))), (3, .ref (gd g (27))), (0, .ref b)] (by decide) rfl ?_
    refine j_aload_n hC dL_law_688 4 rfl ?_
    refine j_callV1 (ar := 0) hC hR (c_X4_thrown (hlJ hC) g τ2) [] rfl 19 rfl rfl rfl (by decide) (by decide +kernel) rfl wd610 wd611 wd612 wd4 wd613 ⟨by decide, by omega⟩ (Nat.le_of_ble_eq_true rfl) dL_law_689 ?_
    refine j_iload hC dL_law_692 1 rfl ?_
    refine j_icmp_eq (tgt := 699) hC dL_law_694 (by decide) (by omega) (fun _ => ?_) (fun h => absurd h (by omega))
    refine j_iload hC dL_law_699 1 rfl ?_
    refine j_if_ne (tgt := 723) hC dL_law_701 (by decide) (by omega) (fun h701 => ?_) (fun h701 => ?_)
    · refine j_goto (tgt := 2154) hC dL_law_723 (by decide) ?_
      refine j_sub [2, 3, 4, 5, 6] rfl ?_
      refine j_widen (k2 := k + 68) (n2 := n + 340) (by omega) (by omega) ?_
      exact kx (τ2) hR2
    · refine j_aload_n hC dL_law_704 5 rfl ?_
      refine j_iconst hC dL_law_705 ?_
      refine j_lald0 hC dL_law_706 ?_
      refine j_iload hC dL_law_707 0 rfl ?_
      refine j_if_eq (tgt := 716) hC dL_law_709 (by decide) (by omega) (fun h => absurd h (by omega)) (fun _ => ?_)
      refine j_lconst (v := jI 1) hC dL_law_712 (by decide) ?_
      refine j_goto (tgt := 717) hC dL_law_713 (by decide) ?_
      refine j_lcmpE hC (congrArg jI (e9 h701)) dL_law_717 ?_
      refine j_if_eq (tgt := 723) hC dL_law_718 (by decide) (by omega) (fun _ => ?_) (fun h => absurd h (by omega))
      refine j_goto (tgt := 2154) hC dL_law_723 (by decide) ?_
      refine j_sub [2, 3, 4, 5, 6] rfl ?_
      refine j_widen (k2 := k + 68) (n2 := n + 340) (by omega) (by omega) ?_
      exact kx (τ2) hR2
set_option maxHeartbeats 4000000 in
set_option maxRecDepth 100000 in
theorem lc_8 {mc : MC} {g : GG} {Q : State → Prop} {b L : Nat} {xs : Nat → Int32} {k n : Nat} {σ : Sg} (hC : Cx mc g cL_law RL 9 (some .boolean)) (hR : mR mc = rmJ 12 438 667605 7093289) (hX : va_X b L xs (mS mc) (mS mc).heap) (hbl : b < (mS mc).heap.size) (hbA : ¬ gA g b) (hRR : RC σ σ) (i : Int) (hi : 0 ≤ i ∧ i + 7 ≤ L ∧ L ≤ 3584) (hkn : k + 68 ≤ 667605 ∧ n + 340 ≤ 7093289) (kx : ∀ τ, RC τ τ → J mc g (k + 68) (n + 340) Q 2154 [(4, vI (i)), (1, .ref (gd g (0))), (2, .ref (gd g (19))), (3, .ref (gd g (27))), (0, .ref b)] [] τ) : J mc g k n Q 726 [(4, vI (i)), (1, .ref (gd g (0))), (2, .ref (gd g (19))), (3, .ref (gd g (27))), (0, .ref b)] [] σ := by
  obtain ⟨z1, a1, b1, e1⟩ := iI_of (xs (i + 1).toNat)
  obtain ⟨z2, a2, b2, e2⟩ := iI_of (xs (i + 2).toNat)
  obtain ⟨k1, n1, k2, n2, c, r, τ1, τ2, h1, h2, hk, hc, e7, e9, rr, hR2⟩ := st_steps (hlJ hC) g hRR z1 z2 ⟨a1, b1⟩ ⟨a2, b2⟩
  have rr1 := rr.1
  have rr2 := rr.2
  refine j_aload_n hC dL_law_726 1 rfl ?_
  refine j_aload_n hC dL_law_727 4 rfl ?_
  refine j_iload hC dL_law_728 0 rfl ?_
  refine j_iconst hC dL_law_730 ?_
  refine j_iadd hC dL_law_731 ?_
  refine j_sld hC hX hbl hbA (by omega) dL_law_732 ?_
  rw [e1]
  refine j_aload_n hC dL_law_733 4 rfl ?_
  refine j_iload hC dL_law_734 0 rfl ?_
  refine j_iconst hC dL_law_736 ?_
  refine j_iadd hC dL_law_737 ?_
  refine j_sld hC hX hbl hbA (by omega) dL_law_738 ?_
  rw [e2]
  refine j_aload_n hC dL_law_739 3 rfl ?_
  refine j_callSW1 (ar := 4) (hh := [(0, 10, 13, 19)]) hC hR h1 [] rfl (by decide) (by decide +kernel) rfl wd415 wd416 wd0 wd417 ⟨by decide, by omega⟩ (Nat.le_of_ble_eq_true rfl) dL_law_740 ?_
  refine j_istore hC dL_law_743 [(5, vI (c)), (4, vI (i)), (1, .ref (gd g (0))), (2, .ref (gd g (19))), (3, .ref (gd g (27))), (0, .ref b)] (by decide) rfl ?_
  refine j_aload_n hC dL_law_745 3 rfl ?_
  refine j_aload_n hC dL_law_746 5 rfl ?_
  refine j_iload hC dL_law_747 1 rfl ?_
  refine j_iconst hC dL_law_749 ?_
  refine j_iadd hC dL_law_750 ?_
  refine j_sld hC hX hbl hbA (by omega) dL_law_751 ?_
  rw [e1]
  refine j_aload_n hC dL_law_752 5 rfl ?_
  refine j_iload hC dL_law_753 1 rfl ?_
  refine j_iconst hC dL_law_755 ?_
  refine j_iadd hC dL_law_756 ?_
  refine j_sld hC hX hbl hbA (by omega) dL_law_757 ?_
  rw [e2]
  refine j_callV1 (ar := 2) hC hR (h2) [] rfl 19 rfl rfl rfl (by decide) (by decide +kernel) rfl wd710 wd711 wd712 wd4 wd713 ⟨by decide, by omega⟩ (Nat.le_of_ble_eq_true rfl) dL_law_758 ?_
  refine j_istore hC dL_law_761 [(6, vI (r)), (5, vI (c)), (4, vI (i)), (1, .ref (gd g (0))), (2, .ref (gd g (19))), (3, .ref (gd g (27))), (0, .ref b)] (by decide) rfl ?_
  refine j_aload_n hC dL_law_763 4 rfl ?_
  refine j_callV1 (ar := 0) hC hR (c_X4_thrown (hlJ hC) g τ2) [] rfl 19 rfl rfl rfl (by decide) (by decide +kernel) rfl wd610 wd611 wd612 wd4 wd613 ⟨by decide, by omega⟩ (Nat.le_of_ble_eq_true rfl) dL_law_764 ?_
  refine j_iload hC dL_law_767 1 rfl ?_
  refine j_icmp_eq (tgt := 774) hC dL_law_769 (by decide) (by omega) (fun _ => ?_) (fun h => absurd h (by omega))
  refine j_iload hC dL_law_774 1 rfl ?_
  refine j_if_ne (tgt := 791) hC dL_law_776 (by decide) (by omega) (fun h776 => ?_) (fun h776 => ?_)
  · refine j_goto (tgt := 2154) hC dL_law_791 (by decide) ?_
    refine j_sub [2, 3, 4, 5, 6] rfl ?_
    refine j_widen (k2 := k + 68) (n2 := n + 340) (by omega) (by omega) ?_
    exact kx (τ2) hR2
  · refine j_aload_n hC dL_law_779 5 rfl ?_
    refine j_iconst hC dL_law_780 ?_
    refine j_lald0 hC dL_law_781 ?_
    refine j_iload hC dL_law_782 0 rfl ?_
    refine j_i2l hC dL_law_784 (by omega) ?_
    refine j_lcmpE hC (congrArg jI (e9 h776)) dL_law_785 ?_
    refine j_if_eq (tgt := 791) hC dL_law_786 (by decide) (by omega) (fun _ => ?_) (fun h => absurd h (by omega))
    refine j_goto (tgt := 2154) hC dL_law_791 (by decide) ?_
    refine j_sub [2, 3, 4, 5, 6] rfl ?_
    refine j_widen (k2 := k + 68) (n2 := n + 340) (by omega) (by omega) ?_
    exact kx (τ2) hR2
set_option maxHeartbeats 4000000 in
set_option maxRecDepth 100000 in
theorem lc_9 {mc : MC} {g : GG} {Q : State → Prop} {b L : Nat} {xs : Nat → Int32} {k n : Nat} {σ : Sg} (hC : Cx mc g cL_law RL 9 (some .boolean)) (hR : mR mc = rmJ 12 438 667605 7093289) (hX : va_X b L xs (mS mc) (mS mc).heap) (hbl : b < (mS mc).heap.size) (hbA : ¬ gA g b) (hRR : RC σ σ) (i : Int) (hi : 0 ≤ i ∧ i + 7 ≤ L ∧ L ≤ 3584) (hkn : k + 68 ≤ 667605 ∧ n + 340 ≤ 7093289) (kx : ∀ τ, RC τ τ → J mc g (k + 68) (n + 340) Q 2154 [(4, vI (i)), (1, .ref (gd g (0))), (2, .ref (gd g (19))), (3, .ref (gd g (27))), (0, .ref b)] [] τ) : J mc g k n Q 794 [(4, vI (i)), (1, .ref (gd g (0))), (2, .ref (gd g (19))), (3, .ref (gd g (27))), (0, .ref b)] [] σ := by
  have hI := hRR.1
  have hM := hRR.2.1
  have hv : σ.1 0 = σ.1 8 := hRR.2.2.2.1
  have hrg := hI.1
  refine j_aload_n hC dL_law_794 1 rfl ?_
  refine j_callV1 (ar := 0) hC hR (c_X3_lodges (hlJ hC) g σ hI) [] rfl 0 rfl rfl rfl (by decide) (by decide +kernel) rfl wd78 wd79 wd80 wd1 wd81 ⟨by decide, by omega⟩ (Nat.le_of_ble_eq_true rfl) dL_law_795 ?_
  refine j_aload_n hC dL_law_798 2 rfl ?_
  refine j_callV1 (ar := 0) hC hR (c_X4_lodges (hlJ hC) g σ hM) [vI (σ.1 0)] rfl 19 rfl rfl rfl (by decide) (by decide +kernel) rfl wd714 wd715 wd716 wd4 wd717 ⟨by decide, by omega⟩ (Nat.le_of_ble_eq_true rfl) dL_law_799 ?_
  refine j_icmp_eq (tgt := 2154) hC dL_law_802 (by decide) (by omega) (fun _ => ?_) (fun h => absurd h (by omega))
  refine j_sub [0, 1, 2, 3, 4] rfl ?_
  refine j_widen (k2 := k + 68) (n2 := n + 340) (by omega) (by omega) ?_
  exact kx (sF σ 7 0) (RC_cg hRR (eqC_sF (by decide)) (eqM_sF (by decide)) b03)
set_option maxHeartbeats 4000000 in
set_option maxRecDepth 100000 in
theorem lc_10 {mc : MC} {g : GG} {Q : State → Prop} {b L : Nat} {xs : Nat → Int32} {k n : Nat} {σ : Sg} (hC : Cx mc g cL_law RL 9 (some .boolean)) (hR : mR mc = rmJ 12 438 667605 7093289) (hX : va_X b L xs (mS mc) (mS mc).heap) (hbl : b < (mS mc).heap.size) (hbA : ¬ gA g b) (hRR : RC σ σ) (i : Int) (hi : 0 ≤ i ∧ i + 7 ≤ L ∧ L ≤ 3584) (hkn : k + 68 ≤ 667605 ∧ n + 340 ≤ 7093289) (kx : ∀ τ, RC τ τ → J mc g (k + 68) (n + 340) Q 2154 [(4, vI (i)), (1, .ref (gd g (0))), (2, .ref (gd g (19))), (3, .ref (gd g (27))), (0, .ref b)] [] τ) : J mc g k n Q 807 [(4, vI (i)), (1, .ref (gd g (0))), (2, .ref (gd g (19))), (3, .ref (gd g (27))), (0, .ref b)] [] σ := by
  obtain ⟨z1, a1, b1, e1⟩ := iI_of (xs (i + 1).toNat)
  obtain ⟨k1, n1, k2, n2, c, r, τ1, τ2, h1, h2, hk, hc, e7, e9, rr, hR2⟩ := st_signsOf (hlJ hC) g hRR z1 ⟨a1, b1⟩
  have rr1 := rr.1
  have rr2 := rr.2
  refine j_aload_n hC dL_law_807 1 rfl ?_
  refine j_aload_n hC dL_law_808 4 rfl ?_
  refine j_iload hC dL_law_809 0 rfl ?_
  refine j_iconst hC dL_law_811 ?_
  refine j_iadd hC dL_law_812 ?_
  refine j_sld hC hX hbl hbA (by omega) dL_law_813 ?_
  rw [e1]
  refine j_aload_n hC dL_law_814 3 rfl ?_
  refine j_callSW1 (ar := 3) (hh := [(0, 9, 12, 19)]) hC hR h1 [] rfl (by decide) (by decide +kernel) rfl wd423 wd424 wd0 wd425 ⟨by decide, by omega⟩ (Nat.le_of_ble_eq_true rfl) dL_law_815 ?_
  refine j_istore hC dL_law_818 [(5, vI (c)), (4, vI (i)), (1, .ref (gd g (0))), (2, .ref (gd g (19))), (3, .ref (gd g (27))), (0, .ref b)] (by decide) rfl ?_
  refine j_aload_n hC dL_law_820 3 rfl ?_
  refine j_aload_n hC dL_law_821 5 rfl ?_
  refine j_iload hC dL_law_822 1 rfl ?_
  refine j_iconst hC dL_law_824 ?_
  refine j_iadd hC dL_law_825 ?_
  refine j_sld hC hX hbl hbA (by omega) dL_law_826 ?_
  rw [e1]
  refine j_callV1 (ar := 1) hC hR (h2) [] rfl 19 rfl rfl rfl (by decide) (by decide +kernel) rfl wd718 wd719 wd720 wd4 wd721 ⟨by decide, by omega⟩ (Nat.le_of_ble_eq_true rfl) dL_law_827 ?_
  refine j_istore hC dL_law_830 [(6, vI (r)), (5, vI (c)), (4, vI (i)), (1, .ref (gd g (0))), (2, .ref (gd g (19))), (3, .ref (gd g (27))), (0, .ref b)] (by decide) rfl ?_
  refine j_aload_n hC dL_law_832 4 rfl ?_
  refine j_callV1 (ar := 0) hC hR (c_X4_thrown (hlJ hC) g τ2) [] rfl 19 rfl rfl rfl (by decide) (by decide +kernel) rfl wd610 wd611 wd612 wd4 wd613 ⟨by decide, by omega⟩ (Nat.le_of_ble_eq_true rfl) dL_law_833 ?_
  refine j_iload hC dL_law_836 1 rfl ?_
  refine j_icmp_eq (tgt := 843) hC dL_law_838 (by decide) (by omega) (fun _ => ?_) (fun h => absurd h (by omega))
  refine j_iload hC dL_law_843 1 rfl ?_
  refine j_if_ne (tgt := 860) hC dL_law_845 (by decide) (by omega) (fun h845 => ?_) (fun h845 => ?_)
  · refine j_goto (tgt := 2154) hC dL_law_860 (by decide) ?_
    refine j_sub [2, 3, 4, 5, 6] rfl ?_
    refine j_widen (k2 := k + 68) (n2 := n + 340) (by omega) (by omega) ?_
    exact kx (τ2) hR2
  · refine j_aload_n hC dL_law_848 5 rfl ?_
    refine j_iconst hC dL_law_849 ?_
    refine j_lald0 hC dL_law_850 ?_
    refine j_iload hC dL_law_851 0 rfl ?_
    refine j_i2l hC dL_law_853 (by omega) ?_
    refine j_lcmpE hC (congrArg jI (e9 h845)) dL_law_854 ?_
    refine j_if_eq (tgt := 860) hC dL_law_855 (by decide) (by omega) (fun _ => ?_) (fun h => absurd h (by omega))
    refine j_goto (tgt := 2154) hC dL_law_860 (by decide) ?_
    refine j_sub [2, 3, 4, 5, 6] rfl ?_
    refine j_widen (k2 := k + 68) (n2 := n + 340) (by omega) (by omega) ?_
    exact kx (τ2) hR2
set_option maxHeartbeats 4000000 in
set_option maxRecDepth 100000 in
theorem lc_11 {mc : MC} {g : GG} {Q : State → Prop} {b L : Nat} {xs : Nat → Int32} {k n : Nat} {σ : Sg} (hC : Cx mc g cL_law RL 9 (some .boolean)) (hR : mR mc = rmJ 12 438 667605 7093289) (hX : va_X b L xs (mS mc) (mS mc).heap) (hbl : b < (mS mc).heap.size) (hbA : ¬ gA g b) (hRR : RC σ σ) (i : Int) (hi : 0 ≤ i ∧ i + 7 ≤ L ∧ L ≤ 3584) (hkn : k + 68 ≤ 667605 ∧ n + 340 ≤ 7093289) (kx : ∀ τ, RC τ τ → J mc g (k + 68) (n + 340) Q 2154 [(4, vI (i)), (1, .ref (gd g (0))), (2, .ref (gd g (19))), (3, .ref (gd g (27))), (0, .ref b)] [] τ) : J mc g k n Q 863 [(4, vI (i)), (1, .ref (gd g (0))), (2, .ref (gd g (19))), (3, .ref (gd g (27))), (0, .ref b)] [] σ := by
  obtain ⟨z1, a1, b1, e1⟩ := iI_of (xs (i + 1).toNat)
  obtain ⟨z2, a2, b2, e2⟩ := iI_of (xs (i + 2).toNat)
  obtain ⟨k1, n1, k2, n2, c, r, τ1, τ2, h1, h2, hk, hc, e7, e9, rr, hR2⟩ := st_shapeOf (hlJ hC) g hRR z1 z2 ⟨a1, b1⟩ ⟨a2, b2⟩
  have rr1 := rr.1
  have rr2 := rr.2
  refine j_aload_n hC dL_law_863 1 rfl ?_
  refine j_aload_n hC dL_law_864 4 rfl ?_
  refine j_iload hC dL_law_865 0 rfl ?_
  refine j_iconst hC dL_law_867 ?_
  refine j_iadd hC dL_law_868 ?_
  refine j_sld hC hX hbl hbA (by omega) dL_law_869 ?_
  rw [e1]
  refine j_aload_n hC dL_law_870 4 rfl ?_
  refine j_iload hC dL_law_871 0 rfl ?_
  refine j_iconst hC dL_law_873 ?_
  refine j_iadd hC dL_law_874 ?_
  refine j_sld hC hX hbl hbA (by omega) dL_law_875 ?_
  rw [e2]
  refine j_aload_n hC dL_law_876 3 rfl ?_
  refine j_callSW1 (ar := 4) (hh := [(0, 10, 13, 19)]) hC hR h1 [] rfl (by decide) (by decide +kernel) rfl wd430 wd431 wd0 wd432 ⟨by decide, by omega⟩ (Nat.le_of_ble_eq_true rfl) dL_law_877 ?_
  refine j_istore hC dL_law_880 [(5, vI (c)), (4, vI (i)), (1, .ref (gd g (0))), (2, .ref (gd g (19))), (3, .ref (gd g (27))), (0, .ref b)] (by decide) rfl ?_
  refine j_aload_n hC dL_law_882 3 rfl ?_
  refine j_aload_n hC dL_law_883 5 rfl ?_
  refine j_iload hC dL_law_884 1 rfl ?_
  refine j_iconst hC dL_law_886 ?_
  refine j_iadd hC dL_law_887 ?_
  refine j_sld hC hX hbl hbA (by omega) dL_law_888 ?_
  rw [e1]
  refine j_aload_n hC dL_law_889 5 rfl ?_
  refine j_iload hC dL_law_890 1 rfl ?_
  refine j_iconst hC dL_law_892 ?_
  refine j_iadd hC dL_law_893 ?_
  refine j_sld hC hX hbl hbA (by omega) dL_law_894 ?_
  rw [e2]
  refine j_callV1 (ar := 2) hC hR (h2) [] rfl 19 rfl rfl rfl (by decide) (by decide +kernel) rfl wd722 wd723 wd724 wd4 wd725 ⟨by decide, by omega⟩ (Nat.le_of_ble_eq_true rfl) dL_law_895 ?_
  refine j_istore hC dL_law_898 [(6, vI (r)), (5, vI (c)), (4, vI (i)), (1, .ref (gd g (0))), (2, .ref (gd g (19))), (3, .ref (gd g (27))), (0, .ref b)] (by decide) rfl ?_
  refine j_aload_n hC dL_law_900 4 rfl ?_
  refine j_callV1 (ar := 0) hC hR (c_X4_thrown (hlJ hC) g τ2) [] rfl 19 rfl rfl rfl (by decide) (by decide +kernel) rfl wd610 wd611 wd612 wd4 wd613 ⟨by decide, by omega⟩ (Nat.le_of_ble_eq_true rfl) dL_law_901 ?_
  refine j_iload hC dL_law_904 1 rfl ?_
  refine j_icmp_eq (tgt := 911) hC dL_law_906 (by decide) (by omega) (fun _ => ?_) (fun h => absurd h (by omega))
  refine j_iload hC dL_law_911 1 rfl ?_
  refine j_if_ne (tgt := 928) hC dL_law_913 (by decide) (by omega) (fun h913 => ?_) (fun h913 => ?_)
  · refine j_goto (tgt := 2154) hC dL_law_928 (by decide) ?_
    refine j_sub [2, 3, 4, 5, 6] rfl ?_
    refine j_widen (k2 := k + 68) (n2 := n + 340) (by omega) (by omega) ?_
    exact kx (τ2) hR2
  · refine j_aload_n hC dL_law_916 5 rfl ?_
    refine j_iconst hC dL_law_917 ?_
    refine j_lald0 hC dL_law_918 ?_
    refine j_iload hC dL_law_919 0 rfl ?_
    refine j_i2l hC dL_law_921 (by omega) ?_
    refine j_lcmpE hC (congrArg jI (e9 h913)) dL_law_922 ?_
    refine j_if_eq (tgt := 928) hC dL_law_923 (by decide) (by omega) (fun _ => ?_) (fun h => absurd h (by omega))
    refine j_goto (tgt := 2154) hC dL_law_928 (by decide) ?_
    refine j_sub [2, 3, 4, 5, 6] rfl ?_
    refine j_widen (k2 := k + 68) (n2 := n + 340) (by omega) (by omega) ?_
    exact kx (τ2) hR2
set_option maxHeartbeats 4000000 in
set_option maxRecDepth 100000 in
theorem lc_12 {mc : MC} {g : GG} {Q : State → Prop} {b L : Nat} {xs : Nat → Int32} {k n : Nat} {σ : Sg} (hC : Cx mc g cL_law RL 9 (some .boolean)) (hR : mR mc = rmJ 12 438 667605 7093289) (hX : va_X b L xs (mS mc) (mS mc).heap) (hbl : b < (mS mc).heap.size) (hbA : ¬ gA g b) (hRR : RC σ σ) (i : Int) (hi : 0 ≤ i ∧ i + 7 ≤ L ∧ L ≤ 3584) (hkn : k + 68 ≤ 667605 ∧ n + 340 ≤ 7093289) (kx : ∀ τ, RC τ τ → J mc g (k + 68) (n + 340) Q 2154 [(4, vI (i)), (1, .ref (gd g (0))), (2, .ref (gd g (19))), (3, .ref (gd g (27))), (0, .ref b)] [] τ) : J mc g k n Q 931 [(4, vI (i)), (1, .ref (gd g (0))), (2, .ref (gd g (19))), (3, .ref (gd g (27))), (0, .ref b)] [] σ := by
  obtain ⟨z1, a1, b1, e1⟩ := iI_of (xs (i + 1).toNat)
  obtain ⟨z2, a2, b2, e2⟩ := iI_of (xs (i + 2).toNat)
  obtain ⟨k1, n1, k2, n2, c, r, τ1, τ2, h1, h2, hk, hc, e7, e9, rr, hR2⟩ := st_thumbOf (hlJ hC) g hRR z1 z2 ⟨a1, b1⟩ ⟨a2, b2⟩
  have rr1 := rr.1
  have rr2 := rr.2
  refine j_aload_n hC dL_law_931 1 rfl ?_
  refine j_aload_n hC dL_law_932 4 rfl ?_
  refine j_iload hC dL_law_933 0 rfl ?_
  refine j_iconst hC dL_law_935 ?_
  refine j_iadd hC dL_law_936 ?_
  refine j_sld hC hX hbl hbA (by omega) dL_law_937 ?_
  rw [e1]
  refine j_aload_n hC dL_law_938 4 rfl ?_
  refine j_iload hC dL_law_939 0 rfl ?_
  refine j_iconst hC dL_law_941 ?_
  refine j_iadd hC dL_law_942 ?_
  refine j_sld hC hX hbl hbA (by omega) dL_law_943 ?_
  rw [e2]
  refine j_aload_n hC dL_law_944 3 rfl ?_
  refine j_callSW1 (ar := 4) (hh := [(0, 10, 13, 19)]) hC hR h1 [] rfl (by decide) (by decide +kernel) rfl wd441 wd442 wd0 wd443 ⟨by decide, by omega⟩ (Nat.le_of_ble_eq_true rfl) dL_law_945 ?_
  refine j_istore hC dL_law_948 [(5, vI (c)), (4, vI (i)), (1, .ref (gd g (0))), (2, .ref (gd g (19))), (3, .ref (gd g (27))), (0, .ref b)] (by decide) rfl ?_
  refine j_aload_n hC dL_law_950 3 rfl ?_
  refine j_aload_n hC dL_law_951 5 rfl ?_
  refine j_iload hC dL_law_952 1 rfl ?_
  refine j_iconst hC dL_law_954 ?_
  refine j_iadd hC dL_law_955 ?_
  refine j_sld hC hX hbl hbA (by omega) dL_law_956 ?_
  rw [e1]
  refine j_aload_n hC dL_law_957 5 rfl ?_
  refine j_iload hC dL_law_958 1 rfl ?_
  refine j_iconst hC dL_law_960 ?_
  refine j_iadd hC dL_law_961 ?_
  refine j_sld hC hX hbl hbA (by omega) dL_law_962 ?_
  rw [e2]
  refine j_callV1 (ar := 2) hC hR (h2) [] rfl 19 rfl rfl rfl (by decide) (by decide +kernel) rfl wd730 wd731 wd732 wd4 wd733 ⟨by decide, by omega⟩ (Nat.le_of_ble_eq_true rfl) dL_law_963 ?_
  refine j_istore hC dL_law_966 [(6, vI (r)), (5, vI (c)), (4, vI (i)), (1, .ref (gd g (0))), (2, .ref (gd g (19))), (3, .ref (gd g (27))), (0, .ref b)] (by decide) rfl ?_
  refine j_aload_n hC dL_law_968 4 rfl ?_
  refine j_callV1 (ar := 0) hC hR (c_X4_thrown (hlJ hC) g τ2) [] rfl 19 rfl rfl rfl (by decide) (by decide +kernel) rfl wd610 wd611 wd612 wd4 wd613 ⟨by decide, by omega⟩ (Nat.le_of_ble_eq_true rfl) dL_law_969 ?_
  refine j_iload hC dL_law_972 1 rfl ?_
  refine j_icmp_eq (tgt := 979) hC dL_law_974 (by decide) (by omega) (fun _ => ?_) (fun h => absurd h (by omega))
  refine j_iload hC dL_law_979 1 rfl ?_
  refine j_if_ne (tgt := 996) hC dL_law_981 (by decide) (by omega) (fun h981 => ?_) (fun h981 => ?_)
  · refine j_goto (tgt := 2154) hC dL_law_996 (by decide) ?_
    refine j_sub [2, 3, 4, 5, 6] rfl ?_
    refine j_widen (k2 := k + 68) (n2 := n + 340) (by omega) (by omega) ?_
    exact kx (τ2) hR2
  · refine j_aload_n hC dL_law_984 5 rfl ?_
    refine j_iconst hC dL_law_985 ?_
    refine j_lald0 hC dL_law_986 ?_
    refine j_iload hC dL_law_987 0 rfl ?_
    refine j_i2l hC dL_law_989 (by omega) ?_
    refine j_lcmpE hC (congrArg jI (e9 h981)) dL_law_990 ?_
    refine j_if_eq (tgt := 996) hC dL_law_991 (by decide) (by omega) (fun _ => ?_) (fun h => absurd h (by omega))
    refine j_goto (tgt := 2154) hC dL_law_996 (by decide) ?_
    refine j_sub [2, 3, 4, 5, 6] rfl ?_
    refine j_widen (k2 := k + 68) (n2 := n + 340) (by omega) (by omega) ?_
    exact kx (τ2) hR2
set_option maxHeartbeats 4000000 in
set_option maxRecDepth 100000 in
theorem lc_13 {mc : MC} {g : GG} {Q : State → Prop} {b L : Nat} {xs : Nat → Int32} {k n : Nat} {σ : Sg} (hC : Cx mc g cL_law RL 9 (some .boolean)) (hR : mR mc = rmJ 12 438 667605 7093289) (hX : va_X b L xs (mS mc) (mS mc).heap) (hbl : b < (mS mc).heap.size) (hbA : ¬ gA g b) (hRR : RC σ σ) (i : Int) (hi : 0 ≤ i ∧ i + 7 ≤ L ∧ L ≤ 3584) (hkn : k + 68 ≤ 667605 ∧ n + 340 ≤ 7093289) (kx : ∀ τ, RC τ τ → J mc g (k + 68) (n + 340) Q 2154 [(4, vI (i)), (1, .ref (gd g (0))), (2, .ref (gd g (19))), (3, .ref (gd g (27))), (0, .ref b)] [] τ) : J mc g k n Q 999 [(4, vI (i)), (1, .ref (gd g (0))), (2, .ref (gd g (19))), (3, .ref (gd g (27))), (0, .ref b)] [] σ := by
  obtain ⟨z1, a1, b1, e1⟩ := iI_of (xs (i + 1).toNat)
  obtain ⟨z2, a2, b2, e2⟩ := iI_of (xs (i + 2).toNat)
  obtain ⟨k1, n1, k2, n2, c, r, τ1, τ2, h1, h2, hk, hc, e7, e9, rr, hR2⟩ := st_placeOf (hlJ hC) g hRR z1 z2 ⟨a1, b1⟩ ⟨a2, b2⟩
  have rr1 := rr.1
  have rr2 := rr.2
  refine j_aload_n hC dL_law_999 1 rfl ?_
  refine j_aload_n hC dL_law_1000 4 rfl ?_
  refine j_iload hC dL_law_1001 0 rfl ?_
  refine j_iconst hC dL_law_1003 ?_
  refine j_iadd hC dL_law_1004 ?_
  refine j_sld hC hX hbl hbA (by omega) dL_law_1005 ?_
  rw [e1]
  refine j_aload_n hC dL_law_1006 4 rfl ?_
  refine j_iload hC dL_law_1007 0 rfl ?_
  refine j_iconst hC dL_law_1009 ?_
  refine j_iadd hC dL_law_1010 ?_
  refine j_sld hC hX hbl hbA (by omega) dL_law_1011 ?_
  rw [e2]
  refine j_aload_n hC dL_law_1012 3 rfl ?_
  refine j_callSW1 (ar := 4) (hh := [(0, 10, 13, 19)]) hC hR h1 [] rfl (by decide) (by decide +kernel) rfl wd448 wd449 wd0 wd450 ⟨by decide, by omega⟩ (Nat.le_of_ble_eq_true rfl) dL_law_1013 ?_
  refine j_istore hC dL_law_1016 [(5, vI (c)), (4, vI (i)), (1, .ref (gd g (0))), (2, .ref (gd g (19))), (3, .ref (gd g (27))), (0, .ref b)] (by decide) rfl ?_
  refine j_aload_n hC dL_law_1018 3 rfl ?_
  refine j_aload_n hC dL_law_1019 5 rfl ?_
  refine j_iload hC dL_law_1020 1 rfl ?_
  refine j_iconst hC dL_law_1022 ?_
  refine j_iadd hC dL_law_1023 ?_
  refine j_sld hC hX hbl hbA (by omega) dL_law_1024 ?_
  rw [e1]
  refine j_aload_n hC dL_law_1025 5 rfl ?_
  refine j_iload hC dL_law_1026 1 rfl ?_
  refine j_iconst hC dL_law_1028 ?_
  refine j_iadd hC dL_law_1029 ?_
  refine j_sld hC hX hbl hbA (by omega) dL_law_1030 ?_
  rw [e2]
  refine j_callV1 (ar := 2) hC hR (h2) [] rfl 19 rfl rfl rfl (by decide) (by decide +kernel) rfl wd734 wd735 wd736 wd4 wd737 ⟨by decide, by omega⟩ (Nat.le_of_ble_eq_true rfl) dL_law_1031 ?_
  refine j_istore hC dL_law_1034 [(6, vI (r)), (5, vI (c)), (4, vI (i)), (1, .ref (gd g (0))), (2, .ref (gd g (19))), (3, .ref (gd g (27))), (0, .ref b)] (by decide) rfl ?_
  refine j_aload_n hC dL_law_1036 4 rfl ?_
  refine j_callV1 (ar := 0) hC hR (c_X4_thrown (hlJ hC) g τ2) [] rfl 19 rfl rfl rfl (by decide) (by decide +kernel) rfl wd610 wd611 wd612 wd4 wd613 ⟨by decide, by omega⟩ (Nat.le_of_ble_eq_true rfl) dL_law_1037 ?_
  refine j_iload hC dL_law_1040 1 rfl ?_
  refine j_icmp_eq (tgt := 1047) hC dL_law_1042 (by decide) (by omega) (fun _ => ?_) (fun h => absurd h (by omega))
  refine j_iload hC dL_law_1047 1 rfl ?_
  refine j_if_ne (tgt := 1064) hC dL_law_1049 (by decide) (by omega) (fun h1049 => ?_) (fun h1049 => ?_)
  · refine j_goto (tgt := 2154) hC dL_law_1064 (by decide) ?_
    refine j_sub [2, 3, 4, 5, 6] rfl ?_
    refine j_widen (k2 := k + 68) (n2 := n + 340) (by omega) (by omega) ?_
    exact kx (τ2) hR2
  · refine j_aload_n hC dL_law_1052 5 rfl ?_
    refine j_iconst hC dL_law_1053 ?_
    refine j_lald0 hC dL_law_1054 ?_
    refine j_iload hC dL_law_1055 0 rfl ?_
    refine j_i2l hC dL_law_1057 (by omega) ?_
    refine j_lcmpE hC (congrArg jI (e9 h1049)) dL_law_1058 ?_
    refine j_if_eq (tgt := 1064) hC dL_law_1059 (by decide) (by omega) (fun _ => ?_) (fun h => absurd h (by omega))
    refine j_goto (tgt := 2154) hC dL_law_1064 (by decide) ?_
    refine j_sub [2, 3, 4, 5, 6] rfl ?_
    refine j_widen (k2 := k + 68) (n2 := n + 340) (by omega) (by omega) ?_
    exact kx (τ2) hR2
set_option maxHeartbeats 4000000 in
set_option maxRecDepth 100000 in
theorem lc_14 {mc : MC} {g : GG} {Q : State → Prop} {b L : Nat} {xs : Nat → Int32} {k n : Nat} {σ : Sg} (hC : Cx mc g cL_law RL 9 (some .boolean)) (hR : mR mc = rmJ 12 438 667605 7093289) (hX : va_X b L xs (mS mc) (mS mc).heap) (hbl : b < (mS mc).heap.size) (hbA : ¬ gA g b) (hRR : RC σ σ) (i : Int) (hi : 0 ≤ i ∧ i + 7 ≤ L ∧ L ≤ 3584) (hkn : k + 68 ≤ 667605 ∧ n + 340 ≤ 7093289) (kx : ∀ τ, RC τ τ → J mc g (k + 68) (n + 340) Q 2154 [(4, vI (i)), (1, .ref (gd g (0))), (2, .ref (gd g (19))), (3, .ref (gd g (27))), (0, .ref b)] [] τ) : J mc g k n Q 1067 [(4, vI (i)), (1, .ref (gd g (0))), (2, .ref (gd g (19))), (3, .ref (gd g (27))), (0, .ref b)] [] σ := by
  obtain ⟨z1, a1, b1, e1⟩ := iI_of (xs (i + 1).toNat)
  obtain ⟨z2, a2, b2, e2⟩ := iI_of (xs (i + 2).toNat)
  obtain ⟨k1, n1, k2, n2, c, r, τ1, τ2, h1, h2, hk, hc, e7, e9, rr, hR2⟩ := st_meaningOf (hlJ hC) g hRR z1 z2 ⟨a1, b1⟩ ⟨a2, b2⟩
  have rr1 := rr.1
  have rr2 := rr.2
  refine j_aload_n hC dL_law_1067 1 rfl ?_
  refine j_aload_n hC dL_law_1068 4 rfl ?_
  refine j_iload hC dL_law_1069 0 rfl ?_
  refine j_iconst hC dL_law_1071 ?_
  refine j_iadd hC dL_law_1072 ?_
  refine j_sld hC hX hbl hbA (by omega) dL_law_1073 ?_
  rw [e1]
  refine j_aload_n hC dL_law_1074 4 rfl ?_
  refine j_iload hC dL_law_1075 0 rfl ?_
  refine j_iconst hC dL_law_1077 ?_
  refine j_iadd hC dL_law_1078 ?_
  refine j_sld hC hX hbl hbA (by omega) dL_law_1079 ?_
  rw [e2]
  refine j_aload_n hC dL_law_1080 3 rfl ?_
  refine j_callSW1 (ar := 4) (hh := [(0, 10, 13, 19)]) hC hR h1 [] rfl (by decide) (by decide +kernel) rfl wd455 wd456 wd0 wd457 ⟨by decide, by omega⟩ (Nat.le_of_ble_eq_true rfl) dL_law_1081 ?_
  refine j_istore hC dL_law_1084 [(5, vI (c)), (4, vI (i)), (1, .ref (gd g (0))), (2, .ref (gd g (19))), (3, .ref (gd g (27))), (0, .ref b)] (by decide) rfl ?_
  refine j_aload_n hC dL_law_1086 3 rfl ?_
  refine j_aload_n hC dL_law_1087 5 rfl ?_
  refine j_iload hC dL_law_1088 1 rfl ?_
  refine j_iconst hC dL_law_1090 ?_
  refine j_iadd hC dL_law_1091 ?_
  refine j_sld hC hX hbl hbA (by omega) dL_law_1092 ?_
  rw [e1]
  refine j_aload_n hC dL_law_1093 5 rfl ?_
  refine j_iload hC dL_law_1094 1 rfl ?_
  refine j_iconst hC dL_law_1096 ?_
  refine j_iadd hC dL_law_1097 ?_
  refine j_sld hC hX hbl hbA (by omega) dL_law_1098 ?_
  rw [e2]
  refine j_callV1 (ar := 2) hC hR (h2) [] rfl 19 rfl rfl rfl (by decide) (by decide +kernel) rfl wd738 wd739 wd740 wd4 wd741 ⟨by decide, by omega⟩ (Nat.le_of_ble_eq_true rfl) dL_law_1099 ?_
  refine j_istore hC dL_law_1102 [(6, vI (r)), (5, vI (c)), (4, vI (i)), (1, .ref (gd g (0))), (2, .ref (gd g (19))), (3, .ref (gd g (27))), (0, .ref b)] (by decide) rfl ?_
  refine j_aload_n hC dL_law_1104 4 rfl ?_
  refine j_callV1 (ar := 0) hC hR (c_X4_thrown (hlJ hC) g τ2) [] rfl 19 rfl rfl rfl (by decide) (by decide +kernel) rfl wd610 wd611 wd612 wd4 wd613 ⟨by decide, by omega⟩ (Nat.le_of_ble_eq_true rfl) dL_law_1105 ?_
  refine j_iload hC dL_law_1108 1 rfl ?_
  refine j_icmp_eq (tgt := 1115) hC dL_law_1110 (by decide) (by omega) (fun _ => ?_) (fun h => absurd h (by omega))
  refine j_iload hC dL_law_1115 1 rfl ?_
  refine j_if_ne (tgt := 1132) hC dL_law_1117 (by decide) (by omega) (fun h1117 => ?_) (fun h1117 => ?_)
  · refine j_goto (tgt := 2154) hC dL_law_1132 (by decide) ?_
    refine j_sub [2, 3, 4, 5, 6] rfl ?_
    refine j_widen (k2 := k + 68) (n2 := n + 340) (by omega) (by omega) ?_
    exact kx (τ2) hR2
  · refine j_aload_n hC dL_law_1120 5 rfl ?_
    refine j_iconst hC dL_law_1121 ?_
    refine j_lald0 hC dL_law_1122 ?_
    refine j_iload hC dL_law_1123 0 rfl ?_
    refine j_i2l hC dL_law_1125 (by omega) ?_
    refine j_lcmpE hC (congrArg jI (e9 h1117)) dL_law_1126 ?_
    refine j_if_eq (tgt := 1132) hC dL_law_1127 (by decide) (by omega) (fun _ => ?_) (fun h => absurd h (by omega))
    refine j_goto (tgt := 2154) hC dL_law_1132 (by decide) ?_
    refine j_sub [2, 3, 4, 5, 6] rfl ?_
    refine j_widen (k2 := k + 68) (n2 := n + 340) (by omega) (by omega) ?_
    exact kx (τ2) hR2
set_option maxHeartbeats 4000000 in
set_option maxRecDepth 100000 in
theorem lc_15 {mc : MC} {g : GG} {Q : State → Prop} {b L : Nat} {xs : Nat → Int32} {k n : Nat} {σ : Sg} (hC : Cx mc g cL_law RL 9 (some .boolean)) (hR : mR mc = rmJ 12 438 667605 7093289) (hX : va_X b L xs (mS mc) (mS mc).heap) (hbl : b < (mS mc).heap.size) (hbA : ¬ gA g b) (hRR : RC σ σ) (i : Int) (hi : 0 ≤ i ∧ i + 7 ≤ L ∧ L ≤ 3584) (hkn : k + 68 ≤ 667605 ∧ n + 340 ≤ 7093289) (kx : ∀ τ, RC τ τ → J mc g (k + 68) (n + 340) Q 2154 [(4, vI (i)), (1, .ref (gd g (0))), (2, .ref (gd g (19))), (3, .ref (gd g (27))), (0, .ref b)] [] τ) : J mc g k n Q 1135 [(4, vI (i)), (1, .ref (gd g (0))), (2, .ref (gd g (19))), (3, .ref (gd g (27))), (0, .ref b)] [] σ := by
  obtain ⟨z1, a1, b1, e1⟩ := iI_of (xs (i + 1).toNat)
  obtain ⟨z2, a2, b2, e2⟩ := iI_of (xs (i + 2).toNat)
  obtain ⟨k1, n1, k2, n2, c, r, τ1, τ2, h1, h2, hk, hc, e7, e9, rr, hR2⟩ := st_signFor (hlJ hC) g hRR z1 z2 ⟨a1, b1⟩ ⟨a2, b2⟩
  have rr1 := rr.1
  have rr2 := rr.2
  refine j_aload_n hC dL_law_1135 1 rfl ?_
  refine j_aload_n hC dL_law_1136 4 rfl ?_
  refine j_iload hC dL_law_1137 0 rfl ?_
  refine j_iconst hC dL_law_1139 ?_
  refine j_iadd hC dL_law_1140 ?_
  refine j_sld hC hX hbl hbA (by omega) dL_law_1141 ?_
  rw [e1]
  refine j_aload_n hC dL_law_1142 4 rfl ?_
  refine j_iload hC dL_law_1143 0 rfl ?_
  refine j_iconst hC dL_law_1145 ?_
  refine j_iadd hC dL_law_1146 ?_
  refine j_sld hC hX hbl hbA (by omega) dL_law_1147 ?_
  rw [e2]
  refine j_aload_n hC dL_law_1148 3 rfl ?_
  refine j_callSW1 (ar := 4) (hh := [(0, 10, 13, 19)]) hC hR h1 [] rfl (by decide) (by decide +kernel) rfl wd462 wd463 wd0 wd464 ⟨by decide, by omega⟩ (Nat.le_of_ble_eq_true rfl) dL_law_1149 ?_
  refine j_istore hC dL_law_1152 [(5, vI (c)), (4, vI (i)), (1, .ref (gd g (0))), (2, .ref (gd g (19))), (3, .ref (gd g (27))), (0, .ref b)] (by decide) rfl ?_
  refine j_aload_n hC dL_law_1154 3 rfl ?_
  refine j_aload_n hC dL_law_1155 5 rfl ?_
  refine j_iload hC dL_law_1156 1 rfl ?_
  refine j_iconst hC dL_law_1158 ?_
  refine j_iadd hC dL_law_1159 ?_
  refine j_sld hC hX hbl hbA (by omega) dL_law_1160 ?_
  rw [e1]
  refine j_aload_n hC dL_law_1161 5 rfl ?_
  refine j_iload hC dL_law_1162 1 rfl ?_
  refine j_iconst hC dL_law_1164 ?_
  refine j_iadd hC dL_law_1165 ?_
  refine j_sld hC hX hbl hbA (by omega) dL_law_1166 ?_
  rw [e2]
  refine j_callV1 (ar := 2) hC hR (h2) [] rfl 19 rfl rfl rfl (by decide) (by decide +kernel) rfl wd742 wd743 wd744 wd4 wd745 ⟨by decide, by omega⟩ (Nat.le_of_ble_eq_true rfl) dL_law_1167 ?_
  refine j_istore hC dL_law_1170 [(6, vI (r)), (5, vI (c)), (4, vI (i)), (1, .ref (gd g (0))), (2, .ref (gd g (19))), (3, .ref (gd g (27))), (0, .ref b)] (by decide) rfl ?_
  refine j_aload_n hC dL_law_1172 4 rfl ?_
  refine j_callV1 (ar := 0) hC hR (c_X4_thrown (hlJ hC) g τ2) [] rfl 19 rfl rfl rfl (by decide) (by decide +kernel) rfl wd610 wd611 wd612 wd4 wd613 ⟨by decide, by omega⟩ (Nat.le_of_ble_eq_true rfl) dL_law_1173 ?_
  refine j_iload hC dL_law_1176 1 rfl ?_
  refine j_icmp_eq (tgt := 1183) hC dL_law_1178 (by decide) (by omega) (fun _ => ?_) (fun h => absurd h (by omega))
  refine j_iload hC dL_law_1183 1 rfl ?_
  refine j_if_ne (tgt := 1200) hC dL_law_1185 (by decide) (by omega) (fun h1185 => ?_) (fun h1185 => ?_)
  · refine j_goto (tgt := 2154) hC dL_law_1200 (by decide) ?_
    refine j_sub [2, 3, 4, 5, 6] rfl ?_
    refine j_widen (k2 := k + 68) (n2 := n + 340) (by omega) (by omega) ?_
    exact kx (τ2) hR2
  · refine j_aload_n hC dL_law_1188 5 rfl ?_
    refine j_iconst hC dL_law_1189 ?_
    refine j_lald0 hC dL_law_1190 ?_
    refine j_iload hC dL_law_1191 0 rfl ?_
    refine j_i2l hC dL_law_1193 (by omega) ?_
    refine j_lcmpE hC (congrArg jI (e9 h1185)) dL_law_1194 ?_
    refine j_if_eq (tgt := 1200) hC dL_law_1195 (by decide) (by omega) (fun _ => ?_) (fun h => absurd h (by omega))
    refine j_goto (tgt := 2154) hC dL_law_1200 (by decide) ?_
    refine j_sub [2, 3, 4, 5, 6] rfl ?_
    refine j_widen (k2 := k + 68) (n2 := n + 340) (by omega) (by omega) ?_
    exact kx (τ2) hR2
set_option maxHeartbeats 4000000 in
set_option maxRecDepth 100000 in
theorem lc_16 {mc : MC} {g : GG} {Q : State → Prop} {b L : Nat} {xs : Nat → Int32} {k n : Nat} {σ : Sg} (hC : Cx mc g cL_law RL 9 (some .boolean)) (hR : mR mc = rmJ 12 438 667605 7093289) (hX : va_X b L xs (mS mc) (mS mc).heap) (hbl : b < (mS mc).heap.size) (hbA : ¬ gA g b) (hRR : RC σ σ) (i : Int) (hi : 0 ≤ i ∧ i + 7 ≤ L ∧ L ≤ 3584) (hkn : k + 68 ≤ 667605 ∧ n + 340 ≤ 7093289) (kx : ∀ τ, RC τ τ → J mc g (k + 68) (n + 340) Q 2154 [(4, vI (i)), (1, .ref (gd g (0))), (2, .ref (gd g (19))), (3, .ref (gd g (27))), (0, .ref b)] [] τ) : J mc g k n Q 1203 [(4, vI (i)), (1, .ref (gd g (0))), (2, .ref (gd g (19))), (3, .ref (gd g (27))), (0, .ref b)] [] σ := by
  obtain ⟨z1, a1, b1, e1⟩ := iI_of (xs (i + 1).toNat)
  obtain ⟨z2, a2, b2, e2⟩ := iI_of (xs (i + 2).toNat)
  obtain ⟨z3, a3, b3, e3⟩ := iI_of (xs (i + 3).toNat)
  obtain ⟨k1, n1, k2, n2, c, r, τ1, τ2, h1, h2, hk, hc, e7, e9, rr, hR2⟩ := st_apart (hlJ hC) g hRR z1 z2 z3 ⟨a1, b1⟩ ⟨a2, b2⟩ ⟨a3, b3⟩
  have rr1 := rr.1
  have rr2 := rr.2
  refine j_aload_n hC dL_law_1203 1 rfl ?_
  refine j_aload_n hC dL_law_1204 4 rfl ?_
  refine j_iload hC dL_law_1205 0 rfl ?_
  refine j_iconst hC dL_law_1207 ?_
  refine j_iadd hC dL_law_1208 ?_
  refine j_sld hC hX hbl hbA (by omega) dL_law_1209 ?_
  rw [e1]
  refine j_aload_n hC dL_law_1210 4 rfl ?_
  refine j_iload hC dL_law_1211 0 rfl ?_
  refine j_iconst hC dL_law_1213 ?_
  refine j_iadd hC dL_law_1214 ?_
  refine j_sld hC hX hbl hbA (by omega) dL_law_1215 ?_
  rw [e2]
  refine j_aload_n hC dL_law_1216 4 rfl ?_
  refine j_iload hC dL_law_1217 0 rfl ?_
  refine j_iconst hC dL_law_1219 ?_
  refine j_iadd hC dL_law_1220 ?_
  refine j_sld hC hX hbl hbA (by omega) dL_law_1221 ?_
  rw [e3]
  refine j_aload_n hC dL_law_1222 3 rfl ?_
  refine j_callSW1 (ar := 5) (hh := [(0, 12, 15, 19)]) hC hR h1 [] rfl (by decide) (by decide +kernel) rfl wd470 wd471 wd0 wd472 ⟨by decide, by omega⟩ (Nat.le_of_ble_eq_true rfl) dL_law_1223 ?_
  refine j_istore hC dL_law_1226 [(5, vI (c)), (4, vI (i)), (1, .ref (gd g (0))), (2, .ref (gd g (19))), (3, .ref (gd g (27))), (0, .ref b)] (by decide) rfl ?_
  refine j_aload_n hC dL_law_1228 3 rfl ?_
  refine j_aload_n hC dL_law_1229 5 rfl ?_
  refine j_iload hC dL_law_1230 1 rfl ?_
  refine j_iconst hC dL_law_1232 ?_
  refine j_iadd hC dL_law_1233 ?_
  refine j_sld hC hX hbl hbA (by omega) dL_law_1234 ?_
  rw [e1]
  refine j_aload_n hC dL_law_1235 5 rfl ?_
  refine j_iload hC dL_law_1236 1 rfl ?_
  refine j_iconst hC dL_law_1238 ?_
  refine j_iadd hC dL_law_1239 ?_
  refine j_sld hC hX hbl hbA (by omega) dL_law_1240 ?_
  rw [e2]
  refine j_aload_n hC dL_law_1241 5 rfl ?_
  refine j_iload hC dL_law_1242 1 rfl ?_
  refine j_iconst hC dL_law_1244 ?_
  refine j_iadd hC dL_law_1245 ?_
  refine j_sld hC hX hbl hbA (by omega) dL_law_1246 ?_
  rw [e3]
  refine j_callV1 (ar := 3) hC hR (h2) [] rfl 19 rfl rfl rfl (by decide) (by decide +kernel) rfl wd746 wd747 wd748 wd4 wd749 ⟨by decide, by omega⟩ (Nat.le_of_ble_eq_true rfl) dL_law_1247 ?_
  refine j_istore hC dL_law_1250 [(6, vI (r)), (5, vI (c)), (4, vI (i)), (1, .ref (gd g (0))), (2, .ref (gd g (19))), (3, .ref (gd g (27))), (0, .ref b)] (by decide) rfl ?_
  refine j_aload_n hC dL_law_1252 4 rfl ?_
  refine j_callV1 (ar := 0) hC hR (c_X4_thrown (hlJ hC) g τ2) [] rfl 19 rfl rfl rfl (by decide) (by decide +kernel) rfl wd610 wd611 wd612 wd4 wd613 ⟨by decide, by omega⟩ (Nat.le_of_ble_eq_true rfl) dL_law_1253 ?_
  refine j_iload hC dL_law_1256 1 rfl ?_
  refine j_icmp_eq (tgt := 1263) hC dL_law_1258 (by decide) (by omega) (fun _ => ?_) (fun h => absurd h (by omega))
  refine j_iload hC dL_law_1263 1 rfl ?_
  refine j_if_ne (tgt := 1280) hC dL_law_1265 (by decide) (by omega) (fun h1265 => ?_) (fun h1265 => ?_)
  · refine j_goto (tgt := 2154) hC dL_law_1280 (by decide) ?_
    refine j_sub [2, 3, 4, 5, 6] rfl ?_
    refine j_widen (k2 := k + 68) (n2 := n + 340) (by omega) (by omega) ?_
    exact kx (τ2) hR2
  · refine j_aload_n hC dL_law_1268 5 rfl ?_
    refine j_iconst hC dL_law_1269 ?_
    refine j_lald0 hC dL_law_1270 ?_
    refine j_iload hC dL_law_1271 0 rfl ?_
    refine j_i2l hC dL_law_1273 (by omega) ?_
    refine j_lcmpE hC (congrArg jI (e9 h1265)) dL_law_1274 ?_
    refine j_if_eq (tgt := 1280) hC dL_law_1275 (by decide) (by omega) (fun _ => ?_) (fun h => absurd h (by omega))
    refine j_goto (tgt := 2154) hC dL_law_1280 (by decide) ?_
    refine j_sub [2, 3, 4, 5, 6] rfl ?_
    refine j_widen (k2 := k + 68) (n2 := n + 340) (by omega) (by omega) ?_
    exact kx (τ2) hR2
set_option maxHeartbeats 4000000 in
set_option maxRecDepth 100000 in
theorem lc_17 {mc : MC} {g : GG} {Q : State → Prop} {b L : Nat} {xs : Nat → Int32} {k n : Nat} {σ : Sg} (hC : Cx mc g cL_law RL 9 (some .boolean)) (hR : mR mc = rmJ 12 438 667605 7093289) (hX : va_X b L xs (mS mc) (mS mc).heap) (hbl : b < (mS mc).heap.size) (hbA : ¬ gA g b) (hRR : RC σ σ) (i : Int) (hi : 0 ≤ i ∧ i + 7 ≤ L ∧ L ≤ 3584) (hkn : k + 68 ≤ 667605 ∧ n + 340 ≤ 7093289) (kx : ∀ τ, RC τ τ → J mc g (k + 68) (n + 340) Q 2154 [(4, vI (i)), (1, .ref (gd g (0))), (2, .ref (gd g (19))), (3, .ref (gd g (27))), (0, .ref b)] [] τ) : J mc g k n Q 1283 [(4, vI (i)), (1, .ref (gd g (0))), (2, .ref (gd g (19))), (3, .ref (gd g (27))), (0, .ref b)] [] σ := by
  obtain ⟨z1, a1, b1, e1⟩ := iI_of (xs (i + 1).toNat)
  obtain ⟨k1, n1, k2, n2, c, r, τ1, τ2, h1, h2, hk, hc, e7, e9, rr, hR2⟩ := st_alikePairs (hlJ hC) g hRR z1 ⟨a1, b1⟩
  have rr1 := rr.1
  have rr2 := rr.2
  refine j_aload_n hC dL_law_1283 1 rfl ?_
  refine j_aload_n hC dL_law_1284 4 rfl ?_
  refine j_iload hC dL_law_1285 0 rfl ?_
  refine j_iconst hC dL_law_1287 ?_
  refine j_iadd hC dL_law_1288 ?_
  refine j_sld hC hX hbl hbA (by omega) dL_law_1289 ?_
  rw [e1]
  refine j_aload_n hC dL_law_1290 3 rfl ?_
  refine j_callSW1 (ar := 3) (hh := [(0, 9, 12, 19)]) hC hR h1 [] rfl (by decide) (by decide +kernel) rfl wd478 wd479 wd0 wd480 ⟨by decide, by omega⟩ (Nat.le_of_ble_eq_true rfl) dL_law_1291 ?_
  refine j_istore hC dL_law_1294 [(5, vI (c)), (4, vI (i)), (1, .ref (gd g (0))), (2, .ref (gd g (19))), (3, .ref (gd g (27))), (0, .ref b)] (by decide) rfl ?_
  refine j_aload_n hC dL_law_1296 3 rfl ?_
  refine j_aload_n hC dL_law_1297 5 rfl ?_
  refine j_iload hC dL_law_1298 1 rfl ?_
  refine j_iconst hC dL_law_1300 ?_
  refine j_iadd hC dL_law_1301 ?_
  refine j_sld hC hX hbl hbA (by omega) dL_law_1302 ?_
  rw [e1]
  refine j_callV1 (ar := 1) hC hR (h2) [] rfl 19 rfl rfl rfl (by decide) (by decide +kernel) rfl wd754 wd755 wd756 wd4 wd757 ⟨by decide, by omega⟩ (Nat.le_of_ble_eq_true rfl) dL_law_1303 ?_
  refine j_istore hC dL_law_1306 [(6, vI (r)), (5, vI (c)), (4, vI (i)), (1, .ref (gd g (0))), (2, .ref (gd g (19))), (3, .ref (gd g (27))), (0, .ref b)] (by decide) rfl ?_
  refine j_aload_n hC dL_law_1308 4 rfl ?_
  refine j_callV1 (ar := 0) hC hR (c_X4_thrown (hlJ hC) g τ2) [] rfl 19 rfl rfl rfl (by decide) (by decide +kernel) rfl wd610 wd611 wd612 wd4 wd613 ⟨by decide, by omega⟩ (Nat.le_of_ble_eq_true rfl) dL_law_1309 ?_
  refine j_iload hC dL_law_1312 1 rfl ?_
  refine j_icmp_eq (tgt := 1319) hC dL_law_1314 (by decide) (by omega) (fun _ => ?_) (fun h => absurd h (by omega))
  refine j_iload hC dL_law_1319 1 rfl ?_
  refine j_if_ne (tgt := 1336) hC dL_law_1321 (by decide) (by omega) (fun h1321 => ?_) (fun h1321 => ?_)
  · refine j_goto (tgt := 2154) hC dL_law_1336 (by decide) ?_
    refine j_sub [2, 3, 4, 5, 6] rfl ?_
    refine j_widen (k2 := k + 68) (n2 := n + 340) (by omega) (by omega) ?_
    exact kx (τ2) hR2
  · refine j_aload_n hC dL_law_1324 5 rfl ?_
    refine j_iconst hC dL_law_1325 ?_
    refine j_lald0 hC dL_law_1326 ?_
    refine j_iload hC dL_law_1327 0 rfl ?_
    refine j_i2l hC dL_law_1329 (by omega) ?_
    refine j_lcmpE hC (congrArg jI (e9 h1321)) dL_law_1330 ?_
    refine j_if_eq (tgt := 1336) hC dL_law_1331 (by decide) (by omega) (fun _ => ?_) (fun h => absurd h (by omega))
    refine j_goto (tgt := 2154) hC dL_law_1336 (by decide) ?_
    refine j_sub [2, 3, 4, 5, 6] rfl ?_
    refine j_widen (k2 := k + 68) (n2 := n + 340) (by omega) (by omega) ?_
    exact kx (τ2) hR2
set_option maxHeartbeats 4000000 in
set_option maxRecDepth 100000 in
theorem lc_18 {mc : MC} {g : GG} {Q : State → Prop} {b L : Nat} {xs : Nat → Int32} {k n : Nat} {σ : Sg} (hC : Cx mc g cL_law RL 9 (some .boolean)) (hR : mR mc = rmJ 12 438 667605 7093289) (hX : va_X b L xs (mS mc) (mS mc).heap) (hbl : b < (mS mc).heap.size) (hbA : ¬ gA g b) (hRR : RC σ σ) (i : Int) (hi : 0 ≤ i ∧ i + 7 ≤ L ∧ L ≤ 3584) (hkn : k + 68 ≤ 667605 ∧ n + 340 ≤ 7093289) (kx : ∀ τ, RC τ τ → J mc g (k + 68) (n + 340) Q 2154 [(4, vI (i)), (1, .ref (gd g (0))), (2, .ref (gd g (19))), (3, .ref (gd g (27))), (0, .ref b)] [] τ) : J mc g k n Q 1339 [(4, vI (i)), (1, .ref (gd g (0))), (2, .ref (gd g (19))), (3, .ref (gd g (27))), (0, .ref b)] [] σ := by
  obtain ⟨z1, a1, b1, e1⟩ := iI_of (xs (i + 1).toNat)
  obtain ⟨k1, n1, k2, n2, c, r, τ1, τ2, h1, h2, hk, hc, e7, e9, rr, hR2⟩ := st_thumbPairs (hlJ hC) g hRR z1 ⟨a1, b1⟩
  have rr1 := rr.1
  have rr2 := rr.2
  refine j_aload_n hC dL_law_1339 1 rfl ?_
  refine j_aload_n hC dL_law_1340 4 rfl ?_
  refine j_iload hC dL_law_1341 0 rfl ?_
  refine j_iconst hC dL_law_1343 ?_
  refine j_iadd hC dL_law_1344 ?_
  refine j_sld hC hX hbl hbA (by omega) dL_law_1345 ?_
  rw [e1]
  refine j_aload_n hC dL_law_1346 3 rfl ?_
  refine j_callSW1 (ar := 3) (hh := [(0, 9, 12, 19)]) hC hR h1 [] rfl (by decide) (by decide +kernel) rfl wd485 wd486 wd0 wd487 ⟨by decide, by omega⟩ (Nat.le_of_ble_eq_true rfl) dL_law_1347 ?_
  refine j_istore hC dL_law_1350 [(5, vI (c)), (4, vI (i)), (1, .ref (gd g (0))), (2, .ref (gd g (19))), (3, .ref (gd g (27))), (0, .ref b)] (by decide) rfl ?_
  refine j_aload_n hC dL_law_1352 3 rfl ?_
  refine j_aload_n hC dL_law_1353 5 rfl ?_
  refine j_iload hC dL_law_1354 1 rfl ?_
  refine j_iconst hC dL_law_1356 ?_
  refine j_iadd hC dL_law_1357 ?_
  refine j_sld hC hX hbl hbA (by omega) dL_law_1358 ?_
  rw [e1]
  refine j_callV1 (ar := 1) hC hR (h2) [] rfl 19 rfl rfl rfl (by decide) (by decide +kernel) rfl wd762 wd763 wd764 wd4 wd765 ⟨by decide, by omega⟩ (Nat.le_of_ble_eq_true rfl) dL_law_1359 ?_
  refine j_istore hC dL_law_1362 [(6, vI (r)), (5, vI (c)), (4, vI (i)), (1, .ref (gd g (0))), (2, .ref (gd g (19))), (3, .ref (gd g (27))), (0, .ref b)] (by decide) rfl ?_
  refine j_aload_n hC dL_law_1364 4 rfl ?_
  refine j_callV1 (ar := 0) hC hR (c_X4_thrown (hlJ hC) g τ2) [] rfl 19 rfl rfl rfl (by decide) (by decide +kernel) rfl wd610 wd611 wd612 wd4 wd613 ⟨by decide, by omega⟩ (Nat.le_of_ble_eq_true rfl) dL_law_1365 ?_
  refine j_iload hC dL_law_1368 1 rfl ?_
  refine j_icmp_eq (tgt := 1375) hC dL_law_1370 (by decide) (by omega) (fun _ => ?_) (fun h => absurd h (by omega))
  refine j_iload hC dL_law_1375 1 rfl ?_
  refine j_if_ne (tgt := 1392) hC dL_law_1377 (by decide) (by omega) (fun h1377 => ?_) (fun h1377 => ?_)
  · refine j_goto (tgt := 2154) hC dL_law_1392 (by decide) ?_
    refine j_sub [2, 3, 4, 5, 6] rfl ?_
    refine j_widen (k2 := k + 68) (n2 := n + 340) (by omega) (by omega) ?_
    exact kx (τ2) hR2
  · refine j_aload_n hC dL_law_1380 5 rfl ?_
    refine j_iconst hC dL_law_1381 ?_
    refine j_lald0 hC dL_law_1382 ?_
    refine j_iload hC dL_law_1383 0 rfl ?_
    refine j_i2l hC dL_law_1385 (by omega) ?_
    refine j_lcmpE hC (congrArg jI (e9 h1377)) dL_law_1386 ?_
    refine j_if_eq (tgt := 1392) hC dL_law_1387 (by decide) (by omega) (fun _ => ?_) (fun h => absurd h (by omega))
    refine j_goto (tgt := 2154) hC dL_law_1392 (by decide) ?_
    refine j_sub [2, 3, 4, 5, 6] rfl ?_
    refine j_widen (k2 := k + 68) (n2 := n + 340) (by omega) (by omega) ?_
    exact kx (τ2) hR2
set_option maxHeartbeats 4000000 in
set_option maxRecDepth 100000 in
theorem lc_19 {mc : MC} {g : GG} {Q : State → Prop} {b L : Nat} {xs : Nat → Int32} {k n : Nat} {σ : Sg} (hC : Cx mc g cL_law RL 9 (some .boolean)) (hR : mR mc = rmJ 12 438 667605 7093289) (hX : va_X b L xs (mS mc) (mS mc).heap) (hbl : b < (mS mc).heap.size) (hbA : ¬ gA g b) (hRR : RC σ σ) (i : Int) (hi : 0 ≤ i ∧ i + 7 ≤ L ∧ L ≤ 3584) (hkn : k + 68 ≤ 667605 ∧ n + 340 ≤ 7093289) (kx : ∀ τ, RC τ τ → J mc g (k + 68) (n + 340) Q 2154 [(4, vI (i)), (1, .ref (gd g (0))), (2, .ref (gd g (19))), (3, .ref (gd g (27))), (0, .ref b)] [] τ) : J mc g k n Q 1395 [(4, vI (i)), (1, .ref (gd g (0))), (2, .ref (gd g (19))), (3, .ref (gd g (27))), (0, .ref b)] [] σ := by
  obtain ⟨z1, a1, b1, e1⟩ := iI_of (xs (i + 1).toNat)
  obtain ⟨k1, n1, k2, n2, c, r, τ1, τ2, h1, h2, hk, hc, e7, e9, rr, hR2⟩ := st_closest (hlJ hC) g hRR z1 ⟨a1, b1⟩
  have rr1 := rr.1
  have rr2 := rr.2
  refine j_aload_n hC dL_law_1395 1 rfl ?_
  refine j_aload_n hC dL_law_1396 4 rfl ?_
  refine j_iload hC dL_law_1397 0 rfl ?_
  refine j_iconst hC dL_law_1399 ?_
  refine j_iadd hC dL_law_1400 ?_
  refine j_sld hC hX hbl hbA (by omega) dL_law_1401 ?_
  rw [e1]
  refine j_aload_n hC dL_law_1402 3 rfl ?_
  refine j_callSW1 (ar := 3) (hh := [(0, 9, 12, 19)]) hC hR h1 [] rfl (by decide) (by decide +kernel) rfl wd492 wd493 wd0 wd494 ⟨by decide, by omega⟩ (Nat.le_of_ble_eq_true rfl) dL_law_1403 ?_
  refine j_istore hC dL_law_1406 [(5, vI (c)), (4, vI (i)), (1, .ref (gd g (0))), (2, .ref (gd g (19))), (3, .ref (gd g (27))), (0, .ref b)] (by decide) rfl ?_
  refine j_aload_n hC dL_law_1408 3 rfl ?_
  refine j_aload_n hC dL_law_1409 5 rfl ?_
  refine j_iload hC dL_law_1410 1 rfl ?_
  refine j_iconst hC dL_law_1412 ?_
  refine j_iadd hC dL_law_1413 ?_
  refine j_sld hC hX hbl hbA (by omega) dL_law_1414 ?_
  rw [e1]
  refine j_callV1 (ar := 1) hC hR (h2) [] rfl 19 rfl rfl rfl (by decide) (by decide +kernel) rfl wd770 wd771 wd772 wd4 wd773 ⟨by decide, by omega⟩ (Nat.le_of_ble_eq_true rfl) dL_law_1415 ?_
  refine j_istore hC dL_law_1418 [(6, vI (r)), (5, vI (c)), (4, vI (i)), (1, .ref (gd g (0))), (2, .ref (gd g (19))), (3, .ref (gd g (27))), (0, .ref b)] (by decide) rfl ?_
  refine j_aload_n hC dL_law_1420 4 rfl ?_
  refine j_callV1 (ar := 0) hC hR (c_X4_thrown (hlJ hC) g τ2) [] rfl 19 rfl rfl rfl (by decide) (by decide +kernel) rfl wd610 wd611 wd612 wd4 wd613 ⟨by decide, by omega⟩ (Nat.le_of_ble_eq_true rfl) dL_law_1421 ?_
  refine j_iload hC dL_law_1424 1 rfl ?_
  refine j_icmp_eq (tgt := 1431) hC dL_law_1426 (by decide) (by omega) (fun _ => ?_) (fun h => absurd h (by omega))
  refine j_iload hC dL_law_1431 1 rfl ?_
  refine j_if_ne (tgt := 1448) hC dL_law_1433 (by decide) (by omega) (fun h1433 => ?_) (fun h1433 => ?_)
  · refine j_goto (tgt := 2154) hC dL_law_1448 (by decide) ?_
    refine j_sub [2, 3, 4, 5, 6] rfl ?_
    refine j_widen (k2 := k + 68) (n2 := n + 340) (by omega) (by omega) ?_
    exact kx (τ2) hR2
  · refine j_aload_n hC dL_law_1436 5 rfl ?_
    refine j_iconst hC dL_law_1437 ?_
    refine j_lald0 hC dL_law_1438 ?_
    refine j_iload hC dL_law_1439 0 rfl ?_
    refine j_i2l hC dL_law_1441 (by omega) ?_
    refine j_lcmpE hC (congrArg jI (e9 h1433)) dL_law_1442 ?_
    refine j_if_eq (tgt := 1448) hC dL_law_1443 (by decide) (by omega) (fun _ => ?_) (fun h => absurd h (by omega))
    refine j_goto (tgt := 2154) hC dL_law_1448 (by decide) ?_
    refine j_sub [2, 3, 4, 5, 6] rfl ?_
    refine j_widen (k2 := k + 68) (n2 := n + 340) (by omega) (by omega) ?_
    exact kx (τ2) hR2
set_option maxHeartbeats 4000000 in
set_option maxRecDepth 100000 in
theorem lc_20 {mc : MC} {g : GG} {Q : State → Prop} {b L : Nat} {xs : Nat → Int32} {k n : Nat} {σ : Sg} (hC : Cx mc g cL_law RL 9 (some .boolean)) (hR : mR mc = rmJ 12 438 667605 7093289) (hX : va_X b L xs (mS mc) (mS mc).heap) (hbl : b < (mS mc).heap.size) (hbA : ¬ gA g b) (hRR : RC σ σ) (i : Int) (hi : 0 ≤ i ∧ i + 7 ≤ L ∧ L ≤ 3584) (hkn : k + 68 ≤ 667605 ∧ n + 340 ≤ 7093289) (kx : ∀ τ, RC τ τ → J mc g (k + 68) (n + 340) Q 2154 [(4, vI (i)), (1, .ref (gd g (0))), (2, .ref (gd g (19))), (3, .ref (gd g (27))), (0, .ref b)] [] τ) : J mc g k n Q 1451 [(4, vI (i)), (1, .ref (gd g (0))), (2, .ref (gd g (19))), (3, .ref (gd g (27))), (0, .ref b)] [] σ := by
  obtain ⟨z1, a1, b1, e1⟩ := iI_of (xs (i + 1).toNat)
  obtain ⟨k1, n1, k2, n2, c, r, τ1, τ2, h1, h2, hk, hc, e7, e9, rr, hR2⟩ := st_mostMistaken (hlJ hC) g hRR z1 ⟨a1, b1⟩
  have rr1 := rr.1
  have rr2 := rr.2
  refine j_aload_n hC dL_law_1451 1 rfl ?_
  refine j_aload_n hC dL_law_1452 4 rfl ?_
  refine j_iload hC dL_law_1453 0 rfl ?_
  refine j_iconst hC dL_law_1455 ?_
  refine j_iadd hC dL_law_1456 ?_
  refine j_sld hC hX hbl hbA (by omega) dL_law_1457 ?_
  rw [e1]
  refine j_aload_n hC dL_law_1458 3 rfl ?_
  refine j_callSW1 (ar := 3) (hh := [(0, 9, 12, 19)]) hC hR h1 [] rfl (by decide) (by decide +kernel) rfl wd499 wd500 wd0 wd501 ⟨by decide, by omega⟩ (Nat.le_of_ble_eq_true rfl) dL_law_1459 ?_
  refine j_istore hC dL_law_1462 [(5, vI (c)), (4, vI (i)), (1, .ref (gd g (0))), (2, .ref (gd g (19))), (3, .ref (gd g (27))), (0, .ref b)] (by decide) rfl ?_
  refine j_aload_n hC dL_law_1464 3 rfl ?_
  refine j_aload_n hC dL_law_1465 5 rfl ?_
  refine j_iload hC dL_law_1466 1 rfl ?_
  refine j_iconst hC dL_law_1468 ?_
  refine j_iadd hC dL_law_1469 ?_
  refine j_sld hC hX hbl hbA (by omega) dL_law_1470 ?_
  rw [e1]
  refine j_callV1 (ar := 1) hC hR (h2) [] rfl 19 rfl rfl rfl (by decide) (by decide +kernel) rfl wd778 wd779 wd780 wd4 wd781 ⟨by decide, by omega⟩ (Nat.le_of_ble_eq_true rfl) dL_law_1471 ?_
  refine j_istore hC dL_law_1474 [(6, vI (r)), (5, vI (c)), (4, vI (i)), (1, .ref (gd g (0))), (2, .ref (gd g (19))), (3, .ref (gd g (27))), (0, .ref b)] (by decide) rfl ?_
  refine j_aload_n hC dL_law_1476 4 rfl ?_
  refine j_callV1 (ar := 0) hC hR (c_X4_thrown (hlJ hC) g τ2) [] rfl 19 rfl rfl rfl (by decide) (by decide +kernel) rfl wd610 wd611 wd612 wd4 wd613 ⟨by decide, by omega⟩ (Nat.le_of_ble_eq_true rfl) dL_law_1477 ?_
  refine j_iload hC dL_law_1480 1 rfl ?_
  refine j_icmp_eq (tgt := 1487) hC dL_law_1482 (by decide) (by omega) (fun _ => ?_) (fun h => absurd h (by omega))
  refine j_iload hC dL_law_1487 1 rfl ?_
  refine j_if_ne (tgt := 1504) hC dL_law_1489 (by decide) (by omega) (fun h1489 => ?_) (fun h1489 => ?_)
  · refine j_goto (tgt := 2154) hC dL_law_1504 (by decide) ?_
    refine j_sub [2, 3, 4, 5, 6] rfl ?_
    refine j_widen (k2 := k + 68) (n2 := n + 340) (by omega) (by omega) ?_
    exact kx (τ2) hR2
  · refine j_aload_n hC dL_law_1492 5 rfl ?_
    refine j_iconst hC dL_law_1493 ?_
    refine j_lald0 hC dL_law_1494 ?_
    refine j_iload hC dL_law_1495 0 rfl ?_
    refine j_i2l hC dL_law_1497 (by omega) ?_
    refine j_lcmpE hC (congrArg jI (e9 h1489)) dL_law_1498 ?_
    refine j_if_eq (tgt := 1504) hC dL_law_1499 (by decide) (by omega) (fun _ => ?_) (fun h => absurd h (by omega))
    refine j_goto (tgt := 2154) hC dL_law_1504 (by decide) ?_
    refine j_sub [2, 3, 4, 5, 6] rfl ?_
    refine j_widen (k2 := k + 68) (n2 := n + 340) (by omega) (by omega) ?_
    exact kx (τ2) hR2
set_option maxHeartbeats 4000000 in
set_option maxRecDepth 100000 in
theorem lc_21 {mc : MC} {g : GG} {Q : State → Prop} {b L : Nat} {xs : Nat → Int32} {k n : Nat} {σ : Sg} (hC : Cx mc g cL_law RL 9 (some .boolean)) (hR : mR mc = rmJ 12 438 667605 7093289) (hX : va_X b L xs (mS mc) (mS mc).heap) (hbl : b < (mS mc).heap.size) (hbA : ¬ gA g b) (hRR : RC σ σ) (i : Int) (hi : 0 ≤ i ∧ i + 7 ≤ L ∧ L ≤ 3584) (hkn : k + 68 ≤ 667605 ∧ n + 340 ≤ 7093289) (kx : ∀ τ, RC τ τ → J mc g (k + 68) (n + 340) Q 2154 [(4, vI (i)), (1, .ref (gd g (0))), (2, .ref (gd g (19))), (3, .ref (gd g (27))), (0, .ref b)] [] τ) : J mc g k n Q 1507 [(4, vI (i)), (1, .ref (gd g (0))), (2, .ref (gd g (19))), (3, .ref (gd g (27))), (0, .ref b)] [] σ := by
  obtain ⟨z1, a1, b1, e1⟩ := iI_of (xs (i + 1).toNat)
  obtain ⟨z2, a2, b2, e2⟩ := iI_of (xs (i + 2).toNat)
  obtain ⟨z3, a3, b3, e3⟩ := iI_of (xs (i + 3).toNat)
  obtain ⟨k1, n1, k2, n2, c, r, τ1, τ2, h1, h2, hk, hc, e7, e9, rr, hR2⟩ := st_read (hlJ hC) g hRR z1 z2 z3 ⟨a1, b1⟩ ⟨a2, b2⟩ ⟨a3, b3⟩
  have rr1 := rr.1
  have rr2 := rr.2
  refine j_aload_n hC dL_law_1507 1 rfl ?_
  refine j_aload_n hC dL_law_1508 4 rfl ?_
  refine j_iload hC dL_law_1509 0 rfl ?_
  refine j_iconst hC dL_law_1511 ?_
  refine j_iadd hC dL_law_1512 ?_
  refine j_sld hC hX hbl hbA (by omega) dL_law_1513 ?_
  rw [e1]
  refine j_aload_n hC dL_law_1514 4 rfl ?_
  refine j_iload hC dL_law_1515 0 rfl ?_
  refine j_iconst hC dL_law_1517 ?_
  refine j_iadd hC dL_law_1518 ?_
  refine j_sld hC hX hbl hbA (by omega) dL_law_1519 ?_
  rw [e2]
  refine j_aload_n hC dL_law_1520 4 rfl ?_
  refine j_iload hC dL_law_1521 0 rfl ?_
  refine j_iconst hC dL_law_1523 ?_
  refine j_iadd hC dL_law_1524 ?_
  refine j_sld hC hX hbl hbA (by omega) dL_law_1525 ?_
  rw [e3]
  refine j_aload_n hC dL_law_1526 3 rfl ?_
  refine j_callSW1 (ar := 5) (hh := [(0, 12, 15, 19)]) hC hR h1 [] rfl (by decide) (by decide +kernel) rfl wd506 wd507 wd0 wd508 ⟨by decide, by omega⟩ (Nat.le_of_ble_eq_true rfl) dL_law_1527 ?_
  refine j_istore hC dL_law_1530 [(5, vI (c)), (4, vI (i)), (1, .ref (gd g (0))), (2, .ref (gd g (19))), (3, .ref (gd g (27))), (0, .ref b)] (by decide) rfl ?_
  refine j_aload_n hC dL_law_1532 3 rfl ?_
  refine j_aload_n hC dL_law_1533 5 rfl ?_
  refine j_iload hC dL_law_1534 1 rfl ?_
  refine j_iconst hC dL_law_1536 ?_
  refine j_iadd hC dL_law_1537 ?_
  refine j_sld hC hX hbl hbA (by omega) dL_law_1538 ?_
  rw [e1]
  refine j_aload_n hC dL_law_1539 5 rfl ?_
  refine j_iload hC dL_law_1540 1 rfl ?_
  refine j_iconst hC dL_law_1542 ?_
  refine j_iadd hC dL_law_1543 ?_
  refine j_sld hC hX hbl hbA (by omega) dL_law_1544 ?_
  rw [e2]
  refine j_aload_n hC dL_law_1545 5 rfl ?_
  refine j_iload hC dL_law_1546 1 rfl ?_
  refine j_iconst hC dL_law_1548 ?_
  refine j_iadd hC dL_law_1549 ?_
  refine j_sld hC hX hbl hbA (by omega) dL_law_1550 ?_
  rw [e3]
  refine j_callV1 (ar := 3) hC hR (h2) [] rfl 19 rfl rfl rfl (by decide) (by decide +kernel) rfl wd786 wd787 wd788 wd4 wd789 ⟨by decide, by omega⟩ (Nat.le_of_ble_eq_true rfl) dL_law_1551 ?_
  refine j_istore hC dL_law_1554 [(6, vI (r)), (5, vI (c)), (4, vI (i)), (1, .ref (gd g (0))), (2, .ref (gd g (19))), (3, .ref (gd g (27))), (0, .ref b)] (by decide) rfl ?_
  refine j_aload_n hC dL_law_1556 4 rfl ?_
  refine j_callV1 (ar := 0) hC hR (c_X4_thrown (hlJ hC) g τ2) [] rfl 19 rfl rfl rfl (by decide) (by decide +kernel) rfl wd610 wd611 wd612 wd4 wd613 ⟨by decide, by omega⟩ (Nat.le_of_ble_eq_true rfl) dL_law_1557 ?_
  refine j_iload hC dL_law_1560 1 rfl ?_
  refine j_icmp_eq (tgt := 1567) hC dL_law_1562 (by decide) (by omega) (fun _ => ?_) (fun h => absurd h (by omega))
  refine j_iload hC dL_law_1567 1 rfl ?_
  refine j_if_ne (tgt := 1584) hC dL_law_1569 (by decide) (by omega) (fun h1569 => ?_) (fun h1569 => ?_)
  · refine j_goto (tgt := 2154) hC dL_law_1584 (by decide) ?_
    refine j_sub [2, 3, 4, 5, 6] rfl ?_
    refine j_widen (k2 := k + 68) (n2 := n + 340) (by omega) (by omega) ?_
    exact kx (τ2) hR2
  · refine j_aload_n hC dL_law_1572 5 rfl ?_
    refine j_iconst hC dL_law_1573 ?_
    refine j_lald0 hC dL_law_1574 ?_
    refine j_iload hC dL_law_1575 0 rfl ?_
    refine j_i2l hC dL_law_1577 (by omega) ?_
    refine j_lcmpE hC (congrArg jI (e9 h1569)) dL_law_1578 ?_
    refine j_if_eq (tgt := 1584) hC dL_law_1579 (by decide) (by omega) (fun _ => ?_) (fun h => absurd h (by omega))
    refine j_goto (tgt := 2154) hC dL_law_1584 (by decide) ?_
    refine j_sub [2, 3, 4, 5, 6] rfl ?_
    refine j_widen (k2 := k + 68) (n2 := n + 340) (by omega) (by omega) ?_
    exact kx (τ2) hR2
set_option maxHeartbeats 4000000 in
set_option maxRecDepth 100000 in
theorem lc_22 {mc : MC} {g : GG} {Q : State → Prop} {b L : Nat} {xs : Nat → Int32} {k n : Nat} {σ : Sg} (hC : Cx mc g cL_law RL 9 (some .boolean)) (hR : mR mc = rmJ 12 438 667605 7093289) (hX : va_X b L xs (mS mc) (mS mc).heap) (hbl : b < (mS mc).heap.size) (hbA : ¬ gA g b) (hRR : RC σ σ) (i : Int) (hi : 0 ≤ i ∧ i + 7 ≤ L ∧ L ≤ 3584) (hkn : k + 68 ≤ 667605 ∧ n + 340 ≤ 7093289) (kx : ∀ τ, RC τ τ → J mc g (k + 68) (n + 340) Q 2154 [(4, vI (i)), (1, .ref (gd g (0))), (2, .ref (gd g (19))), (3, .ref (gd g (27))), (0, .ref b)] [] τ) : J mc g k n Q 1587 [(4, vI (i)), (1, .ref (gd g (0))), (2, .ref (gd g (19))), (3, .ref (gd g (27))), (0, .ref b)] [] σ := by
  obtain ⟨z1, a1, b1, e1⟩ := iI_of (xs (i + 1).toNat)
  obtain ⟨z2, a2, b2, e2⟩ := iI_of (xs (i + 2).toNat)
  obtain ⟨z3, a3, b3, e3⟩ := iI_of (xs (i + 3).toNat)
  obtain ⟨z4, a4, b4, e4⟩ := iI_of (xs (i + 4).toNat)
  obtain ⟨z5, a5, b5, e5⟩ := iI_of (xs (i + 5).toNat)
  obtain ⟨k1, n1, k2, n2, c, r, τ1, τ2, h1, h2, hk, hc, e7, e9, rr, hR2⟩ := st_readShown (hlJ hC) g hRR z1 z2 z3 z4 z5 ⟨a1, b1⟩ ⟨a2, b2⟩ ⟨a3, b3⟩ ⟨a4, b4⟩ ⟨a5, b5⟩
  have rr1 := rr.1
  have rr2 := rr.2
  refine j_aload_n hC dL_law_1587 1 rfl ?_
  refine j_aload_n hC dL_law_1588 4 rfl ?_
  refine j_iload hC dL_law_1589 0 rfl ?_
  refine j_iconst hC dL_law_1591 ?_
  refine j_iadd hC dL_law_1592 ?_
  refine j_sld hC hX hbl hbA (by omega) dL_law_1593 ?_
  rw [e1]
  refine j_aload_n hC dL_law_1594 4 rfl ?_
  refine j_iload hC dL_law_1595 0 rfl ?_
  refine j_iconst hC dL_law_1597 ?_
  refine j_iadd hC dL_law_1598 ?_
  refine j_sld hC hX hbl hbA (by omega) dL_law_1599 ?_
  rw [e2]
  refine j_aload_n hC dL_law_1600 4 rfl ?_
  refine j_iload hC dL_law_1601 0 rfl ?_
  refine j_iconst hC dL_law_1603 ?_
  refine j_iadd hC dL_law_1604 ?_
  refine j_sld hC hX hbl hbA (by omega) dL_law_1605 ?_
  rw [e3]
  refine j_aload_n hC dL_law_1606 4 rfl ?_
  refine j_iload hC dL_law_1607 0 rfl ?_
  refine j_iconst hC dL_law_1609 ?_
  refine j_iadd hC dL_law_1610 ?_
  refine j_sld hC hX hbl hbA (by omega) dL_law_1611 ?_
  rw [e4]
  refine j_aload_n hC dL_law_1612 4 rfl ?_
  refine j_iload hC dL_law_1613 0 rfl ?_
  refine j_iconst hC dL_law_1615 ?_
  refine j_iadd hC dL_law_1616 ?_
  refine j_sld hC hX hbl hbA (by omega) dL_law_1617 ?_
  rw [e5]
  refine j_aload_n hC dL_law_1618 3 rfl ?_
  refine j_callSW1 (ar := 7) (hh := [(0, 16, 19, 19), (0, 16, 23, 21)]) hC hR h1 [] rfl (by decide) (by decide +kernel) rfl wd514 wd515 wd0 wd516 ⟨by decide, by omega⟩ (Nat.le_of_ble_eq_true rfl) dL_law_1619 ?_
  refine j_istore hC dL_law_1622 [(5, vI (c)), (4, vI (i)), (1, .ref (gd g (0))), (2, .ref (gd g (19))), (3, .ref (gd g (27))), (0, .ref b)] (by decide) rfl ?_
  refine j_aload_n hC dL_law_1624 3 rfl ?_
  refine j_aload_n hC dL_law_1625 5 rfl ?_
  refine j_iload hC dL_law_1626 1 rfl ?_
  refine j_iconst hC dL_law_1628 ?_
  refine j_iadd hC dL_law_1629 ?_
  refine j_sld hC hX hbl hbA (by omega) dL_law_1630 ?_
  rw [e1]
  refine j_aload_n hC dL_law_1631 5 rfl ?_
  refine j_iload hC dL_law_1632 1 rfl ?_
  refine j_iconst hC dL_law_1634 ?_
  refine j_iadd hC dL_law_1635 ?_
  refine j_sld hC hX hbl hbA (by omega) dL_law_1636 ?_
  rw [e2]
  refine j_aload_n hC dL_law_1637 5 rfl ?_
  refine j_iload hC dL_law_1638 1 rfl ?_
  refine j_iconst hC dL_law_1640 ?_
  refine j_iadd hC dL_law_1641 ?_
  refine j_sld hC hX hbl hbA (by omega) dL_law_1642 ?_
  rw [e3]
  refine j_aload_n hC dL_law_1643 5 rfl ?_
  refine j_iload hC dL_law_1644 1 rfl ?_
  refine j_iconst hC dL_law_1646 ?_
  refine j_iadd hC dL_law_1647 ?_
  refine j_sld hC hX hbl hbA (by omega) dL_law_1648 ?_
  rw [e4]
  refine j_aload_n hC dL_law_1649 5 rfl ?_
  refine j_iload hC dL_law_1650 1 rfl ?_
  refine j_iconst hC dL_law_1652 ?_
  refine j_iadd hC dL_law_1653 ?_
  refine j_sld hC hX hbl hbA (by omega) dL_law_1654 ?_
  rw [e5]
  refine j_callV1 (ar := 5) hC hR (h2) [] rfl 19 rfl rfl rfl (by decide) (by decide +kernel) rfl wd798 wd799 wd800 wd4 wd801 ⟨by decide, by omega⟩ (Nat.le_of_ble_eq_true rfl) dL_law_1655 ?_
  refine j_istore hC dL_law_1658 [(6, vI (r)), (5, vI (c)), (4, vI (i)), (1, .ref (gd g (0))), (2, .ref (gd g (19))), (3, .ref (gd g (27))), (0, .ref b)] (by decide) rfl ?_
  refine j_aload_n hC dL_law_1660 4 rfl ?_
  refine j_callV1 (ar := 0) hC hR (c_X4_thrown (hlJ hC) g τ2) [] rfl 19 rfl rfl rfl (by decide) (by decide +kernel) rfl wd610 wd611 wd612 wd4 wd613 ⟨by decide, by omega⟩ (Nat.le_of_ble_eq_true rfl) dL_law_1661 ?_
  refine j_iload hC dL_law_1664 1 rfl ?_
  refine j_icmp_eq (tgt := 1671) hC dL_law_1666 (by decide) (by omega) (fun _ => ?_) (fun h => absurd h (by omega))
  refine j_iload hC dL_law_1671 1 rfl ?_
  refine j_if_ne (tgt := 1688) hC dL_law_1673 (by decide) (by omega) (fun h1673 => ?_) (fun h1673 => ?_)
  · refine j_goto (tgt := 2154) hC dL_law_1688 (by decide) ?_
    refine j_sub [2, 3, 4, 5, 6] rfl ?_
    refine j_widen (k2 := k + 68) (n2 := n + 340) (by omega) (by omega) ?_
    exact kx (τ2) hR2
  · refine j_aload_n hC dL_law_1676 5 rfl ?_
    refine j_iconst hC dL_law_1677 ?_
    refine j_lald0 hC dL_law_1678 ?_
    refine j_iload hC dL_law_1679 0 rfl ?_
    refine j_i2l hC dL_law_1681 (by omega) ?_
    refine j_lcmpE hC (congrArg jI (e9 h1673)) dL_law_1682 ?_
    refine j_if_eq (tgt := 1688) hC dL_law_1683 (by decide) (by omega) (fun _ => ?_) (fun h => absurd h (by omega))
    refine j_goto (tgt := 2154) hC dL_law_1688 (by decide) ?_
    refine j_sub [2, 3, 4, 5, 6] rfl ?_
    refine j_widen (k2 := k + 68) (n2 := n + 340) (by omega) (by omega) ?_
    exact kx (τ2) hR2
set_option maxHeartbeats 4000000 in
set_option maxRecDepth 100000 in
theorem lc_23 {mc : MC} {g : GG} {Q : State → Prop} {b L : Nat} {xs : Nat → Int32} {k n : Nat} {σ : Sg} (hC : Cx mc g cL_law RL 9 (some .boolean)) (hR : mR mc = rmJ 12 438 667605 7093289) (hX : va_X b L xs (mS mc) (mS mc).heap) (hbl : b < (mS mc).heap.size) (hbA : ¬ gA g b) (hRR : RC σ σ) (i : Int) (hi : 0 ≤ i ∧ i + 7 ≤ L ∧ L ≤ 3584) (hkn : k + 68 ≤ 667605 ∧ n + 340 ≤ 7093289) (kx : ∀ τ, RC τ τ → J mc g (k + 68) (n + 340) Q 2154 [(4, vI (i)), (1, .ref (gd g (0))), (2, .ref (gd g (19))), (3, .ref (gd g (27))), (0, .ref b)] [] τ) : J mc g k n Q 1691 [(4, vI (i)), (1, .ref (gd g (0))), (2, .ref (gd g (19))), (3, .ref (gd g (27))), (0, .ref b)] [] σ := by
  obtain ⟨z1, a1, b1, e1⟩ := iI_of (xs (i + 1).toNat)
  obtain ⟨z2, a2, b2, e2⟩ := iI_of (xs (i + 2).toNat)
  obtain ⟨k1, n1, k2, n2, c, r, τ1, τ2, h1, h2, hk, hc, e7, e9, rr, hR2⟩ := st_understood (hlJ hC) g hRR z1 z2 ⟨a1, b1⟩ ⟨a2, b2⟩
  have rr1 := rr.1
  have rr2 := rr.2
  refine j_aload_n hC dL_law_1691 1 rfl ?_
  refine j_aload_n hC dL_law_1692 4 rfl ?_
  refine j_iload hC dL_law_1693 0 rfl ?_
  refine j_iconst hC dL_law_1695 ?_
  refine j_iadd hC dL_law_1696 ?_
  refine j_sld hC hX hbl hbA (by omega) dL_law_1697 ?_
  rw [e1]
  refine j_aload_n hC dL_law_1698 4 rfl ?_
  refine j_iload hC dL_law_1699 0 rfl ?_
  refine j_iconst hC dL_law_1701 ?_
  refine j_iadd hC dL_law_1702 ?_
  refine j_sld hC hX hbl hbA (by omega) dL_law_1703 ?_
  rw [e2]
  refine j_aload_n hC dL_law_1704 3 rfl ?_
  refine j_callSW1 (ar := 4) (hh := [(0, 10, 13, 19)]) hC hR h1 [] rfl (by decide) (by decide +kernel) rfl wd521 wd522 wd0 wd523 ⟨by decide, by omega⟩ (Nat.le_of_ble_eq_true rfl) dL_law_1705 ?_
  refine j_istore hC dL_law_1708 [(5, vI (c)), (4, vI (i)), (1, .ref (gd g (0))), (2, .ref (gd g (19))), (3, .ref (gd g (27))), (0, .ref b)] (by decide) rfl ?_
  refine j_aload_n hC dL_law_1710 3 rfl ?_
  refine j_aload_n hC dL_law_1711 5 rfl ?_
  refine j_iload hC dL_law_1712 1 rfl ?_
  refine j_iconst hC dL_law_1714 ?_
  refine j_iadd hC dL_law_1715 ?_
  refine j_sld hC hX hbl hbA (by omega) dL_law_1716 ?_
  rw [e1]
  refine j_aload_n hC dL_law_1717 5 rfl ?_
  refine j_iload hC dL_law_1718 1 rfl ?_
  refine j_iconst hC dL_law_1720 ?_
  refine j_iadd hC dL_law_1721 ?_
  refine j_sld hC hX hbl hbA (by omega) dL_law_1722 ?_
  rw [e2]
  refine j_callV1 (ar := 2) hC hR (h2) [] rfl 19 rfl rfl rfl (by decide) (by decide +kernel) rfl wd802 wd803 wd804 wd4 wd805 ⟨by decide, by omega⟩ (Nat.le_of_ble_eq_true rfl) dL_law_1723 ?_
  refine j_istore hC dL_law_1726 [(6, vI (r)), (5, vI (c)), (4, vI (i)), (1, .ref (gd g (0))), (2, .ref (gd g (19))), (3, .ref (gd g (27))), (0, .ref b)] (by decide) rfl ?_
  refine j_aload_n hC dL_law_1728 4 rfl ?_
  refine j_callV1 (ar := 0) hC hR (c_X4_thrown (hlJ hC) g τ2) [] rfl 19 rfl rfl rfl (by decide) (by decide +kernel) rfl wd610 wd611 wd612 wd4 wd613 ⟨by decide, by omega⟩ (Nat.le_of_ble_eq_true rfl) dL_law_1729 ?_
  refine j_iload hC dL_law_1732 1 rfl ?_
  refine j_icmp_eq (tgt := 1739) hC dL_law_1734 (by decide) (by omega) (fun _ => ?_) (fun h => absurd h (by omega))
  refine j_iload hC dL_law_1739 1 rfl ?_
  refine j_if_ne (tgt := 1756) hC dL_law_1741 (by decide) (by omega) (fun h1741 => ?_) (fun h1741 => ?_)
  · refine j_goto (tgt := 2154) hC dL_law_1756 (by decide) ?_
    refine j_sub [2, 3, 4, 5, 6] rfl ?_
    refine j_widen (k2 := k + 68) (n2 := n + 340) (by omega) (by omega) ?_
    exact kx (τ2) hR2
  · refine j_aload_n hC dL_law_1744 5 rfl ?_
    refine j_iconst hC dL_law_1745 ?_
    refine j_lald0 hC dL_law_1746 ?_
    refine j_iload hC dL_law_1747 0 rfl ?_
    refine j_i2l hC dL_law_1749 (by omega) ?_
    refine j_lcmpE hC (congrArg jI (e9 h1741)) dL_law_1750 ?_
    refine j_if_eq (tgt := 1756) hC dL_law_1751 (by decide) (by omega) (fun _ => ?_) (fun h => absurd h (by omega))
    refine j_goto (tgt := 2154) hC dL_law_1756 (by decide) ?_
    refine j_sub [2, 3, 4, 5, 6] rfl ?_
    refine j_widen (k2 := k + 68) (n2 := n + 340) (by omega) (by omega) ?_
    exact kx (τ2) hR2
set_option maxHeartbeats 4000000 in
set_option maxRecDepth 100000 in
theorem lc_24 {mc : MC} {g : GG} {Q : State → Prop} {b L : Nat} {xs : Nat → Int32} {k n : Nat} {σ : Sg} (hC : Cx mc g cL_law RL 9 (some .boolean)) (hR : mR mc = rmJ 12 438 667605 7093289) (hX : va_X b L xs (mS mc) (mS mc).heap) (hbl : b < (mS mc).heap.size) (hbA : ¬ gA g b) (hRR : RC σ σ) (i : Int) (hi : 0 ≤ i ∧ i + 7 ≤ L ∧ L ≤ 3584) (hkn : k + 68 ≤ 667605 ∧ n + 340 ≤ 7093289) (kx : ∀ τ, RC τ τ → J mc g (k + 68) (n + 340) Q 2154 [(4, vI (i)), (1, .ref (gd g (0))), (2, .ref (gd g (19))), (3, .ref (gd g (27))), (0, .ref b)] [] τ) : J mc g k n Q 1759 [(4, vI (i)), (1, .ref (gd g (0))), (2, .ref (gd g (19))), (3, .ref (gd g (27))), (0, .ref b)] [] σ := by
  obtain ⟨z1, a1, b1, e1⟩ := iI_of (xs (i + 1).toNat)
  obtain ⟨z2, a2, b2, e2⟩ := iI_of (xs (i + 2).toNat)
  obtain ⟨k1, n1, k2, n2, c, r, τ1, τ2, h1, h2, hk, hc, e7, e9, rr, hR2⟩ := st_misread (hlJ hC) g hRR z1 z2 ⟨a1, b1⟩ ⟨a2, b2⟩
  have rr1 := rr.1
  have rr2 := rr.2
  refine j_aload_n hC dL_law_1759 1 rfl ?_
  refine j_aload_n hC dL_law_1760 4 rfl ?_
  refine j_iload hC dL_law_1761 0 rfl ?_
  refine j_iconst hC dL_law_1763 ?_
  refine j_iadd hC dL_law_1764 ?_
  refine j_sld hC hX hbl hbA (by omega) dL_law_1765 ?_
  rw [e1]
  refine j_aload_n hC dL_law_1766 4 rfl ?_
  refine j_iload hC dL_law_1767 0 rfl ?_
  refine j_iconst hC dL_law_1769 ?_
  refine j_iadd hC dL_law_1770 ?_
  refine j_sld hC hX hbl hbA (by omega) dL_law_1771 ?_
  rw [e2]
  refine j_aload_n hC dL_law_1772 3 rfl ?_
  refine j_callSW1 (ar := 4) (hh := [(0, 10, 13, 19)]) hC hR h1 [] rfl (by decide) (by decide +kernel) rfl wd528 wd529 wd0 wd530 ⟨by decide, by omega⟩ (Nat.le_of_ble_eq_true rfl) dL_law_1773 ?_
  refine j_istore hC dL_law_1776 [(5, vI (c)), (4, vI (i)), (1, .ref (gd g (0))), (2, .ref (gd g (19))), (3, .ref (gd g (27))), (0, .ref b)] (by decide) rfl ?_
  refine j_aload_n hC dL_law_1778 3 rfl ?_
  refine j_aload_n hC dL_law_1779 5 rfl ?_
  refine j_iload hC dL_law_1780 1 rfl ?_
  refine j_iconst hC dL_law_1782 ?_
  refine j_iadd hC dL_law_1783 ?_
  refine j_sld hC hX hbl hbA (by omega) dL_law_1784 ?_
  rw [e1]
  refine j_aload_n hC dL_law_1785 5 rfl ?_
  refine j_iload hC dL_law_1786 1 rfl ?_
  refine j_iconst hC dL_law_1788 ?_
  refine j_iadd hC dL_law_1789 ?_
  refine j_sld hC hX hbl hbA (by omega) dL_law_1790 ?_
  rw [e2]
  refine j_callV1 (ar := 2) hC hR (h2) [] rfl 19 rfl rfl rfl (by decide) (by decide +kernel) rfl wd810 wd811 wd812 wd4 wd813 ⟨by decide, by omega⟩ (Nat.le_of_ble_eq_true rfl) dL_law_1791 ?_
  refine j_istore hC dL_law_1794 [(6, vI (r)), (5, vI (c)), (4, vI (i)), (1, .ref (gd g (0))), (2, .ref (gd g (19))), (3, .ref (gd g (27))), (0, .ref b)] (by decide) rfl ?_
  refine j_aload_n hC dL_law_1796 4 rfl ?_
  refine j_callV1 (ar := 0) hC hR (c_X4_thrown (hlJ hC) g τ2) [] rfl 19 rfl rfl rfl (by decide) (by decide +kernel) rfl wd610 wd611 wd612 wd4 wd613 ⟨by decide, by omega⟩ (Nat.le_of_ble_eq_true rfl) dL_law_1797 ?_
  refine j_iload hC dL_law_1800 1 rfl ?_
  refine j_icmp_eq (tgt := 1807) hC dL_law_1802 (by decide) (by omega) (fun _ => ?_) (fun h => absurd h (by omega))
  refine j_iload hC dL_law_1807 1 rfl ?_
  refine j_if_ne (tgt := 1824) hC dL_law_1809 (by decide) (by omega) (fun h1809 => ?_) (fun h1809 => ?_)
  · refine j_goto (tgt := 2154) hC dL_law_1824 (by decide) ?_
    refine j_sub [2, 3, 4, 5, 6] rfl ?_
    refine j_widen (k2 := k + 68) (n2 := n + 340) (by omega) (by omega) ?_
    exact kx (τ2) hR2
  · refine j_aload_n hC dL_law_1812 5 rfl ?_
    refine j_iconst hC dL_law_1813 ?_
    refine j_lald0 hC dL_law_1814 ?_
    refine j_iload hC dL_law_1815 0 rfl ?_
    refine j_i2l hC dL_law_1817 (by omega) ?_
    refine j_lcmpE hC (congrArg jI (e9 h1809)) dL_law_1818 ?_
    refine j_if_eq (tgt := 1824) hC dL_law_1819 (by decide) (by omega) (fun _ => ?_) (fun h => absurd h (by omega))
    refine j_goto (tgt := 2154) hC dL_law_1824 (by decide) ?_
    refine j_sub [2, 3, 4, 5, 6] rfl ?_
    refine j_widen (k2 := k + 68) (n2 := n + 340) (by omega) (by omega) ?_
    exact kx (τ2) hR2
set_option maxHeartbeats 4000000 in
set_option maxRecDepth 100000 in
theorem lc_25 {mc : MC} {g : GG} {Q : State → Prop} {b L : Nat} {xs : Nat → Int32} {k n : Nat} {σ : Sg} (hC : Cx mc g cL_law RL 9 (some .boolean)) (hR : mR mc = rmJ 12 438 667605 7093289) (hX : va_X b L xs (mS mc) (mS mc).heap) (hbl : b < (mS mc).heap.size) (hbA : ¬ gA g b) (hRR : RC σ σ) (i : Int) (hi : 0 ≤ i ∧ i + 7 ≤ L ∧ L ≤ 3584) (hkn : k + 68 ≤ 667605 ∧ n + 340 ≤ 7093289) (kx : ∀ τ, RC τ τ → J mc g (k + 68) (n + 340) Q 2154 [(4, vI (i)), (1, .ref (gd g (0))), (2, .ref (gd g (19))), (3, .ref (gd g (27))), (0, .ref b)] [] τ) : J mc g k n Q 1827 [(4, vI (i)), (1, .ref (gd g (0))), (2, .ref (gd g (19))), (3, .ref (gd g (27))), (0, .ref b)] [] σ := by
  obtain ⟨z1, a1, b1, e1⟩ := iI_of (xs (i + 1).toNat)
  obtain ⟨z2, a2, b2, e2⟩ := iI_of (xs (i + 2).toNat)
  obtain ⟨k1, n1, k2, n2, c, r, τ1, τ2, h1, h2, hk, hc, e7, e9, rr, hR2⟩ := st_common (hlJ hC) g hRR z1 z2 ⟨a1, b1⟩ ⟨a2, b2⟩
  have rr1 := rr.1
  have rr2 := rr.2
  refine j_aload_n hC dL_law_1827 1 rfl ?_
  refine j_aload_n hC dL_law_1828 4 rfl ?_
  refine j_iload hC dL_law_1829 0 rfl ?_
  refine j_iconst hC dL_law_1831 ?_
  refine j_iadd hC dL_law_1832 ?_
  refine j_sld hC hX hbl hbA (by omega) dL_law_1833 ?_
  rw [e1]
  refine j_aload_n hC dL_law_1834 4 rfl ?_
  refine j_iload hC dL_law_1835 0 rfl ?_
  refine j_iconst hC dL_law_1837 ?_
  refine j_iadd hC dL_law_1838 ?_
  refine j_sld hC hX hbl hbA (by omega) dL_law_1839 ?_
  rw [e2]
  refine j_aload_n hC dL_law_1840 3 rfl ?_
  refine j_callSW1 (ar := 4) (hh := [(0, 10, 13, 19)]) hC hR h1 [] rfl (by decide) (by decide +kernel) rfl wd535 wd536 wd0 wd537 ⟨by decide, by omega⟩ (Nat.le_of_ble_eq_true rfl) dL_law_1841 ?_
  refine j_istore hC dL_law_1844 [(5, vI (c)), (4, vI (i)), (1, .ref (gd g (0))), (2, .ref (gd g (19))), (3, .ref (gd g (27))), (0, .ref b)] (by decide) rfl ?_
  refine j_aload_n hC dL_law_1846 3 rfl ?_
  refine j_aload_n hC dL_law_1847 5 rfl ?_
  refine j_iload hC dL_law_1848 1 rfl ?_
  refine j_iconst hC dL_law_1850 ?_
  refine j_iadd hC dL_law_1851 ?_
  refine j_sld hC hX hbl hbA (by omega) dL_law_1852 ?_
  rw [e1]
  refine j_aload_n hC dL_law_1853 5 rfl ?_
  refine j_iload hC dL_law_1854 1 rfl ?_
  refine j_iconst hC dL_law_1856 ?_
  refine j_iadd hC dL_law_1857 ?_
  refine j_sld hC hX hbl hbA (by omega) dL_law_1858 ?_
  rw [e2]
  refine j_callV1 (ar := 2) hC hR (h2) [] rfl 19 rfl rfl rfl (by decide) (by decide +kernel) rfl wd814 wd815 wd816 wd4 wd817 ⟨by decide, by omega⟩ (Nat.le_of_ble_eq_true rfl) dL_law_1859 ?_
  refine j_istore hC dL_law_1862 [(6, vI (r)), (5, vI (c)), (4, vI (i)), (1, .ref (gd g (0))), (2, .ref (gd g (19))), (3, .ref (gd g (27))), (0, .ref b)] (by decide) rfl ?_
  refine j_aload_n hC dL_law_1864 4 rfl ?_
  refine j_callV1 (ar := 0) hC hR (c_X4_thrown (hlJ hC) g τ2) [] rfl 19 rfl rfl rfl (by decide) (by decide +kernel) rfl wd610 wd611 wd612 wd4 wd613 ⟨by decide, by omega⟩ (Nat.le_of_ble_eq_true rfl) dL_law_1865 ?_
  refine j_iload hC dL_law_1868 1 rfl ?_
  refine j_icmp_eq (tgt := 1875) hC dL_law_1870 (by decide) (by omega) (fun _ => ?_) (fun h => absurd h (by omega))
  refine j_iload hC dL_law_1875 1 rfl ?_
  refine j_if_ne (tgt := 1892) hC dL_law_1877 (by decide) (by omega) (fun h1877 => ?_) (fun h1877 => ?_)
  · refine j_goto (tgt := 2154) hC dL_law_1892 (by decide) ?_
    refine j_sub [2, 3, 4, 5, 6] rfl ?_
    refine j_widen (k2 := k + 68) (n2 := n + 340) (by omega) (by omega) ?_
    exact kx (τ2) hR2
  · refine j_aload_n hC dL_law_1880 5 rfl ?_
    refine j_iconst hC dL_law_1881 ?_
    refine j_lald0 hC dL_law_1882 ?_
    refine j_iload hC dL_law_1883 0 rfl ?_
    refine j_i2l hC dL_law_1885 (by omega) ?_
    refine j_lcmpE hC (congrArg jI (e9 h1877)) dL_law_1886 ?_
    refine j_if_eq (tgt := 1892) hC dL_law_1887 (by decide) (by omega) (fun _ => ?_) (fun h => absurd h (by omega))
    refine j_goto (tgt := 2154) hC dL_law_1892 (by decide) ?_
    refine j_sub [2, 3, 4, 5, 6] rfl ?_
    refine j_widen (k2 := k + 68) (n2 := n + 340) (by omega) (by omega) ?_
    exact kx (τ2) hR2
set_option maxHeartbeats 4000000 in
set_option maxRecDepth 100000 in
theorem lc_26 {mc : MC} {g : GG} {Q : State → Prop} {b L : Nat} {xs : Nat → Int32} {k n : Nat} {σ : Sg} (hC : Cx mc g cL_law RL 9 (some .boolean)) (hR : mR mc = rmJ 12 438 667605 7093289) (hX : va_X b L xs (mS mc) (mS mc).heap) (hbl : b < (mS mc).heap.size) (hbA : ¬ gA g b) (hRR : RC σ σ) (i : Int) (hi : 0 ≤ i ∧ i + 7 ≤ L ∧ L ≤ 3584) (hkn : k + 68 ≤ 667605 ∧ n + 340 ≤ 7093289) (kx : ∀ τ, RC τ τ → J mc g (k + 68) (n + 340) Q 2154 [(4, vI (i)), (1, .ref (gd g (0))), (2, .ref (gd g (19))), (3, .ref (gd g (27))), (0, .ref b)] [] τ) : J mc g k n Q 1895 [(4, vI (i)), (1, .ref (gd g (0))), (2, .ref (gd g (19))), (3, .ref (gd g (27))), (0, .ref b)] [] σ := by
  obtain ⟨z1, a1, b1, e1⟩ := iI_of (xs (i + 1).toNat)
  obtain ⟨z2, a2, b2, e2⟩ := iI_of (xs (i + 2).toNat)
  obtain ⟨k1, n1, k2, n2, c, r, τ1, τ2, h1, h2, hk, hc, e7, e9, rr, hR2⟩ := st_bestThumb (hlJ hC) g hRR z1 z2 ⟨a1, b1⟩ ⟨a2, b2⟩
  have rr1 := rr.1
  have rr2 := rr.2
  refine j_aload_n hC dL_law_1895 1 rfl ?_
  refine j_aload_n hC dL_law_1896 4 rfl ?_
  refine j_iload hC dL_law_1897 0 rfl ?_
  refine j_iconst hC dL_law_1899 ?_
  refine j_iadd hC dL_law_1900 ?_
  refine j_sld hC hX hbl hbA (by omega) dL_law_1901 ?_
  rw [e1]
  refine j_aload_n hC dL_law_1902 4 rfl ?_
  refine j_iload hC dL_law_1903 0 rfl ?_
  refine j_iconst hC dL_law_1905 ?_
  refine j_iadd hC dL_law_1906 ?_
  refine j_sld hC hX hbl hbA (by omega) dL_law_1907 ?_
  rw [e2]
  refine j_aload_n hC dL_law_1908 3 rfl ?_
  refine j_callSW1 (ar := 4) (hh := [(0, 10, 13, 19)]) hC hR h1 [] rfl (by decide) (by decide +kernel) rfl wd546 wd547 wd0 wd548 ⟨by decide, by omega⟩ (Nat.le_of_ble_eq_true rfl) dL_law_1909 ?_
  refine j_istore hC dL_law_1912 [(5, vI (c)), (4, vI (i)), (1, .ref (gd g (0))), (2, .ref (gd g (19))), (3, .ref (gd g (27))), (0, .ref b)] (by decide) rfl ?_
  refine j_aload_n hC dL_law_1914 3 rfl ?_
  refine j_aload_n hC dL_law_1915 5 rfl ?_
  refine j_iload hC dL_law_1916 1 rfl ?_
  refine j_iconst hC dL_law_1918 ?_
  refine j_iadd hC dL_law_1919 ?_
  refine j_sld hC hX hbl hbA (by omega) dL_law_1920 ?_
  rw [e1]
  refine j_aload_n hC dL_law_1921 5 rfl ?_
  refine j_iload hC dL_law_1922 1 rfl ?_
  refine j_iconst hC dL_law_1924 ?_
  refine j_iadd hC dL_law_1925 ?_
  refine j_sld hC hX hbl hbA (by omega) dL_law_1926 ?_
  rw [e2]
  refine j_callV1 (ar := 2) hC hR (h2) [] rfl 19 rfl rfl rfl (by decide) (by decide +kernel) rfl wd818 wd819 wd820 wd4 wd821 ⟨by decide, by omega⟩ (Nat.le_of_ble_eq_true rfl) dL_law_1927 ?_
  refine j_istore hC dL_law_1930 [(6, vI (r)), (5, vI (c)), (4, vI (i)), (1, .ref (gd g (0))), (2, .ref (gd g (19))), (3, .ref (gd g (27))), (0, .ref b)] (by decide) rfl ?_
  refine j_aload_n hC dL_law_1932 4 rfl ?_
  refine j_callV1 (ar := 0) hC hR (c_X4_thrown (hlJ hC) g τ2) [] rfl 19 rfl rfl rfl (by decide) (by decide +kernel) rfl wd610 wd611 wd612 wd4 wd613 ⟨by decide, by omega⟩ (Nat.le_of_ble_eq_true rfl) dL_law_1933 ?_
  refine j_iload hC dL_law_1936 1 rfl ?_
  refine j_icmp_eq (tgt := 1943) hC dL_law_1938 (by decide) (by omega) (fun _ => ?_) (fun h => absurd h (by omega))
  refine j_iload hC dL_law_1943 1 rfl ?_
  refine j_if_ne (tgt := 1960) hC dL_law_1945 (by decide) (by omega) (fun h1945 => ?_) (fun h1945 => ?_)
  · refine j_goto (tgt := 2154) hC dL_law_1960 (by decide) ?_
    refine j_sub [2, 3, 4, 5, 6] rfl ?_
    refine j_widen (k2 := k + 68) (n2 := n + 340) (by omega) (by omega) ?_
    exact kx (τ2) hR2
  · refine j_aload_n hC dL_law_1948 5 rfl ?_
    refine j_iconst hC dL_law_1949 ?_
    refine j_lald0 hC dL_law_1950 ?_
    refine j_iload hC dL_law_1951 0 rfl ?_
    refine j_i2l hC dL_law_1953 (by omega) ?_
    refine j_lcmpE hC (congrArg jI (e9 h1945)) dL_law_1954 ?_
    refine j_if_eq (tgt := 1960) hC dL_law_1955 (by decide) (by omega) (fun _ => ?_) (fun h => absurd h (by omega))
    refine j_goto (tgt := 2154) hC dL_law_1960 (by decide) ?_
    refine j_sub [2, 3, 4, 5, 6] rfl ?_
    refine j_widen (k2 := k + 68) (n2 := n + 340) (by omega) (by omega) ?_
    exact kx (τ2) hR2
set_option maxHeartbeats 4000000 in
set_option maxRecDepth 100000 in
theorem lc_27 {mc : MC} {g : GG} {Q : State → Prop} {b L : Nat} {xs : Nat → Int32} {k n : Nat} {σ : Sg} (hC : Cx mc g cL_law RL 9 (some .boolean)) (hR : mR mc = rmJ 12 438 667605 7093289) (hX : va_X b L xs (mS mc) (mS mc).heap) (hbl : b < (mS mc).heap.size) (hbA : ¬ gA g b) (hRR : RC σ σ) (i : Int) (hi : 0 ≤ i ∧ i + 7 ≤ L ∧ L ≤ 3584) (hkn : k + 68 ≤ 667605 ∧ n + 340 ≤ 7093289) (kx : ∀ τ, RC τ τ → J mc g (k + 68) (n + 340) Q 2154 [(4, vI (i)), (1, .ref (gd g (0))), (2, .ref (gd g (19))), (3, .ref (gd g (27))), (0, .ref b)] [] τ) : J mc g k n Q 1963 [(4, vI (i)), (1, .ref (gd g (0))), (2, .ref (gd g (19))), (3, .ref (gd g (27))), (0, .ref b)] [] σ := by
  obtain ⟨z1, a1, b1, e1⟩ := iI_of (xs (i + 1).toNat)
  obtain ⟨z2, a2, b2, e2⟩ := iI_of (xs (i + 2).toNat)
  obtain ⟨k1, n1, k2, n2, c, r, τ1, τ2, h1, h2, hk, hc, e7, e9, rr, hR2⟩ := st_bestToBorrow (hlJ hC) g hRR z1 z2 ⟨a1, b1⟩ ⟨a2, b2⟩
  have rr1 := rr.1
  have rr2 := rr.2
  refine j_aload_n hC dL_law_1963 1 rfl ?_
  refine j_aload_n hC dL_law_1964 4 rfl ?_
  refine j_iload hC dL_law_1965 0 rfl ?_
  refine j_iconst hC dL_law_1967 ?_
  refine j_iadd hC dL_law_1968 ?_
  refine j_sld hC hX hbl hbA (by omega) dL_law_1969 ?_
  rw [e1]
  refine j_aload_n hC dL_law_1970 4 rfl ?_
  refine j_iload hC dL_law_1971 0 rfl ?_
  refine j_iconst hC dL_law_1973 ?_
  refine j_iadd hC dL_law_1974 ?_
  refine j_sld hC hX hbl hbA (by omega) dL_law_1975 ?_
  rw [e2]
  refine j_aload_n hC dL_law_1976 3 rfl ?_
  refine j_callSW1 (ar := 4) (hh := [(0, 10, 13, 19)]) hC hR h1 [] rfl (by decide) (by decide +kernel) rfl wd553 wd554 wd0 wd555 ⟨by decide, by omega⟩ (Nat.le_of_ble_eq_true rfl) dL_law_1977 ?_
  refine j_istore hC dL_law_1980 [(5, vI (c)), (4, vI (i)), (1, .ref (gd g (0))), (2, .ref (gd g (19))), (3, .ref (gd g (27))), (0, .ref b)] (by decide) rfl ?_
  refine j_aload_n hC dL_law_1982 3 rfl ?_
  refine j_aload_n hC dL_law_1983 5 rfl ?_
  refine j_iload hC dL_law_1984 1 rfl ?_
  refine j_iconst hC dL_law_1986 ?_
  refine j_iadd hC dL_law_1987 ?_
  refine j_sld hC hX hbl hbA (by omega) dL_law_1988 ?_
  rw [e1]
  refine j_aload_n hC dL_law_1989 5 rfl ?_
  refine j_iload hC dL_law_1990 1 rfl ?_
  refine j_iconst hC dL_law_1992 ?_
  refine j_iadd hC dL_law_1993 ?_
  refine j_sld hC hX hbl hbA (by omega) dL_law_1994 ?_
  rw [e2]
  refine j_callV1 (ar := 2) hC hR (h2) [] rfl 19 rfl rfl rfl (by decide) (by decide +kernel) rfl wd826 wd827 wd828 wd4 wd829 ⟨by decide, by omega⟩ (Nat.le_of_ble_eq_true rfl) dL_law_1995 ?_
  refine j_istore hC dL_law_1998 [(6, vI (r)), (5, vI (c)), (4, vI (i)), (1, .ref (gd g (0))), (2, .ref (gd g (19))), (3, .ref (gd g (27))), (0, .ref b)] (by decide) rfl ?_
  refine j_aload_n hC dL_law_2000 4 rfl ?_
  refine j_callV1 (ar := 0) hC hR (c_X4_thrown (hlJ hC) g τ2) [] rfl 19 rfl rfl rfl (by decide) (by decide +kernel) rfl wd610 wd611 wd612 wd4 wd613 ⟨by decide, by omega⟩ (Nat.le_of_ble_eq_true rfl) dL_law_2001 ?_
  refine j_iload hC dL_law_2004 1 rfl ?_
  refine j_icmp_eq (tgt := 2011) hC dL_law_2006 (by decide) (by omega) (fun _ => ?_) (fun h => absurd h (by omega))
  refine j_iload hC dL_law_2011 1 rfl ?_
  refine j_if_ne (tgt := 2028) hC dL_law_2013 (by decide) (by omega) (fun h2013 => ?_) (fun h2013 => ?_)
  · refine j_goto (tgt := 2154) hC dL_law_2028 (by decide) ?_
    refine j_sub [2, 3, 4, 5, 6] rfl ?_
    refine j_widen (k2 := k + 68) (n2 := n + 340) (by omega) (by omega) ?_
    exact kx (τ2) hR2
  · refine j_aload_n hC dL_law_2016 5 rfl ?_
    refine j_iconst hC dL_law_2017 ?_
    refine j_lald0 hC dL_law_2018 ?_
    refine j_iload hC dL_law_2019 0 rfl ?_
    refine j_i2l hC dL_law_2021 (by omega) ?_
    refine j_lcmpE hC (congrArg jI (e9 h2013)) dL_law_2022 ?_
    refine j_if_eq (tgt := 2028) hC dL_law_2023 (by decide) (by omega) (fun _ => ?_) (fun h => absurd h (by omega))
    refine j_goto (tgt := 2154) hC dL_law_2028 (by decide) ?_
    refine j_sub [2, 3, 4, 5, 6] rfl ?_
    refine j_widen (k2 := k + 68) (n2 := n + 340) (by omega) (by omega) ?_
    exact kx (τ2) hR2
set_option maxHeartbeats 4000000 in
set_option maxRecDepth 100000 in
theorem lc_28 {mc : MC} {g : GG} {Q : State → Prop} {b L : Nat} {xs : Nat → Int32} {k n : Nat} {σ : Sg} (hC : Cx mc g cL_law RL 9 (some .boolean)) (hR : mR mc = rmJ 12 438 667605 7093289) (hX : va_X b L xs (mS mc) (mS mc).heap) (hbl : b < (mS mc).heap.size) (hbA : ¬ gA g b) (hRR : RC σ σ) (i : Int) (hi : 0 ≤ i ∧ i + 7 ≤ L ∧ L ≤ 3584) (hkn : k + 68 ≤ 667605 ∧ n + 340 ≤ 7093289) (kx : ∀ τ, RC τ τ → J mc g (k + 68) (n + 340) Q 2154 [(4, vI (i)), (1, .ref (gd g (0))), (2, .ref (gd g (19))), (3, .ref (gd g (27))), (0, .ref b)] [] τ) : J mc g k n Q 2031 [(4, vI (i)), (1, .ref (gd g (0))), (2, .ref (gd g (19))), (3, .ref (gd g (27))), (0, .ref b)] [] σ := by
  obtain ⟨z1, a1, b1, e1⟩ := iI_of (xs (i + 1).toNat)
  obtain ⟨z2, a2, b2, e2⟩ := iI_of (xs (i + 2).toNat)
  obtain ⟨k1, n1, k2, n2, c, r, τ1, τ2, h1, h2, hk, hc, e7, e9, rr, hR2⟩ := st_alikeIfJoined (hlJ hC) g hRR z1 z2 ⟨a1, b1⟩ ⟨a2, b2⟩
  have rr1 := rr.1
  have rr2 := rr.2
  refine j_aload_n hC dL_law_2031 1 rfl ?_
  refine j_aload_n hC dL_law_2032 4 rfl ?_
  refine j_iload hC dL_law_2033 0 rfl ?_
  refine j_iconst hC dL_law_2035 ?_
  refine j_iadd hC dL_law_2036 ?_
  refine j_sld hC hX hbl hbA (by omega) dL_law_2037 ?_
  rw [e1]
  refine j_aload_n hC dL_law_2038 4 rfl ?_
  refine j_iload hC dL_law_2039 0 rfl ?_
  refine j_iconst hC dL_law_2041 ?_
  refine j_iadd hC dL_law_2042 ?_
  refine j_sld hC hX hbl hbA (by omega) dL_law_2043 ?_
  rw [e2]
  refine j_aload_n hC dL_law_2044 3 rfl ?_
  refine j_callSW1 (ar := 4) (hh := [(0, 10, 13, 19)]) hC hR h1 [] rfl (by decide) (by decide +kernel) rfl wd557 wd558 wd0 wd559 ⟨by decide, by omega⟩ (Nat.le_of_ble_eq_true rfl) dL_law_2045 ?_
  refine j_istore hC dL_law_2048 [(5, vI (c)), (4, vI (i)), (1, .ref (gd g (0))), (2, .ref (gd g (19))), (3, .ref (gd g (27))), (0, .ref b)] (by decide) rfl ?_
  refine j_aload_n hC dL_law_2050 3 rfl ?_
  refine j_aload_n hC dL_law_2051 5 rfl ?_
  refine j_iload hC dL_law_2052 1 rfl ?_
  refine j_iconst hC dL_law_2054 ?_
  refine j_iadd hC dL_law_2055 ?_
  refine j_sld hC hX hbl hbA (by omega) dL_law_2056 ?_
  rw [e1]
  refine j_aload_n hC dL_law_2057 5 rfl ?_
  refine j_iload hC dL_law_2058 1 rfl ?_
  refine j_iconst hC dL_law_2060 ?_
  refine j_iadd hC dL_law_2061 ?_
  refine j_sld hC hX hbl hbA (by omega) dL_law_2062 ?_
  rw [e2]
  refine j_callV1 (ar := 2) hC hR (h2) [] rfl 19 rfl rfl rfl (by decide) (by decide +kernel) rfl wd834 wd835 wd836 wd4 wd837 ⟨by decide, by omega⟩ (Nat.le_of_ble_eq_true rfl) dL_law_2063 ?_
  refine j_istore hC dL_law_2066 [(6, vI (r)), (5, vI (c)), (4, vI (i)), (1, .ref (gd g (0))), (2, .ref (gd g (19))), (3, .ref (gd g (27))), (0, .ref b)] (by decide) rfl ?_
  refine j_aload_n hC dL_law_2068 4 rfl ?_
  refine j_callV1 (ar := 0) hC hR (c_X4_thrown (hlJ hC) g τ2) [] rfl 19 rfl rfl rfl (by decide) (by decide +kernel) rfl wd610 wd611 wd612 wd4 wd613 ⟨by decide, by omega⟩ (Nat.le_of_ble_eq_true rfl) dL_law_2069 ?_
  refine j_iload hC dL_law_2072 1 rfl ?_
  refine j_icmp_eq (tgt := 2079) hC dL_law_2074 (by decide) (by omega) (fun _ => ?_) (fun h => absurd h (by omega))
  refine j_iload hC dL_law_2079 1 rfl ?_
  refine j_if_ne (tgt := 2096) hC dL_law_2081 (by decide) (by omega) (fun h2081 => ?_) (fun h2081 => ?_)
  · refine j_goto (tgt := 2154) hC dL_law_2096 (by decide) ?_
    refine j_sub [2, 3, 4, 5, 6] rfl ?_
    refine j_widen (k2 := k + 68) (n2 := n + 340) (by omega) (by omega) ?_
    exact kx (τ2) hR2
  · refine j_aload_n hC dL_law_2084 5 rfl ?_
    refine j_iconst hC dL_law_2085 ?_
    refine j_lald0 hC dL_law_2086 ?_
    refine j_iload hC dL_law_2087 0 rfl ?_
    refine j_i2l hC dL_law_2089 (by omega) ?_
    refine j_lcmpE hC (congrArg jI (e9 h2081)) dL_law_2090 ?_
    refine j_if_eq (tgt := 2096) hC dL_law_2091 (by decide) (by omega) (fun _ => ?_) (fun h => absurd h (by omega))
    refine j_goto (tgt := 2154) hC dL_law_2096 (by decide) ?_
    refine j_sub [2, 3, 4, 5, 6] rfl ?_
    refine j_widen (k2 := k + 68) (n2 := n + 340) (by omega) (by omega) ?_
    exact kx (τ2) hR2
set_option maxHeartbeats 4000000 in
set_option maxRecDepth 100000 in
theorem lc_29 {mc : MC} {g : GG} {Q : State → Prop} {b L : Nat} {xs : Nat → Int32} {k n : Nat} {σ : Sg} (hC : Cx mc g cL_law RL 9 (some .boolean)) (hR : mR mc = rmJ 12 438 667605 7093289) (hX : va_X b L xs (mS mc) (mS mc).heap) (hbl : b < (mS mc).heap.size) (hbA : ¬ gA g b) (hRR : RC σ σ) (i : Int) (hi : 0 ≤ i ∧ i + 7 ≤ L ∧ L ≤ 3584) (hkn : k + 68 ≤ 667605 ∧ n + 340 ≤ 7093289) (kx : ∀ τ, RC τ τ → J mc g (k + 68) (n + 340) Q 2154 [(4, vI (i)), (1, .ref (gd g (0))), (2, .ref (gd g (19))), (3, .ref (gd g (27))), (0, .ref b)] [] τ) : J mc g k n Q 2099 [(4, vI (i)), (1, .ref (gd g (0))), (2, .ref (gd g (19))), (3, .ref (gd g (27))), (0, .ref b)] [] σ := by
  have hI := hRR.1
  have hM := hRR.2.1
  have hv : msM (sF σ 7 0) = msB σ := (msB_eq (RC_cg (τ' := sF σ 7 0) hRR (eqC.rf σ) (eqM_sF (by decide)) b03)).symm
  obtain ⟨z, za, zb, ez⟩ := iI_of (Op.cmpValue (FP.dcmp (msB σ) (msB σ)) .l)
  refine j_aload_n hC dL_law_2099 1 rfl ?_
  refine j_callV1 (ar := 0) hC hR (c_X3_meanSigns (hlJ hC) g σ hI) [] rfl 0 rfl rfl rfl (by decide) (by decide +kernel) rfl wd82 wd83 wd84 wd1 wd85 ⟨by decide, by omega⟩ (Nat.le_of_ble_eq_true rfl) dL_law_2100 ?_
  refine j_dstore hC dL_law_2103 [(5, .double (msB σ)), (4, vI (i)), (1, .ref (gd g (0))), (2, .ref (gd g (19))), (3, .ref (gd g (27))), (0, .ref b)] (by decide) rfl ?_
  refine j_aload_n hC dL_law_2105 3 rfl ?_
  refine j_callV1 (ar := 0) hC hR (hv ▸ c_X4_meanSigns_ok (hlJ hC) g σ hM) [] rfl 19 rfl rfl rfl (by decide) (by decide +kernel) rfl wd839 wd840 wd841 wd4 wd842 ⟨by decide, by omega⟩ (Nat.le_of_ble_eq_true rfl) dL_law_2106 ?_
  refine j_dstore hC dL_law_2109 [(7, .double (msB σ)), (5, .double (msB σ)), (4, vI (i)), (1, .ref (gd g (0))), (2, .ref (gd g (19))), (3, .ref (gd g (27))), (0, .ref b)] (by decide) rfl ?_
  refine j_dload hC dL_law_2111 1 rfl ?_
  refine j_dload hC dL_law_2113 0 rfl ?_
  refine j_dcmp hC dL_law_2115 ?_
  rw [ez]
  refine j_if_eq (tgt := 2137) hC dL_law_2116 (by decide) (by omega) (fun h2116 => ?_) (fun h2116 => ?_)
  · refine j_goto (tgt := 2154) hC dL_law_2137 (by decide) ?_
    refine j_sub [2, 3, 4, 5, 6] rfl ?_
    refine j_widen (k2 := k + 68) (n2 := n + 340) (by omega) (by omega) ?_
    exact kx (sF σ 7 0) (RC_cg hRR (eqC_sF (by decide)) (eqM_sF (by decide)) b03)
  · refine j_dload hC dL_law_2119 1 rfl ?_
    refine j_dload hC dL_law_2121 1 rfl ?_
    refine j_dcmp hC dL_law_2123 ?_
    rw [ez]
    refine j_if_eq (tgt := 2135) hC dL_law_2124 (by decide) (by omega) (fun h => absurd h (by omega)) (fun _ => ?_)
    refine j_dload hC dL_law_2127 0 rfl ?_
    refine j_dload hC dL_law_2129 0 rfl ?_
    refine j_dcmp hC dL_law_2131 ?_
    rw [ez]
    refine j_if_ne (tgt := 2137) hC dL_law_2132 (by decide) (by omega) (fun _ => ?_) (fun h => absurd h (by omega))
    refine j_goto (tgt := 2154) hC dL_law_2137 (by decide) ?_
    refine j_sub [2, 3, 4, 5, 6] rfl ?_
    refine j_widen (k2 := k + 68) (n2 := n + 340) (by omega) (by omega) ?_
    exact kx (sF σ 7 0) (RC_cg hRR (eqC_sF (by decide)) (eqM_sF (by decide)) b03)
set_option maxHeartbeats 4000000 in
set_option maxRecDepth 100000 in
theorem lc_30 {mc : MC} {g : GG} {Q : State → Prop} {b L : Nat} {xs : Nat → Int32} {k n : Nat} {σ : Sg} (hC : Cx mc g cL_law RL 9 (some .boolean)) (hR : mR mc = rmJ 12 438 667605 7093289) (hX : va_X b L xs (mS mc) (mS mc).heap) (hbl : b < (mS mc).heap.size) (hbA : ¬ gA g b) (hRR : RC σ σ) (i : Int) (hi : 0 ≤ i ∧ i + 7 ≤ L ∧ L ≤ 3584) (hkn : k + 68 ≤ 667605 ∧ n + 340 ≤ 7093289) (kx : ∀ τ, RC τ τ → J mc g (k + 68) (n + 340) Q 2154 [(4, vI (i)), (1, .ref (gd g (0))), (2, .ref (gd g (19))), (3, .ref (gd g (27))), (0, .ref b)] [] τ) : J mc g k n Q 2140 [(4, vI (i)), (1, .ref (gd g (0))), (2, .ref (gd g (19))), (3, .ref (gd g (27))), (0, .ref b)] [] σ := by
  have hI := hRR.1
  have hM := hRR.2.1
  have hX0 : RC σ (sF (dgB σ).2 7 0) := RC_cg hRR (eqC.rf σ) ((eqM_dgO _ _ _ _).tr (eqM_sF (by decide))) b03
  have hM2 : IM (dgB σ).2 := by
    have h := dgO_IC (σ.1 0).toNat 0 (mx (mx 2099 (σ.1 0)) (σ.1 1)) σ hI (by omega) (by have := hI.1; omega)
    exact IM_cg (eqM_dgO _ _ _ _) (by rw [show (dgB σ).2.1 7 = σ.1 7 from h.2 7 (by decide)]; exact hM.2.1) hM
  obtain ⟨v1, v2⟩ := dg_eq hX0
  have hR2 : RC (dgM (sF (dgB σ).2 7 0)).2 (dgM (sF (dgB σ).2 7 0)).2 := RC_cg v2 (((eqC_sF (by decide)).tr (eqC_dgO _ _ _ _))) (eqM.rf _) v2.2.1.2.1
  refine j_aload_n hC dL_law_2140 1 rfl ?_
  refine j_callV1 (ar := 0) hC hR (c_X3_digest (hlJ hC) g σ hI) [] rfl 0 rfl rfl rfl (by decide) (by decide +kernel) rfl wd86 wd87 wd88 wd1 wd89 ⟨by decide, by omega⟩ (Nat.le_of_ble_eq_true rfl) dL_law_2141 ?_
  refine j_aload_n hC dL_law_2144 2 rfl ?_
  refine j_callV1 (ar := 0) hC hR (c_X4_digest_ok (hlJ hC) g (dgB σ).2 hM2) [.long (jI ((dgB σ).1))] rfl 19 rfl rfl rfl (by decide) (by decide +kernel) rfl wd843 wd844 wd845 wd4 wd846 ⟨by decide, by omega⟩ (Nat.le_of_ble_eq_true rfl) dL_law_2145 ?_
  refine j_lcmpE hC (congrArg jI v1) dL_law_2148 ?_
  refine j_if_eq (tgt := 2154) hC dL_law_2149 (by decide) (by omega) (fun _ => ?_) (fun h => absurd h (by omega))
  refine j_sub [0, 1, 2, 3, 4] rfl ?_
  refine j_widen (k2 := k + 68) (n2 := n + 340) (by omega) (by omega) ?_
  exact kx ((dgM (sF (dgB σ).2 7 0)).2) hR2
