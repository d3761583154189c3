

set_option maxRecDepth 20000 in
set_option maxHeartbeats 2000000 in
theorem lc_0 {l : Launch} {w : zW} (hfl : l.stackTraces = false) {hh : List (Nat × Nat × Nat × Nat)} {c0 s0 : Nat} {Z : List Frame → Array Value → State → State → Prop} (hc0 : c0 ≤ 1000) (hs0 : s0 ≤ 100000) (hLn : zSL w ≤ 3072) {i k : Nat} (hi : i + 6 ≤ zSL w) (hk : k ≤ i) {σ : zS} (hz : zOK σ) (hS : SimW l w False mL_append mX10_append 1 [zi (zSx w (i + 1)).toInt, zi (zSx w (i + 2)).toInt, zi (zSx w (i + 3)).toInt, zi (zSx w (i + 4)).toInt, zi (zSx w (i + 5)).toInt] σ) (cont : ∀ (τ : zS) (k' : Nat), zOK τ → Inv τ → k' ≤ k + 1 → zX l w (mL_law hh) (room_1, Z, c0, s0) 3069 [zf 101 0, zf 9 0, zf 10 261, zf 35 272, zi ((i : Nat) : Int), zu, zu, zu, zu] [] k' τ) : zX l w (mL_law hh) (room_1, Z, c0, s0) 312 [zf 101 0, zf 9 0, zf 10 261, zf 35 272, zi ((i : Nat) : Int), zu, zu, zu, zu] [] k σ := by
  obtain ⟨QC, hC, hS⟩ := hS
  refine zx_aloadN dL_law_312 rfl rfl ?_
  refine zx_aloadN dL_law_313 rfl rfl ?_
  refine zx_iload dL_law_314 rfl ?_
  refine zx_iconst dL_law_316 ?_
  refine zx_iadd dL_law_317 ?_
  refine zy_top (b := ((i + 1 : Nat) : Int)) (by omega) ?_
  refine zx_sld (by omega) (by omega) (by omega) dL_law_318 ?_
  refine zx_aloadN dL_law_319 rfl rfl ?_
  refine zx_iload dL_law_320 rfl ?_
  refine zx_iconst dL_law_322 ?_
  refine zx_iadd dL_law_323 ?_
  refine zy_top (b := ((i + 2 : Nat) : Int)) (by omega) ?_
  refine zx_sld (by omega) (by omega) (by omega) dL_law_324 ?_
  refine zx_aloadN dL_law_325 rfl rfl ?_
  refine zx_iload dL_law_326 rfl ?_
  refine zx_iconst dL_law_328 ?_
  refine zx_iadd dL_law_329 ?_
  refine zy_top (b := ((i + 3 : Nat) : Int)) (by omega) ?_
  refine zx_sld (by omega) (by omega) (by omega) dL_law_330 ?_
  refine zx_aloadN dL_law_331 rfl rfl ?_
  refine zx_iload dL_law_332 rfl ?_
  refine zx_iconst dL_law_334 ?_
  refine zx_iadd dL_law_335 ?_
  refine zy_top (b := ((i + 4 : Nat) : Int)) (by omega) ?_
  refine zx_sld (by omega) (by omega) (by omega) dL_law_336 ?_
  refine zx_aloadN dL_law_337 rfl rfl ?_
  refine zx_iload dL_law_338 rfl ?_
  refine zx_iconst dL_law_340 ?_
  refine zx_iadd dL_law_341 ?_
  refine zy_top (b := ((i + 5 : Nat) : Int)) (by omega) ?_
  refine zx_sld (by omega) (by omega) (by omega) dL_law_342 ?_
  refine zx_aloadN dL_law_343 rfl rfl ?_
  have hC1 : SpH l w mL_append 10 1 [zf 9 0, zi ((zSx w (i + 1)).toInt), zi ((zSx w (i + 2)).toInt), zi ((zSx w (i + 3)).toInt), zi ((zSx w (i + 4)).toInt), zi ((zSx w (i + 5)).toInt), zf 35 272] σ QC := hC
  refine zy_csHq [zf 9 0, zi ((zSx w (i + 1)).toInt), zi ((zSx w (i + 2)).toInt), zi ((zSx w (i + 3)).toInt), zi ((zSx w (i + 4)).toInt), zi ((zSx w (i + 5)).toInt), zf 35 272] hC1 dL_law_344 cw_RL_135 okL_append rfl (Nat.le_of_ble_eq_true rfl) ⟨Nat.le_of_ble_eq_true rfl, Nat.le_of_ble_eq_true rfl, by first | (show c0 + _ ≤ 601024; omega), by first | (show s0 + 6 * _ ≤ 7293034; omega)⟩ (fun r τ hq => ?_) (fun E τ hq => ?_)
  · obtain ⟨c, e, hzc, hz1, QM, hM, hK⟩ := hS _ _ hq
    obtain rfl := Sum.inl.inj e
    rw [show ∀ (x : zV) (s : List zV), (some x).toList ++ s = x :: s from fun _ _ => rfl]
    refine zy_istore [zf 101 0, zf 9 0, zf 10 261, zf 35 272, zi ((i : Nat) : Int), zi c, zu, zu, zu] dL_law_347 (Nat.le_of_ble_eq_true rfl) (Nat.le_of_ble_eq_true rfl) rfl rfl ?_
    refine zx_aloadN dL_law_349 rfl rfl ?_
    refine zx_aloadN dL_law_350 rfl rfl ?_
    refine zx_iload dL_law_351 rfl ?_
    refine zx_iconst dL_law_353 ?_
    refine zx_iadd dL_law_354 ?_
    refine zy_top (b := ((i + 1 : Nat) : Int)) (by omega) ?_
    refine zx_sld (by omega) (by omega) (by omega) dL_law_355 ?_
    refine zx_aloadN dL_law_356 rfl rfl ?_
    refine zx_iload dL_law_357 rfl ?_
    refine zx_iconst dL_law_359 ?_
    refine zx_iadd dL_law_360 ?_
    refine zy_top (b := ((i + 2 : Nat) : Int)) (by omega) ?_
    refine zx_sld (by omega) (by omega) (by omega) dL_law_361 ?_
    refine zx_aloadN dL_law_362 rfl rfl ?_
    refine zx_iload dL_law_363 rfl ?_
    refine zx_iconst dL_law_365 ?_
    refine zx_iadd dL_law_366 ?_
    refine zy_top (b := ((i + 3 : Nat) : Int)) (by omega) ?_
    refine zx_sld (by omega) (by omega) (by omega) dL_law_367 ?_
    refine zx_aloadN dL_law_368 rfl rfl ?_
    refine zx_iload dL_law_369 rfl ?_
    refine zx_iconst dL_law_371 ?_
    refine zx_iadd dL_law_372 ?_
    refine zy_top (b := ((i + 4 : Nat) : Int)) (by omega) ?_
    refine zx_sld (by omega) (by omega) (by omega) dL_law_373 ?_
    refine zx_aloadN dL_law_374 rfl rfl ?_
    refine zx_iload dL_law_375 rfl ?_
    refine zx_iconst dL_law_377 ?_
    refine zx_iadd dL_law_378 ?_
    refine zy_top (b := ((i + 5 : Nat) : Int)) (by omega) ?_
    refine zx_sld (by omega) (by omega) (by omega) dL_law_379 ?_
    refine zy_cvq [zi ((zSx w (i + 1)).toInt), zi ((zSx w (i + 2)).toInt), zi ((zSx w (i + 3)).toInt), zi ((zSx w (i + 4)).toInt), zi ((zSx w (i + 5)).toInt)] hM dL_law_380 (by decide) rfl cw_RL_140 okX10_append rfl (Nat.le_of_ble_eq_true rfl) ⟨Nat.le_of_ble_eq_true rfl, Nat.le_of_ble_eq_true rfl, by first | (show c0 + _ ≤ 601024; omega), by first | (show s0 + 6 * _ ≤ 7293034; omega)⟩ (fun r υ hq2 => ?_) (fun E υ hq2 => ?_)
    · obtain ⟨b, e, hz2, hth, hob, hB, hI⟩ := hK _ _ hq2
      obtain rfl := Sum.inl.inj e
      rw [show ∀ (x : zV) (s : List zV), (some x).toList ++ s = x :: s from fun _ _ => rfl]
      refine zy_nrm ?_
      have hzb := zt_r b
      refine zy_istore [zf 101 0, zf 9 0, zf 10 261, zf 35 272, zi ((i : Nat) : Int), zi c, zi (zt b), zu, zu] dL_law_383 (Nat.le_of_ble_eq_true rfl) (Nat.le_of_ble_eq_true rfl) rfl rfl ?_
      refine zx_aloadN dL_law_385 rfl rfl ?_
      refine zy_cv [] (sX10_thrown  hfl hz2 ) dL_law_386 (by decide) rfl cw_RL_141 okX10_thrown rfl (Nat.le_of_ble_eq_true rfl) ⟨Nat.le_of_ble_eq_true rfl, Nat.le_of_ble_eq_true rfl, by first | (show c0 + _ ≤ 601024; omega), by first | (show s0 + 6 * _ ≤ 7293034; omega)⟩ ?_
      refine zx_iload dL_law_389 rfl ?_
      refine zx_icmp_eq (tgt := 396) (by first | exact hz2 _ _ | assumption | exact zr_b _ | exact zcmp_r _ _ | (unfold zr at *; omega)) (by first | exact hz2 _ _ | assumption | exact zr_b _ | exact zcmp_r _ _ | (unfold zr at *; omega)) dL_law_391 (by decide) (fun h391 => ?_) (fun h391 => ?_)
      · refine zx_iload dL_law_396 rfl ?_
        refine zx_if_ne (tgt := 413) (by first | exact hz2 _ _ | assumption | exact zr_b _ | exact zcmp_r _ _ | (unfold zr at *; omega)) dL_law_398 (by decide) (fun h398 => ?_) (fun h398 => ?_)
        · refine zx_goto (tgt := 3069) dL_law_413 (by decide) ?_
          refine zy_drop 5 [zf 101 0, zf 9 0, zf 10 261, zf 35 272, zi ((i : Nat) : Int), zu, zi (zt b), zu, zu] rfl ?_
          refine zy_drop 6 [zf 101 0, zf 9 0, zf 10 261, zf 35 272, zi ((i : Nat) : Int), zu, zu, zu, zu] rfl ?_
          exact cont υ _ hz2 hI (by omega)
        · refine zx_aloadN dL_law_401 rfl rfl ?_
          refine zx_iconst dL_law_402 ?_
          refine zx_lald dL_law_403 ?_
          rw [hob (by assumption)]
          refine zx_iload dL_law_404 rfl ?_
          refine zx_i2l (by first | exact hz2 _ _ | assumption | exact zr_b _ | exact zcmp_r _ _ | (unfold zr at *; omega)) dL_law_406 ?_
          refine zx_lcmp (by first | exact hz2 _ _ | assumption | exact zr_b _ | exact zcmp_r _ _ | (unfold zr at *; omega)) (by first | exact hz2 _ _ | assumption | exact zr_b _ | exact zcmp_r _ _ | (unfold zr at *; omega)) dL_law_407 ?_
          refine zx_if_eq (tgt := 413) (by first | exact hz2 _ _ | assumption | exact zr_b _ | exact zcmp_r _ _ | (unfold zr at *; omega)) dL_law_408 (by decide) (fun h408 => ?_) (fun h408 => ?_)
          · have h408 := zcmp_eq.mp h408
            refine zx_goto (tgt := 3069) dL_law_413 (by decide) ?_
            refine zy_drop 5 [zf 101 0, zf 9 0, zf 10 261, zf 35 272, zi ((i : Nat) : Int), zu, zi (zt b), zu, zu] rfl ?_
            refine zy_drop 6 [zf 101 0, zf 9 0, zf 10 261, zf 35 272, zi ((i : Nat) : Int), zu, zu, zu, zu] rfl ?_
            exact cont υ _ hz2 hI (by omega)
          · have h408 := fun q => h408 (zcmp_eq.mpr q)
            first | exact absurd hth (by assumption) | exact absurd rfl (by assumption) | exact absurd (by assumption) (by assumption) | (exfalso; exact h408 (by omega)) | (exfalso; omega)
      · first | exact absurd hth (by assumption) | exact absurd rfl (by assumption) | exact absurd (by assumption) (by assumption) | (exfalso; exact h391 (by omega)) | (exfalso; omega)
    · obtain ⟨b, e, -⟩ := hK _ _ hq2
      cases e
  · obtain ⟨c, e, -⟩ := hS _ _ hq
    cases e
set_option maxRecDepth 20000 in
set_option maxHeartbeats 2000000 in
theorem lc_1 {l : Launch} {w : zW} (hfl : l.stackTraces = false) {hh : List (Nat × Nat × Nat × Nat)} {c0 s0 : Nat} {Z : List Frame → Array Value → State → State → Prop} (hc0 : c0 ≤ 1000) (hs0 : s0 ≤ 100000) (hLn : zSL w ≤ 3072) {i k : Nat} (hi : i + 6 ≤ zSL w) (hk : k ≤ i) {σ : zS} (hz : zOK σ) (hS : SimW l w False mL_truncate mX10_truncate 1 [zi (zSx w (i + 1)).toInt] σ) (cont : ∀ (τ : zS) (k' : Nat), zOK τ → Inv τ → k' ≤ k + 1 → zX l w (mL_law hh) (room_1, Z, c0, s0) 3069 [zf 101 0, zf 9 0, zf 10 261, zf 35 272, zi ((i : Nat) : Int), zu, zu, zu, zu] [] k' τ) : zX l w (mL_law hh) (room_1, Z, c0, s0) 416 [zf 101 0, zf 9 0, zf 10 261, zf 35 272, zi ((i : Nat) : Int), zu, zu, zu, zu] [] k σ := by
  obtain ⟨QC, hC, hS⟩ := hS
  refine zx_aloadN dL_law_416 rfl rfl ?_
  refine zx_aloadN dL_law_417 rfl rfl ?_
  refine zx_iload dL_law_418 rfl ?_
  refine zx_iconst dL_law_420 ?_
  refine zx_iadd dL_law_421 ?_
  refine zy_top (b := ((i + 1 : Nat) : Int)) (by omega) ?_
  refine zx_sld (by omega) (by omega) (by omega) dL_law_422 ?_
  refine zx_aloadN dL_law_423 rfl rfl ?_
  have hC1 : SpH l w mL_truncate 10 1 [zf 9 0, zi ((zSx w (i + 1)).toInt), zf 35 272] σ QC := hC
  refine zy_csHq [zf 9 0, zi ((zSx w (i + 1)).toInt), zf 35 272] hC1 dL_law_424 cw_RL_144 okL_truncate rfl (Nat.le_of_ble_eq_true rfl) ⟨Nat.le_of_ble_eq_true rfl, Nat.le_of_ble_eq_true rfl, by first | (show c0 + _ ≤ 601024; omega), by first | (show s0 + 6 * _ ≤ 7293034; omega)⟩ (fun r τ hq => ?_) (fun E τ hq => ?_)
  · obtain ⟨c, e, hzc, hz1, QM, hM, hK⟩ := hS _ _ hq
    obtain rfl := Sum.inl.inj e
    rw [show ∀ (x : zV) (s : List zV), (some x).toList ++ s = x :: s from fun _ _ => rfl]
    refine zy_istore [zf 101 0, zf 9 0, zf 10 261, zf 35 272, zi ((i : Nat) : Int), zi c, zu, zu, zu] dL_law_427 (Nat.le_of_ble_eq_true rfl) (Nat.le_of_ble_eq_true rfl) rfl rfl ?_
    refine zx_aloadN dL_law_429 rfl rfl ?_
    refine zx_aloadN dL_law_430 rfl rfl ?_
    refine zx_iload dL_law_431 rfl ?_
    refine zx_iconst dL_law_433 ?_
    refine zx_iadd dL_law_434 ?_
    refine zy_top (b := ((i + 1 : Nat) : Int)) (by omega) ?_
    refine zx_sld (by omega) (by omega) (by omega) dL_law_435 ?_
    refine zy_cvq [zi ((zSx w (i + 1)).toInt)] hM dL_law_436 (by decide) rfl cw_RL_147 okX10_truncate rfl (Nat.le_of_ble_eq_true rfl) ⟨Nat.le_of_ble_eq_true rfl, Nat.le_of_ble_eq_true rfl, by first | (show c0 + _ ≤ 601024; omega), by first | (show s0 + 6 * _ ≤ 7293034; omega)⟩ (fun r υ hq2 => ?_) (fun E υ hq2 => ?_)
    · obtain ⟨b, e, hz2, hth, hob, hB, hI⟩ := hK _ _ hq2
      obtain rfl := Sum.inl.inj e
      rw [show ∀ (x : zV) (s : List zV), (some x).toList ++ s = x :: s from fun _ _ => rfl]
      refine zy_nrm ?_
      have hzb := zt_r b
      refine zy_istore [zf 101 0, zf 9 0, zf 10 261, zf 35 272, zi ((i : Nat) : Int), zi c, zi (zt b), zu, zu] dL_law_439 (Nat.le_of_ble_eq_true rfl) (Nat.le_of_ble_eq_true rfl) rfl rfl ?_
      refine zx_aloadN dL_law_441 rfl rfl ?_
      refine zy_cv [] (sX10_thrown  hfl hz2 ) dL_law_442 (by decide) rfl cw_RL_141 okX10_thrown rfl (Nat.le_of_ble_eq_true rfl) ⟨Nat.le_of_ble_eq_true rfl, Nat.le_of_ble_eq_true rfl, by first | (show c0 + _ ≤ 601024; omega), by first | (show s0 + 6 * _ ≤ 7293034; omega)⟩ ?_
      refine zx_iload dL_law_445 rfl ?_
      refine zx_icmp_eq (tgt := 452) (by first | exact hz2 _ _ | assumption | exact zr_b _ | exact zcmp_r _ _ | (unfold zr at *; omega)) (by first | exact hz2 _ _ | assumption | exact zr_b _ | exact zcmp_r _ _ | (unfold zr at *; omega)) dL_law_447 (by decide) (fun h447 => ?_) (fun h447 => ?_)
      · refine zx_iload dL_law_452 rfl ?_
        refine zx_if_ne (tgt := 469) (by first | exact hz2 _ _ | assumption | exact zr_b _ | exact zcmp_r _ _ | (unfold zr at *; omega)) dL_law_454 (by decide) (fun h454 => ?_) (fun h454 => ?_)
        · refine zx_goto (tgt := 3069) dL_law_469 (by decide) ?_
          refine zy_drop 5 [zf 101 0, zf 9 0, zf 10 261, zf 35 272, zi ((i : Nat) : Int), zu, zi (zt b), zu, zu] rfl ?_
          refine zy_drop 6 [zf 101 0, zf 9 0, zf 10 261, zf 35 272, zi ((i : Nat) : Int), zu, zu, zu, zu] rfl ?_
          exact cont υ _ hz2 hI (by omega)
        · refine zx_aloadN dL_law_457 rfl rfl ?_
          refine zx_iconst dL_law_458 ?_
          refine zx_lald dL_law_459 ?_
          rw [hob (by assumption)]
          refine zx_iload dL_law_460 rfl ?_
          refine zx_i2l (by first | exact hz2 _ _ | assumption | exact zr_b _ | exact zcmp_r _ _ | (unfold zr at *; omega)) dL_law_462 ?_
          refine zx_lcmp (by first | exact hz2 _ _ | assumption | exact zr_b _ | exact zcmp_r _ _ | (unfold zr at *; omega)) (by first | exact hz2 _ _ | assumption | exact zr_b _ | exact zcmp_r _ _ | (unfold zr at *; omega)) dL_law_463 ?_
          refine zx_if_eq (tgt := 469) (by first | exact hz2 _ _ | assumption | exact zr_b _ | exact zcmp_r _ _ | (unfold zr at *; omega)) dL_law_464 (by decide) (fun h464 => ?_) (fun h464 => ?_)
          · have h464 := zcmp_eq.mp h464
            refine zx_goto (tgt := 3069) dL_law_469 (by decide) ?_
            refine zy_drop 5 [zf 101 0, zf 9 0, zf 10 261, zf 35 272, zi ((i : Nat) : Int), zu, zi (zt b), zu, zu] rfl ?_
            refine zy_drop 6 [zf 101 0, zf 9 0, zf 10 261, zf 35 272, zi ((i : Nat) : Int), zu, zu, zu, zu] rfl ?_
            exact cont υ _ hz2 hI (by omega)
          · have h464 := fun q => h464 (zcmp_eq.mpr q)
            first | exact absurd hth (by assumption) | exact absurd rfl (by assumption) | exact absurd (by assumption) (by assumption) | (exfalso; exact h464 (by omega)) | (exfalso; omega)
      · first | exact absurd hth (by assumption) | exact absurd rfl (by assumption) | exact absurd (by assumption) (by assumption) | (exfalso; exact h447 (by omega)) | (exfalso; omega)
    · obtain ⟨b, e, -⟩ := hK _ _ hq2
      cases e
  · obtain ⟨c, e, -⟩ := hS _ _ hq
    cases e
set_option maxRecDepth 20000 in
set_option maxHeartbeats 2000000 in
theorem lc_2 {l : Launch} {w : zW} (hfl : l.stackTraces = false) {hh : List (Nat × Nat × Nat × Nat)} {c0 s0 : Nat} {Z : List Frame → Array Value → State → State → Prop} (hc0 : c0 ≤ 1000) (hs0 : s0 ≤ 100000) (hLn : zSL w ≤ 3072) {i k : Nat} (hi : i + 6 ≤ zSL w) (hk : k ≤ i) {σ : zS} (hz : zOK σ) (hS : SimW l w False mL_load mX10_load 8 [] σ) (cont : ∀ (τ : zS) (k' : Nat), zOK τ → Inv τ → k' ≤ k + 1 → zX l w (mL_law hh) (room_1, Z, c0, s0) 3069 [zf 101 0, zf 9 0, zf 10 261, zf 35 272, zi ((i : Nat) : Int), zu, zu, zu, zu] [] k' τ) : zX l w (mL_law hh) (room_1, Z, c0, s0) 472 [zf 101 0, zf 9 0, zf 10 261, zf 35 272, zi ((i : Nat) : Int), zu, zu, zu, zu] [] k σ := by
  obtain ⟨QC, hC, hS⟩ := hS
  refine zx_aloadN dL_law_472 rfl rfl ?_
  refine zx_aloadN dL_law_473 rfl rfl ?_
  have hC1 : SpH l w mL_load 10 1 [zf 9 0, zf 35 272] σ QC := hC
  refine zy_csHq [zf 9 0, zf 35 272] hC1 dL_law_474 cw_RL_148 okL_load rfl (Nat.le_of_ble_eq_true rfl) ⟨Nat.le_of_ble_eq_true rfl, Nat.le_of_ble_eq_true rfl, by first | (show c0 + _ ≤ 601024; omega), by first | (show s0 + 6 * _ ≤ 7293034; omega)⟩ (fun r τ hq => ?_) (fun E τ hq => ?_)
  · obtain ⟨c, e, hzc, hz1, QM, hM, hK⟩ := hS _ _ hq
    obtain rfl := Sum.inl.inj e
    rw [show ∀ (x : zV) (s : List zV), (some x).toList ++ s = x :: s from fun _ _ => rfl]
    refine zy_istore [zf 101 0, zf 9 0, zf 10 261, zf 35 272, zi ((i : Nat) : Int), zi c, zu, zu, zu] dL_law_477 (Nat.le_of_ble_eq_true rfl) (Nat.le_of_ble_eq_true rfl) rfl rfl ?_
    refine zx_aloadN dL_law_479 rfl rfl ?_
    refine zy_cvq [] hM dL_law_480 (by decide) rfl cw_RL_151 okX10_load rfl (Nat.le_of_ble_eq_true rfl) ⟨Nat.le_of_ble_eq_true rfl, Nat.le_of_ble_eq_true rfl, by first | (show c0 + _ ≤ 601024; omega), by first | (show s0 + 6 * _ ≤ 7293034; omega)⟩ (fun r υ hq2 => ?_) (fun E υ hq2 => ?_)
    · obtain ⟨b, e, hz2, hth, hob, hB, hI⟩ := hK _ _ hq2
      obtain rfl := Sum.inl.inj e
      rw [show ∀ (x : zV) (s : List zV), (some x).toList ++ s = x :: s from fun _ _ => rfl]
      refine zy_nrm ?_
      have hzb := zt_r b
      refine zy_istore [zf 101 0, zf 9 0, zf 10 261, zf 35 272, zi ((i : Nat) : Int), zi c, zi (zt b), zu, zu] dL_law_483 (Nat.le_of_ble_eq_true rfl) (Nat.le_of_ble_eq_true rfl) rfl rfl ?_
      refine zx_aloadN dL_law_485 rfl rfl ?_
      refine zy_cv [] (sX10_thrown  hfl hz2 ) dL_law_486 (by decide) rfl cw_RL_141 okX10_thrown rfl (Nat.le_of_ble_eq_true rfl) ⟨Nat.le_of_ble_eq_true rfl, Nat.le_of_ble_eq_true rfl, by first | (show c0 + _ ≤ 601024; omega), by first | (show s0 + 6 * _ ≤ 7293034; omega)⟩ ?_
      refine zx_iload dL_law_489 rfl ?_
      refine zx_icmp_eq (tgt := 496) (by first | exact hz2 _ _ | assumption | exact zr_b _ | exact zcmp_r _ _ | (unfold zr at *; omega)) (by first | exact hz2 _ _ | assumption | exact zr_b _ | exact zcmp_r _ _ | (unfold zr at *; omega)) dL_law_491 (by decide) (fun h491 => ?_) (fun h491 => ?_)
      · refine zx_iload dL_law_496 rfl ?_
        refine zx_if_ne (tgt := 513) (by first | exact hz2 _ _ | assumption | exact zr_b _ | exact zcmp_r _ _ | (unfold zr at *; omega)) dL_law_498 (by decide) (fun h498 => ?_) (fun h498 => ?_)
        · refine zx_goto (tgt := 3069) dL_law_513 (by decide) ?_
          refine zy_drop 5 [zf 101 0, zf 9 0, zf 10 261, zf 35 272, zi ((i : Nat) : Int), zu, zi (zt b), zu, zu] rfl ?_
          refine zy_drop 6 [zf 101 0, zf 9 0, zf 10 261, zf 35 272, zi ((i : Nat) : Int), zu, zu, zu, zu] rfl ?_
          exact cont υ _ hz2 hI (by omega)
        · refine zx_aloadN dL_law_501 rfl rfl ?_
          refine zx_iconst dL_law_502 ?_
          refine zx_lald dL_law_503 ?_
          rw [hob (by assumption)]
          refine zx_iload dL_law_504 rfl ?_
          refine zx_i2l (by first | exact hz2 _ _ | assumption | exact zr_b _ | exact zcmp_r _ _ | (unfold zr at *; omega)) dL_law_506 ?_
          refine zx_lcmp (by first | exact hz2 _ _ | assumption | exact zr_b _ | exact zcmp_r _ _ | (unfold zr at *; omega)) (by first | exact hz2 _ _ | assumption | exact zr_b _ | exact zcmp_r _ _ | (unfold zr at *; omega)) dL_law_507 ?_
          refine zx_if_eq (tgt := 513) (by first | exact hz2 _ _ | assumption | exact zr_b _ | exact zcmp_r _ _ | (unfold zr at *; omega)) dL_law_508 (by decide) (fun h508 => ?_) (fun h508 => ?_)
          · have h508 := zcmp_eq.mp h508
            refine zx_goto (tgt := 3069) dL_law_513 (by decide) ?_
            refine zy_drop 5 [zf 101 0, zf 9 0, zf 10 261, zf 35 272, zi ((i : Nat) : Int), zu, zi (zt b), zu, zu] rfl ?_
            refine zy_drop 6 [zf 101 0, zf 9 0, zf 10 261, zf 35 272, zi ((i : Nat) : Int), zu, zu, zu, zu] rfl ?_
            exact cont υ _ hz2 hI (by omega)
          · have h508 := fun q => h508 (zcmp_eq.mpr q)
            first | exact absurd hth (by assumption) | exact absurd rfl (by assumption) | exact absurd (by assumption) (by assumption) | (exfalso; exact h508 (by omega)) | (exfalso; omega)
      · first | exact absurd hth (by assumption) | exact absurd rfl (by assumption) | exact absurd (by assumption) (by assumption) | (exfalso; exact h491 (by omega)) | (exfalso; omega)
    · obtain ⟨b, e, -⟩ := hK _ _ hq2
      cases e
  · obtain ⟨c, e, -⟩ := hS _ _ hq
    cases e
set_option maxRecDepth 20000 in
set_option maxHeartbeats 2000000 in
theorem lc_3 {l : Launch} {w : zW} (hfl : l.stackTraces = false) {hh : List (Nat × Nat × Nat × Nat)} {c0 s0 : Nat} {Z : List Frame → Array Value → State → State → Prop} (hc0 : c0 ≤ 1000) (hs0 : s0 ≤ 100000) (hLn : zSL w ≤ 3072) {i k : Nat} (hi : i + 6 ≤ zSL w) (hk : k ≤ i) {σ : zS} (hz : zOK σ) (hS : SimW l w False mL_executeCommands mX10_executeCommands 14 [] σ) (cont : ∀ (τ : zS) (k' : Nat), zOK τ → Inv τ → k' ≤ k + 1 → zX l w (mL_law hh) (room_1, Z, c0, s0) 3069 [zf 101 0, zf 9 0, zf 10 261, zf 35 272, zi ((i : Nat) : Int), zu, zu, zu, zu] [] k' τ) : zX l w (mL_law hh) (room_1, Z, c0, s0) 516 [zf 101 0, zf 9 0, zf 10 261, zf 35 272, zi ((i : Nat) : Int), zu, zu, zu, zu] [] k σ := by
  obtain ⟨QC, hC, hS⟩ := hS
  refine zx_aloadN dL_law_516 rfl rfl ?_
  refine zx_aloadN dL_law_517 rfl rfl ?_
  have hC1 : SpH l w mL_executeCommands 10 1 [zf 9 0, zf 35 272] σ QC := hC
  refine zy_csHq [zf 9 0, zf 35 272] hC1 dL_law_518 cw_RL_152 okL_executeCommands rfl (Nat.le_of_ble_eq_true rfl) ⟨Nat.le_of_ble_eq_true rfl, Nat.le_of_ble_eq_true rfl, by first | (show c0 + _ ≤ 601024; omega), by first | (show s0 + 6 * _ ≤ 7293034; omega)⟩ (fun r τ hq => ?_) (fun E τ hq => ?_)
  · obtain ⟨c, e, hzc, hz1, QM, hM, hK⟩ := hS _ _ hq
    obtain rfl := Sum.inl.inj e
    rw [show ∀ (x : zV) (s : List zV), (some x).toList ++ s = x :: s from fun _ _ => rfl]
    refine zy_istore [zf 101 0, zf 9 0, zf 10 261, zf 35 272, zi ((i : Nat) : Int), zi c, zu, zu, zu] dL_law_521 (Nat.le_of_ble_eq_true rfl) (Nat.le_of_ble_eq_true rfl) rfl rfl ?_
    refine zx_aloadN dL_law_523 rfl rfl ?_
    refine zy_cvq [] hM dL_law_524 (by decide) rfl cw_RL_154 okX10_executeCommands rfl (Nat.le_of_ble_eq_true rfl) ⟨Nat.le_of_ble_eq_true rfl, Nat.le_of_ble_eq_true rfl, by first | (show c0 + _ ≤ 601024; omega), by first | (show s0 + 6 * _ ≤ 7293034; omega)⟩ (fun r υ hq2 => ?_) (fun E υ hq2 => ?_)
    · obtain ⟨b, e, hz2, hth, hob, hB, hI⟩ := hK _ _ hq2
      obtain rfl := Sum.inl.inj e
      rw [show ∀ (x : zV) (s : List zV), (some x).toList ++ s = x :: s from fun _ _ => rfl]
      refine zy_nrm ?_
      have hzb := zt_r b
      refine zy_istore [zf 101 0, zf 9 0, zf 10 261, zf 35 272, zi ((i : Nat) : Int), zi c, zi (zt b), zu, zu] dL_law_527 (Nat.le_of_ble_eq_true rfl) (Nat.le_of_ble_eq_true rfl) rfl rfl ?_
      refine zx_aloadN dL_law_529 rfl rfl ?_
      refine zy_cv [] (sX10_thrown  hfl hz2 ) dL_law_530 (by decide) rfl cw_RL_141 okX10_thrown rfl (Nat.le_of_ble_eq_true rfl) ⟨Nat.le_of_ble_eq_true rfl, Nat.le_of_ble_eq_true rfl, by first | (show c0 + _ ≤ 601024; omega), by first | (show s0 + 6 * _ ≤ 7293034; omega)⟩ ?_
      refine zx_iload dL_law_533 rfl ?_
      refine zx_icmp_eq (tgt := 540) (by first | exact hz2 _ _ | assumption | exact zr_b _ | exact zcmp_r _ _ | (unfold zr at *; omega)) (by first | exact hz2 _ _ | assumption | exact zr_b _ | exact zcmp_r _ _ | (unfold zr at *; omega)) dL_law_535 (by decide) (fun h535 => ?_) (fun h535 => ?_)
      · refine zx_iload dL_law_540 rfl ?_
        refine zx_if_ne (tgt := 557) (by first | exact hz2 _ _ | assumption | exact zr_b _ | exact zcmp_r _ _ | (unfold zr at *; omega)) dL_law_542 (by decide) (fun h542 => ?_) (fun h542 => ?_)
        · refine zx_goto (tgt := 3069) dL_law_557 (by decide) ?_
          refine zy_drop 5 [zf 101 0, zf 9 0, zf 10 261, zf 35 272, zi ((i : Nat) : Int), zu, zi (zt b), zu, zu] rfl ?_
          refine zy_drop 6 [zf 101 0, zf 9 0, zf 10 261, zf 35 272, zi ((i : Nat) : Int), zu, zu, zu, zu] rfl ?_
          exact cont υ _ hz2 hI (by omega)
        · refine zx_aloadN dL_law_545 rfl rfl ?_
          refine zx_iconst dL_law_546 ?_
          refine zx_lald dL_law_547 ?_
          rw [hob (by assumption)]
          refine zx_iload dL_law_548 rfl ?_
          refine zx_i2l (by first | exact hz2 _ _ | assumption | exact zr_b _ | exact zcmp_r _ _ | (unfold zr at *; omega)) dL_law_550 ?_
          refine zx_lcmp (by first | exact hz2 _ _ | assumption | exact zr_b _ | exact zcmp_r _ _ | (unfold zr at *; omega)) (by first | exact hz2 _ _ | assumption | exact zr_b _ | exact zcmp_r _ _ | (unfold zr at *; omega)) dL_law_551 ?_
          refine zx_if_eq (tgt := 557) (by first | exact hz2 _ _ | assumption | exact zr_b _ | exact zcmp_r _ _ | (unfold zr at *; omega)) dL_law_552 (by decide) (fun h552 => ?_) (fun h552 => ?_)
          · have h552 := zcmp_eq.mp h552
            refine zx_goto (tgt := 3069) dL_law_557 (by decide) ?_
            refine zy_drop 5 [zf 101 0, zf 9 0, zf 10 261, zf 35 272, zi ((i : Nat) : Int), zu, zi (zt b), zu, zu] rfl ?_
            refine zy_drop 6 [zf 101 0, zf 9 0, zf 10 261, zf 35 272, zi ((i : Nat) : Int), zu, zu, zu, zu] rfl ?_
            exact cont υ _ hz2 hI (by omega)
          · have h552 := fun q => h552 (zcmp_eq.mpr q)
            first | exact absurd hth (by assumption) | exact absurd rfl (by assumption) | exact absurd (by assumption) (by assumption) | (exfalso; exact h552 (by omega)) | (exfalso; omega)
      · first | exact absurd hth (by assumption) | exact absurd rfl (by assumption) | exact absurd (by assumption) (by assumption) | (exfalso; exact h535 (by omega)) | (exfalso; omega)
    · obtain ⟨b, e, -⟩ := hK _ _ hq2
      cases e
  · obtain ⟨c, e, -⟩ := hS _ _ hq
    cases e
set_option maxRecDepth 20000 in
set_option maxHeartbeats 2000000 in
theorem lc_4 {l : Launch} {w : zW} (hfl : l.stackTraces = false) {hh : List (Nat × Nat × Nat × Nat)} {c0 s0 : Nat} {Z : List Frame → Array Value → State → State → Prop} (hc0 : c0 ≤ 1000) (hs0 : s0 ≤ 100000) (hLn : zSL w ≤ 3072) {i k : Nat} (hi : i + 6 ≤ zSL w) (hk : k ≤ i) {σ : zS} (hz : zOK σ) (hS : SimD l w mX9_errorCode mX10_errorCode 0 0 [] σ) (cont : ∀ (τ : zS) (k' : Nat), zOK τ → Inv τ → k' ≤ k + 1 → zX l w (mL_law hh) (room_1, Z, c0, s0) 3069 [zf 101 0, zf 9 0, zf 10 261, zf 35 272, zi ((i : Nat) : Int), zu, zu, zu, zu] [] k' τ) : zX l w (mL_law hh) (room_1, Z, c0, s0) 560 [zf 101 0, zf 9 0, zf 10 261, zf 35 272, zi ((i : Nat) : Int), zu, zu, zu, zu] [] k σ := by
  obtain ⟨QC, hC, hS⟩ := hS
  refine zx_aloadN dL_law_560 rfl rfl ?_
  refine zy_cvq [] hC dL_law_561 (by decide) rfl cw_RL_155 okX9_errorCode rfl (Nat.le_of_ble_eq_true rfl) ⟨Nat.le_of_ble_eq_true rfl, Nat.le_of_ble_eq_true rfl, by first | (show c0 + _ ≤ 601024; omega), by first | (show s0 + 6 * _ ≤ 7293034; omega)⟩ (fun r τ hq => ?_) (fun E τ hq => ?_)
  · obtain ⟨c, e, hz1, QM, hM, hK⟩ := hS _ _ hq
    obtain rfl := Sum.inl.inj e
    rw [show ∀ (x : zV) (s : List zV), (some x).toList ++ s = x :: s from fun _ _ => rfl]
    refine zy_nrm ?_
    have hzc := zt_r c
    refine zx_aloadN dL_law_564 rfl rfl ?_
    refine zy_cvq [] hM dL_law_565 (by decide) rfl cw_RL_158 okX10_errorCode rfl (Nat.le_of_ble_eq_true rfl) ⟨Nat.le_of_ble_eq_true rfl, Nat.le_of_ble_eq_true rfl, by first | (show c0 + _ ≤ 601024; omega), by first | (show s0 + 6 * _ ≤ 7293034; omega)⟩ (fun r υ hq2 => ?_) (fun E υ hq2 => ?_)
    · obtain ⟨e, hz2, hI⟩ := hK _ _ hq2
      obtain rfl := Sum.inl.inj e
      rw [show ∀ (x : zV) (s : List zV), (some x).toList ++ s = x :: s from fun _ _ => rfl]
      refine zy_nrm ?_
      refine zx_icmp_eq (tgt := 3069) (by first | exact hz2 _ _ | assumption | exact zr_b _ | exact zcmp_r _ _ | (unfold zr at *; omega)) (by first | exact hz2 _ _ | assumption | exact zr_b _ | exact zcmp_r _ _ | (unfold zr at *; omega)) dL_law_568 (by decide) (fun h568 => ?_) (fun h568 => ?_)
      · exact cont υ _ hz2 hI (by omega)
      · first | exact absurd hth (by assumption) | exact absurd rfl (by assumption) | exact absurd (by assumption) (by assumption) | (exfalso; exact h568 (by omega)) | (exfalso; omega)
    · obtain ⟨e, -⟩ := hK _ _ hq2
      cases e
  · obtain ⟨c, e, -⟩ := hS _ _ hq
    cases e
set_option maxRecDepth 20000 in
set_option maxHeartbeats 2000000 in
theorem lc_5 {l : Launch} {w : zW} (hfl : l.stackTraces = false) {hh : List (Nat × Nat × Nat × Nat)} {c0 s0 : Nat} {Z : List Frame → Array Value → State → State → Prop} (hc0 : c0 ≤ 1000) (hs0 : s0 ≤ 100000) (hLn : zSL w ≤ 3072) {i k : Nat} (hi : i + 6 ≤ zSL w) (hk : k ≤ i) {σ : zS} (hz : zOK σ) (hS : SimD l w mX9_errorPosition mX10_errorPosition 0 0 [] σ) (cont : ∀ (τ : zS) (k' : Nat), zOK τ → Inv τ → k' ≤ k + 1 → zX l w (mL_law hh) (room_1, Z, c0, s0) 3069 [zf 101 0, zf 9 0, zf 10 261, zf 35 272, zi ((i : Nat) : Int), zu, zu, zu, zu] [] k' τ) : zX l w (mL_law hh) (room_1, Z, c0, s0) 573 [zf 101 0, zf 9 0, zf 10 261, zf 35 272, zi ((i : Nat) : Int), zu, zu, zu, zu] [] k σ := by
  obtain ⟨QC, hC, hS⟩ := hS
  refine zx_aloadN dL_law_573 rfl rfl ?_
  refine zy_cvq [] hC dL_law_574 (by decide) rfl cw_RL_159 okX9_errorPosition rfl (Nat.le_of_ble_eq_true rfl) ⟨Nat.le_of_ble_eq_true rfl, Nat.le_of_ble_eq_true rfl, by first | (show c0 + _ ≤ 601024; omega), by first | (show s0 + 6 * _ ≤ 7293034; omega)⟩ (fun r τ hq => ?_) (fun E τ hq => ?_)
  · obtain ⟨c, e, hz1, QM, hM, hK⟩ := hS _ _ hq
    obtain rfl := Sum.inl.inj e
    rw [show ∀ (x : zV) (s : List zV), (some x).toList ++ s = x :: s from fun _ _ => rfl]
    refine zy_nrm ?_
    have hzc := zt_r c
    refine zx_aloadN dL_law_577 rfl rfl ?_
    refine zy_cvq [] hM dL_law_578 (by decide) rfl cw_RL_162 okX10_errorPosition rfl (Nat.le_of_ble_eq_true rfl) ⟨Nat.le_of_ble_eq_true rfl, Nat.le_of_ble_eq_true rfl, by first | (show c0 + _ ≤ 601024; omega), by first | (show s0 + 6 * _ ≤ 7293034; omega)⟩ (fun r υ hq2 => ?_) (fun E υ hq2 => ?_)
    · obtain ⟨e, hz2, hI⟩ := hK _ _ hq2
      obtain rfl := Sum.inl.inj e
      rw [show ∀ (x : zV) (s : List zV), (some x).toList ++ s = x :: s from fun _ _ => rfl]
      refine zy_nrm ?_
      refine zx_icmp_eq (tgt := 3069) (by first | exact hz2 _ _ | assumption | exact zr_b _ | exact zcmp_r _ _ | (unfold zr at *; omega)) (by first | exact hz2 _ _ | assumption | exact zr_b _ | exact zcmp_r _ _ | (unfold zr at *; omega)) dL_law_581 (by decide) (fun h581 => ?_) (fun h581 => ?_)
      · exact cont υ _ hz2 hI (by omega)
      · first | exact absurd hth (by assumption) | exact absurd rfl (by assumption) | exact absurd (by assumption) (by assumption) | (exfalso; exact h581 (by omega)) | (exfalso; omega)
    · obtain ⟨e, -⟩ := hK _ _ hq2
      cases e
  · obtain ⟨c, e, -⟩ := hS _ _ hq
    cases e
set_option maxRecDepth 20000 in
set_option maxHeartbeats 2000000 in
theorem lc_6 {l : Launch} {w : zW} (hfl : l.stackTraces = false) {hh : List (Nat × Nat × Nat × Nat)} {c0 s0 : Nat} {Z : List Frame → Array Value → State → State → Prop} (hc0 : c0 ≤ 1000) (hs0 : s0 ≤ 100000) (hLn : zSL w ≤ 3072) {i k : Nat} (hi : i + 6 ≤ zSL w) (hk : k ≤ i) {σ : zS} (hz : zOK σ) (hS : SimD l w mX9_printerCount mX10_printerCount 0 1 [] σ) (cont : ∀ (τ : zS) (k' : Nat), zOK τ → Inv τ → k' ≤ k + 1 → zX l w (mL_law hh) (room_1, Z, c0, s0) 3069 [zf 101 0, zf 9 0, zf 10 261, zf 35 272, zi ((i : Nat) : Int), zu, zu, zu, zu] [] k' τ) : zX l w (mL_law hh) (room_1, Z, c0, s0) 586 [zf 101 0, zf 9 0, zf 10 261, zf 35 272, zi ((i : Nat) : Int), zu, zu, zu, zu] [] k σ := by
  obtain ⟨QC, hC, hS⟩ := hS
  refine zx_aloadN dL_law_586 rfl rfl ?_
  refine zy_cvq [] hC dL_law_587 (by decide) rfl cw_RL_163 okX9_printerCount rfl (Nat.le_of_ble_eq_true rfl) ⟨Nat.le_of_ble_eq_true rfl, Nat.le_of_ble_eq_true rfl, by first | (show c0 + _ ≤ 601024; omega), by first | (show s0 + 6 * _ ≤ 7293034; omega)⟩ (fun r τ hq => ?_) (fun E τ hq => ?_)
  · obtain ⟨c, e, hz1, QM, hM, hK⟩ := hS _ _ hq
    obtain rfl := Sum.inl.inj e
    rw [show ∀ (x : zV) (s : List zV), (some x).toList ++ s = x :: s from fun _ _ => rfl]
    refine zy_nrm ?_
    have hzc := zt_r c
    refine zx_aloadN dL_law_590 rfl rfl ?_
    refine zy_cvq [] hM dL_law_591 (by decide) rfl cw_RL_166 okX10_printerCount rfl (Nat.le_of_ble_eq_true rfl) ⟨Nat.le_of_ble_eq_true rfl, Nat.le_of_ble_eq_true rfl, by first | (show c0 + _ ≤ 601024; omega), by first | (show s0 + 6 * _ ≤ 7293034; omega)⟩ (fun r υ hq2 => ?_) (fun E υ hq2 => ?_)
    · obtain ⟨e, hz2, hI⟩ := hK _ _ hq2
      obtain rfl := Sum.inl.inj e
      rw [show ∀ (x : zV) (s : List zV), (some x).toList ++ s = x :: s from fun _ _ => rfl]
      refine zy_nrm ?_
      refine zx_icmp_eq (tgt := 3069) (by first | exact hz2 _ _ | assumption | exact zr_b _ | exact zcmp_r _ _ | (unfold zr at *; omega)) (by first | exact hz2 _ _ | assumption | exact zr_b _ | exact zcmp_r _ _ | (unfold zr at *; omega)) dL_law_594 (by decide) (fun h594 => ?_) (fun h594 => ?_)
      · exact cont υ _ hz2 hI (by omega)
      · first | exact absurd hth (by assumption) | exact absurd rfl (by assumption) | exact absurd (by assumption) (by assumption) | (exfalso; exact h594 (by omega)) | (exfalso; omega)
    · obtain ⟨e, -⟩ := hK _ _ hq2
      cases e
  · obtain ⟨c, e, -⟩ := hS _ _ hq
    cases e
set_option maxRecDepth 20000 in
set_option maxHeartbeats 2000000 in
theorem lc_7 {l : Launch} {w : zW} (hfl : l.stackTraces = false) {hh : List (Nat × Nat × Nat × Nat)} {c0 s0 : Nat} {Z : List Frame → Array Value → State → State → Prop} (hc0 : c0 ≤ 1000) (hs0 : s0 ≤ 100000) (hLn : zSL w ≤ 3072) {i k : Nat} (hi : i + 6 ≤ zSL w) (hk : k ≤ i) {σ : zS} (hz : zOK σ) (hS : SimD l w mX9_findPrinter mX10_findPrinter 2 3 [] σ) (cont : ∀ (τ : zS) (k' : Nat), zOK τ → Inv τ → k' ≤ k + 1 → zX l w (mL_law hh) (room_1, Z, c0, s0) 3069 [zf 101 0, zf 9 0, zf 10 261, zf 35 272, zi ((i : Nat) : Int), zu, zu, zu, zu] [] k' τ) : zX l w (mL_law hh) (room_1, Z, c0, s0) 599 [zf 101 0, zf 9 0, zf 10 261, zf 35 272, zi ((i : Nat) : Int), zu, zu, zu, zu] [] k σ := by
  obtain ⟨QC, hC, hS⟩ := hS
  refine zx_aloadN dL_law_599 rfl rfl ?_
  refine zy_cvq [] hC dL_law_600 (by decide) rfl cw_RL_167 okX9_findPrinter rfl (Nat.le_of_ble_eq_true rfl) ⟨Nat.le_of_ble_eq_true rfl, Nat.le_of_ble_eq_true rfl, by first | (show c0 + _ ≤ 601024; omega), by first | (show s0 + 6 * _ ≤ 7293034; omega)⟩ (fun r τ hq => ?_) (fun E τ hq => ?_)
  · obtain ⟨c, e, hz1, QM, hM, hK⟩ := hS _ _ hq
    obtain rfl := Sum.inl.inj e
    rw [show ∀ (x : zV) (s : List zV), (some x).toList ++ s = x :: s from fun _ _ => rfl]
    refine zy_nrm ?_
    have hzc := zt_r c
    refine zx_aloadN dL_law_603 rfl rfl ?_
    refine zy_cvq [] hM dL_law_604 (by decide) rfl cw_RL_170 okX10_findPrinter rfl (Nat.le_of_ble_eq_true rfl) ⟨Nat.le_of_ble_eq_true rfl, Nat.le_of_ble_eq_true rfl, by first | (show c0 + _ ≤ 601024; omega), by first | (show s0 + 6 * _ ≤ 7293034; omega)⟩ (fun r υ hq2 => ?_) (fun E υ hq2 => ?_)
    · obtain ⟨e, hz2, hI⟩ := hK _ _ hq2
      obtain rfl := Sum.inl.inj e
      rw [show ∀ (x : zV) (s : List zV), (some x).toList ++ s = x :: s from fun _ _ => rfl]
      refine zy_nrm ?_
      refine zx_icmp_eq (tgt := 3069) (by first | exact hz2 _ _ | assumption | exact zr_b _ | exact zcmp_r _ _ | (unfold zr at *; omega)) (by first | exact hz2 _ _ | assumption | exact zr_b _ | exact zcmp_r _ _ | (unfold zr at *; omega)) dL_law_607 (by decide) (fun h607 => ?_) (fun h607 => ?_)
      · exact cont υ _ hz2 hI (by omega)
      · first | exact absurd hth (by assumption) | exact absurd rfl (by assumption) | exact absurd (by assumption) (by assumption) | (exfalso; exact h607 (by omega)) | (exfalso; omega)
    · obtain ⟨e, -⟩ := hK _ _ hq2
      cases e
  · obtain ⟨c, e, -⟩ := hS _ _ hq
    cases e
set_option maxRecDepth 20000 in
set_option maxHeartbeats 2000000 in
theorem lc_8 {l : Launch} {w : zW} (hfl : l.stackTraces = false) {hh : List (Nat × Nat × Nat × Nat)} {c0 s0 : Nat} {Z : List Frame → Array Value → State → State → Prop} (hc0 : c0 ≤ 1000) (hs0 : s0 ≤ 100000) (hLn : zSL w ≤ 3072) {i k : Nat} (hi : i + 6 ≤ zSL w) (hk : k ≤ i) {σ : zS} (hz : zOK σ) (hS : SimW l w False mL_cityOf mX10_cityOf 2 [zi (zSx w (i + 1)).toInt] σ) (cont : ∀ (τ : zS) (k' : Nat), zOK τ → Inv τ → k' ≤ k + 1 → zX l w (mL_law hh) (room_1, Z, c0, s0) 3069 [zf 101 0, zf 9 0, zf 10 261, zf 35 272, zi ((i : Nat) : Int), zu, zu, zu, zu] [] k' τ) : zX l w (mL_law hh) (room_1, Z, c0, s0) 612 [zf 101 0, zf 9 0, zf 10 261, zf 35 272, zi ((i : Nat) : Int), zu, zu, zu, zu] [] k σ := by
  obtain ⟨QC, hC, hS⟩ := hS
  refine zx_aloadN dL_law_612 rfl rfl ?_
  refine zx_aloadN dL_law_613 rfl rfl ?_
  refine zx_iload dL_law_614 rfl ?_
  refine zx_iconst dL_law_616 ?_
  refine zx_iadd dL_law_617 ?_
  refine zy_top (b := ((i + 1 : Nat) : Int)) (by omega) ?_
  refine zx_sld (by omega) (by omega) (by omega) dL_law_618 ?_
  refine zx_aloadN dL_law_619 rfl rfl ?_
  have hC1 : SpH l w mL_cityOf 10 1 [zf 9 0, zi ((zSx w (i + 1)).toInt), zf 35 272] σ QC := hC
  refine zy_csHq [zf 9 0, zi ((zSx w (i + 1)).toInt), zf 35 272] hC1 dL_law_620 cw_RL_171 okL_cityOf rfl (Nat.le_of_ble_eq_true rfl) ⟨Nat.le_of_ble_eq_true rfl, Nat.le_of_ble_eq_true rfl, by first | (show c0 + _ ≤ 601024; omega), by first | (show s0 + 6 * _ ≤ 7293034; omega)⟩ (fun r τ hq => ?_) (fun E τ hq => ?_)
  · obtain ⟨c, e, hzc, hz1, QM, hM, hK⟩ := hS _ _ hq
    obtain rfl := Sum.inl.inj e
    rw [show ∀ (x : zV) (s : List zV), (some x).toList ++ s = x :: s from fun _ _ => rfl]
    refine zy_istore [zf 101 0, zf 9 0, zf 10 261, zf 35 272, zi ((i : Nat) : Int), zi c, zu, zu, zu] dL_law_623 (Nat.le_of_ble_eq_true rfl) (Nat.le_of_ble_eq_true rfl) rfl rfl ?_
    refine zx_aloadN dL_law_625 rfl rfl ?_
    refine zx_aloadN dL_law_626 rfl rfl ?_
    refine zx_iload dL_law_627 rfl ?_
    refine zx_iconst dL_law_629 ?_
    refine zx_iadd dL_law_630 ?_
    refine zy_top (b := ((i + 1 : Nat) : Int)) (by omega) ?_
    refine zx_sld (by omega) (by omega) (by omega) dL_law_631 ?_
    refine zy_cvq [zi ((zSx w (i + 1)).toInt)] hM dL_law_632 (by decide) rfl cw_RL_173 okX10_cityOf rfl (Nat.le_of_ble_eq_true rfl) ⟨Nat.le_of_ble_eq_true rfl, Nat.le_of_ble_eq_true rfl, by first | (show c0 + _ ≤ 601024; omega), by first | (show s0 + 6 * _ ≤ 7293034; omega)⟩ (fun r υ hq2 => ?_) (fun E υ hq2 => ?_)
    · obtain ⟨b, e, hz2, hth, hob, hB, hI⟩ := hK _ _ hq2
      obtain rfl := Sum.inl.inj e
      rw [show ∀ (x : zV) (s : List zV), (some x).toList ++ s = x :: s from fun _ _ => rfl]
      refine zy_nrm ?_
      have hzb := zt_r b
      refine zy_istore [zf 101 0, zf 9 0, zf 10 261, zf 35 272, zi ((i : Nat) : Int), zi c, zi (zt b), zu, zu] dL_law_635 (Nat.le_of_ble_eq_true rfl) (Nat.le_of_ble_eq_true rfl) rfl rfl ?_
      refine zx_aloadN dL_law_637 rfl rfl ?_
      refine zy_cv [] (sX10_thrown  hfl hz2 ) dL_law_638 (by decide) rfl cw_RL_141 okX10_thrown rfl (Nat.le_of_ble_eq_true rfl) ⟨Nat.le_of_ble_eq_true rfl, Nat.le_of_ble_eq_true rfl, by first | (show c0 + _ ≤ 601024; omega), by first | (show s0 + 6 * _ ≤ 7293034; omega)⟩ ?_
      refine zx_iload dL_law_641 rfl ?_
      refine zx_icmp_eq (tgt := 648) (by first | exact hz2 _ _ | assumption | exact zr_b _ | exact zcmp_r _ _ | (unfold zr at *; omega)) (by first | exact hz2 _ _ | assumption | exact zr_b _ | exact zcmp_r _ _ | (unfold zr at *; omega)) dL_law_643 (by decide) (fun h643 => ?_) (fun h643 => ?_)
      · refine zx_iload dL_law_648 rfl ?_
        refine zx_if_ne (tgt := 665) (by first | exact hz2 _ _ | assumption | exact zr_b _ | exact zcmp_r _ _ | (unfold zr at *; omega)) dL_law_650 (by decide) (fun h650 => ?_) (fun h650 => ?_)
        · refine zx_goto (tgt := 3069) dL_law_665 (by decide) ?_
          refine zy_drop 5 [zf 101 0, zf 9 0, zf 10 261, zf 35 272, zi ((i : Nat) : Int), zu, zi (zt b), zu, zu] rfl ?_
          refine zy_drop 6 [zf 101 0, zf 9 0, zf 10 261, zf 35 272, zi ((i : Nat) : Int), zu, zu, zu, zu] rfl ?_
          exact cont υ _ hz2 hI (by omega)
        · refine zx_aloadN dL_law_653 rfl rfl ?_
          refine zx_iconst dL_law_654 ?_
          refine zx_lald dL_law_655 ?_
          rw [hob (by assumption)]
          refine zx_iload dL_law_656 rfl ?_
          refine zx_i2l (by first | exact hz2 _ _ | assumption | exact zr_b _ | exact zcmp_r _ _ | (unfold zr at *; omega)) dL_law_658 ?_
          refine zx_lcmp (by first | exact hz2 _ _ | assumption | exact zr_b _ | exact zcmp_r _ _ | (unfold zr at *; omega)) (by first | exact hz2 _ _ | assumption | exact zr_b _ | exact zcmp_r _ _ | (unfold zr at *; omega)) dL_law_659 ?_
          refine zx_if_eq (tgt := 665) (by first | exact hz2 _ _ | assumption | exact zr_b _ | exact zcmp_r _ _ | (unfold zr at *; omega)) dL_law_660 (by decide) (fun h660 => ?_) (fun h660 => ?_)
          · have h660 := zcmp_eq.mp h660
            refine zx_goto (tgt := 3069) dL_law_665 (by decide) ?_
            refine zy_drop 5 [zf 101 0, zf 9 0, zf 10 261, zf 35 272, zi ((i : Nat) : Int), zu, zi (zt b), zu, zu] rfl ?_
            refine zy_drop 6 [zf 101 0, zf 9 0, zf 10 261, zf 35 272, zi ((i : Nat) : Int), zu, zu, zu, zu] rfl ?_
            exact cont υ _ hz2 hI (by omega)
          · have h660 := fun q => h660 (zcmp_eq.mpr q)
            first | exact absurd hth (by assumption) | exact absurd rfl (by assumption) | exact absurd (by assumption) (by assumption) | (exfalso; exact h660 (by omega)) | (exfalso; omega)
      · first | exact absurd hth (by assumption) | exact absurd rfl (by assumption) | exact absurd (by assumption) (by assumption) | (exfalso; exact h643 (by omega)) | (exfalso; omega)
    · obtain ⟨b, e, -⟩ := hK _ _ hq2
      cases e
  · obtain ⟨c, e, -⟩ := hS _ _ hq
    cases e
set_option maxRecDepth 20000 in
set_option maxHeartbeats 2000000 in
theorem lc_9 {l : Launch} {w : zW} (hfl : l.stackTraces = false) {hh : List (Nat × Nat × Nat × Nat)} {c0 s0 : Nat} {Z : List Frame → Array Value → State → State → Prop} (hc0 : c0 ≤ 1000) (hs0 : s0 ≤ 100000) (hLn : zSL w ≤ 3072) {i k : Nat} (hi : i + 6 ≤ zSL w) (hk : k ≤ i) {σ : zS} (hz : zOK σ) (hS : SimW l w True mL_isActive mX10_isActive 2 [zi (zSx w (i + 1)).toInt, zi (zSx w (i + 2)).toInt] σ) (cont : ∀ (τ : zS) (k' : Nat), zOK τ → Inv τ → k' ≤ k + 1 → zX l w (mL_law hh) (room_1, Z, c0, s0) 3069 [zf 101 0, zf 9 0, zf 10 261, zf 35 272, zi ((i : Nat) : Int), zu, zu, zu, zu] [] k' τ) : zX l w (mL_law hh) (room_1, Z, c0, s0) 668 [zf 101 0, zf 9 0, zf 10 261, zf 35 272, zi ((i : Nat) : Int), zu, zu, zu, zu] [] k σ := by
  obtain ⟨QC, hC, hS⟩ := hS
  refine zx_aloadN dL_law_668 rfl rfl ?_
  refine zx_aloadN dL_law_669 rfl rfl ?_
  refine zx_iload dL_law_670 rfl ?_
  refine zx_iconst dL_law_672 ?_
  refine zx_iadd dL_law_673 ?_
  refine zy_top (b := ((i + 1 : Nat) : Int)) (by omega) ?_
  refine zx_sld (by omega) (by omega) (by omega) dL_law_674 ?_
  refine zx_aloadN dL_law_675 rfl rfl ?_
  refine zx_iload dL_law_676 rfl ?_
  refine zx_iconst dL_law_678 ?_
  refine zx_iadd dL_law_679 ?_
  refine zy_top (b := ((i + 2 : Nat) : Int)) (by omega) ?_
  refine zx_sld (by omega) (by omega) (by omega) dL_law_680 ?_
  refine zx_aloadN dL_law_681 rfl rfl ?_
  have hC1 : SpH l w mL_isActive 10 1 [zf 9 0, zi ((zSx w (i + 1)).toInt), zi ((zSx w (i + 2)).toInt), zf 35 272] σ QC := hC
  refine zy_csHq [zf 9 0, zi ((zSx w (i + 1)).toInt), zi ((zSx w (i + 2)).toInt), zf 35 272] hC1 dL_law_682 cw_RL_174 okL_isActive rfl (Nat.le_of_ble_eq_true rfl) ⟨Nat.le_of_ble_eq_true rfl, Nat.le_of_ble_eq_true rfl, by first | (show c0 + _ ≤ 601024; omega), by first | (show s0 + 6 * _ ≤ 7293034; omega)⟩ (fun r τ hq => ?_) (fun E τ hq => ?_)
  · obtain ⟨c, e, hzc, hz1, QM, hM, hK⟩ := hS _ _ hq
    obtain rfl := Sum.inl.inj e
    rw [show ∀ (x : zV) (s : List zV), (some x).toList ++ s = x :: s from fun _ _ => rfl]
    refine zy_istore [zf 101 0, zf 9 0, zf 10 261, zf 35 272, zi ((i : Nat) : Int), zi c, zu, zu, zu] dL_law_685 (Nat.le_of_ble_eq_true rfl) (Nat.le_of_ble_eq_true rfl) rfl rfl ?_
    refine zx_aloadN dL_law_687 rfl rfl ?_
    refine zx_aloadN dL_law_688 rfl rfl ?_
    refine zx_iload dL_law_689 rfl ?_
    refine zx_iconst dL_law_691 ?_
    refine zx_iadd dL_law_692 ?_
    refine zy_top (b := ((i + 1 : Nat) : Int)) (by omega) ?_
    refine zx_sld (by omega) (by omega) (by omega) dL_law_693 ?_
    refine zx_aloadN dL_law_694 rfl rfl ?_
    refine zx_iload dL_law_695 rfl ?_
    refine zx_iconst dL_law_697 ?_
    refine zx_iadd dL_law_698 ?_
    refine zy_top (b := ((i + 2 : Nat) : Int)) (by omega) ?_
    refine zx_sld (by omega) (by omega) (by omega) dL_law_699 ?_
    refine zy_cvq [zi ((zSx w (i + 1)).toInt), zi ((zSx w (i + 2)).toInt)] hM dL_law_700 (by decide) rfl cw_RL_177 okX10_isActive rfl (Nat.le_of_ble_eq_true rfl) ⟨Nat.le_of_ble_eq_true rfl, Nat.le_of_ble_eq_true rfl, by first | (show c0 + _ ≤ 601024; omega), by first | (show s0 + 6 * _ ≤ 7293034; omega)⟩ (fun r υ hq2 => ?_) (fun E υ hq2 => ?_)
    · obtain ⟨b, e, hz2, hth, hob, hB, hI⟩ := hK _ _ hq2
      obtain rfl := Sum.inl.inj e
      rw [show ∀ (x : zV) (s : List zV), (some x).toList ++ s = x :: s from fun _ _ => rfl]
      refine zy_nrm ?_
      have hzb := zt_r b
      have hb01 : zt b = 0 ∨ zt b = 1 := by rcases hB trivial with q | q <;> rw [q] <;> decide
      refine zy_istore [zf 101 0, zf 9 0, zf 10 261, zf 35 272, zi ((i : Nat) : Int), zi c, zi (zt b), zu, zu] dL_law_703 (Nat.le_of_ble_eq_true rfl) (Nat.le_of_ble_eq_true rfl) rfl rfl ?_
      refine zx_aloadN dL_law_705 rfl rfl ?_
      refine zy_cv [] (sX10_thrown  hfl hz2 ) dL_law_706 (by decide) rfl cw_RL_141 okX10_thrown rfl (Nat.le_of_ble_eq_true rfl) ⟨Nat.le_of_ble_eq_true rfl, Nat.le_of_ble_eq_true rfl, by first | (show c0 + _ ≤ 601024; omega), by first | (show s0 + 6 * _ ≤ 7293034; omega)⟩ ?_
      refine zx_iload dL_law_709 rfl ?_
      refine zx_icmp_eq (tgt := 716) (by first | exact hz2 _ _ | assumption | exact zr_b _ | exact zcmp_r _ _ | (unfold zr at *; omega)) (by first | exact hz2 _ _ | assumption | exact zr_b _ | exact zcmp_r _ _ | (unfold zr at *; omega)) dL_law_711 (by decide) (fun h711 => ?_) (fun h711 => ?_)
      · refine zx_iload dL_law_716 rfl ?_
        refine zx_if_ne (tgt := 740) (by first | exact hz2 _ _ | assumption | exact zr_b _ | exact zcmp_r _ _ | (unfold zr at *; omega)) dL_law_718 (by decide) (fun h718 => ?_) (fun h718 => ?_)
        · refine zx_goto (tgt := 3069) dL_law_740 (by decide) ?_
          refine zy_drop 5 [zf 101 0, zf 9 0, zf 10 261, zf 35 272, zi ((i : Nat) : Int), zu, zi (zt b), zu, zu] rfl ?_
          refine zy_drop 6 [zf 101 0, zf 9 0, zf 10 261, zf 35 272, zi ((i : Nat) : Int), zu, zu, zu, zu] rfl ?_
          exact cont υ _ hz2 hI (by omega)
        · refine zx_aloadN dL_law_721 rfl rfl ?_
          refine zx_iconst dL_law_722 ?_
          refine zx_lald dL_law_723 ?_
          rw [hob (by assumption)]
          refine zx_iload dL_law_724 rfl ?_
          refine zx_if_eq (tgt := 733) (by first | exact hz2 _ _ | assumption | exact zr_b _ | exact zcmp_r _ _ | (unfold zr at *; omega)) dL_law_726 (by decide) (fun h726 => ?_) (fun h726 => ?_)
          · refine zx_lconst (a := 0) dL_law_733 rfl ?_
            refine zx_lcmp (by first | exact hz2 _ _ | assumption | exact zr_b _ | exact zcmp_r _ _ | (unfold zr at *; omega)) (by first | exact hz2 _ _ | assumption | exact zr_b _ | exact zcmp_r _ _ | (unfold zr at *; omega)) dL_law_734 ?_
            refine zx_if_eq (tgt := 740) (by first | exact hz2 _ _ | assumption | exact zr_b _ | exact zcmp_r _ _ | (unfold zr at *; omega)) dL_law_735 (by decide) (fun h735 => ?_) (fun h735 => ?_)
            · have h735 := zcmp_eq.mp h735
              refine zx_goto (tgt := 3069) dL_law_740 (by decide) ?_
              refine zy_drop 5 [zf 101 0, zf 9 0, zf 10 261, zf 35 272, zi ((i : Nat) : Int), zu, zi (zt b), zu, zu] rfl ?_
              refine zy_drop 6 [zf 101 0, zf 9 0, zf 10 261, zf 35 272, zi ((i : Nat) : Int), zu, zu, zu, zu] rfl ?_
              exact cont υ _ hz2 hI (by omega)
            · have h735 := fun q => h735 (zcmp_eq.mpr q)
              first | exact absurd hth (by assumption) | exact absurd rfl (by assumption) | exact absurd (by assumption) (by assumption) | (exfalso; exact h735 (by omega)) | (exfalso; omega)
          · refine zx_lconst (a := 1) dL_law_729 rfl ?_
            refine zx_goto (tgt := 734) dL_law_730 (by decide) ?_
            refine zx_lcmp (by first | exact hz2 _ _ | assumption | exact zr_b _ | exact zcmp_r _ _ | (unfold zr at *; omega)) (by first | exact hz2 _ _ | assumption | exact zr_b _ | exact zcmp_r _ _ | (unfold zr at *; omega)) dL_law_734 ?_
            refine zx_if_eq (tgt := 740) (by first | exact hz2 _ _ | assumption | exact zr_b _ | exact zcmp_r _ _ | (unfold zr at *; omega)) dL_law_735 (by decide) (fun h735 => ?_) (fun h735 => ?_)
            · have h735 := zcmp_eq.mp h735
              refine zx_goto (tgt := 3069) dL_law_740 (by decide) ?_
              refine zy_drop 5 [zf 101 0, zf 9 0, zf 10 261, zf 35 272, zi ((i : Nat) : Int), zu, zi (zt b), zu, zu] rfl ?_
              refine zy_drop 6 [zf 101 0, zf 9 0, zf 10 261, zf 35 272, zi ((i : Nat) : Int), zu, zu, zu, zu] rfl ?_
              exact cont υ _ hz2 hI (by omega)
            · have h735 := fun q => h735 (zcmp_eq.mpr q)
              first | exact absurd hth (by assumption) | exact absurd rfl (by assumption) | exact absurd (by assumption) (by assumption) | (exfalso; exact h735 (by omega)) | (exfalso; omega)
      · first | exact absurd hth (by assumption) | exact absurd rfl (by assumption) | exact absurd (by assumption) (by assumption) | (exfalso; exact h711 (by omega)) | (exfalso; omega)
    · obtain ⟨b, e, -⟩ := hK _ _ hq2
      cases e
  · obtain ⟨c, e, -⟩ := hS _ _ hq
    cases e
set_option maxRecDepth 20000 in
set_option maxHeartbeats 2000000 in
theorem lc_10 {l : Launch} {w : zW} (hfl : l.stackTraces = false) {hh : List (Nat × Nat × Nat × Nat)} {c0 s0 : Nat} {Z : List Frame → Array Value → State → State → Prop} (hc0 : c0 ≤ 1000) (hs0 : s0 ≤ 100000) (hLn : zSL w ≤ 3072) {i k : Nat} (hi : i + 6 ≤ zSL w) (hk : k ≤ i) {σ : zS} (hz : zOK σ) (hS : SimW l w True mL_hasDevice mX10_hasDevice 3 [zi (zSx w (i + 1)).toInt, zi (zSx w (i + 2)).toInt] σ) (cont : ∀ (τ : zS) (k' : Nat), zOK τ → Inv τ → k' ≤ k + 1 → zX l w (mL_law hh) (room_1, Z, c0, s0) 3069 [zf 101 0, zf 9 0, zf 10 261, zf 35 272, zi ((i : Nat) : Int), zu, zu, zu, zu] [] k' τ) : zX l w (mL_law hh) (room_1, Z, c0, s0) 743 [zf 101 0, zf 9 0, zf 10 261, zf 35 272, zi ((i : Nat) : Int), zu, zu, zu, zu] [] k σ := by
  obtain ⟨QC, hC, hS⟩ := hS
  refine zx_aloadN dL_law_743 rfl rfl ?_
  refine zx_aloadN dL_law_744 rfl rfl ?_
  refine zx_iload dL_law_745 rfl ?_
  refine zx_iconst dL_law_747 ?_
  refine zx_iadd dL_law_748 ?_
  refine zy_top (b := ((i + 1 : Nat) : Int)) (by omega) ?_
  refine zx_sld (by omega) (by omega) (by omega) dL_law_749 ?_
  refine zx_aloadN dL_law_750 rfl rfl ?_
  refine zx_iload dL_law_751 rfl ?_
  refine zx_iconst dL_law_753 ?_
  refine zx_iadd dL_law_754 ?_
  refine zy_top (b := ((i + 2 : Nat) : Int)) (by omega) ?_
  refine zx_sld (by omega) (by omega) (by omega) dL_law_755 ?_
  refine zx_aloadN dL_law_756 rfl rfl ?_
  have hC1 : SpH l w mL_hasDevice 10 1 [zf 9 0, zi ((zSx w (i + 1)).toInt), zi ((zSx w (i + 2)).toInt), zf 35 272] σ QC := hC
  refine zy_csHq [zf 9 0, zi ((zSx w (i + 1)).toInt), zi ((zSx w (i + 2)).toInt), zf 35 272] hC1 dL_law_757 cw_RL_178 okL_hasDevice rfl (Nat.le_of_ble_eq_true rfl) ⟨Nat.le_of_ble_eq_true rfl, Nat.le_of_ble_eq_true rfl, by first | (show c0 + _ ≤ 601024; omega), by first | (show s0 + 6 * _ ≤ 7293034; omega)⟩ (fun r τ hq => ?_) (fun E τ hq => ?_)
  · obtain ⟨c, e, hzc, hz1, QM, hM, hK⟩ := hS _ _ hq
    obtain rfl := Sum.inl.inj e
    rw [show ∀ (x : zV) (s : List zV), (some x).toList ++ s = x :: s from fun _ _ => rfl]
    refine zy_istore [zf 101 0, zf 9 0, zf 10 261, zf 35 272, zi ((i : Nat) : Int), zi c, zu, zu, zu] dL_law_760 (Nat.le_of_ble_eq_true rfl) (Nat.le_of_ble_eq_true rfl) rfl rfl ?_
    refine zx_aloadN dL_law_762 rfl rfl ?_
    refine zx_aloadN dL_law_763 rfl rfl ?_
    refine zx_iload dL_law_764 rfl ?_
    refine zx_iconst dL_law_766 ?_
    refine zx_iadd dL_law_767 ?_
    refine zy_top (b := ((i + 1 : Nat) : Int)) (by omega) ?_
    refine zx_sld (by omega) (by omega) (by omega) dL_law_768 ?_
    refine zx_aloadN dL_law_769 rfl rfl ?_
    refine zx_iload dL_law_770 rfl ?_
    refine zx_iconst dL_law_772 ?_
    refine zx_iadd dL_law_773 ?_
    refine zy_top (b := ((i + 2 : Nat) : Int)) (by omega) ?_
    refine zx_sld (by omega) (by omega) (by omega) dL_law_774 ?_
    refine zy_cvq [zi ((zSx w (i + 1)).toInt), zi ((zSx w (i + 2)).toInt)] hM dL_law_775 (by decide) rfl cw_RL_180 okX10_hasDevice rfl (Nat.le_of_ble_eq_true rfl) ⟨Nat.le_of_ble_eq_true rfl, Nat.le_of_ble_eq_true rfl, by first | (show c0 + _ ≤ 601024; omega), by first | (show s0 + 6 * _ ≤ 7293034; omega)⟩ (fun r υ hq2 => ?_) (fun E υ hq2 => ?_)
    · obtain ⟨b, e, hz2, hth, hob, hB, hI⟩ := hK _ _ hq2
      obtain rfl := Sum.inl.inj e
      rw [show ∀ (x : zV) (s : List zV), (some x).toList ++ s = x :: s from fun _ _ => rfl]
      refine zy_nrm ?_
      have hzb := zt_r b
      have hb01 : zt b = 0 ∨ zt b = 1 := by rcases hB trivial with q | q <;> rw [q] <;> decide
      refine zy_istore [zf 101 0, zf 9 0, zf 10 261, zf 35 272, zi ((i : Nat) : Int), zi c, zi (zt b), zu, zu] dL_law_778 (Nat.le_of_ble_eq_true rfl) (Nat.le_of_ble_eq_true rfl) rfl rfl ?_
      refine zx_aloadN dL_law_780 rfl rfl ?_
      refine zy_cv [] (sX10_thrown  hfl hz2 ) dL_law_781 (by decide) rfl cw_RL_141 okX10_thrown rfl (Nat.le_of_ble_eq_true rfl) ⟨Nat.le_of_ble_eq_true rfl, Nat.le_of_ble_eq_true rfl, by first | (show c0 + _ ≤ 601024; omega), by first | (show s0 + 6 * _ ≤ 7293034; omega)⟩ ?_
      refine zx_iload dL_law_784 rfl ?_
      refine zx_icmp_eq (tgt := 791) (by first | exact hz2 _ _ | assumption | exact zr_b _ | exact zcmp_r _ _ | (unfold zr at *; omega)) (by first | exact hz2 _ _ | assumption | exact zr_b _ | exact zcmp_r _ _ | (unfold zr at *; omega)) dL_law_786 (by decide) (fun h786 => ?_) (fun h786 => ?_)
      · refine zx_iload dL_law_791 rfl ?_
        refine zx_if_ne (tgt := 815) (by first | exact hz2 _ _ | assumption | exact zr_b _ | exact zcmp_r _ _ | (unfold zr at *; omega)) dL_law_793 (by decide) (fun h793 => ?_) (fun h793 => ?_)
        · refine zx_goto (tgt := 3069) dL_law_815 (by decide) ?_
          refine zy_drop 5 [zf 101 0, zf 9 0, zf 10 261, zf 35 272, zi ((i : Nat) : Int), zu, zi (zt b), zu, zu] rfl ?_
          refine zy_drop 6 [zf 101 0, zf 9 0, zf 10 261, zf 35 272, zi ((i : Nat) : Int), zu, zu, zu, zu] rfl ?_
          exact cont υ _ hz2 hI (by omega)
        · refine zx_aloadN dL_law_796 rfl rfl ?_
          refine zx_iconst dL_law_797 ?_
          refine zx_lald dL_law_798 ?_
          rw [hob (by assumption)]
          refine zx_iload dL_law_799 rfl ?_
          refine zx_if_eq (tgt := 808) (by first | exact hz2 _ _ | assumption | exact zr_b _ | exact zcmp_r _ _ | (unfold zr at *; omega)) dL_law_801 (by decide) (fun h801 => ?_) (fun h801 => ?_)
          · refine zx_lconst (a := 0) dL_law_808 rfl ?_
            refine zx_lcmp (by first | exact hz2 _ _ | assumption | exact zr_b _ | exact zcmp_r _ _ | (unfold zr at *; omega)) (by first | exact hz2 _ _ | assumption | exact zr_b _ | exact zcmp_r _ _ | (unfold zr at *; omega)) dL_law_809 ?_
            refine zx_if_eq (tgt := 815) (by first | exact hz2 _ _ | assumption | exact zr_b _ | exact zcmp_r _ _ | (unfold zr at *; omega)) dL_law_810 (by decide) (fun h810 => ?_) (fun h810 => ?_)
            · have h810 := zcmp_eq.mp h810
              refine zx_goto (tgt := 3069) dL_law_815 (by decide) ?_
              refine zy_drop 5 [zf 101 0, zf 9 0, zf 10 261, zf 35 272, zi ((i : Nat) : Int), zu, zi (zt b), zu, zu] rfl ?_
              refine zy_drop 6 [zf 101 0, zf 9 0, zf 10 261, zf 35 272, zi ((i : Nat) : Int), zu, zu, zu, zu] rfl ?_
              exact cont υ _ hz2 hI (by omega)
            · have h810 := fun q => h810 (zcmp_eq.mpr q)
              first | exact absurd hth (by assumption) | exact absurd rfl (by assumption) | exact absurd (by assumption) (by assumption) | (exfalso; exact h810 (by omega)) | (exfalso; omega)
          · refine zx_lconst (a := 1) dL_law_804 rfl ?_
            refine zx_goto (tgt := 809) dL_law_805 (by decide) ?_
            refine zx_lcmp (by first | exact hz2 _ _ | assumption | exact zr_b _ | exact zcmp_r _ _ | (unfold zr at *; omega)) (by first | exact hz2 _ _ | assumption | exact zr_b _ | exact zcmp_r _ _ | (unfold zr at *; omega)) dL_law_809 ?_
            refine zx_if_eq (tgt := 815) (by first | exact hz2 _ _ | assumption | exact zr_b _ | exact zcmp_r _ _ | (unfold zr at *; omega)) dL_law_810 (by decide) (fun h810 => ?_) (fun h810 => ?_)
            · have h810 := zcmp_eq.mp h810
              refine zx_goto (tgt := 3069) dL_law_815 (by decide) ?_
              refine zy_drop 5 [zf 101 0, zf 9 0, zf 10 261, zf 35 272, zi ((i : Nat) : Int), zu, zi (zt b), zu, zu] rfl ?_
              refine zy_drop 6 [zf 101 0, zf 9 0, zf 10 261, zf 35 272, zi ((i : Nat) : Int), zu, zu, zu, zu] rfl ?_
              exact cont υ _ hz2 hI (by omega)
            · have h810 := fun q => h810 (zcmp_eq.mpr q)
              first | exact absurd hth (by assumption) | exact absurd rfl (by assumption) | exact absurd (by assumption) (by assumption) | (exfalso; exact h810 (by omega)) | (exfalso; omega)
      · first | exact absurd hth (by assumption) | exact absurd rfl (by assumption) | exact absurd (by assumption) (by assumption) | (exfalso; exact h786 (by omega)) | (exfalso; omega)
    · obtain ⟨b, e, -⟩ := hK _ _ hq2
      cases e
  · obtain ⟨c, e, -⟩ := hS _ _ hq
    cases e
set_option maxRecDepth 20000 in
set_option maxHeartbeats 2000000 in
theorem lc_11 {l : Launch} {w : zW} (hfl : l.stackTraces = false) {hh : List (Nat × Nat × Nat × Nat)} {c0 s0 : Nat} {Z : List Frame → Array Value → State → State → Prop} (hc0 : c0 ≤ 1000) (hs0 : s0 ≤ 100000) (hLn : zSL w ≤ 3072) {i k : Nat} (hi : i + 6 ≤ zSL w) (hk : k ≤ i) {σ : zS} (hz : zOK σ) (hS : SimW l w True mL_hasTypeface mX10_hasTypeface 3 [zi (zSx w (i + 1)).toInt, zi (zSx w (i + 2)).toInt] σ) (cont : ∀ (τ : zS) (k' : Nat), zOK τ → Inv τ → k' ≤ k + 1 → zX l w (mL_law hh) (room_1, Z, c0, s0) 3069 [zf 101 0, zf 9 0, zf 10 261, zf 35 272, zi ((i : Nat) : Int), zu, zu, zu, zu] [] k' τ) : zX l w (mL_law hh) (room_1, Z, c0, s0) 818 [zf 101 0, zf 9 0, zf 10 261, zf 35 272, zi ((i : Nat) : Int), zu, zu, zu, zu] [] k σ := by
  obtain ⟨QC, hC, hS⟩ := hS
  refine zx_aloadN dL_law_818 rfl rfl ?_
  refine zx_aloadN dL_law_819 rfl rfl ?_
  refine zx_iload dL_law_820 rfl ?_
  refine zx_iconst dL_law_822 ?_
  refine zx_iadd dL_law_823 ?_
  refine zy_top (b := ((i + 1 : Nat) : Int)) (by omega) ?_
  refine zx_sld (by omega) (by omega) (by omega) dL_law_824 ?_
  refine zx_aloadN dL_law_825 rfl rfl ?_
  refine zx_iload dL_law_826 rfl ?_
  refine zx_iconst dL_law_828 ?_
  refine zx_iadd dL_law_829 ?_
  refine zy_top (b := ((i + 2 : Nat) : Int)) (by omega) ?_
  refine zx_sld (by omega) (by omega) (by omega) dL_law_830 ?_
  refine zx_aloadN dL_law_831 rfl rfl ?_
  have hC1 : SpH l w mL_hasTypeface 10 1 [zf 9 0, zi ((zSx w (i + 1)).toInt), zi ((zSx w (i + 2)).toInt), zf 35 272] σ QC := hC
  refine zy_csHq [zf 9 0, zi ((zSx w (i + 1)).toInt), zi ((zSx w (i + 2)).toInt), zf 35 272] hC1 dL_law_832 cw_RL_181 okL_hasTypeface rfl (Nat.le_of_ble_eq_true rfl) ⟨Nat.le_of_ble_eq_true rfl, Nat.le_of_ble_eq_true rfl, by first | (show c0 + _ ≤ 601024; omega), by first | (show s0 + 6 * _ ≤ 7293034; omega)⟩ (fun r τ hq => ?_) (fun E τ hq => ?_)
  · obtain ⟨c, e, hzc, hz1, QM, hM, hK⟩ := hS _ _ hq
    obtain rfl := Sum.inl.inj e
    rw [show ∀ (x : zV) (s : List zV), (some x).toList ++ s = x :: s from fun _ _ => rfl]
    refine zy_istore [zf 101 0, zf 9 0, zf 10 261, zf 35 272, zi ((i : Nat) : Int), zi c, zu, zu, zu] dL_law_835 (Nat.le_of_ble_eq_true rfl) (Nat.le_of_ble_eq_true rfl) rfl rfl ?_
    refine zx_aloadN dL_law_837 rfl rfl ?_
    refine zx_aloadN dL_law_838 rfl rfl ?_
    refine zx_iload dL_law_839 rfl ?_
    refine zx_iconst dL_law_841 ?_
    refine zx_iadd dL_law_842 ?_
    refine zy_top (b := ((i + 1 : Nat) : Int)) (by omega) ?_
    refine zx_sld (by omega) (by omega) (by omega) dL_law_843 ?_
    refine zx_aloadN dL_law_844 rfl rfl ?_
    refine zx_iload dL_law_845 rfl ?_
    refine zx_iconst dL_law_847 ?_
    refine zx_iadd dL_law_848 ?_
    refine zy_top (b := ((i + 2 : Nat) : Int)) (by omega) ?_
    refine zx_sld (by omega) (by omega) (by omega) dL_law_849 ?_
    refine zy_cvq [zi ((zSx w (i + 1)).toInt), zi ((zSx w (i + 2)).toInt)] hM dL_law_850 (by decide) rfl cw_RL_183 okX10_hasTypeface rfl (Nat.le_of_ble_eq_true rfl) ⟨Nat.le_of_ble_eq_true rfl, Nat.le_of_ble_eq_true rfl, by first | (show c0 + _ ≤ 601024; omega), by first | (show s0 + 6 * _ ≤ 7293034; omega)⟩ (fun r υ hq2 => ?_) (fun E υ hq2 => ?_)
    · obtain ⟨b, e, hz2, hth, hob, hB, hI⟩ := hK _ _ hq2
      obtain rfl := Sum.inl.inj e
      rw [show ∀ (x : zV) (s : List zV), (some x).toList ++ s = x :: s from fun _ _ => rfl]
      refine zy_nrm ?_
      have hzb := zt_r b
      have hb01 : zt b = 0 ∨ zt b = 1 := by rcases hB trivial with q | q <;> rw [q] <;> decide
      refine zy_istore [zf 101 0, zf 9 0, zf 10 261, zf 35 272, zi ((i : Nat) : Int), zi c, zi (zt b), zu, zu] dL_law_853 (Nat.le_of_ble_eq_true rfl) (Nat.le_of_ble_eq_true rfl) rfl rfl ?_
      refine zx_aloadN dL_law_855 rfl rfl ?_
      refine zy_cv [] (sX10_thrown  hfl hz2 ) dL_law_856 (by decide) rfl cw_RL_141 okX10_thrown rfl (Nat.le_of_ble_eq_true rfl) ⟨Nat.le_of_ble_eq_true rfl, Nat.le_of_ble_eq_true rfl, by first | (show c0 + _ ≤ 601024; omega), by first | (show s0 + 6 * _ ≤ 7293034; omega)⟩ ?_
      refine zx_iload dL_law_859 rfl ?_
      refine zx_icmp_eq (tgt := 866) (by first | exact hz2 _ _ | assumption | exact zr_b _ | exact zcmp_r _ _ | (unfold zr at *; omega)) (by first | exact hz2 _ _ | assumption | exact zr_b _ | exact zcmp_r _ _ | (unfold zr at *; omega)) dL_law_861 (by decide) (fun h861 => ?_) (fun h861 => ?_)
      · refine zx_iload dL_law_866 rfl ?_
        refine zx_if_ne (tgt := 890) (by first | exact hz2 _ _ | assumption | exact zr_b _ | exact zcmp_r _ _ | (unfold zr at *; omega)) dL_law_868 (by decide) (fun h868 => ?_) (fun h868 => ?_)
        · refine zx_goto (tgt := 3069) dL_law_890 (by decide) ?_
          refine zy_drop 5 [zf 101 0, zf 9 0, zf 10 261, zf 35 272, zi ((i : Nat) : Int), zu, zi (zt b), zu, zu] rfl ?_
          refine zy_drop 6 [zf 101 0, zf 9 0, zf 10 261, zf 35 272, zi ((i : Nat) : Int), zu, zu, zu, zu] rfl ?_
          exact cont υ _ hz2 hI (by omega)
        · refine zx_aloadN dL_law_871 rfl rfl ?_
          refine zx_iconst dL_law_872 ?_
          refine zx_lald dL_law_873 ?_
          rw [hob (by assumption)]
          refine zx_iload dL_law_874 rfl ?_
          refine zx_if_eq (tgt := 883) (by first | exact hz2 _ _ | assumption | exact zr_b _ | exact zcmp_r _ _ | (unfold zr at *; omega)) dL_law_876 (by decide) (fun h876 => ?_) (fun h876 => ?_)
          · refine zx_lconst (a := 0) dL_law_883 rfl ?_
            refine zx_lcmp (by first | exact hz2 _ _ | assumption | exact zr_b _ | exact zcmp_r _ _ | (unfold zr at *; omega)) (by first | exact hz2 _ _ | assumption | exact zr_b _ | exact zcmp_r _ _ | (unfold zr at *; omega)) dL_law_884 ?_
            refine zx_if_eq (tgt := 890) (by first | exact hz2 _ _ | assumption | exact zr_b _ | exact zcmp_r _ _ | (unfold zr at *; omega)) dL_law_885 (by decide) (fun h885 => ?_) (fun h885 => ?_)
            · have h885 := zcmp_eq.mp h885
              refine zx_goto (tgt := 3069) dL_law_890 (by decide) ?_
              refine zy_drop 5 [zf 101 0, zf 9 0, zf 10 261, zf 35 272, zi ((i : Nat) : Int), zu, zi (zt b), zu, zu] rfl ?_
              refine zy_drop 6 [zf 101 0, zf 9 0, zf 10 261, zf 35 272, zi ((i : Nat) : Int), zu, zu, zu, zu] rfl ?_
              exact cont υ _ hz2 hI (by omega)
            · have h885 := fun q => h885 (zcmp_eq.mpr q)
              first | exact absurd hth (by assumption) | exact absurd rfl (by assumption) | exact absurd (by assumption) (by assumption) | (exfalso; exact h885 (by omega)) | (exfalso; omega)
          · refine zx_lconst (a := 1) dL_law_879 rfl ?_
            refine zx_goto (tgt := 884) dL_law_880 (by decide) ?_
            refine zx_lcmp (by first | exact hz2 _ _ | assumption | exact zr_b _ | exact zcmp_r _ _ | (unfold zr at *; omega)) (by first | exact hz2 _ _ | assumption | exact zr_b _ | exact zcmp_r _ _ | (unfold zr at *; omega)) dL_law_884 ?_
            refine zx_if_eq (tgt := 890) (by first | exact hz2 _ _ | assumption | exact zr_b _ | exact zcmp_r _ _ | (unfold zr at *; omega)) dL_law_885 (by decide) (fun h885 => ?_) (fun h885 => ?_)
            · have h885 := zcmp_eq.mp h885
              refine zx_goto (tgt := 3069) dL_law_890 (by decide) ?_
              refine zy_drop 5 [zf 101 0, zf 9 0, zf 10 261, zf 35 272, zi ((i : Nat) : Int), zu, zi (zt b), zu, zu] rfl ?_
              refine zy_drop 6 [zf 101 0, zf 9 0, zf 10 261, zf 35 272, zi ((i : Nat) : Int), zu, zu, zu, zu] rfl ?_
              exact cont υ _ hz2 hI (by omega)
            · have h885 := fun q => h885 (zcmp_eq.mpr q)
              first | exact absurd hth (by assumption) | exact absurd rfl (by assumption) | exact absurd (by assumption) (by assumption) | (exfalso; exact h885 (by omega)) | (exfalso; omega)
      · first | exact absurd hth (by assumption) | exact absurd rfl (by assumption) | exact absurd (by assumption) (by assumption) | (exfalso; exact h861 (by omega)) | (exfalso; omega)
    · obtain ⟨b, e, -⟩ := hK _ _ hq2
      cases e
  · obtain ⟨c, e, -⟩ := hS _ _ hq
    cases e
set_option maxRecDepth 20000 in
set_option maxHeartbeats 2000000 in
theorem lc_12 {l : Launch} {w : zW} (hfl : l.stackTraces = false) {hh : List (Nat × Nat × Nat × Nat)} {c0 s0 : Nat} {Z : List Frame → Array Value → State → State → Prop} (hc0 : c0 ≤ 1000) (hs0 : s0 ≤ 100000) (hLn : zSL w ≤ 3072) {i k : Nat} (hi : i + 6 ≤ zSL w) (hk : k ≤ i) {σ : zS} (hz : zOK σ) (hS : SimD l w mX9_deviceOwners mX10_deviceOwners 3 4 [zi (zSx w (i + 1)).toInt] σ) (cont : ∀ (τ : zS) (k' : Nat), zOK τ → Inv τ → k' ≤ k + 1 → zX l w (mL_law hh) (room_1, Z, c0, s0) 3069 [zf 101 0, zf 9 0, zf 10 261, zf 35 272, zi ((i : Nat) : Int), zu, zu, zu, zu] [] k' τ) : zX l w (mL_law hh) (room_1, Z, c0, s0) 893 [zf 101 0, zf 9 0, zf 10 261, zf 35 272, zi ((i : Nat) : Int), zu, zu, zu, zu] [] k σ := by
  obtain ⟨QC, hC, hS⟩ := hS
  refine zx_aloadN dL_law_893 rfl rfl ?_
  refine zx_aloadN dL_law_894 rfl rfl ?_
  refine zx_iload dL_law_895 rfl ?_
  refine zx_iconst dL_law_897 ?_
  refine zx_iadd dL_law_898 ?_
  refine zy_top (b := ((i + 1 : Nat) : Int)) (by omega) ?_
  refine zx_sld (by omega) (by omega) (by omega) dL_law_899 ?_
  refine zy_cvq [zi ((zSx w (i + 1)).toInt)] hC dL_law_900 (by decide) rfl cw_RL_184 okX9_deviceOwners rfl (Nat.le_of_ble_eq_true rfl) ⟨Nat.le_of_ble_eq_true rfl, Nat.le_of_ble_eq_true rfl, by first | (show c0 + _ ≤ 601024; omega), by first | (show s0 + 6 * _ ≤ 7293034; omega)⟩ (fun r τ hq => ?_) (fun E τ hq => ?_)
  · obtain ⟨c, e, hz1, QM, hM, hK⟩ := hS _ _ hq
    obtain rfl := Sum.inl.inj e
    rw [show ∀ (x : zV) (s : List zV), (some x).toList ++ s = x :: s from fun _ _ => rfl]
    refine zy_nrm ?_
    have hzc := zt_r c
    refine zx_aloadN dL_law_903 rfl rfl ?_
    refine zx_aloadN dL_law_904 rfl rfl ?_
    refine zx_iload dL_law_905 rfl ?_
    refine zx_iconst dL_law_907 ?_
    refine zx_iadd dL_law_908 ?_
    refine zy_top (b := ((i + 1 : Nat) : Int)) (by omega) ?_
    refine zx_sld (by omega) (by omega) (by omega) dL_law_909 ?_
    refine zy_cvq [zi ((zSx w (i + 1)).toInt)] hM dL_law_910 (by decide) rfl cw_RL_187 okX10_deviceOwners rfl (Nat.le_of_ble_eq_true rfl) ⟨Nat.le_of_ble_eq_true rfl, Nat.le_of_ble_eq_true rfl, by first | (show c0 + _ ≤ 601024; omega), by first | (show s0 + 6 * _ ≤ 7293034; omega)⟩ (fun r υ hq2 => ?_) (fun E υ hq2 => ?_)
    · obtain ⟨e, hz2, hI⟩ := hK _ _ hq2
      obtain rfl := Sum.inl.inj e
      rw [show ∀ (x : zV) (s : List zV), (some x).toList ++ s = x :: s from fun _ _ => rfl]
      refine zy_nrm ?_
      refine zx_icmp_eq (tgt := 3069) (by first | exact hz2 _ _ | assumption | exact zr_b _ | exact zcmp_r _ _ | (unfold zr at *; omega)) (by first | exact hz2 _ _ | assumption | exact zr_b _ | exact zcmp_r _ _ | (unfold zr at *; omega)) dL_law_913 (by decide) (fun h913 => ?_) (fun h913 => ?_)
      · exact cont υ _ hz2 hI (by omega)
      · first | exact absurd hth (by assumption) | exact absurd rfl (by assumption) | exact absurd (by assumption) (by assumption) | (exfalso; exact h913 (by omega)) | (exfalso; omega)
    · obtain ⟨e, -⟩ := hK _ _ hq2
      cases e
  · obtain ⟨c, e, -⟩ := hS _ _ hq
    cases e
set_option maxRecDepth 20000 in
set_option maxHeartbeats 2000000 in
theorem lc_13 {l : Launch} {w : zW} (hfl : l.stackTraces = false) {hh : List (Nat × Nat × Nat × Nat)} {c0 s0 : Nat} {Z : List Frame → Array Value → State → State → Prop} (hc0 : c0 ≤ 1000) (hs0 : s0 ≤ 100000) (hLn : zSL w ≤ 3072) {i k : Nat} (hi : i + 6 ≤ zSL w) (hk : k ≤ i) {σ : zS} (hz : zOK σ) (hS : SimD l w mX9_watermarkCount mX10_watermarkCount 0 1 [] σ) (cont : ∀ (τ : zS) (k' : Nat), zOK τ → Inv τ → k' ≤ k + 1 → zX l w (mL_law hh) (room_1, Z, c0, s0) 3069 [zf 101 0, zf 9 0, zf 10 261, zf 35 272, zi ((i : Nat) : Int), zu, zu, zu, zu] [] k' τ) : zX l w (mL_law hh) (room_1, Z, c0, s0) 918 [zf 101 0, zf 9 0, zf 10 261, zf 35 272, zi ((i : Nat) : Int), zu, zu, zu, zu] [] k σ := by
  obtain ⟨QC, hC, hS⟩ := hS
  refine zx_aloadN dL_law_918 rfl rfl ?_
  refine zy_cvq [] hC dL_law_919 (by decide) rfl cw_RL_188 okX9_watermarkCount rfl (Nat.le_of_ble_eq_true rfl) ⟨Nat.le_of_ble_eq_true rfl, Nat.le_of_ble_eq_true rfl, by first | (show c0 + _ ≤ 601024; omega), by first | (show s0 + 6 * _ ≤ 7293034; omega)⟩ (fun r τ hq => ?_) (fun E τ hq => ?_)
  · obtain ⟨c, e, hz1, QM, hM, hK⟩ := hS _ _ hq
    obtain rfl := Sum.inl.inj e
    rw [show ∀ (x : zV) (s : List zV), (some x).toList ++ s = x :: s from fun _ _ => rfl]
    refine zy_nrm ?_
    have hzc := zt_r c
    refine zx_aloadN dL_law_922 rfl rfl ?_
    refine zy_cvq [] hM dL_law_923 (by decide) rfl cw_RL_191 okX10_watermarkCount rfl (Nat.le_of_ble_eq_true rfl) ⟨Nat.le_of_ble_eq_true rfl, Nat.le_of_ble_eq_true rfl, by first | (show c0 + _ ≤ 601024; omega), by first | (show s0 + 6 * _ ≤ 7293034; omega)⟩ (fun r υ hq2 => ?_) (fun E υ hq2 => ?_)
    · obtain ⟨e, hz2, hI⟩ := hK _ _ hq2
      obtain rfl := Sum.inl.inj e
      rw [show ∀ (x : zV) (s : List zV), (some x).toList ++ s = x :: s from fun _ _ => rfl]
      refine zy_nrm ?_
      refine zx_icmp_eq (tgt := 3069) (by first | exact hz2 _ _ | assumption | exact zr_b _ | exact zcmp_r _ _ | (unfold zr at *; omega)) (by first | exact hz2 _ _ | assumption | exact zr_b _ | exact zcmp_r _ _ | (unfold zr at *; omega)) dL_law_926 (by decide) (fun h926 => ?_) (fun h926 => ?_)
      · exact cont υ _ hz2 hI (by omega)
      · first | exact absurd hth (by assumption) | exact absurd rfl (by assumption) | exact absurd (by assumption) (by assumption) | (exfalso; exact h926 (by omega)) | (exfalso; omega)
    · obtain ⟨e, -⟩ := hK _ _ hq2
      cases e
  · obtain ⟨c, e, -⟩ := hS _ _ hq
    cases e
set_option maxRecDepth 20000 in
set_option maxHeartbeats 2000000 in
theorem lc_14 {l : Launch} {w : zW} (hfl : l.stackTraces = false) {hh : List (Nat × Nat × Nat × Nat)} {c0 s0 : Nat} {Z : List Frame → Array Value → State → State → Prop} (hc0 : c0 ≤ 1000) (hs0 : s0 ≤ 100000) (hLn : zSL w ≤ 3072) {i k : Nat} (hi : i + 6 ≤ zSL w) (hk : k ≤ i) {σ : zS} (hz : zOK σ) (hS : SimW l w False mL_watermarksOf mX10_watermarksOf 2 [zi (zSx w (i + 1)).toInt] σ) (cont : ∀ (τ : zS) (k' : Nat), zOK τ → Inv τ → k' ≤ k + 1 → zX l w (mL_law hh) (room_1, Z, c0, s0) 3069 [zf 101 0, zf 9 0, zf 10 261, zf 35 272, zi ((i : Nat) : Int), zu, zu, zu, zu] [] k' τ) : zX l w (mL_law hh) (room_1, Z, c0, s0) 931 [zf 101 0, zf 9 0, zf 10 261, zf 35 272, zi ((i : Nat) : Int), zu, zu, zu, zu] [] k σ := by
  obtain ⟨QC, hC, hS⟩ := hS
  refine zx_aloadN dL_law_931 rfl rfl ?_
  refine zx_aloadN dL_law_932 rfl rfl ?_
  refine zx_iload dL_law_933 rfl ?_
  refine zx_iconst dL_law_935 ?_
  refine zx_iadd dL_law_936 ?_
  refine zy_top (b := ((i + 1 : Nat) : Int)) (by omega) ?_
  refine zx_sld (by omega) (by omega) (by omega) dL_law_937 ?_
  refine zx_aloadN dL_law_938 rfl rfl ?_
  have hC1 : SpH l w mL_watermarksOf 10 1 [zf 9 0, zi ((zSx w (i + 1)).toInt), zf 35 272] σ QC := hC
  refine zy_csHq [zf 9 0, zi ((zSx w (i + 1)).toInt), zf 35 272] hC1 dL_law_939 cw_RL_192 okL_watermarksOf rfl (Nat.le_of_ble_eq_true rfl) ⟨Nat.le_of_ble_eq_true rfl, Nat.le_of_ble_eq_true rfl, by first | (show c0 + _ ≤ 601024; omega), by first | (show s0 + 6 * _ ≤ 7293034; omega)⟩ (fun r τ hq => ?_) (fun E τ hq => ?_)
  · obtain ⟨c, e, hzc, hz1, QM, hM, hK⟩ := hS _ _ hq
    obtain rfl := Sum.inl.inj e
    rw [show ∀ (x : zV) (s : List zV), (some x).toList ++ s = x :: s from fun _ _ => rfl]
    refine zy_istore [zf 101 0, zf 9 0, zf 10 261, zf 35 272, zi ((i : Nat) : Int), zi c, zu, zu, zu] dL_law_942 (Nat.le_of_ble_eq_true rfl) (Nat.le_of_ble_eq_true rfl) rfl rfl ?_
    refine zx_aloadN dL_law_944 rfl rfl ?_
    refine zx_aloadN dL_law_945 rfl rfl ?_
    refine zx_iload dL_law_946 rfl ?_
    refine zx_iconst dL_law_948 ?_
    refine zx_iadd dL_law_949 ?_
    refine zy_top (b := ((i + 1 : Nat) : Int)) (by omega) ?_
    refine zx_sld (by omega) (by omega) (by omega) dL_law_950 ?_
    refine zy_cvq [zi ((zSx w (i + 1)).toInt)] hM dL_law_951 (by decide) rfl cw_RL_194 okX10_watermarksOf rfl (Nat.le_of_ble_eq_true rfl) ⟨Nat.le_of_ble_eq_true rfl, Nat.le_of_ble_eq_true rfl, by first | (show c0 + _ ≤ 601024; omega), by first | (show s0 + 6 * _ ≤ 7293034; omega)⟩ (fun r υ hq2 => ?_) (fun E υ hq2 => ?_)
    · obtain ⟨b, e, hz2, hth, hob, hB, hI⟩ := hK _ _ hq2
      obtain rfl := Sum.inl.inj e
      rw [show ∀ (x : zV) (s : List zV), (some x).toList ++ s = x :: s from fun _ _ => rfl]
      refine zy_nrm ?_
      have hzb := zt_r b
      refine zy_istore [zf 101 0, zf 9 0, zf 10 261, zf 35 272, zi ((i : Nat) : Int), zi c, zi (zt b), zu, zu] dL_law_954 (Nat.le_of_ble_eq_true rfl) (Nat.le_of_ble_eq_true rfl) rfl rfl ?_
      refine zx_aloadN dL_law_956 rfl rfl ?_
      refine zy_cv [] (sX10_thrown  hfl hz2 ) dL_law_957 (by decide) rfl cw_RL_141 okX10_thrown rfl (Nat.le_of_ble_eq_true rfl) ⟨Nat.le_of_ble_eq_true rfl, Nat.le_of_ble_eq_true rfl, by first | (show c0 + _ ≤ 601024; omega), by first | (show s0 + 6 * _ ≤ 7293034; omega)⟩ ?_
      refine zx_iload dL_law_960 rfl ?_
      refine zx_icmp_eq (tgt := 967) (by first | exact hz2 _ _ | assumption | exact zr_b _ | exact zcmp_r _ _ | (unfold zr at *; omega)) (by first | exact hz2 _ _ | assumption | exact zr_b _ | exact zcmp_r _ _ | (unfold zr at *; omega)) dL_law_962 (by decide) (fun h962 => ?_) (fun h962 => ?_)
      · refine zx_iload dL_law_967 rfl ?_
        refine zx_if_ne (tgt := 984) (by first | exact hz2 _ _ | assumption | exact zr_b _ | exact zcmp_r _ _ | (unfold zr at *; omega)) dL_law_969 (by decide) (fun h969 => ?_) (fun h969 => ?_)
        · refine zx_goto (tgt := 3069) dL_law_984 (by decide) ?_
          refine zy_drop 5 [zf 101 0, zf 9 0, zf 10 261, zf 35 272, zi ((i : Nat) : Int), zu, zi (zt b), zu, zu] rfl ?_
          refine zy_drop 6 [zf 101 0, zf 9 0, zf 10 261, zf 35 272, zi ((i : Nat) : Int), zu, zu, zu, zu] rfl ?_
          exact cont υ _ hz2 hI (by omega)
        · refine zx_aloadN dL_law_972 rfl rfl ?_
          refine zx_iconst dL_law_973 ?_
          refine zx_lald dL_law_974 ?_
          rw [hob (by assumption)]
          refine zx_iload dL_law_975 rfl ?_
          refine zx_i2l (by first | exact hz2 _ _ | assumption | exact zr_b _ | exact zcmp_r _ _ | (unfold zr at *; omega)) dL_law_977 ?_
          refine zx_lcmp (by first | exact hz2 _ _ | assumption | exact zr_b _ | exact zcmp_r _ _ | (unfold zr at *; omega)) (by first | exact hz2 _ _ | assumption | exact zr_b _ | exact zcmp_r _ _ | (unfold zr at *; omega)) dL_law_978 ?_
          refine zx_if_eq (tgt := 984) (by first | exact hz2 _ _ | assumption | exact zr_b _ | exact zcmp_r _ _ | (unfold zr at *; omega)) dL_law_979 (by decide) (fun h979 => ?_) (fun h979 => ?_)
          · have h979 := zcmp_eq.mp h979
            refine zx_goto (tgt := 3069) dL_law_984 (by decide) ?_
            refine zy_drop 5 [zf 101 0, zf 9 0, zf 10 261, zf 35 272, zi ((i : Nat) : Int), zu, zi (zt b), zu, zu] rfl ?_
            refine zy_drop 6 [zf 101 0, zf 9 0, zf 10 261, zf 35 272, zi ((i : Nat) : Int), zu, zu, zu, zu] rfl ?_
            exact cont υ _ hz2 hI (by omega)
          · have h979 := fun q => h979 (zcmp_eq.mpr q)
            first | exact absurd hth (by assumption) | exact absurd rfl (by assumption) | exact absurd (by assumption) (by assumption) | (exfalso; exact h979 (by omega)) | (exfalso; omega)
      · first | exact absurd hth (by assumption) | exact absurd rfl (by assumption) | exact absurd (by assumption) (by assumption) | (exfalso; exact h962 (by omega)) | (exfalso; omega)
    · obtain ⟨b, e, -⟩ := hK _ _ hq2
      cases e
  · obtain ⟨c, e, -⟩ := hS _ _ hq
    cases e
set_option maxRecDepth 20000 in
set_option maxHeartbeats 2000000 in
theorem lc_15 {l : Launch} {w : zW} (hfl : l.stackTraces = false) {hh : List (Nat × Nat × Nat × Nat)} {c0 s0 : Nat} {Z : List Frame → Array Value → State → State → Prop} (hc0 : c0 ≤ 1000) (hs0 : s0 ≤ 100000) (hLn : zSL w ≤ 3072) {i k : Nat} (hi : i + 6 ≤ zSL w) (hk : k ≤ i) {σ : zS} (hz : zOK σ) (hS : SimD l w mX9_editionCount mX10_editionCount 0 1 [] σ) (cont : ∀ (τ : zS) (k' : Nat), zOK τ → Inv τ → k' ≤ k + 1 → zX l w (mL_law hh) (room_1, Z, c0, s0) 3069 [zf 101 0, zf 9 0, zf 10 261, zf 35 272, zi ((i : Nat) : Int), zu, zu, zu, zu] [] k' τ) : zX l w (mL_law hh) (room_1, Z, c0, s0) 987 [zf 101 0, zf 9 0, zf 10 261, zf 35 272, zi ((i : Nat) : Int), zu, zu, zu, zu] [] k σ := by
  obtain ⟨QC, hC, hS⟩ := hS
  refine zx_aloadN dL_law_987 rfl rfl ?_
  refine zy_cvq [] hC dL_law_988 (by decide) rfl cw_RL_195 okX9_editionCount rfl (Nat.le_of_ble_eq_true rfl) ⟨Nat.le_of_ble_eq_true rfl, Nat.le_of_ble_eq_true rfl, by first | (show c0 + _ ≤ 601024; omega), by first | (show s0 + 6 * _ ≤ 7293034; omega)⟩ (fun r τ hq => ?_) (fun E τ hq => ?_)
  · obtain ⟨c, e, hz1, QM, hM, hK⟩ := hS _ _ hq
    obtain rfl := Sum.inl.inj e
    rw [show ∀ (x : zV) (s : List zV), (some x).toList ++ s = x :: s from fun _ _ => rfl]
    refine zy_nrm ?_
    have hzc := zt_r c
    refine zx_aloadN dL_law_991 rfl rfl ?_
    refine zy_cvq [] hM dL_law_992 (by decide) rfl cw_RL_198 okX10_editionCount rfl (Nat.le_of_ble_eq_true rfl) ⟨Nat.le_of_ble_eq_true rfl, Nat.le_of_ble_eq_true rfl, by first | (show c0 + _ ≤ 601024; omega), by first | (show s0 + 6 * _ ≤ 7293034; omega)⟩ (fun r υ hq2 => ?_) (fun E υ hq2 => ?_)
    · obtain ⟨e, hz2, hI⟩ := hK _ _ hq2
      obtain rfl := Sum.inl.inj e
      rw [show ∀ (x : zV) (s : List zV), (some x).toList ++ s = x :: s from fun _ _ => rfl]
      refine zy_nrm ?_
      refine zx_icmp_eq (tgt := 3069) (by first | exact hz2 _ _ | assumption | exact zr_b _ | exact zcmp_r _ _ | (unfold zr at *; omega)) (by first | exact hz2 _ _ | assumption | exact zr_b _ | exact zcmp_r _ _ | (unfold zr at *; omega)) dL_law_995 (by decide) (fun h995 => ?_) (fun h995 => ?_)
      · exact cont υ _ hz2 hI (by omega)
      · first | exact absurd hth (by assumption) | exact absurd rfl (by assumption) | exact absurd (by assumption) (by assumption) | (exfalso; exact h995 (by omega)) | (exfalso; omega)
    · obtain ⟨e, -⟩ := hK _ _ hq2
      cases e
  · obtain ⟨c, e, -⟩ := hS _ _ hq
    cases e
set_option maxRecDepth 20000 in
set_option maxHeartbeats 2000000 in
theorem lc_16 {l : Launch} {w : zW} (hfl : l.stackTraces = false) {hh : List (Nat × Nat × Nat × Nat)} {c0 s0 : Nat} {Z : List Frame → Array Value → State → State → Prop} (hc0 : c0 ≤ 1000) (hs0 : s0 ≤ 100000) (hLn : zSL w ≤ 3072) {i k : Nat} (hi : i + 6 ≤ zSL w) (hk : k ≤ i) {σ : zS} (hz : zOK σ) (hS : SimD l w mX9_clueCount mX10_clueCount 0 1 [] σ) (cont : ∀ (τ : zS) (k' : Nat), zOK τ → Inv τ → k' ≤ k + 1 → zX l w (mL_law hh) (room_1, Z, c0, s0) 3069 [zf 101 0, zf 9 0, zf 10 261, zf 35 272, zi ((i : Nat) : Int), zu, zu, zu, zu] [] k' τ) : zX l w (mL_law hh) (room_1, Z, c0, s0) 1000 [zf 101 0, zf 9 0, zf 10 261, zf 35 272, zi ((i : Nat) : Int), zu, zu, zu, zu] [] k σ := by
  obtain ⟨QC, hC, hS⟩ := hS
  refine zx_aloadN dL_law_1000 rfl rfl ?_
  refine zy_cvq [] hC dL_law_1001 (by decide) rfl cw_RL_199 okX9_clueCount rfl (Nat.le_of_ble_eq_true rfl) ⟨Nat.le_of_ble_eq_true rfl, Nat.le_of_ble_eq_true rfl, by first | (show c0 + _ ≤ 601024; omega), by first | (show s0 + 6 * _ ≤ 7293034; omega)⟩ (fun r τ hq => ?_) (fun E τ hq => ?_)
  · obtain ⟨c, e, hz1, QM, hM, hK⟩ := hS _ _ hq
    obtain rfl := Sum.inl.inj e
    rw [show ∀ (x : zV) (s : List zV), (some x).toList ++ s = x :: s from fun _ _ => rfl]
    refine zy_nrm ?_
    have hzc := zt_r c
    refine zx_aloadN dL_law_1004 rfl rfl ?_
    refine zy_cvq [] hM dL_law_1005 (by decide) rfl cw_RL_202 okX10_clueCount rfl (Nat.le_of_ble_eq_true rfl) ⟨Nat.le_of_ble_eq_true rfl, Nat.le_of_ble_eq_true rfl, by first | (show c0 + _ ≤ 601024; omega), by first | (show s0 + 6 * _ ≤ 7293034; omega)⟩ (fun r υ hq2 => ?_) (fun E υ hq2 => ?_)
    · obtain ⟨e, hz2, hI⟩ := hK _ _ hq2
      obtain rfl := Sum.inl.inj e
      rw [show ∀ (x : zV) (s : List zV), (some x).toList ++ s = x :: s from fun _ _ => rfl]
      refine zy_nrm ?_
      refine zx_icmp_eq (tgt := 3069) (by first | exact hz2 _ _ | assumption | exact zr_b _ | exact zcmp_r _ _ | (unfold zr at *; omega)) (by first | exact hz2 _ _ | assumption | exact zr_b _ | exact zcmp_r _ _ | (unfold zr at *; omega)) dL_law_1008 (by decide) (fun h1008 => ?_) (fun h1008 => ?_)
      · exact cont υ _ hz2 hI (by omega)
      · first | exact absurd hth (by assumption) | exact absurd rfl (by assumption) | exact absurd (by assumption) (by assumption) | (exfalso; exact h1008 (by omega)) | (exfalso; omega)
    · obtain ⟨e, -⟩ := hK _ _ hq2
      cases e
  · obtain ⟨c, e, -⟩ := hS _ _ hq
    cases e
set_option maxRecDepth 20000 in
set_option maxHeartbeats 2000000 in
theorem lc_17 {l : Launch} {w : zW} (hfl : l.stackTraces = false) {hh : List (Nat × Nat × Nat × Nat)} {c0 s0 : Nat} {Z : List Frame → Array Value → State → State → Prop} (hc0 : c0 ≤ 1000) (hs0 : s0 ≤ 100000) (hLn : zSL w ≤ 3072) {i k : Nat} (hi : i + 6 ≤ zSL w) (hk : k ≤ i) {σ : zS} (hz : zOK σ) (hS : SimW l w False mL_kindOf mX10_kindOf 3 [zi (zSx w (i + 1)).toInt] σ) (cont : ∀ (τ : zS) (k' : Nat), zOK τ → Inv τ → k' ≤ k + 1 → zX l w (mL_law hh) (room_1, Z, c0, s0) 3069 [zf 101 0, zf 9 0, zf 10 261, zf 35 272, zi ((i : Nat) : Int), zu, zu, zu, zu] [] k' τ) : zX l w (mL_law hh) (room_1, Z, c0, s0) 1013 [zf 101 0, zf 9 0, zf 10 261, zf 35 272, zi ((i : Nat) : Int), zu, zu, zu, zu] [] k σ := by
  obtain ⟨QC, hC, hS⟩ := hS
  refine zx_aloadN dL_law_1013 rfl rfl ?_
  refine zx_aloadN dL_law_1014 rfl rfl ?_
  refine zx_iload dL_law_1015 rfl ?_
  refine zx_iconst dL_law_1017 ?_
  refine zx_iadd dL_law_1018 ?_
  refine zy_top (b := ((i + 1 : Nat) : Int)) (by omega) ?_
  refine zx_sld (by omega) (by omega) (by omega) dL_law_1019 ?_
  refine zx_aloadN dL_law_1020 rfl rfl ?_
  have hC1 : SpH l w mL_kindOf 10 1 [zf 9 0, zi ((zSx w (i + 1)).toInt), zf 35 272] σ QC := hC
  refine zy_csHq [zf 9 0, zi ((zSx w (i + 1)).toInt), zf 35 272] hC1 dL_law_1021 cw_RL_203 okL_kindOf rfl (Nat.le_of_ble_eq_true rfl) ⟨Nat.le_of_ble_eq_true rfl, Nat.le_of_ble_eq_true rfl, by first | (show c0 + _ ≤ 601024; omega), by first | (show s0 + 6 * _ ≤ 7293034; omega)⟩ (fun r τ hq => ?_) (fun E τ hq => ?_)
  · obtain ⟨c, e, hzc, hz1, QM, hM, hK⟩ := hS _ _ hq
    obtain rfl := Sum.inl.inj e
    rw [show ∀ (x : zV) (s : List zV), (some x).toList ++ s = x :: s from fun _ _ => rfl]
    refine zy_istore [zf 101 0, zf 9 0, zf 10 261, zf 35 272, zi ((i : Nat) : Int), zi c, zu, zu, zu] dL_law_1024 (Nat.le_of_ble_eq_true rfl) (Nat.le_of_ble_eq_true rfl) rfl rfl ?_
    refine zx_aloadN dL_law_1026 rfl rfl ?_
    refine zx_aloadN dL_law_1027 rfl rfl ?_
    refine zx_iload dL_law_1028 rfl ?_
    refine zx_iconst dL_law_1030 ?_
    refine zx_iadd dL_law_1031 ?_
    refine zy_top (b := ((i + 1 : Nat) : Int)) (by omega) ?_
    refine zx_sld (by omega) (by omega) (by omega) dL_law_1032 ?_
    refine zy_cvq [zi ((zSx w (i + 1)).toInt)] hM dL_law_1033 (by decide) rfl cw_RL_205 okX10_kindOf rfl (Nat.le_of_ble_eq_true rfl) ⟨Nat.le_of_ble_eq_true rfl, Nat.le_of_ble_eq_true rfl, by first | (show c0 + _ ≤ 601024; omega), by first | (show s0 + 6 * _ ≤ 7293034; omega)⟩ (fun r υ hq2 => ?_) (fun E υ hq2 => ?_)
    · obtain ⟨b, e, hz2, hth, hob, hB, hI⟩ := hK _ _ hq2
      obtain rfl := Sum.inl.inj e
      rw [show ∀ (x : zV) (s : List zV), (some x).toList ++ s = x :: s from fun _ _ => rfl]
      refine zy_nrm ?_
      have hzb := zt_r b
      refine zy_istore [zf 101 0, zf 9 0, zf 10 261, zf 35 272, zi ((i : Nat) : Int), zi c, zi (zt b), zu, zu] dL_law_1036 (Nat.le_of_ble_eq_true rfl) (Nat.le_of_ble_eq_true rfl) rfl rfl ?_
      refine zx_aloadN dL_law_1038 rfl rfl ?_
      refine zy_cv [] (sX10_thrown  hfl hz2 ) dL_law_1039 (by decide) rfl cw_RL_141 okX10_thrown rfl (Nat.le_of_ble_eq_true rfl) ⟨Nat.le_of_ble_eq_true rfl, Nat.le_of_ble_eq_true rfl, by first | (show c0 + _ ≤ 601024; omega), by first | (show s0 + 6 * _ ≤ 7293034; omega)⟩ ?_
      refine zx_iload dL_law_1042 rfl ?_
      refine zx_icmp_eq (tgt := 1049) (by first | exact hz2 _ _ | assumption | exact zr_b _ | exact zcmp_r _ _ | (unfold zr at *; omega)) (by first | exact hz2 _ _ | assumption | exact zr_b _ | exact zcmp_r _ _ | (unfold zr at *; omega)) dL_law_1044 (by decide) (fun h1044 => ?_) (fun h1044 => ?_)
      · refine zx_iload dL_law_1049 rfl ?_
        refine zx_if_ne (tgt := 1066) (by first | exact hz2 _ _ | assumption | exact zr_b _ | exact zcmp_r _ _ | (unfold zr at *; omega)) dL_law_1051 (by decide) (fun h1051 => ?_) (fun h1051 => ?_)
        · refine zx_goto (tgt := 3069) dL_law_1066 (by decide) ?_
          refine zy_drop 5 [zf 101 0, zf 9 0, zf 10 261, zf 35 272, zi ((i : Nat) : Int), zu, zi (zt b), zu, zu] rfl ?_
          refine zy_drop 6 [zf 101 0, zf 9 0, zf 10 261, zf 35 272, zi ((i : Nat) : Int), zu, zu, zu, zu] rfl ?_
          exact cont υ _ hz2 hI (by omega)
        · refine zx_aloadN dL_law_1054 rfl rfl ?_
          refine zx_iconst dL_law_1055 ?_
          refine zx_lald dL_law_1056 ?_
          rw [hob (by assumption)]
          refine zx_iload dL_law_1057 rfl ?_
          refine zx_i2l (by first | exact hz2 _ _ | assumption | exact zr_b _ | exact zcmp_r _ _ | (unfold zr at *; omega)) dL_law_1059 ?_
          refine zx_lcmp (by first | exact hz2 _ _ | assumption | exact zr_b _ | exact zcmp_r _ _ | (unfold zr at *; omega)) (by first | exact hz2 _ _ | assumption | exact zr_b _ | exact zcmp_r _ _ | (unfold zr at *; omega)) dL_law_1060 ?_
          refine zx_if_eq (tgt := 1066) (by first | exact hz2 _ _ | assumption | exact zr_b _ | exact zcmp_r _ _ | (unfold zr at *; omega)) dL_law_1061 (by decide) (fun h1061 => ?_) (fun h1061 => ?_)
          · have h1061 := zcmp_eq.mp h1061
            refine zx_goto (tgt := 3069) dL_law_1066 (by decide) ?_
            refine zy_drop 5 [zf 101 0, zf 9 0, zf 10 261, zf 35 272, zi ((i : Nat) : Int), zu, zi (zt b), zu, zu] rfl ?_
            refine zy_drop 6 [zf 101 0, zf 9 0, zf 10 261, zf 35 272, zi ((i : Nat) : Int), zu, zu, zu, zu] rfl ?_
            exact cont υ _ hz2 hI (by omega)
          · have h1061 := fun q => h1061 (zcmp_eq.mpr q)
            first | exact absurd hth (by assumption) | exact absurd rfl (by assumption) | exact absurd (by assumption) (by assumption) | (exfalso; exact h1061 (by omega)) | (exfalso; omega)
      · first | exact absurd hth (by assumption) | exact absurd rfl (by assumption) | exact absurd (by assumption) (by assumption) | (exfalso; exact h1044 (by omega)) | (exfalso; omega)
    · obtain ⟨b, e, -⟩ := hK _ _ hq2
      cases e
  · obtain ⟨c, e, -⟩ := hS _ _ hq
    cases e
set_option maxRecDepth 20000 in
set_option maxHeartbeats 2000000 in
theorem lc_18 {l : Launch} {w : zW} (hfl : l.stackTraces = false) {hh : List (Nat × Nat × Nat × Nat)} {c0 s0 : Nat} {Z : List Frame → Array Value → State → State → Prop} (hc0 : c0 ≤ 1000) (hs0 : s0 ≤ 100000) (hLn : zSL w ≤ 3072) {i k : Nat} (hi : i + 6 ≤ zSL w) (hk : k ≤ i) {σ : zS} (hz : zOK σ) (hS : SimW l w False mL_valueOf mX10_valueOf 3 [zi (zSx w (i + 1)).toInt] σ) (cont : ∀ (τ : zS) (k' : Nat), zOK τ → Inv τ → k' ≤ k + 1 → zX l w (mL_law hh) (room_1, Z, c0, s0) 3069 [zf 101 0, zf 9 0, zf 10 261, zf 35 272, zi ((i : Nat) : Int), zu, zu, zu, zu] [] k' τ) : zX l w (mL_law hh) (room_1, Z, c0, s0) 1069 [zf 101 0, zf 9 0, zf 10 261, zf 35 272, zi ((i : Nat) : Int), zu, zu, zu, zu] [] k σ := by
  obtain ⟨QC, hC, hS⟩ := hS
  refine zx_aloadN dL_law_1069 rfl rfl ?_
  refine zx_aloadN dL_law_1070 rfl rfl ?_
  refine zx_iload dL_law_1071 rfl ?_
  refine zx_iconst dL_law_1073 ?_
  refine zx_iadd dL_law_1074 ?_
  refine zy_top (b := ((i + 1 : Nat) : Int)) (by omega) ?_
  refine zx_sld (by omega) (by omega) (by omega) dL_law_1075 ?_
  refine zx_aloadN dL_law_1076 rfl rfl ?_
  have hC1 : SpH l w mL_valueOf 10 1 [zf 9 0, zi ((zSx w (i + 1)).toInt), zf 35 272] σ QC := hC
  refine zy_csHq [zf 9 0, zi ((zSx w (i + 1)).toInt), zf 35 272] hC1 dL_law_1077 cw_RL_206 okL_valueOf rfl (Nat.le_of_ble_eq_true rfl) ⟨Nat.le_of_ble_eq_true rfl, Nat.le_of_ble_eq_true rfl, by first | (show c0 + _ ≤ 601024; omega), by first | (show s0 + 6 * _ ≤ 7293034; omega)⟩ (fun r τ hq => ?_) (fun E τ hq => ?_)
  · obtain ⟨c, e, hzc, hz1, QM, hM, hK⟩ := hS _ _ hq
    obtain rfl := Sum.inl.inj e
    rw [show ∀ (x : zV) (s : List zV), (some x).toList ++ s = x :: s from fun _ _ => rfl]
    refine zy_istore [zf 101 0, zf 9 0, zf 10 261, zf 35 272, zi ((i : Nat) : Int), zi c, zu, zu, zu] dL_law_1080 (Nat.le_of_ble_eq_true rfl) (Nat.le_of_ble_eq_true rfl) rfl rfl ?_
    refine zx_aloadN dL_law_1082 rfl rfl ?_
    refine zx_aloadN dL_law_1083 rfl rfl ?_
    refine zx_iload dL_law_1084 rfl ?_
    refine zx_iconst dL_law_1086 ?_
    refine zx_iadd dL_law_1087 ?_
    refine zy_top (b := ((i + 1 : Nat) : Int)) (by omega) ?_
    refine zx_sld (by omega) (by omega) (by omega) dL_law_1088 ?_
    refine zy_cvq [zi ((zSx w (i + 1)).toInt)] hM dL_law_1089 (by decide) rfl cw_RL_208 okX10_valueOf rfl (Nat.le_of_ble_eq_true rfl) ⟨Nat.le_of_ble_eq_true rfl, Nat.le_of_ble_eq_true rfl, by first | (show c0 + _ ≤ 601024; omega), by first | (show s0 + 6 * _ ≤ 7293034; omega)⟩ (fun r υ hq2 => ?_) (fun E υ hq2 => ?_)
    · obtain ⟨b, e, hz2, hth, hob, hB, hI⟩ := hK _ _ hq2
      obtain rfl := Sum.inl.inj e
      rw [show ∀ (x : zV) (s : List zV), (some x).toList ++ s = x :: s from fun _ _ => rfl]
      refine zy_nrm ?_
      have hzb := zt_r b
      refine zy_istore [zf 101 0, zf 9 0, zf 10 261, zf 35 272, zi ((i : Nat) : Int), zi c, zi (zt b), zu, zu] dL_law_1092 (Nat.le_of_ble_eq_true rfl) (Nat.le_of_ble_eq_true rfl) rfl rfl ?_
      refine zx_aloadN dL_law_1094 rfl rfl ?_
      refine zy_cv [] (sX10_thrown  hfl hz2 ) dL_law_1095 (by decide) rfl cw_RL_141 okX10_thrown rfl (Nat.le_of_ble_eq_true rfl) ⟨Nat.le_of_ble_eq_true rfl, Nat.le_of_ble_eq_true rfl, by first | (show c0 + _ ≤ 601024; omega), by first | (show s0 + 6 * _ ≤ 7293034; omega)⟩ ?_
      refine zx_iload dL_law_1098 rfl ?_
      refine zx_icmp_eq (tgt := 1105) (by first | exact hz2 _ _ | assumption | exact zr_b _ | exact zcmp_r _ _ | (unfold zr at *; omega)) (by first | exact hz2 _ _ | assumption | exact zr_b _ | exact zcmp_r _ _ | (unfold zr at *; omega)) dL_law_1100 (by decide) (fun h1100 => ?_) (fun h1100 => ?_)
      · refine zx_iload dL_law_1105 rfl ?_
        refine zx_if_ne (tgt := 1122) (by first | exact hz2 _ _ | assumption | exact zr_b _ | exact zcmp_r _ _ | (unfold zr at *; omega)) dL_law_1107 (by decide) (fun h1107 => ?_) (fun h1107 => ?_)
        · refine zx_goto (tgt := 3069) dL_law_1122 (by decide) ?_
          refine zy_drop 5 [zf 101 0, zf 9 0, zf 10 261, zf 35 272, zi ((i : Nat) : Int), zu, zi (zt b), zu, zu] rfl ?_
          refine zy_drop 6 [zf 101 0, zf 9 0, zf 10 261, zf 35 272, zi ((i : Nat) : Int), zu, zu, zu, zu] rfl ?_
          exact cont υ _ hz2 hI (by omega)
        · refine zx_aloadN dL_law_1110 rfl rfl ?_
          refine zx_iconst dL_law_1111 ?_
          refine zx_lald dL_law_1112 ?_
          rw [hob (by assumption)]
          refine zx_iload dL_law_1113 rfl ?_
          refine zx_i2l (by first | exact hz2 _ _ | assumption | exact zr_b _ | exact zcmp_r _ _ | (unfold zr at *; omega)) dL_law_1115 ?_
          refine zx_lcmp (by first | exact hz2 _ _ | assumption | exact zr_b _ | exact zcmp_r _ _ | (unfold zr at *; omega)) (by first | exact hz2 _ _ | assumption | exact zr_b _ | exact zcmp_r _ _ | (unfold zr at *; omega)) dL_law_1116 ?_
          refine zx_if_eq (tgt := 1122) (by first | exact hz2 _ _ | assumption | exact zr_b _ | exact zcmp_r _ _ | (unfold zr at *; omega)) dL_law_1117 (by decide) (fun h1117 => ?_) (fun h1117 => ?_)
          · have h1117 := zcmp_eq.mp h1117
            refine zx_goto (tgt := 3069) dL_law_1122 (by decide) ?_
            refine zy_drop 5 [zf 101 0, zf 9 0, zf 10 261, zf 35 272, zi ((i : Nat) : Int), zu, zi (zt b), zu, zu] rfl ?_
            refine zy_drop 6 [zf 101 0, zf 9 0, zf 10 261, zf 35 272, zi ((i : Nat) : Int), zu, zu, zu, zu] rfl ?_
            exact cont υ _ hz2 hI (by omega)
          · have h1117 := fun q => h1117 (zcmp_eq.mpr q)
            first | exact absurd hth (by assumption) | exact absurd rfl (by assumption) | exact absurd (by assumption) (by assumption) | (exfalso; exact h1117 (by omega)) | (exfalso; omega)
      · first | exact absurd hth (by assumption) | exact absurd rfl (by assumption) | exact absurd (by assumption) (by assumption) | (exfalso; exact h1100 (by omega)) | (exfalso; omega)
    · obtain ⟨b, e, -⟩ := hK _ _ hq2
      cases e
  · obtain ⟨c, e, -⟩ := hS _ _ hq
    cases e
set_option maxRecDepth 20000 in
set_option maxHeartbeats 2000000 in
theorem lc_19 {l : Launch} {w : zW} (hfl : l.stackTraces = false) {hh : List (Nat × Nat × Nat × Nat)} {c0 s0 : Nat} {Z : List Frame → Array Value → State → State → Prop} (hc0 : c0 ≤ 1000) (hs0 : s0 ≤ 100000) (hLn : zSL w ≤ 3072) {i k : Nat} (hi : i + 6 ≤ zSL w) (hk : k ≤ i) {σ : zS} (hz : zOK σ) (hS : SimW l w False mL_pageOf mX10_pageOf 3 [zi (zSx w (i + 1)).toInt] σ) (cont : ∀ (τ : zS) (k' : Nat), zOK τ → Inv τ → k' ≤ k + 1 → zX l w (mL_law hh) (room_1, Z, c0, s0) 3069 [zf 101 0, zf 9 0, zf 10 261, zf 35 272, zi ((i : Nat) : Int), zu, zu, zu, zu] [] k' τ) : zX l w (mL_law hh) (room_1, Z, c0, s0) 1125 [zf 101 0, zf 9 0, zf 10 261, zf 35 272, zi ((i : Nat) : Int), zu, zu, zu, zu] [] k σ := by
  obtain ⟨QC, hC, hS⟩ := hS
  refine zx_aloadN dL_law_1125 rfl rfl ?_
  refine zx_aloadN dL_law_1126 rfl rfl ?_
  refine zx_iload dL_law_1127 rfl ?_
  refine zx_iconst dL_law_1129 ?_
  refine zx_iadd dL_law_1130 ?_
  refine zy_top (b := ((i + 1 : Nat) : Int)) (by omega) ?_
  refine zx_sld (by omega) (by omega) (by omega) dL_law_1131 ?_
  refine zx_aloadN dL_law_1132 rfl rfl ?_
  have hC1 : SpH l w mL_pageOf 10 1 [zf 9 0, zi ((zSx w (i + 1)).toInt), zf 35 272] σ QC := hC
  refine zy_csHq [zf 9 0, zi ((zSx w (i + 1)).toInt), zf 35 272] hC1 dL_law_1133 cw_RL_209 okL_pageOf rfl (Nat.le_of_ble_eq_true rfl) ⟨Nat.le_of_ble_eq_true rfl, Nat.le_of_ble_eq_true rfl, by first | (show c0 + _ ≤ 601024; omega), by first | (show s0 + 6 * _ ≤ 7293034; omega)⟩ (fun r τ hq => ?_) (fun E τ hq => ?_)
  · obtain ⟨c, e, hzc, hz1, QM, hM, hK⟩ := hS _ _ hq
    obtain rfl := Sum.inl.inj e
    rw [show ∀ (x : zV) (s : List zV), (some x).toList ++ s = x :: s from fun _ _ => rfl]
    refine zy_istore [zf 101 0, zf 9 0, zf 10 261, zf 35 272, zi ((i : Nat) : Int), zi c, zu, zu, zu] dL_law_1136 (Nat.le_of_ble_eq_true rfl) (Nat.le_of_ble_eq_true rfl) rfl rfl ?_
    refine zx_aloadN dL_law_1138 rfl rfl ?_
    refine zx_aloadN dL_law_1139 rfl rfl ?_
    refine zx_iload dL_law_1140 rfl ?_
    refine zx_iconst dL_law_1142 ?_
    refine zx_iadd dL_law_1143 ?_
    refine zy_top (b := ((i + 1 : Nat) : Int)) (by omega) ?_
    refine zx_sld (by omega) (by omega) (by omega) dL_law_1144 ?_
    refine zy_cvq [zi ((zSx w (i + 1)).toInt)] hM dL_law_1145 (by decide) rfl cw_RL_211 okX10_pageOf rfl (Nat.le_of_ble_eq_true rfl) ⟨Nat.le_of_ble_eq_true rfl, Nat.le_of_ble_eq_true rfl, by first | (show c0 + _ ≤ 601024; omega), by first | (show s0 + 6 * _ ≤ 7293034; omega)⟩ (fun r υ hq2 => ?_) (fun E υ hq2 => ?_)
    · obtain ⟨b, e, hz2, hth, hob, hB, hI⟩ := hK _ _ hq2
      obtain rfl := Sum.inl.inj e
      rw [show ∀ (x : zV) (s : List zV), (some x).toList ++ s = x :: s from fun _ _ => rfl]
      refine zy_nrm ?_
      have hzb := zt_r b
      refine zy_istore [zf 101 0, zf 9 0, zf 10 261, zf 35 272, zi ((i : Nat) : Int), zi c, zi (zt b), zu, zu] dL_law_1148 (Nat.le_of_ble_eq_true rfl) (Nat.le_of_ble_eq_true rfl) rfl rfl ?_
      refine zx_aloadN dL_law_1150 rfl rfl ?_
      refine zy_cv [] (sX10_thrown  hfl hz2 ) dL_law_1151 (by decide) rfl cw_RL_141 okX10_thrown rfl (Nat.le_of_ble_eq_true rfl) ⟨Nat.le_of_ble_eq_true rfl, Nat.le_of_ble_eq_true rfl, by first | (show c0 + _ ≤ 601024; omega), by first | (show s0 + 6 * _ ≤ 7293034; omega)⟩ ?_
      refine zx_iload dL_law_1154 rfl ?_
      refine zx_icmp_eq (tgt := 1161) (by first | exact hz2 _ _ | assumption | exact zr_b _ | exact zcmp_r _ _ | (unfold zr at *; omega)) (by first | exact hz2 _ _ | assumption | exact zr_b _ | exact zcmp_r _ _ | (unfold zr at *; omega)) dL_law_1156 (by decide) (fun h1156 => ?_) (fun h1156 => ?_)
      · refine zx_iload dL_law_1161 rfl ?_
        refine zx_if_ne (tgt := 1178) (by first | exact hz2 _ _ | assumption | exact zr_b _ | exact zcmp_r _ _ | (unfold zr at *; omega)) dL_law_1163 (by decide) (fun h1163 => ?_) (fun h1163 => ?_)
        · refine zx_goto (tgt := 3069) dL_law_1178 (by decide) ?_
          refine zy_drop 5 [zf 101 0, zf 9 0, zf 10 261, zf 35 272, zi ((i : Nat) : Int), zu, zi (zt b), zu, zu] rfl ?_
          refine zy_drop 6 [zf 101 0, zf 9 0, zf 10 261, zf 35 272, zi ((i : Nat) : Int), zu, zu, zu, zu] rfl ?_
          exact cont υ _ hz2 hI (by omega)
        · refine zx_aloadN dL_law_1166 rfl rfl ?_
          refine zx_iconst dL_law_1167 ?_
          refine zx_lald dL_law_1168 ?_
          rw [hob (by assumption)]
          refine zx_iload dL_law_1169 rfl ?_
          refine zx_i2l (by first | exact hz2 _ _ | assumption | exact zr_b _ | exact zcmp_r _ _ | (unfold zr at *; omega)) dL_law_1171 ?_
          refine zx_lcmp (by first | exact hz2 _ _ | assumption | exact zr_b _ | exact zcmp_r _ _ | (unfold zr at *; omega)) (by first | exact hz2 _ _ | assumption | exact zr_b _ | exact zcmp_r _ _ | (unfold zr at *; omega)) dL_law_1172 ?_
          refine zx_if_eq (tgt := 1178) (by first | exact hz2 _ _ | assumption | exact zr_b _ | exact zcmp_r _ _ | (unfold zr at *; omega)) dL_law_1173 (by decide) (fun h1173 => ?_) (fun h1173 => ?_)
          · have h1173 := zcmp_eq.mp h1173
            refine zx_goto (tgt := 3069) dL_law_1178 (by decide) ?_
            refine zy_drop 5 [zf 101 0, zf 9 0, zf 10 261, zf 35 272, zi ((i : Nat) : Int), zu, zi (zt b), zu, zu] rfl ?_
            refine zy_drop 6 [zf 101 0, zf 9 0, zf 10 261, zf 35 272, zi ((i : Nat) : Int), zu, zu, zu, zu] rfl ?_
            exact cont υ _ hz2 hI (by omega)
          · have h1173 := fun q => h1173 (zcmp_eq.mpr q)
            first | exact absurd hth (by assumption) | exact absurd rfl (by assumption) | exact absurd (by assumption) (by assumption) | (exfalso; exact h1173 (by omega)) | (exfalso; omega)
      · first | exact absurd hth (by assumption) | exact absurd rfl (by assumption) | exact absurd (by assumption) (by assumption) | (exfalso; exact h1156 (by omega)) | (exfalso; omega)
    · obtain ⟨b, e, -⟩ := hK _ _ hq2
      cases e
  · obtain ⟨c, e, -⟩ := hS _ _ hq
    cases e
set_option maxRecDepth 20000 in
set_option maxHeartbeats 2000000 in
theorem lc_20 {l : Launch} {w : zW} (hfl : l.stackTraces = false) {hh : List (Nat × Nat × Nat × Nat)} {c0 s0 : Nat} {Z : List Frame → Array Value → State → State → Prop} (hc0 : c0 ≤ 1000) (hs0 : s0 ≤ 100000) (hLn : zSL w ≤ 3072) {i k : Nat} (hi : i + 6 ≤ zSL w) (hk : k ≤ i) {σ : zS} (hz : zOK σ) (hS : SimW l w False mL_weightOf mX10_weightOf 3 [zi (zSx w (i + 1)).toInt] σ) (cont : ∀ (τ : zS) (k' : Nat), zOK τ → Inv τ → k' ≤ k + 1 → zX l w (mL_law hh) (room_1, Z, c0, s0) 3069 [zf 101 0, zf 9 0, zf 10 261, zf 35 272, zi ((i : Nat) : Int), zu, zu, zu, zu] [] k' τ) : zX l w (mL_law hh) (room_1, Z, c0, s0) 1181 [zf 101 0, zf 9 0, zf 10 261, zf 35 272, zi ((i : Nat) : Int), zu, zu, zu, zu] [] k σ := by
  obtain ⟨QC, hC, hS⟩ := hS
  refine zx_aloadN dL_law_1181 rfl rfl ?_
  refine zx_aloadN dL_law_1182 rfl rfl ?_
  refine zx_iload dL_law_1183 rfl ?_
  refine zx_iconst dL_law_1185 ?_
  refine zx_iadd dL_law_1186 ?_
  refine zy_top (b := ((i + 1 : Nat) : Int)) (by omega) ?_
  refine zx_sld (by omega) (by omega) (by omega) dL_law_1187 ?_
  refine zx_aloadN dL_law_1188 rfl rfl ?_
  have hC1 : SpH l w mL_weightOf 10 1 [zf 9 0, zi ((zSx w (i + 1)).toInt), zf 35 272] σ QC := hC
  refine zy_csHq [zf 9 0, zi ((zSx w (i + 1)).toInt), zf 35 272] hC1 dL_law_1189 cw_RL_212 okL_weightOf rfl (Nat.le_of_ble_eq_true rfl) ⟨Nat.le_of_ble_eq_true rfl, Nat.le_of_ble_eq_true rfl, by first | (show c0 + _ ≤ 601024; omega), by first | (show s0 + 6 * _ ≤ 7293034; omega)⟩ (fun r τ hq => ?_) (fun E τ hq => ?_)
  · obtain ⟨c, e, hzc, hz1, QM, hM, hK⟩ := hS _ _ hq
    obtain rfl := Sum.inl.inj e
    rw [show ∀ (x : zV) (s : List zV), (some x).toList ++ s = x :: s from fun _ _ => rfl]
    refine zy_istore [zf 101 0, zf 9 0, zf 10 261, zf 35 272, zi ((i : Nat) : Int), zi c, zu, zu, zu] dL_law_1192 (Nat.le_of_ble_eq_true rfl) (Nat.le_of_ble_eq_true rfl) rfl rfl ?_
    refine zx_aloadN dL_law_1194 rfl rfl ?_
    refine zx_aloadN dL_law_1195 rfl rfl ?_
    refine zx_iload dL_law_1196 rfl ?_
    refine zx_iconst dL_law_1198 ?_
    refine zx_iadd dL_law_1199 ?_
    refine zy_top (b := ((i + 1 : Nat) : Int)) (by omega) ?_
    refine zx_sld (by omega) (by omega) (by omega) dL_law_1200 ?_
    refine zy_cvq [zi ((zSx w (i + 1)).toInt)] hM dL_law_1201 (by decide) rfl cw_RL_214 okX10_weightOf rfl (Nat.le_of_ble_eq_true rfl) ⟨Nat.le_of_ble_eq_true rfl, Nat.le_of_ble_eq_true rfl, by first | (show c0 + _ ≤ 601024; omega), by first | (show s0 + 6 * _ ≤ 7293034; omega)⟩ (fun r υ hq2 => ?_) (fun E υ hq2 => ?_)
    · obtain ⟨b, e, hz2, hth, hob, hB, hI⟩ := hK _ _ hq2
      obtain rfl := Sum.inl.inj e
      rw [show ∀ (x : zV) (s : List zV), (some x).toList ++ s = x :: s from fun _ _ => rfl]
      refine zy_nrm ?_
      have hzb := zt_r b
      refine zy_istore [zf 101 0, zf 9 0, zf 10 261, zf 35 272, zi ((i : Nat) : Int), zi c, zi (zt b), zu, zu] dL_law_1204 (Nat.le_of_ble_eq_true rfl) (Nat.le_of_ble_eq_true rfl) rfl rfl ?_
      refine zx_aloadN dL_law_1206 rfl rfl ?_
      refine zy_cv [] (sX10_thrown  hfl hz2 ) dL_law_1207 (by decide) rfl cw_RL_141 okX10_thrown rfl (Nat.le_of_ble_eq_true rfl) ⟨Nat.le_of_ble_eq_true rfl, Nat.le_of_ble_eq_true rfl, by first | (show c0 + _ ≤ 601024; omega), by first | (show s0 + 6 * _ ≤ 7293034; omega)⟩ ?_
      refine zx_iload dL_law_1210 rfl ?_
      refine zx_icmp_eq (tgt := 1217) (by first | exact hz2 _ _ | assumption | exact zr_b _ | exact zcmp_r _ _ | (unfold zr at *; omega)) (by first | exact hz2 _ _ | assumption | exact zr_b _ | exact zcmp_r _ _ | (unfold zr at *; omega)) dL_law_1212 (by decide) (fun h1212 => ?_) (fun h1212 => ?_)
      · refine zx_iload dL_law_1217 rfl ?_
        refine zx_if_ne (tgt := 1234) (by first | exact hz2 _ _ | assumption | exact zr_b _ | exact zcmp_r _ _ | (unfold zr at *; omega)) dL_law_1219 (by decide) (fun h1219 => ?_) (fun h1219 => ?_)
        · refine zx_goto (tgt := 3069) dL_law_1234 (by decide) ?_
          refine zy_drop 5 [zf 101 0, zf 9 0, zf 10 261, zf 35 272, zi ((i : Nat) : Int), zu, zi (zt b), zu, zu] rfl ?_
          refine zy_drop 6 [zf 101 0, zf 9 0, zf 10 261, zf 35 272, zi ((i : Nat) : Int), zu, zu, zu, zu] rfl ?_
          exact cont υ _ hz2 hI (by omega)
        · refine zx_aloadN dL_law_1222 rfl rfl ?_
          refine zx_iconst dL_law_1223 ?_
          refine zx_lald dL_law_1224 ?_
          rw [hob (by assumption)]
          refine zx_iload dL_law_1225 rfl ?_
          refine zx_i2l (by first | exact hz2 _ _ | assumption | exact zr_b _ | exact zcmp_r _ _ | (unfold zr at *; omega)) dL_law_1227 ?_
          refine zx_lcmp (by first | exact hz2 _ _ | assumption | exact zr_b _ | exact zcmp_r _ _ | (unfold zr at *; omega)) (by first | exact hz2 _ _ | assumption | exact zr_b _ | exact zcmp_r _ _ | (unfold zr at *; omega)) dL_law_1228 ?_
          refine zx_if_eq (tgt := 1234) (by first | exact hz2 _ _ | assumption | exact zr_b _ | exact zcmp_r _ _ | (unfold zr at *; omega)) dL_law_1229 (by decide) (fun h1229 => ?_) (fun h1229 => ?_)
          · have h1229 := zcmp_eq.mp h1229
            refine zx_goto (tgt := 3069) dL_law_1234 (by decide) ?_
            refine zy_drop 5 [zf 101 0, zf 9 0, zf 10 261, zf 35 272, zi ((i : Nat) : Int), zu, zi (zt b), zu, zu] rfl ?_
            refine zy_drop 6 [zf 101 0, zf 9 0, zf 10 261, zf 35 272, zi ((i : Nat) : Int), zu, zu, zu, zu] rfl ?_
            exact cont υ _ hz2 hI (by omega)
          · have h1229 := fun q => h1229 (zcmp_eq.mpr q)
            first | exact absurd hth (by assumption) | exact absurd rfl (by assumption) | exact absurd (by assumption) (by assumption) | (exfalso; exact h1229 (by omega)) | (exfalso; omega)
      · first | exact absurd hth (by assumption) | exact absurd rfl (by assumption) | exact absurd (by assumption) (by assumption) | (exfalso; exact h1212 (by omega)) | (exfalso; omega)
    · obtain ⟨b, e, -⟩ := hK _ _ hq2
      cases e
  · obtain ⟨c, e, -⟩ := hS _ _ hq
    cases e
set_option maxRecDepth 20000 in
set_option maxHeartbeats 2000000 in
theorem lc_21 {l : Launch} {w : zW} (hfl : l.stackTraces = false) {hh : List (Nat × Nat × Nat × Nat)} {c0 s0 : Nat} {Z : List Frame → Array Value → State → State → Prop} (hc0 : c0 ≤ 1000) (hs0 : s0 ≤ 100000) (hLn : zSL w ≤ 3072) {i k : Nat} (hi : i + 6 ≤ zSL w) (hk : k ≤ i) {σ : zS} (hz : zOK σ) (hS : SimW l w True mL_isRead mX10_isRead 3 [zi (zSx w (i + 1)).toInt] σ) (cont : ∀ (τ : zS) (k' : Nat), zOK τ → Inv τ → k' ≤ k + 1 → zX l w (mL_law hh) (room_1, Z, c0, s0) 3069 [zf 101 0, zf 9 0, zf 10 261, zf 35 272, zi ((i : Nat) : Int), zu, zu, zu, zu] [] k' τ) : zX l w (mL_law hh) (room_1, Z, c0, s0) 1237 [zf 101 0, zf 9 0, zf 10 261, zf 35 272, zi ((i : Nat) : Int), zu, zu, zu, zu] [] k σ := by
  obtain ⟨QC, hC, hS⟩ := hS
  refine zx_aloadN dL_law_1237 rfl rfl ?_
  refine zx_aloadN dL_law_1238 rfl rfl ?_
  refine zx_iload dL_law_1239 rfl ?_
  refine zx_iconst dL_law_1241 ?_
  refine zx_iadd dL_law_1242 ?_
  refine zy_top (b := ((i + 1 : Nat) : Int)) (by omega) ?_
  refine zx_sld (by omega) (by omega) (by omega) dL_law_1243 ?_
  refine zx_aloadN dL_law_1244 rfl rfl ?_
  have hC1 : SpH l w mL_isRead 10 1 [zf 9 0, zi ((zSx w (i + 1)).toInt), zf 35 272] σ QC := hC
  refine zy_csHq [zf 9 0, zi ((zSx w (i + 1)).toInt), zf 35 272] hC1 dL_law_1245 cw_RL_215 okL_isRead rfl (Nat.le_of_ble_eq_true rfl) ⟨Nat.le_of_ble_eq_true rfl, Nat.le_of_ble_eq_true rfl, by first | (show c0 + _ ≤ 601024; omega), by first | (show s0 + 6 * _ ≤ 7293034; omega)⟩ (fun r τ hq => ?_) (fun E τ hq => ?_)
  · obtain ⟨c, e, hzc, hz1, QM, hM, hK⟩ := hS _ _ hq
    obtain rfl := Sum.inl.inj e
    rw [show ∀ (x : zV) (s : List zV), (some x).toList ++ s = x :: s from fun _ _ => rfl]
    refine zy_istore [zf 101 0, zf 9 0, zf 10 261, zf 35 272, zi ((i : Nat) : Int), zi c, zu, zu, zu] dL_law_1248 (Nat.le_of_ble_eq_true rfl) (Nat.le_of_ble_eq_true rfl) rfl rfl ?_
    refine zx_aloadN dL_law_1250 rfl rfl ?_
    refine zx_aloadN dL_law_1251 rfl rfl ?_
    refine zx_iload dL_law_1252 rfl ?_
    refine zx_iconst dL_law_1254 ?_
    refine zx_iadd dL_law_1255 ?_
    refine zy_top (b := ((i + 1 : Nat) : Int)) (by omega) ?_
    refine zx_sld (by omega) (by omega) (by omega) dL_law_1256 ?_
    refine zy_cvq [zi ((zSx w (i + 1)).toInt)] hM dL_law_1257 (by decide) rfl cw_RL_217 okX10_isRead rfl (Nat.le_of_ble_eq_true rfl) ⟨Nat.le_of_ble_eq_true rfl, Nat.le_of_ble_eq_true rfl, by first | (show c0 + _ ≤ 601024; omega), by first | (show s0 + 6 * _ ≤ 7293034; omega)⟩ (fun r υ hq2 => ?_) (fun E υ hq2 => ?_)
    · obtain ⟨b, e, hz2, hth, hob, hB, hI⟩ := hK _ _ hq2
      obtain rfl := Sum.inl.inj e
      rw [show ∀ (x : zV) (s : List zV), (some x).toList ++ s = x :: s from fun _ _ => rfl]
      refine zy_nrm ?_
      have hzb := zt_r b
      have hb01 : zt b = 0 ∨ zt b = 1 := by rcases hB trivial with q | q <;> rw [q] <;> decide
      refine zy_istore [zf 101 0, zf 9 0, zf 10 261, zf 35 272, zi ((i : Nat) : Int), zi c, zi (zt b), zu, zu] dL_law_1260 (Nat.le_of_ble_eq_true rfl) (Nat.le_of_ble_eq_true rfl) rfl rfl ?_
      refine zx_aloadN dL_law_1262 rfl rfl ?_
      refine zy_cv [] (sX10_thrown  hfl hz2 ) dL_law_1263 (by decide) rfl cw_RL_141 okX10_thrown rfl (Nat.le_of_ble_eq_true rfl) ⟨Nat.le_of_ble_eq_true rfl, Nat.le_of_ble_eq_true rfl, by first | (show c0 + _ ≤ 601024; omega), by first | (show s0 + 6 * _ ≤ 7293034; omega)⟩ ?_
      refine zx_iload dL_law_1266 rfl ?_
      refine zx_icmp_eq (tgt := 1273) (by first | exact hz2 _ _ | assumption | exact zr_b _ | exact zcmp_r _ _ | (unfold zr at *; omega)) (by first | exact hz2 _ _ | assumption | exact zr_b _ | exact zcmp_r _ _ | (unfold zr at *; omega)) dL_law_1268 (by decide) (fun h1268 => ?_) (fun h1268 => ?_)
      · refine zx_iload dL_law_1273 rfl ?_
        refine zx_if_ne (tgt := 1297) (by first | exact hz2 _ _ | assumption | exact zr_b _ | exact zcmp_r _ _ | (unfold zr at *; omega)) dL_law_1275 (by decide) (fun h1275 => ?_) (fun h1275 => ?_)
        · refine zx_goto (tgt := 3069) dL_law_1297 (by decide) ?_
          refine zy_drop 5 [zf 101 0, zf 9 0, zf 10 261, zf 35 272, zi ((i : Nat) : Int), zu, zi (zt b), zu, zu] rfl ?_
          refine zy_drop 6 [zf 101 0, zf 9 0, zf 10 261, zf 35 272, zi ((i : Nat) : Int), zu, zu, zu, zu] rfl ?_
          exact cont υ _ hz2 hI (by omega)
        · refine zx_aloadN dL_law_1278 rfl rfl ?_
          refine zx_iconst dL_law_1279 ?_
          refine zx_lald dL_law_1280 ?_
          rw [hob (by assumption)]
          refine zx_iload dL_law_1281 rfl ?_
          refine zx_if_eq (tgt := 1290) (by first | exact hz2 _ _ | assumption | exact zr_b _ | exact zcmp_r _ _ | (unfold zr at *; omega)) dL_law_1283 (by decide) (fun h1283 => ?_) (fun h1283 => ?_)
          · refine zx_lconst (a := 0) dL_law_1290 rfl ?_
            refine zx_lcmp (by first | exact hz2 _ _ | assumption | exact zr_b _ | exact zcmp_r _ _ | (unfold zr at *; omega)) (by first | exact hz2 _ _ | assumption | exact zr_b _ | exact zcmp_r _ _ | (unfold zr at *; omega)) dL_law_1291 ?_
            refine zx_if_eq (tgt := 1297) (by first | exact hz2 _ _ | assumption | exact zr_b _ | exact zcmp_r _ _ | (unfold zr at *; omega)) dL_law_1292 (by decide) (fun h1292 => ?_) (fun h1292 => ?_)
            · have h1292 := zcmp_eq.mp h1292
              refine zx_goto (tgt := 3069) dL_law_1297 (by decide) ?_
              refine zy_drop 5 [zf 101 0, zf 9 0, zf 10 261, zf 35 272, zi ((i : Nat) : Int), zu, zi (zt b), zu, zu] rfl ?_
              refine zy_drop 6 [zf 101 0, zf 9 0, zf 10 261, zf 35 272, zi ((i : Nat) : Int), zu, zu, zu, zu] rfl ?_
              exact cont υ _ hz2 hI (by omega)
            · have h1292 := fun q => h1292 (zcmp_eq.mpr q)
              first | exact absurd hth (by assumption) | exact absurd rfl (by assumption) | exact absurd (by assumption) (by assumption) | (exfalso; exact h1292 (by omega)) | (exfalso; omega)
          · refine zx_lconst (a := 1) dL_law_1286 rfl ?_
            refine zx_goto (tgt := 1291) dL_law_1287 (by decide) ?_
            refine zx_lcmp (by first | exact hz2 _ _ | assumption | exact zr_b _ | exact zcmp_r _ _ | (unfold zr at *; omega)) (by first | exact hz2 _ _ | assumption | exact zr_b _ | exact zcmp_r _ _ | (unfold zr at *; omega)) dL_law_1291 ?_
            refine zx_if_eq (tgt := 1297) (by first | exact hz2 _ _ | assumption | exact zr_b _ | exact zcmp_r _ _ | (unfold zr at *; omega)) dL_law_1292 (by decide) (fun h1292 => ?_) (fun h1292 => ?_)
            · have h1292 := zcmp_eq.mp h1292
              refine zx_goto (tgt := 3069) dL_law_1297 (by decide) ?_
              refine zy_drop 5 [zf 101 0, zf 9 0, zf 10 261, zf 35 272, zi ((i : Nat) : Int), zu, zi (zt b), zu, zu] rfl ?_
              refine zy_drop 6 [zf 101 0, zf 9 0, zf 10 261, zf 35 272, zi ((i : Nat) : Int), zu, zu, zu, zu] rfl ?_
              exact cont υ _ hz2 hI (by omega)
            · have h1292 := fun q => h1292 (zcmp_eq.mpr q)
              first | exact absurd hth (by assumption) | exact absurd rfl (by assumption) | exact absurd (by assumption) (by assumption) | (exfalso; exact h1292 (by omega)) | (exfalso; omega)
      · first | exact absurd hth (by assumption) | exact absurd rfl (by assumption) | exact absurd (by assumption) (by assumption) | (exfalso; exact h1268 (by omega)) | (exfalso; omega)
    · obtain ⟨b, e, -⟩ := hK _ _ hq2
      cases e
  · obtain ⟨c, e, -⟩ := hS _ _ hq
    cases e
set_option maxRecDepth 20000 in
set_option maxHeartbeats 2000000 in
theorem lc_22 {l : Launch} {w : zW} (hfl : l.stackTraces = false) {hh : List (Nat × Nat × Nat × Nat)} {c0 s0 : Nat} {Z : List Frame → Array Value → State → State → Prop} (hc0 : c0 ≤ 1000) (hs0 : s0 ≤ 100000) (hLn : zSL w ≤ 3072) {i k : Nat} (hi : i + 6 ≤ zSL w) (hk : k ≤ i) {σ : zS} (hz : zOK σ) (hS : SimW l w True mL_isAside mX10_isAside 3 [zi (zSx w (i + 1)).toInt] σ) (cont : ∀ (τ : zS) (k' : Nat), zOK τ → Inv τ → k' ≤ k + 1 → zX l w (mL_law hh) (room_1, Z, c0, s0) 3069 [zf 101 0, zf 9 0, zf 10 261, zf 35 272, zi ((i : Nat) : Int), zu, zu, zu, zu] [] k' τ) : zX l w (mL_law hh) (room_1, Z, c0, s0) 1300 [zf 101 0, zf 9 0, zf 10 261, zf 35 272, zi ((i : Nat) : Int), zu, zu, zu, zu] [] k σ := by
  obtain ⟨QC, hC, hS⟩ := hS
  refine zx_aloadN dL_law_1300 rfl rfl ?_
  refine zx_aloadN dL_law_1301 rfl rfl ?_
  refine zx_iload dL_law_1302 rfl ?_
  refine zx_iconst dL_law_1304 ?_
  refine zx_iadd dL_law_1305 ?_
  refine zy_top (b := ((i + 1 : Nat) : Int)) (by omega) ?_
  refine zx_sld (by omega) (by omega) (by omega) dL_law_1306 ?_
  refine zx_aloadN dL_law_1307 rfl rfl ?_
  have hC1 : SpH l w mL_isAside 10 1 [zf 9 0, zi ((zSx w (i + 1)).toInt), zf 35 272] σ QC := hC
  refine zy_csHq [zf 9 0, zi ((zSx w (i + 1)).toInt), zf 35 272] hC1 dL_law_1308 cw_RL_218 okL_isAside rfl (Nat.le_of_ble_eq_true rfl) ⟨Nat.le_of_ble_eq_true rfl, Nat.le_of_ble_eq_true rfl, by first | (show c0 + _ ≤ 601024; omega), by first | (show s0 + 6 * _ ≤ 7293034; omega)⟩ (fun r τ hq => ?_) (fun E τ hq => ?_)
  · obtain ⟨c, e, hzc, hz1, QM, hM, hK⟩ := hS _ _ hq
    obtain rfl := Sum.inl.inj e
    rw [show ∀ (x : zV) (s : List zV), (some x).toList ++ s = x :: s from fun _ _ => rfl]
    refine zy_istore [zf 101 0, zf 9 0, zf 10 261, zf 35 272, zi ((i : Nat) : Int), zi c, zu, zu, zu] dL_law_1311 (Nat.le_of_ble_eq_true rfl) (Nat.le_of_ble_eq_true rfl) rfl rfl ?_
    refine zx_aloadN dL_law_1313 rfl rfl ?_
    refine zx_aloadN dL_law_1314 rfl rfl ?_
    refine zx_iload dL_law_1315 rfl ?_
    refine zx_iconst dL_law_1317 ?_
    refine zx_iadd dL_law_1318 ?_
    refine zy_top (b := ((i + 1 : Nat) : Int)) (by omega) ?_
    refine zx_sld (by omega) (by omega) (by omega) dL_law_1319 ?_
    refine zy_cvq [zi ((zSx w (i + 1)).toInt)] hM dL_law_1320 (by decide) rfl cw_RL_220 okX10_isAside rfl (Nat.le_of_ble_eq_true rfl) ⟨Nat.le_of_ble_eq_true rfl, Nat.le_of_ble_eq_true rfl, by first | (show c0 + _ ≤ 601024; omega), by first | (show s0 + 6 * _ ≤ 7293034; omega)⟩ (fun r υ hq2 => ?_) (fun E υ hq2 => ?_)
    · obtain ⟨b, e, hz2, hth, hob, hB, hI⟩ := hK _ _ hq2
      obtain rfl := Sum.inl.inj e
      rw [show ∀ (x : zV) (s : List zV), (some x).toList ++ s = x :: s from fun _ _ => rfl]
      refine zy_nrm ?_
      have hzb := zt_r b
      have hb01 : zt b = 0 ∨ zt b = 1 := by rcases hB trivial with q | q <;> rw [q] <;> decide
      refine zy_istore [zf 101 0, zf 9 0, zf 10 261, zf 35 272, zi ((i : Nat) : Int), zi c, zi (zt b), zu, zu] dL_law_1323 (Nat.le_of_ble_eq_true rfl) (Nat.le_of_ble_eq_true rfl) rfl rfl ?_
      refine zx_aloadN dL_law_1325 rfl rfl ?_
      refine zy_cv [] (sX10_thrown  hfl hz2 ) dL_law_1326 (by decide) rfl cw_RL_141 okX10_thrown rfl (Nat.le_of_ble_eq_true rfl) ⟨Nat.le_of_ble_eq_true rfl, Nat.le_of_ble_eq_true rfl, by first | (show c0 + _ ≤ 601024; omega), by first | (show s0 + 6 * _ ≤ 7293034; omega)⟩ ?_
      refine zx_iload dL_law_1329 rfl ?_
      refine zx_icmp_eq (tgt := 1336) (by first | exact hz2 _ _ | assumption | exact zr_b _ | exact zcmp_r _ _ | (unfold zr at *; omega)) (by first | exact hz2 _ _ | assumption | exact zr_b _ | exact zcmp_r _ _ | (unfold zr at *; omega)) dL_law_1331 (by decide) (fun h1331 => ?_) (fun h1331 => ?_)
      · refine zx_iload dL_law_1336 rfl ?_
        refine zx_if_ne (tgt := 1360) (by first | exact hz2 _ _ | assumption | exact zr_b _ | exact zcmp_r _ _ | (unfold zr at *; omega)) dL_law_1338 (by decide) (fun h1338 => ?_) (fun h1338 => ?_)
        · refine zx_goto (tgt := 3069) dL_law_1360 (by decide) ?_
          refine zy_drop 5 [zf 101 0, zf 9 0, zf 10 261, zf 35 272, zi ((i : Nat) : Int), zu, zi (zt b), zu, zu] rfl ?_
          refine zy_drop 6 [zf 101 0, zf 9 0, zf 10 261, zf 35 272, zi ((i : Nat) : Int), zu, zu, zu, zu] rfl ?_
          exact cont υ _ hz2 hI (by omega)
        · refine zx_aloadN dL_law_1341 rfl rfl ?_
          refine zx_iconst dL_law_1342 ?_
          refine zx_lald dL_law_1343 ?_
          rw [hob (by assumption)]
          refine zx_iload dL_law_1344 rfl ?_
          refine zx_if_eq (tgt := 1353) (by first | exact hz2 _ _ | assumption | exact zr_b _ | exact zcmp_r _ _ | (unfold zr at *; omega)) dL_law_1346 (by decide) (fun h1346 => ?_) (fun h1346 => ?_)
          · refine zx_lconst (a := 0) dL_law_1353 rfl ?_
            refine zx_lcmp (by first | exact hz2 _ _ | assumption | exact zr_b _ | exact zcmp_r _ _ | (unfold zr at *; omega)) (by first | exact hz2 _ _ | assumption | exact zr_b _ | exact zcmp_r _ _ | (unfold zr at *; omega)) dL_law_1354 ?_
            refine zx_if_eq (tgt := 1360) (by first | exact hz2 _ _ | assumption | exact zr_b _ | exact zcmp_r _ _ | (unfold zr at *; omega)) dL_law_1355 (by decide) (fun h1355 => ?_) (fun h1355 => ?_)
            · have h1355 := zcmp_eq.mp h1355
              refine zx_goto (tgt := 3069) dL_law_1360 (by decide) ?_
              refine zy_drop 5 [zf 101 0, zf 9 0, zf 10 261, zf 35 272, zi ((i : Nat) : Int), zu, zi (zt b), zu, zu] rfl ?_
              refine zy_drop 6 [zf 101 0, zf 9 0, zf 10 261, zf 35 272, zi ((i : Nat) : Int), zu, zu, zu, zu] rfl ?_
              exact cont υ _ hz2 hI (by omega)
            · have h1355 := fun q => h1355 (zcmp_eq.mpr q)
              first | exact absurd hth (by assumption) | exact absurd rfl (by assumption) | exact absurd (by assumption) (by assumption) | (exfalso; exact h1355 (by omega)) | (exfalso; omega)
          · refine zx_lconst (a := 1) dL_law_1349 rfl ?_
            refine zx_goto (tgt := 1354) dL_law_1350 (by decide) ?_
            refine zx_lcmp (by first | exact hz2 _ _ | assumption | exact zr_b _ | exact zcmp_r _ _ | (unfold zr at *; omega)) (by first | exact hz2 _ _ | assumption | exact zr_b _ | exact zcmp_r _ _ | (unfold zr at *; omega)) dL_law_1354 ?_
            refine zx_if_eq (tgt := 1360) (by first | exact hz2 _ _ | assumption | exact zr_b _ | exact zcmp_r _ _ | (unfold zr at *; omega)) dL_law_1355 (by decide) (fun h1355 => ?_) (fun h1355 => ?_)
            · have h1355 := zcmp_eq.mp h1355
              refine zx_goto (tgt := 3069) dL_law_1360 (by decide) ?_
              refine zy_drop 5 [zf 101 0, zf 9 0, zf 10 261, zf 35 272, zi ((i : Nat) : Int), zu, zi (zt b), zu, zu] rfl ?_
              refine zy_drop 6 [zf 101 0, zf 9 0, zf 10 261, zf 35 272, zi ((i : Nat) : Int), zu, zu, zu, zu] rfl ?_
              exact cont υ _ hz2 hI (by omega)
            · have h1355 := fun q => h1355 (zcmp_eq.mpr q)
              first | exact absurd hth (by assumption) | exact absurd rfl (by assumption) | exact absurd (by assumption) (by assumption) | (exfalso; exact h1355 (by omega)) | (exfalso; omega)
      · first | exact absurd hth (by assumption) | exact absurd rfl (by assumption) | exact absurd (by assumption) (by assumption) | (exfalso; exact h1331 (by omega)) | (exfalso; omega)
    · obtain ⟨b, e, -⟩ := hK _ _ hq2
      cases e
  · obtain ⟨c, e, -⟩ := hS _ _ hq
    cases e
set_option maxRecDepth 20000 in
set_option maxHeartbeats 2000000 in
theorem lc_23 {l : Launch} {w : zW} (hfl : l.stackTraces = false) {hh : List (Nat × Nat × Nat × Nat)} {c0 s0 : Nat} {Z : List Frame → Array Value → State → State → Prop} (hc0 : c0 ≤ 1000) (hs0 : s0 ≤ 100000) (hLn : zSL w ≤ 3072) {i k : Nat} (hi : i + 6 ≤ zSL w) (hk : k ≤ i) {σ : zS} (hz : zOK σ) (hS : SimD l w mX9_clueInOrder mX10_clueInOrder 1 3 [zi (zSx w (i + 1)).toInt] σ) (cont : ∀ (τ : zS) (k' : Nat), zOK τ → Inv τ → k' ≤ k + 1 → zX l w (mL_law hh) (room_1, Z, c0, s0) 3069 [zf 101 0, zf 9 0, zf 10 261, zf 35 272, zi ((i : Nat) : Int), zu, zu, zu, zu] [] k' τ) : zX l w (mL_law hh) (room_1, Z, c0, s0) 1363 [zf 101 0, zf 9 0, zf 10 261, zf 35 272, zi ((i : Nat) : Int), zu, zu, zu, zu] [] k σ := by
  obtain ⟨QC, hC, hS⟩ := hS
  refine zx_aloadN dL_law_1363 rfl rfl ?_
  refine zx_aloadN dL_law_1364 rfl rfl ?_
  refine zx_iload dL_law_1365 rfl ?_
  refine zx_iconst dL_law_1367 ?_
  refine zx_iadd dL_law_1368 ?_
  refine zy_top (b := ((i + 1 : Nat) : Int)) (by omega) ?_
  refine zx_sld (by omega) (by omega) (by omega) dL_law_1369 ?_
  refine zy_cvq [zi ((zSx w (i + 1)).toInt)] hC dL_law_1370 (by decide) rfl cw_RL_221 okX9_clueInOrder rfl (Nat.le_of_ble_eq_true rfl) ⟨Nat.le_of_ble_eq_true rfl, Nat.le_of_ble_eq_true rfl, by first | (show c0 + _ ≤ 601024; omega), by first | (show s0 + 6 * _ ≤ 7293034; omega)⟩ (fun r τ hq => ?_) (fun E τ hq => ?_)
  · obtain ⟨c, e, hz1, QM, hM, hK⟩ := hS _ _ hq
    obtain rfl := Sum.inl.inj e
    rw [show ∀ (x : zV) (s : List zV), (some x).toList ++ s = x :: s from fun _ _ => rfl]
    refine zy_nrm ?_
    have hzc := zt_r c
    refine zx_aloadN dL_law_1373 rfl rfl ?_
    refine zx_aloadN dL_law_1374 rfl rfl ?_
    refine zx_iload dL_law_1375 rfl ?_
    refine zx_iconst dL_law_1377 ?_
    refine zx_iadd dL_law_1378 ?_
    refine zy_top (b := ((i + 1 : Nat) : Int)) (by omega) ?_
    refine zx_sld (by omega) (by omega) (by omega) dL_law_1379 ?_
    refine zy_cvq [zi ((zSx w (i + 1)).toInt)] hM dL_law_1380 (by decide) rfl cw_RL_224 okX10_clueInOrder rfl (Nat.le_of_ble_eq_true rfl) ⟨Nat.le_of_ble_eq_true rfl, Nat.le_of_ble_eq_true rfl, by first | (show c0 + _ ≤ 601024; omega), by first | (show s0 + 6 * _ ≤ 7293034; omega)⟩ (fun r υ hq2 => ?_) (fun E υ hq2 => ?_)
    · obtain ⟨e, hz2, hI⟩ := hK _ _ hq2
      obtain rfl := Sum.inl.inj e
      rw [show ∀ (x : zV) (s : List zV), (some x).toList ++ s = x :: s from fun _ _ => rfl]
      refine zy_nrm ?_
      refine zx_icmp_eq (tgt := 3069) (by first | exact hz2 _ _ | assumption | exact zr_b _ | exact zcmp_r _ _ | (unfold zr at *; omega)) (by first | exact hz2 _ _ | assumption | exact zr_b _ | exact zcmp_r _ _ | (unfold zr at *; omega)) dL_law_1383 (by decide) (fun h1383 => ?_) (fun h1383 => ?_)
      · exact cont υ _ hz2 hI (by omega)
      · first | exact absurd hth (by assumption) | exact absurd rfl (by assumption) | exact absurd (by assumption) (by assumption) | (exfalso; exact h1383 (by omega)) | (exfalso; omega)
    · obtain ⟨e, -⟩ := hK _ _ hq2
      cases e
  · obtain ⟨c, e, -⟩ := hS _ _ hq
    cases e
set_option maxRecDepth 20000 in
set_option maxHeartbeats 2000000 in
theorem lc_24 {l : Launch} {w : zW} (hfl : l.stackTraces = false) {hh : List (Nat × Nat × Nat × Nat)} {c0 s0 : Nat} {Z : List Frame → Array Value → State → State → Prop} (hc0 : c0 ≤ 1000) (hs0 : s0 ≤ 100000) (hLn : zSL w ≤ 3072) {i k : Nat} (hi : i + 6 ≤ zSL w) (hk : k ≤ i) {σ : zS} (hz : zOK σ) (hS : SimD l w mX9_nextClue mX10_nextClue 3 3 [] σ) (cont : ∀ (τ : zS) (k' : Nat), zOK τ → Inv τ → k' ≤ k + 1 → zX l w (mL_law hh) (room_1, Z, c0, s0) 3069 [zf 101 0, zf 9 0, zf 10 261, zf 35 272, zi ((i : Nat) : Int), zu, zu, zu, zu] [] k' τ) : zX l w (mL_law hh) (room_1, Z, c0, s0) 1388 [zf 101 0, zf 9 0, zf 10 261, zf 35 272, zi ((i : Nat) : Int), zu, zu, zu, zu] [] k σ := by
  obtain ⟨QC, hC, hS⟩ := hS
  refine zx_aloadN dL_law_1388 rfl rfl ?_
  refine zy_cvq [] hC dL_law_1389 (by decide) rfl cw_RL_225 okX9_nextClue rfl (Nat.le_of_ble_eq_true rfl) ⟨Nat.le_of_ble_eq_true rfl, Nat.le_of_ble_eq_true rfl, by first | (show c0 + _ ≤ 601024; omega), by first | (show s0 + 6 * _ ≤ 7293034; omega)⟩ (fun r τ hq => ?_) (fun E τ hq => ?_)
  · obtain ⟨c, e, hz1, QM, hM, hK⟩ := hS _ _ hq
    obtain rfl := Sum.inl.inj e
    rw [show ∀ (x : zV) (s : List zV), (some x).toList ++ s = x :: s from fun _ _ => rfl]
    refine zy_nrm ?_
    have hzc := zt_r c
    refine zx_aloadN dL_law_1392 rfl rfl ?_
    refine zy_cvq [] hM dL_law_1393 (by decide) rfl cw_RL_228 okX10_nextClue rfl (Nat.le_of_ble_eq_true rfl) ⟨Nat.le_of_ble_eq_true rfl, Nat.le_of_ble_eq_true rfl, by first | (show c0 + _ ≤ 601024; omega), by first | (show s0 + 6 * _ ≤ 7293034; omega)⟩ (fun r υ hq2 => ?_) (fun E υ hq2 => ?_)
    · obtain ⟨e, hz2, hI⟩ := hK _ _ hq2
      obtain rfl := Sum.inl.inj e
      rw [show ∀ (x : zV) (s : List zV), (some x).toList ++ s = x :: s from fun _ _ => rfl]
      refine zy_nrm ?_
      refine zx_icmp_eq (tgt := 3069) (by first | exact hz2 _ _ | assumption | exact zr_b _ | exact zcmp_r _ _ | (unfold zr at *; omega)) (by first | exact hz2 _ _ | assumption | exact zr_b _ | exact zcmp_r _ _ | (unfold zr at *; omega)) dL_law_1396 (by decide) (fun h1396 => ?_) (fun h1396 => ?_)
      · exact cont υ _ hz2 hI (by omega)
      · first | exact absurd hth (by assumption) | exact absurd rfl (by assumption) | exact absurd (by assumption) (by assumption) | (exfalso; exact h1396 (by omega)) | (exfalso; omega)
    · obtain ⟨e, -⟩ := hK _ _ hq2
      cases e
  · obtain ⟨c, e, -⟩ := hS _ _ hq
    cases e
set_option maxRecDepth 20000 in
set_option maxHeartbeats 2000000 in
theorem lc_25 {l : Launch} {w : zW} (hfl : l.stackTraces = false) {hh : List (Nat × Nat × Nat × Nat)} {c0 s0 : Nat} {Z : List Frame → Array Value → State → State → Prop} (hc0 : c0 ≤ 1000) (hs0 : s0 ≤ 100000) (hLn : zSL w ≤ 3072) {i k : Nat} (hi : i + 6 ≤ zSL w) (hk : k ≤ i) {σ : zS} (hz : zOK σ) (hS : SimD l w mX9_countingWeight mX10_countingWeight 2 3 [] σ) (cont : ∀ (τ : zS) (k' : Nat), zOK τ → Inv τ → k' ≤ k + 1 → zX l w (mL_law hh) (room_1, Z, c0, s0) 3069 [zf 101 0, zf 9 0, zf 10 261, zf 35 272, zi ((i : Nat) : Int), zu, zu, zu, zu] [] k' τ) : zX l w (mL_law hh) (room_1, Z, c0, s0) 1401 [zf 101 0, zf 9 0, zf 10 261, zf 35 272, zi ((i : Nat) : Int), zu, zu, zu, zu] [] k σ := by
  obtain ⟨QC, hC, hS⟩ := hS
  refine zx_aloadN dL_law_1401 rfl rfl ?_
  refine zy_cvq [] hC dL_law_1402 (by decide) rfl cw_RL_229 okX9_countingWeight rfl (Nat.le_of_ble_eq_true rfl) ⟨Nat.le_of_ble_eq_true rfl, Nat.le_of_ble_eq_true rfl, by first | (show c0 + _ ≤ 601024; omega), by first | (show s0 + 6 * _ ≤ 7293034; omega)⟩ (fun r τ hq => ?_) (fun E τ hq => ?_)
  · obtain ⟨c, e, hz1, QM, hM, hK⟩ := hS _ _ hq
    obtain rfl := Sum.inl.inj e
    rw [show ∀ (x : zV) (s : List zV), (some x).toList ++ s = x :: s from fun _ _ => rfl]
    refine zy_nrm ?_
    have hzc := zt_r c
    refine zx_aloadN dL_law_1405 rfl rfl ?_
    refine zy_cvq [] hM dL_law_1406 (by decide) rfl cw_RL_232 okX10_countingWeight rfl (Nat.le_of_ble_eq_true rfl) ⟨Nat.le_of_ble_eq_true rfl, Nat.le_of_ble_eq_true rfl, by first | (show c0 + _ ≤ 601024; omega), by first | (show s0 + 6 * _ ≤ 7293034; omega)⟩ (fun r υ hq2 => ?_) (fun E υ hq2 => ?_)
    · obtain ⟨e, hz2, hI⟩ := hK _ _ hq2
      obtain rfl := Sum.inl.inj e
      rw [show ∀ (x : zV) (s : List zV), (some x).toList ++ s = x :: s from fun _ _ => rfl]
      refine zy_nrm ?_
      refine zx_icmp_eq (tgt := 3069) (by first | exact hz2 _ _ | assumption | exact zr_b _ | exact zcmp_r _ _ | (unfold zr at *; omega)) (by first | exact hz2 _ _ | assumption | exact zr_b _ | exact zcmp_r _ _ | (unfold zr at *; omega)) dL_law_1409 (by decide) (fun h1409 => ?_) (fun h1409 => ?_)
      · exact cont υ _ hz2 hI (by omega)
      · first | exact absurd hth (by assumption) | exact absurd rfl (by assumption) | exact absurd (by assumption) (by assumption) | (exfalso; exact h1409 (by omega)) | (exfalso; omega)
    · obtain ⟨e, -⟩ := hK _ _ hq2
      cases e
  · obtain ⟨c, e, -⟩ := hS _ _ hq
    cases e
set_option maxRecDepth 20000 in
set_option maxHeartbeats 2000000 in
theorem lc_26 {l : Launch} {w : zW} (hfl : l.stackTraces = false) {hh : List (Nat × Nat × Nat × Nat)} {c0 s0 : Nat} {Z : List Frame → Array Value → State → State → Prop} (hc0 : c0 ≤ 1000) (hs0 : s0 ≤ 100000) (hLn : zSL w ≤ 3072) {i k : Nat} (hi : i + 6 ≤ zSL w) (hk : k ≤ i) {σ : zS} (hz : zOK σ) (hS : SimW l w True mL_explains mX10_explains 5 [zi (zSx w (i + 1)).toInt, zi (zSx w (i + 2)).toInt, zi (zSx w (i + 3)).toInt] σ) (cont : ∀ (τ : zS) (k' : Nat), zOK τ → Inv τ → k' ≤ k + 1 → zX l w (mL_law hh) (room_1, Z, c0, s0) 3069 [zf 101 0, zf 9 0, zf 10 261, zf 35 272, zi ((i : Nat) : Int), zu, zu, zu, zu] [] k' τ) : zX l w (mL_law hh) (room_1, Z, c0, s0) 1414 [zf 101 0, zf 9 0, zf 10 261, zf 35 272, zi ((i : Nat) : Int), zu, zu, zu, zu] [] k σ := by
  obtain ⟨QC, hC, hS⟩ := hS
  refine zx_aloadN dL_law_1414 rfl rfl ?_
  refine zx_aloadN dL_law_1415 rfl rfl ?_
  refine zx_iload dL_law_1416 rfl ?_
  refine zx_iconst dL_law_1418 ?_
  refine zx_iadd dL_law_1419 ?_
  refine zy_top (b := ((i + 1 : Nat) : Int)) (by omega) ?_
  refine zx_sld (by omega) (by omega) (by omega) dL_law_1420 ?_
  refine zx_aloadN dL_law_1421 rfl rfl ?_
  refine zx_iload dL_law_1422 rfl ?_
  refine zx_iconst dL_law_1424 ?_
  refine zx_iadd dL_law_1425 ?_
  refine zy_top (b := ((i + 2 : Nat) : Int)) (by omega) ?_
  refine zx_sld (by omega) (by omega) (by omega) dL_law_1426 ?_
  refine zx_aloadN dL_law_1427 rfl rfl ?_
  refine zx_iload dL_law_1428 rfl ?_
  refine zx_iconst dL_law_1430 ?_
  refine zx_iadd dL_law_1431 ?_
  refine zy_top (b := ((i + 3 : Nat) : Int)) (by omega) ?_
  refine zx_sld (by omega) (by omega) (by omega) dL_law_1432 ?_
  refine zx_aloadN dL_law_1433 rfl rfl ?_
  have hC1 : SpH l w mL_explains 10 1 [zf 9 0, zi ((zSx w (i + 1)).toInt), zi ((zSx w (i + 2)).toInt), zi ((zSx w (i + 3)).toInt), zf 35 272] σ QC := hC
  refine zy_csHq [zf 9 0, zi ((zSx w (i + 1)).toInt), zi ((zSx w (i + 2)).toInt), zi ((zSx w (i + 3)).toInt), zf 35 272] hC1 dL_law_1434 cw_RL_233 okL_explains rfl (Nat.le_of_ble_eq_true rfl) ⟨Nat.le_of_ble_eq_true rfl, Nat.le_of_ble_eq_true rfl, by first | (show c0 + _ ≤ 601024; omega), by first | (show s0 + 6 * _ ≤ 7293034; omega)⟩ (fun r τ hq => ?_) (fun E τ hq => ?_)
  · obtain ⟨c, e, hzc, hz1, QM, hM, hK⟩ := hS _ _ hq
    obtain rfl := Sum.inl.inj e
    rw [show ∀ (x : zV) (s : List zV), (some x).toList ++ s = x :: s from fun _ _ => rfl]
    refine zy_istore [zf 101 0, zf 9 0, zf 10 261, zf 35 272, zi ((i : Nat) : Int), zi c, zu, zu, zu] dL_law_1437 (Nat.le_of_ble_eq_true rfl) (Nat.le_of_ble_eq_true rfl) rfl rfl ?_
    refine zx_aloadN dL_law_1439 rfl rfl ?_
    refine zx_aloadN dL_law_1440 rfl rfl ?_
    refine zx_iload dL_law_1441 rfl ?_
    refine zx_iconst dL_law_1443 ?_
    refine zx_iadd dL_law_1444 ?_
    refine zy_top (b := ((i + 1 : Nat) : Int)) (by omega) ?_
    refine zx_sld (by omega) (by omega) (by omega) dL_law_1445 ?_
    refine zx_aloadN dL_law_1446 rfl rfl ?_
    refine zx_iload dL_law_1447 rfl ?_
    refine zx_iconst dL_law_1449 ?_
    refine zx_iadd dL_law_1450 ?_
    refine zy_top (b := ((i + 2 : Nat) : Int)) (by omega) ?_
    refine zx_sld (by omega) (by omega) (by omega) dL_law_1451 ?_
    refine zx_aloadN dL_law_1452 rfl rfl ?_
    refine zx_iload dL_law_1453 rfl ?_
    refine zx_iconst dL_law_1455 ?_
    refine zx_iadd dL_law_1456 ?_
    refine zy_top (b := ((i + 3 : Nat) : Int)) (by omega) ?_
    refine zx_sld (by omega) (by omega) (by omega) dL_law_1457 ?_
    refine zy_cvq [zi ((zSx w (i + 1)).toInt), zi ((zSx w (i + 2)).toInt), zi ((zSx w (i + 3)).toInt)] hM dL_law_1458 (by decide) rfl cw_RL_236 okX10_explains rfl (Nat.le_of_ble_eq_true rfl) ⟨Nat.le_of_ble_eq_true rfl, Nat.le_of_ble_eq_true rfl, by first | (show c0 + _ ≤ 601024; omega), by first | (show s0 + 6 * _ ≤ 7293034; omega)⟩ (fun r υ hq2 => ?_) (fun E υ hq2 => ?_)
    · obtain ⟨b, e, hz2, hth, hob, hB, hI⟩ := hK _ _ hq2
      obtain rfl := Sum.inl.inj e
      rw [show ∀ (x : zV) (s : List zV), (some x).toList ++ s = x :: s from fun _ _ => rfl]
      refine zy_nrm ?_
      have hzb := zt_r b
      have hb01 : zt b = 0 ∨ zt b = 1 := by rcases hB trivial with q | q <;> rw [q] <;> decide
      refine zy_istore [zf 101 0, zf 9 0, zf 10 261, zf 35 272, zi ((i : Nat) : Int), zi c, zi (zt b), zu, zu] dL_law_1461 (Nat.le_of_ble_eq_true rfl) (Nat.le_of_ble_eq_true rfl) rfl rfl ?_
      refine zx_aloadN dL_law_1463 rfl rfl ?_
      refine zy_cv [] (sX10_thrown  hfl hz2 ) dL_law_1464 (by decide) rfl cw_RL_141 okX10_thrown rfl (Nat.le_of_ble_eq_true rfl) ⟨Nat.le_of_ble_eq_true rfl, Nat.le_of_ble_eq_true rfl, by first | (show c0 + _ ≤ 601024; omega), by first | (show s0 + 6 * _ ≤ 7293034; omega)⟩ ?_
      refine zx_iload dL_law_1467 rfl ?_
      refine zx_icmp_eq (tgt := 1474) (by first | exact hz2 _ _ | assumption | exact zr_b _ | exact zcmp_r _ _ | (unfold zr at *; omega)) (by first | exact hz2 _ _ | assumption | exact zr_b _ | exact zcmp_r _ _ | (unfold zr at *; omega)) dL_law_1469 (by decide) (fun h1469 => ?_) (fun h1469 => ?_)
      · refine zx_iload dL_law_1474 rfl ?_
        refine zx_if_ne (tgt := 1498) (by first | exact hz2 _ _ | assumption | exact zr_b _ | exact zcmp_r _ _ | (unfold zr at *; omega)) dL_law_1476 (by decide) (fun h1476 => ?_) (fun h1476 => ?_)
        · refine zx_goto (tgt := 3069) dL_law_1498 (by decide) ?_
          refine zy_drop 5 [zf 101 0, zf 9 0, zf 10 261, zf 35 272, zi ((i : Nat) : Int), zu, zi (zt b), zu, zu] rfl ?_
          refine zy_drop 6 [zf 101 0, zf 9 0, zf 10 261, zf 35 272, zi ((i : Nat) : Int), zu, zu, zu, zu] rfl ?_
          exact cont υ _ hz2 hI (by omega)
        · refine zx_aloadN dL_law_1479 rfl rfl ?_
          refine zx_iconst dL_law_1480 ?_
          refine zx_lald dL_law_1481 ?_
          rw [hob (by assumption)]
          refine zx_iload dL_law_1482 rfl ?_
          refine zx_if_eq (tgt := 1491) (by first | exact hz2 _ _ | assumption | exact zr_b _ | exact zcmp_r _ _ | (unfold zr at *; omega)) dL_law_1484 (by decide) (fun h1484 => ?_) (fun h1484 => ?_)
          · refine zx_lconst (a := 0) dL_law_1491 rfl ?_
            refine zx_lcmp (by first | exact hz2 _ _ | assumption | exact zr_b _ | exact zcmp_r _ _ | (unfold zr at *; omega)) (by first | exact hz2 _ _ | assumption | exact zr_b _ | exact zcmp_r _ _ | (unfold zr at *; omega)) dL_law_1492 ?_
            refine zx_if_eq (tgt := 1498) (by first | exact hz2 _ _ | assumption | exact zr_b _ | exact zcmp_r _ _ | (unfold zr at *; omega)) dL_law_1493 (by decide) (fun h1493 => ?_) (fun h1493 => ?_)
            · have h1493 := zcmp_eq.mp h1493
              refine zx_goto (tgt := 3069) dL_law_1498 (by decide) ?_
              refine zy_drop 5 [zf 101 0, zf 9 0, zf 10 261, zf 35 272, zi ((i : Nat) : Int), zu, zi (zt b), zu, zu] rfl ?_
              refine zy_drop 6 [zf 101 0, zf 9 0, zf 10 261, zf 35 272, zi ((i : Nat) : Int), zu, zu, zu, zu] rfl ?_
              exact cont υ _ hz2 hI (by omega)
            · have h1493 := fun q => h1493 (zcmp_eq.mpr q)
              first | exact absurd hth (by assumption) | exact absurd rfl (by assumption) | exact absurd (by assumption) (by assumption) | (exfalso; exact h1493 (by omega)) | (exfalso; omega)
          · refine zx_lconst (a := 1) dL_law_1487 rfl ?_
            refine zx_goto (tgt := 1492) dL_law_1488 (by decide) ?_
            refine zx_lcmp (by first | exact hz2 _ _ | assumption | exact zr_b _ | exact zcmp_r _ _ | (unfold zr at *; omega)) (by first | exact hz2 _ _ | assumption | exact zr_b _ | exact zcmp_r _ _ | (unfold zr at *; omega)) dL_law_1492 ?_
            refine zx_if_eq (tgt := 1498) (by first | exact hz2 _ _ | assumption | exact zr_b _ | exact zcmp_r _ _ | (unfold zr at *; omega)) dL_law_1493 (by decide) (fun h1493 => ?_) (fun h1493 => ?_)
            · have h1493 := zcmp_eq.mp h1493
              refine zx_goto (tgt := 3069) dL_law_1498 (by decide) ?_
              refine zy_drop 5 [zf 101 0, zf 9 0, zf 10 261, zf 35 272, zi ((i : Nat) : Int), zu, zi (zt b), zu, zu] rfl ?_
              refine zy_drop 6 [zf 101 0, zf 9 0, zf 10 261, zf 35 272, zi ((i : Nat) : Int), zu, zu, zu, zu] rfl ?_
              exact cont υ _ hz2 hI (by omega)
            · have h1493 := fun q => h1493 (zcmp_eq.mpr q)
              first | exact absurd hth (by assumption) | exact absurd rfl (by assumption) | exact absurd (by assumption) (by assumption) | (exfalso; exact h1493 (by omega)) | (exfalso; omega)
      · first | exact absurd hth (by assumption) | exact absurd rfl (by assumption) | exact absurd (by assumption) (by assumption) | (exfalso; exact h1469 (by omega)) | (exfalso; omega)
    · obtain ⟨b, e, -⟩ := hK _ _ hq2
      cases e
  · obtain ⟨c, e, -⟩ := hS _ _ hq
    cases e
set_option maxRecDepth 20000 in
set_option maxHeartbeats 2000000 in
theorem lc_27 {l : Launch} {w : zW} (hfl : l.stackTraces = false) {hh : List (Nat × Nat × Nat × Nat)} {c0 s0 : Nat} {Z : List Frame → Array Value → State → State → Prop} (hc0 : c0 ≤ 1000) (hs0 : s0 ≤ 100000) (hLn : zSL w ≤ 3072) {i k : Nat} (hi : i + 6 ≤ zSL w) (hk : k ≤ i) {σ : zS} (hz : zOK σ) (hS : SimW l w False mL_score mX10_score 6 [zi (zSx w (i + 1)).toInt, zi (zSx w (i + 2)).toInt] σ) (cont : ∀ (τ : zS) (k' : Nat), zOK τ → Inv τ → k' ≤ k + 1 → zX l w (mL_law hh) (room_1, Z, c0, s0) 3069 [zf 101 0, zf 9 0, zf 10 261, zf 35 272, zi ((i : Nat) : Int), zu, zu, zu, zu] [] k' τ) : zX l w (mL_law hh) (room_1, Z, c0, s0) 1501 [zf 101 0, zf 9 0, zf 10 261, zf 35 272, zi ((i : Nat) : Int), zu, zu, zu, zu] [] k σ := by
  obtain ⟨QC, hC, hS⟩ := hS
  refine zx_aloadN dL_law_1501 rfl rfl ?_
  refine zx_aloadN dL_law_1502 rfl rfl ?_
  refine zx_iload dL_law_1503 rfl ?_
  refine zx_iconst dL_law_1505 ?_
  refine zx_iadd dL_law_1506 ?_
  refine zy_top (b := ((i + 1 : Nat) : Int)) (by omega) ?_
  refine zx_sld (by omega) (by omega) (by omega) dL_law_1507 ?_
  refine zx_aloadN dL_law_1508 rfl rfl ?_
  refine zx_iload dL_law_1509 rfl ?_
  refine zx_iconst dL_law_1511 ?_
  refine zx_iadd dL_law_1512 ?_
  refine zy_top (b := ((i + 2 : Nat) : Int)) (by omega) ?_
  refine zx_sld (by omega) (by omega) (by omega) dL_law_1513 ?_
  refine zx_aloadN dL_law_1514 rfl rfl ?_
  have hC1 : SpH l w mL_score 10 1 [zf 9 0, zi ((zSx w (i + 1)).toInt), zi ((zSx w (i + 2)).toInt), zf 35 272] σ QC := hC
  refine zy_csHq [zf 9 0, zi ((zSx w (i + 1)).toInt), zi ((zSx w (i + 2)).toInt), zf 35 272] hC1 dL_law_1515 cw_RL_237 okL_score rfl (Nat.le_of_ble_eq_true rfl) ⟨Nat.le_of_ble_eq_true rfl, Nat.le_of_ble_eq_true rfl, by first | (show c0 + _ ≤ 601024; omega), by first | (show s0 + 6 * _ ≤ 7293034; omega)⟩ (fun r τ hq => ?_) (fun E τ hq => ?_)
  · obtain ⟨c, e, hzc, hz1, QM, hM, hK⟩ := hS _ _ hq
    obtain rfl := Sum.inl.inj e
    rw [show ∀ (x : zV) (s : List zV), (some x).toList ++ s = x :: s from fun _ _ => rfl]
    refine zy_istore [zf 101 0, zf 9 0, zf 10 261, zf 35 272, zi ((i : Nat) : Int), zi c, zu, zu, zu] dL_law_1518 (Nat.le_of_ble_eq_true rfl) (Nat.le_of_ble_eq_true rfl) rfl rfl ?_
    refine zx_aloadN dL_law_1520 rfl rfl ?_
    refine zx_aloadN dL_law_1521 rfl rfl ?_
    refine zx_iload dL_law_1522 rfl ?_
    refine zx_iconst dL_law_1524 ?_
    refine zx_iadd dL_law_1525 ?_
    refine zy_top (b := ((i + 1 : Nat) : Int)) (by omega) ?_
    refine zx_sld (by omega) (by omega) (by omega) dL_law_1526 ?_
    refine zx_aloadN dL_law_1527 rfl rfl ?_
    refine zx_iload dL_law_1528 rfl ?_
    refine zx_iconst dL_law_1530 ?_
    refine zx_iadd dL_law_1531 ?_
    refine zy_top (b := ((i + 2 : Nat) : Int)) (by omega) ?_
    refine zx_sld (by omega) (by omega) (by omega) dL_law_1532 ?_
    refine zy_cvq [zi ((zSx w (i + 1)).toInt), zi ((zSx w (i + 2)).toInt)] hM dL_law_1533 (by decide) rfl cw_RL_239 okX10_score rfl (Nat.le_of_ble_eq_true rfl) ⟨Nat.le_of_ble_eq_true rfl, Nat.le_of_ble_eq_true rfl, by first | (show c0 + _ ≤ 601024; omega), by first | (show s0 + 6 * _ ≤ 7293034; omega)⟩ (fun r υ hq2 => ?_) (fun E υ hq2 => ?_)
    · obtain ⟨b, e, hz2, hth, hob, hB, hI⟩ := hK _ _ hq2
      obtain rfl := Sum.inl.inj e
      rw [show ∀ (x : zV) (s : List zV), (some x).toList ++ s = x :: s from fun _ _ => rfl]
      refine zy_nrm ?_
      have hzb := zt_r b
      refine zy_istore [zf 101 0, zf 9 0, zf 10 261, zf 35 272, zi ((i : Nat) : Int), zi c, zi (zt b), zu, zu] dL_law_1536 (Nat.le_of_ble_eq_true rfl) (Nat.le_of_ble_eq_true rfl) rfl rfl ?_
      refine zx_aloadN dL_law_1538 rfl rfl ?_
      refine zy_cv [] (sX10_thrown  hfl hz2 ) dL_law_1539 (by decide) rfl cw_RL_141 okX10_thrown rfl (Nat.le_of_ble_eq_true rfl) ⟨Nat.le_of_ble_eq_true rfl, Nat.le_of_ble_eq_true rfl, by first | (show c0 + _ ≤ 601024; omega), by first | (show s0 + 6 * _ ≤ 7293034; omega)⟩ ?_
      refine zx_iload dL_law_1542 rfl ?_
      refine zx_icmp_eq (tgt := 1549) (by first | exact hz2 _ _ | assumption | exact zr_b _ | exact zcmp_r _ _ | (unfold zr at *; omega)) (by first | exact hz2 _ _ | assumption | exact zr_b _ | exact zcmp_r _ _ | (unfold zr at *; omega)) dL_law_1544 (by decide) (fun h1544 => ?_) (fun h1544 => ?_)
      · refine zx_iload dL_law_1549 rfl ?_
        refine zx_if_ne (tgt := 1566) (by first | exact hz2 _ _ | assumption | exact zr_b _ | exact zcmp_r _ _ | (unfold zr at *; omega)) dL_law_1551 (by decide) (fun h1551 => ?_) (fun h1551 => ?_)
        · refine zx_goto (tgt := 3069) dL_law_1566 (by decide) ?_
          refine zy_drop 5 [zf 101 0, zf 9 0, zf 10 261, zf 35 272, zi ((i : Nat) : Int), zu, zi (zt b), zu, zu] rfl ?_
          refine zy_drop 6 [zf 101 0, zf 9 0, zf 10 261, zf 35 272, zi ((i : Nat) : Int), zu, zu, zu, zu] rfl ?_
          exact cont υ _ hz2 hI (by omega)
        · refine zx_aloadN dL_law_1554 rfl rfl ?_
          refine zx_iconst dL_law_1555 ?_
          refine zx_lald dL_law_1556 ?_
          rw [hob (by assumption)]
          refine zx_iload dL_law_1557 rfl ?_
          refine zx_i2l (by first | exact hz2 _ _ | assumption | exact zr_b _ | exact zcmp_r _ _ | (unfold zr at *; omega)) dL_law_1559 ?_
          refine zx_lcmp (by first | exact hz2 _ _ | assumption | exact zr_b _ | exact zcmp_r _ _ | (unfold zr at *; omega)) (by first | exact hz2 _ _ | assumption | exact zr_b _ | exact zcmp_r _ _ | (unfold zr at *; omega)) dL_law_1560 ?_
          refine zx_if_eq (tgt := 1566) (by first | exact hz2 _ _ | assumption | exact zr_b _ | exact zcmp_r _ _ | (unfold zr at *; omega)) dL_law_1561 (by decide) (fun h1561 => ?_) (fun h1561 => ?_)
          · have h1561 := zcmp_eq.mp h1561
            refine zx_goto (tgt := 3069) dL_law_1566 (by decide) ?_
            refine zy_drop 5 [zf 101 0, zf 9 0, zf 10 261, zf 35 272, zi ((i : Nat) : Int), zu, zi (zt b), zu, zu] rfl ?_
            refine zy_drop 6 [zf 101 0, zf 9 0, zf 10 261, zf 35 272, zi ((i : Nat) : Int), zu, zu, zu, zu] rfl ?_
            exact cont υ _ hz2 hI (by omega)
          · have h1561 := fun q => h1561 (zcmp_eq.mpr q)
            first | exact absurd hth (by assumption) | exact absurd rfl (by assumption) | exact absurd (by assumption) (by assumption) | (exfalso; exact h1561 (by omega)) | (exfalso; omega)
      · first | exact absurd hth (by assumption) | exact absurd rfl (by assumption) | exact absurd (by assumption) (by assumption) | (exfalso; exact h1544 (by omega)) | (exfalso; omega)
    · obtain ⟨b, e, -⟩ := hK _ _ hq2
      cases e
  · obtain ⟨c, e, -⟩ := hS _ _ hq
    cases e
set_option maxRecDepth 20000 in
set_option maxHeartbeats 2000000 in
theorem lc_28 {l : Launch} {w : zW} (hfl : l.stackTraces = false) {hh : List (Nat × Nat × Nat × Nat)} {c0 s0 : Nat} {Z : List Frame → Array Value → State → State → Prop} (hc0 : c0 ≤ 1000) (hs0 : s0 ≤ 100000) (hLn : zSL w ≤ 3072) {i k : Nat} (hi : i + 6 ≤ zSL w) (hk : k ≤ i) {σ : zS} (hz : zOK σ) (hS : SimW l w False mL_bestYear mX10_bestYear 6 [zi (zSx w (i + 1)).toInt] σ) (cont : ∀ (τ : zS) (k' : Nat), zOK τ → Inv τ → k' ≤ k + 1 → zX l w (mL_law hh) (room_1, Z, c0, s0) 3069 [zf 101 0, zf 9 0, zf 10 261, zf 35 272, zi ((i : Nat) : Int), zu, zu, zu, zu] [] k' τ) : zX l w (mL_law hh) (room_1, Z, c0, s0) 1569 [zf 101 0, zf 9 0, zf 10 261, zf 35 272, zi ((i : Nat) : Int), zu, zu, zu, zu] [] k σ := by
  obtain ⟨QC, hC, hS⟩ := hS
  refine zx_aloadN dL_law_1569 rfl rfl ?_
  refine zx_aloadN dL_law_1570 rfl rfl ?_
  refine zx_iload dL_law_1571 rfl ?_
  refine zx_iconst dL_law_1573 ?_
  refine zx_iadd dL_law_1574 ?_
  refine zy_top (b := ((i + 1 : Nat) : Int)) (by omega) ?_
  refine zx_sld (by omega) (by omega) (by omega) dL_law_1575 ?_
  refine zx_aloadN dL_law_1576 rfl rfl ?_
  have hC1 : SpH l w mL_bestYear 10 1 [zf 9 0, zi ((zSx w (i + 1)).toInt), zf 35 272] σ QC := hC
  refine zy_csHq [zf 9 0, zi ((zSx w (i + 1)).toInt), zf 35 272] hC1 dL_law_1577 cw_RL_240 okL_bestYear rfl (Nat.le_of_ble_eq_true rfl) ⟨Nat.le_of_ble_eq_true rfl, Nat.le_of_ble_eq_true rfl, by first | (show c0 + _ ≤ 601024; omega), by first | (show s0 + 6 * _ ≤ 7293034; omega)⟩ (fun r τ hq => ?_) (fun E τ hq => ?_)
  · obtain ⟨c, e, hzc, hz1, QM, hM, hK⟩ := hS _ _ hq
    obtain rfl := Sum.inl.inj e
    rw [show ∀ (x : zV) (s : List zV), (some x).toList ++ s = x :: s from fun _ _ => rfl]
    refine zy_istore [zf 101 0, zf 9 0, zf 10 261, zf 35 272, zi ((i : Nat) : Int), zi c, zu, zu, zu] dL_law_1580 (Nat.le_of_ble_eq_true rfl) (Nat.le_of_ble_eq_true rfl) rfl rfl ?_
    refine zx_aloadN dL_law_1582 rfl rfl ?_
    refine zx_aloadN dL_law_1583 rfl rfl ?_
    refine zx_iload dL_law_1584 rfl ?_
    refine zx_iconst dL_law_1586 ?_
    refine zx_iadd dL_law_1587 ?_
    refine zy_top (b := ((i + 1 : Nat) : Int)) (by omega) ?_
    refine zx_sld (by omega) (by omega) (by omega) dL_law_1588 ?_
    refine zy_cvq [zi ((zSx w (i + 1)).toInt)] hM dL_law_1589 (by decide) rfl cw_RL_242 okX10_bestYear rfl (Nat.le_of_ble_eq_true rfl) ⟨Nat.le_of_ble_eq_true rfl, Nat.le_of_ble_eq_true rfl, by first | (show c0 + _ ≤ 601024; omega), by first | (show s0 + 6 * _ ≤ 7293034; omega)⟩ (fun r υ hq2 => ?_) (fun E υ hq2 => ?_)
    · obtain ⟨b, e, hz2, hth, hob, hB, hI⟩ := hK _ _ hq2
      obtain rfl := Sum.inl.inj e
      rw [show ∀ (x : zV) (s : List zV), (some x).toList ++ s = x :: s from fun _ _ => rfl]
      refine zy_nrm ?_
      have hzb := zt_r b
      refine zy_istore [zf 101 0, zf 9 0, zf 10 261, zf 35 272, zi ((i : Nat) : Int), zi c, zi (zt b), zu, zu] dL_law_1592 (Nat.le_of_ble_eq_true rfl) (Nat.le_of_ble_eq_true rfl) rfl rfl ?_
      refine zx_aloadN dL_law_1594 rfl rfl ?_
      refine zy_cv [] (sX10_thrown  hfl hz2 ) dL_law_1595 (by decide) rfl cw_RL_141 okX10_thrown rfl (Nat.le_of_ble_eq_true rfl) ⟨Nat.le_of_ble_eq_true rfl, Nat.le_of_ble_eq_true rfl, by first | (show c0 + _ ≤ 601024; omega), by first | (show s0 + 6 * _ ≤ 7293034; omega)⟩ ?_
      refine zx_iload dL_law_1598 rfl ?_
      refine zx_icmp_eq (tgt := 1605) (by first | exact hz2 _ _ | assumption | exact zr_b _ | exact zcmp_r _ _ | (unfold zr at *; omega)) (by first | exact hz2 _ _ | assumption | exact zr_b _ | exact zcmp_r _ _ | (unfold zr at *; omega)) dL_law_1600 (by decide) (fun h1600 => ?_) (fun h1600 => ?_)
      · refine zx_iload dL_law_1605 rfl ?_
        refine zx_if_ne (tgt := 1622) (by first | exact hz2 _ _ | assumption | exact zr_b _ | exact zcmp_r _ _ | (unfold zr at *; omega)) dL_law_1607 (by decide) (fun h1607 => ?_) (fun h1607 => ?_)
        · refine zx_goto (tgt := 3069) dL_law_1622 (by decide) ?_
          refine zy_drop 5 [zf 101 0, zf 9 0, zf 10 261, zf 35 272, zi ((i : Nat) : Int), zu, zi (zt b), zu, zu] rfl ?_
          refine zy_drop 6 [zf 101 0, zf 9 0, zf 10 261, zf 35 272, zi ((i : Nat) : Int), zu, zu, zu, zu] rfl ?_
          exact cont υ _ hz2 hI (by omega)
        · refine zx_aloadN dL_law_1610 rfl rfl ?_
          refine zx_iconst dL_law_1611 ?_
          refine zx_lald dL_law_1612 ?_
          rw [hob (by assumption)]
          refine zx_iload dL_law_1613 rfl ?_
          refine zx_i2l (by first | exact hz2 _ _ | assumption | exact zr_b _ | exact zcmp_r _ _ | (unfold zr at *; omega)) dL_law_1615 ?_
          refine zx_lcmp (by first | exact hz2 _ _ | assumption | exact zr_b _ | exact zcmp_r _ _ | (unfold zr at *; omega)) (by first | exact hz2 _ _ | assumption | exact zr_b _ | exact zcmp_r _ _ | (unfold zr at *; omega)) dL_law_1616 ?_
          refine zx_if_eq (tgt := 1622) (by first | exact hz2 _ _ | assumption | exact zr_b _ | exact zcmp_r _ _ | (unfold zr at *; omega)) dL_law_1617 (by decide) (fun h1617 => ?_) (fun h1617 => ?_)
          · have h1617 := zcmp_eq.mp h1617
            refine zx_goto (tgt := 3069) dL_law_1622 (by decide) ?_
            refine zy_drop 5 [zf 101 0, zf 9 0, zf 10 261, zf 35 272, zi ((i : Nat) : Int), zu, zi (zt b), zu, zu] rfl ?_
            refine zy_drop 6 [zf 101 0, zf 9 0, zf 10 261, zf 35 272, zi ((i : Nat) : Int), zu, zu, zu, zu] rfl ?_
            exact cont υ _ hz2 hI (by omega)
          · have h1617 := fun q => h1617 (zcmp_eq.mpr q)
            first | exact absurd hth (by assumption) | exact absurd rfl (by assumption) | exact absurd (by assumption) (by assumption) | (exfalso; exact h1617 (by omega)) | (exfalso; omega)
      · first | exact absurd hth (by assumption) | exact absurd rfl (by assumption) | exact absurd (by assumption) (by assumption) | (exfalso; exact h1600 (by omega)) | (exfalso; omega)
    · obtain ⟨b, e, -⟩ := hK _ _ hq2
      cases e
  · obtain ⟨c, e, -⟩ := hS _ _ hq
    cases e
set_option maxRecDepth 20000 in
set_option maxHeartbeats 2000000 in
theorem lc_29 {l : Launch} {w : zW} (hfl : l.stackTraces = false) {hh : List (Nat × Nat × Nat × Nat)} {c0 s0 : Nat} {Z : List Frame → Array Value → State → State → Prop} (hc0 : c0 ≤ 1000) (hs0 : s0 ≤ 100000) (hLn : zSL w ≤ 3072) {i k : Nat} (hi : i + 6 ≤ zSL w) (hk : k ≤ i) {σ : zS} (hz : zOK σ) (hS : SimW l w False mL_bestScore mX10_bestScore 7 [zi (zSx w (i + 1)).toInt] σ) (cont : ∀ (τ : zS) (k' : Nat), zOK τ → Inv τ → k' ≤ k + 1 → zX l w (mL_law hh) (room_1, Z, c0, s0) 3069 [zf 101 0, zf 9 0, zf 10 261, zf 35 272, zi ((i : Nat) : Int), zu, zu, zu, zu] [] k' τ) : zX l w (mL_law hh) (room_1, Z, c0, s0) 1625 [zf 101 0, zf 9 0, zf 10 261, zf 35 272, zi ((i : Nat) : Int), zu, zu, zu, zu] [] k σ := by
  obtain ⟨QC, hC, hS⟩ := hS
  refine zx_aloadN dL_law_1625 rfl rfl ?_
  refine zx_aloadN dL_law_1626 rfl rfl ?_
  refine zx_iload dL_law_1627 rfl ?_
  refine zx_iconst dL_law_1629 ?_
  refine zx_iadd dL_law_1630 ?_
  refine zy_top (b := ((i + 1 : Nat) : Int)) (by omega) ?_
  refine zx_sld (by omega) (by omega) (by omega) dL_law_1631 ?_
  refine zx_aloadN dL_law_1632 rfl rfl ?_
  have hC1 : SpH l w mL_bestScore 10 1 [zf 9 0, zi ((zSx w (i + 1)).toInt), zf 35 272] σ QC := hC
  refine zy_csHq [zf 9 0, zi ((zSx w (i + 1)).toInt), zf 35 272] hC1 dL_law_1633 cw_RL_243 okL_bestScore rfl (Nat.le_of_ble_eq_true rfl) ⟨Nat.le_of_ble_eq_true rfl, Nat.le_of_ble_eq_true rfl, by first | (show c0 + _ ≤ 601024; omega), by first | (show s0 + 6 * _ ≤ 7293034; omega)⟩ (fun r τ hq => ?_) (fun E τ hq => ?_)
  · obtain ⟨c, e, hzc, hz1, QM, hM, hK⟩ := hS _ _ hq
    obtain rfl := Sum.inl.inj e
    rw [show ∀ (x : zV) (s : List zV), (some x).toList ++ s = x :: s from fun _ _ => rfl]
    refine zy_istore [zf 101 0, zf 9 0, zf 10 261, zf 35 272, zi ((i : Nat) : Int), zi c, zu, zu, zu] dL_law_1636 (Nat.le_of_ble_eq_true rfl) (Nat.le_of_ble_eq_true rfl) rfl rfl ?_
    refine zx_aloadN dL_law_1638 rfl rfl ?_
    refine zx_aloadN dL_law_1639 rfl rfl ?_
    refine zx_iload dL_law_1640 rfl ?_
    refine zx_iconst dL_law_1642 ?_
    refine zx_iadd dL_law_1643 ?_
    refine zy_top (b := ((i + 1 : Nat) : Int)) (by omega) ?_
    refine zx_sld (by omega) (by omega) (by omega) dL_law_1644 ?_
    refine zy_cvq [zi ((zSx w (i + 1)).toInt)] hM dL_law_1645 (by decide) rfl cw_RL_245 okX10_bestScore rfl (Nat.le_of_ble_eq_true rfl) ⟨Nat.le_of_ble_eq_true rfl, Nat.le_of_ble_eq_true rfl, by first | (show c0 + _ ≤ 601024; omega), by first | (show s0 + 6 * _ ≤ 7293034; omega)⟩ (fun r υ hq2 => ?_) (fun E υ hq2 => ?_)
    · obtain ⟨b, e, hz2, hth, hob, hB, hI⟩ := hK _ _ hq2
      obtain rfl := Sum.inl.inj e
      rw [show ∀ (x : zV) (s : List zV), (some x).toList ++ s = x :: s from fun _ _ => rfl]
      refine zy_nrm ?_
      have hzb := zt_r b
      refine zy_istore [zf 101 0, zf 9 0, zf 10 261, zf 35 272, zi ((i : Nat) : Int), zi c, zi (zt b), zu, zu] dL_law_1648 (Nat.le_of_ble_eq_true rfl) (Nat.le_of_ble_eq_true rfl) rfl rfl ?_
      refine zx_aloadN dL_law_1650 rfl rfl ?_
      refine zy_cv [] (sX10_thrown  hfl hz2 ) dL_law_1651 (by decide) rfl cw_RL_141 okX10_thrown rfl (Nat.le_of_ble_eq_true rfl) ⟨Nat.le_of_ble_eq_true rfl, Nat.le_of_ble_eq_true rfl, by first | (show c0 + _ ≤ 601024; omega), by first | (show s0 + 6 * _ ≤ 7293034; omega)⟩ ?_
      refine zx_iload dL_law_1654 rfl ?_
      refine zx_icmp_eq (tgt := 1661) (by first | exact hz2 _ _ | assumption | exact zr_b _ | exact zcmp_r _ _ | (unfold zr at *; omega)) (by first | exact hz2 _ _ | assumption | exact zr_b _ | exact zcmp_r _ _ | (unfold zr at *; omega)) dL_law_1656 (by decide) (fun h1656 => ?_) (fun h1656 => ?_)
      · refine zx_iload dL_law_1661 rfl ?_
        refine zx_if_ne (tgt := 1678) (by first | exact hz2 _ _ | assumption | exact zr_b _ | exact zcmp_r _ _ | (unfold zr at *; omega)) dL_law_1663 (by decide) (fun h1663 => ?_) (fun h1663 => ?_)
        · refine zx_goto (tgt := 3069) dL_law_1678 (by decide) ?_
          refine zy_drop 5 [zf 101 0, zf 9 0, zf 10 261, zf 35 272, zi ((i : Nat) : Int), zu, zi (zt b), zu, zu] rfl ?_
          refine zy_drop 6 [zf 101 0, zf 9 0, zf 10 261, zf 35 272, zi ((i : Nat) : Int), zu, zu, zu, zu] rfl ?_
          exact cont υ _ hz2 hI (by omega)
        · refine zx_aloadN dL_law_1666 rfl rfl ?_
          refine zx_iconst dL_law_1667 ?_
          refine zx_lald dL_law_1668 ?_
          rw [hob (by assumption)]
          refine zx_iload dL_law_1669 rfl ?_
          refine zx_i2l (by first | exact hz2 _ _ | assumption | exact zr_b _ | exact zcmp_r _ _ | (unfold zr at *; omega)) dL_law_1671 ?_
          refine zx_lcmp (by first | exact hz2 _ _ | assumption | exact zr_b _ | exact zcmp_r _ _ | (unfold zr at *; omega)) (by first | exact hz2 _ _ | assumption | exact zr_b _ | exact zcmp_r _ _ | (unfold zr at *; omega)) dL_law_1672 ?_
          refine zx_if_eq (tgt := 1678) (by first | exact hz2 _ _ | assumption | exact zr_b _ | exact zcmp_r _ _ | (unfold zr at *; omega)) dL_law_1673 (by decide) (fun h1673 => ?_) (fun h1673 => ?_)
          · have h1673 := zcmp_eq.mp h1673
            refine zx_goto (tgt := 3069) dL_law_1678 (by decide) ?_
            refine zy_drop 5 [zf 101 0, zf 9 0, zf 10 261, zf 35 272, zi ((i : Nat) : Int), zu, zi (zt b), zu, zu] rfl ?_
            refine zy_drop 6 [zf 101 0, zf 9 0, zf 10 261, zf 35 272, zi ((i : Nat) : Int), zu, zu, zu, zu] rfl ?_
            exact cont υ _ hz2 hI (by omega)
          · have h1673 := fun q => h1673 (zcmp_eq.mpr q)
            first | exact absurd hth (by assumption) | exact absurd rfl (by assumption) | exact absurd (by assumption) (by assumption) | (exfalso; exact h1673 (by omega)) | (exfalso; omega)
      · first | exact absurd hth (by assumption) | exact absurd rfl (by assumption) | exact absurd (by assumption) (by assumption) | (exfalso; exact h1656 (by omega)) | (exfalso; omega)
    · obtain ⟨b, e, -⟩ := hK _ _ hq2
      cases e
  · obtain ⟨c, e, -⟩ := hS _ _ hq
    cases e
set_option maxRecDepth 20000 in
set_option maxHeartbeats 2000000 in
theorem lc_30 {l : Launch} {w : zW} (hfl : l.stackTraces = false) {hh : List (Nat × Nat × Nat × Nat)} {c0 s0 : Nat} {Z : List Frame → Array Value → State → State → Prop} (hc0 : c0 ≤ 1000) (hs0 : s0 ≤ 100000) (hLn : zSL w ≤ 3072) {i k : Nat} (hi : i + 6 ≤ zSL w) (hk : k ≤ i) {σ : zS} (hz : zOK σ) (hS : SimW l w False mL_bestYears mX10_bestYears 6 [zi (zSx w (i + 1)).toInt] σ) (cont : ∀ (τ : zS) (k' : Nat), zOK τ → Inv τ → k' ≤ k + 1 → zX l w (mL_law hh) (room_1, Z, c0, s0) 3069 [zf 101 0, zf 9 0, zf 10 261, zf 35 272, zi ((i : Nat) : Int), zu, zu, zu, zu] [] k' τ) : zX l w (mL_law hh) (room_1, Z, c0, s0) 1681 [zf 101 0, zf 9 0, zf 10 261, zf 35 272, zi ((i : Nat) : Int), zu, zu, zu, zu] [] k σ := by
  obtain ⟨QC, hC, hS⟩ := hS
  refine zx_aloadN dL_law_1681 rfl rfl ?_
  refine zx_aloadN dL_law_1682 rfl rfl ?_
  refine zx_iload dL_law_1683 rfl ?_
  refine zx_iconst dL_law_1685 ?_
  refine zx_iadd dL_law_1686 ?_
  refine zy_top (b := ((i + 1 : Nat) : Int)) (by omega) ?_
  refine zx_sld (by omega) (by omega) (by omega) dL_law_1687 ?_
  refine zx_aloadN dL_law_1688 rfl rfl ?_
  have hC1 : SpH l w mL_bestYears 10 1 [zf 9 0, zi ((zSx w (i + 1)).toInt), zf 35 272] σ QC := hC
  refine zy_csHq [zf 9 0, zi ((zSx w (i + 1)).toInt), zf 35 272] hC1 dL_law_1689 cw_RL_246 okL_bestYears rfl (Nat.le_of_ble_eq_true rfl) ⟨Nat.le_of_ble_eq_true rfl, Nat.le_of_ble_eq_true rfl, by first | (show c0 + _ ≤ 601024; omega), by first | (show s0 + 6 * _ ≤ 7293034; omega)⟩ (fun r τ hq => ?_) (fun E τ hq => ?_)
  · obtain ⟨c, e, hzc, hz1, QM, hM, hK⟩ := hS _ _ hq
    obtain rfl := Sum.inl.inj e
    rw [show ∀ (x : zV) (s : List zV), (some x).toList ++ s = x :: s from fun _ _ => rfl]
    refine zy_istore [zf 101 0, zf 9 0, zf 10 261, zf 35 272, zi ((i : Nat) : Int), zi c, zu, zu, zu] dL_law_1692 (Nat.le_of_ble_eq_true rfl) (Nat.le_of_ble_eq_true rfl) rfl rfl ?_
    refine zx_aloadN dL_law_1694 rfl rfl ?_
    refine zx_aloadN dL_law_1695 rfl rfl ?_
    refine zx_iload dL_law_1696 rfl ?_
    refine zx_iconst dL_law_1698 ?_
    refine zx_iadd dL_law_1699 ?_
    refine zy_top (b := ((i + 1 : Nat) : Int)) (by omega) ?_
    refine zx_sld (by omega) (by omega) (by omega) dL_law_1700 ?_
    refine zy_cvq [zi ((zSx w (i + 1)).toInt)] hM dL_law_1701 (by decide) rfl cw_RL_248 okX10_bestYears rfl (Nat.le_of_ble_eq_true rfl) ⟨Nat.le_of_ble_eq_true rfl, Nat.le_of_ble_eq_true rfl, by first | (show c0 + _ ≤ 601024; omega), by first | (show s0 + 6 * _ ≤ 7293034; omega)⟩ (fun r υ hq2 => ?_) (fun E υ hq2 => ?_)
    · obtain ⟨b, e, hz2, hth, hob, hB, hI⟩ := hK _ _ hq2
      obtain rfl := Sum.inl.inj e
      rw [show ∀ (x : zV) (s : List zV), (some x).toList ++ s = x :: s from fun _ _ => rfl]
      refine zy_nrm ?_
      have hzb := zt_r b
      refine zy_istore [zf 101 0, zf 9 0, zf 10 261, zf 35 272, zi ((i : Nat) : Int), zi c, zi (zt b), zu, zu] dL_law_1704 (Nat.le_of_ble_eq_true rfl) (Nat.le_of_ble_eq_true rfl) rfl rfl ?_
      refine zx_aloadN dL_law_1706 rfl rfl ?_
      refine zy_cv [] (sX10_thrown  hfl hz2 ) dL_law_1707 (by decide) rfl cw_RL_141 okX10_thrown rfl (Nat.le_of_ble_eq_true rfl) ⟨Nat.le_of_ble_eq_true rfl, Nat.le_of_ble_eq_true rfl, by first | (show c0 + _ ≤ 601024; omega), by first | (show s0 + 6 * _ ≤ 7293034; omega)⟩ ?_
      refine zx_iload dL_law_1710 rfl ?_
      refine zx_icmp_eq (tgt := 1717) (by first | exact hz2 _ _ | assumption | exact zr_b _ | exact zcmp_r _ _ | (unfold zr at *; omega)) (by first | exact hz2 _ _ | assumption | exact zr_b _ | exact zcmp_r _ _ | (unfold zr at *; omega)) dL_law_1712 (by decide) (fun h1712 => ?_) (fun h1712 => ?_)
      · refine zx_iload dL_law_1717 rfl ?_
        refine zx_if_ne (tgt := 1734) (by first | exact hz2 _ _ | assumption | exact zr_b _ | exact zcmp_r _ _ | (unfold zr at *; omega)) dL_law_1719 (by decide) (fun h1719 => ?_) (fun h1719 => ?_)
        · refine zx_goto (tgt := 3069) dL_law_1734 (by decide) ?_
          refine zy_drop 5 [zf 101 0, zf 9 0, zf 10 261, zf 35 272, zi ((i : Nat) : Int), zu, zi (zt b), zu, zu] rfl ?_
          refine zy_drop 6 [zf 101 0, zf 9 0, zf 10 261, zf 35 272, zi ((i : Nat) : Int), zu, zu, zu, zu] rfl ?_
          exact cont υ _ hz2 hI (by omega)
        · refine zx_aloadN dL_law_1722 rfl rfl ?_
          refine zx_iconst dL_law_1723 ?_
          refine zx_lald dL_law_1724 ?_
          rw [hob (by assumption)]
          refine zx_iload dL_law_1725 rfl ?_
          refine zx_i2l (by first | exact hz2 _ _ | assumption | exact zr_b _ | exact zcmp_r _ _ | (unfold zr at *; omega)) dL_law_1727 ?_
          refine zx_lcmp (by first | exact hz2 _ _ | assumption | exact zr_b _ | exact zcmp_r _ _ | (unfold zr at *; omega)) (by first | exact hz2 _ _ | assumption | exact zr_b _ | exact zcmp_r _ _ | (unfold zr at *; omega)) dL_law_1728 ?_
          refine zx_if_eq (tgt := 1734) (by first | exact hz2 _ _ | assumption | exact zr_b _ | exact zcmp_r _ _ | (unfold zr at *; omega)) dL_law_1729 (by decide) (fun h1729 => ?_) (fun h1729 => ?_)
          · have h1729 := zcmp_eq.mp h1729
            refine zx_goto (tgt := 3069) dL_law_1734 (by decide) ?_
            refine zy_drop 5 [zf 101 0, zf 9 0, zf 10 261, zf 35 272, zi ((i : Nat) : Int), zu, zi (zt b), zu, zu] rfl ?_
            refine zy_drop 6 [zf 101 0, zf 9 0, zf 10 261, zf 35 272, zi ((i : Nat) : Int), zu, zu, zu, zu] rfl ?_
            exact cont υ _ hz2 hI (by omega)
          · have h1729 := fun q => h1729 (zcmp_eq.mpr q)
            first | exact absurd hth (by assumption) | exact absurd rfl (by assumption) | exact absurd (by assumption) (by assumption) | (exfalso; exact h1729 (by omega)) | (exfalso; omega)
      · first | exact absurd hth (by assumption) | exact absurd rfl (by assumption) | exact absurd (by assumption) (by assumption) | (exfalso; exact h1712 (by omega)) | (exfalso; omega)
    · obtain ⟨b, e, -⟩ := hK _ _ hq2
      cases e
  · obtain ⟨c, e, -⟩ := hS _ _ hq
    cases e
set_option maxRecDepth 20000 in
set_option maxHeartbeats 2000000 in
theorem lc_31 {l : Launch} {w : zW} (hfl : l.stackTraces = false) {hh : List (Nat × Nat × Nat × Nat)} {c0 s0 : Nat} {Z : List Frame → Array Value → State → State → Prop} (hc0 : c0 ≤ 1000) (hs0 : s0 ≤ 100000) (hLn : zSL w ≤ 3072) {i k : Nat} (hi : i + 6 ≤ zSL w) (hk : k ≤ i) {σ : zS} (hz : zOK σ) (hS : SimD l w mX9_printerByRank mX10_printerByRank 6 9 [zi (zSx w (i + 1)).toInt] σ) (cont : ∀ (τ : zS) (k' : Nat), zOK τ → Inv τ → k' ≤ k + 1 → zX l w (mL_law hh) (room_1, Z, c0, s0) 3069 [zf 101 0, zf 9 0, zf 10 261, zf 35 272, zi ((i : Nat) : Int), zu, zu, zu, zu] [] k' τ) : zX l w (mL_law hh) (room_1, Z, c0, s0) 1737 [zf 101 0, zf 9 0, zf 10 261, zf 35 272, zi ((i : Nat) : Int), zu, zu, zu, zu] [] k σ := by
  obtain ⟨QC, hC, hS⟩ := hS
  refine zx_aloadN dL_law_1737 rfl rfl ?_
  refine zx_aloadN dL_law_1738 rfl rfl ?_
  refine zx_iload dL_law_1739 rfl ?_
  refine zx_iconst dL_law_1741 ?_
  refine zx_iadd dL_law_1742 ?_
  refine zy_top (b := ((i + 1 : Nat) : Int)) (by omega) ?_
  refine zx_sld (by omega) (by omega) (by omega) dL_law_1743 ?_
  refine zy_cvq [zi ((zSx w (i + 1)).toInt)] hC dL_law_1744 (by decide) rfl cw_RL_249 okX9_printerByRank rfl (Nat.le_of_ble_eq_true rfl) ⟨Nat.le_of_ble_eq_true rfl, Nat.le_of_ble_eq_true rfl, by first | (show c0 + _ ≤ 601024; omega), by first | (show s0 + 6 * _ ≤ 7293034; omega)⟩ (fun r τ hq => ?_) (fun E τ hq => ?_)
  · obtain ⟨c, e, hz1, QM, hM, hK⟩ := hS _ _ hq
    obtain rfl := Sum.inl.inj e
    rw [show ∀ (x : zV) (s : List zV), (some x).toList ++ s = x :: s from fun _ _ => rfl]
    refine zy_nrm ?_
    have hzc := zt_r c
    refine zx_aloadN dL_law_1747 rfl rfl ?_
    refine zx_aloadN dL_law_1748 rfl rfl ?_
    refine zx_iload dL_law_1749 rfl ?_
    refine zx_iconst dL_law_1751 ?_
    refine zx_iadd dL_law_1752 ?_
    refine zy_top (b := ((i + 1 : Nat) : Int)) (by omega) ?_
    refine zx_sld (by omega) (by omega) (by omega) dL_law_1753 ?_
    refine zy_cvq [zi ((zSx w (i + 1)).toInt)] hM dL_law_1754 (by decide) rfl cw_RL_252 okX10_printerByRank rfl (Nat.le_of_ble_eq_true rfl) ⟨Nat.le_of_ble_eq_true rfl, Nat.le_of_ble_eq_true rfl, by first | (show c0 + _ ≤ 601024; omega), by first | (show s0 + 6 * _ ≤ 7293034; omega)⟩ (fun r υ hq2 => ?_) (fun E υ hq2 => ?_)
    · obtain ⟨e, hz2, hI⟩ := hK _ _ hq2
      obtain rfl := Sum.inl.inj e
      rw [show ∀ (x : zV) (s : List zV), (some x).toList ++ s = x :: s from fun _ _ => rfl]
      refine zy_nrm ?_
      refine zx_icmp_eq (tgt := 3069) (by first | exact hz2 _ _ | assumption | exact zr_b _ | exact zcmp_r _ _ | (unfold zr at *; omega)) (by first | exact hz2 _ _ | assumption | exact zr_b _ | exact zcmp_r _ _ | (unfold zr at *; omega)) dL_law_1757 (by decide) (fun h1757 => ?_) (fun h1757 => ?_)
      · exact cont υ _ hz2 hI (by omega)
      · first | exact absurd hth (by assumption) | exact absurd rfl (by assumption) | exact absurd (by assumption) (by assumption) | (exfalso; exact h1757 (by omega)) | (exfalso; omega)
    · obtain ⟨e, -⟩ := hK _ _ hq2
      cases e
  · obtain ⟨c, e, -⟩ := hS _ _ hq
    cases e
set_option maxRecDepth 20000 in
set_option maxHeartbeats 2000000 in
theorem lc_32 {l : Launch} {w : zW} (hfl : l.stackTraces = false) {hh : List (Nat × Nat × Nat × Nat)} {c0 s0 : Nat} {Z : List Frame → Array Value → State → State → Prop} (hc0 : c0 ≤ 1000) (hs0 : s0 ≤ 100000) (hLn : zSL w ≤ 3072) {i k : Nat} (hi : i + 6 ≤ zSL w) (hk : k ≤ i) {σ : zS} (hz : zOK σ) (hS : SimD l w mX9_verdictPrinter mX10_verdictPrinter 6 10 [] σ) (cont : ∀ (τ : zS) (k' : Nat), zOK τ → Inv τ → k' ≤ k + 1 → zX l w (mL_law hh) (room_1, Z, c0, s0) 3069 [zf 101 0, zf 9 0, zf 10 261, zf 35 272, zi ((i : Nat) : Int), zu, zu, zu, zu] [] k' τ) : zX l w (mL_law hh) (room_1, Z, c0, s0) 1762 [zf 101 0, zf 9 0, zf 10 261, zf 35 272, zi ((i : Nat) : Int), zu, zu, zu, zu] [] k σ := by
  obtain ⟨QC, hC, hS⟩ := hS
  refine zx_aloadN dL_law_1762 rfl rfl ?_
  refine zy_cvq [] hC dL_law_1763 (by decide) rfl cw_RL_253 okX9_verdictPrinter rfl (Nat.le_of_ble_eq_true rfl) ⟨Nat.le_of_ble_eq_true rfl, Nat.le_of_ble_eq_true rfl, by first | (show c0 + _ ≤ 601024; omega), by first | (show s0 + 6 * _ ≤ 7293034; omega)⟩ (fun r τ hq => ?_) (fun E τ hq => ?_)
  · obtain ⟨c, e, hz1, QM, hM, hK⟩ := hS _ _ hq
    obtain rfl := Sum.inl.inj e
    rw [show ∀ (x : zV) (s : List zV), (some x).toList ++ s = x :: s from fun _ _ => rfl]
    refine zy_nrm ?_
    have hzc := zt_r c
    refine zx_aloadN dL_law_1766 rfl rfl ?_
    refine zy_cvq [] hM dL_law_1767 (by decide) rfl cw_RL_256 okX10_verdictPrinter rfl (Nat.le_of_ble_eq_true rfl) ⟨Nat.le_of_ble_eq_true rfl, Nat.le_of_ble_eq_true rfl, by first | (show c0 + _ ≤ 601024; omega), by first | (show s0 + 6 * _ ≤ 7293034; omega)⟩ (fun r υ hq2 => ?_) (fun E υ hq2 => ?_)
    · obtain ⟨e, hz2, hI⟩ := hK _ _ hq2
      obtain rfl := Sum.inl.inj e
      rw [show ∀ (x : zV) (s : List zV), (some x).toList ++ s = x :: s from fun _ _ => rfl]
      refine zy_nrm ?_
      refine zx_icmp_eq (tgt := 3069) (by first | exact hz2 _ _ | assumption | exact zr_b _ | exact zcmp_r _ _ | (unfold zr at *; omega)) (by first | exact hz2 _ _ | assumption | exact zr_b _ | exact zcmp_r _ _ | (unfold zr at *; omega)) dL_law_1770 (by decide) (fun h1770 => ?_) (fun h1770 => ?_)
      · exact cont υ _ hz2 hI (by omega)
      · first | exact absurd hth (by assumption) | exact absurd rfl (by assumption) | exact absurd (by assumption) (by assumption) | (exfalso; exact h1770 (by omega)) | (exfalso; omega)
    · obtain ⟨e, -⟩ := hK _ _ hq2
      cases e
  · obtain ⟨c, e, -⟩ := hS _ _ hq
    cases e
set_option maxRecDepth 20000 in
set_option maxHeartbeats 2000000 in
theorem lc_33 {l : Launch} {w : zW} (hfl : l.stackTraces = false) {hh : List (Nat × Nat × Nat × Nat)} {c0 s0 : Nat} {Z : List Frame → Array Value → State → State → Prop} (hc0 : c0 ≤ 1000) (hs0 : s0 ≤ 100000) (hLn : zSL w ≤ 3072) {i k : Nat} (hi : i + 6 ≤ zSL w) (hk : k ≤ i) {σ : zS} (hz : zOK σ) (hS : SimD l w mX9_verdictYear mX10_verdictYear 6 11 [] σ) (cont : ∀ (τ : zS) (k' : Nat), zOK τ → Inv τ → k' ≤ k + 1 → zX l w (mL_law hh) (room_1, Z, c0, s0) 3069 [zf 101 0, zf 9 0, zf 10 261, zf 35 272, zi ((i : Nat) : Int), zu, zu, zu, zu] [] k' τ) : zX l w (mL_law hh) (room_1, Z, c0, s0) 1775 [zf 101 0, zf 9 0, zf 10 261, zf 35 272, zi ((i : Nat) : Int), zu, zu, zu, zu] [] k σ := by
  obtain ⟨QC, hC, hS⟩ := hS
  refine zx_aloadN dL_law_1775 rfl rfl ?_
  refine zy_cvq [] hC dL_law_1776 (by decide) rfl cw_RL_257 okX9_verdictYear rfl (Nat.le_of_ble_eq_true rfl) ⟨Nat.le_of_ble_eq_true rfl, Nat.le_of_ble_eq_true rfl, by first | (show c0 + _ ≤ 601024; omega), by first | (show s0 + 6 * _ ≤ 7293034; omega)⟩ (fun r τ hq => ?_) (fun E τ hq => ?_)
  · obtain ⟨c, e, hz1, QM, hM, hK⟩ := hS _ _ hq
    obtain rfl := Sum.inl.inj e
    rw [show ∀ (x : zV) (s : List zV), (some x).toList ++ s = x :: s from fun _ _ => rfl]
    refine zy_nrm ?_
    have hzc := zt_r c
    refine zx_aloadN dL_law_1779 rfl rfl ?_
    refine zy_cvq [] hM dL_law_1780 (by decide) rfl cw_RL_260 okX10_verdictYear rfl (Nat.le_of_ble_eq_true rfl) ⟨Nat.le_of_ble_eq_true rfl, Nat.le_of_ble_eq_true rfl, by first | (show c0 + _ ≤ 601024; omega), by first | (show s0 + 6 * _ ≤ 7293034; omega)⟩ (fun r υ hq2 => ?_) (fun E υ hq2 => ?_)
    · obtain ⟨e, hz2, hI⟩ := hK _ _ hq2
      obtain rfl := Sum.inl.inj e
      rw [show ∀ (x : zV) (s : List zV), (some x).toList ++ s = x :: s from fun _ _ => rfl]
      refine zy_nrm ?_
      refine zx_icmp_eq (tgt := 3069) (by first | exact hz2 _ _ | assumption | exact zr_b _ | exact zcmp_r _ _ | (unfold zr at *; omega)) (by first | exact hz2 _ _ | assumption | exact zr_b _ | exact zcmp_r _ _ | (unfold zr at *; omega)) dL_law_1783 (by decide) (fun h1783 => ?_) (fun h1783 => ?_)
      · exact cont υ _ hz2 hI (by omega)
      · first | exact absurd hth (by assumption) | exact absurd rfl (by assumption) | exact absurd (by assumption) (by assumption) | (exfalso; exact h1783 (by omega)) | (exfalso; omega)
    · obtain ⟨e, -⟩ := hK _ _ hq2
      cases e
  · obtain ⟨c, e, -⟩ := hS _ _ hq
    cases e
set_option maxRecDepth 20000 in
set_option maxHeartbeats 2000000 in
theorem lc_34 {l : Launch} {w : zW} (hfl : l.stackTraces = false) {hh : List (Nat × Nat × Nat × Nat)} {c0 s0 : Nat} {Z : List Frame → Array Value → State → State → Prop} (hc0 : c0 ≤ 1000) (hs0 : s0 ≤ 100000) (hLn : zSL w ≤ 3072) {i k : Nat} (hi : i + 6 ≤ zSL w) (hk : k ≤ i) {σ : zS} (hz : zOK σ) (hS : SimD l w mX9_verdictScore mX10_verdictScore 6 12 [] σ) (cont : ∀ (τ : zS) (k' : Nat), zOK τ → Inv τ → k' ≤ k + 1 → zX l w (mL_law hh) (room_1, Z, c0, s0) 3069 [zf 101 0, zf 9 0, zf 10 261, zf 35 272, zi ((i : Nat) : Int), zu, zu, zu, zu] [] k' τ) : zX l w (mL_law hh) (room_1, Z, c0, s0) 1788 [zf 101 0, zf 9 0, zf 10 261, zf 35 272, zi ((i : Nat) : Int), zu, zu, zu, zu] [] k σ := by
  obtain ⟨QC, hC, hS⟩ := hS
  refine zx_aloadN dL_law_1788 rfl rfl ?_
  refine zy_cvq [] hC dL_law_1789 (by decide) rfl cw_RL_261 okX9_verdictScore rfl (Nat.le_of_ble_eq_true rfl) ⟨Nat.le_of_ble_eq_true rfl, Nat.le_of_ble_eq_true rfl, by first | (show c0 + _ ≤ 601024; omega), by first | (show s0 + 6 * _ ≤ 7293034; omega)⟩ (fun r τ hq => ?_) (fun E τ hq => ?_)
  · obtain ⟨c, e, hz1, QM, hM, hK⟩ := hS _ _ hq
    obtain rfl := Sum.inl.inj e
    rw [show ∀ (x : zV) (s : List zV), (some x).toList ++ s = x :: s from fun _ _ => rfl]
    refine zy_nrm ?_
    have hzc := zt_r c
    refine zx_aloadN dL_law_1792 rfl rfl ?_
    refine zy_cvq [] hM dL_law_1793 (by decide) rfl cw_RL_264 okX10_verdictScore rfl (Nat.le_of_ble_eq_true rfl) ⟨Nat.le_of_ble_eq_true rfl, Nat.le_of_ble_eq_true rfl, by first | (show c0 + _ ≤ 601024; omega), by first | (show s0 + 6 * _ ≤ 7293034; omega)⟩ (fun r υ hq2 => ?_) (fun E υ hq2 => ?_)
    · obtain ⟨e, hz2, hI⟩ := hK _ _ hq2
      obtain rfl := Sum.inl.inj e
      rw [show ∀ (x : zV) (s : List zV), (some x).toList ++ s = x :: s from fun _ _ => rfl]
      refine zy_nrm ?_
      refine zx_icmp_eq (tgt := 3069) (by first | exact hz2 _ _ | assumption | exact zr_b _ | exact zcmp_r _ _ | (unfold zr at *; omega)) (by first | exact hz2 _ _ | assumption | exact zr_b _ | exact zcmp_r _ _ | (unfold zr at *; omega)) dL_law_1796 (by decide) (fun h1796 => ?_) (fun h1796 => ?_)
      · exact cont υ _ hz2 hI (by omega)
      · first | exact absurd hth (by assumption) | exact absurd rfl (by assumption) | exact absurd (by assumption) (by assumption) | (exfalso; exact h1796 (by omega)) | (exfalso; omega)
    · obtain ⟨e, -⟩ := hK _ _ hq2
      cases e
  · obtain ⟨c, e, -⟩ := hS _ _ hq
    cases e
set_option maxRecDepth 20000 in
set_option maxHeartbeats 2000000 in
theorem lc_35 {l : Launch} {w : zW} (hfl : l.stackTraces = false) {hh : List (Nat × Nat × Nat × Nat)} {c0 s0 : Nat} {Z : List Frame → Array Value → State → State → Prop} (hc0 : c0 ≤ 1000) (hs0 : s0 ≤ 100000) (hLn : zSL w ≤ 3072) {i k : Nat} (hi : i + 6 ≤ zSL w) (hk : k ≤ i) {σ : zS} (hz : zOK σ) (hS : SimD l w mX9_margin mX10_margin 6 8 [] σ) (cont : ∀ (τ : zS) (k' : Nat), zOK τ → Inv τ → k' ≤ k + 1 → zX l w (mL_law hh) (room_1, Z, c0, s0) 3069 [zf 101 0, zf 9 0, zf 10 261, zf 35 272, zi ((i : Nat) : Int), zu, zu, zu, zu] [] k' τ) : zX l w (mL_law hh) (room_1, Z, c0, s0) 1801 [zf 101 0, zf 9 0, zf 10 261, zf 35 272, zi ((i : Nat) : Int), zu, zu, zu, zu] [] k σ := by
  obtain ⟨QC, hC, hS⟩ := hS
  refine zx_aloadN dL_law_1801 rfl rfl ?_
  refine zy_cvq [] hC dL_law_1802 (by decide) rfl cw_RL_265 okX9_margin rfl (Nat.le_of_ble_eq_true rfl) ⟨Nat.le_of_ble_eq_true rfl, Nat.le_of_ble_eq_true rfl, by first | (show c0 + _ ≤ 601024; omega), by first | (show s0 + 6 * _ ≤ 7293034; omega)⟩ (fun r τ hq => ?_) (fun E τ hq => ?_)
  · obtain ⟨c, e, hz1, QM, hM, hK⟩ := hS _ _ hq
    obtain rfl := Sum.inl.inj e
    rw [show ∀ (x : zV) (s : List zV), (some x).toList ++ s = x :: s from fun _ _ => rfl]
    refine zy_nrm ?_
    have hzc := zt_r c
    refine zx_aloadN dL_law_1805 rfl rfl ?_
    refine zy_cvq [] hM dL_law_1806 (by decide) rfl cw_RL_268 okX10_margin rfl (Nat.le_of_ble_eq_true rfl) ⟨Nat.le_of_ble_eq_true rfl, Nat.le_of_ble_eq_true rfl, by first | (show c0 + _ ≤ 601024; omega), by first | (show s0 + 6 * _ ≤ 7293034; omega)⟩ (fun r υ hq2 => ?_) (fun E υ hq2 => ?_)
    · obtain ⟨e, hz2, hI⟩ := hK _ _ hq2
      obtain rfl := Sum.inl.inj e
      rw [show ∀ (x : zV) (s : List zV), (some x).toList ++ s = x :: s from fun _ _ => rfl]
      refine zy_nrm ?_
      refine zx_icmp_eq (tgt := 3069) (by first | exact hz2 _ _ | assumption | exact zr_b _ | exact zcmp_r _ _ | (unfold zr at *; omega)) (by first | exact hz2 _ _ | assumption | exact zr_b _ | exact zcmp_r _ _ | (unfold zr at *; omega)) dL_law_1809 (by decide) (fun h1809 => ?_) (fun h1809 => ?_)
      · exact cont υ _ hz2 hI (by omega)
      · first | exact absurd hth (by assumption) | exact absurd rfl (by assumption) | exact absurd (by assumption) (by assumption) | (exfalso; exact h1809 (by omega)) | (exfalso; omega)
    · obtain ⟨e, -⟩ := hK _ _ hq2
      cases e
  · obtain ⟨c, e, -⟩ := hS _ _ hq
    cases e
set_option maxRecDepth 20000 in
set_option maxHeartbeats 2000000 in
theorem lc_36 {l : Launch} {w : zW} (hfl : l.stackTraces = false) {hh : List (Nat × Nat × Nat × Nat)} {c0 s0 : Nat} {Z : List Frame → Array Value → State → State → Prop} (hc0 : c0 ≤ 1000) (hs0 : s0 ≤ 100000) (hLn : zSL w ≤ 3072) {i k : Nat} (hi : i + 6 ≤ zSL w) (hk : k ≤ i) {σ : zS} (hz : zOK σ) (hS : SimD l w mX9_unexplainedCount mX10_unexplainedCount 6 11 [] σ) (cont : ∀ (τ : zS) (k' : Nat), zOK τ → Inv τ → k' ≤ k + 1 → zX l w (mL_law hh) (room_1, Z, c0, s0) 3069 [zf 101 0, zf 9 0, zf 10 261, zf 35 272, zi ((i : Nat) : Int), zu, zu, zu, zu] [] k' τ) : zX l w (mL_law hh) (room_1, Z, c0, s0) 1814 [zf 101 0, zf 9 0, zf 10 261, zf 35 272, zi ((i : Nat) : Int), zu, zu, zu, zu] [] k σ := by
  obtain ⟨QC, hC, hS⟩ := hS
  refine zx_aloadN dL_law_1814 rfl rfl ?_
  refine zy_cvq [] hC dL_law_1815 (by decide) rfl cw_RL_269 okX9_unexplainedCount rfl (Nat.le_of_ble_eq_true rfl) ⟨Nat.le_of_ble_eq_true rfl, Nat.le_of_ble_eq_true rfl, by first | (show c0 + _ ≤ 601024; omega), by first | (show s0 + 6 * _ ≤ 7293034; omega)⟩ (fun r τ hq => ?_) (fun E τ hq => ?_)
  · obtain ⟨c, e, hz1, QM, hM, hK⟩ := hS _ _ hq
    obtain rfl := Sum.inl.inj e
    rw [show ∀ (x : zV) (s : List zV), (some x).toList ++ s = x :: s from fun _ _ => rfl]
    refine zy_nrm ?_
    have hzc := zt_r c
    refine zx_aloadN dL_law_1818 rfl rfl ?_
    refine zy_cvq [] hM dL_law_1819 (by decide) rfl cw_RL_272 okX10_unexplainedCount rfl (Nat.le_of_ble_eq_true rfl) ⟨Nat.le_of_ble_eq_true rfl, Nat.le_of_ble_eq_true rfl, by first | (show c0 + _ ≤ 601024; omega), by first | (show s0 + 6 * _ ≤ 7293034; omega)⟩ (fun r υ hq2 => ?_) (fun E υ hq2 => ?_)
    · obtain ⟨e, hz2, hI⟩ := hK _ _ hq2
      obtain rfl := Sum.inl.inj e
      rw [show ∀ (x : zV) (s : List zV), (some x).toList ++ s = x :: s from fun _ _ => rfl]
      refine zy_nrm ?_
      refine zx_icmp_eq (tgt := 3069) (by first | exact hz2 _ _ | assumption | exact zr_b _ | exact zcmp_r _ _ | (unfold zr at *; omega)) (by first | exact hz2 _ _ | assumption | exact zr_b _ | exact zcmp_r _ _ | (unfold zr at *; omega)) dL_law_1822 (by decide) (fun h1822 => ?_) (fun h1822 => ?_)
      · exact cont υ _ hz2 hI (by omega)
      · first | exact absurd hth (by assumption) | exact absurd rfl (by assumption) | exact absurd (by assumption) (by assumption) | (exfalso; exact h1822 (by omega)) | (exfalso; omega)
    · obtain ⟨e, -⟩ := hK _ _ hq2
      cases e
  · obtain ⟨c, e, -⟩ := hS _ _ hq
    cases e
set_option maxRecDepth 20000 in
set_option maxHeartbeats 2000000 in
theorem lc_37 {l : Launch} {w : zW} (hfl : l.stackTraces = false) {hh : List (Nat × Nat × Nat × Nat)} {c0 s0 : Nat} {Z : List Frame → Array Value → State → State → Prop} (hc0 : c0 ≤ 1000) (hs0 : s0 ≤ 100000) (hLn : zSL w ≤ 3072) {i k : Nat} (hi : i + 6 ≤ zSL w) (hk : k ≤ i) {σ : zS} (hz : zOK σ) (hS : SimD l w mX9_unexplainedClue mX10_unexplainedClue 6 11 [zi (zSx w (i + 1)).toInt] σ) (cont : ∀ (τ : zS) (k' : Nat), zOK τ → Inv τ → k' ≤ k + 1 → zX l w (mL_law hh) (room_1, Z, c0, s0) 3069 [zf 101 0, zf 9 0, zf 10 261, zf 35 272, zi ((i : Nat) : Int), zu, zu, zu, zu] [] k' τ) : zX l w (mL_law hh) (room_1, Z, c0, s0) 1827 [zf 101 0, zf 9 0, zf 10 261, zf 35 272, zi ((i : Nat) : Int), zu, zu, zu, zu] [] k σ := by
  obtain ⟨QC, hC, hS⟩ := hS
  refine zx_aloadN dL_law_1827 rfl rfl ?_
  refine zx_aloadN dL_law_1828 rfl rfl ?_
  refine zx_iload dL_law_1829 rfl ?_
  refine zx_iconst dL_law_1831 ?_
  refine zx_iadd dL_law_1832 ?_
  refine zy_top (b := ((i + 1 : Nat) : Int)) (by omega) ?_
  refine zx_sld (by omega) (by omega) (by omega) dL_law_1833 ?_
  refine zy_cvq [zi ((zSx w (i + 1)).toInt)] hC dL_law_1834 (by decide) rfl cw_RL_273 okX9_unexplainedClue rfl (Nat.le_of_ble_eq_true rfl) ⟨Nat.le_of_ble_eq_true rfl, Nat.le_of_ble_eq_true rfl, by first | (show c0 + _ ≤ 601024; omega), by first | (show s0 + 6 * _ ≤ 7293034; omega)⟩ (fun r τ hq => ?_) (fun E τ hq => ?_)
  · obtain ⟨c, e, hz1, QM, hM, hK⟩ := hS _ _ hq
    obtain rfl := Sum.inl.inj e
    rw [show ∀ (x : zV) (s : List zV), (some x).toList ++ s = x :: s from fun _ _ => rfl]
    refine zy_nrm ?_
    have hzc := zt_r c
    refine zx_aloadN dL_law_1837 rfl rfl ?_
    refine zx_aloadN dL_law_1838 rfl rfl ?_
    refine zx_iload dL_law_1839 rfl ?_
    refine zx_iconst dL_law_1841 ?_
    refine zx_iadd dL_law_1842 ?_
    refine zy_top (b := ((i + 1 : Nat) : Int)) (by omega) ?_
    refine zx_sld (by omega) (by omega) (by omega) dL_law_1843 ?_
    refine zy_cvq [zi ((zSx w (i + 1)).toInt)] hM dL_law_1844 (by decide) rfl cw_RL_276 okX10_unexplainedClue rfl (Nat.le_of_ble_eq_true rfl) ⟨Nat.le_of_ble_eq_true rfl, Nat.le_of_ble_eq_true rfl, by first | (show c0 + _ ≤ 601024; omega), by first | (show s0 + 6 * _ ≤ 7293034; omega)⟩ (fun r υ hq2 => ?_) (fun E υ hq2 => ?_)
    · obtain ⟨e, hz2, hI⟩ := hK _ _ hq2
      obtain rfl := Sum.inl.inj e
      rw [show ∀ (x : zV) (s : List zV), (some x).toList ++ s = x :: s from fun _ _ => rfl]
      refine zy_nrm ?_
      refine zx_icmp_eq (tgt := 3069) (by first | exact hz2 _ _ | assumption | exact zr_b _ | exact zcmp_r _ _ | (unfold zr at *; omega)) (by first | exact hz2 _ _ | assumption | exact zr_b _ | exact zcmp_r _ _ | (unfold zr at *; omega)) dL_law_1847 (by decide) (fun h1847 => ?_) (fun h1847 => ?_)
      · exact cont υ _ hz2 hI (by omega)
      · first | exact absurd hth (by assumption) | exact absurd rfl (by assumption) | exact absurd (by assumption) (by assumption) | (exfalso; exact h1847 (by omega)) | (exfalso; omega)
    · obtain ⟨e, -⟩ := hK _ _ hq2
      cases e
  · obtain ⟨c, e, -⟩ := hS _ _ hq
    cases e
set_option maxRecDepth 20000 in
set_option maxHeartbeats 2000000 in
theorem lc_38 {l : Launch} {w : zW} (hfl : l.stackTraces = false) {hh : List (Nat × Nat × Nat × Nat)} {c0 s0 : Nat} {Z : List Frame → Array Value → State → State → Prop} (hc0 : c0 ≤ 1000) (hs0 : s0 ≤ 100000) (hLn : zSL w ≤ 3072) {i k : Nat} (hi : i + 6 ≤ zSL w) (hk : k ≤ i) {σ : zS} (hz : zOK σ) (hS : SimD l w mX9_matchingEdition mX10_matchingEdition 6 11 [] σ) (cont : ∀ (τ : zS) (k' : Nat), zOK τ → Inv τ → k' ≤ k + 1 → zX l w (mL_law hh) (room_1, Z, c0, s0) 3069 [zf 101 0, zf 9 0, zf 10 261, zf 35 272, zi ((i : Nat) : Int), zu, zu, zu, zu] [] k' τ) : zX l w (mL_law hh) (room_1, Z, c0, s0) 1852 [zf 101 0, zf 9 0, zf 10 261, zf 35 272, zi ((i : Nat) : Int), zu, zu, zu, zu] [] k σ := by
  obtain ⟨QC, hC, hS⟩ := hS
  refine zx_aloadN dL_law_1852 rfl rfl ?_
  refine zy_cvq [] hC dL_law_1853 (by decide) rfl cw_RL_277 okX9_matchingEdition rfl (Nat.le_of_ble_eq_true rfl) ⟨Nat.le_of_ble_eq_true rfl, Nat.le_of_ble_eq_true rfl, by first | (show c0 + _ ≤ 601024; omega), by first | (show s0 + 6 * _ ≤ 7293034; omega)⟩ (fun r τ hq => ?_) (fun E τ hq => ?_)
  · obtain ⟨c, e, hz1, QM, hM, hK⟩ := hS _ _ hq
    obtain rfl := Sum.inl.inj e
    rw [show ∀ (x : zV) (s : List zV), (some x).toList ++ s = x :: s from fun _ _ => rfl]
    refine zy_nrm ?_
    have hzc := zt_r c
    refine zx_aloadN dL_law_1856 rfl rfl ?_
    refine zy_cvq [] hM dL_law_1857 (by decide) rfl cw_RL_280 okX10_matchingEdition rfl (Nat.le_of_ble_eq_true rfl) ⟨Nat.le_of_ble_eq_true rfl, Nat.le_of_ble_eq_true rfl, by first | (show c0 + _ ≤ 601024; omega), by first | (show s0 + 6 * _ ≤ 7293034; omega)⟩ (fun r υ hq2 => ?_) (fun E υ hq2 => ?_)
    · obtain ⟨e, hz2, hI⟩ := hK _ _ hq2
      obtain rfl := Sum.inl.inj e
      rw [show ∀ (x : zV) (s : List zV), (some x).toList ++ s = x :: s from fun _ _ => rfl]
      refine zy_nrm ?_
      refine zx_icmp_eq (tgt := 3069) (by first | exact hz2 _ _ | assumption | exact zr_b _ | exact zcmp_r _ _ | (unfold zr at *; omega)) (by first | exact hz2 _ _ | assumption | exact zr_b _ | exact zcmp_r _ _ | (unfold zr at *; omega)) dL_law_1860 (by decide) (fun h1860 => ?_) (fun h1860 => ?_)
      · exact cont υ _ hz2 hI (by omega)
      · first | exact absurd hth (by assumption) | exact absurd rfl (by assumption) | exact absurd (by assumption) (by assumption) | (exfalso; exact h1860 (by omega)) | (exfalso; omega)
    · obtain ⟨e, -⟩ := hK _ _ hq2
      cases e
  · obtain ⟨c, e, -⟩ := hS _ _ hq
    cases e
set_option maxRecDepth 20000 in
set_option maxHeartbeats 2000000 in
theorem lc_39 {l : Launch} {w : zW} (hfl : l.stackTraces = false) {hh : List (Nat × Nat × Nat × Nat)} {c0 s0 : Nat} {Z : List Frame → Array Value → State → State → Prop} (hc0 : c0 ≤ 1000) (hs0 : s0 ≤ 100000) (hLn : zSL w ≤ 3072) {i k : Nat} (hi : i + 6 ≤ zSL w) (hk : k ≤ i) {σ : zS} (hz : zOK σ) (hS : SimW l w True mL_contradict mX10_contradict 7 [zi (zSx w (i + 1)).toInt, zi (zSx w (i + 2)).toInt] σ) (cont : ∀ (τ : zS) (k' : Nat), zOK τ → Inv τ → k' ≤ k + 1 → zX l w (mL_law hh) (room_1, Z, c0, s0) 3069 [zf 101 0, zf 9 0, zf 10 261, zf 35 272, zi ((i : Nat) : Int), zu, zu, zu, zu] [] k' τ) : zX l w (mL_law hh) (room_1, Z, c0, s0) 1865 [zf 101 0, zf 9 0, zf 10 261, zf 35 272, zi ((i : Nat) : Int), zu, zu, zu, zu] [] k σ := by
  obtain ⟨QC, hC, hS⟩ := hS
  refine zx_aloadN dL_law_1865 rfl rfl ?_
  refine zx_aloadN dL_law_1866 rfl rfl ?_
  refine zx_iload dL_law_1867 rfl ?_
  refine zx_iconst dL_law_1869 ?_
  refine zx_iadd dL_law_1870 ?_
  refine zy_top (b := ((i + 1 : Nat) : Int)) (by omega) ?_
  refine zx_sld (by omega) (by omega) (by omega) dL_law_1871 ?_
  refine zx_aloadN dL_law_1872 rfl rfl ?_
  refine zx_iload dL_law_1873 rfl ?_
  refine zx_iconst dL_law_1875 ?_
  refine zx_iadd dL_law_1876 ?_
  refine zy_top (b := ((i + 2 : Nat) : Int)) (by omega) ?_
  refine zx_sld (by omega) (by omega) (by omega) dL_law_1877 ?_
  refine zx_aloadN dL_law_1878 rfl rfl ?_
  have hC1 : SpH l w mL_contradict 10 1 [zf 9 0, zi ((zSx w (i + 1)).toInt), zi ((zSx w (i + 2)).toInt), zf 35 272] σ QC := hC
  refine zy_csHq [zf 9 0, zi ((zSx w (i + 1)).toInt), zi ((zSx w (i + 2)).toInt), zf 35 272] hC1 dL_law_1879 cw_RL_281 okL_contradict rfl (Nat.le_of_ble_eq_true rfl) ⟨Nat.le_of_ble_eq_true rfl, Nat.le_of_ble_eq_true rfl, by first | (show c0 + _ ≤ 601024; omega), by first | (show s0 + 6 * _ ≤ 7293034; omega)⟩ (fun r τ hq => ?_) (fun E τ hq => ?_)
  · obtain ⟨c, e, hzc, hz1, QM, hM, hK⟩ := hS _ _ hq
    obtain rfl := Sum.inl.inj e
    rw [show ∀ (x : zV) (s : List zV), (some x).toList ++ s = x :: s from fun _ _ => rfl]
    refine zy_istore [zf 101 0, zf 9 0, zf 10 261, zf 35 272, zi ((i : Nat) : Int), zi c, zu, zu, zu] dL_law_1882 (Nat.le_of_ble_eq_true rfl) (Nat.le_of_ble_eq_true rfl) rfl rfl ?_
    refine zx_aloadN dL_law_1884 rfl rfl ?_
    refine zx_aloadN dL_law_1885 rfl rfl ?_
    refine zx_iload dL_law_1886 rfl ?_
    refine zx_iconst dL_law_1888 ?_
    refine zx_iadd dL_law_1889 ?_
    refine zy_top (b := ((i + 1 : Nat) : Int)) (by omega) ?_
    refine zx_sld (by omega) (by omega) (by omega) dL_law_1890 ?_
    refine zx_aloadN dL_law_1891 rfl rfl ?_
    refine zx_iload dL_law_1892 rfl ?_
    refine zx_iconst dL_law_1894 ?_
    refine zx_iadd dL_law_1895 ?_
    refine zy_top (b := ((i + 2 : Nat) : Int)) (by omega) ?_
    refine zx_sld (by omega) (by omega) (by omega) dL_law_1896 ?_
    refine zy_cvq [zi ((zSx w (i + 1)).toInt), zi ((zSx w (i + 2)).toInt)] hM dL_law_1897 (by decide) rfl cw_RL_283 okX10_contradict rfl (Nat.le_of_ble_eq_true rfl) ⟨Nat.le_of_ble_eq_true rfl, Nat.le_of_ble_eq_true rfl, by first | (show c0 + _ ≤ 601024; omega), by first | (show s0 + 6 * _ ≤ 7293034; omega)⟩ (fun r υ hq2 => ?_) (fun E υ hq2 => ?_)
    · obtain ⟨b, e, hz2, hth, hob, hB, hI⟩ := hK _ _ hq2
      obtain rfl := Sum.inl.inj e
      rw [show ∀ (x : zV) (s : List zV), (some x).toList ++ s = x :: s from fun _ _ => rfl]
      refine zy_nrm ?_
      have hzb := zt_r b
      have hb01 : zt b = 0 ∨ zt b = 1 := by rcases hB trivial with q | q <;> rw [q] <;> decide
      refine zy_istore [zf 101 0, zf 9 0, zf 10 261, zf 35 272, zi ((i : Nat) : Int), zi c, zi (zt b), zu, zu] dL_law_1900 (Nat.le_of_ble_eq_true rfl) (Nat.le_of_ble_eq_true rfl) rfl rfl ?_
      refine zx_aloadN dL_law_1902 rfl rfl ?_
      refine zy_cv [] (sX10_thrown  hfl hz2 ) dL_law_1903 (by decide) rfl cw_RL_141 okX10_thrown rfl (Nat.le_of_ble_eq_true rfl) ⟨Nat.le_of_ble_eq_true rfl, Nat.le_of_ble_eq_true rfl, by first | (show c0 + _ ≤ 601024; omega), by first | (show s0 + 6 * _ ≤ 7293034; omega)⟩ ?_
      refine zx_iload dL_law_1906 rfl ?_
      refine zx_icmp_eq (tgt := 1913) (by first | exact hz2 _ _ | assumption | exact zr_b _ | exact zcmp_r _ _ | (unfold zr at *; omega)) (by first | exact hz2 _ _ | assumption | exact zr_b _ | exact zcmp_r _ _ | (unfold zr at *; omega)) dL_law_1908 (by decide) (fun h1908 => ?_) (fun h1908 => ?_)
      · refine zx_iload dL_law_1913 rfl ?_
        refine zx_if_ne (tgt := 1937) (by first | exact hz2 _ _ | assumption | exact zr_b _ | exact zcmp_r _ _ | (unfold zr at *; omega)) dL_law_1915 (by decide) (fun h1915 => ?_) (fun h1915 => ?_)
        · refine zx_goto (tgt := 3069) dL_law_1937 (by decide) ?_
          refine zy_drop 5 [zf 101 0, zf 9 0, zf 10 261, zf 35 272, zi ((i : Nat) : Int), zu, zi (zt b), zu, zu] rfl ?_
          refine zy_drop 6 [zf 101 0, zf 9 0, zf 10 261, zf 35 272, zi ((i : Nat) : Int), zu, zu, zu, zu] rfl ?_
          exact cont υ _ hz2 hI (by omega)
        · refine zx_aloadN dL_law_1918 rfl rfl ?_
          refine zx_iconst dL_law_1919 ?_
          refine zx_lald dL_law_1920 ?_
          rw [hob (by assumption)]
          refine zx_iload dL_law_1921 rfl ?_
          refine zx_if_eq (tgt := 1930) (by first | exact hz2 _ _ | assumption | exact zr_b _ | exact zcmp_r _ _ | (unfold zr at *; omega)) dL_law_1923 (by decide) (fun h1923 => ?_) (fun h1923 => ?_)
          · refine zx_lconst (a := 0) dL_law_1930 rfl ?_
            refine zx_lcmp (by first | exact hz2 _ _ | assumption | exact zr_b _ | exact zcmp_r _ _ | (unfold zr at *; omega)) (by first | exact hz2 _ _ | assumption | exact zr_b _ | exact zcmp_r _ _ | (unfold zr at *; omega)) dL_law_1931 ?_
            refine zx_if_eq (tgt := 1937) (by first | exact hz2 _ _ | assumption | exact zr_b _ | exact zcmp_r _ _ | (unfold zr at *; omega)) dL_law_1932 (by decide) (fun h1932 => ?_) (fun h1932 => ?_)
            · have h1932 := zcmp_eq.mp h1932
              refine zx_goto (tgt := 3069) dL_law_1937 (by decide) ?_
              refine zy_drop 5 [zf 101 0, zf 9 0, zf 10 261, zf 35 272, zi ((i : Nat) : Int), zu, zi (zt b), zu, zu] rfl ?_
              refine zy_drop 6 [zf 101 0, zf 9 0, zf 10 261, zf 35 272, zi ((i : Nat) : Int), zu, zu, zu, zu] rfl ?_
              exact cont υ _ hz2 hI (by omega)
            · have h1932 := fun q => h1932 (zcmp_eq.mpr q)
              first | exact absurd hth (by assumption) | exact absurd rfl (by assumption) | exact absurd (by assumption) (by assumption) | (exfalso; exact h1932 (by omega)) | (exfalso; omega)
          · refine zx_lconst (a := 1) dL_law_1926 rfl ?_
            refine zx_goto (tgt := 1931) dL_law_1927 (by decide) ?_
            refine zx_lcmp (by first | exact hz2 _ _ | assumption | exact zr_b _ | exact zcmp_r _ _ | (unfold zr at *; omega)) (by first | exact hz2 _ _ | assumption | exact zr_b _ | exact zcmp_r _ _ | (unfold zr at *; omega)) dL_law_1931 ?_
            refine zx_if_eq (tgt := 1937) (by first | exact hz2 _ _ | assumption | exact zr_b _ | exact zcmp_r _ _ | (unfold zr at *; omega)) dL_law_1932 (by decide) (fun h1932 => ?_) (fun h1932 => ?_)
            · have h1932 := zcmp_eq.mp h1932
              refine zx_goto (tgt := 3069) dL_law_1937 (by decide) ?_
              refine zy_drop 5 [zf 101 0, zf 9 0, zf 10 261, zf 35 272, zi ((i : Nat) : Int), zu, zi (zt b), zu, zu] rfl ?_
              refine zy_drop 6 [zf 101 0, zf 9 0, zf 10 261, zf 35 272, zi ((i : Nat) : Int), zu, zu, zu, zu] rfl ?_
              exact cont υ _ hz2 hI (by omega)
            · have h1932 := fun q => h1932 (zcmp_eq.mpr q)
              first | exact absurd hth (by assumption) | exact absurd rfl (by assumption) | exact absurd (by assumption) (by assumption) | (exfalso; exact h1932 (by omega)) | (exfalso; omega)
      · first | exact absurd hth (by assumption) | exact absurd rfl (by assumption) | exact absurd (by assumption) (by assumption) | (exfalso; exact h1908 (by omega)) | (exfalso; omega)
    · obtain ⟨b, e, -⟩ := hK _ _ hq2
      cases e
  · obtain ⟨c, e, -⟩ := hS _ _ hq
    cases e
set_option maxRecDepth 20000 in
set_option maxHeartbeats 2000000 in
theorem lc_40 {l : Launch} {w : zW} (hfl : l.stackTraces = false) {hh : List (Nat × Nat × Nat × Nat)} {c0 s0 : Nat} {Z : List Frame → Array Value → State → State → Prop} (hc0 : c0 ≤ 1000) (hs0 : s0 ≤ 100000) (hLn : zSL w ≤ 3072) {i k : Nat} (hi : i + 6 ≤ zSL w) (hk : k ≤ i) {σ : zS} (hz : zOK σ) (hS : SimW l w False mL_contradictionsOf mX10_contradictionsOf 7 [zi (zSx w (i + 1)).toInt] σ) (cont : ∀ (τ : zS) (k' : Nat), zOK τ → Inv τ → k' ≤ k + 1 → zX l w (mL_law hh) (room_1, Z, c0, s0) 3069 [zf 101 0, zf 9 0, zf 10 261, zf 35 272, zi ((i : Nat) : Int), zu, zu, zu, zu] [] k' τ) : zX l w (mL_law hh) (room_1, Z, c0, s0) 1940 [zf 101 0, zf 9 0, zf 10 261, zf 35 272, zi ((i : Nat) : Int), zu, zu, zu, zu] [] k σ := by
  obtain ⟨QC, hC, hS⟩ := hS
  refine zx_aloadN dL_law_1940 rfl rfl ?_
  refine zx_aloadN dL_law_1941 rfl rfl ?_
  refine zx_iload dL_law_1942 rfl ?_
  refine zx_iconst dL_law_1944 ?_
  refine zx_iadd dL_law_1945 ?_
  refine zy_top (b := ((i + 1 : Nat) : Int)) (by omega) ?_
  refine zx_sld (by omega) (by omega) (by omega) dL_law_1946 ?_
  refine zx_aloadN dL_law_1947 rfl rfl ?_
  have hC1 : SpH l w mL_contradictionsOf 10 1 [zf 9 0, zi ((zSx w (i + 1)).toInt), zf 35 272] σ QC := hC
  refine zy_csHq [zf 9 0, zi ((zSx w (i + 1)).toInt), zf 35 272] hC1 dL_law_1948 cw_RL_284 okL_contradictionsOf rfl (Nat.le_of_ble_eq_true rfl) ⟨Nat.le_of_ble_eq_true rfl, Nat.le_of_ble_eq_true rfl, by first | (show c0 + _ ≤ 601024; omega), by first | (show s0 + 6 * _ ≤ 7293034; omega)⟩ (fun r τ hq => ?_) (fun E τ hq => ?_)
  · obtain ⟨c, e, hzc, hz1, QM, hM, hK⟩ := hS _ _ hq
    obtain rfl := Sum.inl.inj e
    rw [show ∀ (x : zV) (s : List zV), (some x).toList ++ s = x :: s from fun _ _ => rfl]
    refine zy_istore [zf 101 0, zf 9 0, zf 10 261, zf 35 272, zi ((i : Nat) : Int), zi c, zu, zu, zu] dL_law_1951 (Nat.le_of_ble_eq_true rfl) (Nat.le_of_ble_eq_true rfl) rfl rfl ?_
    refine zx_aloadN dL_law_1953 rfl rfl ?_
    refine zx_aloadN dL_law_1954 rfl rfl ?_
    refine zx_iload dL_law_1955 rfl ?_
    refine zx_iconst dL_law_1957 ?_
    refine zx_iadd dL_law_1958 ?_
    refine zy_top (b := ((i + 1 : Nat) : Int)) (by omega) ?_
    refine zx_sld (by omega) (by omega) (by omega) dL_law_1959 ?_
    refine zy_cvq [zi ((zSx w (i + 1)).toInt)] hM dL_law_1960 (by decide) rfl cw_RL_286 okX10_contradictionsOf rfl (Nat.le_of_ble_eq_true rfl) ⟨Nat.le_of_ble_eq_true rfl, Nat.le_of_ble_eq_true rfl, by first | (show c0 + _ ≤ 601024; omega), by first | (show s0 + 6 * _ ≤ 7293034; omega)⟩ (fun r υ hq2 => ?_) (fun E υ hq2 => ?_)
    · obtain ⟨b, e, hz2, hth, hob, hB, hI⟩ := hK _ _ hq2
      obtain rfl := Sum.inl.inj e
      rw [show ∀ (x : zV) (s : List zV), (some x).toList ++ s = x :: s from fun _ _ => rfl]
      refine zy_nrm ?_
      have hzb := zt_r b
      refine zy_istore [zf 101 0, zf 9 0, zf 10 261, zf 35 272, zi ((i : Nat) : Int), zi c, zi (zt b), zu, zu] dL_law_1963 (Nat.le_of_ble_eq_true rfl) (Nat.le_of_ble_eq_true rfl) rfl rfl ?_
      refine zx_aloadN dL_law_1965 rfl rfl ?_
      refine zy_cv [] (sX10_thrown  hfl hz2 ) dL_law_1966 (by decide) rfl cw_RL_141 okX10_thrown rfl (Nat.le_of_ble_eq_true rfl) ⟨Nat.le_of_ble_eq_true rfl, Nat.le_of_ble_eq_true rfl, by first | (show c0 + _ ≤ 601024; omega), by first | (show s0 + 6 * _ ≤ 7293034; omega)⟩ ?_
      refine zx_iload dL_law_1969 rfl ?_
      refine zx_icmp_eq (tgt := 1976) (by first | exact hz2 _ _ | assumption | exact zr_b _ | exact zcmp_r _ _ | (unfold zr at *; omega)) (by first | exact hz2 _ _ | assumption | exact zr_b _ | exact zcmp_r _ _ | (unfold zr at *; omega)) dL_law_1971 (by decide) (fun h1971 => ?_) (fun h1971 => ?_)
      · refine zx_iload dL_law_1976 rfl ?_
        refine zx_if_ne (tgt := 1993) (by first | exact hz2 _ _ | assumption | exact zr_b _ | exact zcmp_r _ _ | (unfold zr at *; omega)) dL_law_1978 (by decide) (fun h1978 => ?_) (fun h1978 => ?_)
        · refine zx_goto (tgt := 3069) dL_law_1993 (by decide) ?_
          refine zy_drop 5 [zf 101 0, zf 9 0, zf 10 261, zf 35 272, zi ((i : Nat) : Int), zu, zi (zt b), zu, zu] rfl ?_
          refine zy_drop 6 [zf 101 0, zf 9 0, zf 10 261, zf 35 272, zi ((i : Nat) : Int), zu, zu, zu, zu] rfl ?_
          exact cont υ _ hz2 hI (by omega)
        · refine zx_aloadN dL_law_1981 rfl rfl ?_
          refine zx_iconst dL_law_1982 ?_
          refine zx_lald dL_law_1983 ?_
          rw [hob (by assumption)]
          refine zx_iload dL_law_1984 rfl ?_
          refine zx_i2l (by first | exact hz2 _ _ | assumption | exact zr_b _ | exact zcmp_r _ _ | (unfold zr at *; omega)) dL_law_1986 ?_
          refine zx_lcmp (by first | exact hz2 _ _ | assumption | exact zr_b _ | exact zcmp_r _ _ | (unfold zr at *; omega)) (by first | exact hz2 _ _ | assumption | exact zr_b _ | exact zcmp_r _ _ | (unfold zr at *; omega)) dL_law_1987 ?_
          refine zx_if_eq (tgt := 1993) (by first | exact hz2 _ _ | assumption | exact zr_b _ | exact zcmp_r _ _ | (unfold zr at *; omega)) dL_law_1988 (by decide) (fun h1988 => ?_) (fun h1988 => ?_)
          · have h1988 := zcmp_eq.mp h1988
            refine zx_goto (tgt := 3069) dL_law_1993 (by decide) ?_
            refine zy_drop 5 [zf 101 0, zf 9 0, zf 10 261, zf 35 272, zi ((i : Nat) : Int), zu, zi (zt b), zu, zu] rfl ?_
            refine zy_drop 6 [zf 101 0, zf 9 0, zf 10 261, zf 35 272, zi ((i : Nat) : Int), zu, zu, zu, zu] rfl ?_
            exact cont υ _ hz2 hI (by omega)
          · have h1988 := fun q => h1988 (zcmp_eq.mpr q)
            first | exact absurd hth (by assumption) | exact absurd rfl (by assumption) | exact absurd (by assumption) (by assumption) | (exfalso; exact h1988 (by omega)) | (exfalso; omega)
      · first | exact absurd hth (by assumption) | exact absurd rfl (by assumption) | exact absurd (by assumption) (by assumption) | (exfalso; exact h1971 (by omega)) | (exfalso; omega)
    · obtain ⟨b, e, -⟩ := hK _ _ hq2
      cases e
  · obtain ⟨c, e, -⟩ := hS _ _ hq
    cases e
set_option maxRecDepth 20000 in
set_option maxHeartbeats 2000000 in
theorem lc_41 {l : Launch} {w : zW} (hfl : l.stackTraces = false) {hh : List (Nat × Nat × Nat × Nat)} {c0 s0 : Nat} {Z : List Frame → Array Value → State → State → Prop} (hc0 : c0 ≤ 1000) (hs0 : s0 ≤ 100000) (hLn : zSL w ≤ 3072) {i k : Nat} (hi : i + 6 ≤ zSL w) (hk : k ≤ i) {σ : zS} (hz : zOK σ) (hS : SimD l w mX9_impossibleClues mX10_impossibleClues 4 6 [] σ) (cont : ∀ (τ : zS) (k' : Nat), zOK τ → Inv τ → k' ≤ k + 1 → zX l w (mL_law hh) (room_1, Z, c0, s0) 3069 [zf 101 0, zf 9 0, zf 10 261, zf 35 272, zi ((i : Nat) : Int), zu, zu, zu, zu] [] k' τ) : zX l w (mL_law hh) (room_1, Z, c0, s0) 1996 [zf 101 0, zf 9 0, zf 10 261, zf 35 272, zi ((i : Nat) : Int), zu, zu, zu, zu] [] k σ := by
  obtain ⟨QC, hC, hS⟩ := hS
  refine zx_aloadN dL_law_1996 rfl rfl ?_
  refine zy_cvq [] hC dL_law_1997 (by decide) rfl cw_RL_287 okX9_impossibleClues rfl (Nat.le_of_ble_eq_true rfl) ⟨Nat.le_of_ble_eq_true rfl, Nat.le_of_ble_eq_true rfl, by first | (show c0 + _ ≤ 601024; omega), by first | (show s0 + 6 * _ ≤ 7293034; omega)⟩ (fun r τ hq => ?_) (fun E τ hq => ?_)
  · obtain ⟨c, e, hz1, QM, hM, hK⟩ := hS _ _ hq
    obtain rfl := Sum.inl.inj e
    rw [show ∀ (x : zV) (s : List zV), (some x).toList ++ s = x :: s from fun _ _ => rfl]
    refine zy_nrm ?_
    have hzc := zt_r c
    refine zx_aloadN dL_law_2000 rfl rfl ?_
    refine zy_cvq [] hM dL_law_2001 (by decide) rfl cw_RL_290 okX10_impossibleClues rfl (Nat.le_of_ble_eq_true rfl) ⟨Nat.le_of_ble_eq_true rfl, Nat.le_of_ble_eq_true rfl, by first | (show c0 + _ ≤ 601024; omega), by first | (show s0 + 6 * _ ≤ 7293034; omega)⟩ (fun r υ hq2 => ?_) (fun E υ hq2 => ?_)
    · obtain ⟨e, hz2, hI⟩ := hK _ _ hq2
      obtain rfl := Sum.inl.inj e
      rw [show ∀ (x : zV) (s : List zV), (some x).toList ++ s = x :: s from fun _ _ => rfl]
      refine zy_nrm ?_
      refine zx_icmp_eq (tgt := 3069) (by first | exact hz2 _ _ | assumption | exact zr_b _ | exact zcmp_r _ _ | (unfold zr at *; omega)) (by first | exact hz2 _ _ | assumption | exact zr_b _ | exact zcmp_r _ _ | (unfold zr at *; omega)) dL_law_2004 (by decide) (fun h2004 => ?_) (fun h2004 => ?_)
      · exact cont υ _ hz2 hI (by omega)
      · first | exact absurd hth (by assumption) | exact absurd rfl (by assumption) | exact absurd (by assumption) (by assumption) | (exfalso; exact h2004 (by omega)) | (exfalso; omega)
    · obtain ⟨e, -⟩ := hK _ _ hq2
      cases e
  · obtain ⟨c, e, -⟩ := hS _ _ hq
    cases e
set_option maxRecDepth 20000 in
set_option maxHeartbeats 2000000 in
theorem lc_42 {l : Launch} {w : zW} (hfl : l.stackTraces = false) {hh : List (Nat × Nat × Nat × Nat)} {c0 s0 : Nat} {Z : List Frame → Array Value → State → State → Prop} (hc0 : c0 ≤ 1000) (hs0 : s0 ≤ 100000) (hLn : zSL w ≤ 3072) {i k : Nat} (hi : i + 6 ≤ zSL w) (hk : k ≤ i) {σ : zS} (hz : zOK σ) (hS : SimW l w False mL_printerAfter mX10_printerAfter 10 [zi (zSx w (i + 1)).toInt] σ) (cont : ∀ (τ : zS) (k' : Nat), zOK τ → Inv τ → k' ≤ k + 1 → zX l w (mL_law hh) (room_1, Z, c0, s0) 3069 [zf 101 0, zf 9 0, zf 10 261, zf 35 272, zi ((i : Nat) : Int), zu, zu, zu, zu] [] k' τ) : zX l w (mL_law hh) (room_1, Z, c0, s0) 2009 [zf 101 0, zf 9 0, zf 10 261, zf 35 272, zi ((i : Nat) : Int), zu, zu, zu, zu] [] k σ := by
  obtain ⟨QC, hC, hS⟩ := hS
  refine zx_aloadN dL_law_2009 rfl rfl ?_
  refine zx_aloadN dL_law_2010 rfl rfl ?_
  refine zx_iload dL_law_2011 rfl ?_
  refine zx_iconst dL_law_2013 ?_
  refine zx_iadd dL_law_2014 ?_
  refine zy_top (b := ((i + 1 : Nat) : Int)) (by omega) ?_
  refine zx_sld (by omega) (by omega) (by omega) dL_law_2015 ?_
  refine zx_aloadN dL_law_2016 rfl rfl ?_
  have hC1 : SpH l w mL_printerAfter 10 1 [zf 9 0, zi ((zSx w (i + 1)).toInt), zf 35 272] σ QC := hC
  refine zy_csHq [zf 9 0, zi ((zSx w (i + 1)).toInt), zf 35 272] hC1 dL_law_2017 cw_RL_291 okL_printerAfter rfl (Nat.le_of_ble_eq_true rfl) ⟨Nat.le_of_ble_eq_true rfl, Nat.le_of_ble_eq_true rfl, by first | (show c0 + _ ≤ 601024; omega), by first | (show s0 + 6 * _ ≤ 7293034; omega)⟩ (fun r τ hq => ?_) (fun E τ hq => ?_)
  · obtain ⟨c, e, hzc, hz1, QM, hM, hK⟩ := hS _ _ hq
    obtain rfl := Sum.inl.inj e
    rw [show ∀ (x : zV) (s : List zV), (some x).toList ++ s = x :: s from fun _ _ => rfl]
    refine zy_istore [zf 101 0, zf 9 0, zf 10 261, zf 35 272, zi ((i : Nat) : Int), zi c, zu, zu, zu] dL_law_2020 (Nat.le_of_ble_eq_true rfl) (Nat.le_of_ble_eq_true rfl) rfl rfl ?_
    refine zx_aloadN dL_law_2022 rfl rfl ?_
    refine zx_aloadN dL_law_2023 rfl rfl ?_
    refine zx_iload dL_law_2024 rfl ?_
    refine zx_iconst dL_law_2026 ?_
    refine zx_iadd dL_law_2027 ?_
    refine zy_top (b := ((i + 1 : Nat) : Int)) (by omega) ?_
    refine zx_sld (by omega) (by omega) (by omega) dL_law_2028 ?_
    refine zy_cvq [zi ((zSx w (i + 1)).toInt)] hM dL_law_2029 (by decide) rfl cw_RL_293 okX10_printerAfter rfl (Nat.le_of_ble_eq_true rfl) ⟨Nat.le_of_ble_eq_true rfl, Nat.le_of_ble_eq_true rfl, by first | (show c0 + _ ≤ 601024; omega), by first | (show s0 + 6 * _ ≤ 7293034; omega)⟩ (fun r υ hq2 => ?_) (fun E υ hq2 => ?_)
    · obtain ⟨b, e, hz2, hth, hob, hB, hI⟩ := hK _ _ hq2
      obtain rfl := Sum.inl.inj e
      rw [show ∀ (x : zV) (s : List zV), (some x).toList ++ s = x :: s from fun _ _ => rfl]
      refine zy_nrm ?_
      have hzb := zt_r b
      refine zy_istore [zf 101 0, zf 9 0, zf 10 261, zf 35 272, zi ((i : Nat) : Int), zi c, zi (zt b), zu, zu] dL_law_2032 (Nat.le_of_ble_eq_true rfl) (Nat.le_of_ble_eq_true rfl) rfl rfl ?_
      refine zx_aloadN dL_law_2034 rfl rfl ?_
      refine zy_cv [] (sX10_thrown  hfl hz2 ) dL_law_2035 (by decide) rfl cw_RL_141 okX10_thrown rfl (Nat.le_of_ble_eq_true rfl) ⟨Nat.le_of_ble_eq_true rfl, Nat.le_of_ble_eq_true rfl, by first | (show c0 + _ ≤ 601024; omega), by first | (show s0 + 6 * _ ≤ 7293034; omega)⟩ ?_
      refine zx_iload dL_law_2038 rfl ?_
      refine zx_icmp_eq (tgt := 2045) (by first | exact hz2 _ _ | assumption | exact zr_b _ | exact zcmp_r _ _ | (unfold zr at *; omega)) (by first | exact hz2 _ _ | assumption | exact zr_b _ | exact zcmp_r _ _ | (unfold zr at *; omega)) dL_law_2040 (by decide) (fun h2040 => ?_) (fun h2040 => ?_)
      · refine zx_iload dL_law_2045 rfl ?_
        refine zx_if_ne (tgt := 2062) (by first | exact hz2 _ _ | assumption | exact zr_b _ | exact zcmp_r _ _ | (unfold zr at *; omega)) dL_law_2047 (by decide) (fun h2047 => ?_) (fun h2047 => ?_)
        · refine zx_goto (tgt := 3069) dL_law_2062 (by decide) ?_
          refine zy_drop 5 [zf 101 0, zf 9 0, zf 10 261, zf 35 272, zi ((i : Nat) : Int), zu, zi (zt b), zu, zu] rfl ?_
          refine zy_drop 6 [zf 101 0, zf 9 0, zf 10 261, zf 35 272, zi ((i : Nat) : Int), zu, zu, zu, zu] rfl ?_
          exact cont υ _ hz2 hI (by omega)
        · refine zx_aloadN dL_law_2050 rfl rfl ?_
          refine zx_iconst dL_law_2051 ?_
          refine zx_lald dL_law_2052 ?_
          rw [hob (by assumption)]
          refine zx_iload dL_law_2053 rfl ?_
          refine zx_i2l (by first | exact hz2 _ _ | assumption | exact zr_b _ | exact zcmp_r _ _ | (unfold zr at *; omega)) dL_law_2055 ?_
          refine zx_lcmp (by first | exact hz2 _ _ | assumption | exact zr_b _ | exact zcmp_r _ _ | (unfold zr at *; omega)) (by first | exact hz2 _ _ | assumption | exact zr_b _ | exact zcmp_r _ _ | (unfold zr at *; omega)) dL_law_2056 ?_
          refine zx_if_eq (tgt := 2062) (by first | exact hz2 _ _ | assumption | exact zr_b _ | exact zcmp_r _ _ | (unfold zr at *; omega)) dL_law_2057 (by decide) (fun h2057 => ?_) (fun h2057 => ?_)
          · have h2057 := zcmp_eq.mp h2057
            refine zx_goto (tgt := 3069) dL_law_2062 (by decide) ?_
            refine zy_drop 5 [zf 101 0, zf 9 0, zf 10 261, zf 35 272, zi ((i : Nat) : Int), zu, zi (zt b), zu, zu] rfl ?_
            refine zy_drop 6 [zf 101 0, zf 9 0, zf 10 261, zf 35 272, zi ((i : Nat) : Int), zu, zu, zu, zu] rfl ?_
            exact cont υ _ hz2 hI (by omega)
          · have h2057 := fun q => h2057 (zcmp_eq.mpr q)
            first | exact absurd hth (by assumption) | exact absurd rfl (by assumption) | exact absurd (by assumption) (by assumption) | (exfalso; exact h2057 (by omega)) | (exfalso; omega)
      · first | exact absurd hth (by assumption) | exact absurd rfl (by assumption) | exact absurd (by assumption) (by assumption) | (exfalso; exact h2040 (by omega)) | (exfalso; omega)
    · obtain ⟨b, e, -⟩ := hK _ _ hq2
      cases e
  · obtain ⟨c, e, -⟩ := hS _ _ hq
    cases e
set_option maxRecDepth 20000 in
set_option maxHeartbeats 2000000 in
theorem lc_43 {l : Launch} {w : zW} (hfl : l.stackTraces = false) {hh : List (Nat × Nat × Nat × Nat)} {c0 s0 : Nat} {Z : List Frame → Array Value → State → State → Prop} (hc0 : c0 ≤ 1000) (hs0 : s0 ≤ 100000) (hLn : zSL w ≤ 3072) {i k : Nat} (hi : i + 6 ≤ zSL w) (hk : k ≤ i) {σ : zS} (hz : zOK σ) (hS : SimW l w False mL_yearAfter mX10_yearAfter 11 [zi (zSx w (i + 1)).toInt] σ) (cont : ∀ (τ : zS) (k' : Nat), zOK τ → Inv τ → k' ≤ k + 1 → zX l w (mL_law hh) (room_1, Z, c0, s0) 3069 [zf 101 0, zf 9 0, zf 10 261, zf 35 272, zi ((i : Nat) : Int), zu, zu, zu, zu] [] k' τ) : zX l w (mL_law hh) (room_1, Z, c0, s0) 2065 [zf 101 0, zf 9 0, zf 10 261, zf 35 272, zi ((i : Nat) : Int), zu, zu, zu, zu] [] k σ := by
  obtain ⟨QC, hC, hS⟩ := hS
  refine zx_aloadN dL_law_2065 rfl rfl ?_
  refine zx_aloadN dL_law_2066 rfl rfl ?_
  refine zx_iload dL_law_2067 rfl ?_
  refine zx_iconst dL_law_2069 ?_
  refine zx_iadd dL_law_2070 ?_
  refine zy_top (b := ((i + 1 : Nat) : Int)) (by omega) ?_
  refine zx_sld (by omega) (by omega) (by omega) dL_law_2071 ?_
  refine zx_aloadN dL_law_2072 rfl rfl ?_
  have hC1 : SpH l w mL_yearAfter 10 1 [zf 9 0, zi ((zSx w (i + 1)).toInt), zf 35 272] σ QC := hC
  refine zy_csHq [zf 9 0, zi ((zSx w (i + 1)).toInt), zf 35 272] hC1 dL_law_2073 cw_RL_294 okL_yearAfter rfl (Nat.le_of_ble_eq_true rfl) ⟨Nat.le_of_ble_eq_true rfl, Nat.le_of_ble_eq_true rfl, by first | (show c0 + _ ≤ 601024; omega), by first | (show s0 + 6 * _ ≤ 7293034; omega)⟩ (fun r τ hq => ?_) (fun E τ hq => ?_)
  · obtain ⟨c, e, hzc, hz1, QM, hM, hK⟩ := hS _ _ hq
    obtain rfl := Sum.inl.inj e
    rw [show ∀ (x : zV) (s : List zV), (some x).toList ++ s = x :: s from fun _ _ => rfl]
    refine zy_istore [zf 101 0, zf 9 0, zf 10 261, zf 35 272, zi ((i : Nat) : Int), zi c, zu, zu, zu] dL_law_2076 (Nat.le_of_ble_eq_true rfl) (Nat.le_of_ble_eq_true rfl) rfl rfl ?_
    refine zx_aloadN dL_law_2078 rfl rfl ?_
    refine zx_aloadN dL_law_2079 rfl rfl ?_
    refine zx_iload dL_law_2080 rfl ?_
    refine zx_iconst dL_law_2082 ?_
    refine zx_iadd dL_law_2083 ?_
    refine zy_top (b := ((i + 1 : Nat) : Int)) (by omega) ?_
    refine zx_sld (by omega) (by omega) (by omega) dL_law_2084 ?_
    refine zy_cvq [zi ((zSx w (i + 1)).toInt)] hM dL_law_2085 (by decide) rfl cw_RL_296 okX10_yearAfter rfl (Nat.le_of_ble_eq_true rfl) ⟨Nat.le_of_ble_eq_true rfl, Nat.le_of_ble_eq_true rfl, by first | (show c0 + _ ≤ 601024; omega), by first | (show s0 + 6 * _ ≤ 7293034; omega)⟩ (fun r υ hq2 => ?_) (fun E υ hq2 => ?_)
    · obtain ⟨b, e, hz2, hth, hob, hB, hI⟩ := hK _ _ hq2
      obtain rfl := Sum.inl.inj e
      rw [show ∀ (x : zV) (s : List zV), (some x).toList ++ s = x :: s from fun _ _ => rfl]
      refine zy_nrm ?_
      have hzb := zt_r b
      refine zy_istore [zf 101 0, zf 9 0, zf 10 261, zf 35 272, zi ((i : Nat) : Int), zi c, zi (zt b), zu, zu] dL_law_2088 (Nat.le_of_ble_eq_true rfl) (Nat.le_of_ble_eq_true rfl) rfl rfl ?_
      refine zx_aloadN dL_law_2090 rfl rfl ?_
      refine zy_cv [] (sX10_thrown  hfl hz2 ) dL_law_2091 (by decide) rfl cw_RL_141 okX10_thrown rfl (Nat.le_of_ble_eq_true rfl) ⟨Nat.le_of_ble_eq_true rfl, Nat.le_of_ble_eq_true rfl, by first | (show c0 + _ ≤ 601024; omega), by first | (show s0 + 6 * _ ≤ 7293034; omega)⟩ ?_
      refine zx_iload dL_law_2094 rfl ?_
      refine zx_icmp_eq (tgt := 2101) (by first | exact hz2 _ _ | assumption | exact zr_b _ | exact zcmp_r _ _ | (unfold zr at *; omega)) (by first | exact hz2 _ _ | assumption | exact zr_b _ | exact zcmp_r _ _ | (unfold zr at *; omega)) dL_law_2096 (by decide) (fun h2096 => ?_) (fun h2096 => ?_)
      · refine zx_iload dL_law_2101 rfl ?_
        refine zx_if_ne (tgt := 2118) (by first | exact hz2 _ _ | assumption | exact zr_b _ | exact zcmp_r _ _ | (unfold zr at *; omega)) dL_law_2103 (by decide) (fun h2103 => ?_) (fun h2103 => ?_)
        · refine zx_goto (tgt := 3069) dL_law_2118 (by decide) ?_
          refine zy_drop 5 [zf 101 0, zf 9 0, zf 10 261, zf 35 272, zi ((i : Nat) : Int), zu, zi (zt b), zu, zu] rfl ?_
          refine zy_drop 6 [zf 101 0, zf 9 0, zf 10 261, zf 35 272, zi ((i : Nat) : Int), zu, zu, zu, zu] rfl ?_
          exact cont υ _ hz2 hI (by omega)
        · refine zx_aloadN dL_law_2106 rfl rfl ?_
          refine zx_iconst dL_law_2107 ?_
          refine zx_lald dL_law_2108 ?_
          rw [hob (by assumption)]
          refine zx_iload dL_law_2109 rfl ?_
          refine zx_i2l (by first | exact hz2 _ _ | assumption | exact zr_b _ | exact zcmp_r _ _ | (unfold zr at *; omega)) dL_law_2111 ?_
          refine zx_lcmp (by first | exact hz2 _ _ | assumption | exact zr_b _ | exact zcmp_r _ _ | (unfold zr at *; omega)) (by first | exact hz2 _ _ | assumption | exact zr_b _ | exact zcmp_r _ _ | (unfold zr at *; omega)) dL_law_2112 ?_
          refine zx_if_eq (tgt := 2118) (by first | exact hz2 _ _ | assumption | exact zr_b _ | exact zcmp_r _ _ | (unfold zr at *; omega)) dL_law_2113 (by decide) (fun h2113 => ?_) (fun h2113 => ?_)
          · have h2113 := zcmp_eq.mp h2113
            refine zx_goto (tgt := 3069) dL_law_2118 (by decide) ?_
            refine zy_drop 5 [zf 101 0, zf 9 0, zf 10 261, zf 35 272, zi ((i : Nat) : Int), zu, zi (zt b), zu, zu] rfl ?_
            refine zy_drop 6 [zf 101 0, zf 9 0, zf 10 261, zf 35 272, zi ((i : Nat) : Int), zu, zu, zu, zu] rfl ?_
            exact cont υ _ hz2 hI (by omega)
          · have h2113 := fun q => h2113 (zcmp_eq.mpr q)
            first | exact absurd hth (by assumption) | exact absurd rfl (by assumption) | exact absurd (by assumption) (by assumption) | (exfalso; exact h2113 (by omega)) | (exfalso; omega)
      · first | exact absurd hth (by assumption) | exact absurd rfl (by assumption) | exact absurd (by assumption) (by assumption) | (exfalso; exact h2096 (by omega)) | (exfalso; omega)
    · obtain ⟨b, e, -⟩ := hK _ _ hq2
      cases e
  · obtain ⟨c, e, -⟩ := hS _ _ hq
    cases e
set_option maxRecDepth 20000 in
set_option maxHeartbeats 2000000 in
theorem lc_44 {l : Launch} {w : zW} (hfl : l.stackTraces = false) {hh : List (Nat × Nat × Nat × Nat)} {c0 s0 : Nat} {Z : List Frame → Array Value → State → State → Prop} (hc0 : c0 ≤ 1000) (hs0 : s0 ≤ 100000) (hLn : zSL w ≤ 3072) {i k : Nat} (hi : i + 6 ≤ zSL w) (hk : k ≤ i) {σ : zS} (hz : zOK σ) (hS : SimD l w mX9_cluesUntilChange mX10_cluesUntilChange 6 10 [] σ) (cont : ∀ (τ : zS) (k' : Nat), zOK τ → Inv τ → k' ≤ k + 1 → zX l w (mL_law hh) (room_1, Z, c0, s0) 3069 [zf 101 0, zf 9 0, zf 10 261, zf 35 272, zi ((i : Nat) : Int), zu, zu, zu, zu] [] k' τ) : zX l w (mL_law hh) (room_1, Z, c0, s0) 2121 [zf 101 0, zf 9 0, zf 10 261, zf 35 272, zi ((i : Nat) : Int), zu, zu, zu, zu] [] k σ := by
  obtain ⟨QC, hC, hS⟩ := hS
  refine zx_aloadN dL_law_2121 rfl rfl ?_
  refine zy_cvq [] hC dL_law_2122 (by decide) rfl cw_RL_297 okX9_cluesUntilChange rfl (Nat.le_of_ble_eq_true rfl) ⟨Nat.le_of_ble_eq_true rfl, Nat.le_of_ble_eq_true rfl, by first | (show c0 + _ ≤ 601024; omega), by first | (show s0 + 6 * _ ≤ 7293034; omega)⟩ (fun r τ hq => ?_) (fun E τ hq => ?_)
  · obtain ⟨c, e, hz1, QM, hM, hK⟩ := hS _ _ hq
    obtain rfl := Sum.inl.inj e
    rw [show ∀ (x : zV) (s : List zV), (some x).toList ++ s = x :: s from fun _ _ => rfl]
    refine zy_nrm ?_
    have hzc := zt_r c
    refine zx_aloadN dL_law_2125 rfl rfl ?_
    refine zy_cvq [] hM dL_law_2126 (by decide) rfl cw_RL_300 okX10_cluesUntilChange rfl (Nat.le_of_ble_eq_true rfl) ⟨Nat.le_of_ble_eq_true rfl, Nat.le_of_ble_eq_true rfl, by first | (show c0 + _ ≤ 601024; omega), by first | (show s0 + 6 * _ ≤ 7293034; omega)⟩ (fun r υ hq2 => ?_) (fun E υ hq2 => ?_)
    · obtain ⟨e, hz2, hI⟩ := hK _ _ hq2
      obtain rfl := Sum.inl.inj e
      rw [show ∀ (x : zV) (s : List zV), (some x).toList ++ s = x :: s from fun _ _ => rfl]
      refine zy_nrm ?_
      refine zx_icmp_eq (tgt := 3069) (by first | exact hz2 _ _ | assumption | exact zr_b _ | exact zcmp_r _ _ | (unfold zr at *; omega)) (by first | exact hz2 _ _ | assumption | exact zr_b _ | exact zcmp_r _ _ | (unfold zr at *; omega)) dL_law_2129 (by decide) (fun h2129 => ?_) (fun h2129 => ?_)
      · exact cont υ _ hz2 hI (by omega)
      · first | exact absurd hth (by assumption) | exact absurd rfl (by assumption) | exact absurd (by assumption) (by assumption) | (exfalso; exact h2129 (by omega)) | (exfalso; omega)
    · obtain ⟨e, -⟩ := hK _ _ hq2
      cases e
  · obtain ⟨c, e, -⟩ := hS _ _ hq
    cases e
set_option maxRecDepth 20000 in
set_option maxHeartbeats 2000000 in
theorem lc_45 {l : Launch} {w : zW} (hfl : l.stackTraces = false) {hh : List (Nat × Nat × Nat × Nat)} {c0 s0 : Nat} {Z : List Frame → Array Value → State → State → Prop} (hc0 : c0 ≤ 1000) (hs0 : s0 ≤ 100000) (hLn : zSL w ≤ 3072) {i k : Nat} (hi : i + 6 ≤ zSL w) (hk : k ≤ i) {σ : zS} (hz : zOK σ) (hS : SimD l w mX9_decisiveClue mX10_decisiveClue 6 11 [] σ) (cont : ∀ (τ : zS) (k' : Nat), zOK τ → Inv τ → k' ≤ k + 1 → zX l w (mL_law hh) (room_1, Z, c0, s0) 3069 [zf 101 0, zf 9 0, zf 10 261, zf 35 272, zi ((i : Nat) : Int), zu, zu, zu, zu] [] k' τ) : zX l w (mL_law hh) (room_1, Z, c0, s0) 2134 [zf 101 0, zf 9 0, zf 10 261, zf 35 272, zi ((i : Nat) : Int), zu, zu, zu, zu] [] k σ := by
  obtain ⟨QC, hC, hS⟩ := hS
  refine zx_aloadN dL_law_2134 rfl rfl ?_
  refine zy_cvq [] hC dL_law_2135 (by decide) rfl cw_RL_301 okX9_decisiveClue rfl (Nat.le_of_ble_eq_true rfl) ⟨Nat.le_of_ble_eq_true rfl, Nat.le_of_ble_eq_true rfl, by first | (show c0 + _ ≤ 601024; omega), by first | (show s0 + 6 * _ ≤ 7293034; omega)⟩ (fun r τ hq => ?_) (fun E τ hq => ?_)
  · obtain ⟨c, e, hz1, QM, hM, hK⟩ := hS _ _ hq
    obtain rfl := Sum.inl.inj e
    rw [show ∀ (x : zV) (s : List zV), (some x).toList ++ s = x :: s from fun _ _ => rfl]
    refine zy_nrm ?_
    have hzc := zt_r c
    refine zx_aloadN dL_law_2138 rfl rfl ?_
    refine zy_cvq [] hM dL_law_2139 (by decide) rfl cw_RL_304 okX10_decisiveClue rfl (Nat.le_of_ble_eq_true rfl) ⟨Nat.le_of_ble_eq_true rfl, Nat.le_of_ble_eq_true rfl, by first | (show c0 + _ ≤ 601024; omega), by first | (show s0 + 6 * _ ≤ 7293034; omega)⟩ (fun r υ hq2 => ?_) (fun E υ hq2 => ?_)
    · obtain ⟨e, hz2, hI⟩ := hK _ _ hq2
      obtain rfl := Sum.inl.inj e
      rw [show ∀ (x : zV) (s : List zV), (some x).toList ++ s = x :: s from fun _ _ => rfl]
      refine zy_nrm ?_
      refine zx_icmp_eq (tgt := 3069) (by first | exact hz2 _ _ | assumption | exact zr_b _ | exact zcmp_r _ _ | (unfold zr at *; omega)) (by first | exact hz2 _ _ | assumption | exact zr_b _ | exact zcmp_r _ _ | (unfold zr at *; omega)) dL_law_2142 (by decide) (fun h2142 => ?_) (fun h2142 => ?_)
      · exact cont υ _ hz2 hI (by omega)
      · first | exact absurd hth (by assumption) | exact absurd rfl (by assumption) | exact absurd (by assumption) (by assumption) | (exfalso; exact h2142 (by omega)) | (exfalso; omega)
    · obtain ⟨e, -⟩ := hK _ _ hq2
      cases e
  · obtain ⟨c, e, -⟩ := hS _ _ hq
    cases e
set_option maxRecDepth 20000 in
set_option maxHeartbeats 2000000 in
theorem lc_46 {l : Launch} {w : zW} (hfl : l.stackTraces = false) {hh : List (Nat × Nat × Nat × Nat)} {c0 s0 : Nat} {Z : List Frame → Array Value → State → State → Prop} (hc0 : c0 ≤ 1000) (hs0 : s0 ≤ 100000) (hLn : zSL w ≤ 3072) {i k : Nat} (hi : i + 6 ≤ zSL w) (hk : k ≤ i) {σ : zS} (hz : zOK σ) (hS : SimD l w mX9_rankingErrors mX10_rankingErrors 6 11 [] σ) (cont : ∀ (τ : zS) (k' : Nat), zOK τ → Inv τ → k' ≤ k + 1 → zX l w (mL_law hh) (room_1, Z, c0, s0) 3069 [zf 101 0, zf 9 0, zf 10 261, zf 35 272, zi ((i : Nat) : Int), zu, zu, zu, zu] [] k' τ) : zX l w (mL_law hh) (room_1, Z, c0, s0) 2147 [zf 101 0, zf 9 0, zf 10 261, zf 35 272, zi ((i : Nat) : Int), zu, zu, zu, zu] [] k σ := by
  obtain ⟨QC, hC, hS⟩ := hS
  refine zx_aloadN dL_law_2147 rfl rfl ?_
  refine zy_cvq [] hC dL_law_2148 (by decide) rfl cw_RL_305 okX9_rankingErrors rfl (Nat.le_of_ble_eq_true rfl) ⟨Nat.le_of_ble_eq_true rfl, Nat.le_of_ble_eq_true rfl, by first | (show c0 + _ ≤ 601024; omega), by first | (show s0 + 6 * _ ≤ 7293034; omega)⟩ (fun r τ hq => ?_) (fun E τ hq => ?_)
  · obtain ⟨c, e, hz1, QM, hM, hK⟩ := hS _ _ hq
    obtain rfl := Sum.inl.inj e
    rw [show ∀ (x : zV) (s : List zV), (some x).toList ++ s = x :: s from fun _ _ => rfl]
    refine zy_nrm ?_
    have hzc := zt_r c
    refine zx_aloadN dL_law_2151 rfl rfl ?_
    refine zy_cvq [] hM dL_law_2152 (by decide) rfl cw_RL_308 okX10_rankingErrors rfl (Nat.le_of_ble_eq_true rfl) ⟨Nat.le_of_ble_eq_true rfl, Nat.le_of_ble_eq_true rfl, by first | (show c0 + _ ≤ 601024; omega), by first | (show s0 + 6 * _ ≤ 7293034; omega)⟩ (fun r υ hq2 => ?_) (fun E υ hq2 => ?_)
    · obtain ⟨e, hz2, hI⟩ := hK _ _ hq2
      obtain rfl := Sum.inl.inj e
      rw [show ∀ (x : zV) (s : List zV), (some x).toList ++ s = x :: s from fun _ _ => rfl]
      refine zy_nrm ?_
      refine zx_icmp_eq (tgt := 3069) (by first | exact hz2 _ _ | assumption | exact zr_b _ | exact zcmp_r _ _ | (unfold zr at *; omega)) (by first | exact hz2 _ _ | assumption | exact zr_b _ | exact zcmp_r _ _ | (unfold zr at *; omega)) dL_law_2155 (by decide) (fun h2155 => ?_) (fun h2155 => ?_)
      · exact cont υ _ hz2 hI (by omega)
      · first | exact absurd hth (by assumption) | exact absurd rfl (by assumption) | exact absurd (by assumption) (by assumption) | (exfalso; exact h2155 (by omega)) | (exfalso; omega)
    · obtain ⟨e, -⟩ := hK _ _ hq2
      cases e
  · obtain ⟨c, e, -⟩ := hS _ _ hq
    cases e
set_option maxRecDepth 20000 in
set_option maxHeartbeats 2000000 in
theorem lc_47 {l : Launch} {w : zW} (hfl : l.stackTraces = false) {hh : List (Nat × Nat × Nat × Nat)} {c0 s0 : Nat} {Z : List Frame → Array Value → State → State → Prop} (hc0 : c0 ≤ 1000) (hs0 : s0 ≤ 100000) (hLn : zSL w ≤ 3072) {i k : Nat} (hi : i + 6 ≤ zSL w) (hk : k ≤ i) {σ : zS} (hz : zOK σ) (hS : SimC l w mX9_confidence mX10_confidence 6 12 σ) (cont : ∀ (τ : zS) (k' : Nat), zOK τ → Inv τ → k' ≤ k + 1 → zX l w (mL_law hh) (room_1, Z, c0, s0) 3069 [zf 101 0, zf 9 0, zf 10 261, zf 35 272, zi ((i : Nat) : Int), zu, zu, zu, zu] [] k' τ) : zX l w (mL_law hh) (room_1, Z, c0, s0) 2160 [zf 101 0, zf 9 0, zf 10 261, zf 35 272, zi ((i : Nat) : Int), zu, zu, zu, zu] [] k σ := by
  obtain ⟨v, QC, hC, hS⟩ := hS
  obtain ⟨A, hA, hzA⟩ : ∃ A : Int, Op.cmpValue (FP.dcmp v v) .l = Int32.ofInt A ∧ zr A := ⟨_, (z_of _).symm, zr_t _⟩
  refine zx_aloadN dL_law_2160 rfl rfl ?_
  refine zy_cvq [] hC dL_law_2161 (by decide) rfl cw_RL_309 okX9_confidence rfl (Nat.le_of_ble_eq_true rfl) ⟨Nat.le_of_ble_eq_true rfl, Nat.le_of_ble_eq_true rfl, by first | (show c0 + _ ≤ 601024; omega), by first | (show s0 + 6 * _ ≤ 7293034; omega)⟩ (fun r τ hq => ?_) (fun E τ hq => ?_)
  · obtain ⟨e, hz1, QM, hM, hK⟩ := hS _ _ hq
    obtain rfl := Sum.inl.inj e
    rw [show ∀ (x : zV) (s : List zV), (some x).toList ++ s = x :: s from fun _ _ => rfl]
    refine zx_dstore dL_law_2164 (Nat.le_of_ble_eq_true rfl) (Nat.le_of_ble_eq_true rfl) rfl ?_
    refine zx_aloadN dL_law_2166 rfl rfl ?_
    refine zy_cvq [] hM dL_law_2167 (by decide) rfl cw_RL_313 okX10_confidence rfl (Nat.le_of_ble_eq_true rfl) ⟨Nat.le_of_ble_eq_true rfl, Nat.le_of_ble_eq_true rfl, by first | (show c0 + _ ≤ 601024; omega), by first | (show s0 + 6 * _ ≤ 7293034; omega)⟩ (fun r υ hq2 => ?_) (fun E υ hq2 => ?_)
    · obtain ⟨e, hz2, hI⟩ := hK _ _ hq2
      obtain rfl := Sum.inl.inj e
      rw [show ∀ (x : zV) (s : List zV), (some x).toList ++ s = x :: s from fun _ _ => rfl]
      refine zx_dstore dL_law_2170 (Nat.le_of_ble_eq_true rfl) (Nat.le_of_ble_eq_true rfl) rfl ?_
      refine zx_dload dL_law_2172 rfl ?_
      refine zx_dload dL_law_2174 rfl ?_
      refine zx_dcmp hA dL_law_2176 ?_
      refine zx_if_eq (tgt := 2198) (by first | exact hz2 _ _ | assumption | exact zr_b _ | exact zcmp_r _ _ | (unfold zr at *; omega)) dL_law_2177 (by decide) (fun h2177 => ?_) (fun h2177 => ?_)
      · refine zx_goto (tgt := 3069) dL_law_2198 (by decide) ?_
        refine zy_drop 5 [zf 101 0, zf 9 0, zf 10 261, zf 35 272, zi ((i : Nat) : Int), zu, zu, zd v, zu] rfl ?_
        refine zy_drop 7 [zf 101 0, zf 9 0, zf 10 261, zf 35 272, zi ((i : Nat) : Int), zu, zu, zu, zu] rfl ?_
        exact cont υ _ hz2 hI (by omega)
      · refine zx_dload dL_law_2180 rfl ?_
        refine zx_dload dL_law_2182 rfl ?_
        refine zx_dcmp hA dL_law_2184 ?_
        refine zx_if_eq (tgt := 2196) (by first | exact hz2 _ _ | assumption | exact zr_b _ | exact zcmp_r _ _ | (unfold zr at *; omega)) dL_law_2185 (by decide) (fun h2185 => ?_) (fun h2185 => ?_)
        · first | exact absurd hth (by assumption) | exact absurd rfl (by assumption) | exact absurd (by assumption) (by assumption) | (exfalso; exact h2193 (by omega)) | (exfalso; omega)
        · refine zx_dload dL_law_2188 rfl ?_
          refine zx_dload dL_law_2190 rfl ?_
          refine zx_dcmp hA dL_law_2192 ?_
          refine zx_if_ne (tgt := 2198) (by first | exact hz2 _ _ | assumption | exact zr_b _ | exact zcmp_r _ _ | (unfold zr at *; omega)) dL_law_2193 (by decide) (fun h2193 => ?_) (fun h2193 => ?_)
          · refine zx_goto (tgt := 3069) dL_law_2198 (by decide) ?_
            refine zy_drop 5 [zf 101 0, zf 9 0, zf 10 261, zf 35 272, zi ((i : Nat) : Int), zu, zu, zd v, zu] rfl ?_
            refine zy_drop 7 [zf 101 0, zf 9 0, zf 10 261, zf 35 272, zi ((i : Nat) : Int), zu, zu, zu, zu] rfl ?_
            exact cont υ _ hz2 hI (by omega)
          · first | exact absurd hth (by assumption) | exact absurd rfl (by assumption) | exact absurd (by assumption) (by assumption) | (exfalso; exact h2193 (by omega)) | (exfalso; omega)
    · obtain ⟨e, -⟩ := hK _ _ hq2
      cases e
  · obtain ⟨e, -⟩ := hS _ _ hq
    cases e
set_option maxRecDepth 20000 in
set_option maxHeartbeats 2000000 in
theorem lc_48 {l : Launch} {w : zW} (hfl : l.stackTraces = false) {hh : List (Nat × Nat × Nat × Nat)} {c0 s0 : Nat} {Z : List Frame → Array Value → State → State → Prop} (hc0 : c0 ≤ 1000) (hs0 : s0 ≤ 100000) (hLn : zSL w ≤ 3072) {i k : Nat} (hi : i + 6 ≤ zSL w) (hk : k ≤ i) {σ : zS} (hz : zOK σ) (hS : SimW l w False mL_addDeviceClue mX10_addDeviceClue 4 [zi (zSx w (i + 1)).toInt, zi (zSx w (i + 2)).toInt, zi (zSx w (i + 3)).toInt] σ) (cont : ∀ (τ : zS) (k' : Nat), zOK τ → Inv τ → k' ≤ k + 1 → zX l w (mL_law hh) (room_1, Z, c0, s0) 3069 [zf 101 0, zf 9 0, zf 10 261, zf 35 272, zi ((i : Nat) : Int), zu, zu, zu, zu] [] k' τ) : zX l w (mL_law hh) (room_1, Z, c0, s0) 2201 [zf 101 0, zf 9 0, zf 10 261, zf 35 272, zi ((i : Nat) : Int), zu, zu, zu, zu] [] k σ := by
  obtain ⟨QC, hC, hS⟩ := hS
  refine zx_aloadN dL_law_2201 rfl rfl ?_
  refine zx_aloadN dL_law_2202 rfl rfl ?_
  refine zx_iload dL_law_2203 rfl ?_
  refine zx_iconst dL_law_2205 ?_
  refine zx_iadd dL_law_2206 ?_
  refine zy_top (b := ((i + 1 : Nat) : Int)) (by omega) ?_
  refine zx_sld (by omega) (by omega) (by omega) dL_law_2207 ?_
  refine zx_aloadN dL_law_2208 rfl rfl ?_
  refine zx_iload dL_law_2209 rfl ?_
  refine zx_iconst dL_law_2211 ?_
  refine zx_iadd dL_law_2212 ?_
  refine zy_top (b := ((i + 2 : Nat) : Int)) (by omega) ?_
  refine zx_sld (by omega) (by omega) (by omega) dL_law_2213 ?_
  refine zx_aloadN dL_law_2214 rfl rfl ?_
  refine zx_iload dL_law_2215 rfl ?_
  refine zx_iconst dL_law_2217 ?_
  refine zx_iadd dL_law_2218 ?_
  refine zy_top (b := ((i + 3 : Nat) : Int)) (by omega) ?_
  refine zx_sld (by omega) (by omega) (by omega) dL_law_2219 ?_
  refine zx_aloadN dL_law_2220 rfl rfl ?_
  have hC1 : SpH l w mL_addDeviceClue 10 1 [zf 9 0, zi ((zSx w (i + 1)).toInt), zi ((zSx w (i + 2)).toInt), zi ((zSx w (i + 3)).toInt), zf 35 272] σ QC := hC
  refine zy_csHq [zf 9 0, zi ((zSx w (i + 1)).toInt), zi ((zSx w (i + 2)).toInt), zi ((zSx w (i + 3)).toInt), zf 35 272] hC1 dL_law_2221 cw_RL_314 okL_addDeviceClue rfl (Nat.le_of_ble_eq_true rfl) ⟨Nat.le_of_ble_eq_true rfl, Nat.le_of_ble_eq_true rfl, by first | (show c0 + _ ≤ 601024; omega), by first | (show s0 + 6 * _ ≤ 7293034; omega)⟩ (fun r τ hq => ?_) (fun E τ hq => ?_)
  · obtain ⟨c, e, hzc, hz1, QM, hM, hK⟩ := hS _ _ hq
    obtain rfl := Sum.inl.inj e
    rw [show ∀ (x : zV) (s : List zV), (some x).toList ++ s = x :: s from fun _ _ => rfl]
    refine zy_istore [zf 101 0, zf 9 0, zf 10 261, zf 35 272, zi ((i : Nat) : Int), zi c, zu, zu, zu] dL_law_2224 (Nat.le_of_ble_eq_true rfl) (Nat.le_of_ble_eq_true rfl) rfl rfl ?_
    refine zx_aloadN dL_law_2226 rfl rfl ?_
    refine zx_aloadN dL_law_2227 rfl rfl ?_
    refine zx_iload dL_law_2228 rfl ?_
    refine zx_iconst dL_law_2230 ?_
    refine zx_iadd dL_law_2231 ?_
    refine zy_top (b := ((i + 1 : Nat) : Int)) (by omega) ?_
    refine zx_sld (by omega) (by omega) (by omega) dL_law_2232 ?_
    refine zx_aloadN dL_law_2233 rfl rfl ?_
    refine zx_iload dL_law_2234 rfl ?_
    refine zx_iconst dL_law_2236 ?_
    refine zx_iadd dL_law_2237 ?_
    refine zy_top (b := ((i + 2 : Nat) : Int)) (by omega) ?_
    refine zx_sld (by omega) (by omega) (by omega) dL_law_2238 ?_
    refine zx_aloadN dL_law_2239 rfl rfl ?_
    refine zx_iload dL_law_2240 rfl ?_
    refine zx_iconst dL_law_2242 ?_
    refine zx_iadd dL_law_2243 ?_
    refine zy_top (b := ((i + 3 : Nat) : Int)) (by omega) ?_
    refine zx_sld (by omega) (by omega) (by omega) dL_law_2244 ?_
    refine zy_cvq [zi ((zSx w (i + 1)).toInt), zi ((zSx w (i + 2)).toInt), zi ((zSx w (i + 3)).toInt)] hM dL_law_2245 (by decide) rfl cw_RL_316 okX10_addDeviceClue rfl (Nat.le_of_ble_eq_true rfl) ⟨Nat.le_of_ble_eq_true rfl, Nat.le_of_ble_eq_true rfl, by first | (show c0 + _ ≤ 601024; omega), by first | (show s0 + 6 * _ ≤ 7293034; omega)⟩ (fun r υ hq2 => ?_) (fun E υ hq2 => ?_)
    · obtain ⟨b, e, hz2, hth, hob, hB, hI⟩ := hK _ _ hq2
      obtain rfl := Sum.inl.inj e
      rw [show ∀ (x : zV) (s : List zV), (some x).toList ++ s = x :: s from fun _ _ => rfl]
      refine zy_nrm ?_
      have hzb := zt_r b
      refine zy_istore [zf 101 0, zf 9 0, zf 10 261, zf 35 272, zi ((i : Nat) : Int), zi c, zi (zt b), zu, zu] dL_law_2248 (Nat.le_of_ble_eq_true rfl) (Nat.le_of_ble_eq_true rfl) rfl rfl ?_
      refine zx_aloadN dL_law_2250 rfl rfl ?_
      refine zy_cv [] (sX10_thrown  hfl hz2 ) dL_law_2251 (by decide) rfl cw_RL_141 okX10_thrown rfl (Nat.le_of_ble_eq_true rfl) ⟨Nat.le_of_ble_eq_true rfl, Nat.le_of_ble_eq_true rfl, by first | (show c0 + _ ≤ 601024; omega), by first | (show s0 + 6 * _ ≤ 7293034; omega)⟩ ?_
      refine zx_iload dL_law_2254 rfl ?_
      refine zx_icmp_eq (tgt := 2261) (by first | exact hz2 _ _ | assumption | exact zr_b _ | exact zcmp_r _ _ | (unfold zr at *; omega)) (by first | exact hz2 _ _ | assumption | exact zr_b _ | exact zcmp_r _ _ | (unfold zr at *; omega)) dL_law_2256 (by decide) (fun h2256 => ?_) (fun h2256 => ?_)
      · refine zx_iload dL_law_2261 rfl ?_
        refine zx_if_ne (tgt := 2278) (by first | exact hz2 _ _ | assumption | exact zr_b _ | exact zcmp_r _ _ | (unfold zr at *; omega)) dL_law_2263 (by decide) (fun h2263 => ?_) (fun h2263 => ?_)
        · refine zx_goto (tgt := 3069) dL_law_2278 (by decide) ?_
          refine zy_drop 5 [zf 101 0, zf 9 0, zf 10 261, zf 35 272, zi ((i : Nat) : Int), zu, zi (zt b), zu, zu] rfl ?_
          refine zy_drop 6 [zf 101 0, zf 9 0, zf 10 261, zf 35 272, zi ((i : Nat) : Int), zu, zu, zu, zu] rfl ?_
          exact cont υ _ hz2 hI (by omega)
        · refine zx_aloadN dL_law_2266 rfl rfl ?_
          refine zx_iconst dL_law_2267 ?_
          refine zx_lald dL_law_2268 ?_
          rw [hob (by assumption)]
          refine zx_iload dL_law_2269 rfl ?_
          refine zx_i2l (by first | exact hz2 _ _ | assumption | exact zr_b _ | exact zcmp_r _ _ | (unfold zr at *; omega)) dL_law_2271 ?_
          refine zx_lcmp (by first | exact hz2 _ _ | assumption | exact zr_b _ | exact zcmp_r _ _ | (unfold zr at *; omega)) (by first | exact hz2 _ _ | assumption | exact zr_b _ | exact zcmp_r _ _ | (unfold zr at *; omega)) dL_law_2272 ?_
          refine zx_if_eq (tgt := 2278) (by first | exact hz2 _ _ | assumption | exact zr_b _ | exact zcmp_r _ _ | (unfold zr at *; omega)) dL_law_2273 (by decide) (fun h2273 => ?_) (fun h2273 => ?_)
          · have h2273 := zcmp_eq.mp h2273
            refine zx_goto (tgt := 3069) dL_law_2278 (by decide) ?_
            refine zy_drop 5 [zf 101 0, zf 9 0, zf 10 261, zf 35 272, zi ((i : Nat) : Int), zu, zi (zt b), zu, zu] rfl ?_
            refine zy_drop 6 [zf 101 0, zf 9 0, zf 10 261, zf 35 272, zi ((i : Nat) : Int), zu, zu, zu, zu] rfl ?_
            exact cont υ _ hz2 hI (by omega)
          · have h2273 := fun q => h2273 (zcmp_eq.mpr q)
            first | exact absurd hth (by assumption) | exact absurd rfl (by assumption) | exact absurd (by assumption) (by assumption) | (exfalso; exact h2273 (by omega)) | (exfalso; omega)
      · first | exact absurd hth (by assumption) | exact absurd rfl (by assumption) | exact absurd (by assumption) (by assumption) | (exfalso; exact h2256 (by omega)) | (exfalso; omega)
    · obtain ⟨b, e, -⟩ := hK _ _ hq2
      cases e
  · obtain ⟨c, e, -⟩ := hS _ _ hq
    cases e
set_option maxRecDepth 20000 in
set_option maxHeartbeats 2000000 in
theorem lc_49 {l : Launch} {w : zW} (hfl : l.stackTraces = false) {hh : List (Nat × Nat × Nat × Nat)} {c0 s0 : Nat} {Z : List Frame → Array Value → State → State → Prop} (hc0 : c0 ≤ 1000) (hs0 : s0 ≤ 100000) (hLn : zSL w ≤ 3072) {i k : Nat} (hi : i + 6 ≤ zSL w) (hk : k ≤ i) {σ : zS} (hz : zOK σ) (hS : SimW l w False mL_addTypefaceClue mX10_addTypefaceClue 4 [zi (zSx w (i + 1)).toInt, zi (zSx w (i + 2)).toInt, zi (zSx w (i + 3)).toInt] σ) (cont : ∀ (τ : zS) (k' : Nat), zOK τ → Inv τ → k' ≤ k + 1 → zX l w (mL_law hh) (room_1, Z, c0, s0) 3069 [zf 101 0, zf 9 0, zf 10 261, zf 35 272, zi ((i : Nat) : Int), zu, zu, zu, zu] [] k' τ) : zX l w (mL_law hh) (room_1, Z, c0, s0) 2281 [zf 101 0, zf 9 0, zf 10 261, zf 35 272, zi ((i : Nat) : Int), zu, zu, zu, zu] [] k σ := by
  obtain ⟨QC, hC, hS⟩ := hS
  refine zx_aloadN dL_law_2281 rfl rfl ?_
  refine zx_aloadN dL_law_2282 rfl rfl ?_
  refine zx_iload dL_law_2283 rfl ?_
  refine zx_iconst dL_law_2285 ?_
  refine zx_iadd dL_law_2286 ?_
  refine zy_top (b := ((i + 1 : Nat) : Int)) (by omega) ?_
  refine zx_sld (by omega) (by omega) (by omega) dL_law_2287 ?_
  refine zx_aloadN dL_law_2288 rfl rfl ?_
  refine zx_iload dL_law_2289 rfl ?_
  refine zx_iconst dL_law_2291 ?_
  refine zx_iadd dL_law_2292 ?_
  refine zy_top (b := ((i + 2 : Nat) : Int)) (by omega) ?_
  refine zx_sld (by omega) (by omega) (by omega) dL_law_2293 ?_
  refine zx_aloadN dL_law_2294 rfl rfl ?_
  refine zx_iload dL_law_2295 rfl ?_
  refine zx_iconst dL_law_2297 ?_
  refine zx_iadd dL_law_2298 ?_
  refine zy_top (b := ((i + 3 : Nat) : Int)) (by omega) ?_
  refine zx_sld (by omega) (by omega) (by omega) dL_law_2299 ?_
  refine zx_aloadN dL_law_2300 rfl rfl ?_
  have hC1 : SpH l w mL_addTypefaceClue 10 1 [zf 9 0, zi ((zSx w (i + 1)).toInt), zi ((zSx w (i + 2)).toInt), zi ((zSx w (i + 3)).toInt), zf 35 272] σ QC := hC
  refine zy_csHq [zf 9 0, zi ((zSx w (i + 1)).toInt), zi ((zSx w (i + 2)).toInt), zi ((zSx w (i + 3)).toInt), zf 35 272] hC1 dL_law_2301 cw_RL_317 okL_addTypefaceClue rfl (Nat.le_of_ble_eq_true rfl) ⟨Nat.le_of_ble_eq_true rfl, Nat.le_of_ble_eq_true rfl, by first | (show c0 + _ ≤ 601024; omega), by first | (show s0 + 6 * _ ≤ 7293034; omega)⟩ (fun r τ hq => ?_) (fun E τ hq => ?_)
  · obtain ⟨c, e, hzc, hz1, QM, hM, hK⟩ := hS _ _ hq
    obtain rfl := Sum.inl.inj e
    rw [show ∀ (x : zV) (s : List zV), (some x).toList ++ s = x :: s from fun _ _ => rfl]
    refine zy_istore [zf 101 0, zf 9 0, zf 10 261, zf 35 272, zi ((i : Nat) : Int), zi c, zu, zu, zu] dL_law_2304 (Nat.le_of_ble_eq_true rfl) (Nat.le_of_ble_eq_true rfl) rfl rfl ?_
    refine zx_aloadN dL_law_2306 rfl rfl ?_
    refine zx_aloadN dL_law_2307 rfl rfl ?_
    refine zx_iload dL_law_2308 rfl ?_
    refine zx_iconst dL_law_2310 ?_
    refine zx_iadd dL_law_2311 ?_
    refine zy_top (b := ((i + 1 : Nat) : Int)) (by omega) ?_
    refine zx_sld (by omega) (by omega) (by omega) dL_law_2312 ?_
    refine zx_aloadN dL_law_2313 rfl rfl ?_
    refine zx_iload dL_law_2314 rfl ?_
    refine zx_iconst dL_law_2316 ?_
    refine zx_iadd dL_law_2317 ?_
    refine zy_top (b := ((i + 2 : Nat) : Int)) (by omega) ?_
    refine zx_sld (by omega) (by omega) (by omega) dL_law_2318 ?_
    refine zx_aloadN dL_law_2319 rfl rfl ?_
    refine zx_iload dL_law_2320 rfl ?_
    refine zx_iconst dL_law_2322 ?_
    refine zx_iadd dL_law_2323 ?_
    refine zy_top (b := ((i + 3 : Nat) : Int)) (by omega) ?_
    refine zx_sld (by omega) (by omega) (by omega) dL_law_2324 ?_
    refine zy_cvq [zi ((zSx w (i + 1)).toInt), zi ((zSx w (i + 2)).toInt), zi ((zSx w (i + 3)).toInt)] hM dL_law_2325 (by decide) rfl cw_RL_319 okX10_addTypefaceClue rfl (Nat.le_of_ble_eq_true rfl) ⟨Nat.le_of_ble_eq_true rfl, Nat.le_of_ble_eq_true rfl, by first | (show c0 + _ ≤ 601024; omega), by first | (show s0 + 6 * _ ≤ 7293034; omega)⟩ (fun r υ hq2 => ?_) (fun E υ hq2 => ?_)
    · obtain ⟨b, e, hz2, hth, hob, hB, hI⟩ := hK _ _ hq2
      obtain rfl := Sum.inl.inj e
      rw [show ∀ (x : zV) (s : List zV), (some x).toList ++ s = x :: s from fun _ _ => rfl]
      refine zy_nrm ?_
      have hzb := zt_r b
      refine zy_istore [zf 101 0, zf 9 0, zf 10 261, zf 35 272, zi ((i : Nat) : Int), zi c, zi (zt b), zu, zu] dL_law_2328 (Nat.le_of_ble_eq_true rfl) (Nat.le_of_ble_eq_true rfl) rfl rfl ?_
      refine zx_aloadN dL_law_2330 rfl rfl ?_
      refine zy_cv [] (sX10_thrown  hfl hz2 ) dL_law_2331 (by decide) rfl cw_RL_141 okX10_thrown rfl (Nat.le_of_ble_eq_true rfl) ⟨Nat.le_of_ble_eq_true rfl, Nat.le_of_ble_eq_true rfl, by first | (show c0 + _ ≤ 601024; omega), by first | (show s0 + 6 * _ ≤ 7293034; omega)⟩ ?_
      refine zx_iload dL_law_2334 rfl ?_
      refine zx_icmp_eq (tgt := 2341) (by first | exact hz2 _ _ | assumption | exact zr_b _ | exact zcmp_r _ _ | (unfold zr at *; omega)) (by first | exact hz2 _ _ | assumption | exact zr_b _ | exact zcmp_r _ _ | (unfold zr at *; omega)) dL_law_2336 (by decide) (fun h2336 => ?_) (fun h2336 => ?_)
      · refine zx_iload dL_law_2341 rfl ?_
        refine zx_if_ne (tgt := 2358) (by first | exact hz2 _ _ | assumption | exact zr_b _ | exact zcmp_r _ _ | (unfold zr at *; omega)) dL_law_2343 (by decide) (fun h2343 => ?_) (fun h2343 => ?_)
        · refine zx_goto (tgt := 3069) dL_law_2358 (by decide) ?_
          refine zy_drop 5 [zf 101 0, zf 9 0, zf 10 261, zf 35 272, zi ((i : Nat) : Int), zu, zi (zt b), zu, zu] rfl ?_
          refine zy_drop 6 [zf 101 0, zf 9 0, zf 10 261, zf 35 272, zi ((i : Nat) : Int), zu, zu, zu, zu] rfl ?_
          exact cont υ _ hz2 hI (by omega)
        · refine zx_aloadN dL_law_2346 rfl rfl ?_
          refine zx_iconst dL_law_2347 ?_
          refine zx_lald dL_law_2348 ?_
          rw [hob (by assumption)]
          refine zx_iload dL_law_2349 rfl ?_
          refine zx_i2l (by first | exact hz2 _ _ | assumption | exact zr_b _ | exact zcmp_r _ _ | (unfold zr at *; omega)) dL_law_2351 ?_
          refine zx_lcmp (by first | exact hz2 _ _ | assumption | exact zr_b _ | exact zcmp_r _ _ | (unfold zr at *; omega)) (by first | exact hz2 _ _ | assumption | exact zr_b _ | exact zcmp_r _ _ | (unfold zr at *; omega)) dL_law_2352 ?_
          refine zx_if_eq (tgt := 2358) (by first | exact hz2 _ _ | assumption | exact zr_b _ | exact zcmp_r _ _ | (unfold zr at *; omega)) dL_law_2353 (by decide) (fun h2353 => ?_) (fun h2353 => ?_)
          · have h2353 := zcmp_eq.mp h2353
            refine zx_goto (tgt := 3069) dL_law_2358 (by decide) ?_
            refine zy_drop 5 [zf 101 0, zf 9 0, zf 10 261, zf 35 272, zi ((i : Nat) : Int), zu, zi (zt b), zu, zu] rfl ?_
            refine zy_drop 6 [zf 101 0, zf 9 0, zf 10 261, zf 35 272, zi ((i : Nat) : Int), zu, zu, zu, zu] rfl ?_
            exact cont υ _ hz2 hI (by omega)
          · have h2353 := fun q => h2353 (zcmp_eq.mpr q)
            first | exact absurd hth (by assumption) | exact absurd rfl (by assumption) | exact absurd (by assumption) (by assumption) | (exfalso; exact h2353 (by omega)) | (exfalso; omega)
      · first | exact absurd hth (by assumption) | exact absurd rfl (by assumption) | exact absurd (by assumption) (by assumption) | (exfalso; exact h2336 (by omega)) | (exfalso; omega)
    · obtain ⟨b, e, -⟩ := hK _ _ hq2
      cases e
  · obtain ⟨c, e, -⟩ := hS _ _ hq
    cases e
set_option maxRecDepth 20000 in
set_option maxHeartbeats 2000000 in
theorem lc_50 {l : Launch} {w : zW} (hfl : l.stackTraces = false) {hh : List (Nat × Nat × Nat × Nat)} {c0 s0 : Nat} {Z : List Frame → Array Value → State → State → Prop} (hc0 : c0 ≤ 1000) (hs0 : s0 ≤ 100000) (hLn : zSL w ≤ 3072) {i k : Nat} (hi : i + 6 ≤ zSL w) (hk : k ≤ i) {σ : zS} (hz : zOK σ) (hS : SimW l w False mL_addWatermarkClue mX10_addWatermarkClue 4 [zi (zSx w (i + 1)).toInt, zi (zSx w (i + 2)).toInt, zi (zSx w (i + 3)).toInt] σ) (cont : ∀ (τ : zS) (k' : Nat), zOK τ → Inv τ → k' ≤ k + 1 → zX l w (mL_law hh) (room_1, Z, c0, s0) 3069 [zf 101 0, zf 9 0, zf 10 261, zf 35 272, zi ((i : Nat) : Int), zu, zu, zu, zu] [] k' τ) : zX l w (mL_law hh) (room_1, Z, c0, s0) 2361 [zf 101 0, zf 9 0, zf 10 261, zf 35 272, zi ((i : Nat) : Int), zu, zu, zu, zu] [] k σ := by
  obtain ⟨QC, hC, hS⟩ := hS
  refine zx_aloadN dL_law_2361 rfl rfl ?_
  refine zx_aloadN dL_law_2362 rfl rfl ?_
  refine zx_iload dL_law_2363 rfl ?_
  refine zx_iconst dL_law_2365 ?_
  refine zx_iadd dL_law_2366 ?_
  refine zy_top (b := ((i + 1 : Nat) : Int)) (by omega) ?_
  refine zx_sld (by omega) (by omega) (by omega) dL_law_2367 ?_
  refine zx_aloadN dL_law_2368 rfl rfl ?_
  refine zx_iload dL_law_2369 rfl ?_
  refine zx_iconst dL_law_2371 ?_
  refine zx_iadd dL_law_2372 ?_
  refine zy_top (b := ((i + 2 : Nat) : Int)) (by omega) ?_
  refine zx_sld (by omega) (by omega) (by omega) dL_law_2373 ?_
  refine zx_aloadN dL_law_2374 rfl rfl ?_
  refine zx_iload dL_law_2375 rfl ?_
  refine zx_iconst dL_law_2377 ?_
  refine zx_iadd dL_law_2378 ?_
  refine zy_top (b := ((i + 3 : Nat) : Int)) (by omega) ?_
  refine zx_sld (by omega) (by omega) (by omega) dL_law_2379 ?_
  refine zx_aloadN dL_law_2380 rfl rfl ?_
  have hC1 : SpH l w mL_addWatermarkClue 10 1 [zf 9 0, zi ((zSx w (i + 1)).toInt), zi ((zSx w (i + 2)).toInt), zi ((zSx w (i + 3)).toInt), zf 35 272] σ QC := hC
  refine zy_csHq [zf 9 0, zi ((zSx w (i + 1)).toInt), zi ((zSx w (i + 2)).toInt), zi ((zSx w (i + 3)).toInt), zf 35 272] hC1 dL_law_2381 cw_RL_320 okL_addWatermarkClue rfl (Nat.le_of_ble_eq_true rfl) ⟨Nat.le_of_ble_eq_true rfl, Nat.le_of_ble_eq_true rfl, by first | (show c0 + _ ≤ 601024; omega), by first | (show s0 + 6 * _ ≤ 7293034; omega)⟩ (fun r τ hq => ?_) (fun E τ hq => ?_)
  · obtain ⟨c, e, hzc, hz1, QM, hM, hK⟩ := hS _ _ hq
    obtain rfl := Sum.inl.inj e
    rw [show ∀ (x : zV) (s : List zV), (some x).toList ++ s = x :: s from fun _ _ => rfl]
    refine zy_istore [zf 101 0, zf 9 0, zf 10 261, zf 35 272, zi ((i : Nat) : Int), zi c, zu, zu, zu] dL_law_2384 (Nat.le_of_ble_eq_true rfl) (Nat.le_of_ble_eq_true rfl) rfl rfl ?_
    refine zx_aloadN dL_law_2386 rfl rfl ?_
    refine zx_aloadN dL_law_2387 rfl rfl ?_
    refine zx_iload dL_law_2388 rfl ?_
    refine zx_iconst dL_law_2390 ?_
    refine zx_iadd dL_law_2391 ?_
    refine zy_top (b := ((i + 1 : Nat) : Int)) (by omega) ?_
    refine zx_sld (by omega) (by omega) (by omega) dL_law_2392 ?_
    refine zx_aloadN dL_law_2393 rfl rfl ?_
    refine zx_iload dL_law_2394 rfl ?_
    refine zx_iconst dL_law_2396 ?_
    refine zx_iadd dL_law_2397 ?_
    refine zy_top (b := ((i + 2 : Nat) : Int)) (by omega) ?_
    refine zx_sld (by omega) (by omega) (by omega) dL_law_2398 ?_
    refine zx_aloadN dL_law_2399 rfl rfl ?_
    refine zx_iload dL_law_2400 rfl ?_
    refine zx_iconst dL_law_2402 ?_
    refine zx_iadd dL_law_2403 ?_
    refine zy_top (b := ((i + 3 : Nat) : Int)) (by omega) ?_
    refine zx_sld (by omega) (by omega) (by omega) dL_law_2404 ?_
    refine zy_cvq [zi ((zSx w (i + 1)).toInt), zi ((zSx w (i + 2)).toInt), zi ((zSx w (i + 3)).toInt)] hM dL_law_2405 (by decide) rfl cw_RL_322 okX10_addWatermarkClue rfl (Nat.le_of_ble_eq_true rfl) ⟨Nat.le_of_ble_eq_true rfl, Nat.le_of_ble_eq_true rfl, by first | (show c0 + _ ≤ 601024; omega), by first | (show s0 + 6 * _ ≤ 7293034; omega)⟩ (fun r υ hq2 => ?_) (fun E υ hq2 => ?_)
    · obtain ⟨b, e, hz2, hth, hob, hB, hI⟩ := hK _ _ hq2
      obtain rfl := Sum.inl.inj e
      rw [show ∀ (x : zV) (s : List zV), (some x).toList ++ s = x :: s from fun _ _ => rfl]
      refine zy_nrm ?_
      have hzb := zt_r b
      refine zy_istore [zf 101 0, zf 9 0, zf 10 261, zf 35 272, zi ((i : Nat) : Int), zi c, zi (zt b), zu, zu] dL_law_2408 (Nat.le_of_ble_eq_true rfl) (Nat.le_of_ble_eq_true rfl) rfl rfl ?_
      refine zx_aloadN dL_law_2410 rfl rfl ?_
      refine zy_cv [] (sX10_thrown  hfl hz2 ) dL_law_2411 (by decide) rfl cw_RL_141 okX10_thrown rfl (Nat.le_of_ble_eq_true rfl) ⟨Nat.le_of_ble_eq_true rfl, Nat.le_of_ble_eq_true rfl, by first | (show c0 + _ ≤ 601024; omega), by first | (show s0 + 6 * _ ≤ 7293034; omega)⟩ ?_
      refine zx_iload dL_law_2414 rfl ?_
      refine zx_icmp_eq (tgt := 2421) (by first | exact hz2 _ _ | assumption | exact zr_b _ | exact zcmp_r _ _ | (unfold zr at *; omega)) (by first | exact hz2 _ _ | assumption | exact zr_b _ | exact zcmp_r _ _ | (unfold zr at *; omega)) dL_law_2416 (by decide) (fun h2416 => ?_) (fun h2416 => ?_)
      · refine zx_iload dL_law_2421 rfl ?_
        refine zx_if_ne (tgt := 2438) (by first | exact hz2 _ _ | assumption | exact zr_b _ | exact zcmp_r _ _ | (unfold zr at *; omega)) dL_law_2423 (by decide) (fun h2423 => ?_) (fun h2423 => ?_)
        · refine zx_goto (tgt := 3069) dL_law_2438 (by decide) ?_
          refine zy_drop 5 [zf 101 0, zf 9 0, zf 10 261, zf 35 272, zi ((i : Nat) : Int), zu, zi (zt b), zu, zu] rfl ?_
          refine zy_drop 6 [zf 101 0, zf 9 0, zf 10 261, zf 35 272, zi ((i : Nat) : Int), zu, zu, zu, zu] rfl ?_
          exact cont υ _ hz2 hI (by omega)
        · refine zx_aloadN dL_law_2426 rfl rfl ?_
          refine zx_iconst dL_law_2427 ?_
          refine zx_lald dL_law_2428 ?_
          rw [hob (by assumption)]
          refine zx_iload dL_law_2429 rfl ?_
          refine zx_i2l (by first | exact hz2 _ _ | assumption | exact zr_b _ | exact zcmp_r _ _ | (unfold zr at *; omega)) dL_law_2431 ?_
          refine zx_lcmp (by first | exact hz2 _ _ | assumption | exact zr_b _ | exact zcmp_r _ _ | (unfold zr at *; omega)) (by first | exact hz2 _ _ | assumption | exact zr_b _ | exact zcmp_r _ _ | (unfold zr at *; omega)) dL_law_2432 ?_
          refine zx_if_eq (tgt := 2438) (by first | exact hz2 _ _ | assumption | exact zr_b _ | exact zcmp_r _ _ | (unfold zr at *; omega)) dL_law_2433 (by decide) (fun h2433 => ?_) (fun h2433 => ?_)
          · have h2433 := zcmp_eq.mp h2433
            refine zx_goto (tgt := 3069) dL_law_2438 (by decide) ?_
            refine zy_drop 5 [zf 101 0, zf 9 0, zf 10 261, zf 35 272, zi ((i : Nat) : Int), zu, zi (zt b), zu, zu] rfl ?_
            refine zy_drop 6 [zf 101 0, zf 9 0, zf 10 261, zf 35 272, zi ((i : Nat) : Int), zu, zu, zu, zu] rfl ?_
            exact cont υ _ hz2 hI (by omega)
          · have h2433 := fun q => h2433 (zcmp_eq.mpr q)
            first | exact absurd hth (by assumption) | exact absurd rfl (by assumption) | exact absurd (by assumption) (by assumption) | (exfalso; exact h2433 (by omega)) | (exfalso; omega)
      · first | exact absurd hth (by assumption) | exact absurd rfl (by assumption) | exact absurd (by assumption) (by assumption) | (exfalso; exact h2416 (by omega)) | (exfalso; omega)
    · obtain ⟨b, e, -⟩ := hK _ _ hq2
      cases e
  · obtain ⟨c, e, -⟩ := hS _ _ hq
    cases e
set_option maxRecDepth 20000 in
set_option maxHeartbeats 2000000 in
theorem lc_51 {l : Launch} {w : zW} (hfl : l.stackTraces = false) {hh : List (Nat × Nat × Nat × Nat)} {c0 s0 : Nat} {Z : List Frame → Array Value → State → State → Prop} (hc0 : c0 ≤ 1000) (hs0 : s0 ≤ 100000) (hLn : zSL w ≤ 3072) {i k : Nat} (hi : i + 6 ≤ zSL w) (hk : k ≤ i) {σ : zS} (hz : zOK σ) (hS : SimW l w False mL_addCityClue mX10_addCityClue 4 [zi (zSx w (i + 1)).toInt, zi (zSx w (i + 2)).toInt, zi (zSx w (i + 3)).toInt] σ) (cont : ∀ (τ : zS) (k' : Nat), zOK τ → Inv τ → k' ≤ k + 1 → zX l w (mL_law hh) (room_1, Z, c0, s0) 3069 [zf 101 0, zf 9 0, zf 10 261, zf 35 272, zi ((i : Nat) : Int), zu, zu, zu, zu] [] k' τ) : zX l w (mL_law hh) (room_1, Z, c0, s0) 2441 [zf 101 0, zf 9 0, zf 10 261, zf 35 272, zi ((i : Nat) : Int), zu, zu, zu, zu] [] k σ := by
  obtain ⟨QC, hC, hS⟩ := hS
  refine zx_aloadN dL_law_2441 rfl rfl ?_
  refine zx_aloadN dL_law_2442 rfl rfl ?_
  refine zx_iload dL_law_2443 rfl ?_
  refine zx_iconst dL_law_2445 ?_
  refine zx_iadd dL_law_2446 ?_
  refine zy_top (b := ((i + 1 : Nat) : Int)) (by omega) ?_
  refine zx_sld (by omega) (by omega) (by omega) dL_law_2447 ?_
  refine zx_aloadN dL_law_2448 rfl rfl ?_
  refine zx_iload dL_law_2449 rfl ?_
  refine zx_iconst dL_law_2451 ?_
  refine zx_iadd dL_law_2452 ?_
  refine zy_top (b := ((i + 2 : Nat) : Int)) (by omega) ?_
  refine zx_sld (by omega) (by omega) (by omega) dL_law_2453 ?_
  refine zx_aloadN dL_law_2454 rfl rfl ?_
  refine zx_iload dL_law_2455 rfl ?_
  refine zx_iconst dL_law_2457 ?_
  refine zx_iadd dL_law_2458 ?_
  refine zy_top (b := ((i + 3 : Nat) : Int)) (by omega) ?_
  refine zx_sld (by omega) (by omega) (by omega) dL_law_2459 ?_
  refine zx_aloadN dL_law_2460 rfl rfl ?_
  have hC1 : SpH l w mL_addCityClue 10 1 [zf 9 0, zi ((zSx w (i + 1)).toInt), zi ((zSx w (i + 2)).toInt), zi ((zSx w (i + 3)).toInt), zf 35 272] σ QC := hC
  refine zy_csHq [zf 9 0, zi ((zSx w (i + 1)).toInt), zi ((zSx w (i + 2)).toInt), zi ((zSx w (i + 3)).toInt), zf 35 272] hC1 dL_law_2461 cw_RL_323 okL_addCityClue rfl (Nat.le_of_ble_eq_true rfl) ⟨Nat.le_of_ble_eq_true rfl, Nat.le_of_ble_eq_true rfl, by first | (show c0 + _ ≤ 601024; omega), by first | (show s0 + 6 * _ ≤ 7293034; omega)⟩ (fun r τ hq => ?_) (fun E τ hq => ?_)
  · obtain ⟨c, e, hzc, hz1, QM, hM, hK⟩ := hS _ _ hq
    obtain rfl := Sum.inl.inj e
    rw [show ∀ (x : zV) (s : List zV), (some x).toList ++ s = x :: s from fun _ _ => rfl]
    refine zy_istore [zf 101 0, zf 9 0, zf 10 261, zf 35 272, zi ((i : Nat) : Int), zi c, zu, zu, zu] dL_law_2464 (Nat.le_of_ble_eq_true rfl) (Nat.le_of_ble_eq_true rfl) rfl rfl ?_
    refine zx_aloadN dL_law_2466 rfl rfl ?_
    refine zx_aloadN dL_law_2467 rfl rfl ?_
    refine zx_iload dL_law_2468 rfl ?_
    refine zx_iconst dL_law_2470 ?_
    refine zx_iadd dL_law_2471 ?_
    refine zy_top (b := ((i + 1 : Nat) : Int)) (by omega) ?_
    refine zx_sld (by omega) (by omega) (by omega) dL_law_2472 ?_
    refine zx_aloadN dL_law_2473 rfl rfl ?_
    refine zx_iload dL_law_2474 rfl ?_
    refine zx_iconst dL_law_2476 ?_
    refine zx_iadd dL_law_2477 ?_
    refine zy_top (b := ((i + 2 : Nat) : Int)) (by omega) ?_
    refine zx_sld (by omega) (by omega) (by omega) dL_law_2478 ?_
    refine zx_aloadN dL_law_2479 rfl rfl ?_
    refine zx_iload dL_law_2480 rfl ?_
    refine zx_iconst dL_law_2482 ?_
    refine zx_iadd dL_law_2483 ?_
    refine zy_top (b := ((i + 3 : Nat) : Int)) (by omega) ?_
    refine zx_sld (by omega) (by omega) (by omega) dL_law_2484 ?_
    refine zy_cvq [zi ((zSx w (i + 1)).toInt), zi ((zSx w (i + 2)).toInt), zi ((zSx w (i + 3)).toInt)] hM dL_law_2485 (by decide) rfl cw_RL_325 okX10_addCityClue rfl (Nat.le_of_ble_eq_true rfl) ⟨Nat.le_of_ble_eq_true rfl, Nat.le_of_ble_eq_true rfl, by first | (show c0 + _ ≤ 601024; omega), by first | (show s0 + 6 * _ ≤ 7293034; omega)⟩ (fun r υ hq2 => ?_) (fun E υ hq2 => ?_)
    · obtain ⟨b, e, hz2, hth, hob, hB, hI⟩ := hK _ _ hq2
      obtain rfl := Sum.inl.inj e
      rw [show ∀ (x : zV) (s : List zV), (some x).toList ++ s = x :: s from fun _ _ => rfl]
      refine zy_nrm ?_
      have hzb := zt_r b
      refine zy_istore [zf 101 0, zf 9 0, zf 10 261, zf 35 272, zi ((i : Nat) : Int), zi c, zi (zt b), zu, zu] dL_law_2488 (Nat.le_of_ble_eq_true rfl) (Nat.le_of_ble_eq_true rfl) rfl rfl ?_
      refine zx_aloadN dL_law_2490 rfl rfl ?_
      refine zy_cv [] (sX10_thrown  hfl hz2 ) dL_law_2491 (by decide) rfl cw_RL_141 okX10_thrown rfl (Nat.le_of_ble_eq_true rfl) ⟨Nat.le_of_ble_eq_true rfl, Nat.le_of_ble_eq_true rfl, by first | (show c0 + _ ≤ 601024; omega), by first | (show s0 + 6 * _ ≤ 7293034; omega)⟩ ?_
      refine zx_iload dL_law_2494 rfl ?_
      refine zx_icmp_eq (tgt := 2501) (by first | exact hz2 _ _ | assumption | exact zr_b _ | exact zcmp_r _ _ | (unfold zr at *; omega)) (by first | exact hz2 _ _ | assumption | exact zr_b _ | exact zcmp_r _ _ | (unfold zr at *; omega)) dL_law_2496 (by decide) (fun h2496 => ?_) (fun h2496 => ?_)
      · refine zx_iload dL_law_2501 rfl ?_
        refine zx_if_ne (tgt := 2518) (by first | exact hz2 _ _ | assumption | exact zr_b _ | exact zcmp_r _ _ | (unfold zr at *; omega)) dL_law_2503 (by decide) (fun h2503 => ?_) (fun h2503 => ?_)
        · refine zx_goto (tgt := 3069) dL_law_2518 (by decide) ?_
          refine zy_drop 5 [zf 101 0, zf 9 0, zf 10 261, zf 35 272, zi ((i : Nat) : Int), zu, zi (zt b), zu, zu] rfl ?_
          refine zy_drop 6 [zf 101 0, zf 9 0, zf 10 261, zf 35 272, zi ((i : Nat) : Int), zu, zu, zu, zu] rfl ?_
          exact cont υ _ hz2 hI (by omega)
        · refine zx_aloadN dL_law_2506 rfl rfl ?_
          refine zx_iconst dL_law_2507 ?_
          refine zx_lald dL_law_2508 ?_
          rw [hob (by assumption)]
          refine zx_iload dL_law_2509 rfl ?_
          refine zx_i2l (by first | exact hz2 _ _ | assumption | exact zr_b _ | exact zcmp_r _ _ | (unfold zr at *; omega)) dL_law_2511 ?_
          refine zx_lcmp (by first | exact hz2 _ _ | assumption | exact zr_b _ | exact zcmp_r _ _ | (unfold zr at *; omega)) (by first | exact hz2 _ _ | assumption | exact zr_b _ | exact zcmp_r _ _ | (unfold zr at *; omega)) dL_law_2512 ?_
          refine zx_if_eq (tgt := 2518) (by first | exact hz2 _ _ | assumption | exact zr_b _ | exact zcmp_r _ _ | (unfold zr at *; omega)) dL_law_2513 (by decide) (fun h2513 => ?_) (fun h2513 => ?_)
          · have h2513 := zcmp_eq.mp h2513
            refine zx_goto (tgt := 3069) dL_law_2518 (by decide) ?_
            refine zy_drop 5 [zf 101 0, zf 9 0, zf 10 261, zf 35 272, zi ((i : Nat) : Int), zu, zi (zt b), zu, zu] rfl ?_
            refine zy_drop 6 [zf 101 0, zf 9 0, zf 10 261, zf 35 272, zi ((i : Nat) : Int), zu, zu, zu, zu] rfl ?_
            exact cont υ _ hz2 hI (by omega)
          · have h2513 := fun q => h2513 (zcmp_eq.mpr q)
            first | exact absurd hth (by assumption) | exact absurd rfl (by assumption) | exact absurd (by assumption) (by assumption) | (exfalso; exact h2513 (by omega)) | (exfalso; omega)
      · first | exact absurd hth (by assumption) | exact absurd rfl (by assumption) | exact absurd (by assumption) (by assumption) | (exfalso; exact h2496 (by omega)) | (exfalso; omega)
    · obtain ⟨b, e, -⟩ := hK _ _ hq2
      cases e
  · obtain ⟨c, e, -⟩ := hS _ _ hq
    cases e
set_option maxRecDepth 20000 in
set_option maxHeartbeats 2000000 in
theorem lc_52 {l : Launch} {w : zW} (hfl : l.stackTraces = false) {hh : List (Nat × Nat × Nat × Nat)} {c0 s0 : Nat} {Z : List Frame → Array Value → State → State → Prop} (hc0 : c0 ≤ 1000) (hs0 : s0 ≤ 100000) (hLn : zSL w ≤ 3072) {i k : Nat} (hi : i + 6 ≤ zSL w) (hk : k ≤ i) {σ : zS} (hz : zOK σ) (hS : SimW l w False mL_addDateClue mX10_addDateClue 4 [zi (zSx w (i + 1)).toInt, zi (zSx w (i + 2)).toInt, zi (zSx w (i + 3)).toInt] σ) (cont : ∀ (τ : zS) (k' : Nat), zOK τ → Inv τ → k' ≤ k + 1 → zX l w (mL_law hh) (room_1, Z, c0, s0) 3069 [zf 101 0, zf 9 0, zf 10 261, zf 35 272, zi ((i : Nat) : Int), zu, zu, zu, zu] [] k' τ) : zX l w (mL_law hh) (room_1, Z, c0, s0) 2521 [zf 101 0, zf 9 0, zf 10 261, zf 35 272, zi ((i : Nat) : Int), zu, zu, zu, zu] [] k σ := by
  obtain ⟨QC, hC, hS⟩ := hS
  refine zx_aloadN dL_law_2521 rfl rfl ?_
  refine zx_aloadN dL_law_2522 rfl rfl ?_
  refine zx_iload dL_law_2523 rfl ?_
  refine zx_iconst dL_law_2525 ?_
  refine zx_iadd dL_law_2526 ?_
  refine zy_top (b := ((i + 1 : Nat) : Int)) (by omega) ?_
  refine zx_sld (by omega) (by omega) (by omega) dL_law_2527 ?_
  refine zx_aloadN dL_law_2528 rfl rfl ?_
  refine zx_iload dL_law_2529 rfl ?_
  refine zx_iconst dL_law_2531 ?_
  refine zx_iadd dL_law_2532 ?_
  refine zy_top (b := ((i + 2 : Nat) : Int)) (by omega) ?_
  refine zx_sld (by omega) (by omega) (by omega) dL_law_2533 ?_
  refine zx_aloadN dL_law_2534 rfl rfl ?_
  refine zx_iload dL_law_2535 rfl ?_
  refine zx_iconst dL_law_2537 ?_
  refine zx_iadd dL_law_2538 ?_
  refine zy_top (b := ((i + 3 : Nat) : Int)) (by omega) ?_
  refine zx_sld (by omega) (by omega) (by omega) dL_law_2539 ?_
  refine zx_aloadN dL_law_2540 rfl rfl ?_
  have hC1 : SpH l w mL_addDateClue 10 1 [zf 9 0, zi ((zSx w (i + 1)).toInt), zi ((zSx w (i + 2)).toInt), zi ((zSx w (i + 3)).toInt), zf 35 272] σ QC := hC
  refine zy_csHq [zf 9 0, zi ((zSx w (i + 1)).toInt), zi ((zSx w (i + 2)).toInt), zi ((zSx w (i + 3)).toInt), zf 35 272] hC1 dL_law_2541 cw_RL_326 okL_addDateClue rfl (Nat.le_of_ble_eq_true rfl) ⟨Nat.le_of_ble_eq_true rfl, Nat.le_of_ble_eq_true rfl, by first | (show c0 + _ ≤ 601024; omega), by first | (show s0 + 6 * _ ≤ 7293034; omega)⟩ (fun r τ hq => ?_) (fun E τ hq => ?_)
  · obtain ⟨c, e, hzc, hz1, QM, hM, hK⟩ := hS _ _ hq
    obtain rfl := Sum.inl.inj e
    rw [show ∀ (x : zV) (s : List zV), (some x).toList ++ s = x :: s from fun _ _ => rfl]
    refine zy_istore [zf 101 0, zf 9 0, zf 10 261, zf 35 272, zi ((i : Nat) : Int), zi c, zu, zu, zu] dL_law_2544 (Nat.le_of_ble_eq_true rfl) (Nat.le_of_ble_eq_true rfl) rfl rfl ?_
    refine zx_aloadN dL_law_2546 rfl rfl ?_
    refine zx_aloadN dL_law_2547 rfl rfl ?_
    refine zx_iload dL_law_2548 rfl ?_
    refine zx_iconst dL_law_2550 ?_
    refine zx_iadd dL_law_2551 ?_
    refine zy_top (b := ((i + 1 : Nat) : Int)) (by omega) ?_
    refine zx_sld (by omega) (by omega) (by omega) dL_law_2552 ?_
    refine zx_aloadN dL_law_2553 rfl rfl ?_
    refine zx_iload dL_law_2554 rfl ?_
    refine zx_iconst dL_law_2556 ?_
    refine zx_iadd dL_law_2557 ?_
    refine zy_top (b := ((i + 2 : Nat) : Int)) (by omega) ?_
    refine zx_sld (by omega) (by omega) (by omega) dL_law_2558 ?_
    refine zx_aloadN dL_law_2559 rfl rfl ?_
    refine zx_iload dL_law_2560 rfl ?_
    refine zx_iconst dL_law_2562 ?_
    refine zx_iadd dL_law_2563 ?_
    refine zy_top (b := ((i + 3 : Nat) : Int)) (by omega) ?_
    refine zx_sld (by omega) (by omega) (by omega) dL_law_2564 ?_
    refine zy_cvq [zi ((zSx w (i + 1)).toInt), zi ((zSx w (i + 2)).toInt), zi ((zSx w (i + 3)).toInt)] hM dL_law_2565 (by decide) rfl cw_RL_328 okX10_addDateClue rfl (Nat.le_of_ble_eq_true rfl) ⟨Nat.le_of_ble_eq_true rfl, Nat.le_of_ble_eq_true rfl, by first | (show c0 + _ ≤ 601024; omega), by first | (show s0 + 6 * _ ≤ 7293034; omega)⟩ (fun r υ hq2 => ?_) (fun E υ hq2 => ?_)
    · obtain ⟨b, e, hz2, hth, hob, hB, hI⟩ := hK _ _ hq2
      obtain rfl := Sum.inl.inj e
      rw [show ∀ (x : zV) (s : List zV), (some x).toList ++ s = x :: s from fun _ _ => rfl]
      refine zy_nrm ?_
      have hzb := zt_r b
      refine zy_istore [zf 101 0, zf 9 0, zf 10 261, zf 35 272, zi ((i : Nat) : Int), zi c, zi (zt b), zu, zu] dL_law_2568 (Nat.le_of_ble_eq_true rfl) (Nat.le_of_ble_eq_true rfl) rfl rfl ?_
      refine zx_aloadN dL_law_2570 rfl rfl ?_
      refine zy_cv [] (sX10_thrown  hfl hz2 ) dL_law_2571 (by decide) rfl cw_RL_141 okX10_thrown rfl (Nat.le_of_ble_eq_true rfl) ⟨Nat.le_of_ble_eq_true rfl, Nat.le_of_ble_eq_true rfl, by first | (show c0 + _ ≤ 601024; omega), by first | (show s0 + 6 * _ ≤ 7293034; omega)⟩ ?_
      refine zx_iload dL_law_2574 rfl ?_
      refine zx_icmp_eq (tgt := 2581) (by first | exact hz2 _ _ | assumption | exact zr_b _ | exact zcmp_r _ _ | (unfold zr at *; omega)) (by first | exact hz2 _ _ | assumption | exact zr_b _ | exact zcmp_r _ _ | (unfold zr at *; omega)) dL_law_2576 (by decide) (fun h2576 => ?_) (fun h2576 => ?_)
      · refine zx_iload dL_law_2581 rfl ?_
        refine zx_if_ne (tgt := 2598) (by first | exact hz2 _ _ | assumption | exact zr_b _ | exact zcmp_r _ _ | (unfold zr at *; omega)) dL_law_2583 (by decide) (fun h2583 => ?_) (fun h2583 => ?_)
        · refine zx_goto (tgt := 3069) dL_law_2598 (by decide) ?_
          refine zy_drop 5 [zf 101 0, zf 9 0, zf 10 261, zf 35 272, zi ((i : Nat) : Int), zu, zi (zt b), zu, zu] rfl ?_
          refine zy_drop 6 [zf 101 0, zf 9 0, zf 10 261, zf 35 272, zi ((i : Nat) : Int), zu, zu, zu, zu] rfl ?_
          exact cont υ _ hz2 hI (by omega)
        · refine zx_aloadN dL_law_2586 rfl rfl ?_
          refine zx_iconst dL_law_2587 ?_
          refine zx_lald dL_law_2588 ?_
          rw [hob (by assumption)]
          refine zx_iload dL_law_2589 rfl ?_
          refine zx_i2l (by first | exact hz2 _ _ | assumption | exact zr_b _ | exact zcmp_r _ _ | (unfold zr at *; omega)) dL_law_2591 ?_
          refine zx_lcmp (by first | exact hz2 _ _ | assumption | exact zr_b _ | exact zcmp_r _ _ | (unfold zr at *; omega)) (by first | exact hz2 _ _ | assumption | exact zr_b _ | exact zcmp_r _ _ | (unfold zr at *; omega)) dL_law_2592 ?_
          refine zx_if_eq (tgt := 2598) (by first | exact hz2 _ _ | assumption | exact zr_b _ | exact zcmp_r _ _ | (unfold zr at *; omega)) dL_law_2593 (by decide) (fun h2593 => ?_) (fun h2593 => ?_)
          · have h2593 := zcmp_eq.mp h2593
            refine zx_goto (tgt := 3069) dL_law_2598 (by decide) ?_
            refine zy_drop 5 [zf 101 0, zf 9 0, zf 10 261, zf 35 272, zi ((i : Nat) : Int), zu, zi (zt b), zu, zu] rfl ?_
            refine zy_drop 6 [zf 101 0, zf 9 0, zf 10 261, zf 35 272, zi ((i : Nat) : Int), zu, zu, zu, zu] rfl ?_
            exact cont υ _ hz2 hI (by omega)
          · have h2593 := fun q => h2593 (zcmp_eq.mpr q)
            first | exact absurd hth (by assumption) | exact absurd rfl (by assumption) | exact absurd (by assumption) (by assumption) | (exfalso; exact h2593 (by omega)) | (exfalso; omega)
      · first | exact absurd hth (by assumption) | exact absurd rfl (by assumption) | exact absurd (by assumption) (by assumption) | (exfalso; exact h2576 (by omega)) | (exfalso; omega)
    · obtain ⟨b, e, -⟩ := hK _ _ hq2
      cases e
  · obtain ⟨c, e, -⟩ := hS _ _ hq
    cases e
set_option maxRecDepth 20000 in
set_option maxHeartbeats 2000000 in
theorem lc_53 {l : Launch} {w : zW} (hfl : l.stackTraces = false) {hh : List (Nat × Nat × Nat × Nat)} {c0 s0 : Nat} {Z : List Frame → Array Value → State → State → Prop} (hc0 : c0 ≤ 1000) (hs0 : s0 ≤ 100000) (hLn : zSL w ≤ 3072) {i k : Nat} (hi : i + 6 ≤ zSL w) (hk : k ≤ i) {σ : zS} (hz : zOK σ) (hS : SimW l w False mL_read mX10_read 5 [zi (zSx w (i + 1)).toInt] σ) (cont : ∀ (τ : zS) (k' : Nat), zOK τ → Inv τ → k' ≤ k + 1 → zX l w (mL_law hh) (room_1, Z, c0, s0) 3069 [zf 101 0, zf 9 0, zf 10 261, zf 35 272, zi ((i : Nat) : Int), zu, zu, zu, zu] [] k' τ) : zX l w (mL_law hh) (room_1, Z, c0, s0) 2601 [zf 101 0, zf 9 0, zf 10 261, zf 35 272, zi ((i : Nat) : Int), zu, zu, zu, zu] [] k σ := by
  obtain ⟨QC, hC, hS⟩ := hS
  refine zx_aloadN dL_law_2601 rfl rfl ?_
  refine zx_aloadN dL_law_2602 rfl rfl ?_
  refine zx_iload dL_law_2603 rfl ?_
  refine zx_iconst dL_law_2605 ?_
  refine zx_iadd dL_law_2606 ?_
  refine zy_top (b := ((i + 1 : Nat) : Int)) (by omega) ?_
  refine zx_sld (by omega) (by omega) (by omega) dL_law_2607 ?_
  refine zx_aloadN dL_law_2608 rfl rfl ?_
  have hC1 : SpH l w mL_read 10 1 [zf 9 0, zi ((zSx w (i + 1)).toInt), zf 35 272] σ QC := hC
  refine zy_csHq [zf 9 0, zi ((zSx w (i + 1)).toInt), zf 35 272] hC1 dL_law_2609 cw_RL_329 okL_read rfl (Nat.le_of_ble_eq_true rfl) ⟨Nat.le_of_ble_eq_true rfl, Nat.le_of_ble_eq_true rfl, by first | (show c0 + _ ≤ 601024; omega), by first | (show s0 + 6 * _ ≤ 7293034; omega)⟩ (fun r τ hq => ?_) (fun E τ hq => ?_)
  · obtain ⟨c, e, hzc, hz1, QM, hM, hK⟩ := hS _ _ hq
    obtain rfl := Sum.inl.inj e
    rw [show ∀ (x : zV) (s : List zV), (some x).toList ++ s = x :: s from fun _ _ => rfl]
    refine zy_istore [zf 101 0, zf 9 0, zf 10 261, zf 35 272, zi ((i : Nat) : Int), zi c, zu, zu, zu] dL_law_2612 (Nat.le_of_ble_eq_true rfl) (Nat.le_of_ble_eq_true rfl) rfl rfl ?_
    refine zx_aloadN dL_law_2614 rfl rfl ?_
    refine zx_aloadN dL_law_2615 rfl rfl ?_
    refine zx_iload dL_law_2616 rfl ?_
    refine zx_iconst dL_law_2618 ?_
    refine zx_iadd dL_law_2619 ?_
    refine zy_top (b := ((i + 1 : Nat) : Int)) (by omega) ?_
    refine zx_sld (by omega) (by omega) (by omega) dL_law_2620 ?_
    refine zy_cvq [zi ((zSx w (i + 1)).toInt)] hM dL_law_2621 (by decide) rfl cw_RL_331 okX10_read rfl (Nat.le_of_ble_eq_true rfl) ⟨Nat.le_of_ble_eq_true rfl, Nat.le_of_ble_eq_true rfl, by first | (show c0 + _ ≤ 601024; omega), by first | (show s0 + 6 * _ ≤ 7293034; omega)⟩ (fun r υ hq2 => ?_) (fun E υ hq2 => ?_)
    · obtain ⟨b, e, hz2, hth, hob, hB, hI⟩ := hK _ _ hq2
      obtain rfl := Sum.inl.inj e
      rw [show ∀ (x : zV) (s : List zV), (some x).toList ++ s = x :: s from fun _ _ => rfl]
      refine zy_nrm ?_
      have hzb := zt_r b
      refine zy_istore [zf 101 0, zf 9 0, zf 10 261, zf 35 272, zi ((i : Nat) : Int), zi c, zi (zt b), zu, zu] dL_law_2624 (Nat.le_of_ble_eq_true rfl) (Nat.le_of_ble_eq_true rfl) rfl rfl ?_
      refine zx_aloadN dL_law_2626 rfl rfl ?_
      refine zy_cv [] (sX10_thrown  hfl hz2 ) dL_law_2627 (by decide) rfl cw_RL_141 okX10_thrown rfl (Nat.le_of_ble_eq_true rfl) ⟨Nat.le_of_ble_eq_true rfl, Nat.le_of_ble_eq_true rfl, by first | (show c0 + _ ≤ 601024; omega), by first | (show s0 + 6 * _ ≤ 7293034; omega)⟩ ?_
      refine zx_iload dL_law_2630 rfl ?_
      refine zx_icmp_eq (tgt := 2637) (by first | exact hz2 _ _ | assumption | exact zr_b _ | exact zcmp_r _ _ | (unfold zr at *; omega)) (by first | exact hz2 _ _ | assumption | exact zr_b _ | exact zcmp_r _ _ | (unfold zr at *; omega)) dL_law_2632 (by decide) (fun h2632 => ?_) (fun h2632 => ?_)
      · refine zx_iload dL_law_2637 rfl ?_
        refine zx_if_ne (tgt := 2654) (by first | exact hz2 _ _ | assumption | exact zr_b _ | exact zcmp_r _ _ | (unfold zr at *; omega)) dL_law_2639 (by decide) (fun h2639 => ?_) (fun h2639 => ?_)
        · refine zx_goto (tgt := 3069) dL_law_2654 (by decide) ?_
          refine zy_drop 5 [zf 101 0, zf 9 0, zf 10 261, zf 35 272, zi ((i : Nat) : Int), zu, zi (zt b), zu, zu] rfl ?_
          refine zy_drop 6 [zf 101 0, zf 9 0, zf 10 261, zf 35 272, zi ((i : Nat) : Int), zu, zu, zu, zu] rfl ?_
          exact cont υ _ hz2 hI (by omega)
        · refine zx_aloadN dL_law_2642 rfl rfl ?_
          refine zx_iconst dL_law_2643 ?_
          refine zx_lald dL_law_2644 ?_
          rw [hob (by assumption)]
          refine zx_iload dL_law_2645 rfl ?_
          refine zx_i2l (by first | exact hz2 _ _ | assumption | exact zr_b _ | exact zcmp_r _ _ | (unfold zr at *; omega)) dL_law_2647 ?_
          refine zx_lcmp (by first | exact hz2 _ _ | assumption | exact zr_b _ | exact zcmp_r _ _ | (unfold zr at *; omega)) (by first | exact hz2 _ _ | assumption | exact zr_b _ | exact zcmp_r _ _ | (unfold zr at *; omega)) dL_law_2648 ?_
          refine zx_if_eq (tgt := 2654) (by first | exact hz2 _ _ | assumption | exact zr_b _ | exact zcmp_r _ _ | (unfold zr at *; omega)) dL_law_2649 (by decide) (fun h2649 => ?_) (fun h2649 => ?_)
          · have h2649 := zcmp_eq.mp h2649
            refine zx_goto (tgt := 3069) dL_law_2654 (by decide) ?_
            refine zy_drop 5 [zf 101 0, zf 9 0, zf 10 261, zf 35 272, zi ((i : Nat) : Int), zu, zi (zt b), zu, zu] rfl ?_
            refine zy_drop 6 [zf 101 0, zf 9 0, zf 10 261, zf 35 272, zi ((i : Nat) : Int), zu, zu, zu, zu] rfl ?_
            exact cont υ _ hz2 hI (by omega)
          · have h2649 := fun q => h2649 (zcmp_eq.mpr q)
            first | exact absurd hth (by assumption) | exact absurd rfl (by assumption) | exact absurd (by assumption) (by assumption) | (exfalso; exact h2649 (by omega)) | (exfalso; omega)
      · first | exact absurd hth (by assumption) | exact absurd rfl (by assumption) | exact absurd (by assumption) (by assumption) | (exfalso; exact h2632 (by omega)) | (exfalso; omega)
    · obtain ⟨b, e, -⟩ := hK _ _ hq2
      cases e
  · obtain ⟨c, e, -⟩ := hS _ _ hq
    cases e
set_option maxRecDepth 20000 in
set_option maxHeartbeats 2000000 in
theorem lc_54 {l : Launch} {w : zW} (hfl : l.stackTraces = false) {hh : List (Nat × Nat × Nat × Nat)} {c0 s0 : Nat} {Z : List Frame → Array Value → State → State → Prop} (hc0 : c0 ≤ 1000) (hs0 : s0 ≤ 100000) (hLn : zSL w ≤ 3072) {i k : Nat} (hi : i + 6 ≤ zSL w) (hk : k ≤ i) {σ : zS} (hz : zOK σ) (hS : SimW l w False mL_setAside mX10_setAside 13 [zi (zSx w (i + 1)).toInt] σ) (cont : ∀ (τ : zS) (k' : Nat), zOK τ → Inv τ → k' ≤ k + 1 → zX l w (mL_law hh) (room_1, Z, c0, s0) 3069 [zf 101 0, zf 9 0, zf 10 261, zf 35 272, zi ((i : Nat) : Int), zu, zu, zu, zu] [] k' τ) : zX l w (mL_law hh) (room_1, Z, c0, s0) 2657 [zf 101 0, zf 9 0, zf 10 261, zf 35 272, zi ((i : Nat) : Int), zu, zu, zu, zu] [] k σ := by
  obtain ⟨QC, hC, hS⟩ := hS
  refine zx_aloadN dL_law_2657 rfl rfl ?_
  refine zx_aloadN dL_law_2658 rfl rfl ?_
  refine zx_iload dL_law_2659 rfl ?_
  refine zx_iconst dL_law_2661 ?_
  refine zx_iadd dL_law_2662 ?_
  refine zy_top (b := ((i + 1 : Nat) : Int)) (by omega) ?_
  refine zx_sld (by omega) (by omega) (by omega) dL_law_2663 ?_
  refine zx_aloadN dL_law_2664 rfl rfl ?_
  have hC1 : SpH l w mL_setAside 10 1 [zf 9 0, zi ((zSx w (i + 1)).toInt), zf 35 272] σ QC := hC
  refine zy_csHq [zf 9 0, zi ((zSx w (i + 1)).toInt), zf 35 272] hC1 dL_law_2665 cw_RL_332 okL_setAside rfl (Nat.le_of_ble_eq_true rfl) ⟨Nat.le_of_ble_eq_true rfl, Nat.le_of_ble_eq_true rfl, by first | (show c0 + _ ≤ 601024; omega), by first | (show s0 + 6 * _ ≤ 7293034; omega)⟩ (fun r τ hq => ?_) (fun E τ hq => ?_)
  · obtain ⟨c, e, hzc, hz1, QM, hM, hK⟩ := hS _ _ hq
    obtain rfl := Sum.inl.inj e
    rw [show ∀ (x : zV) (s : List zV), (some x).toList ++ s = x :: s from fun _ _ => rfl]
    refine zy_istore [zf 101 0, zf 9 0, zf 10 261, zf 35 272, zi ((i : Nat) : Int), zi c, zu, zu, zu] dL_law_2668 (Nat.le_of_ble_eq_true rfl) (Nat.le_of_ble_eq_true rfl) rfl rfl ?_
    refine zx_aloadN dL_law_2670 rfl rfl ?_
    refine zx_aloadN dL_law_2671 rfl rfl ?_
    refine zx_iload dL_law_2672 rfl ?_
    refine zx_iconst dL_law_2674 ?_
    refine zx_iadd dL_law_2675 ?_
    refine zy_top (b := ((i + 1 : Nat) : Int)) (by omega) ?_
    refine zx_sld (by omega) (by omega) (by omega) dL_law_2676 ?_
    refine zy_cvq [zi ((zSx w (i + 1)).toInt)] hM dL_law_2677 (by decide) rfl cw_RL_334 okX10_setAside rfl (Nat.le_of_ble_eq_true rfl) ⟨Nat.le_of_ble_eq_true rfl, Nat.le_of_ble_eq_true rfl, by first | (show c0 + _ ≤ 601024; omega), by first | (show s0 + 6 * _ ≤ 7293034; omega)⟩ (fun r υ hq2 => ?_) (fun E υ hq2 => ?_)
    · obtain ⟨b, e, hz2, hth, hob, hB, hI⟩ := hK _ _ hq2
      obtain rfl := Sum.inl.inj e
      rw [show ∀ (x : zV) (s : List zV), (some x).toList ++ s = x :: s from fun _ _ => rfl]
      refine zy_nrm ?_
      have hzb := zt_r b
      refine zy_istore [zf 101 0, zf 9 0, zf 10 261, zf 35 272, zi ((i : Nat) : Int), zi c, zi (zt b), zu, zu] dL_law_2680 (Nat.le_of_ble_eq_true rfl) (Nat.le_of_ble_eq_true rfl) rfl rfl ?_
      refine zx_aloadN dL_law_2682 rfl rfl ?_
      refine zy_cv [] (sX10_thrown  hfl hz2 ) dL_law_2683 (by decide) rfl cw_RL_141 okX10_thrown rfl (Nat.le_of_ble_eq_true rfl) ⟨Nat.le_of_ble_eq_true rfl, Nat.le_of_ble_eq_true rfl, by first | (show c0 + _ ≤ 601024; omega), by first | (show s0 + 6 * _ ≤ 7293034; omega)⟩ ?_
      refine zx_iload dL_law_2686 rfl ?_
      refine zx_icmp_eq (tgt := 2693) (by first | exact hz2 _ _ | assumption | exact zr_b _ | exact zcmp_r _ _ | (unfold zr at *; omega)) (by first | exact hz2 _ _ | assumption | exact zr_b _ | exact zcmp_r _ _ | (unfold zr at *; omega)) dL_law_2688 (by decide) (fun h2688 => ?_) (fun h2688 => ?_)
      · refine zx_iload dL_law_2693 rfl ?_
        refine zx_if_ne (tgt := 2710) (by first | exact hz2 _ _ | assumption | exact zr_b _ | exact zcmp_r _ _ | (unfold zr at *; omega)) dL_law_2695 (by decide) (fun h2695 => ?_) (fun h2695 => ?_)
        · refine zx_goto (tgt := 3069) dL_law_2710 (by decide) ?_
          refine zy_drop 5 [zf 101 0, zf 9 0, zf 10 261, zf 35 272, zi ((i : Nat) : Int), zu, zi (zt b), zu, zu] rfl ?_
          refine zy_drop 6 [zf 101 0, zf 9 0, zf 10 261, zf 35 272, zi ((i : Nat) : Int), zu, zu, zu, zu] rfl ?_
          exact cont υ _ hz2 hI (by omega)
        · refine zx_aloadN dL_law_2698 rfl rfl ?_
          refine zx_iconst dL_law_2699 ?_
          refine zx_lald dL_law_2700 ?_
          rw [hob (by assumption)]
          refine zx_iload dL_law_2701 rfl ?_
          refine zx_i2l (by first | exact hz2 _ _ | assumption | exact zr_b _ | exact zcmp_r _ _ | (unfold zr at *; omega)) dL_law_2703 ?_
          refine zx_lcmp (by first | exact hz2 _ _ | assumption | exact zr_b _ | exact zcmp_r _ _ | (unfold zr at *; omega)) (by first | exact hz2 _ _ | assumption | exact zr_b _ | exact zcmp_r _ _ | (unfold zr at *; omega)) dL_law_2704 ?_
          refine zx_if_eq (tgt := 2710) (by first | exact hz2 _ _ | assumption | exact zr_b _ | exact zcmp_r _ _ | (unfold zr at *; omega)) dL_law_2705 (by decide) (fun h2705 => ?_) (fun h2705 => ?_)
          · have h2705 := zcmp_eq.mp h2705
            refine zx_goto (tgt := 3069) dL_law_2710 (by decide) ?_
            refine zy_drop 5 [zf 101 0, zf 9 0, zf 10 261, zf 35 272, zi ((i : Nat) : Int), zu, zi (zt b), zu, zu] rfl ?_
            refine zy_drop 6 [zf 101 0, zf 9 0, zf 10 261, zf 35 272, zi ((i : Nat) : Int), zu, zu, zu, zu] rfl ?_
            exact cont υ _ hz2 hI (by omega)
          · have h2705 := fun q => h2705 (zcmp_eq.mpr q)
            first | exact absurd hth (by assumption) | exact absurd rfl (by assumption) | exact absurd (by assumption) (by assumption) | (exfalso; exact h2705 (by omega)) | (exfalso; omega)
      · first | exact absurd hth (by assumption) | exact absurd rfl (by assumption) | exact absurd (by assumption) (by assumption) | (exfalso; exact h2688 (by omega)) | (exfalso; omega)
    · obtain ⟨b, e, -⟩ := hK _ _ hq2
      cases e
  · obtain ⟨c, e, -⟩ := hS _ _ hq
    cases e
set_option maxRecDepth 20000 in
set_option maxHeartbeats 2000000 in
theorem lc_55 {l : Launch} {w : zW} (hfl : l.stackTraces = false) {hh : List (Nat × Nat × Nat × Nat)} {c0 s0 : Nat} {Z : List Frame → Array Value → State → State → Prop} (hc0 : c0 ≤ 1000) (hs0 : s0 ≤ 100000) (hLn : zSL w ≤ 3072) {i k : Nat} (hi : i + 6 ≤ zSL w) (hk : k ≤ i) {σ : zS} (hz : zOK σ) (hS : SimW l w False mL_takeBack mX10_takeBack 13 [zi (zSx w (i + 1)).toInt] σ) (cont : ∀ (τ : zS) (k' : Nat), zOK τ → Inv τ → k' ≤ k + 1 → zX l w (mL_law hh) (room_1, Z, c0, s0) 3069 [zf 101 0, zf 9 0, zf 10 261, zf 35 272, zi ((i : Nat) : Int), zu, zu, zu, zu] [] k' τ) : zX l w (mL_law hh) (room_1, Z, c0, s0) 2713 [zf 101 0, zf 9 0, zf 10 261, zf 35 272, zi ((i : Nat) : Int), zu, zu, zu, zu] [] k σ := by
  obtain ⟨QC, hC, hS⟩ := hS
  refine zx_aloadN dL_law_2713 rfl rfl ?_
  refine zx_aloadN dL_law_2714 rfl rfl ?_
  refine zx_iload dL_law_2715 rfl ?_
  refine zx_iconst dL_law_2717 ?_
  refine zx_iadd dL_law_2718 ?_
  refine zy_top (b := ((i + 1 : Nat) : Int)) (by omega) ?_
  refine zx_sld (by omega) (by omega) (by omega) dL_law_2719 ?_
  refine zx_aloadN dL_law_2720 rfl rfl ?_
  have hC1 : SpH l w mL_takeBack 10 1 [zf 9 0, zi ((zSx w (i + 1)).toInt), zf 35 272] σ QC := hC
  refine zy_csHq [zf 9 0, zi ((zSx w (i + 1)).toInt), zf 35 272] hC1 dL_law_2721 cw_RL_335 okL_takeBack rfl (Nat.le_of_ble_eq_true rfl) ⟨Nat.le_of_ble_eq_true rfl, Nat.le_of_ble_eq_true rfl, by first | (show c0 + _ ≤ 601024; omega), by first | (show s0 + 6 * _ ≤ 7293034; omega)⟩ (fun r τ hq => ?_) (fun E τ hq => ?_)
  · obtain ⟨c, e, hzc, hz1, QM, hM, hK⟩ := hS _ _ hq
    obtain rfl := Sum.inl.inj e
    rw [show ∀ (x : zV) (s : List zV), (some x).toList ++ s = x :: s from fun _ _ => rfl]
    refine zy_istore [zf 101 0, zf 9 0, zf 10 261, zf 35 272, zi ((i : Nat) : Int), zi c, zu, zu, zu] dL_law_2724 (Nat.le_of_ble_eq_true rfl) (Nat.le_of_ble_eq_true rfl) rfl rfl ?_
    refine zx_aloadN dL_law_2726 rfl rfl ?_
    refine zx_aloadN dL_law_2727 rfl rfl ?_
    refine zx_iload dL_law_2728 rfl ?_
    refine zx_iconst dL_law_2730 ?_
    refine zx_iadd dL_law_2731 ?_
    refine zy_top (b := ((i + 1 : Nat) : Int)) (by omega) ?_
    refine zx_sld (by omega) (by omega) (by omega) dL_law_2732 ?_
    refine zy_cvq [zi ((zSx w (i + 1)).toInt)] hM dL_law_2733 (by decide) rfl cw_RL_337 okX10_takeBack rfl (Nat.le_of_ble_eq_true rfl) ⟨Nat.le_of_ble_eq_true rfl, Nat.le_of_ble_eq_true rfl, by first | (show c0 + _ ≤ 601024; omega), by first | (show s0 + 6 * _ ≤ 7293034; omega)⟩ (fun r υ hq2 => ?_) (fun E υ hq2 => ?_)
    · obtain ⟨b, e, hz2, hth, hob, hB, hI⟩ := hK _ _ hq2
      obtain rfl := Sum.inl.inj e
      rw [show ∀ (x : zV) (s : List zV), (some x).toList ++ s = x :: s from fun _ _ => rfl]
      refine zy_nrm ?_
      have hzb := zt_r b
      refine zy_istore [zf 101 0, zf 9 0, zf 10 261, zf 35 272, zi ((i : Nat) : Int), zi c, zi (zt b), zu, zu] dL_law_2736 (Nat.le_of_ble_eq_true rfl) (Nat.le_of_ble_eq_true rfl) rfl rfl ?_
      refine zx_aloadN dL_law_2738 rfl rfl ?_
      refine zy_cv [] (sX10_thrown  hfl hz2 ) dL_law_2739 (by decide) rfl cw_RL_141 okX10_thrown rfl (Nat.le_of_ble_eq_true rfl) ⟨Nat.le_of_ble_eq_true rfl, Nat.le_of_ble_eq_true rfl, by first | (show c0 + _ ≤ 601024; omega), by first | (show s0 + 6 * _ ≤ 7293034; omega)⟩ ?_
      refine zx_iload dL_law_2742 rfl ?_
      refine zx_icmp_eq (tgt := 2749) (by first | exact hz2 _ _ | assumption | exact zr_b _ | exact zcmp_r _ _ | (unfold zr at *; omega)) (by first | exact hz2 _ _ | assumption | exact zr_b _ | exact zcmp_r _ _ | (unfold zr at *; omega)) dL_law_2744 (by decide) (fun h2744 => ?_) (fun h2744 => ?_)
      · refine zx_iload dL_law_2749 rfl ?_
        refine zx_if_ne (tgt := 2766) (by first | exact hz2 _ _ | assumption | exact zr_b _ | exact zcmp_r _ _ | (unfold zr at *; omega)) dL_law_2751 (by decide) (fun h2751 => ?_) (fun h2751 => ?_)
        · refine zx_goto (tgt := 3069) dL_law_2766 (by decide) ?_
          refine zy_drop 5 [zf 101 0, zf 9 0, zf 10 261, zf 35 272, zi ((i : Nat) : Int), zu, zi (zt b), zu, zu] rfl ?_
          refine zy_drop 6 [zf 101 0, zf 9 0, zf 10 261, zf 35 272, zi ((i : Nat) : Int), zu, zu, zu, zu] rfl ?_
          exact cont υ _ hz2 hI (by omega)
        · refine zx_aloadN dL_law_2754 rfl rfl ?_
          refine zx_iconst dL_law_2755 ?_
          refine zx_lald dL_law_2756 ?_
          rw [hob (by assumption)]
          refine zx_iload dL_law_2757 rfl ?_
          refine zx_i2l (by first | exact hz2 _ _ | assumption | exact zr_b _ | exact zcmp_r _ _ | (unfold zr at *; omega)) dL_law_2759 ?_
          refine zx_lcmp (by first | exact hz2 _ _ | assumption | exact zr_b _ | exact zcmp_r _ _ | (unfold zr at *; omega)) (by first | exact hz2 _ _ | assumption | exact zr_b _ | exact zcmp_r _ _ | (unfold zr at *; omega)) dL_law_2760 ?_
          refine zx_if_eq (tgt := 2766) (by first | exact hz2 _ _ | assumption | exact zr_b _ | exact zcmp_r _ _ | (unfold zr at *; omega)) dL_law_2761 (by decide) (fun h2761 => ?_) (fun h2761 => ?_)
          · have h2761 := zcmp_eq.mp h2761
            refine zx_goto (tgt := 3069) dL_law_2766 (by decide) ?_
            refine zy_drop 5 [zf 101 0, zf 9 0, zf 10 261, zf 35 272, zi ((i : Nat) : Int), zu, zi (zt b), zu, zu] rfl ?_
            refine zy_drop 6 [zf 101 0, zf 9 0, zf 10 261, zf 35 272, zi ((i : Nat) : Int), zu, zu, zu, zu] rfl ?_
            exact cont υ _ hz2 hI (by omega)
          · have h2761 := fun q => h2761 (zcmp_eq.mpr q)
            first | exact absurd hth (by assumption) | exact absurd rfl (by assumption) | exact absurd (by assumption) (by assumption) | (exfalso; exact h2761 (by omega)) | (exfalso; omega)
      · first | exact absurd hth (by assumption) | exact absurd rfl (by assumption) | exact absurd (by assumption) (by assumption) | (exfalso; exact h2744 (by omega)) | (exfalso; omega)
    · obtain ⟨b, e, -⟩ := hK _ _ hq2
      cases e
  · obtain ⟨c, e, -⟩ := hS _ _ hq
    cases e
set_option maxRecDepth 20000 in
set_option maxHeartbeats 2000000 in
theorem lc_56 {l : Launch} {w : zW} (hfl : l.stackTraces = false) {hh : List (Nat × Nat × Nat × Nat)} {c0 s0 : Nat} {Z : List Frame → Array Value → State → State → Prop} (hc0 : c0 ≤ 1000) (hs0 : s0 ≤ 100000) (hLn : zSL w ≤ 3072) {i k : Nat} (hi : i + 6 ≤ zSL w) (hk : k ≤ i) {σ : zS} (hz : zOK σ) (hS : SimD l w mX9_setAsideUnexplained mX10_setAsideUnexplained 6 12 [] σ) (cont : ∀ (τ : zS) (k' : Nat), zOK τ → Inv τ → k' ≤ k + 1 → zX l w (mL_law hh) (room_1, Z, c0, s0) 3069 [zf 101 0, zf 9 0, zf 10 261, zf 35 272, zi ((i : Nat) : Int), zu, zu, zu, zu] [] k' τ) : zX l w (mL_law hh) (room_1, Z, c0, s0) 2769 [zf 101 0, zf 9 0, zf 10 261, zf 35 272, zi ((i : Nat) : Int), zu, zu, zu, zu] [] k σ := by
  obtain ⟨QC, hC, hS⟩ := hS
  refine zx_aloadN dL_law_2769 rfl rfl ?_
  refine zy_cvq [] hC dL_law_2770 (by decide) rfl cw_RL_338 okX9_setAsideUnexplained rfl (Nat.le_of_ble_eq_true rfl) ⟨Nat.le_of_ble_eq_true rfl, Nat.le_of_ble_eq_true rfl, by first | (show c0 + _ ≤ 601024; omega), by first | (show s0 + 6 * _ ≤ 7293034; omega)⟩ (fun r τ hq => ?_) (fun E τ hq => ?_)
  · obtain ⟨c, e, hz1, QM, hM, hK⟩ := hS _ _ hq
    obtain rfl := Sum.inl.inj e
    rw [show ∀ (x : zV) (s : List zV), (some x).toList ++ s = x :: s from fun _ _ => rfl]
    refine zy_nrm ?_
    have hzc := zt_r c
    refine zx_aloadN dL_law_2773 rfl rfl ?_
    refine zy_cvq [] hM dL_law_2774 (by decide) rfl cw_RL_341 okX10_setAsideUnexplained rfl (Nat.le_of_ble_eq_true rfl) ⟨Nat.le_of_ble_eq_true rfl, Nat.le_of_ble_eq_true rfl, by first | (show c0 + _ ≤ 601024; omega), by first | (show s0 + 6 * _ ≤ 7293034; omega)⟩ (fun r υ hq2 => ?_) (fun E υ hq2 => ?_)
    · obtain ⟨e, hz2, hI⟩ := hK _ _ hq2
      obtain rfl := Sum.inl.inj e
      rw [show ∀ (x : zV) (s : List zV), (some x).toList ++ s = x :: s from fun _ _ => rfl]
      refine zy_nrm ?_
      refine zx_icmp_eq (tgt := 3069) (by first | exact hz2 _ _ | assumption | exact zr_b _ | exact zcmp_r _ _ | (unfold zr at *; omega)) (by first | exact hz2 _ _ | assumption | exact zr_b _ | exact zcmp_r _ _ | (unfold zr at *; omega)) dL_law_2777 (by decide) (fun h2777 => ?_) (fun h2777 => ?_)
      · exact cont υ _ hz2 hI (by omega)
      · first | exact absurd hth (by assumption) | exact absurd rfl (by assumption) | exact absurd (by assumption) (by assumption) | (exfalso; exact h2777 (by omega)) | (exfalso; omega)
    · obtain ⟨e, -⟩ := hK _ _ hq2
      cases e
  · obtain ⟨c, e, -⟩ := hS _ _ hq
    cases e
set_option maxRecDepth 20000 in
set_option maxHeartbeats 2000000 in
theorem lc_57 {l : Launch} {w : zW} (hfl : l.stackTraces = false) {hh : List (Nat × Nat × Nat × Nat)} {c0 s0 : Nat} {Z : List Frame → Array Value → State → State → Prop} (hc0 : c0 ≤ 1000) (hs0 : s0 ≤ 100000) (hLn : zSL w ≤ 3072) {i k : Nat} (hi : i + 6 ≤ zSL w) (hk : k ≤ i) {σ : zS} (hz : zOK σ) (hS : SimW l w False mL_setWeight mX10_setWeight 3 [zi (zSx w (i + 1)).toInt, zi (zSx w (i + 2)).toInt] σ) (cont : ∀ (τ : zS) (k' : Nat), zOK τ → Inv τ → k' ≤ k + 1 → zX l w (mL_law hh) (room_1, Z, c0, s0) 3069 [zf 101 0, zf 9 0, zf 10 261, zf 35 272, zi ((i : Nat) : Int), zu, zu, zu, zu] [] k' τ) : zX l w (mL_law hh) (room_1, Z, c0, s0) 2782 [zf 101 0, zf 9 0, zf 10 261, zf 35 272, zi ((i : Nat) : Int), zu, zu, zu, zu] [] k σ := by
  obtain ⟨QC, hC, hS⟩ := hS
  refine zx_aloadN dL_law_2782 rfl rfl ?_
  refine zx_aloadN dL_law_2783 rfl rfl ?_
  refine zx_iload dL_law_2784 rfl ?_
  refine zx_iconst dL_law_2786 ?_
  refine zx_iadd dL_law_2787 ?_
  refine zy_top (b := ((i + 1 : Nat) : Int)) (by omega) ?_
  refine zx_sld (by omega) (by omega) (by omega) dL_law_2788 ?_
  refine zx_aloadN dL_law_2789 rfl rfl ?_
  refine zx_iload dL_law_2790 rfl ?_
  refine zx_iconst dL_law_2792 ?_
  refine zx_iadd dL_law_2793 ?_
  refine zy_top (b := ((i + 2 : Nat) : Int)) (by omega) ?_
  refine zx_sld (by omega) (by omega) (by omega) dL_law_2794 ?_
  refine zx_aloadN dL_law_2795 rfl rfl ?_
  have hC1 : SpH l w mL_setWeight 10 1 [zf 9 0, zi ((zSx w (i + 1)).toInt), zi ((zSx w (i + 2)).toInt), zf 35 272] σ QC := hC
  refine zy_csHq [zf 9 0, zi ((zSx w (i + 1)).toInt), zi ((zSx w (i + 2)).toInt), zf 35 272] hC1 dL_law_2796 cw_RL_342 okL_setWeight rfl (Nat.le_of_ble_eq_true rfl) ⟨Nat.le_of_ble_eq_true rfl, Nat.le_of_ble_eq_true rfl, by first | (show c0 + _ ≤ 601024; omega), by first | (show s0 + 6 * _ ≤ 7293034; omega)⟩ (fun r τ hq => ?_) (fun E τ hq => ?_)
  · obtain ⟨c, e, hzc, hz1, QM, hM, hK⟩ := hS _ _ hq
    obtain rfl := Sum.inl.inj e
    rw [show ∀ (x : zV) (s : List zV), (some x).toList ++ s = x :: s from fun _ _ => rfl]
    refine zy_istore [zf 101 0, zf 9 0, zf 10 261, zf 35 272, zi ((i : Nat) : Int), zi c, zu, zu, zu] dL_law_2799 (Nat.le_of_ble_eq_true rfl) (Nat.le_of_ble_eq_true rfl) rfl rfl ?_
    refine zx_aloadN dL_law_2801 rfl rfl ?_
    refine zx_aloadN dL_law_2802 rfl rfl ?_
    refine zx_iload dL_law_2803 rfl ?_
    refine zx_iconst dL_law_2805 ?_
    refine zx_iadd dL_law_2806 ?_
    refine zy_top (b := ((i + 1 : Nat) : Int)) (by omega) ?_
    refine zx_sld (by omega) (by omega) (by omega) dL_law_2807 ?_
    refine zx_aloadN dL_law_2808 rfl rfl ?_
    refine zx_iload dL_law_2809 rfl ?_
    refine zx_iconst dL_law_2811 ?_
    refine zx_iadd dL_law_2812 ?_
    refine zy_top (b := ((i + 2 : Nat) : Int)) (by omega) ?_
    refine zx_sld (by omega) (by omega) (by omega) dL_law_2813 ?_
    refine zy_cvq [zi ((zSx w (i + 1)).toInt), zi ((zSx w (i + 2)).toInt)] hM dL_law_2814 (by decide) rfl cw_RL_344 okX10_setWeight rfl (Nat.le_of_ble_eq_true rfl) ⟨Nat.le_of_ble_eq_true rfl, Nat.le_of_ble_eq_true rfl, by first | (show c0 + _ ≤ 601024; omega), by first | (show s0 + 6 * _ ≤ 7293034; omega)⟩ (fun r υ hq2 => ?_) (fun E υ hq2 => ?_)
    · obtain ⟨b, e, hz2, hth, hob, hB, hI⟩ := hK _ _ hq2
      obtain rfl := Sum.inl.inj e
      rw [show ∀ (x : zV) (s : List zV), (some x).toList ++ s = x :: s from fun _ _ => rfl]
      refine zy_nrm ?_
      have hzb := zt_r b
      refine zy_istore [zf 101 0, zf 9 0, zf 10 261, zf 35 272, zi ((i : Nat) : Int), zi c, zi (zt b), zu, zu] dL_law_2817 (Nat.le_of_ble_eq_true rfl) (Nat.le_of_ble_eq_true rfl) rfl rfl ?_
      refine zx_aloadN dL_law_2819 rfl rfl ?_
      refine zy_cv [] (sX10_thrown  hfl hz2 ) dL_law_2820 (by decide) rfl cw_RL_141 okX10_thrown rfl (Nat.le_of_ble_eq_true rfl) ⟨Nat.le_of_ble_eq_true rfl, Nat.le_of_ble_eq_true rfl, by first | (show c0 + _ ≤ 601024; omega), by first | (show s0 + 6 * _ ≤ 7293034; omega)⟩ ?_
      refine zx_iload dL_law_2823 rfl ?_
      refine zx_icmp_eq (tgt := 2830) (by first | exact hz2 _ _ | assumption | exact zr_b _ | exact zcmp_r _ _ | (unfold zr at *; omega)) (by first | exact hz2 _ _ | assumption | exact zr_b _ | exact zcmp_r _ _ | (unfold zr at *; omega)) dL_law_2825 (by decide) (fun h2825 => ?_) (fun h2825 => ?_)
      · refine zx_iload dL_law_2830 rfl ?_
        refine zx_if_ne (tgt := 2847) (by first | exact hz2 _ _ | assumption | exact zr_b _ | exact zcmp_r _ _ | (unfold zr at *; omega)) dL_law_2832 (by decide) (fun h2832 => ?_) (fun h2832 => ?_)
        · refine zx_goto (tgt := 3069) dL_law_2847 (by decide) ?_
          refine zy_drop 5 [zf 101 0, zf 9 0, zf 10 261, zf 35 272, zi ((i : Nat) : Int), zu, zi (zt b), zu, zu] rfl ?_
          refine zy_drop 6 [zf 101 0, zf 9 0, zf 10 261, zf 35 272, zi ((i : Nat) : Int), zu, zu, zu, zu] rfl ?_
          exact cont υ _ hz2 hI (by omega)
        · refine zx_aloadN dL_law_2835 rfl rfl ?_
          refine zx_iconst dL_law_2836 ?_
          refine zx_lald dL_law_2837 ?_
          rw [hob (by assumption)]
          refine zx_iload dL_law_2838 rfl ?_
          refine zx_i2l (by first | exact hz2 _ _ | assumption | exact zr_b _ | exact zcmp_r _ _ | (unfold zr at *; omega)) dL_law_2840 ?_
          refine zx_lcmp (by first | exact hz2 _ _ | assumption | exact zr_b _ | exact zcmp_r _ _ | (unfold zr at *; omega)) (by first | exact hz2 _ _ | assumption | exact zr_b _ | exact zcmp_r _ _ | (unfold zr at *; omega)) dL_law_2841 ?_
          refine zx_if_eq (tgt := 2847) (by first | exact hz2 _ _ | assumption | exact zr_b _ | exact zcmp_r _ _ | (unfold zr at *; omega)) dL_law_2842 (by decide) (fun h2842 => ?_) (fun h2842 => ?_)
          · have h2842 := zcmp_eq.mp h2842
            refine zx_goto (tgt := 3069) dL_law_2847 (by decide) ?_
            refine zy_drop 5 [zf 101 0, zf 9 0, zf 10 261, zf 35 272, zi ((i : Nat) : Int), zu, zi (zt b), zu, zu] rfl ?_
            refine zy_drop 6 [zf 101 0, zf 9 0, zf 10 261, zf 35 272, zi ((i : Nat) : Int), zu, zu, zu, zu] rfl ?_
            exact cont υ _ hz2 hI (by omega)
          · have h2842 := fun q => h2842 (zcmp_eq.mpr q)
            first | exact absurd hth (by assumption) | exact absurd rfl (by assumption) | exact absurd (by assumption) (by assumption) | (exfalso; exact h2842 (by omega)) | (exfalso; omega)
      · first | exact absurd hth (by assumption) | exact absurd rfl (by assumption) | exact absurd (by assumption) (by assumption) | (exfalso; exact h2825 (by omega)) | (exfalso; omega)
    · obtain ⟨b, e, -⟩ := hK _ _ hq2
      cases e
  · obtain ⟨c, e, -⟩ := hS _ _ hq
    cases e
set_option maxRecDepth 20000 in
set_option maxHeartbeats 2000000 in
theorem lc_58 {l : Launch} {w : zW} (hfl : l.stackTraces = false) {hh : List (Nat × Nat × Nat × Nat)} {c0 s0 : Nat} {Z : List Frame → Array Value → State → State → Prop} (hc0 : c0 ≤ 1000) (hs0 : s0 ≤ 100000) (hLn : zSL w ≤ 3072) {i k : Nat} (hi : i + 6 ≤ zSL w) (hk : k ≤ i) {σ : zS} (hz : zOK σ) (hS : SimW l w False mL_transferDevice mX10_transferDevice 5 [zi (zSx w (i + 1)).toInt, zi (zSx w (i + 2)).toInt, zi (zSx w (i + 3)).toInt] σ) (cont : ∀ (τ : zS) (k' : Nat), zOK τ → Inv τ → k' ≤ k + 1 → zX l w (mL_law hh) (room_1, Z, c0, s0) 3069 [zf 101 0, zf 9 0, zf 10 261, zf 35 272, zi ((i : Nat) : Int), zu, zu, zu, zu] [] k' τ) : zX l w (mL_law hh) (room_1, Z, c0, s0) 2850 [zf 101 0, zf 9 0, zf 10 261, zf 35 272, zi ((i : Nat) : Int), zu, zu, zu, zu] [] k σ := by
  obtain ⟨QC, hC, hS⟩ := hS
  refine zx_aloadN dL_law_2850 rfl rfl ?_
  refine zx_aloadN dL_law_2851 rfl rfl ?_
  refine zx_iload dL_law_2852 rfl ?_
  refine zx_iconst dL_law_2854 ?_
  refine zx_iadd dL_law_2855 ?_
  refine zy_top (b := ((i + 1 : Nat) : Int)) (by omega) ?_
  refine zx_sld (by omega) (by omega) (by omega) dL_law_2856 ?_
  refine zx_aloadN dL_law_2857 rfl rfl ?_
  refine zx_iload dL_law_2858 rfl ?_
  refine zx_iconst dL_law_2860 ?_
  refine zx_iadd dL_law_2861 ?_
  refine zy_top (b := ((i + 2 : Nat) : Int)) (by omega) ?_
  refine zx_sld (by omega) (by omega) (by omega) dL_law_2862 ?_
  refine zx_aloadN dL_law_2863 rfl rfl ?_
  refine zx_iload dL_law_2864 rfl ?_
  refine zx_iconst dL_law_2866 ?_
  refine zx_iadd dL_law_2867 ?_
  refine zy_top (b := ((i + 3 : Nat) : Int)) (by omega) ?_
  refine zx_sld (by omega) (by omega) (by omega) dL_law_2868 ?_
  refine zx_aloadN dL_law_2869 rfl rfl ?_
  have hC1 : SpH l w mL_transferDevice 10 1 [zf 9 0, zi ((zSx w (i + 1)).toInt), zi ((zSx w (i + 2)).toInt), zi ((zSx w (i + 3)).toInt), zf 35 272] σ QC := hC
  refine zy_csHq [zf 9 0, zi ((zSx w (i + 1)).toInt), zi ((zSx w (i + 2)).toInt), zi ((zSx w (i + 3)).toInt), zf 35 272] hC1 dL_law_2870 cw_RL_345 okL_transferDevice rfl (Nat.le_of_ble_eq_true rfl) ⟨Nat.le_of_ble_eq_true rfl, Nat.le_of_ble_eq_true rfl, by first | (show c0 + _ ≤ 601024; omega), by first | (show s0 + 6 * _ ≤ 7293034; omega)⟩ (fun r τ hq => ?_) (fun E τ hq => ?_)
  · obtain ⟨c, e, hzc, hz1, QM, hM, hK⟩ := hS _ _ hq
    obtain rfl := Sum.inl.inj e
    rw [show ∀ (x : zV) (s : List zV), (some x).toList ++ s = x :: s from fun _ _ => rfl]
    refine zy_istore [zf 101 0, zf 9 0, zf 10 261, zf 35 272, zi ((i : Nat) : Int), zi c, zu, zu, zu] dL_law_2873 (Nat.le_of_ble_eq_true rfl) (Nat.le_of_ble_eq_true rfl) rfl rfl ?_
    refine zx_aloadN dL_law_2875 rfl rfl ?_
    refine zx_aloadN dL_law_2876 rfl rfl ?_
    refine zx_iload dL_law_2877 rfl ?_
    refine zx_iconst dL_law_2879 ?_
    refine zx_iadd dL_law_2880 ?_
    refine zy_top (b := ((i + 1 : Nat) : Int)) (by omega) ?_
    refine zx_sld (by omega) (by omega) (by omega) dL_law_2881 ?_
    refine zx_aloadN dL_law_2882 rfl rfl ?_
    refine zx_iload dL_law_2883 rfl ?_
    refine zx_iconst dL_law_2885 ?_
    refine zx_iadd dL_law_2886 ?_
    refine zy_top (b := ((i + 2 : Nat) : Int)) (by omega) ?_
    refine zx_sld (by omega) (by omega) (by omega) dL_law_2887 ?_
    refine zx_aloadN dL_law_2888 rfl rfl ?_
    refine zx_iload dL_law_2889 rfl ?_
    refine zx_iconst dL_law_2891 ?_
    refine zx_iadd dL_law_2892 ?_
    refine zy_top (b := ((i + 3 : Nat) : Int)) (by omega) ?_
    refine zx_sld (by omega) (by omega) (by omega) dL_law_2893 ?_
    refine zy_cvq [zi ((zSx w (i + 1)).toInt), zi ((zSx w (i + 2)).toInt), zi ((zSx w (i + 3)).toInt)] hM dL_law_2894 (by decide) rfl cw_RL_347 okX10_transferDevice rfl (Nat.le_of_ble_eq_true rfl) ⟨Nat.le_of_ble_eq_true rfl, Nat.le_of_ble_eq_true rfl, by first | (show c0 + _ ≤ 601024; omega), by first | (show s0 + 6 * _ ≤ 7293034; omega)⟩ (fun r υ hq2 => ?_) (fun E υ hq2 => ?_)
    · obtain ⟨b, e, hz2, hth, hob, hB, hI⟩ := hK _ _ hq2
      obtain rfl := Sum.inl.inj e
      rw [show ∀ (x : zV) (s : List zV), (some x).toList ++ s = x :: s from fun _ _ => rfl]
      refine zy_nrm ?_
      have hzb := zt_r b
      refine zy_istore [zf 101 0, zf 9 0, zf 10 261, zf 35 272, zi ((i : Nat) : Int), zi c, zi (zt b), zu, zu] dL_law_2897 (Nat.le_of_ble_eq_true rfl) (Nat.le_of_ble_eq_true rfl) rfl rfl ?_
      refine zx_aloadN dL_law_2899 rfl rfl ?_
      refine zy_cv [] (sX10_thrown  hfl hz2 ) dL_law_2900 (by decide) rfl cw_RL_141 okX10_thrown rfl (Nat.le_of_ble_eq_true rfl) ⟨Nat.le_of_ble_eq_true rfl, Nat.le_of_ble_eq_true rfl, by first | (show c0 + _ ≤ 601024; omega), by first | (show s0 + 6 * _ ≤ 7293034; omega)⟩ ?_
      refine zx_iload dL_law_2903 rfl ?_
      refine zx_icmp_eq (tgt := 2910) (by first | exact hz2 _ _ | assumption | exact zr_b _ | exact zcmp_r _ _ | (unfold zr at *; omega)) (by first | exact hz2 _ _ | assumption | exact zr_b _ | exact zcmp_r _ _ | (unfold zr at *; omega)) dL_law_2905 (by decide) (fun h2905 => ?_) (fun h2905 => ?_)
      · refine zx_iload dL_law_2910 rfl ?_
        refine zx_if_ne (tgt := 2927) (by first | exact hz2 _ _ | assumption | exact zr_b _ | exact zcmp_r _ _ | (unfold zr at *; omega)) dL_law_2912 (by decide) (fun h2912 => ?_) (fun h2912 => ?_)
        · refine zx_goto (tgt := 3069) dL_law_2927 (by decide) ?_
          refine zy_drop 5 [zf 101 0, zf 9 0, zf 10 261, zf 35 272, zi ((i : Nat) : Int), zu, zi (zt b), zu, zu] rfl ?_
          refine zy_drop 6 [zf 101 0, zf 9 0, zf 10 261, zf 35 272, zi ((i : Nat) : Int), zu, zu, zu, zu] rfl ?_
          exact cont υ _ hz2 hI (by omega)
        · refine zx_aloadN dL_law_2915 rfl rfl ?_
          refine zx_iconst dL_law_2916 ?_
          refine zx_lald dL_law_2917 ?_
          rw [hob (by assumption)]
          refine zx_iload dL_law_2918 rfl ?_
          refine zx_i2l (by first | exact hz2 _ _ | assumption | exact zr_b _ | exact zcmp_r _ _ | (unfold zr at *; omega)) dL_law_2920 ?_
          refine zx_lcmp (by first | exact hz2 _ _ | assumption | exact zr_b _ | exact zcmp_r _ _ | (unfold zr at *; omega)) (by first | exact hz2 _ _ | assumption | exact zr_b _ | exact zcmp_r _ _ | (unfold zr at *; omega)) dL_law_2921 ?_
          refine zx_if_eq (tgt := 2927) (by first | exact hz2 _ _ | assumption | exact zr_b _ | exact zcmp_r _ _ | (unfold zr at *; omega)) dL_law_2922 (by decide) (fun h2922 => ?_) (fun h2922 => ?_)
          · have h2922 := zcmp_eq.mp h2922
            refine zx_goto (tgt := 3069) dL_law_2927 (by decide) ?_
            refine zy_drop 5 [zf 101 0, zf 9 0, zf 10 261, zf 35 272, zi ((i : Nat) : Int), zu, zi (zt b), zu, zu] rfl ?_
            refine zy_drop 6 [zf 101 0, zf 9 0, zf 10 261, zf 35 272, zi ((i : Nat) : Int), zu, zu, zu, zu] rfl ?_
            exact cont υ _ hz2 hI (by omega)
          · have h2922 := fun q => h2922 (zcmp_eq.mpr q)
            first | exact absurd hth (by assumption) | exact absurd rfl (by assumption) | exact absurd (by assumption) (by assumption) | (exfalso; exact h2922 (by omega)) | (exfalso; omega)
      · first | exact absurd hth (by assumption) | exact absurd rfl (by assumption) | exact absurd (by assumption) (by assumption) | (exfalso; exact h2905 (by omega)) | (exfalso; omega)
    · obtain ⟨b, e, -⟩ := hK _ _ hq2
      cases e
  · obtain ⟨c, e, -⟩ := hS _ _ hq
    cases e
set_option maxRecDepth 20000 in
set_option maxHeartbeats 2000000 in
theorem lc_59 {l : Launch} {w : zW} (hfl : l.stackTraces = false) {hh : List (Nat × Nat × Nat × Nat)} {c0 s0 : Nat} {Z : List Frame → Array Value → State → State → Prop} (hc0 : c0 ≤ 1000) (hs0 : s0 ≤ 100000) (hLn : zSL w ≤ 3072) {i k : Nat} (hi : i + 6 ≤ zSL w) (hk : k ≤ i) {σ : zS} (hz : zOK σ) (hS : SimW l w False mL_undo mX10_undo 1 [] σ) (cont : ∀ (τ : zS) (k' : Nat), zOK τ → Inv τ → k' ≤ k + 1 → zX l w (mL_law hh) (room_1, Z, c0, s0) 3069 [zf 101 0, zf 9 0, zf 10 261, zf 35 272, zi ((i : Nat) : Int), zu, zu, zu, zu] [] k' τ) : zX l w (mL_law hh) (room_1, Z, c0, s0) 2930 [zf 101 0, zf 9 0, zf 10 261, zf 35 272, zi ((i : Nat) : Int), zu, zu, zu, zu] [] k σ := by
  obtain ⟨QC, hC, hS⟩ := hS
  refine zx_aloadN dL_law_2930 rfl rfl ?_
  refine zx_aloadN dL_law_2931 rfl rfl ?_
  have hC1 : SpH l w mL_undo 10 1 [zf 9 0, zf 35 272] σ QC := hC
  refine zy_csHq [zf 9 0, zf 35 272] hC1 dL_law_2932 cw_RL_348 okL_undo rfl (Nat.le_of_ble_eq_true rfl) ⟨Nat.le_of_ble_eq_true rfl, Nat.le_of_ble_eq_true rfl, by first | (show c0 + _ ≤ 601024; omega), by first | (show s0 + 6 * _ ≤ 7293034; omega)⟩ (fun r τ hq => ?_) (fun E τ hq => ?_)
  · obtain ⟨c, e, hzc, hz1, QM, hM, hK⟩ := hS _ _ hq
    obtain rfl := Sum.inl.inj e
    rw [show ∀ (x : zV) (s : List zV), (some x).toList ++ s = x :: s from fun _ _ => rfl]
    refine zy_istore [zf 101 0, zf 9 0, zf 10 261, zf 35 272, zi ((i : Nat) : Int), zi c, zu, zu, zu] dL_law_2935 (Nat.le_of_ble_eq_true rfl) (Nat.le_of_ble_eq_true rfl) rfl rfl ?_
    refine zx_aloadN dL_law_2937 rfl rfl ?_
    refine zy_cvq [] hM dL_law_2938 (by decide) rfl cw_RL_350 okX10_undo rfl (Nat.le_of_ble_eq_true rfl) ⟨Nat.le_of_ble_eq_true rfl, Nat.le_of_ble_eq_true rfl, by first | (show c0 + _ ≤ 601024; omega), by first | (show s0 + 6 * _ ≤ 7293034; omega)⟩ (fun r υ hq2 => ?_) (fun E υ hq2 => ?_)
    · obtain ⟨b, e, hz2, hth, hob, hB, hI⟩ := hK _ _ hq2
      obtain rfl := Sum.inl.inj e
      rw [show ∀ (x : zV) (s : List zV), (some x).toList ++ s = x :: s from fun _ _ => rfl]
      refine zy_nrm ?_
      have hzb := zt_r b
      refine zy_istore [zf 101 0, zf 9 0, zf 10 261, zf 35 272, zi ((i : Nat) : Int), zi c, zi (zt b), zu, zu] dL_law_2941 (Nat.le_of_ble_eq_true rfl) (Nat.le_of_ble_eq_true rfl) rfl rfl ?_
      refine zx_aloadN dL_law_2943 rfl rfl ?_
      refine zy_cv [] (sX10_thrown  hfl hz2 ) dL_law_2944 (by decide) rfl cw_RL_141 okX10_thrown rfl (Nat.le_of_ble_eq_true rfl) ⟨Nat.le_of_ble_eq_true rfl, Nat.le_of_ble_eq_true rfl, by first | (show c0 + _ ≤ 601024; omega), by first | (show s0 + 6 * _ ≤ 7293034; omega)⟩ ?_
      refine zx_iload dL_law_2947 rfl ?_
      refine zx_icmp_eq (tgt := 2954) (by first | exact hz2 _ _ | assumption | exact zr_b _ | exact zcmp_r _ _ | (unfold zr at *; omega)) (by first | exact hz2 _ _ | assumption | exact zr_b _ | exact zcmp_r _ _ | (unfold zr at *; omega)) dL_law_2949 (by decide) (fun h2949 => ?_) (fun h2949 => ?_)
      · refine zx_iload dL_law_2954 rfl ?_
        refine zx_if_ne (tgt := 2971) (by first | exact hz2 _ _ | assumption | exact zr_b _ | exact zcmp_r _ _ | (unfold zr at *; omega)) dL_law_2956 (by decide) (fun h2956 => ?_) (fun h2956 => ?_)
        · refine zx_goto (tgt := 3069) dL_law_2971 (by decide) ?_
          refine zy_drop 5 [zf 101 0, zf 9 0, zf 10 261, zf 35 272, zi ((i : Nat) : Int), zu, zi (zt b), zu, zu] rfl ?_
          refine zy_drop 6 [zf 101 0, zf 9 0, zf 10 261, zf 35 272, zi ((i : Nat) : Int), zu, zu, zu, zu] rfl ?_
          exact cont υ _ hz2 hI (by omega)
        · refine zx_aloadN dL_law_2959 rfl rfl ?_
          refine zx_iconst dL_law_2960 ?_
          refine zx_lald dL_law_2961 ?_
          rw [hob (by assumption)]
          refine zx_iload dL_law_2962 rfl ?_
          refine zx_i2l (by first | exact hz2 _ _ | assumption | exact zr_b _ | exact zcmp_r _ _ | (unfold zr at *; omega)) dL_law_2964 ?_
          refine zx_lcmp (by first | exact hz2 _ _ | assumption | exact zr_b _ | exact zcmp_r _ _ | (unfold zr at *; omega)) (by first | exact hz2 _ _ | assumption | exact zr_b _ | exact zcmp_r _ _ | (unfold zr at *; omega)) dL_law_2965 ?_
          refine zx_if_eq (tgt := 2971) (by first | exact hz2 _ _ | assumption | exact zr_b _ | exact zcmp_r _ _ | (unfold zr at *; omega)) dL_law_2966 (by decide) (fun h2966 => ?_) (fun h2966 => ?_)
          · have h2966 := zcmp_eq.mp h2966
            refine zx_goto (tgt := 3069) dL_law_2971 (by decide) ?_
            refine zy_drop 5 [zf 101 0, zf 9 0, zf 10 261, zf 35 272, zi ((i : Nat) : Int), zu, zi (zt b), zu, zu] rfl ?_
            refine zy_drop 6 [zf 101 0, zf 9 0, zf 10 261, zf 35 272, zi ((i : Nat) : Int), zu, zu, zu, zu] rfl ?_
            exact cont υ _ hz2 hI (by omega)
          · have h2966 := fun q => h2966 (zcmp_eq.mpr q)
            first | exact absurd hth (by assumption) | exact absurd rfl (by assumption) | exact absurd (by assumption) (by assumption) | (exfalso; exact h2966 (by omega)) | (exfalso; omega)
      · first | exact absurd hth (by assumption) | exact absurd rfl (by assumption) | exact absurd (by assumption) (by assumption) | (exfalso; exact h2949 (by omega)) | (exfalso; omega)
    · obtain ⟨b, e, -⟩ := hK _ _ hq2
      cases e
  · obtain ⟨c, e, -⟩ := hS _ _ hq
    cases e
set_option maxRecDepth 20000 in
set_option maxHeartbeats 2000000 in
theorem lc_60 {l : Launch} {w : zW} (hfl : l.stackTraces = false) {hh : List (Nat × Nat × Nat × Nat)} {c0 s0 : Nat} {Z : List Frame → Array Value → State → State → Prop} (hc0 : c0 ≤ 1000) (hs0 : s0 ≤ 100000) (hLn : zSL w ≤ 3072) {i k : Nat} (hi : i + 6 ≤ zSL w) (hk : k ≤ i) {σ : zS} (hz : zOK σ) (hS : SimD l w mX9_save mX10_save 3 1 [] σ) (cont : ∀ (τ : zS) (k' : Nat), zOK τ → Inv τ → k' ≤ k + 1 → zX l w (mL_law hh) (room_1, Z, c0, s0) 3069 [zf 101 0, zf 9 0, zf 10 261, zf 35 272, zi ((i : Nat) : Int), zu, zu, zu, zu] [] k' τ) : zX l w (mL_law hh) (room_1, Z, c0, s0) 2974 [zf 101 0, zf 9 0, zf 10 261, zf 35 272, zi ((i : Nat) : Int), zu, zu, zu, zu] [] k σ := by
  obtain ⟨QC, hC, hS⟩ := hS
  refine zx_aloadN dL_law_2974 rfl rfl ?_
  refine zy_cvq [] hC dL_law_2975 (by decide) rfl cw_RL_351 okX9_save rfl (Nat.le_of_ble_eq_true rfl) ⟨Nat.le_of_ble_eq_true rfl, Nat.le_of_ble_eq_true rfl, by first | (show c0 + _ ≤ 601024; omega), by first | (show s0 + 6 * _ ≤ 7293034; omega)⟩ (fun r τ hq => ?_) (fun E τ hq => ?_)
  · obtain ⟨c, e, hz1, QM, hM, hK⟩ := hS _ _ hq
    obtain rfl := Sum.inl.inj e
    rw [show ∀ (x : zV) (s : List zV), (some x).toList ++ s = x :: s from fun _ _ => rfl]
    refine zy_nrm ?_
    have hzc := zt_r c
    refine zx_aloadN dL_law_2978 rfl rfl ?_
    refine zy_cvq [] hM dL_law_2979 (by decide) rfl cw_RL_354 okX10_save rfl (Nat.le_of_ble_eq_true rfl) ⟨Nat.le_of_ble_eq_true rfl, Nat.le_of_ble_eq_true rfl, by first | (show c0 + _ ≤ 601024; omega), by first | (show s0 + 6 * _ ≤ 7293034; omega)⟩ (fun r υ hq2 => ?_) (fun E υ hq2 => ?_)
    · obtain ⟨e, hz2, hI⟩ := hK _ _ hq2
      obtain rfl := Sum.inl.inj e
      rw [show ∀ (x : zV) (s : List zV), (some x).toList ++ s = x :: s from fun _ _ => rfl]
      refine zy_nrm ?_
      refine zx_icmp_eq (tgt := 3069) (by first | exact hz2 _ _ | assumption | exact zr_b _ | exact zcmp_r _ _ | (unfold zr at *; omega)) (by first | exact hz2 _ _ | assumption | exact zr_b _ | exact zcmp_r _ _ | (unfold zr at *; omega)) dL_law_2982 (by decide) (fun h2982 => ?_) (fun h2982 => ?_)
      · exact cont υ _ hz2 hI (by omega)
      · first | exact absurd hth (by assumption) | exact absurd rfl (by assumption) | exact absurd (by assumption) (by assumption) | (exfalso; exact h2982 (by omega)) | (exfalso; omega)
    · obtain ⟨e, -⟩ := hK _ _ hq2
      cases e
  · obtain ⟨c, e, -⟩ := hS _ _ hq
    cases e
set_option maxRecDepth 20000 in
set_option maxHeartbeats 2000000 in
theorem lc_61 {l : Launch} {w : zW} (hfl : l.stackTraces = false) {hh : List (Nat × Nat × Nat × Nat)} {c0 s0 : Nat} {Z : List Frame → Array Value → State → State → Prop} (hc0 : c0 ≤ 1000) (hs0 : s0 ≤ 100000) (hLn : zSL w ≤ 3072) {i k : Nat} (hi : i + 6 ≤ zSL w) (hk : k ≤ i) {σ : zS} (hz : zOK σ) (hS : SimW l w False mL_restore mX10_restore 1 [] σ) (cont : ∀ (τ : zS) (k' : Nat), zOK τ → Inv τ → k' ≤ k + 1 → zX l w (mL_law hh) (room_1, Z, c0, s0) 3069 [zf 101 0, zf 9 0, zf 10 261, zf 35 272, zi ((i : Nat) : Int), zu, zu, zu, zu] [] k' τ) : zX l w (mL_law hh) (room_1, Z, c0, s0) 2987 [zf 101 0, zf 9 0, zf 10 261, zf 35 272, zi ((i : Nat) : Int), zu, zu, zu, zu] [] k σ := by
  obtain ⟨QC, hC, hS⟩ := hS
  refine zx_aloadN dL_law_2987 rfl rfl ?_
  refine zx_aloadN dL_law_2988 rfl rfl ?_
  have hC1 : SpH l w mL_restore 10 1 [zf 9 0, zf 35 272] σ QC := hC
  refine zy_csHq [zf 9 0, zf 35 272] hC1 dL_law_2989 cw_RL_355 okL_restore rfl (Nat.le_of_ble_eq_true rfl) ⟨Nat.le_of_ble_eq_true rfl, Nat.le_of_ble_eq_true rfl, by first | (show c0 + _ ≤ 601024; omega), by first | (show s0 + 6 * _ ≤ 7293034; omega)⟩ (fun r τ hq => ?_) (fun E τ hq => ?_)
  · obtain ⟨c, e, hzc, hz1, QM, hM, hK⟩ := hS _ _ hq
    obtain rfl := Sum.inl.inj e
    rw [show ∀ (x : zV) (s : List zV), (some x).toList ++ s = x :: s from fun _ _ => rfl]
    refine zy_istore [zf 101 0, zf 9 0, zf 10 261, zf 35 272, zi ((i : Nat) : Int), zi c, zu, zu, zu] dL_law_2992 (Nat.le_of_ble_eq_true rfl) (Nat.le_of_ble_eq_true rfl) rfl rfl ?_
    refine zx_aloadN dL_law_2994 rfl rfl ?_
    refine zy_cvq [] hM dL_law_2995 (by decide) rfl cw_RL_357 okX10_restore rfl (Nat.le_of_ble_eq_true rfl) ⟨Nat.le_of_ble_eq_true rfl, Nat.le_of_ble_eq_true rfl, by first | (show c0 + _ ≤ 601024; omega), by first | (show s0 + 6 * _ ≤ 7293034; omega)⟩ (fun r υ hq2 => ?_) (fun E υ hq2 => ?_)
    · obtain ⟨b, e, hz2, hth, hob, hB, hI⟩ := hK _ _ hq2
      obtain rfl := Sum.inl.inj e
      rw [show ∀ (x : zV) (s : List zV), (some x).toList ++ s = x :: s from fun _ _ => rfl]
      refine zy_nrm ?_
      have hzb := zt_r b
      refine zy_istore [zf 101 0, zf 9 0, zf 10 261, zf 35 272, zi ((i : Nat) : Int), zi c, zi (zt b), zu, zu] dL_law_2998 (Nat.le_of_ble_eq_true rfl) (Nat.le_of_ble_eq_true rfl) rfl rfl ?_
      refine zx_aloadN dL_law_3000 rfl rfl ?_
      refine zy_cv [] (sX10_thrown  hfl hz2 ) dL_law_3001 (by decide) rfl cw_RL_141 okX10_thrown rfl (Nat.le_of_ble_eq_true rfl) ⟨Nat.le_of_ble_eq_true rfl, Nat.le_of_ble_eq_true rfl, by first | (show c0 + _ ≤ 601024; omega), by first | (show s0 + 6 * _ ≤ 7293034; omega)⟩ ?_
      refine zx_iload dL_law_3004 rfl ?_
      refine zx_icmp_eq (tgt := 3011) (by first | exact hz2 _ _ | assumption | exact zr_b _ | exact zcmp_r _ _ | (unfold zr at *; omega)) (by first | exact hz2 _ _ | assumption | exact zr_b _ | exact zcmp_r _ _ | (unfold zr at *; omega)) dL_law_3006 (by decide) (fun h3006 => ?_) (fun h3006 => ?_)
      · refine zx_iload dL_law_3011 rfl ?_
        refine zx_if_ne (tgt := 3028) (by first | exact hz2 _ _ | assumption | exact zr_b _ | exact zcmp_r _ _ | (unfold zr at *; omega)) dL_law_3013 (by decide) (fun h3013 => ?_) (fun h3013 => ?_)
        · refine zx_goto (tgt := 3069) dL_law_3028 (by decide) ?_
          refine zy_drop 5 [zf 101 0, zf 9 0, zf 10 261, zf 35 272, zi ((i : Nat) : Int), zu, zi (zt b), zu, zu] rfl ?_
          refine zy_drop 6 [zf 101 0, zf 9 0, zf 10 261, zf 35 272, zi ((i : Nat) : Int), zu, zu, zu, zu] rfl ?_
          exact cont υ _ hz2 hI (by omega)
        · refine zx_aloadN dL_law_3016 rfl rfl ?_
          refine zx_iconst dL_law_3017 ?_
          refine zx_lald dL_law_3018 ?_
          rw [hob (by assumption)]
          refine zx_iload dL_law_3019 rfl ?_
          refine zx_i2l (by first | exact hz2 _ _ | assumption | exact zr_b _ | exact zcmp_r _ _ | (unfold zr at *; omega)) dL_law_3021 ?_
          refine zx_lcmp (by first | exact hz2 _ _ | assumption | exact zr_b _ | exact zcmp_r _ _ | (unfold zr at *; omega)) (by first | exact hz2 _ _ | assumption | exact zr_b _ | exact zcmp_r _ _ | (unfold zr at *; omega)) dL_law_3022 ?_
          refine zx_if_eq (tgt := 3028) (by first | exact hz2 _ _ | assumption | exact zr_b _ | exact zcmp_r _ _ | (unfold zr at *; omega)) dL_law_3023 (by decide) (fun h3023 => ?_) (fun h3023 => ?_)
          · have h3023 := zcmp_eq.mp h3023
            refine zx_goto (tgt := 3069) dL_law_3028 (by decide) ?_
            refine zy_drop 5 [zf 101 0, zf 9 0, zf 10 261, zf 35 272, zi ((i : Nat) : Int), zu, zi (zt b), zu, zu] rfl ?_
            refine zy_drop 6 [zf 101 0, zf 9 0, zf 10 261, zf 35 272, zi ((i : Nat) : Int), zu, zu, zu, zu] rfl ?_
            exact cont υ _ hz2 hI (by omega)
          · have h3023 := fun q => h3023 (zcmp_eq.mpr q)
            first | exact absurd hth (by assumption) | exact absurd rfl (by assumption) | exact absurd (by assumption) (by assumption) | (exfalso; exact h3023 (by omega)) | (exfalso; omega)
      · first | exact absurd hth (by assumption) | exact absurd rfl (by assumption) | exact absurd (by assumption) (by assumption) | (exfalso; exact h3006 (by omega)) | (exfalso; omega)
    · obtain ⟨b, e, -⟩ := hK _ _ hq2
      cases e
  · obtain ⟨c, e, -⟩ := hS _ _ hq
    cases e
set_option maxRecDepth 20000 in
set_option maxHeartbeats 2000000 in
theorem lc_62 {l : Launch} {w : zW} (hfl : l.stackTraces = false) {hh : List (Nat × Nat × Nat × Nat)} {c0 s0 : Nat} {Z : List Frame → Array Value → State → State → Prop} (hc0 : c0 ≤ 1000) (hs0 : s0 ≤ 100000) (hLn : zSL w ≤ 3072) {i k : Nat} (hi : i + 6 ≤ zSL w) (hk : k ≤ i) {σ : zS} (hz : zOK σ) (hS : SimD l w mX9_formatVerdict mX10_formatVerdict 6 11 [] σ) (cont : ∀ (τ : zS) (k' : Nat), zOK τ → Inv τ → k' ≤ k + 1 → zX l w (mL_law hh) (room_1, Z, c0, s0) 3069 [zf 101 0, zf 9 0, zf 10 261, zf 35 272, zi ((i : Nat) : Int), zu, zu, zu, zu] [] k' τ) : zX l w (mL_law hh) (room_1, Z, c0, s0) 3031 [zf 101 0, zf 9 0, zf 10 261, zf 35 272, zi ((i : Nat) : Int), zu, zu, zu, zu] [] k σ := by
  obtain ⟨QC, hC, hS⟩ := hS
  refine zx_aloadN dL_law_3031 rfl rfl ?_
  refine zy_cvq [] hC dL_law_3032 (by decide) rfl cw_RL_358 okX9_formatVerdict rfl (Nat.le_of_ble_eq_true rfl) ⟨Nat.le_of_ble_eq_true rfl, Nat.le_of_ble_eq_true rfl, by first | (show c0 + _ ≤ 601024; omega), by first | (show s0 + 6 * _ ≤ 7293034; omega)⟩ (fun r τ hq => ?_) (fun E τ hq => ?_)
  · obtain ⟨c, e, hz1, QM, hM, hK⟩ := hS _ _ hq
    obtain rfl := Sum.inl.inj e
    rw [show ∀ (x : zV) (s : List zV), (some x).toList ++ s = x :: s from fun _ _ => rfl]
    refine zy_nrm ?_
    have hzc := zt_r c
    refine zx_aloadN dL_law_3035 rfl rfl ?_
    refine zy_cvq [] hM dL_law_3036 (by decide) rfl cw_RL_361 okX10_formatVerdict rfl (Nat.le_of_ble_eq_true rfl) ⟨Nat.le_of_ble_eq_true rfl, Nat.le_of_ble_eq_true rfl, by first | (show c0 + _ ≤ 601024; omega), by first | (show s0 + 6 * _ ≤ 7293034; omega)⟩ (fun r υ hq2 => ?_) (fun E υ hq2 => ?_)
    · obtain ⟨e, hz2, hI⟩ := hK _ _ hq2
      obtain rfl := Sum.inl.inj e
      rw [show ∀ (x : zV) (s : List zV), (some x).toList ++ s = x :: s from fun _ _ => rfl]
      refine zy_nrm ?_
      refine zx_icmp_eq (tgt := 3069) (by first | exact hz2 _ _ | assumption | exact zr_b _ | exact zcmp_r _ _ | (unfold zr at *; omega)) (by first | exact hz2 _ _ | assumption | exact zr_b _ | exact zcmp_r _ _ | (unfold zr at *; omega)) dL_law_3039 (by decide) (fun h3039 => ?_) (fun h3039 => ?_)
      · exact cont υ _ hz2 hI (by omega)
      · first | exact absurd hth (by assumption) | exact absurd rfl (by assumption) | exact absurd (by assumption) (by assumption) | (exfalso; exact h3039 (by omega)) | (exfalso; omega)
    · obtain ⟨e, -⟩ := hK _ _ hq2
      cases e
  · obtain ⟨c, e, -⟩ := hS _ _ hq
    cases e
set_option maxRecDepth 20000 in
set_option maxHeartbeats 2000000 in
theorem lc_63 {l : Launch} {w : zW} (hfl : l.stackTraces = false) {hh : List (Nat × Nat × Nat × Nat)} {c0 s0 : Nat} {Z : List Frame → Array Value → State → State → Prop} (hc0 : c0 ≤ 1000) (hs0 : s0 ≤ 100000) (hLn : zSL w ≤ 3072) {i k : Nat} (hi : i + 6 ≤ zSL w) (hk : k ≤ i) {σ : zS} (hz : zOK σ) (hS : SimD l w mX9_outputByte mX10_outputByte 1 1 [zi (zSx w (i + 1)).toInt] σ) (cont : ∀ (τ : zS) (k' : Nat), zOK τ → Inv τ → k' ≤ k + 1 → zX l w (mL_law hh) (room_1, Z, c0, s0) 3069 [zf 101 0, zf 9 0, zf 10 261, zf 35 272, zi ((i : Nat) : Int), zu, zu, zu, zu] [] k' τ) : zX l w (mL_law hh) (room_1, Z, c0, s0) 3044 [zf 101 0, zf 9 0, zf 10 261, zf 35 272, zi ((i : Nat) : Int), zu, zu, zu, zu] [] k σ := by
  obtain ⟨QC, hC, hS⟩ := hS
  refine zx_aloadN dL_law_3044 rfl rfl ?_
  refine zx_aloadN dL_law_3045 rfl rfl ?_
  refine zx_iload dL_law_3046 rfl ?_
  refine zx_iconst dL_law_3048 ?_
  refine zx_iadd dL_law_3049 ?_
  refine zy_top (b := ((i + 1 : Nat) : Int)) (by omega) ?_
  refine zx_sld (by omega) (by omega) (by omega) dL_law_3050 ?_
  refine zy_cvq [zi ((zSx w (i + 1)).toInt)] hC dL_law_3051 (by decide) rfl cw_RL_362 okX9_outputByte rfl (Nat.le_of_ble_eq_true rfl) ⟨Nat.le_of_ble_eq_true rfl, Nat.le_of_ble_eq_true rfl, by first | (show c0 + _ ≤ 601024; omega), by first | (show s0 + 6 * _ ≤ 7293034; omega)⟩ (fun r τ hq => ?_) (fun E τ hq => ?_)
  · obtain ⟨c, e, hz1, QM, hM, hK⟩ := hS _ _ hq
    obtain rfl := Sum.inl.inj e
    rw [show ∀ (x : zV) (s : List zV), (some x).toList ++ s = x :: s from fun _ _ => rfl]
    refine zy_nrm ?_
    have hzc := zt_r c
    refine zx_aloadN dL_law_3054 rfl rfl ?_
    refine zx_aloadN dL_law_3055 rfl rfl ?_
    refine zx_iload dL_law_3056 rfl ?_
    refine zx_iconst dL_law_3058 ?_
    refine zx_iadd dL_law_3059 ?_
    refine zy_top (b := ((i + 1 : Nat) : Int)) (by omega) ?_
    refine zx_sld (by omega) (by omega) (by omega) dL_law_3060 ?_
    refine zy_cvq [zi ((zSx w (i + 1)).toInt)] hM dL_law_3061 (by decide) rfl cw_RL_365 okX10_outputByte rfl (Nat.le_of_ble_eq_true rfl) ⟨Nat.le_of_ble_eq_true rfl, Nat.le_of_ble_eq_true rfl, by first | (show c0 + _ ≤ 601024; omega), by first | (show s0 + 6 * _ ≤ 7293034; omega)⟩ (fun r υ hq2 => ?_) (fun E υ hq2 => ?_)
    · obtain ⟨e, hz2, hI⟩ := hK _ _ hq2
      obtain rfl := Sum.inl.inj e
      rw [show ∀ (x : zV) (s : List zV), (some x).toList ++ s = x :: s from fun _ _ => rfl]
      refine zy_nrm ?_
      refine zx_icmp_eq (tgt := 3069) (by first | exact hz2 _ _ | assumption | exact zr_b _ | exact zcmp_r _ _ | (unfold zr at *; omega)) (by first | exact hz2 _ _ | assumption | exact zr_b _ | exact zcmp_r _ _ | (unfold zr at *; omega)) dL_law_3064 (by decide) (fun h3064 => ?_) (fun h3064 => ?_)
      · exact cont υ _ hz2 hI (by omega)
      · first | exact absurd hth (by assumption) | exact absurd rfl (by assumption) | exact absurd (by assumption) (by assumption) | (exfalso; exact h3064 (by omega)) | (exfalso; omega)
    · obtain ⟨e, -⟩ := hK _ _ hq2
      cases e
  · obtain ⟨c, e, -⟩ := hS _ _ hq
    cases e

