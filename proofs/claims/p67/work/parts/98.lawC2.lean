

set_option maxRecDepth 20000 in
set_option maxHeartbeats 4000000 in
theorem lC_0 {l : Launch} {v : zW} (hfl : l.stackTraces = false) {hh : List (Nat × Nat × Nat × Nat)} {Z : List Frame → Array Value → State → State → Prop} {P Q : Nat} (hSL : zSL v ≤ 260) (hQ : Q ≤ 2) (K : ∀ τ : zS, LSt ((Q : Nat) : Int) τ → zX l v (mL_law hh) (room_1, Z, 1000, 400000) 385 [zf 101 0, zi ((P : Nat) : Int), zi ((Q : Nat) : Int), zu, zf 9 0, zu, zu, zu, zu, zu, zu, zu, zu, zu] [] 0 τ) {τ : zS} (hS : LSt ((Q : Nat) : Int) τ) : zX l v (mL_law hh) (room_1, Z, 1000, 400000) 369 [zf 101 0, zi ((P : Nat) : Int), zi ((Q : Nat) : Int), zu, zf 9 0, zu, zu, zu, zu, zu, zu, zu, zu, zu] [] 0 τ := by
  refine zx_aload dL_law_369 rfl ?_
  refine zx_aloadN dL_law_371 rfl rfl ?_
  refine zx_bipush dL_law_372 rfl ?_
  refine zy_cs [zf 101 0, zi 62] (sL_cell (x := 62) hfl hS.1 (by omega) hSL) dL_law_374 cw_RL_241 okL_cell rfl (Nat.le_of_ble_eq_true rfl) ⟨Nat.le_of_ble_eq_true rfl, Nat.le_of_ble_eq_true rfl, by show 1000 + (0 + 0) ≤ 600086; omega, by show 400000 + 6 * (0 + 0) ≤ 7301442; omega⟩ ?_
  have hc374 := zcl_b v 62
  refine zy_csR [zf 9 0, zi (zcl v 62)] (sL_stands hfl hS.1 rfl hS.2.2.2.1 hS.2.2.2.2.1 hS.2.2.2.2.2.2 (by omega)) dL_law_377 cw_RL_273 okL_stands rfl (Nat.le_of_ble_eq_true rfl) ⟨Nat.le_of_ble_eq_true rfl, Nat.le_of_ble_eq_true rfl, by show 1000 + (0 + 0) ≤ 600086; omega, by show 400000 + 6 * (0 + 0) ≤ 7301442; omega⟩ (fun τ377 hr377 => ?_)
  have hS377 := st_LS hS hr377
  refine zx_if_ne (tgt := 385) (by first | exact zlq_r _ _ | (unfold zr; omega)) dL_law_380 (by decide) (fun h380 => ?_) (fun h380 => ?_)
  rotate_left
  · exact absurd h380 (by decide)
  exact K _ hS377
set_option maxRecDepth 20000 in
set_option maxHeartbeats 4000000 in
theorem lC_a {l : Launch} {v : zW} (hfl : l.stackTraces = false) {hh : List (Nat × Nat × Nat × Nat)} {Z : List Frame → Array Value → State → State → Prop} {P Q : Nat} (hSL : zSL v ≤ 260) (hQ : Q ≤ 2) (K : ∀ (k : Nat) (τ : zS), k ≤ 4 → LSt ((Q : Nat) : Int) τ → zX l v (mL_law hh) (room_1, Z, 1000, 400000) 439 [zf 101 0, zi ((P : Nat) : Int), zi ((Q : Nat) : Int), zu, zf 9 0, zu, zu, zu, zu, zu, zu, zu, zu, zu] [] k τ) : ∀ (N i k : Nat) (τ : zS), i ≤ 4 → k ≤ i → LSt ((Q : Nat) : Int) τ → 4 + 1 - i < N → zX l v (mL_law hh) (room_1, Z, 1000, 400000) 388 [zf 101 0, zi ((P : Nat) : Int), zi ((Q : Nat) : Int), zu, zf 9 0, zi ((i : Nat) : Int), zu, zu, zu, zu, zu, zu, zu, zu] [] k τ := by
  intro N
  induction N with
  | zero => intro i k τ _ _ _ h; exact absurd h (Nat.not_lt_zero _)
  | succ N ih =>
    intro i k τ hi hk hS hN
    refine zx_iload dL_law_388 rfl ?_
    refine zx_iconst dL_law_390 ?_
    refine zx_icmp_ge (tgt := 439) (by unfold zr; omega) (by unfold zr; omega) dL_law_391 (by decide) (fun h391 => ?_) (fun h391 => ?_)
    · refine zy_drop 5 [zf 101 0, zi ((P : Nat) : Int), zi ((Q : Nat) : Int), zu, zf 9 0, zu, zu, zu, zu, zu, zu, zu, zu, zu] rfl ?_
      exact K k τ (by omega) hS
    refine zx_aload dL_law_394 rfl ?_
    refine zx_iloadN dL_law_396 rfl rfl ?_
    refine zx_iconst dL_law_397 ?_
    refine zx_aloadN dL_law_398 rfl rfl ?_
    refine zx_bipush dL_law_399 rfl ?_
    refine zx_iload dL_law_401 rfl ?_
    refine zx_iadd dL_law_403 ?_
    refine zy_cs [zf 101 0, zi (54 + ((i : Nat) : Int))] (sL_cell (x := 54 + ((i : Nat) : Int)) hfl hS.1 (by omega) hSL) dL_law_404 cw_RL_241 okL_cell rfl (Nat.le_of_ble_eq_true rfl) ⟨Nat.le_of_ble_eq_true rfl, Nat.le_of_ble_eq_true rfl, by show 1000 + (k + 0) ≤ 600086; omega, by show 400000 + 6 * (k + 0) ≤ 7301442; omega⟩ ?_
    have hc404 := zcl_b v (54 + ((i : Nat) : Int))
    refine zx_aloadN dL_law_407 rfl rfl ?_
    refine zx_bipush dL_law_408 rfl ?_
    refine zx_iload dL_law_410 rfl ?_
    refine zx_iadd dL_law_412 ?_
    refine zy_cs [zf 101 0, zi (58 + ((i : Nat) : Int))] (sL_cell (x := 58 + ((i : Nat) : Int)) hfl hS.1 (by omega) hSL) dL_law_413 cw_RL_241 okL_cell rfl (Nat.le_of_ble_eq_true rfl) ⟨Nat.le_of_ble_eq_true rfl, Nat.le_of_ble_eq_true rfl, by show 1000 + (k + 0) ≤ 600086; omega, by show 400000 + 6 * (k + 0) ≤ 7301442; omega⟩ ?_
    have hc413 := zcl_b v (58 + ((i : Nat) : Int))
    refine zx_aloadN dL_law_416 rfl rfl ?_
    refine zx_bipush dL_law_417 rfl ?_
    refine zx_iload dL_law_419 rfl ?_
    refine zx_iadd dL_law_421 ?_
    refine zy_cs [zf 101 0, zi (62 + ((i : Nat) : Int))] (sL_cell (x := 62 + ((i : Nat) : Int)) hfl hS.1 (by omega) hSL) dL_law_422 cw_RL_241 okL_cell rfl (Nat.le_of_ble_eq_true rfl) ⟨Nat.le_of_ble_eq_true rfl, Nat.le_of_ble_eq_true rfl, by show 1000 + (k + 0) ≤ 600086; omega, by show 400000 + 6 * (k + 0) ≤ 7301442; omega⟩ ?_
    have hc422 := zcl_b v (62 + ((i : Nat) : Int))
    refine zy_csR [zf 9 0, zi ((Q : Nat) : Int), zi 0, zi (zcl v (54 + ((i : Nat) : Int))), zi (zcl v (58 + ((i : Nat) : Int))), zi (zcl v (62 + ((i : Nat) : Int)))] (sL_acts hfl hS.1 rfl hS.2.2.2.1 hS.2.2.2.2.1 hS.2.1 hS.2.2.1 hS.2.2.2.2.2.1 (by omega) (by omega) (by omega) (by omega) (by omega)) dL_law_425 cw_RL_276 okL_acts rfl (Nat.le_of_ble_eq_true rfl) ⟨Nat.le_of_ble_eq_true rfl, Nat.le_of_ble_eq_true rfl, by show 1000 + (k + 1) ≤ 600086; omega, by show 400000 + 6 * (k + 1) ≤ 7301442; omega⟩ (fun τ425 hr425 => ?_)
    have hS425 := AP_LS hS hr425
    refine zx_if_ne (tgt := 433) (by first | exact zlq_r _ _ | (unfold zr; omega)) dL_law_428 (by decide) (fun h428 => ?_) (fun h428 => ?_)
    rotate_left
    · exact absurd h428 (by decide)
    refine zy_iinc (b := ((i + 1 : Nat) : Int)) [zf 101 0, zi ((P : Nat) : Int), zi ((Q : Nat) : Int), zu, zf 9 0, zi ((i + 1 : Nat) : Int), zu, zu, zu, zu, zu, zu, zu, zu] dL_law_433 rfl (by omega) (Nat.le_of_ble_eq_true rfl) rfl rfl ?_
    refine zx_goto (tgt := 388) dL_law_436 (by decide) ?_
    exact ih (i + 1) (k + 1) _ (by omega) (by omega) hS425 (by omega)
set_option maxRecDepth 20000 in
set_option maxHeartbeats 4000000 in
theorem lC_b {l : Launch} {v : zW} (hfl : l.stackTraces = false) {hh : List (Nat × Nat × Nat × Nat)} {Z : List Frame → Array Value → State → State → Prop} {P Q : Nat} (hSL : zSL v ≤ 260) (hQ : Q ≤ 2) (K : ∀ (k : Nat) (τ : zS), k ≤ 40 → LSt ((Q : Nat) : Int) τ → zX l v (mL_law hh) (room_1, Z, 1000, 400000) 618 [zf 101 0, zi ((P : Nat) : Int), zi ((Q : Nat) : Int), zu, zf 9 0, zu, zu, zu, zu, zu, zu, zu, zu, zu] [] k τ) : ∀ (N i k : Nat) (τ : zS), i ≤ 12 → k ≤ 4 + 3 * i → LSt ((Q : Nat) : Int) τ → 12 + 1 - i < N → zX l v (mL_law hh) (room_1, Z, 1000, 400000) 442 [zf 101 0, zi ((P : Nat) : Int), zi ((Q : Nat) : Int), zu, zf 9 0, zi ((i : Nat) : Int), zu, zu, zu, zu, zu, zu, zu, zu] [] k τ := by
  intro N
  induction N with
  | zero => intro i k τ _ _ _ h; exact absurd h (Nat.not_lt_zero _)
  | succ N ih =>
    intro i k τ hi hk hS hN
    refine zx_iload dL_law_442 rfl ?_
    refine zx_bipush dL_law_444 rfl ?_
    refine zx_icmp_ge (tgt := 618) (by unfold zr; omega) (by unfold zr; omega) dL_law_446 (by decide) (fun h446 => ?_) (fun h446 => ?_)
    · refine zy_drop 5 [zf 101 0, zi ((P : Nat) : Int), zi ((Q : Nat) : Int), zu, zf 9 0, zu, zu, zu, zu, zu, zu, zu, zu, zu] rfl ?_
      exact K k τ (by omega) hS
    refine zx_aloadN dL_law_449 rfl rfl ?_
    refine zx_bipush dL_law_450 rfl ?_
    refine zx_iconst dL_law_452 ?_
    refine zx_iload dL_law_453 rfl ?_
    refine zx_imul dL_law_455 ?_
    refine zx_iadd dL_law_456 ?_
    refine zy_cs [zf 101 0, zi (66 + (4 * ((i : Nat) : Int)))] (sL_cell (x := 66 + (4 * ((i : Nat) : Int))) hfl hS.1 (by omega) hSL) dL_law_457 cw_RL_241 okL_cell rfl (Nat.le_of_ble_eq_true rfl) ⟨Nat.le_of_ble_eq_true rfl, Nat.le_of_ble_eq_true rfl, by show 1000 + (k + 0) ≤ 600086; omega, by show 400000 + 6 * (k + 0) ≤ 7301442; omega⟩ ?_
    have hc457 := zcl_b v (66 + (4 * ((i : Nat) : Int)))
    refine zx_bipush dL_law_460 rfl ?_
    refine zx_irem (by omega) (by omega) (by omega) (by omega) dL_law_462 ?_
    refine zy_istore [zf 101 0, zi ((P : Nat) : Int), zi ((Q : Nat) : Int), zu, zf 9 0, zi ((i : Nat) : Int), zi ((zcl v (66 + (4 * ((i : Nat) : Int)))) % 10), zu, zu, zu, zu, zu, zu, zu] dL_law_463 (Nat.le_of_ble_eq_true rfl) (Nat.le_of_ble_eq_true rfl) rfl rfl ?_
    refine zx_aloadN dL_law_465 rfl rfl ?_
    refine zx_bipush dL_law_466 rfl ?_
    refine zx_iconst dL_law_468 ?_
    refine zx_iload dL_law_469 rfl ?_
    refine zx_imul dL_law_471 ?_
    refine zx_iadd dL_law_472 ?_
    refine zy_cs [zf 101 0, zi (67 + (4 * ((i : Nat) : Int)))] (sL_cell (x := 67 + (4 * ((i : Nat) : Int))) hfl hS.1 (by omega) hSL) dL_law_473 cw_RL_241 okL_cell rfl (Nat.le_of_ble_eq_true rfl) ⟨Nat.le_of_ble_eq_true rfl, Nat.le_of_ble_eq_true rfl, by show 1000 + (k + 0) ≤ 600086; omega, by show 400000 + 6 * (k + 0) ≤ 7301442; omega⟩ ?_
    have hc473 := zcl_b v (67 + (4 * ((i : Nat) : Int)))
    refine zy_istore [zf 101 0, zi ((P : Nat) : Int), zi ((Q : Nat) : Int), zu, zf 9 0, zi ((i : Nat) : Int), zi ((zcl v (66 + (4 * ((i : Nat) : Int)))) % 10), zi (zcl v (67 + (4 * ((i : Nat) : Int)))), zu, zu, zu, zu, zu, zu] dL_law_476 (Nat.le_of_ble_eq_true rfl) (Nat.le_of_ble_eq_true rfl) rfl rfl ?_
    refine zx_aloadN dL_law_478 rfl rfl ?_
    refine zx_bipush dL_law_479 rfl ?_
    refine zx_iconst dL_law_481 ?_
    refine zx_iload dL_law_482 rfl ?_
    refine zx_imul dL_law_484 ?_
    refine zx_iadd dL_law_485 ?_
    refine zy_cs [zf 101 0, zi (68 + (4 * ((i : Nat) : Int)))] (sL_cell (x := 68 + (4 * ((i : Nat) : Int))) hfl hS.1 (by omega) hSL) dL_law_486 cw_RL_241 okL_cell rfl (Nat.le_of_ble_eq_true rfl) ⟨Nat.le_of_ble_eq_true rfl, Nat.le_of_ble_eq_true rfl, by show 1000 + (k + 0) ≤ 600086; omega, by show 400000 + 6 * (k + 0) ≤ 7301442; omega⟩ ?_
    have hc486 := zcl_b v (68 + (4 * ((i : Nat) : Int)))
    refine zy_istore [zf 101 0, zi ((P : Nat) : Int), zi ((Q : Nat) : Int), zu, zf 9 0, zi ((i : Nat) : Int), zi ((zcl v (66 + (4 * ((i : Nat) : Int)))) % 10), zi (zcl v (67 + (4 * ((i : Nat) : Int)))), zi (zcl v (68 + (4 * ((i : Nat) : Int)))), zu, zu, zu, zu, zu] dL_law_489 (Nat.le_of_ble_eq_true rfl) (Nat.le_of_ble_eq_true rfl) rfl rfl ?_
    refine zx_aloadN dL_law_491 rfl rfl ?_
    refine zx_bipush dL_law_492 rfl ?_
    refine zx_iconst dL_law_494 ?_
    refine zx_iload dL_law_495 rfl ?_
    refine zx_imul dL_law_497 ?_
    refine zx_iadd dL_law_498 ?_
    refine zy_cs [zf 101 0, zi (69 + (4 * ((i : Nat) : Int)))] (sL_cell (x := 69 + (4 * ((i : Nat) : Int))) hfl hS.1 (by omega) hSL) dL_law_499 cw_RL_241 okL_cell rfl (Nat.le_of_ble_eq_true rfl) ⟨Nat.le_of_ble_eq_true rfl, Nat.le_of_ble_eq_true rfl, by show 1000 + (k + 0) ≤ 600086; omega, by show 400000 + 6 * (k + 0) ≤ 7301442; omega⟩ ?_
    have hc499 := zcl_b v (69 + (4 * ((i : Nat) : Int)))
    refine zy_istore [zf 101 0, zi ((P : Nat) : Int), zi ((Q : Nat) : Int), zu, zf 9 0, zi ((i : Nat) : Int), zi ((zcl v (66 + (4 * ((i : Nat) : Int)))) % 10), zi (zcl v (67 + (4 * ((i : Nat) : Int)))), zi (zcl v (68 + (4 * ((i : Nat) : Int)))), zi (zcl v (69 + (4 * ((i : Nat) : Int)))), zu, zu, zu, zu] dL_law_502 (Nat.le_of_ble_eq_true rfl) (Nat.le_of_ble_eq_true rfl) rfl rfl ?_
    refine zx_aload dL_law_504 rfl ?_
    refine zy_cs [zf 9 0] (sL_sum hfl hS.1 rfl hS.2.2.2.1) dL_law_506 cw_RL_280 okL_sum rfl (Nat.le_of_ble_eq_true rfl) ⟨Nat.le_of_ble_eq_true rfl, Nat.le_of_ble_eq_true rfl, by show 1000 + (k + 0) ≤ 600086; omega, by show 400000 + 6 * (k + 0) ≤ 7301442; omega⟩ ?_
    refine zx_lstore [zf 101 0, zi ((P : Nat) : Int), zi ((Q : Nat) : Int), zu, zf 9 0, zi ((i : Nat) : Int), zi ((zcl v (66 + (4 * ((i : Nat) : Int)))) % 10), zi (zcl v (67 + (4 * ((i : Nat) : Int)))), zi (zcl v (68 + (4 * ((i : Nat) : Int)))), zi (zcl v (69 + (4 * ((i : Nat) : Int)))), zl (lsum (bK τ)), zu, zu, zu] dL_law_509 (Nat.le_of_ble_eq_true rfl) (Nat.le_of_ble_eq_true rfl) rfl rfl ?_
    refine zx_aload dL_law_511 rfl ?_
    refine zx_iloadN dL_law_513 rfl rfl ?_
    refine zx_iload dL_law_514 rfl ?_
    refine zx_iload dL_law_516 rfl ?_
    refine zx_iload dL_law_518 rfl ?_
    refine zx_iload dL_law_520 rfl ?_
    refine zy_csR [zf 9 0, zi ((Q : Nat) : Int), zi ((zcl v (66 + (4 * ((i : Nat) : Int)))) % 10), zi (zcl v (67 + (4 * ((i : Nat) : Int)))), zi (zcl v (68 + (4 * ((i : Nat) : Int)))), zi (zcl v (69 + (4 * ((i : Nat) : Int))))] (sL_acts hfl hS.1 rfl hS.2.2.2.1 hS.2.2.2.2.1 hS.2.1 hS.2.2.1 hS.2.2.2.2.2.1 (by omega) (by omega) (by omega) (by omega) (by omega)) dL_law_522 cw_RL_276 okL_acts rfl (Nat.le_of_ble_eq_true rfl) ⟨Nat.le_of_ble_eq_true rfl, Nat.le_of_ble_eq_true rfl, by show 1000 + (k + 1) ≤ 600086; omega, by show 400000 + 6 * (k + 1) ≤ 7301442; omega⟩ (fun τ522 hr522 => ?_)
    have hS522 := AP_LS hS hr522
    refine zx_if_eq (tgt := 538) (by first | exact zlq_r _ _ | (unfold zr; omega)) dL_law_525 (by decide) (fun h525 => ?_) (fun h525 => ?_)
    · exact absurd h525 (by decide)
    refine zx_aload dL_law_528 rfl ?_
    refine zx_iload dL_law_530 rfl ?_
    refine zy_csR [zf 9 0, zi (zcl v (69 + (4 * ((i : Nat) : Int))))] (sL_stands hfl hS522.1 rfl hS522.2.2.2.1 hS522.2.2.2.2.1 hS522.2.2.2.2.2.2 (by omega)) dL_law_532 cw_RL_273 okL_stands rfl (Nat.le_of_ble_eq_true rfl) ⟨Nat.le_of_ble_eq_true rfl, Nat.le_of_ble_eq_true rfl, by show 1000 + (k + 1 + 0) ≤ 600086; omega, by show 400000 + 6 * (k + 1 + 0) ≤ 7301442; omega⟩ (fun τ532 hr532 => ?_)
    have hS532 := st_LS hS522 hr532
    refine zx_if_ne (tgt := 540) (by first | exact zlq_r _ _ | (unfold zr; omega)) dL_law_535 (by decide) (fun h535 => ?_) (fun h535 => ?_)
    rotate_left
    · exact absurd h535 (by decide)
    refine zx_aload dL_law_540 rfl ?_
    refine zy_cs [zf 9 0] (sL_sum hfl hS532.1 rfl hS532.2.2.2.1) dL_law_542 cw_RL_280 okL_sum rfl (Nat.le_of_ble_eq_true rfl) ⟨Nat.le_of_ble_eq_true rfl, Nat.le_of_ble_eq_true rfl, by show 1000 + (k + 1 + 0) ≤ 600086; omega, by show 400000 + 6 * (k + 1 + 0) ≤ 7301442; omega⟩ ?_
    refine zx_lstore [zf 101 0, zi ((P : Nat) : Int), zi ((Q : Nat) : Int), zu, zf 9 0, zi ((i : Nat) : Int), zi ((zcl v (66 + (4 * ((i : Nat) : Int)))) % 10), zi (zcl v (67 + (4 * ((i : Nat) : Int)))), zi (zcl v (68 + (4 * ((i : Nat) : Int)))), zi (zcl v (69 + (4 * ((i : Nat) : Int)))), zl (lsum (bK τ)), zu, zl (lsum (bK τ532)), zu] dL_law_545 (Nat.le_of_ble_eq_true rfl) (Nat.le_of_ble_eq_true rfl) rfl rfl ?_
    refine zx_lload dL_law_547 rfl ?_
    refine zx_lload dL_law_549 rfl ?_
    refine zx_lcmpq dL_law_551 ?_
    refine zx_if_ne (tgt := 558) (zlq_r _ _) dL_law_552 (by decide) (fun h552 => ?_) (fun h552 => ?_)
    · have hne : ¬ bK τ522 = bK τ := fun q => h552 (by rw [hr532.2.2, q]; exact zlq_0 _)
      have hpu : HPu τ τ532 := HPu_post (hr522.2.2.2.2.2.2.resolve_right hne) hr532.2.1
      have hpos := HPu_pos hS.2.1 hpu
      refine zx_aload dL_law_558 rfl ?_
      refine zx_bipush dL_law_560 rfl ?_
      refine zx_iconst dL_law_562 ?_
      refine zx_iconst dL_law_563 ?_
      refine zx_iconst dL_law_564 ?_
      refine zy_csHR [zf 9 0, zi 11, zi 0, zi 0, zi 0] (sL_does_undo hfl hS532.1 rfl hS532.2.2.2.1 hS532.2.1 hS532.2.2.1 hpos.1) dL_law_565 cw_RL_231 okL_does rfl (Nat.le_of_ble_eq_true rfl) ⟨Nat.le_of_ble_eq_true rfl, Nat.le_of_ble_eq_true rfl, by show 1000 + (k + 1 + 1) ≤ 600086; omega, by show 400000 + 6 * (k + 1 + 1) ≤ 7301442; omega⟩ (fun τ565 hr565 => ?_)
      have hU := un_LS hS hpu hr565
      have hSu := hU.1
      refine zx_if_lt (tgt := 610) (by first | exact zlq_r _ _ | (unfold zr; omega)) dL_law_568 (by decide) (fun h568 => ?_) (fun h568 => ?_)
      · exfalso; omega
      refine zx_aload dL_law_571 rfl ?_
      refine zy_cs [zf 9 0] (sL_sum hfl hSu.1 rfl hSu.2.2.2.1) dL_law_573 cw_RL_280 okL_sum rfl (Nat.le_of_ble_eq_true rfl) ⟨Nat.le_of_ble_eq_true rfl, Nat.le_of_ble_eq_true rfl, by show 1000 + (k + 1 + 1 + 0) ≤ 600086; omega, by show 400000 + 6 * (k + 1 + 1 + 0) ≤ 7301442; omega⟩ ?_
      refine zx_lload dL_law_576 rfl ?_
      refine zx_lcmpq dL_law_578 ?_
      refine zx_if_ne (tgt := 610) (by first | exact zlq_r _ _ | (unfold zr; omega)) dL_law_579 (by decide) (fun h579 => ?_) (fun h579 => ?_)
      · exact absurd (by rw [hU.2.2]; exact zlq_0 _) h579
      refine zx_aload dL_law_582 rfl ?_
      refine zx_iloadN dL_law_584 rfl rfl ?_
      refine zx_iload dL_law_585 rfl ?_
      refine zx_iload dL_law_587 rfl ?_
      refine zx_iload dL_law_589 rfl ?_
      refine zx_iload dL_law_591 rfl ?_
      refine zy_csR [zf 9 0, zi ((Q : Nat) : Int), zi ((zcl v (66 + (4 * ((i : Nat) : Int)))) % 10), zi (zcl v (67 + (4 * ((i : Nat) : Int)))), zi (zcl v (68 + (4 * ((i : Nat) : Int)))), zi (zcl v (69 + (4 * ((i : Nat) : Int))))] (sL_acts hfl hSu.1 rfl hSu.2.2.2.1 hSu.2.2.2.2.1 hSu.2.1 hSu.2.2.1 hSu.2.2.2.2.2.1 (by omega) (by omega) (by omega) (by omega) (by omega)) dL_law_593 cw_RL_276 okL_acts rfl (Nat.le_of_ble_eq_true rfl) ⟨Nat.le_of_ble_eq_true rfl, Nat.le_of_ble_eq_true rfl, by show 1000 + (k + 1 + 1 + 1) ≤ 600086; omega, by show 400000 + 6 * (k + 1 + 1 + 1) ≤ 7301442; omega⟩ (fun τ593 hr593 => ?_)
      have hS593 := AP_LS hSu hr593
      refine zx_if_eq (tgt := 610) (by first | exact zlq_r _ _ | (unfold zr; omega)) dL_law_596 (by decide) (fun h596 => ?_) (fun h596 => ?_)
      · exact absurd h596 (by decide)
      refine zx_aload dL_law_599 rfl ?_
      refine zy_cs [zf 9 0] (sL_sum hfl hS593.1 rfl hS593.2.2.2.1) dL_law_601 cw_RL_280 okL_sum rfl (Nat.le_of_ble_eq_true rfl) ⟨Nat.le_of_ble_eq_true rfl, Nat.le_of_ble_eq_true rfl, by show 1000 + (k + 1 + 1 + 1 + 0) ≤ 600086; omega, by show 400000 + 6 * (k + 1 + 1 + 1 + 0) ≤ 7301442; omega⟩ ?_
      refine zx_lload dL_law_604 rfl ?_
      refine zx_lcmpq dL_law_606 ?_
      refine zx_if_eq (tgt := 612) (by first | exact zlq_r _ _ | (unfold zr; omega)) dL_law_607 (by decide) (fun h607 => ?_) (fun h607 => ?_)
      rotate_left
      · exact absurd (by rw [again hS hU.2.1 hr522.2.2.2.2.2.1 hr522.2.2.2.2.1 hr593.2.2.2.2.2.1, hr532.2.2]; exact zlq_0 _) h607
      refine zy_iinc (b := ((i + 1 : Nat) : Int)) [zf 101 0, zi ((P : Nat) : Int), zi ((Q : Nat) : Int), zu, zf 9 0, zi ((i + 1 : Nat) : Int), zi ((zcl v (66 + (4 * ((i : Nat) : Int)))) % 10), zi (zcl v (67 + (4 * ((i : Nat) : Int)))), zi (zcl v (68 + (4 * ((i : Nat) : Int)))), zi (zcl v (69 + (4 * ((i : Nat) : Int)))), zl (lsum (bK τ)), zu, zl (lsum (bK τ532)), zu] dL_law_612 rfl (by omega) (Nat.le_of_ble_eq_true rfl) rfl rfl ?_
      refine zx_goto (tgt := 442) dL_law_615 (by decide) ?_
      refine zy_drop 6 [zf 101 0, zi ((P : Nat) : Int), zi ((Q : Nat) : Int), zu, zf 9 0, zi ((i + 1 : Nat) : Int), zu, zi (zcl v (67 + (4 * ((i : Nat) : Int)))), zi (zcl v (68 + (4 * ((i : Nat) : Int)))), zi (zcl v (69 + (4 * ((i : Nat) : Int)))), zl (lsum (bK τ)), zu, zl (lsum (bK τ532)), zu] rfl ?_
      refine zy_drop 7 [zf 101 0, zi ((P : Nat) : Int), zi ((Q : Nat) : Int), zu, zf 9 0, zi ((i + 1 : Nat) : Int), zu, zu, zi (zcl v (68 + (4 * ((i : Nat) : Int)))), zi (zcl v (69 + (4 * ((i : Nat) : Int)))), zl (lsum (bK τ)), zu, zl (lsum (bK τ532)), zu] rfl ?_
      refine zy_drop 8 [zf 101 0, zi ((P : Nat) : Int), zi ((Q : Nat) : Int), zu, zf 9 0, zi ((i + 1 : Nat) : Int), zu, zu, zu, zi (zcl v (69 + (4 * ((i : Nat) : Int)))), zl (lsum (bK τ)), zu, zl (lsum (bK τ532)), zu] rfl ?_
      refine zy_drop 9 [zf 101 0, zi ((P : Nat) : Int), zi ((Q : Nat) : Int), zu, zf 9 0, zi ((i + 1 : Nat) : Int), zu, zu, zu, zu, zl (lsum (bK τ)), zu, zl (lsum (bK τ532)), zu] rfl ?_
      refine zy_drop 10 [zf 101 0, zi ((P : Nat) : Int), zi ((Q : Nat) : Int), zu, zf 9 0, zi ((i + 1 : Nat) : Int), zu, zu, zu, zu, zu, zu, zl (lsum (bK τ532)), zu] rfl ?_
      refine zy_drop 12 [zf 101 0, zi ((P : Nat) : Int), zi ((Q : Nat) : Int), zu, zf 9 0, zi ((i + 1 : Nat) : Int), zu, zu, zu, zu, zu, zu, zu, zu] rfl ?_
      exact ih (i + 1) (k + 1 + 1 + 1) _ (by omega) (by omega) hS593 (by omega)
    · refine zx_goto (tgt := 612) dL_law_555 (by decide) ?_
      refine zy_iinc (b := ((i + 1 : Nat) : Int)) [zf 101 0, zi ((P : Nat) : Int), zi ((Q : Nat) : Int), zu, zf 9 0, zi ((i + 1 : Nat) : Int), zi ((zcl v (66 + (4 * ((i : Nat) : Int)))) % 10), zi (zcl v (67 + (4 * ((i : Nat) : Int)))), zi (zcl v (68 + (4 * ((i : Nat) : Int)))), zi (zcl v (69 + (4 * ((i : Nat) : Int)))), zl (lsum (bK τ)), zu, zl (lsum (bK τ532)), zu] dL_law_612 rfl (by omega) (Nat.le_of_ble_eq_true rfl) rfl rfl ?_
      refine zx_goto (tgt := 442) dL_law_615 (by decide) ?_
      refine zy_drop 6 [zf 101 0, zi ((P : Nat) : Int), zi ((Q : Nat) : Int), zu, zf 9 0, zi ((i + 1 : Nat) : Int), zu, zi (zcl v (67 + (4 * ((i : Nat) : Int)))), zi (zcl v (68 + (4 * ((i : Nat) : Int)))), zi (zcl v (69 + (4 * ((i : Nat) : Int)))), zl (lsum (bK τ)), zu, zl (lsum (bK τ532)), zu] rfl ?_
      refine zy_drop 7 [zf 101 0, zi ((P : Nat) : Int), zi ((Q : Nat) : Int), zu, zf 9 0, zi ((i + 1 : Nat) : Int), zu, zu, zi (zcl v (68 + (4 * ((i : Nat) : Int)))), zi (zcl v (69 + (4 * ((i : Nat) : Int)))), zl (lsum (bK τ)), zu, zl (lsum (bK τ532)), zu] rfl ?_
      refine zy_drop 8 [zf 101 0, zi ((P : Nat) : Int), zi ((Q : Nat) : Int), zu, zf 9 0, zi ((i + 1 : Nat) : Int), zu, zu, zu, zi (zcl v (69 + (4 * ((i : Nat) : Int)))), zl (lsum (bK τ)), zu, zl (lsum (bK τ532)), zu] rfl ?_
      refine zy_drop 9 [zf 101 0, zi ((P : Nat) : Int), zi ((Q : Nat) : Int), zu, zf 9 0, zi ((i + 1 : Nat) : Int), zu, zu, zu, zu, zl (lsum (bK τ)), zu, zl (lsum (bK τ532)), zu] rfl ?_
      refine zy_drop 10 [zf 101 0, zi ((P : Nat) : Int), zi ((Q : Nat) : Int), zu, zf 9 0, zi ((i + 1 : Nat) : Int), zu, zu, zu, zu, zu, zu, zl (lsum (bK τ532)), zu] rfl ?_
      refine zy_drop 12 [zf 101 0, zi ((P : Nat) : Int), zi ((Q : Nat) : Int), zu, zf 9 0, zi ((i + 1 : Nat) : Int), zu, zu, zu, zu, zu, zu, zu, zu] rfl ?_
      exact ih (i + 1) (k + 1) _ (by omega) (by omega) hS532 (by omega)
set_option maxRecDepth 20000 in
set_option maxHeartbeats 4000000 in
theorem lC_e {l : Launch} {v : zW} (hfl : l.stackTraces = false) {hh : List (Nat × Nat × Nat × Nat)} {Z : List Frame → Array Value → State → State → Prop} {P Q : Nat} (hSL : zSL v ≤ 260) (hQ : Q ≤ 2) (K : ∀ (ls : List zV) (k : Nat) (τ : zS), k ≤ 50 → zX l v (mL_law hh) (room_1, Z, 1000, 400000) 695 ls [zi 1] k τ) (k : Nat) (τ : zS) (hk : k ≤ 40) (hS : LSt ((Q : Nat) : Int) τ) : zX l v (mL_law hh) (room_1, Z, 1000, 400000) 618 [zf 101 0, zi ((P : Nat) : Int), zi ((Q : Nat) : Int), zu, zf 9 0, zu, zu, zu, zu, zu, zu, zu, zu, zu] [] k τ := by
  refine zx_aload dL_law_618 rfl ?_
  refine zy_cs [zf 9 0] (sL_sum hfl hS.1 rfl hS.2.2.2.1) dL_law_620 cw_RL_280 okL_sum rfl (Nat.le_of_ble_eq_true rfl) ⟨Nat.le_of_ble_eq_true rfl, Nat.le_of_ble_eq_true rfl, by show 1000 + (k + 0) ≤ 600086; omega, by show 400000 + 6 * (k + 0) ≤ 7301442; omega⟩ ?_
  refine zx_lstore [zf 101 0, zi ((P : Nat) : Int), zi ((Q : Nat) : Int), zu, zf 9 0, zl (lsum (bK τ)), zu, zu, zu, zu, zu, zu, zu, zu] dL_law_623 (Nat.le_of_ble_eq_true rfl) (Nat.le_of_ble_eq_true rfl) rfl rfl ?_
  refine zx_aload dL_law_625 rfl ?_
  have hwb : WF (bk τ 30) := WF_tr hS.2.2.2.1
  have hz0 : zr (τ.1 42 0) := hS.1 42 0
  refine zy_cv [] (sX9_clueCount hfl hS.1 hwb) dL_law_627 (by decide) rfl cw_RL_98 okX9_clueCount rfl (Nat.le_of_ble_eq_true rfl) ⟨Nat.le_of_ble_eq_true rfl, Nat.le_of_ble_eq_true rfl, by show 1000 + (k + 0) ≤ 600086; omega, by show 400000 + 6 * (k + 0) ≤ 7301442; omega⟩ ?_
  refine zy_istore [zf 101 0, zi ((P : Nat) : Int), zi ((Q : Nat) : Int), zu, zf 9 0, zl (lsum (bK τ)), zu, zi (τ.1 42 0), zu, zu, zu, zu, zu, zu] dL_law_630 (Nat.le_of_ble_eq_true rfl) (Nat.le_of_ble_eq_true rfl) rfl rfl ?_
  refine zx_aload dL_law_632 rfl ?_
  refine zy_cvR [] (sX9_save hfl hS.1 hwb hS.2.2.1) dL_law_634 (by decide) rfl cw_RL_284 okX9_save rfl (Nat.le_of_ble_eq_true rfl) ⟨Nat.le_of_ble_eq_true rfl, Nat.le_of_ble_eq_true rfl, by show 1000 + (k + 0) ≤ 600086; omega, by show 400000 + 6 * (k + 0) ≤ 7301442; omega⟩ (fun τ634 hr634 => ?_)
  have hb : bK τ634 = bK τ := bK_same hr634.2.1 (fun o ho => by show ¬ (30 + o = 0 ∨ (50 ≤ 30 + o ∧ 30 + o ≤ 69)); omega)
  have hN : HN τ634 := HN_post hS.2.1 hr634.2.1 (by omega)
  have hW : WF (bK τ634) := by rw [hb]; exact hS.2.2.2.1
  have hub := U_b (bK τ634) ((bK τ634) 12 0).toNat
  have hn := hW.1.2.2.2
  refine zx_iload dL_law_637 rfl ?_
  refine zx_icmp_ne (tgt := 694) hz0 hz0 dL_law_639 (by decide) (fun h639 => ?_) (fun h639 => ?_)
  · exact absurd rfl h639
  refine zx_aload dL_law_642 rfl ?_
  refine zx_iconst dL_law_644 ?_
  refine zx_iconst dL_law_645 ?_
  refine zx_iconst dL_law_646 ?_
  refine zx_iconst dL_law_647 ?_
  refine zy_csHR [zf 9 0, zi 5, zi 5, zi 0, zi 0] (sL_does_read hfl hr634.1 rfl hW hN hr634.2.2.2.2 (by omega)) dL_law_648 cw_RL_231 okL_does rfl (Nat.le_of_ble_eq_true rfl) ⟨Nat.le_of_ble_eq_true rfl, Nat.le_of_ble_eq_true rfl, by show 1000 + (k + 1) ≤ 600086; omega, by show 400000 + 6 * (k + 1) ≤ 7301442; omega⟩ (fun τ648 hr648 => ?_)
  refine zx_if_lt (tgt := 694) (by first | exact zlq_r _ _ | (unfold zr; omega)) dL_law_651 (by decide) (fun h651 => ?_) (fun h651 => ?_)
  · exfalso; omega
  refine zx_aload dL_law_654 rfl ?_
  have s5 : τ648.1 0 5 = 1 := (hr648.2.1.1 0 (by show ¬ ((30 ≤ 0 ∧ 0 ≤ 49) ∨ (70 ≤ 0 ∧ 0 ≤ 258)); omega) 5).trans hr634.2.2.1
  refine zy_cvR [] (sX9_restore hfl hr648.1 hr648.2.2.2.1 s5) dL_law_656 (by decide) rfl cw_RL_287 okX9_restore rfl (Nat.le_of_ble_eq_true rfl) ⟨Nat.le_of_ble_eq_true rfl, Nat.le_of_ble_eq_true rfl, by show 1000 + (k + 1 + 0) ≤ 600086; omega, by show 400000 + 6 * (k + 1 + 0) ≤ 7301442; omega⟩ (fun τ656 hr656 => ?_)
  have e1 : zEq (bk τ634 50) (bk τ648 50) := zEq_same hr648.2.1 (fun o ho => by show ¬ ((30 ≤ 50 + o ∧ 50 + o ≤ 49) ∨ (70 ≤ 50 + o ∧ 50 + o ≤ 258)); omega)
  have e2 : zEq (bk τ 30) (bk τ656 30) := zEq_tr hr634.2.2.2.1 (zEq_tr e1 hr656.2.2.2.2.1)
  have e3 : zEq (bK τ) (bK τ656) := zEq_tr (pEq_z (tr_q (bk τ 30))) (zEq_tr e2 (pEq_z (tr_p (bk τ656 30))))
  have hWe : WF (bK τ656) := WF_eq e3 hS.2.2.2.1
  have hNe : HN τ656 := by
    have q1 := hr648.2.2.1
    unfold HN at q1 ⊢
    rw [hr656.2.2.1, hr656.2.2.2.1]
    exact ⟨q1.1, by omega⟩
  have ec : τ648.1 62 0 = τ.1 42 0 := (zEq_tr hr634.2.2.2.1 e1).1.2.2.2
  have es : lsum (bK τ656) = lsum (bK τ) := lsum_l (lEq_z hS.2.2.2.1 e3) hS.2.2.2.1
  refine zx_iload dL_law_659 rfl ?_
  refine zx_icmp_ne (tgt := 694) (hr648.1 62 0) hz0 dL_law_661 (by decide) (fun h661 => ?_) (fun h661 => ?_)
  · exact absurd ec h661
  refine zx_aload dL_law_664 rfl ?_
  refine zy_cs [zf 9 0] (sL_sum hfl hr656.1 rfl hWe) dL_law_666 cw_RL_280 okL_sum rfl (Nat.le_of_ble_eq_true rfl) ⟨Nat.le_of_ble_eq_true rfl, Nat.le_of_ble_eq_true rfl, by show 1000 + (k + 1 + 0) ≤ 600086; omega, by show 400000 + 6 * (k + 1 + 0) ≤ 7301442; omega⟩ ?_
  refine zx_lload dL_law_669 rfl ?_
  refine zx_lcmpq dL_law_671 ?_
  refine zx_if_ne (tgt := 694) (by first | exact zlq_r _ _ | (unfold zr; omega)) dL_law_672 (by decide) (fun h672 => ?_) (fun h672 => ?_)
  · exact absurd (by rw [es]; exact zlq_0 _) h672
  refine zx_aload dL_law_675 rfl ?_
  refine zx_bipush dL_law_677 rfl ?_
  refine zx_iconst dL_law_679 ?_
  refine zx_iconst dL_law_680 ?_
  refine zx_iconst dL_law_681 ?_
  refine zy_csHR [zf 9 0, zi 11, zi 0, zi 0, zi 0] (sL_does_undo_f1 hfl hr656.1 rfl hWe hNe hr656.2.2.2.2.2 (by omega)) dL_law_682 cw_RL_231 okL_does rfl (Nat.le_of_ble_eq_true rfl) ⟨Nat.le_of_ble_eq_true rfl, Nat.le_of_ble_eq_true rfl, by show 1000 + (k + 1 + 1) ≤ 600086; omega, by show 400000 + 6 * (k + 1 + 1) ≤ 7301442; omega⟩ (fun τ682 hr682 => ?_)
  refine zx_bipush dL_law_685 rfl ?_
  refine zx_icmp_ne (tgt := 694) (by unfold zr; omega) (by unfold zr; omega) dL_law_687 (by decide) (fun h687 => ?_) (fun h687 => ?_)
  · exact absurd rfl h687
  refine zx_iconst dL_law_690 ?_
  refine zx_goto (tgt := 695) dL_law_691 (by decide) ?_
  exact K _ _ _ (by omega)
set_option maxRecDepth 20000 in
set_option maxHeartbeats 4000000 in
theorem lC {l : Launch} {v : zW} (hfl : l.stackTraces = false) {hh : List (Nat × Nat × Nat × Nat)} {Z : List Frame → Array Value → State → State → Prop} {P Q : Nat} (hSL : zSL v ≤ 260) (hQ : Q ≤ 2) (K : ∀ (ls : List zV) (k : Nat) (τ : zS), k ≤ 50 → zX l v (mL_law hh) (room_1, Z, 1000, 400000) 695 ls [zi 1] k τ) {τ : zS} (hS : LSt ((Q : Nat) : Int) τ) : zX l v (mL_law hh) (room_1, Z, 1000, 400000) 369 [zf 101 0, zi ((P : Nat) : Int), zi ((Q : Nat) : Int), zu, zf 9 0, zu, zu, zu, zu, zu, zu, zu, zu, zu] [] 0 τ := by
  refine lC_0 hfl hSL hQ (fun τ hS => ?_) hS
  refine zx_iconst dL_law_385 ?_
  refine zy_istore [zf 101 0, zi ((P : Nat) : Int), zi ((Q : Nat) : Int), zu, zf 9 0, zi ((0 : Nat) : Int), zu, zu, zu, zu, zu, zu, zu, zu] dL_law_386 (Nat.le_of_ble_eq_true rfl) (Nat.le_of_ble_eq_true rfl) rfl rfl ?_
  refine lC_a hfl hSL hQ (fun k τ hk hS => ?_) 6 0 0 τ (by omega) (by omega) hS (by omega)
  refine zx_iconst dL_law_439 ?_
  refine zy_istore [zf 101 0, zi ((P : Nat) : Int), zi ((Q : Nat) : Int), zu, zf 9 0, zi ((0 : Nat) : Int), zu, zu, zu, zu, zu, zu, zu, zu] dL_law_440 (Nat.le_of_ble_eq_true rfl) (Nat.le_of_ble_eq_true rfl) rfl rfl ?_
  exact lC_b hfl hSL hQ (fun k τ hk hS => lC_e hfl hSL hQ K k τ hk hS) 14 0 k τ (by omega) (by omega) hS (by omega)

