abbrev mX6_addText : zM := (yX6_addText, cX6_addText, 3, none, [])
theorem okX6_addText : zMok mX6_addText 1 := ⟨by decide, by decide, by decide +kernel⟩
theorem dX6_addText_0 : decode cX6_addText 0 = .ok (.iconst 0, 1) := by decide +kernel
theorem dX6_addText_1 : decode cX6_addText 1 = .ok (.istore_n 2, 1) := by decide +kernel
theorem dX6_addText_2 : decode cX6_addText 2 = .ok (.iload_n 2, 1) := by decide +kernel
theorem dX6_addText_3 : decode cX6_addText 3 = .ok (.aload_n 1, 1) := by decide +kernel
theorem dX6_addText_4 : decode cX6_addText 4 = .ok (.invokevirtual 38, 3) := by decide +kernel
theorem dX6_addText_7 : decode cX6_addText 7 = .ok (.if_icmp .ge 18, 3) := by decide +kernel
theorem dX6_addText_25 : decode cX6_addText 25 = .ok (.return_, 1) := by decide +kernel
theorem dX6_addText_10 : decode cX6_addText 10 = .ok (.aload_n 0, 1) := by decide +kernel
theorem dX6_addText_11 : decode cX6_addText 11 = .ok (.aload_n 1, 1) := by decide +kernel
theorem dX6_addText_12 : decode cX6_addText 12 = .ok (.iload_n 2, 1) := by decide +kernel
theorem dX6_addText_13 : decode cX6_addText 13 = .ok (.invokevirtual 43, 3) := by decide +kernel
theorem dX6_addText_16 : decode cX6_addText 16 = .ok (.invokevirtual 34, 3) := by decide +kernel
theorem dX6_addText_19 : decode cX6_addText 19 = .ok (.iinc 2 1, 3) := by decide +kernel
theorem dX6_addText_22 : decode cX6_addText 22 = .ok (.goto (-20), 3) := by decide +kernel
/-! whole texts put into both inputs -/
def sbn (j n : Nat) : List Int := (List.range n).map (fun k => ((zsbyt.getD j []).getD k 0).toInt)
theorem sbn_s (j n : Nat) : sbn j (n + 1) = sbn j n ++ [((zsbyt.getD j []).getD n 0).toInt] := by
  unfold sbn
  rw [List.range_succ, List.map_append]; rfl
theorem sbn_l (j n : Nat) : (sbn j n).length = n := by simp [sbn]
def TC (σ : zS) (L : List Int) : Prop := σ.1 1 1 = L.length ∧ ∀ i : Nat, σ.1 2 i = zb8 (L.getD i 0)
theorem txF_a (σ : zS) (n : Nat) (v u : Int) : txF σ (zput (zput σ 2 n v) 1 1 u) := ⟨⟨fun q hq i => (zput_k _ _ _ _ _ (fun e => hq (Or.inl e))).trans (zput_k _ _ _ _ _ (fun e => hq (Or.inr e))), rfl⟩, fun i hi => (zput_i _ _ _ _ _ hi).trans (zput_k _ _ _ _ _ (by decide))⟩
theorem TC_a {σ : zS} {L : List Int} {v : Int} (h : TC σ L) : TC (zput (zput σ 2 (σ.1 1 1).toNat (zb8 v)) 1 1 (σ.1 1 1 + 1)) (L ++ [v]) := by
  have e : (σ.1 1 1).toNat = L.length := by have := h.1; omega
  refine ⟨(zput_s _ _ _ _).trans (by rw [h.1, List.length_append]; rfl), fun i => (zput_k _ _ _ _ _ (by decide)).trans ?_⟩
  rw [zput_e, e]
  by_cases q : i = L.length
  · subst q
    rw [if_pos ⟨rfl, rfl⟩]
    simp [List.getD_eq_getElem?_getD]
  · rw [if_neg (fun r => q r.2), h.2 i]
    congr 1
    rw [List.getD_eq_getElem?_getD, List.getD_eq_getElem?_getD]
    rcases Nat.lt_or_ge i L.length with r | r
    · rw [List.getElem?_append_left r]
    · rw [List.getElem?_eq_none r, List.getElem?_eq_none (by rw [List.length_append]; show L.length + 1 ≤ i; omega)]

set_option maxRecDepth 20000 in
set_option maxHeartbeats 2000000 in
theorem sX6_addByte_x {l : Launch} {w : zW} (hfl : l.stackTraces = false) {σ : zS} {x : Int} (hz : zOK σ) (hx : zr x) (hl : 0 ≤ σ.1 1 1 ∧ σ.1 1 1 < 1400) : Sp l w mX6_addByte 0 0 [zf 6 1, zi x] σ (zrtv (zput (zput σ 2 (σ.1 1 1).toNat (zb8 x)) 1 1 (σ.1 1 1 + 1))) := by
  obtain ⟨Q, hQ⟩ : ∃ Q : zQ, Q = (zrtv (zput (zput σ 2 (σ.1 1 1).toNat (zb8 x)) 1 1 (σ.1 1 1 + 1))) := ⟨_, rfl⟩
  rw [← hQ]
  refine zx_enter hfl (by decide) rfl 0 rfl ?_
  show zX l w mX6_addByte (zMQ w 0 0 Q) 0 [zf 6 1, zi x] [] 0 σ
  refine zx_aloadN dX6_addByte_0 rfl rfl ?_
  refine zy_getI fl_RX6_15 rfl dX6_addByte_1 rfl ?_
  refine zx_if_lt (tgt := 40) (by first | exact hz _ _ | assumption | exact zr_b _ | exact zcmp_r _ _ | (unfold zr at *; omega)) dX6_addByte_4 (by decide) (fun h4 => ?_) (fun h4 => ?_)
  · refine zx_vret rfl dX6_addByte_40 ?_
    rw [hQ]
    exact ⟨rfl, by first | rfl | (exfalso; omega)⟩
  · refine zx_aloadN dX6_addByte_7 rfl rfl ?_
    refine zy_getI fl_RX6_15 rfl dX6_addByte_8 rfl ?_
    refine zx_aloadN dX6_addByte_11 rfl rfl ?_
    refine zy_getR (q' := 2) fl_RX6_9 rfl dX6_addByte_12 rfl ?_
    refine zx_alen (kd := 1) (n := 1400) rfl (by decide) (by decide) (by decide) dX6_addByte_15 ?_
    refine zx_icmp_ge (tgt := 40) (by first | exact hz _ _ | assumption | exact zr_b _ | exact zcmp_r _ _ | (unfold zr at *; omega)) (by first | exact hz _ _ | assumption | exact zr_b _ | exact zcmp_r _ _ | (unfold zr at *; omega)) dX6_addByte_16 (by decide) (fun h16 => ?_) (fun h16 => ?_)
    · refine zx_vret rfl dX6_addByte_40 ?_
      rw [hQ]
      exact ⟨rfl, by first | rfl | (exfalso; omega)⟩
    · refine zx_aloadN dX6_addByte_19 rfl rfl ?_
      refine zy_getR (q' := 2) fl_RX6_9 rfl dX6_addByte_20 rfl ?_
      refine zx_aloadN dX6_addByte_23 rfl rfl ?_
      refine zy_getI fl_RX6_15 rfl dX6_addByte_24 rfl ?_
      refine zx_iloadN dX6_addByte_27 rfl rfl ?_
      refine zx_i2b dX6_addByte_28 ?_
      refine zy_bast (i := (σ.1 1 1).toNat) (u := zb8 x) rfl (by decide) (by decide) dX6_addByte_29 (by omega) (by omega) rfl (zb8_idem _) ?_
      refine zx_aloadN dX6_addByte_30 rfl rfl ?_
      refine zx_dup rfl dX6_addByte_31 ?_
      refine zy_getI (v := σ.1 1 1) fl_RX6_15 rfl dX6_addByte_32 (zput_k _ _ _ _ _ (by omega)) ?_
      refine zx_iconst dX6_addByte_35 ?_
      refine zx_iadd dX6_addByte_36 ?_
      refine zx_putI fl_RX6_15 rfl (Or.inl fp_6_1) dX6_addByte_37 ?_
      refine zx_vret rfl dX6_addByte_40 ?_
      rw [hQ]
      exact ⟨rfl, by first | rfl | (exfalso; omega)⟩
set_option maxRecDepth 20000 in
set_option maxHeartbeats 2000000 in
theorem sX6_addText {l : Launch} {w : zW} (hfl : l.stackTraces = false) {σ : zS} {j : Nat} {L : List Int} (hz : zOK σ) (hL : TC σ L) (hl : L.length + zslen.getD j 0 ≤ 1400) : Sp l w mX6_addText 4 0 [zf 6 1, zf 100 j] σ (zqv (none) (fun τ => zOK τ ∧ txF σ τ ∧ TC τ (L ++ sbn j (zslen.getD j 0)))) := by
  obtain ⟨Q, hQ⟩ : ∃ Q : zQ, Q = (zqv (none) (fun τ => zOK τ ∧ txF σ τ ∧ TC τ (L ++ sbn j (zslen.getD j 0)))) := ⟨_, rfl⟩
  rw [← hQ]
  refine zx_enter hfl (by decide) rfl 1 rfl ?_
  show zX l w mX6_addText (zMQ w 4 0 Q) 0 [zf 6 1, zf 100 j, zu] [] 0 σ
  refine zx_iconst dX6_addText_0 ?_
  refine zy_istoreN [zf 6 1, zf 100 j, zi 0] dX6_addText_1 rfl (Nat.le_of_ble_eq_true rfl) (Nat.le_of_ble_eq_true rfl) rfl rfl ?_
  have L2 : ∀ (N : Nat) (τ : zS) (i : Nat), (zOK τ) → (i ≤ zslen.getD j 0) → (txF σ τ) → (TC τ (L ++ sbn j i)) → (zslen.getD j 0 + 1 - i) < N → zX l w mX6_addText (zMQ w 4 0 Q) 2 [zf 6 1, zf 100 j, zi ((i : Nat) : Int)] [] 0 τ := by
    intro N
    induction N with
    | zero => intro τ i _ _ _ _ _; exact absurd (by assumption) (Nat.not_lt_zero _)
    | succ N ih2 =>
      intro τ i hz hi h1 h2 hN
      have h21 := h2.1
      rw [List.length_append, sbn_l] at h21
      have hzc := zch_lt j i
      refine zx_iloadN dX6_addText_2 rfl rfl ?_
      refine zx_aloadN dX6_addText_3 rfl rfl ?_
      refine zy_str [] (sJ0_length_8abf5  hfl hz ) dX6_addText_4 rfl cw_RX6_38 okJ0_length_8abf5 rfl (Nat.le_of_ble_eq_true rfl) ⟨Nat.le_of_ble_eq_true rfl, Nat.le_of_ble_eq_true rfl, Nat.le_of_ble_eq_true rfl, Nat.le_of_ble_eq_true rfl⟩ ?_
      refine zx_icmp_ge (tgt := 25) (by first | exact hz _ _ | assumption | exact zr_b _ | exact zcmp_r _ _ | exact zsl_r _ | (have := zch_lt j i; unfold zr; omega) | (unfold zr at *; omega)) (by first | exact hz _ _ | assumption | exact zr_b _ | exact zcmp_r _ _ | exact zsl_r _ | (have := zch_lt j i; unfold zr; omega) | (unfold zr at *; omega)) dX6_addText_7 (by decide) (fun h7 => ?_) (fun h7 => ?_)
      · refine zx_vret rfl dX6_addText_25 ?_
        rw [hQ]
        refine ⟨rfl, ?_⟩
        have e : i = zslen.getD j 0 := by omega
        exact ⟨hz, h1, by rw [← e]; exact h2⟩
      · refine zx_aloadN dX6_addText_10 rfl rfl ?_
        refine zx_aloadN dX6_addText_11 rfl rfl ?_
        refine zx_iloadN dX6_addText_12 rfl rfl ?_
        refine zy_str [zi ((i : Nat) : Int)] (sJ0_charAt_5068e  hfl hz (by first | assumption | omega)) dX6_addText_13 rfl cw_RX6_43 okJ0_charAt_5068e rfl (Nat.le_of_ble_eq_true rfl) ⟨Nat.le_of_ble_eq_true rfl, Nat.le_of_ble_eq_true rfl, Nat.le_of_ble_eq_true rfl, Nat.le_of_ble_eq_true rfl⟩ ?_
        refine zy_top (b := ((zsbyt.getD j []).getD i 0).toInt) rfl ?_
        refine zy_cvv [zi (((zsbyt.getD j []).getD i 0).toInt)] (sX6_addByte_x  hfl hz (by first | exact hz _ _ | assumption | exact zr_b _ | exact zcmp_r _ _ | exact zsl_r _ | (have := zch_lt j i; unfold zr; omega) | (unfold zr at *; omega)) (by first | assumption | omega)) dX6_addText_16 (by decide) rfl cw_RX6_34 okX6_addByte rfl (Nat.le_of_ble_eq_true rfl) ⟨Nat.le_of_ble_eq_true rfl, Nat.le_of_ble_eq_true rfl, Nat.le_of_ble_eq_true rfl, Nat.le_of_ble_eq_true rfl⟩ ?_
        refine zy_iinc (b := ((i + 1 : Nat) : Int)) [zf 6 1, zf 100 j, zi ((i + 1 : Nat) : Int)] dX6_addText_19 rfl (by omega) (Nat.le_of_ble_eq_true rfl) rfl rfl ?_
        refine zx_goto (tgt := 2) dX6_addText_22 (by decide) ?_
        exact ih2 (zput (zput τ 2 ((τ.1 1 1).toNat) (zb8 (((zsbyt.getD j []).getD i 0).toInt))) 1 1 (τ.1 1 1 + 1)) (i + 1) (zOK_put (zOK_put hz (zr_b8 _)) (by unfold zr; omega)) (by omega) (txF_tr h1 (txF_a _ _ _ _)) (by rw [sbn_s, ← List.append_assoc]; exact TC_a h2) (by omega)
  exact L2 _ σ 0 hz (by omega) (txF_rf _) (by rw [show sbn j 0 = [] from rfl, List.append_nil]; exact hL) (Nat.lt_succ_self _)

