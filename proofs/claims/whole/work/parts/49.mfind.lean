abbrev mX10_findPrinter : zM := (yX10_findPrinter, cX10_findPrinter, 2, (some .int), [])
theorem okX10_findPrinter : zMok mX10_findPrinter 0 := ⟨by decide, by decide, by decide +kernel⟩
theorem dX10_findPrinter_0 : decode cX10_findPrinter 0 = .ok (.aload_n 0, 1) := by decide +kernel
theorem dX10_findPrinter_1 : decode cX10_findPrinter 1 = .ok (.iconst 0, 1) := by decide +kernel
theorem dX10_findPrinter_2 : decode cX10_findPrinter 2 = .ok (.putfield 67, 3) := by decide +kernel
theorem dX10_findPrinter_5 : decode cX10_findPrinter 5 = .ok (.aload_n 0, 1) := by decide +kernel
theorem dX10_findPrinter_6 : decode cX10_findPrinter 6 = .ok (.iconst 0, 1) := by decide +kernel
theorem dX10_findPrinter_7 : decode cX10_findPrinter 7 = .ok (.putfield 227, 3) := by decide +kernel
theorem dX10_findPrinter_10 : decode cX10_findPrinter 10 = .ok (.aload_n 0, 1) := by decide +kernel
theorem dX10_findPrinter_11 : decode cX10_findPrinter 11 = .ok (.invokevirtual 249, 3) := by decide +kernel
theorem dX10_findPrinter_14 : decode cX10_findPrinter 14 = .ok (.istore_n 1, 1) := by decide +kernel
theorem dX10_findPrinter_15 : decode cX10_findPrinter 15 = .ok (.aload_n 0, 1) := by decide +kernel
theorem dX10_findPrinter_16 : decode cX10_findPrinter 16 = .ok (.getfield 233, 3) := by decide +kernel
theorem dX10_findPrinter_19 : decode cX10_findPrinter 19 = .ok (.ifCond .ne 28, 3) := by decide +kernel
theorem dX10_findPrinter_47 : decode cX10_findPrinter 47 = .ok (.iconst (-1), 1) := by decide +kernel
theorem dX10_findPrinter_48 : decode cX10_findPrinter 48 = .ok (.ireturn, 1) := by decide +kernel
theorem dX10_findPrinter_22 : decode cX10_findPrinter 22 = .ok (.aload_n 0, 1) := by decide +kernel
theorem dX10_findPrinter_23 : decode cX10_findPrinter 23 = .ok (.getfield 236, 3) := by decide +kernel
theorem dX10_findPrinter_26 : decode cX10_findPrinter 26 = .ok (.aload_n 0, 1) := by decide +kernel
theorem dX10_findPrinter_27 : decode cX10_findPrinter 27 = .ok (.getfield 61, 3) := by decide +kernel
theorem dX10_findPrinter_30 : decode cX10_findPrinter 30 = .ok (.if_icmp .ne 17, 3) := by decide +kernel
theorem dX10_findPrinter_33 : decode cX10_findPrinter 33 = .ok (.aload_n 0, 1) := by decide +kernel
theorem dX10_findPrinter_34 : decode cX10_findPrinter 34 = .ok (.getfield 61, 3) := by decide +kernel
theorem dX10_findPrinter_37 : decode cX10_findPrinter 37 = .ok (.ifCond .le 10, 3) := by decide +kernel
theorem dX10_findPrinter_40 : decode cX10_findPrinter 40 = .ok (.aload_n 0, 1) := by decide +kernel
theorem dX10_findPrinter_41 : decode cX10_findPrinter 41 = .ok (.invokevirtual 269, 3) := by decide +kernel
theorem dX10_findPrinter_44 : decode cX10_findPrinter 44 = .ok (.goto 4, 3) := by decide +kernel

set_option maxRecDepth 20000 in
set_option maxHeartbeats 2000000 in
theorem sX10_next_r {l : Launch} {w : zW} (hfl : l.stackTraces = false) {σ : zS} {t : Nat → Int} {n : Nat}  (hz : zOK σ) (pT : TM t n σ) (pn : σ.1 261 16 = (n : Int) ∧ n ≤ 1400) (pb0 : 0 ≤ σ.1 261 17 ∧ σ.1 261 17 ≤ 1401) : Sp l w mX10_next 1 0 [zf 10 261] σ (zqv (some (zi (uM σ n (xS t n (σ.1 261 17).toNat)))) (fun τ => zOK τ ∧ MX σ τ ∧ τ.1 261 18 = xS t n (σ.1 261 17).toNat ∧ τ.1 261 19 = xW t n (σ.1 261 17).toNat)) := by
  obtain ⟨Q, hQ⟩ : ∃ Q : zQ, Q = (zqv (some (zi (uM σ n (xS t n (σ.1 261 17).toNat)))) (fun τ => zOK τ ∧ MX σ τ ∧ τ.1 261 18 = xS t n (σ.1 261 17).toNat ∧ τ.1 261 19 = xW t n (σ.1 261 17).toNat)) := ⟨_, rfl⟩
  rw [← hQ]
  refine zx_enter hfl (by decide) rfl 0 rfl ?_
  show zX l w mX10_next (zMQ w 1 0 Q) 0 [zf 10 261] [] 0 σ
  have hi0 : xS t n (σ.1 261 17).toNat ≤ 1401 := by
    have := rnE_le (isSp t) n (σ.1 261 17).toNat
    unfold xS; omega
  have L0 : ∀ (N : Nat) (τ : zS) (p : Nat), (zOK τ) → (MX σ τ) → (τ.1 261 17 = ((p : Nat) : Int)) → (τ.1 261 18 = σ.1 261 18 ∧ τ.1 261 19 = σ.1 261 19) → (τ.1 261 20 = σ.1 261 20 ∧ τ.1 261 21 = σ.1 261 21) → (xS t n (σ.1 261 17).toNat = rnE (isSp t) n p) → (p ≤ 1401) → (1402 - p) < N → zX l w mX10_next (zMQ w 1 0 Q) 0 [zf 10 261] [] 0 τ := by
    intro N
    induction N with
    | zero => intro τ p _ _ _ _ _ _ _ _; exact absurd (by assumption) (Nat.not_lt_zero _)
    | succ N ih0 =>
      intro τ p hz h1 h2 h2b h2c h3 hp hN
      have hTt := TM_e (MX_t h1) pT
      have hn16 : τ.1 261 16 = (n : Int) := (MX_c h1 (by decide)).trans pn.1
      refine zx_aloadN dX10_next_0 rfl rfl ?_
      refine zx_aloadN dX10_next_1 rfl rfl ?_
      refine zy_getI fl_RX10_227 rfl dX10_next_2 rfl ?_
      refine zy_top (b := ((p : Nat) : Int)) (h2) ?_
      refine zy_cv [zi ((p : Nat) : Int)] (sX10_byteAt (n := n) (k := p) hfl hz ⟨hn16, pn.2⟩ (by first | assumption | omega)) dX10_next_5 (by decide) rfl cw_RX10_230 okX10_byteAt rfl (Nat.le_of_ble_eq_true rfl) ⟨Nat.le_of_ble_eq_true rfl, Nat.le_of_ble_eq_true rfl, Nat.le_of_ble_eq_true rfl, Nat.le_of_ble_eq_true rfl⟩ ?_
      refine zx_bipush dX10_next_8 rfl ?_
      refine zx_icmp_ne (tgt := 26) (by first | exact hz _ _ | assumption | exact zr_b _ | exact zcmp_r _ _ | exact uM_z (by assumption) _ _ | (unfold zr at *; omega)) (by first | exact hz _ _ | assumption | exact zr_b _ | exact zcmp_r _ _ | exact uM_z (by assumption) _ _ | (unfold zr at *; omega)) dX10_next_10 (by decide) (fun h10 => ?_) (fun h10 => ?_)
      · have hS : xS t n (σ.1 261 17).toNat = p := by
          rw [h3]; exact rnE_n (fun q => h10 ((uM_sp hTt).mpr q))
        refine zx_aloadN dX10_next_26 rfl rfl ?_
        refine zx_aloadN dX10_next_27 rfl rfl ?_
        refine zy_getI fl_RX10_227 rfl dX10_next_28 rfl ?_
        refine zy_top (b := ((p : Nat) : Int)) (h2) ?_
        refine zx_putI fl_RX10_233 rfl (Or.inl fp_10_18) dX10_next_31 ?_
        refine zx_aloadN dX10_next_34 rfl rfl ?_
        refine zx_iconst dX10_next_35 ?_
        refine zx_putI fl_RX10_236 rfl (Or.inl fp_10_19) dX10_next_36 ?_
        have L39 : ∀ (N : Nat) (υ : zS) (v : Nat), (zOK υ) → (MX σ υ) → (υ.1 261 17 = ((p : Nat) : Int) ∧ υ.1 261 18 = ((p : Nat) : Int) ∧ υ.1 261 19 = ((v : Nat) : Int) ∧ υ.1 261 20 = σ.1 261 20 ∧ υ.1 261 21 = σ.1 261 21) → (rnE (isWd t) n p = rnE (isWd t) n (p + v)) → (p + v ≤ 1401) → (1402 - (p + v)) < N → zX l w mX10_next (zMQ w 1 0 Q) 39 [zf 10 261] [] 0 υ := by
          intro N
          induction N with
          | zero => intro υ v _ _ _ _ _ _; exact absurd (by assumption) (Nat.not_lt_zero _)
          | succ N ih39 =>
            intro υ v hz h4 h5 h6 hw hN
            have hTu := TM_e (MX_t h4) pT
            have hu16 : υ.1 261 16 = (n : Int) := (MX_c h4 (by decide)).trans pn.1
            obtain ⟨u17, u18, u19, u20⟩ := id h5
            refine zx_aloadN dX10_next_39 rfl rfl ?_
            refine zx_aloadN dX10_next_40 rfl rfl ?_
            refine zy_getI fl_RX10_233 rfl dX10_next_41 rfl ?_
            refine zy_top (b := ((p : Nat) : Int)) (u18) ?_
            refine zx_aloadN dX10_next_44 rfl rfl ?_
            refine zy_getI fl_RX10_236 rfl dX10_next_45 rfl ?_
            refine zy_top (b := ((v : Nat) : Int)) (u19) ?_
            refine zx_iadd dX10_next_48 ?_
            refine zy_top (b := ((p + v : Nat) : Int)) (by omega) ?_
            refine zy_cv [zi ((p + v : Nat) : Int)] (sX10_byteAt (n := n) (k := (p + v)) hfl hz ⟨hu16, pn.2⟩ (by first | assumption | omega)) dX10_next_49 (by decide) rfl cw_RX10_230 okX10_byteAt rfl (Nat.le_of_ble_eq_true rfl) ⟨Nat.le_of_ble_eq_true rfl, Nat.le_of_ble_eq_true rfl, Nat.le_of_ble_eq_true rfl, Nat.le_of_ble_eq_true rfl⟩ ?_
            refine zx_i2l (by first | exact hz _ _ | assumption | exact zr_b _ | exact zcmp_r _ _ | exact uM_z (by assumption) _ _ | (unfold zr at *; omega)) dX10_next_52 ?_
            refine zx_ldc2 (a := 97) dX10_next_53 lk_RX10_239 ?_
            refine zx_ldc2 (a := 122) dX10_next_56 lk_RX10_241 ?_
            refine zy_cs [zl (uM υ n (p + v)), zl 97, zl 122] (sX10_in  hfl hz (by first | exact hz _ _ | assumption | exact zr_b _ | exact zcmp_r _ _ | exact uM_z (by assumption) _ _ | (unfold zr at *; omega)) (by first | exact hz _ _ | assumption | exact zr_b _ | exact zcmp_r _ _ | exact uM_z (by assumption) _ _ | (unfold zr at *; omega)) (by first | exact hz _ _ | assumption | exact zr_b _ | exact zcmp_r _ _ | exact uM_z (by assumption) _ _ | (unfold zr at *; omega))) dX10_next_59 cw_RX10_74 okX10_in rfl (Nat.le_of_ble_eq_true rfl) ⟨Nat.le_of_ble_eq_true rfl, Nat.le_of_ble_eq_true rfl, Nat.le_of_ble_eq_true rfl, Nat.le_of_ble_eq_true rfl⟩ ?_
            refine zx_if_eq (tgt := 78) (by first | exact hz _ _ | assumption | exact zr_b _ | exact zcmp_r _ _ | exact uM_z (by assumption) _ _ | (unfold zr at *; omega)) dX10_next_62 (by decide) (fun h62 => ?_) (fun h62 => ?_)
            · have h62 := zb_0.mp h62
              refine zx_aloadN dX10_next_78 rfl rfl ?_
              refine zx_aloadN dX10_next_79 rfl rfl ?_
              refine zy_getI fl_RX10_227 rfl dX10_next_80 rfl ?_
              refine zy_top (b := ((p : Nat) : Int)) (u17) ?_
              refine zy_cv [zi ((p : Nat) : Int)] (sX10_byteAt (n := n) (k := p) hfl hz ⟨hu16, pn.2⟩ (by first | assumption | omega)) dX10_next_83 (by decide) rfl cw_RX10_230 okX10_byteAt rfl (Nat.le_of_ble_eq_true rfl) ⟨Nat.le_of_ble_eq_true rfl, Nat.le_of_ble_eq_true rfl, Nat.le_of_ble_eq_true rfl, Nat.le_of_ble_eq_true rfl⟩ ?_
              refine zx_iret rfl rfl dX10_next_86 ?_
              rw [hQ]
              refine ⟨congrArg (fun z : Int => (Sum.inl (some (zi z)) : Option zV ⊕ String)) ?_, ?_⟩
              · rw [hS]; exact uM_e (MX_t h4)
              have hW : rnE (isWd t) n p = p + v := by
                rw [h6]; exact rnE_n (fun q => h62 ((uM_wd hTu).mpr q))
              refine ⟨hz, h4, u18.trans (by rw [hS]), u19.trans ?_⟩
              unfold xW
              rw [hS, hW]; omega
            · have h62 := zb_n.mp h62
              refine zx_aloadN dX10_next_65 rfl rfl ?_
              refine zx_dup rfl dX10_next_66 ?_
              refine zy_getI fl_RX10_236 rfl dX10_next_67 rfl ?_
              refine zy_top (b := ((v : Nat) : Int)) (u19) ?_
              refine zx_iconst dX10_next_70 ?_
              refine zx_iadd dX10_next_71 ?_
              refine zx_putI fl_RX10_236 rfl (Or.inl fp_10_19) dX10_next_72 ?_
              refine zx_goto (tgt := 39) dX10_next_75 (by decide) ?_
              exact ih39 (zput υ 261 19 (((v : Nat) : Int) + 1)) (v + 1) (zOK_put hz (by first | exact hz _ _ | assumption | exact zr_b _ | exact zcmp_r _ _ | exact uM_z (by assumption) _ _ | (unfold zr at *; omega))) (MX_put (by decide) h4) (by simp only [zput_e]; simp; exact ⟨h5.1, h5.2.1, h5.2.2.2⟩) (by rw [h6, show p + (v + 1) = (p + v) + 1 by omega]; exact rnE_y ((uM_wd hTu).mp (by assumption)).1 ((uM_wd hTu).mp (by assumption)).2) (by have := ((uM_wd (k := p + v) hTu).mp (by assumption)).1; omega) (by omega)
        exact L39 _ (zput (zput τ 261 18 ((p : Nat) : Int)) 261 19 0) 0 (zOK_put (zOK_put hz (by first | exact hz _ _ | assumption | exact zr_b _ | exact zcmp_r _ _ | exact uM_z (by assumption) _ _ | (unfold zr at *; omega))) (by unfold zr; omega)) (MX_put (by decide) (MX_put (by decide) h1)) (by simp only [zput_e]; simp; exact ⟨h2, h2c⟩) rfl (by omega) (Nat.lt_succ_self _)
      · refine zx_aloadN dX10_next_13 rfl rfl ?_
        refine zx_dup rfl dX10_next_14 ?_
        refine zy_getI fl_RX10_227 rfl dX10_next_15 rfl ?_
        refine zy_top (b := ((p : Nat) : Int)) (h2) ?_
        refine zx_iconst dX10_next_18 ?_
        refine zx_iadd dX10_next_19 ?_
        refine zx_putI fl_RX10_227 rfl (Or.inl fp_10_17) dX10_next_20 ?_
        refine zx_goto (tgt := 0) dX10_next_23 (by decide) ?_
        exact ih0 (zput τ 261 17 (((p : Nat) : Int) + 1)) (p + 1) (zOK_put hz (by first | exact hz _ _ | assumption | exact zr_b _ | exact zcmp_r _ _ | exact uM_z (by assumption) _ _ | (unfold zr at *; omega))) (MX_put (by decide) h1) ((zput_s _ _ _ _).trans (by omega)) ⟨(zput_i _ _ _ _ _ (by decide)).trans h2b.1, (zput_i _ _ _ _ _ (by decide)).trans h2b.2⟩ ⟨(zput_i _ _ _ _ _ (by decide)).trans h2c.1, (zput_i _ _ _ _ _ (by decide)).trans h2c.2⟩ (by rw [h3]; exact rnE_y ((uM_sp hTt).mp (by omega)).1 ((uM_sp hTt).mp (by omega)).2) (by have := ((uM_sp (k := p) hTt).mp (by omega)).1; omega) (by omega)
  exact L0 _ σ ((σ.1 261 17).toNat) hz (MX_rf _) (by omega) ⟨rfl, rfl⟩ ⟨rfl, rfl⟩ rfl (by omega) (Nat.lt_succ_self _)
set_option maxRecDepth 20000 in
set_option maxHeartbeats 2000000 in
theorem sX10_isNamed_r {l : Launch} {w : zW} (hfl : l.stackTraces = false) {σ : zS} {D : zBk} {t : Nat → Int} {n : Nat} {p b m : Nat} (hz : zOK σ) (hW : WF D) (hR : Rel D (σ.1 262)) (pT : TM t n σ) (pn : σ.1 261 16 = (n : Int) ∧ n ≤ 1400) (pb : σ.1 261 18 = ((b : Nat) : Int) ∧ σ.1 261 19 = ((m : Nat) : Int) ∧ b + m ≤ n ∧ 1 ≤ m) (pl : ∀ i, i < m → 97 ≤ t (b + i) ∧ t (b + i) ≤ 122) (hp : (p : Int) < D 1 0) : Sp l w mX10_isNamed 1 0 [zf 10 261, zi ((p : Nat) : Int)] σ (zret (zi (zb (m ≤ 6 ∧ D 2 p = pkF (fun i => t (b + i)) m))) σ) := by
  obtain ⟨Q, hQ⟩ : ∃ Q : zQ, Q = (zret (zi (zb (m ≤ 6 ∧ D 2 p = pkF (fun i => t (b + i)) m))) σ) := ⟨_, rfl⟩
  rw [← hQ]
  refine zx_enter hfl (by decide) rfl 2 rfl ?_
  show zX l w mX10_isNamed (zMQ w 1 0 Q) 0 [zf 10 261, zi ((p : Nat) : Int), zu, zu] [] 0 σ
  have hP : 0 ≤ D 1 0 ∧ D 1 0 ≤ 8 := hW.1.1
  have hM : 0 ≤ D 1 7 ∧ D 1 7 ≤ 8 := hW.1.2.1
  have hE : 0 ≤ D 1 10 ∧ D 1 10 ≤ 12 := hW.1.2.2.1
  have hK : 0 ≤ D 12 0 ∧ D 12 0 ≤ 40 := hW.1.2.2.2
  have r0 : σ.1 262 0 = D 1 0 := hR.1.1
  have r1 : σ.1 262 1 = D 1 7 := hR.1.2.1
  have r2 : σ.1 262 2 = D 1 10 := hR.1.2.2.1
  have r3 : σ.1 262 3 = D 12 0 := hR.1.2.2.2
  obtain ⟨nm1, nm2, nm3⟩ := (hR.2.1 p hp).1
  obtain ⟨w18, w19, wb, wm⟩ := pb
  refine zx_iconst dX10_isNamed_0 ?_
  refine zx_bipush dX10_isNamed_1 rfl ?_
  refine zx_iloadN dX10_isNamed_3 rfl rfl ?_
  refine zx_imul dX10_isNamed_4 ?_
  refine zx_iadd dX10_isNamed_5 ?_
  refine zy_top (b := ((4 + 12 * p : Nat) : Int)) (by omega) ?_
  refine zy_istoreN [zf 10 261, zi ((p : Nat) : Int), zi ((4 + 12 * p : Nat) : Int), zu] dX10_isNamed_6 rfl (Nat.le_of_ble_eq_true rfl) (Nat.le_of_ble_eq_true rfl) rfl rfl ?_
  refine zx_aloadN dX10_isNamed_7 rfl rfl ?_
  refine zy_getR (q' := 262) fl_RX10_7 rfl dX10_isNamed_8 rfl ?_
  refine zx_iloadN dX10_isNamed_11 rfl rfl ?_
  refine zy_iald (v := σ.1 262 (4 + 12 * p)) rfl (by decide) (by decide) dX10_isNamed_12 (by omega) (by omega) rfl ?_
  refine zx_aloadN dX10_isNamed_13 rfl rfl ?_
  refine zy_getI fl_RX10_236 rfl dX10_isNamed_14 rfl ?_
  refine zy_top (b := ((m : Nat) : Int)) (w19) ?_
  refine zx_icmp_eq (tgt := 22) (by first | exact hz _ _ | assumption | exact zr_b _ | exact zcmp_r _ _ | exact uM_z (by assumption) _ _ | (unfold zr at *; omega)) (by first | exact hz _ _ | assumption | exact zr_b _ | exact zcmp_r _ _ | exact uM_z (by assumption) _ _ | (unfold zr at *; omega)) dX10_isNamed_17 (by decide) (fun h17 => ?_) (fun h17 => ?_)
  · have m6 : m ≤ 6 := by omega
    refine zx_iconst dX10_isNamed_22 ?_
    refine zy_istoreN [zf 10 261, zi ((p : Nat) : Int), zi ((4 + 12 * p : Nat) : Int), zi 0] dX10_isNamed_23 rfl (Nat.le_of_ble_eq_true rfl) (Nat.le_of_ble_eq_true rfl) rfl rfl ?_
    have L24 : ∀ (N : Nat) (i : Nat), (i ≤ m) → (∀ k, k < i → σ.1 262 (4 + 12 * p + 1 + k) = t (b + k)) → (1402 - i) < N → zX l w mX10_isNamed (zMQ w 1 0 Q) 24 [zf 10 261, zi ((p : Nat) : Int), zi ((4 + 12 * p : Nat) : Int), zi ((i : Nat) : Int)] [] 0 σ := by
      intro N
      induction N with
      | zero => intro i _ _ _; exact absurd (by assumption) (Nat.not_lt_zero _)
      | succ N ih24 =>
        intro i hi hj hN
        refine zx_iloadN dX10_isNamed_24 rfl rfl ?_
        refine zx_aloadN dX10_isNamed_25 rfl rfl ?_
        refine zy_getI fl_RX10_236 rfl dX10_isNamed_26 rfl ?_
        refine zy_top (b := ((m : Nat) : Int)) (w19) ?_
        refine zx_icmp_ge (tgt := 63) (by first | exact hz _ _ | assumption | exact zr_b _ | exact zcmp_r _ _ | exact uM_z (by assumption) _ _ | (unfold zr at *; omega)) (by first | exact hz _ _ | assumption | exact zr_b _ | exact zcmp_r _ _ | exact uM_z (by assumption) _ _ | (unfold zr at *; omega)) dX10_isNamed_29 (by decide) (fun h29 => ?_) (fun h29 => ?_)
        · refine zx_iconst dX10_isNamed_63 ?_
          refine zx_iret rfl rfl dX10_isNamed_64 ?_
          rw [hQ]
          refine ⟨congrArg (fun z : Int => (Sum.inl (some (zi z)) : Option zV ⊕ String)) ?_, by first | rfl | (exfalso; omega)⟩
          first
          | exact (zb_f (fun q => by
              have q2 := q.2
              rw [nm3] at q2
              have e := pkF_inj (by omega) q.1 (fun k hk => nm2 k (by omega)) (fun k hk => pl k hk) q2
              have e1 := e.1
              omega)).symm
          | exact (zb_f (fun q => by
              have q2 := q.2
              rw [nm3] at q2
              have e := pkF_inj (by omega) q.1 (fun k hk => nm2 k (by omega)) (fun k hk => pl k hk) q2
              have e1 := e.2 i (by omega)
              omega)).symm
          | exact (zb_t (show m ≤ 6 ∧ D 2 p = pkF (fun i => t (b + i)) m from ⟨m6, by
              rw [nm3, show (σ.1 262 (4 + 12 * p)).toNat = m by omega]
              exact pkF_cg (fun k hk => hj k (by omega))⟩)).symm
        · refine zx_aloadN dX10_isNamed_32 rfl rfl ?_
          refine zy_getR (q' := 262) fl_RX10_7 rfl dX10_isNamed_33 rfl ?_
          refine zx_iloadN dX10_isNamed_36 rfl rfl ?_
          refine zx_iconst dX10_isNamed_37 ?_
          refine zx_iadd dX10_isNamed_38 ?_
          refine zx_iloadN dX10_isNamed_39 rfl rfl ?_
          refine zx_iadd dX10_isNamed_40 ?_
          refine zy_top (b := ((4 + 12 * p + 1 + i : Nat) : Int)) (by omega) ?_
          refine zy_iald (v := σ.1 262 (4 + 12 * p + 1 + i)) rfl (by decide) (by decide) dX10_isNamed_41 (by omega) (by omega) rfl ?_
          refine zx_aloadN dX10_isNamed_42 rfl rfl ?_
          refine zx_aloadN dX10_isNamed_43 rfl rfl ?_
          refine zy_getI fl_RX10_233 rfl dX10_isNamed_44 rfl ?_
          refine zy_top (b := ((b : Nat) : Int)) (w18) ?_
          refine zx_iloadN dX10_isNamed_47 rfl rfl ?_
          refine zx_iadd dX10_isNamed_48 ?_
          refine zy_top (b := ((b + i : Nat) : Int)) (by omega) ?_
          refine zy_cv [zi ((b + i : Nat) : Int)] (sX10_byteAt (n := n) (k := (b + i)) hfl hz pn (by omega)) dX10_isNamed_49 (by decide) rfl cw_RX10_230 okX10_byteAt rfl (Nat.le_of_ble_eq_true rfl) ⟨Nat.le_of_ble_eq_true rfl, Nat.le_of_ble_eq_true rfl, Nat.le_of_ble_eq_true rfl, Nat.le_of_ble_eq_true rfl⟩ ?_
          have hli := pl i (by omega)
          have hut := uM_t pT (show b + i < n by omega) (by omega)
          refine zx_icmp_eq (tgt := 57) (by first | exact hz _ _ | assumption | exact zr_b _ | exact zcmp_r _ _ | exact uM_z (by assumption) _ _ | (unfold zr at *; omega)) (by first | exact hz _ _ | assumption | exact zr_b _ | exact zcmp_r _ _ | exact uM_z (by assumption) _ _ | (unfold zr at *; omega)) dX10_isNamed_52 (by decide) (fun h52 => ?_) (fun h52 => ?_)
          · refine zy_iinc (b := ((i + 1 : Nat) : Int)) [zf 10 261, zi ((p : Nat) : Int), zi ((4 + 12 * p : Nat) : Int), zi ((i + 1 : Nat) : Int)] dX10_isNamed_57 rfl (by omega) (Nat.le_of_ble_eq_true rfl) rfl rfl ?_
            refine zx_goto (tgt := 24) dX10_isNamed_60 (by decide) ?_
            exact ih24 (i + 1) (by omega) (lt_s hj (by omega)) (by omega)
          · refine zx_iconst dX10_isNamed_55 ?_
            refine zx_iret rfl rfl dX10_isNamed_56 ?_
            rw [hQ]
            refine ⟨congrArg (fun z : Int => (Sum.inl (some (zi z)) : Option zV ⊕ String)) ?_, by first | rfl | (exfalso; omega)⟩
            first
            | exact (zb_f (fun q => by
                have q2 := q.2
                rw [nm3] at q2
                have e := pkF_inj (by omega) q.1 (fun k hk => nm2 k (by omega)) (fun k hk => pl k hk) q2
                have e1 := e.1
                omega)).symm
            | exact (zb_f (fun q => by
                have q2 := q.2
                rw [nm3] at q2
                have e := pkF_inj (by omega) q.1 (fun k hk => nm2 k (by omega)) (fun k hk => pl k hk) q2
                have e1 := e.2 i (by omega)
                omega)).symm
            | exact (zb_t (show m ≤ 6 ∧ D 2 p = pkF (fun i => t (b + i)) m from ⟨m6, by
                rw [nm3, show (σ.1 262 (4 + 12 * p)).toNat = m by omega]
                exact pkF_cg (fun k hk => hj k (by omega))⟩)).symm
    exact L24 _ 0 (by omega) (fun k hk => absurd hk (Nat.not_lt_zero k)) (Nat.lt_succ_self _)
  · refine zx_iconst dX10_isNamed_20 ?_
    refine zx_iret rfl rfl dX10_isNamed_21 ?_
    rw [hQ]
    refine ⟨congrArg (fun z : Int => (Sum.inl (some (zi z)) : Option zV ⊕ String)) ?_, by first | rfl | (exfalso; omega)⟩
    first
    | exact (zb_f (fun q => by
        have q2 := q.2
        rw [nm3] at q2
        have e := pkF_inj (by omega) q.1 (fun k hk => nm2 k (by omega)) (fun k hk => pl k hk) q2
        have e1 := e.1
        omega)).symm
    | exact (zb_f (fun q => by
        have q2 := q.2
        rw [nm3] at q2
        have e := pkF_inj (by omega) q.1 (fun k hk => nm2 k (by omega)) (fun k hk => pl k hk) q2
        have e1 := e.2 i (by omega)
        omega)).symm
    | exact (zb_t (show m ≤ 6 ∧ D 2 p = pkF (fun i => t (b + i)) m from ⟨m6, by
        rw [nm3, show (σ.1 262 (4 + 12 * p)).toNat = m by omega]
        exact pkF_cg (fun k hk => hj k (by omega))⟩)).symm
set_option maxRecDepth 20000 in
set_option maxHeartbeats 2000000 in
theorem sX10_printerHere_r {l : Launch} {w : zW} (hfl : l.stackTraces = false) {σ : zS} {D : zBk} {t : Nat → Int} {n : Nat} {b m : Nat} (hz : zOK σ) (hW : WF D) (hR : Rel D (σ.1 262)) (pT : TM t n σ) (pn : σ.1 261 16 = (n : Int) ∧ n ≤ 1400) (pb : σ.1 261 18 = ((b : Nat) : Int) ∧ σ.1 261 19 = ((m : Nat) : Int) ∧ b + m ≤ n ∧ 1 ≤ m) (pl : ∀ i, i < m → 97 ≤ t (b + i) ∧ t (b + i) ≤ 122) : Sp l w mX10_printerHere 2 0 [zf 10 261] σ (zret (zi (if m ≤ 6 then fz (D 2) (D 1 0) (pkF (fun i => t (b + i)) m) else -1)) σ) := by
  obtain ⟨Q, hQ⟩ : ∃ Q : zQ, Q = (zret (zi (if m ≤ 6 then fz (D 2) (D 1 0) (pkF (fun i => t (b + i)) m) else -1)) σ) := ⟨_, rfl⟩
  rw [← hQ]
  refine zx_enter hfl (by decide) rfl 1 rfl ?_
  show zX l w mX10_printerHere (zMQ w 2 0 Q) 0 [zf 10 261, zu] [] 0 σ
  have hP : 0 ≤ D 1 0 ∧ D 1 0 ≤ 8 := hW.1.1
  have hM : 0 ≤ D 1 7 ∧ D 1 7 ≤ 8 := hW.1.2.1
  have hE : 0 ≤ D 1 10 ∧ D 1 10 ≤ 12 := hW.1.2.2.1
  have hK : 0 ≤ D 12 0 ∧ D 12 0 ≤ 40 := hW.1.2.2.2
  have r0 : σ.1 262 0 = D 1 0 := hR.1.1
  have r1 : σ.1 262 1 = D 1 7 := hR.1.2.1
  have r2 : σ.1 262 2 = D 1 10 := hR.1.2.2.1
  have r3 : σ.1 262 3 = D 12 0 := hR.1.2.2.2
  have hP8 := hW.1.1
  refine zx_iconst dX10_printerHere_0 ?_
  refine zy_istoreN [zf 10 261, zi 0] dX10_printerHere_1 rfl (Nat.le_of_ble_eq_true rfl) (Nat.le_of_ble_eq_true rfl) rfl rfl ?_
  have L2 : ∀ (N : Nat) (i : Nat), ((i : Int) ≤ D 1 0) → (∀ j, j < i → ¬ (m ≤ 6 ∧ D 2 j = pkF (fun i => t (b + i)) m)) → (9 - i) < N → zX l w mX10_printerHere (zMQ w 2 0 Q) 2 [zf 10 261, zi ((i : Nat) : Int)] [] 0 σ := by
    intro N
    induction N with
    | zero => intro i _ _ _; exact absurd (by assumption) (Nat.not_lt_zero _)
    | succ N ih2 =>
      intro i hi_ hj hN
      refine zx_iloadN dX10_printerHere_2 rfl rfl ?_
      refine zx_aloadN dX10_printerHere_3 rfl rfl ?_
      refine zy_getR (q' := 262) fl_RX10_7 rfl dX10_printerHere_4 rfl ?_
      refine zx_iconst dX10_printerHere_7 ?_
      refine zy_iald (v := σ.1 262 0) rfl (by decide) (by decide) dX10_printerHere_8 (by omega) (by omega) rfl ?_
      refine zy_top (b := D 1 0) (hR.1.1) ?_
      refine zx_icmp_ge (tgt := 28) (by first | exact hz _ _ | assumption | exact zr_b _ | exact zcmp_r _ _ | (unfold zr at *; omega)) (by first | exact hz _ _ | assumption | exact zr_b _ | exact zcmp_r _ _ | (unfold zr at *; omega)) dX10_printerHere_9 (by decide) (fun h9 => ?_) (fun h9 => ?_)
      · refine zx_iconst dX10_printerHere_28 ?_
        refine zx_iret rfl rfl dX10_printerHere_29 ?_
        rw [hQ]
        refine ⟨congrArg (fun z : Int => (Sum.inl (some (zi z)) : Option zV ⊕ String)) ?_, by first | rfl | (exfalso; omega)⟩
        by_cases q6 : m ≤ 6
        · rw [if_pos q6]
          unfold fz
          first | exact (zfst_no (fun j hj2 q => hj j (by omega) ⟨q6, q⟩)).symm | exact (zfst_at (by omega) (fun j hj2 q => hj j hj2 ⟨q6, q⟩) h17.2).symm
        · first | exact absurd h17.1 q6 | rw [if_neg q6]
      · refine zx_aloadN dX10_printerHere_12 rfl rfl ?_
        refine zx_iloadN dX10_printerHere_13 rfl rfl ?_
        refine zy_cv [zi ((i : Nat) : Int)] (sX10_isNamed_r (D := D) (p := i) (b := b) (m := m) hfl hz (by first | assumption | omega) (by first | assumption | (refine Rel_put (by decide) ?_; assumption) | (refine Rel_put (by decide) (Rel_put (by decide) ?_); assumption) | (refine Rel_put (by decide) (Rel_put (by decide) (Rel_put (by decide) ?_)); assumption)) (by first | assumption | omega) (by first | assumption | omega) (by first | assumption | omega) (by first | assumption | omega) (by omega)) dX10_printerHere_14 (by decide) rfl cw_RX10_262 okX10_isNamed rfl (Nat.le_of_ble_eq_true rfl) ⟨Nat.le_of_ble_eq_true rfl, Nat.le_of_ble_eq_true rfl, Nat.le_of_ble_eq_true rfl, Nat.le_of_ble_eq_true rfl⟩ ?_
        refine zx_if_eq (tgt := 22) (by first | exact hz _ _ | assumption | exact zr_b _ | exact zcmp_r _ _ | (unfold zr at *; omega)) dX10_printerHere_17 (by decide) (fun h17 => ?_) (fun h17 => ?_)
        · have h17 := zb_0.mp h17
          refine zy_iinc (b := ((i + 1 : Nat) : Int)) [zf 10 261, zi ((i + 1 : Nat) : Int)] dX10_printerHere_22 rfl (by omega) (Nat.le_of_ble_eq_true rfl) rfl rfl ?_
          refine zx_goto (tgt := 2) dX10_printerHere_25 (by decide) ?_
          exact ih2 (i + 1) (by first | assumption | omega) (lt_s hj h17) (by omega)
        · have h17 := zb_n.mp h17
          refine zx_iloadN dX10_printerHere_20 rfl rfl ?_
          refine zx_iret rfl rfl dX10_printerHere_21 ?_
          rw [hQ]
          refine ⟨congrArg (fun z : Int => (Sum.inl (some (zi z)) : Option zV ⊕ String)) ?_, by first | rfl | (exfalso; omega)⟩
          by_cases q6 : m ≤ 6
          · rw [if_pos q6]
            unfold fz
            first | exact (zfst_no (fun j hj2 q => hj j (by omega) ⟨q6, q⟩)).symm | exact (zfst_at (by omega) (fun j hj2 q => hj j hj2 ⟨q6, q⟩) h17.2).symm
          · first | exact absurd h17.1 q6 | rw [if_neg q6]
  exact L2 _ 0 (by first | assumption | omega) (fun k hk => absurd hk (Nat.not_lt_zero k)) (Nat.lt_succ_self _)
set_option maxRecDepth 20000 in
set_option maxHeartbeats 2000000 in
theorem sX10_findPrinter {l : Launch} {w : zW} (hfl : l.stackTraces = false) {σ : zS} {D : zBk} {t : Nat → Int} {n : Nat}  (hz : zOK σ) (hW : WF D) (hR : Rel D (σ.1 262)) (hT : TM t n σ) (hn : σ.1 261 16 = (n : Int) ∧ n ≤ 1400) (hw19 : 0 ≤ σ.1 261 19 ∧ σ.1 261 19 ≤ 1401) : Sp l w mX10_findPrinter 3 0 [zf 10 261] σ (zqv (some (zi (fz (D 2) (D 1 0) (pkv t 0 n)))) (fun τ => zOK τ ∧ mfr σ τ (fun _ => False) (fun i => i = 6 ∨ (17 ≤ i ∧ i ≤ 21)) ∧ τ.1 261 6 = 0 ∧ 0 ≤ τ.1 261 19 ∧ τ.1 261 19 ≤ 1401)) := by
  obtain ⟨Q, hQ⟩ : ∃ Q : zQ, Q = (zqv (some (zi (fz (D 2) (D 1 0) (pkv t 0 n)))) (fun τ => zOK τ ∧ mfr σ τ (fun _ => False) (fun i => i = 6 ∨ (17 ≤ i ∧ i ≤ 21)) ∧ τ.1 261 6 = 0 ∧ 0 ≤ τ.1 261 19 ∧ τ.1 261 19 ≤ 1401)) := ⟨_, rfl⟩
  rw [← hQ]
  refine zx_enter hfl (by decide) rfl 1 rfl ?_
  show zX l w mX10_findPrinter (zMQ w 3 0 Q) 0 [zf 10 261, zu] [] 0 σ
  have hP : 0 ≤ D 1 0 ∧ D 1 0 ≤ 8 := hW.1.1
  have hM : 0 ≤ D 1 7 ∧ D 1 7 ≤ 8 := hW.1.2.1
  have hE : 0 ≤ D 1 10 ∧ D 1 10 ≤ 12 := hW.1.2.2.1
  have hK : 0 ≤ D 12 0 ∧ D 12 0 ≤ 40 := hW.1.2.2.2
  have r0 : σ.1 262 0 = D 1 0 := hR.1.1
  have r1 : σ.1 262 1 = D 1 7 := hR.1.2.1
  have r2 : σ.1 262 2 = D 1 10 := hR.1.2.2.1
  have r3 : σ.1 262 3 = D 12 0 := hR.1.2.2.2
  refine zx_aloadN dX10_findPrinter_0 rfl rfl ?_
  refine zx_iconst dX10_findPrinter_1 ?_
  refine zx_putI fl_RX10_67 rfl (Or.inl fp_10_6) dX10_findPrinter_2 ?_
  refine zx_aloadN dX10_findPrinter_5 rfl rfl ?_
  refine zx_iconst dX10_findPrinter_6 ?_
  refine zx_putI fl_RX10_227 rfl (Or.inl fp_10_17) dX10_findPrinter_7 ?_
  refine zx_aloadN dX10_findPrinter_10 rfl rfl ?_
  refine zy_cvR [] (sX10_next_r  hfl (zOK_put (zOK_put hz (by unfold zr; omega)) (by unfold zr; omega)) (TM_e (fun i => (zput_k _ _ _ _ _ (by decide)).trans (zput_k _ _ _ _ _ (by decide))) hT) (⟨(zput_i _ _ _ _ _ (by decide)).trans ((zput_i _ _ _ _ _ (by decide)).trans hn.1), hn.2⟩) (by rw [zput_s]; omega)) dX10_findPrinter_11 (by decide) rfl cw_RX10_249 okX10_next rfl (Nat.le_of_ble_eq_true rfl) ⟨Nat.le_of_ble_eq_true rfl, Nat.le_of_ble_eq_true rfl, Nat.le_of_ble_eq_true rfl, Nat.le_of_ble_eq_true rfl⟩ (fun τ11 hr11 => ?_)
  have hz11 : zOK τ11 := hr11.1
  have w18 : τ11.1 261 18 = xS t n 0 := by have q := hr11.2.2.1; rw [zput_s] at q; exact q
  have w19 : τ11.1 261 19 = xW t n 0 := by have q := hr11.2.2.2; rw [zput_s] at q; exact q
  have t11 : TM t n τ11 := TM_e (fun i => (MX_t hr11.2.1 i).trans ((zput_k _ _ _ _ _ (by decide)).trans (zput_k _ _ _ _ _ (by decide)))) hT
  have n11 : τ11.1 261 16 = (n : Int) := (MX_c hr11.2.1 (by decide)).trans ((zput_i _ _ _ _ _ (by decide)).trans ((zput_i _ _ _ _ _ (by decide)).trans hn.1))
  have f11 : mfr σ τ11 (fun _ => False) (fun i => i = 6 ∨ (17 ≤ i ∧ i ≤ 21)) := mfr_tr (mfr_put261 (mfr_put261 (mfr_rf σ (fun _ => False) (fun _ => False)))) hr11.2.1 (fun k q => q.elim id id) (fun i q => by rcases q with ((q | q) | q) | q; exact absurd q id; omega; omega; omega)
  have r11 : Rel D (τ11.1 262) := mfr_R f11 (fun q => q) hR
  have c6 : τ11.1 261 6 = 0 := (MX_c hr11.2.1 (by decide)).trans ((zput_i _ _ _ _ _ (by decide)).trans (zput_s _ _ _ _))
  have hxs := (xS_le (t := t) (n := n) (p := 0) (Nat.zero_le _)).2
  have hxw : xW t n 0 ≤ n := by
    have a := rnE_le (isWd t) n (xS t n 0)
    have b := xS_le (t := t) (n := n) (p := 0) (Nat.zero_le _)
    unfold xW; omega
  have hpz : ¬ (xS t n 0 = 0 ∧ xW t n 0 = n ∧ 0 < n) → fz (D 2) (D 1 0) (pkv t 0 n) = -1 := fun q => by
    have e : pkv t 0 n = 0 := by
      refine if_neg (fun r => q ?_)
      have h0 : xS t n 0 = 0 := rnE_n (fun s => by have := r.2 0 (Nat.le_refl _) s.1; unfold isWd at this; have s2 := s.2; unfold isSp at s2; omega)
      refine ⟨h0, ?_, by omega⟩
      unfold xW
      rw [h0]
      have a := rnE_le (isWd t) n 0
      have b := rnE_end (isWd t) n 0
      rcases Nat.lt_or_ge (rnE (isWd t) n 0) n with c | c
      · exact absurd ⟨c, r.2 _ (Nat.zero_le _) c⟩ b
      · omega
    rw [e]
    refine zfst_no (fun j hj s => ?_)
    have hnm := (hR.2.1 j (by have := hW.1.1; omega)).1
    have hp := pkF_p (f := fun k => σ.1 262 (4 + 12 * j + 1 + k)) (n := (σ.1 262 (4 + 12 * j)).toNat) (by have := hnm.1; omega) (by have := hnm.1; omega) (fun k hk => hnm.2.1 k (by omega))
    rw [← hnm.2.2, s] at hp
    omega
  refine zy_istoreN [zf 10 261, zi (uM (zput (zput σ 261 6 0) 261 17 0) n (xS t n ((zput (zput σ 261 6 0) 261 17 0).1 261 17).toNat))] dX10_findPrinter_14 rfl (Nat.le_of_ble_eq_true rfl) (Nat.le_of_ble_eq_true rfl) rfl rfl ?_
  refine zx_aloadN dX10_findPrinter_15 rfl rfl ?_
  refine zy_getI fl_RX10_233 rfl dX10_findPrinter_16 rfl ?_
  refine zy_top (b := ((xS t n 0 : Nat) : Int)) (w18) ?_
  refine zx_if_ne (tgt := 47) (by first | exact hz11 _ _ | assumption | exact zr_b _ | exact zcmp_r _ _ | exact uM_z (by assumption) _ _ | (unfold zr at *; omega)) dX10_findPrinter_19 (by decide) (fun h19 => ?_) (fun h19 => ?_)
  · refine zx_iconst dX10_findPrinter_47 ?_
    refine zx_iret rfl rfl dX10_findPrinter_48 ?_
    rw [hQ]
    refine ⟨congrArg (fun z : Int => (Sum.inl (some (zi z)) : Option zV ⊕ String)) ?_, ?_⟩
    · first
      | exact (hpz (fun q => by omega)).symm
      | (by_cases q6 : n ≤ 6
         · rw [if_pos q6]
           have e : pkv t 0 n = pkF (fun i => t (0 + i)) n := by
             unfold pkv
             rw [if_pos ⟨by omega, fun i _ hi => by have := hlt i hi; rw [Nat.zero_add] at this; exact this⟩]
             rfl
           rw [e]
         · rw [if_neg q6]
           refine Eq.symm (zfst_no (fun j hj s => ?_))
           have e : pkv t 0 n = 0 := if_neg (fun r => q6 (by omega))
           rw [e] at s
           have hnm := (hR.2.1 j (by have := hW.1.1; omega)).1
           have hp := pkF_p (f := fun k => σ.1 262 (4 + 12 * j + 1 + k)) (n := (σ.1 262 (4 + 12 * j)).toNat) (by have := hnm.1; omega) (by have := hnm.1; omega) (fun k hk => hnm.2.1 k (by omega))
           rw [← hnm.2.2, s] at hp
           omega)
    exact ⟨hz11, f11, c6, by rw [w19]; omega, by rw [w19]; omega⟩
  · refine zx_aloadN dX10_findPrinter_22 rfl rfl ?_
    refine zy_getI fl_RX10_236 rfl dX10_findPrinter_23 rfl ?_
    refine zy_top (b := ((xW t n 0 : Nat) : Int)) (w19) ?_
    refine zx_aloadN dX10_findPrinter_26 rfl rfl ?_
    refine zy_getI fl_RX10_61 rfl dX10_findPrinter_27 rfl ?_
    refine zy_top (b := ((n : Nat) : Int)) (n11) ?_
    refine zx_icmp_ne (tgt := 47) (by first | exact hz11 _ _ | assumption | exact zr_b _ | exact zcmp_r _ _ | exact uM_z (by assumption) _ _ | (unfold zr at *; omega)) (by first | exact hz11 _ _ | assumption | exact zr_b _ | exact zcmp_r _ _ | exact uM_z (by assumption) _ _ | (unfold zr at *; omega)) dX10_findPrinter_30 (by decide) (fun h30 => ?_) (fun h30 => ?_)
    · refine zx_iconst dX10_findPrinter_47 ?_
      refine zx_iret rfl rfl dX10_findPrinter_48 ?_
      rw [hQ]
      refine ⟨congrArg (fun z : Int => (Sum.inl (some (zi z)) : Option zV ⊕ String)) ?_, ?_⟩
      · first
        | exact (hpz (fun q => by omega)).symm
        | (by_cases q6 : n ≤ 6
           · rw [if_pos q6]
             have e : pkv t 0 n = pkF (fun i => t (0 + i)) n := by
               unfold pkv
               rw [if_pos ⟨by omega, fun i _ hi => by have := hlt i hi; rw [Nat.zero_add] at this; exact this⟩]
               rfl
             rw [e]
           · rw [if_neg q6]
             refine Eq.symm (zfst_no (fun j hj s => ?_))
             have e : pkv t 0 n = 0 := if_neg (fun r => q6 (by omega))
             rw [e] at s
             have hnm := (hR.2.1 j (by have := hW.1.1; omega)).1
             have hp := pkF_p (f := fun k => σ.1 262 (4 + 12 * j + 1 + k)) (n := (σ.1 262 (4 + 12 * j)).toNat) (by have := hnm.1; omega) (by have := hnm.1; omega) (fun k hk => hnm.2.1 k (by omega))
             rw [← hnm.2.2, s] at hp
             omega)
      exact ⟨hz11, f11, c6, by rw [w19]; omega, by rw [w19]; omega⟩
    · refine zx_aloadN dX10_findPrinter_33 rfl rfl ?_
      refine zy_getI fl_RX10_61 rfl dX10_findPrinter_34 rfl ?_
      refine zy_top (b := ((n : Nat) : Int)) (n11) ?_
      refine zx_if_le (tgt := 47) (by first | exact hz11 _ _ | assumption | exact zr_b _ | exact zcmp_r _ _ | exact uM_z (by assumption) _ _ | (unfold zr at *; omega)) dX10_findPrinter_37 (by decide) (fun h37 => ?_) (fun h37 => ?_)
      · refine zx_iconst dX10_findPrinter_47 ?_
        refine zx_iret rfl rfl dX10_findPrinter_48 ?_
        rw [hQ]
        refine ⟨congrArg (fun z : Int => (Sum.inl (some (zi z)) : Option zV ⊕ String)) ?_, ?_⟩
        · first
          | exact (hpz (fun q => by omega)).symm
          | (by_cases q6 : n ≤ 6
             · rw [if_pos q6]
               have e : pkv t 0 n = pkF (fun i => t (0 + i)) n := by
                 unfold pkv
                 rw [if_pos ⟨by omega, fun i _ hi => by have := hlt i hi; rw [Nat.zero_add] at this; exact this⟩]
                 rfl
               rw [e]
             · rw [if_neg q6]
               refine Eq.symm (zfst_no (fun j hj s => ?_))
               have e : pkv t 0 n = 0 := if_neg (fun r => q6 (by omega))
               rw [e] at s
               have hnm := (hR.2.1 j (by have := hW.1.1; omega)).1
               have hp := pkF_p (f := fun k => σ.1 262 (4 + 12 * j + 1 + k)) (n := (σ.1 262 (4 + 12 * j)).toNat) (by have := hnm.1; omega) (by have := hnm.1; omega) (fun k hk => hnm.2.1 k (by omega))
               rw [← hnm.2.2, s] at hp
               omega)
        exact ⟨hz11, f11, c6, by rw [w19]; omega, by rw [w19]; omega⟩
      · have h00 : xS t n 0 = 0 := by omega
        have hn0 : xW t n 0 = n := by omega
        have hlt : ∀ i, i < n → 97 ≤ t (0 + i) ∧ t (0 + i) ≤ 122 := fun i hi => by
          have e : rnE (isWd t) n 0 = n := by have a := hn0; unfold xW at a; rw [h00] at a; omega
          rw [Nat.zero_add]
          exact (rnE_in (Nat.zero_le i) (by rw [e]; exact hi)).2
        refine zx_aloadN dX10_findPrinter_40 rfl rfl ?_
        refine zy_cv [] (sX10_printerHere_r (D := D) (b := 0) (m := n) hfl hz11 (by first | assumption | omega) r11 t11 ⟨n11, hn.2⟩ ⟨w18.trans (by rw [h00]), w19.trans (by rw [hn0]), by omega, by omega⟩ hlt) dX10_findPrinter_41 (by decide) rfl cw_RX10_269 okX10_printerHere rfl (Nat.le_of_ble_eq_true rfl) ⟨Nat.le_of_ble_eq_true rfl, Nat.le_of_ble_eq_true rfl, Nat.le_of_ble_eq_true rfl, Nat.le_of_ble_eq_true rfl⟩ ?_
        refine zx_goto (tgt := 48) dX10_findPrinter_44 (by decide) ?_
        refine zx_iret rfl rfl dX10_findPrinter_48 ?_
        rw [hQ]
        refine ⟨congrArg (fun z : Int => (Sum.inl (some (zi z)) : Option zV ⊕ String)) ?_, ?_⟩
        · first
          | exact (hpz (fun q => by omega)).symm
          | (by_cases q6 : n ≤ 6
             · rw [if_pos q6]
               have e : pkv t 0 n = pkF (fun i => t (0 + i)) n := by
                 unfold pkv
                 rw [if_pos ⟨by omega, fun i _ hi => by have := hlt i hi; rw [Nat.zero_add] at this; exact this⟩]
                 rfl
               rw [e]
             · rw [if_neg q6]
               refine Eq.symm (zfst_no (fun j hj s => ?_))
               have e : pkv t 0 n = 0 := if_neg (fun r => q6 (by omega))
               rw [e] at s
               have hnm := (hR.2.1 j (by have := hW.1.1; omega)).1
               have hp := pkF_p (f := fun k => σ.1 262 (4 + 12 * j + 1 + k)) (n := (σ.1 262 (4 + 12 * j)).toNat) (by have := hnm.1; omega) (by have := hnm.1; omega) (fun k hk => hnm.2.1 k (by omega))
               rw [← hnm.2.2, s] at hp
               omega)
        exact ⟨hz11, f11, c6, by rw [w19]; omega, by rw [w19]; omega⟩

