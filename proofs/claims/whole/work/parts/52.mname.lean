abbrev mX10_newName : zM := (yX10_newName, cX10_newName, 2, none, [])
theorem okX10_newName : zMok mX10_newName 0 := ⟨by decide, by decide, by decide +kernel⟩
theorem dX10_newName_0 : decode cX10_newName 0 = .ok (.aload_n 0, 1) := by decide +kernel
theorem dX10_newName_1 : decode cX10_newName 1 = .ok (.invokevirtual 265, 3) := by decide +kernel
theorem dX10_newName_4 : decode cX10_newName 4 = .ok (.ifCond .ne 4, 3) := by decide +kernel
theorem dX10_newName_8 : decode cX10_newName 8 = .ok (.aload_n 0, 1) := by decide +kernel
theorem dX10_newName_9 : decode cX10_newName 9 = .ok (.aload_n 0, 1) := by decide +kernel
theorem dX10_newName_10 : decode cX10_newName 10 = .ok (.invokevirtual 269, 3) := by decide +kernel
theorem dX10_newName_13 : decode cX10_newName 13 = .ok (.iconst (-1), 1) := by decide +kernel
theorem dX10_newName_14 : decode cX10_newName 14 = .ok (.if_icmp .ne 7, 3) := by decide +kernel
theorem dX10_newName_21 : decode cX10_newName 21 = .ok (.iconst 0, 1) := by decide +kernel
theorem dX10_newName_22 : decode cX10_newName 22 = .ok (.iconst 3, 1) := by decide +kernel
theorem dX10_newName_23 : decode cX10_newName 23 = .ok (.invokevirtual 252, 3) := by decide +kernel
theorem dX10_newName_26 : decode cX10_newName 26 = .ok (.aload_n 0, 1) := by decide +kernel
theorem dX10_newName_27 : decode cX10_newName 27 = .ok (.getfield 243, 3) := by decide +kernel
theorem dX10_newName_30 : decode cX10_newName 30 = .ok (.ifCond .eq 4, 3) := by decide +kernel
theorem dX10_newName_34 : decode cX10_newName 34 = .ok (.aload_n 0, 1) := by decide +kernel
theorem dX10_newName_35 : decode cX10_newName 35 = .ok (.aload_n 0, 1) := by decide +kernel
theorem dX10_newName_36 : decode cX10_newName 36 = .ok (.getfield 7, 3) := by decide +kernel
theorem dX10_newName_39 : decode cX10_newName 39 = .ok (.iconst 0, 1) := by decide +kernel
theorem dX10_newName_40 : decode cX10_newName 40 = .ok (.iaload, 1) := by decide +kernel
theorem dX10_newName_41 : decode cX10_newName 41 = .ok (.iconst 0, 1) := by decide +kernel
theorem dX10_newName_42 : decode cX10_newName 42 = .ok (.aload_n 0, 1) := by decide +kernel
theorem dX10_newName_43 : decode cX10_newName 43 = .ok (.getfield 236, 3) := by decide +kernel
theorem dX10_newName_46 : decode cX10_newName 46 = .ok (.invokevirtual 98, 3) := by decide +kernel
theorem dX10_newName_49 : decode cX10_newName 49 = .ok (.iconst 0, 1) := by decide +kernel
theorem dX10_newName_50 : decode cX10_newName 50 = .ok (.istore_n 1, 1) := by decide +kernel
theorem dX10_newName_51 : decode cX10_newName 51 = .ok (.iload_n 1, 1) := by decide +kernel
theorem dX10_newName_52 : decode cX10_newName 52 = .ok (.aload_n 0, 1) := by decide +kernel
theorem dX10_newName_53 : decode cX10_newName 53 = .ok (.getfield 236, 3) := by decide +kernel
theorem dX10_newName_56 : decode cX10_newName 56 = .ok (.if_icmp .ge 32, 3) := by decide +kernel
theorem dX10_newName_88 : decode cX10_newName 88 = .ok (.aload_n 0, 1) := by decide +kernel
theorem dX10_newName_89 : decode cX10_newName 89 = .ok (.invokevirtual 272, 3) := by decide +kernel
theorem dX10_newName_92 : decode cX10_newName 92 = .ok (.return_, 1) := by decide +kernel
theorem dX10_newName_59 : decode cX10_newName 59 = .ok (.aload_n 0, 1) := by decide +kernel
theorem dX10_newName_60 : decode cX10_newName 60 = .ok (.aload_n 0, 1) := by decide +kernel
theorem dX10_newName_61 : decode cX10_newName 61 = .ok (.getfield 7, 3) := by decide +kernel
theorem dX10_newName_64 : decode cX10_newName 64 = .ok (.iconst 0, 1) := by decide +kernel
theorem dX10_newName_65 : decode cX10_newName 65 = .ok (.iaload, 1) := by decide +kernel
theorem dX10_newName_66 : decode cX10_newName 66 = .ok (.iconst 1, 1) := by decide +kernel
theorem dX10_newName_67 : decode cX10_newName 67 = .ok (.iload_n 1, 1) := by decide +kernel
theorem dX10_newName_68 : decode cX10_newName 68 = .ok (.iadd, 1) := by decide +kernel
theorem dX10_newName_69 : decode cX10_newName 69 = .ok (.aload_n 0, 1) := by decide +kernel
theorem dX10_newName_70 : decode cX10_newName 70 = .ok (.aload_n 0, 1) := by decide +kernel
theorem dX10_newName_71 : decode cX10_newName 71 = .ok (.getfield 233, 3) := by decide +kernel
theorem dX10_newName_74 : decode cX10_newName 74 = .ok (.iload_n 1, 1) := by decide +kernel
theorem dX10_newName_75 : decode cX10_newName 75 = .ok (.iadd, 1) := by decide +kernel
theorem dX10_newName_76 : decode cX10_newName 76 = .ok (.invokevirtual 230, 3) := by decide +kernel
theorem dX10_newName_79 : decode cX10_newName 79 = .ok (.invokevirtual 98, 3) := by decide +kernel
theorem dX10_newName_82 : decode cX10_newName 82 = .ok (.iinc 1 1, 3) := by decide +kernel
theorem dX10_newName_85 : decode cX10_newName 85 = .ok (.goto (-34), 3) := by decide +kernel
theorem dX10_newName_33 : decode cX10_newName 33 = .ok (.return_, 1) := by decide +kernel
theorem dX10_newName_17 : decode cX10_newName 17 = .ok (.iconst 1, 1) := by decide +kernel
theorem dX10_newName_18 : decode cX10_newName 18 = .ok (.goto 4, 3) := by decide +kernel
theorem dX10_newName_7 : decode cX10_newName 7 = .ok (.return_, 1) := by decide +kernel

theorem PN_r {t : Nat → Int} {n : Nat} {S : zP} {σ τ : zS} (h : PN t n S σ) (m : mfr σ τ (fun k => k = 262) (fun _ => False)) : PN t n S τ := by
  refine ⟨PM_r h.1 (mfr_mo m (fun _ q => q) (fun _ q => absurd q id)), ?_⟩
  rw [m.2.1 17 (fun q => q), m.2.1 18 (fun q => q), m.2.1 19 (fun q => q)]; exact h.2

set_option maxRecDepth 20000 in
set_option maxHeartbeats 2000000 in
theorem sX10_newName {l : Launch} {w : zW} (hfl : l.stackTraces = false) {σ : zS} {D : zBk} {t : Nat → Int} {n : Nat} {S : zP}  (hz : zOK σ) (hW : WF D) (hR : Rel D (σ.1 262)) (hU : PM t n S σ) (hP7 : D 1 0 < 8) : Sp l w mX10_newName 3 0 [zf 10 261] σ (zqv (none) (fun τ => zOK τ ∧ ML σ τ ∧ PM t n (pNew t n (D 2) (D 1 0) S) τ ∧ (∀ i, (i < 4 + 12 * (D 1 0).toNat ∨ 4 + 12 * (D 1 0).toNat + 6 < i) → τ.1 262 i = σ.1 262 i) ∧ ((pNew t n (D 2) (D 1 0) S).2.1 = 0 → (1 ≤ xW t n S.1 ∧ xW t n S.1 ≤ 6) ∧ τ.1 262 (4 + 12 * (D 1 0).toNat) = ((xW t n S.1 : Nat) : Int) ∧ ∀ i, i < xW t n S.1 → τ.1 262 (4 + 12 * (D 1 0).toNat + 1 + i) = t (xS t n S.1 + i)))) := by
  obtain ⟨Q, hQ⟩ : ∃ Q : zQ, Q = (zqv (none) (fun τ => zOK τ ∧ ML σ τ ∧ PM t n (pNew t n (D 2) (D 1 0) S) τ ∧ (∀ i, (i < 4 + 12 * (D 1 0).toNat ∨ 4 + 12 * (D 1 0).toNat + 6 < i) → τ.1 262 i = σ.1 262 i) ∧ ((pNew t n (D 2) (D 1 0) S).2.1 = 0 → (1 ≤ xW t n S.1 ∧ xW t n S.1 ≤ 6) ∧ τ.1 262 (4 + 12 * (D 1 0).toNat) = ((xW t n S.1 : Nat) : Int) ∧ ∀ i, i < xW t n S.1 → τ.1 262 (4 + 12 * (D 1 0).toNat + 1 + i) = t (xS t n S.1 + i)))) := ⟨_, rfl⟩
  rw [← hQ]
  refine zx_enter hfl (by decide) rfl 1 rfl ?_
  show zX l w mX10_newName (zMQ w 3 0 Q) 0 [zf 10 261, zu] [] 0 σ
  have hP : 0 ≤ D 1 0 ∧ D 1 0 ≤ 8 := hW.1.1
  have hM : 0 ≤ D 1 7 ∧ D 1 7 ≤ 8 := hW.1.2.1
  have hE : 0 ≤ D 1 10 ∧ D 1 10 ≤ 12 := hW.1.2.2.1
  have hK : 0 ≤ D 12 0 ∧ D 12 0 ≤ 40 := hW.1.2.2.2
  have r0 : σ.1 262 0 = D 1 0 := hR.1.1
  have r1 : σ.1 262 1 = D 1 7 := hR.1.2.1
  have r2 : σ.1 262 2 = D 1 10 := hR.1.2.2.1
  have r3 : σ.1 262 3 = D 12 0 := hR.1.2.2.2
  have hP8 := hW.1.1
  have hfr := fz_r (D 2) hW.1.1 (nmv t n S)
  refine zx_aloadN dX10_newName_0 rfl rfl ?_
  refine zy_cvR [] (sX10_isName  hfl hz hU) dX10_newName_1 (by decide) rfl cw_RX10_265 okX10_isName rfl (Nat.le_of_ble_eq_true rfl) ⟨Nat.le_of_ble_eq_true rfl, Nat.le_of_ble_eq_true rfl, Nat.le_of_ble_eq_true rfl, Nat.le_of_ble_eq_true rfl⟩ (fun τ1 hr1 => ?_)
  have hz1 : zOK τ1 := hr1.1
  have hR1 := MX_R hr1.2.1 hR
  refine zx_if_ne (tgt := 8) (by first | exact hz1 _ _ | assumption | exact zr_b _ | exact zcmp_r _ _ | exact uM_z (by assumption) _ _ | (unfold zr at *; omega)) dX10_newName_4 (by decide) (fun h4 => ?_) (fun h4 => ?_)
  · have h4 := zb_n.mp h4
    have hq1 : PN t n S τ1 := by have q := hr1.2.2; rw [if_neg h4] at q; exact q
    have z : S.2.1 = 0 := nmv_s h4
    refine zx_aloadN dX10_newName_8 rfl rfl ?_
    refine zx_aloadN dX10_newName_9 rfl rfl ?_
    refine zy_cv [] (sX10_printerHere (D := D) hfl hz1 (by first | assumption | omega) hR1 hq1 z h4) dX10_newName_10 (by decide) rfl cw_RX10_269 okX10_printerHere rfl (Nat.le_of_ble_eq_true rfl) ⟨Nat.le_of_ble_eq_true rfl, Nat.le_of_ble_eq_true rfl, Nat.le_of_ble_eq_true rfl, Nat.le_of_ble_eq_true rfl⟩ ?_
    refine zx_iconst dX10_newName_13 ?_
    refine zx_icmp_ne (tgt := 21) (by first | exact hz1 _ _ | assumption | exact zr_b _ | exact zcmp_r _ _ | exact uM_z (by assumption) _ _ | (unfold zr at *; omega)) (by first | exact hz1 _ _ | assumption | exact zr_b _ | exact zcmp_r _ _ | exact uM_z (by assumption) _ _ | (unfold zr at *; omega)) dX10_newName_14 (by decide) (fun h14 => ?_) (fun h14 => ?_)
    · refine zx_iconst dX10_newName_21 ?_
      refine zy_top (b := zb False) (zb_f (fun q => q)).symm ?_
      refine zx_iconst dX10_newName_22 ?_
      refine zy_cvvR [zi (zb False), zi 3] (sX10_must (A := False) hfl hz1 hq1 (by omega)) dX10_newName_23 (by decide) rfl cw_RX10_252 okX10_must rfl (Nat.le_of_ble_eq_true rfl) ⟨Nat.le_of_ble_eq_true rfl, Nat.le_of_ble_eq_true rfl, Nat.le_of_ble_eq_true rfl, Nat.le_of_ble_eq_true rfl⟩ (fun τ23 hr23 => ?_)
      have hz23 : zOK τ23 := hr23.1
      have hq : PN t n (if ¬ fz (D 2) (D 1 0) (nmv t n S) = -1 then pF t n S 3 else S) τ23 := by
        have q := hr23.2.2.1
        first
        | (rw [if_pos trivial] at q; rw [if_neg (fun r => r (by omega))]; exact q)
        | (rw [if_neg (fun r => r)] at q; rw [if_pos (by omega)]; exact q)
      have m23 : ML σ τ23 := ML_x (ML_rf _) (MX_tr hr1.2.1 hr23.2.1)
      have hR23 : Rel D (τ23.1 262) := MX_R hr23.2.1 hR1
      have e23 := hq.1.2.2.2.1.1
      have c262 : ∀ i, τ23.1 262 i = σ.1 262 i := fun i => (hr23.2.1.1 262 (fun q => q) (by decide) i).trans (hr1.2.1.1 262 (fun q => q) (by decide) i)
      refine zx_aloadN dX10_newName_26 rfl rfl ?_
      refine zy_getI fl_RX10_243 rfl dX10_newName_27 rfl ?_
      refine zx_if_eq (tgt := 34) (by first | exact hz23 _ _ | assumption | exact zr_b _ | exact zcmp_r _ _ | exact uM_z (by assumption) _ _ | (unfold zr at *; omega)) dX10_newName_30 (by decide) (fun h30 => ?_) (fun h30 => ?_)
      · have hf1 : fz (D 2) (D 1 0) (nmv t n S) = -1 := Classical.byContradiction (fun q => by rw [if_pos q] at e23; exact pF_nz (S := S) (c := 3) (by decide) (e23.symm.trans h30))
        have q23 : PN t n S τ23 := by have q := hq; rw [if_neg (fun r => r hf1)] at q; exact q
        obtain ⟨w17, w18, w19⟩ := q23.2 z
        obtain ⟨k1, l6, hnv, hlt⟩ := nmv_w h4
        have w1 := xW_p hU.2.2.1 k1
        have hwb := q23.1.2.2.2.2.1
        have hnn := q23.1.2.1
        refine zx_aloadN dX10_newName_34 rfl rfl ?_
        refine zx_aloadN dX10_newName_35 rfl rfl ?_
        refine zy_getR (q' := 262) fl_RX10_7 rfl dX10_newName_36 rfl ?_
        refine zx_iconst dX10_newName_39 ?_
        refine zy_iald (v := τ23.1 262 0) rfl (by decide) (by decide) dX10_newName_40 (by omega) (by omega) rfl ?_
        refine zy_top (b := (((D 1 0).toNat : Nat) : Int)) (by rw [hR23.1.1]; omega) ?_
        refine zx_iconst dX10_newName_41 ?_
        refine zy_top (b := ((0 : Nat) : Int)) (rfl) ?_
        refine zx_aloadN dX10_newName_42 rfl rfl ?_
        refine zy_getI fl_RX10_236 rfl dX10_newName_43 rfl ?_
        refine zy_top (b := ((xW t n S.1 : Nat) : Int)) (w19) ?_
        refine zy_cvv [zi (((D 1 0).toNat : Nat) : Int), zi ((0 : Nat) : Int), zi ((xW t n S.1 : Nat) : Int)] (sX10_putsPrinter (c := ((D 1 0).toNat)) (o := 0) hfl hz23 (by first | assumption | omega) (by first | assumption | omega) (by first | exact hz23 _ _ | assumption | exact zr_b _ | exact zcmp_r _ _ | exact uM_z (by assumption) _ _ | (unfold zr at *; omega))) dX10_newName_46 (by decide) rfl cw_RX10_98 okX10_putsPrinter rfl (Nat.le_of_ble_eq_true rfl) ⟨Nat.le_of_ble_eq_true rfl, Nat.le_of_ble_eq_true rfl, Nat.le_of_ble_eq_true rfl, Nat.le_of_ble_eq_true rfl⟩ ?_
        refine zx_iconst dX10_newName_49 ?_
        refine zy_istoreN [zf 10 261, zi 0] dX10_newName_50 rfl (Nat.le_of_ble_eq_true rfl) (Nat.le_of_ble_eq_true rfl) rfl rfl ?_
        have L51 : ∀ (N : Nat) (τ : zS) (i : Nat), (zOK τ) → (i ≤ xW t n S.1) → (ML τ23 τ) → (mfr τ23 τ (fun k => k = 262) (fun _ => False)) → (∀ j, (j < 4 + 12 * (D 1 0).toNat ∨ 4 + 12 * (D 1 0).toNat + 6 < j) → τ.1 262 j = τ23.1 262 j) → (τ.1 262 (4 + 12 * (D 1 0).toNat) = ((xW t n S.1 : Nat) : Int) ∧ ∀ j, j < i → τ.1 262 (4 + 12 * (D 1 0).toNat + 1 + j) = t (xS t n S.1 + j)) → (7 - i) < N → zX l w mX10_newName (zMQ w 3 0 Q) 51 [zf 10 261, zi ((i : Nat) : Int)] [] 0 τ := by
          intro N
          induction N with
          | zero => intro τ i _ _ _ _ _ _ _; exact absurd (by assumption) (Nat.not_lt_zero _)
          | succ N ih51 =>
            intro τ i hz hi g1 g2 g3 g4 hN
            have f61 : ∀ j, τ.1 261 j = τ23.1 261 j := fun j => g2.2.1 j (fun q => q)
            have t0 : τ.1 262 0 = D 1 0 := (g3 0 (by omega)).trans hR23.1.1
            have tT : TM t n τ := TM_e (fun j => g2.1 269 (by decide) (by decide) j) q23.1.1
            have tn : τ.1 261 16 = (n : Int) := (f61 16).trans q23.1.2.1.1
            refine zx_iloadN dX10_newName_51 rfl rfl ?_
            refine zx_aloadN dX10_newName_52 rfl rfl ?_
            refine zy_getI fl_RX10_236 rfl dX10_newName_53 rfl ?_
            refine zy_top (b := ((xW t n S.1 : Nat) : Int)) ((f61 19).trans w19) ?_
            refine zx_icmp_ge (tgt := 88) (by first | exact hz _ _ | assumption | exact zr_b _ | exact zcmp_r _ _ | exact uM_z (by assumption) _ _ | (unfold zr at *; omega)) (by first | exact hz _ _ | assumption | exact zr_b _ | exact zcmp_r _ _ | exact uM_z (by assumption) _ _ | (unfold zr at *; omega)) dX10_newName_56 (by decide) (fun h56 => ?_) (fun h56 => ?_)
            · refine zx_aloadN dX10_newName_88 rfl rfl ?_
              refine zy_cvvR [] (sX10_goesPast (S := S) hfl hz (PN_r q23 g2) (fun _ => k1)) dX10_newName_89 (by decide) rfl cw_RX10_272 okX10_goesPast rfl (Nat.le_of_ble_eq_true rfl) ⟨Nat.le_of_ble_eq_true rfl, Nat.le_of_ble_eq_true rfl, Nat.le_of_ble_eq_true rfl, Nat.le_of_ble_eq_true rfl⟩ (fun τ89 hr89 => ?_)
              have hz89 : zOK τ89 := hr89.1
              refine zx_vret rfl dX10_newName_92 ?_
              rw [hQ]
              refine ⟨rfl, ?_⟩
              first
              | (have c : nmv t n S = 0 := by first | exact h4 | exact Classical.not_not.mp h4
                 have q := hr1.2.2
                 rw [if_pos c] at q
                 rw [pNew_1 c]
                 exact ⟨hz89, ML_x (ML_rf _) hr1.2.1, q.1, fun i _ => hr1.2.1.1 262 (fun q => q) (by decide) i, fun q => absurd q (pF_nz (by decide))⟩)
              | (have hf1 : ¬ fz (D 2) (D 1 0) (nmv t n S) = -1 := fun q => by rw [if_neg (fun r => r q)] at e23; exact h30 (e23.trans z)
                 have q := hq
                 rw [if_pos hf1] at q
                 rw [pNew_3 h4 hf1]
                 exact ⟨hz89, m23, q.1, fun i _ => c262 i, fun q => absurd q (pF_nz (by decide))⟩)
              | (have q := hr89.2.2
                 rw [if_pos z] at q
                 rw [pNew_y h4 hf1]
                 have r262 : ∀ i, τ89.1 262 i = τ.1 262 i := fun i => hr89.2.1.1 262 (fun q => q) (by decide) i
                 have ei : i = xW t n S.1 := by omega
                 exact ⟨hz89, ML_x (ML_tr m23 g1) hr89.2.1, q, fun j hj => (r262 j).trans ((g3 j hj).trans (c262 j)), fun _ => ⟨⟨w1, l6⟩, (r262 _).trans g4.1, fun j hj => (r262 _).trans (g4.2 j (by omega))⟩⟩)
            · refine zx_aloadN dX10_newName_59 rfl rfl ?_
              refine zx_aloadN dX10_newName_60 rfl rfl ?_
              refine zy_getR (q' := 262) fl_RX10_7 rfl dX10_newName_61 rfl ?_
              refine zx_iconst dX10_newName_64 ?_
              refine zy_iald (v := τ.1 262 0) rfl (by decide) (by decide) dX10_newName_65 (by omega) (by omega) rfl ?_
              refine zy_top (b := (((D 1 0).toNat : Nat) : Int)) (by rw [t0]; omega) ?_
              refine zx_iconst dX10_newName_66 ?_
              refine zx_iloadN dX10_newName_67 rfl rfl ?_
              refine zx_iadd dX10_newName_68 ?_
              refine zy_top (b := ((1 + i : Nat) : Int)) (by omega) ?_
              refine zx_aloadN dX10_newName_69 rfl rfl ?_
              refine zx_aloadN dX10_newName_70 rfl rfl ?_
              refine zy_getI fl_RX10_233 rfl dX10_newName_71 rfl ?_
              refine zy_top (b := ((xS t n S.1 : Nat) : Int)) ((f61 18).trans w18) ?_
              refine zx_iloadN dX10_newName_74 rfl rfl ?_
              refine zx_iadd dX10_newName_75 ?_
              refine zy_top (b := ((xS t n S.1 + i : Nat) : Int)) (by omega) ?_
              refine zy_cv [zi ((xS t n S.1 + i : Nat) : Int)] (sX10_byteAt (n := n) (k := (xS t n S.1 + i)) hfl hz ⟨tn, hnn.2⟩ (by omega)) dX10_newName_76 (by decide) rfl cw_RX10_230 okX10_byteAt rfl (Nat.le_of_ble_eq_true rfl) ⟨Nat.le_of_ble_eq_true rfl, Nat.le_of_ble_eq_true rfl, Nat.le_of_ble_eq_true rfl, Nat.le_of_ble_eq_true rfl⟩ ?_
              have hli := hlt i (by omega)
              refine zy_top (b := t (xS t n S.1 + i)) (uM_t tT hli.1 (by omega)) ?_
              have hzt : zr (t (xS t n S.1 + i)) := by unfold zr; omega
              refine zy_cvv [zi (((D 1 0).toNat : Nat) : Int), zi ((1 + i : Nat) : Int), zi (t (xS t n S.1 + i))] (sX10_putsPrinter (c := ((D 1 0).toNat)) (o := (1 + i)) hfl hz (by first | assumption | omega) (by first | assumption | omega) (by first | exact hz _ _ | assumption | exact zr_b _ | exact zcmp_r _ _ | exact uM_z (by assumption) _ _ | (unfold zr at *; omega))) dX10_newName_79 (by decide) rfl cw_RX10_98 okX10_putsPrinter rfl (Nat.le_of_ble_eq_true rfl) ⟨Nat.le_of_ble_eq_true rfl, Nat.le_of_ble_eq_true rfl, Nat.le_of_ble_eq_true rfl, Nat.le_of_ble_eq_true rfl⟩ ?_
              refine zy_iinc (b := ((i + 1 : Nat) : Int)) [zf 10 261, zi ((i + 1 : Nat) : Int)] dX10_newName_82 rfl (by omega) (Nat.le_of_ble_eq_true rfl) rfl rfl ?_
              refine zx_goto (tgt := 51) dX10_newName_85 (by decide) ?_
              exact ih51 (zput τ 262 (4 + 12 * ((D 1 0).toNat) + (1 + i)) (t (xS t n S.1 + i))) (i + 1) (zOK_put hz (by first | assumption | exact zr_t _ | (unfold zr; omega))) (by omega) (ML_p g1) (mfr_put g2 rfl (by decide)) (fun j hj => (zput_i _ _ _ _ _ (by omega)).trans (g3 j hj)) ⟨(zput_i _ _ _ _ _ (by omega)).trans g4.1, fun j hj => by
        rcases Nat.lt_or_ge j i with q | q
        · exact (zput_i _ _ _ _ _ (by omega)).trans (g4.2 j q)
        · have ej : j = i := by omega
          subst ej
          rw [show 4 + 12 * (D 1 0).toNat + 1 + j = 4 + 12 * (D 1 0).toNat + (1 + j) by omega]
          exact zput_s _ _ _ _⟩ (by omega)
        exact L51 _ (zput τ23 262 (4 + 12 * ((D 1 0).toNat) + 0) ((xW t n S.1 : Nat) : Int)) 0 (zOK_put hz23 (by first | assumption | exact zr_t _ | (unfold zr; omega))) (by omega) (ML_p (ML_rf _)) (mfr_put (mfr_rf _ _ _) rfl (by decide)) (fun j hj => zput_i _ _ _ _ _ (by omega)) ⟨zput_s _ _ _ _, fun j hj => absurd hj (Nat.not_lt_zero j)⟩ (Nat.lt_succ_self _)
      · refine zx_vret rfl dX10_newName_33 ?_
        rw [hQ]
        refine ⟨rfl, ?_⟩
        first
        | (have c : nmv t n S = 0 := by first | exact h4 | exact Classical.not_not.mp h4
           have q := hr1.2.2
           rw [if_pos c] at q
           rw [pNew_1 c]
           exact ⟨hz23, ML_x (ML_rf _) hr1.2.1, q.1, fun i _ => hr1.2.1.1 262 (fun q => q) (by decide) i, fun q => absurd q (pF_nz (by decide))⟩)
        | (have hf1 : ¬ fz (D 2) (D 1 0) (nmv t n S) = -1 := fun q => by rw [if_neg (fun r => r q)] at e23; exact h30 (e23.trans z)
           have q := hq
           rw [if_pos hf1] at q
           rw [pNew_3 h4 hf1]
           exact ⟨hz23, m23, q.1, fun i _ => c262 i, fun q => absurd q (pF_nz (by decide))⟩)
        | (have q := hr89.2.2
           rw [if_pos z] at q
           rw [pNew_y h4 hf1]
           have r262 : ∀ i, τ89.1 262 i = τ.1 262 i := fun i => hr89.2.1.1 262 (fun q => q) (by decide) i
           have ei : i = xW t n S.1 := by omega
           exact ⟨hz23, ML_x (ML_tr m23 g1) hr89.2.1, q, fun j hj => (r262 j).trans ((g3 j hj).trans (c262 j)), fun _ => ⟨⟨w1, l6⟩, (r262 _).trans g4.1, fun j hj => (r262 _).trans (g4.2 j (by omega))⟩⟩)
    · refine zx_iconst dX10_newName_17 ?_
      refine zx_goto (tgt := 22) dX10_newName_18 (by decide) ?_
      refine zy_top (b := zb True) (zb_t trivial).symm ?_
      refine zx_iconst dX10_newName_22 ?_
      refine zy_cvvR [zi (zb True), zi 3] (sX10_must (A := True) hfl hz1 hq1 (by omega)) dX10_newName_23 (by decide) rfl cw_RX10_252 okX10_must rfl (Nat.le_of_ble_eq_true rfl) ⟨Nat.le_of_ble_eq_true rfl, Nat.le_of_ble_eq_true rfl, Nat.le_of_ble_eq_true rfl, Nat.le_of_ble_eq_true rfl⟩ (fun τ23 hr23 => ?_)
      have hz23 : zOK τ23 := hr23.1
      have hq : PN t n (if ¬ fz (D 2) (D 1 0) (nmv t n S) = -1 then pF t n S 3 else S) τ23 := by
        have q := hr23.2.2.1
        first
        | (rw [if_pos trivial] at q; rw [if_neg (fun r => r (by omega))]; exact q)
        | (rw [if_neg (fun r => r)] at q; rw [if_pos (by omega)]; exact q)
      have m23 : ML σ τ23 := ML_x (ML_rf _) (MX_tr hr1.2.1 hr23.2.1)
      have hR23 : Rel D (τ23.1 262) := MX_R hr23.2.1 hR1
      have e23 := hq.1.2.2.2.1.1
      have c262 : ∀ i, τ23.1 262 i = σ.1 262 i := fun i => (hr23.2.1.1 262 (fun q => q) (by decide) i).trans (hr1.2.1.1 262 (fun q => q) (by decide) i)
      refine zx_aloadN dX10_newName_26 rfl rfl ?_
      refine zy_getI fl_RX10_243 rfl dX10_newName_27 rfl ?_
      refine zx_if_eq (tgt := 34) (by first | exact hz23 _ _ | assumption | exact zr_b _ | exact zcmp_r _ _ | exact uM_z (by assumption) _ _ | (unfold zr at *; omega)) dX10_newName_30 (by decide) (fun h30 => ?_) (fun h30 => ?_)
      · have hf1 : fz (D 2) (D 1 0) (nmv t n S) = -1 := Classical.byContradiction (fun q => by rw [if_pos q] at e23; exact pF_nz (S := S) (c := 3) (by decide) (e23.symm.trans h30))
        have q23 : PN t n S τ23 := by have q := hq; rw [if_neg (fun r => r hf1)] at q; exact q
        obtain ⟨w17, w18, w19⟩ := q23.2 z
        obtain ⟨k1, l6, hnv, hlt⟩ := nmv_w h4
        have w1 := xW_p hU.2.2.1 k1
        have hwb := q23.1.2.2.2.2.1
        have hnn := q23.1.2.1
        refine zx_aloadN dX10_newName_34 rfl rfl ?_
        refine zx_aloadN dX10_newName_35 rfl rfl ?_
        refine zy_getR (q' := 262) fl_RX10_7 rfl dX10_newName_36 rfl ?_
        refine zx_iconst dX10_newName_39 ?_
        refine zy_iald (v := τ23.1 262 0) rfl (by decide) (by decide) dX10_newName_40 (by omega) (by omega) rfl ?_
        refine zy_top (b := (((D 1 0).toNat : Nat) : Int)) (by rw [hR23.1.1]; omega) ?_
        refine zx_iconst dX10_newName_41 ?_
        refine zy_top (b := ((0 : Nat) : Int)) (rfl) ?_
        refine zx_aloadN dX10_newName_42 rfl rfl ?_
        refine zy_getI fl_RX10_236 rfl dX10_newName_43 rfl ?_
        refine zy_top (b := ((xW t n S.1 : Nat) : Int)) (w19) ?_
        refine zy_cvv [zi (((D 1 0).toNat : Nat) : Int), zi ((0 : Nat) : Int), zi ((xW t n S.1 : Nat) : Int)] (sX10_putsPrinter (c := ((D 1 0).toNat)) (o := 0) hfl hz23 (by first | assumption | omega) (by first | assumption | omega) (by first | exact hz23 _ _ | assumption | exact zr_b _ | exact zcmp_r _ _ | exact uM_z (by assumption) _ _ | (unfold zr at *; omega))) dX10_newName_46 (by decide) rfl cw_RX10_98 okX10_putsPrinter rfl (Nat.le_of_ble_eq_true rfl) ⟨Nat.le_of_ble_eq_true rfl, Nat.le_of_ble_eq_true rfl, Nat.le_of_ble_eq_true rfl, Nat.le_of_ble_eq_true rfl⟩ ?_
        refine zx_iconst dX10_newName_49 ?_
        refine zy_istoreN [zf 10 261, zi 0] dX10_newName_50 rfl (Nat.le_of_ble_eq_true rfl) (Nat.le_of_ble_eq_true rfl) rfl rfl ?_
        have L51 : ∀ (N : Nat) (τ : zS) (i : Nat), (zOK τ) → (i ≤ xW t n S.1) → (ML τ23 τ) → (mfr τ23 τ (fun k => k = 262) (fun _ => False)) → (∀ j, (j < 4 + 12 * (D 1 0).toNat ∨ 4 + 12 * (D 1 0).toNat + 6 < j) → τ.1 262 j = τ23.1 262 j) → (τ.1 262 (4 + 12 * (D 1 0).toNat) = ((xW t n S.1 : Nat) : Int) ∧ ∀ j, j < i → τ.1 262 (4 + 12 * (D 1 0).toNat + 1 + j) = t (xS t n S.1 + j)) → (7 - i) < N → zX l w mX10_newName (zMQ w 3 0 Q) 51 [zf 10 261, zi ((i : Nat) : Int)] [] 0 τ := by
          intro N
          induction N with
          | zero => intro τ i _ _ _ _ _ _ _; exact absurd (by assumption) (Nat.not_lt_zero _)
          | succ N ih51 =>
            intro τ i hz hi g1 g2 g3 g4 hN
            have f61 : ∀ j, τ.1 261 j = τ23.1 261 j := fun j => g2.2.1 j (fun q => q)
            have t0 : τ.1 262 0 = D 1 0 := (g3 0 (by omega)).trans hR23.1.1
            have tT : TM t n τ := TM_e (fun j => g2.1 269 (by decide) (by decide) j) q23.1.1
            have tn : τ.1 261 16 = (n : Int) := (f61 16).trans q23.1.2.1.1
            refine zx_iloadN dX10_newName_51 rfl rfl ?_
            refine zx_aloadN dX10_newName_52 rfl rfl ?_
            refine zy_getI fl_RX10_236 rfl dX10_newName_53 rfl ?_
            refine zy_top (b := ((xW t n S.1 : Nat) : Int)) ((f61 19).trans w19) ?_
            refine zx_icmp_ge (tgt := 88) (by first | exact hz _ _ | assumption | exact zr_b _ | exact zcmp_r _ _ | exact uM_z (by assumption) _ _ | (unfold zr at *; omega)) (by first | exact hz _ _ | assumption | exact zr_b _ | exact zcmp_r _ _ | exact uM_z (by assumption) _ _ | (unfold zr at *; omega)) dX10_newName_56 (by decide) (fun h56 => ?_) (fun h56 => ?_)
            · refine zx_aloadN dX10_newName_88 rfl rfl ?_
              refine zy_cvvR [] (sX10_goesPast (S := S) hfl hz (PN_r q23 g2) (fun _ => k1)) dX10_newName_89 (by decide) rfl cw_RX10_272 okX10_goesPast rfl (Nat.le_of_ble_eq_true rfl) ⟨Nat.le_of_ble_eq_true rfl, Nat.le_of_ble_eq_true rfl, Nat.le_of_ble_eq_true rfl, Nat.le_of_ble_eq_true rfl⟩ (fun τ89 hr89 => ?_)
              have hz89 : zOK τ89 := hr89.1
              refine zx_vret rfl dX10_newName_92 ?_
              rw [hQ]
              refine ⟨rfl, ?_⟩
              first
              | (have c : nmv t n S = 0 := by first | exact h4 | exact Classical.not_not.mp h4
                 have q := hr1.2.2
                 rw [if_pos c] at q
                 rw [pNew_1 c]
                 exact ⟨hz89, ML_x (ML_rf _) hr1.2.1, q.1, fun i _ => hr1.2.1.1 262 (fun q => q) (by decide) i, fun q => absurd q (pF_nz (by decide))⟩)
              | (have hf1 : ¬ fz (D 2) (D 1 0) (nmv t n S) = -1 := fun q => by rw [if_neg (fun r => r q)] at e23; exact h30 (e23.trans z)
                 have q := hq
                 rw [if_pos hf1] at q
                 rw [pNew_3 h4 hf1]
                 exact ⟨hz89, m23, q.1, fun i _ => c262 i, fun q => absurd q (pF_nz (by decide))⟩)
              | (have q := hr89.2.2
                 rw [if_pos z] at q
                 rw [pNew_y h4 hf1]
                 have r262 : ∀ i, τ89.1 262 i = τ.1 262 i := fun i => hr89.2.1.1 262 (fun q => q) (by decide) i
                 have ei : i = xW t n S.1 := by omega
                 exact ⟨hz89, ML_x (ML_tr m23 g1) hr89.2.1, q, fun j hj => (r262 j).trans ((g3 j hj).trans (c262 j)), fun _ => ⟨⟨w1, l6⟩, (r262 _).trans g4.1, fun j hj => (r262 _).trans (g4.2 j (by omega))⟩⟩)
            · refine zx_aloadN dX10_newName_59 rfl rfl ?_
              refine zx_aloadN dX10_newName_60 rfl rfl ?_
              refine zy_getR (q' := 262) fl_RX10_7 rfl dX10_newName_61 rfl ?_
              refine zx_iconst dX10_newName_64 ?_
              refine zy_iald (v := τ.1 262 0) rfl (by decide) (by decide) dX10_newName_65 (by omega) (by omega) rfl ?_
              refine zy_top (b := (((D 1 0).toNat : Nat) : Int)) (by rw [t0]; omega) ?_
              refine zx_iconst dX10_newName_66 ?_
              refine zx_iloadN dX10_newName_67 rfl rfl ?_
              refine zx_iadd dX10_newName_68 ?_
              refine zy_top (b := ((1 + i : Nat) : Int)) (by omega) ?_
              refine zx_aloadN dX10_newName_69 rfl rfl ?_
              refine zx_aloadN dX10_newName_70 rfl rfl ?_
              refine zy_getI fl_RX10_233 rfl dX10_newName_71 rfl ?_
              refine zy_top (b := ((xS t n S.1 : Nat) : Int)) ((f61 18).trans w18) ?_
              refine zx_iloadN dX10_newName_74 rfl rfl ?_
              refine zx_iadd dX10_newName_75 ?_
              refine zy_top (b := ((xS t n S.1 + i : Nat) : Int)) (by omega) ?_
              refine zy_cv [zi ((xS t n S.1 + i : Nat) : Int)] (sX10_byteAt (n := n) (k := (xS t n S.1 + i)) hfl hz ⟨tn, hnn.2⟩ (by omega)) dX10_newName_76 (by decide) rfl cw_RX10_230 okX10_byteAt rfl (Nat.le_of_ble_eq_true rfl) ⟨Nat.le_of_ble_eq_true rfl, Nat.le_of_ble_eq_true rfl, Nat.le_of_ble_eq_true rfl, Nat.le_of_ble_eq_true rfl⟩ ?_
              have hli := hlt i (by omega)
              refine zy_top (b := t (xS t n S.1 + i)) (uM_t tT hli.1 (by omega)) ?_
              have hzt : zr (t (xS t n S.1 + i)) := by unfold zr; omega
              refine zy_cvv [zi (((D 1 0).toNat : Nat) : Int), zi ((1 + i : Nat) : Int), zi (t (xS t n S.1 + i))] (sX10_putsPrinter (c := ((D 1 0).toNat)) (o := (1 + i)) hfl hz (by first | assumption | omega) (by first | assumption | omega) (by first | exact hz _ _ | assumption | exact zr_b _ | exact zcmp_r _ _ | exact uM_z (by assumption) _ _ | (unfold zr at *; omega))) dX10_newName_79 (by decide) rfl cw_RX10_98 okX10_putsPrinter rfl (Nat.le_of_ble_eq_true rfl) ⟨Nat.le_of_ble_eq_true rfl, Nat.le_of_ble_eq_true rfl, Nat.le_of_ble_eq_true rfl, Nat.le_of_ble_eq_true rfl⟩ ?_
              refine zy_iinc (b := ((i + 1 : Nat) : Int)) [zf 10 261, zi ((i + 1 : Nat) : Int)] dX10_newName_82 rfl (by omega) (Nat.le_of_ble_eq_true rfl) rfl rfl ?_
              refine zx_goto (tgt := 51) dX10_newName_85 (by decide) ?_
              exact ih51 (zput τ 262 (4 + 12 * ((D 1 0).toNat) + (1 + i)) (t (xS t n S.1 + i))) (i + 1) (zOK_put hz (by first | assumption | exact zr_t _ | (unfold zr; omega))) (by omega) (ML_p g1) (mfr_put g2 rfl (by decide)) (fun j hj => (zput_i _ _ _ _ _ (by omega)).trans (g3 j hj)) ⟨(zput_i _ _ _ _ _ (by omega)).trans g4.1, fun j hj => by
        rcases Nat.lt_or_ge j i with q | q
        · exact (zput_i _ _ _ _ _ (by omega)).trans (g4.2 j q)
        · have ej : j = i := by omega
          subst ej
          rw [show 4 + 12 * (D 1 0).toNat + 1 + j = 4 + 12 * (D 1 0).toNat + (1 + j) by omega]
          exact zput_s _ _ _ _⟩ (by omega)
        exact L51 _ (zput τ23 262 (4 + 12 * ((D 1 0).toNat) + 0) ((xW t n S.1 : Nat) : Int)) 0 (zOK_put hz23 (by first | assumption | exact zr_t _ | (unfold zr; omega))) (by omega) (ML_p (ML_rf _)) (mfr_put (mfr_rf _ _ _) rfl (by decide)) (fun j hj => zput_i _ _ _ _ _ (by omega)) ⟨zput_s _ _ _ _, fun j hj => absurd hj (Nat.not_lt_zero j)⟩ (Nat.lt_succ_self _)
      · refine zx_vret rfl dX10_newName_33 ?_
        rw [hQ]
        refine ⟨rfl, ?_⟩
        first
        | (have c : nmv t n S = 0 := by first | exact h4 | exact Classical.not_not.mp h4
           have q := hr1.2.2
           rw [if_pos c] at q
           rw [pNew_1 c]
           exact ⟨hz23, ML_x (ML_rf _) hr1.2.1, q.1, fun i _ => hr1.2.1.1 262 (fun q => q) (by decide) i, fun q => absurd q (pF_nz (by decide))⟩)
        | (have hf1 : ¬ fz (D 2) (D 1 0) (nmv t n S) = -1 := fun q => by rw [if_neg (fun r => r q)] at e23; exact h30 (e23.trans z)
           have q := hq
           rw [if_pos hf1] at q
           rw [pNew_3 h4 hf1]
           exact ⟨hz23, m23, q.1, fun i _ => c262 i, fun q => absurd q (pF_nz (by decide))⟩)
        | (have q := hr89.2.2
           rw [if_pos z] at q
           rw [pNew_y h4 hf1]
           have r262 : ∀ i, τ89.1 262 i = τ.1 262 i := fun i => hr89.2.1.1 262 (fun q => q) (by decide) i
           have ei : i = xW t n S.1 := by omega
           exact ⟨hz23, ML_x (ML_tr m23 g1) hr89.2.1, q, fun j hj => (r262 j).trans ((g3 j hj).trans (c262 j)), fun _ => ⟨⟨w1, l6⟩, (r262 _).trans g4.1, fun j hj => (r262 _).trans (g4.2 j (by omega))⟩⟩)
  · have h4 := zb_0.mp h4
    refine zx_vret rfl dX10_newName_7 ?_
    rw [hQ]
    refine ⟨rfl, ?_⟩
    first
    | (have c : nmv t n S = 0 := by first | exact h4 | exact Classical.not_not.mp h4
       have q := hr1.2.2
       rw [if_pos c] at q
       rw [pNew_1 c]
       exact ⟨hz1, ML_x (ML_rf _) hr1.2.1, q.1, fun i _ => hr1.2.1.1 262 (fun q => q) (by decide) i, fun q => absurd q (pF_nz (by decide))⟩)
    | (have hf1 : ¬ fz (D 2) (D 1 0) (nmv t n S) = -1 := fun q => by rw [if_neg (fun r => r q)] at e23; exact h30 (e23.trans z)
       have q := hq
       rw [if_pos hf1] at q
       rw [pNew_3 h4 hf1]
       exact ⟨hz1, m23, q.1, fun i _ => c262 i, fun q => absurd q (pF_nz (by decide))⟩)
    | (have q := hr89.2.2
       rw [if_pos z] at q
       rw [pNew_y h4 hf1]
       have r262 : ∀ i, τ89.1 262 i = τ.1 262 i := fun i => hr89.2.1.1 262 (fun q => q) (by decide) i
       have ei : i = xW t n S.1 := by omega
       exact ⟨hz1, ML_x (ML_tr m23 g1) hr89.2.1, q, fun j hj => (r262 j).trans ((g3 j hj).trans (c262 j)), fun _ => ⟨⟨w1, l6⟩, (r262 _).trans g4.1, fun j hj => (r262 _).trans (g4.2 j (by omega))⟩⟩)

