abbrev mX10_editionLine : zM := (yX10_editionLine, cX10_editionLine, 3, none, [])
theorem okX10_editionLine : zMok mX10_editionLine 0 := ⟨by decide, by decide, by decide +kernel⟩
theorem dX10_editionLine_0 : decode cX10_editionLine 0 = .ok (.aload_n 0, 1) := by decide +kernel
theorem dX10_editionLine_1 : decode cX10_editionLine 1 = .ok (.ldc_w 305, 3) := by decide +kernel
theorem dX10_editionLine_4 : decode cX10_editionLine 4 = .ok (.aload_n 0, 1) := by decide +kernel
theorem dX10_editionLine_5 : decode cX10_editionLine 5 = .ok (.getfield 7, 3) := by decide +kernel
theorem dX10_editionLine_8 : decode cX10_editionLine 8 = .ok (.iconst 2, 1) := by decide +kernel
theorem dX10_editionLine_9 : decode cX10_editionLine 9 = .ok (.iaload, 1) := by decide +kernel
theorem dX10_editionLine_10 : decode cX10_editionLine 10 = .ok (.bipush 12, 2) := by decide +kernel
theorem dX10_editionLine_12 : decode cX10_editionLine 12 = .ok (.invokevirtual 287, 3) := by decide +kernel
theorem dX10_editionLine_15 : decode cX10_editionLine 15 = .ok (.ifCond .ne 4, 3) := by decide +kernel
theorem dX10_editionLine_19 : decode cX10_editionLine 19 = .ok (.aload_n 0, 1) := by decide +kernel
theorem dX10_editionLine_20 : decode cX10_editionLine 20 = .ok (.invokevirtual 300, 3) := by decide +kernel
theorem dX10_editionLine_23 : decode cX10_editionLine 23 = .ok (.istore_n 1, 1) := by decide +kernel
theorem dX10_editionLine_24 : decode cX10_editionLine 24 = .ok (.aload_n 0, 1) := by decide +kernel
theorem dX10_editionLine_25 : decode cX10_editionLine 25 = .ok (.invokevirtual 294, 3) := by decide +kernel
theorem dX10_editionLine_28 : decode cX10_editionLine 28 = .ok (.istore_n 2, 1) := by decide +kernel
theorem dX10_editionLine_29 : decode cX10_editionLine 29 = .ok (.aload_n 0, 1) := by decide +kernel
theorem dX10_editionLine_30 : decode cX10_editionLine 30 = .ok (.invokevirtual 297, 3) := by decide +kernel
theorem dX10_editionLine_33 : decode cX10_editionLine 33 = .ok (.aload_n 0, 1) := by decide +kernel
theorem dX10_editionLine_34 : decode cX10_editionLine 34 = .ok (.getfield 243, 3) := by decide +kernel
theorem dX10_editionLine_37 : decode cX10_editionLine 37 = .ok (.ifCond .eq 4, 3) := by decide +kernel
theorem dX10_editionLine_41 : decode cX10_editionLine 41 = .ok (.aload_n 0, 1) := by decide +kernel
theorem dX10_editionLine_42 : decode cX10_editionLine 42 = .ok (.getfield 7, 3) := by decide +kernel
theorem dX10_editionLine_45 : decode cX10_editionLine 45 = .ok (.bipush 116, 2) := by decide +kernel
theorem dX10_editionLine_47 : decode cX10_editionLine 47 = .ok (.iconst 2, 1) := by decide +kernel
theorem dX10_editionLine_48 : decode cX10_editionLine 48 = .ok (.aload_n 0, 1) := by decide +kernel
theorem dX10_editionLine_49 : decode cX10_editionLine 49 = .ok (.getfield 7, 3) := by decide +kernel
theorem dX10_editionLine_52 : decode cX10_editionLine 52 = .ok (.iconst 2, 1) := by decide +kernel
theorem dX10_editionLine_53 : decode cX10_editionLine 53 = .ok (.iaload, 1) := by decide +kernel
theorem dX10_editionLine_54 : decode cX10_editionLine 54 = .ok (.imul, 1) := by decide +kernel
theorem dX10_editionLine_55 : decode cX10_editionLine 55 = .ok (.iadd, 1) := by decide +kernel
theorem dX10_editionLine_56 : decode cX10_editionLine 56 = .ok (.iload_n 1, 1) := by decide +kernel
theorem dX10_editionLine_57 : decode cX10_editionLine 57 = .ok (.iastore, 1) := by decide +kernel
theorem dX10_editionLine_58 : decode cX10_editionLine 58 = .ok (.aload_n 0, 1) := by decide +kernel
theorem dX10_editionLine_59 : decode cX10_editionLine 59 = .ok (.getfield 7, 3) := by decide +kernel
theorem dX10_editionLine_62 : decode cX10_editionLine 62 = .ok (.bipush 116, 2) := by decide +kernel
theorem dX10_editionLine_64 : decode cX10_editionLine 64 = .ok (.iconst 2, 1) := by decide +kernel
theorem dX10_editionLine_65 : decode cX10_editionLine 65 = .ok (.aload_n 0, 1) := by decide +kernel
theorem dX10_editionLine_66 : decode cX10_editionLine 66 = .ok (.getfield 7, 3) := by decide +kernel
theorem dX10_editionLine_69 : decode cX10_editionLine 69 = .ok (.iconst 2, 1) := by decide +kernel
theorem dX10_editionLine_70 : decode cX10_editionLine 70 = .ok (.iaload, 1) := by decide +kernel
theorem dX10_editionLine_71 : decode cX10_editionLine 71 = .ok (.imul, 1) := by decide +kernel
theorem dX10_editionLine_72 : decode cX10_editionLine 72 = .ok (.iadd, 1) := by decide +kernel
theorem dX10_editionLine_73 : decode cX10_editionLine 73 = .ok (.iconst 1, 1) := by decide +kernel
theorem dX10_editionLine_74 : decode cX10_editionLine 74 = .ok (.iadd, 1) := by decide +kernel
theorem dX10_editionLine_75 : decode cX10_editionLine 75 = .ok (.iload_n 2, 1) := by decide +kernel
theorem dX10_editionLine_76 : decode cX10_editionLine 76 = .ok (.iastore, 1) := by decide +kernel
theorem dX10_editionLine_77 : decode cX10_editionLine 77 = .ok (.aload_n 0, 1) := by decide +kernel
theorem dX10_editionLine_78 : decode cX10_editionLine 78 = .ok (.getfield 7, 3) := by decide +kernel
theorem dX10_editionLine_81 : decode cX10_editionLine 81 = .ok (.iconst 2, 1) := by decide +kernel
theorem dX10_editionLine_82 : decode cX10_editionLine 82 = .ok (.dup2, 1) := by decide +kernel
theorem dX10_editionLine_83 : decode cX10_editionLine 83 = .ok (.iaload, 1) := by decide +kernel
theorem dX10_editionLine_84 : decode cX10_editionLine 84 = .ok (.iconst 1, 1) := by decide +kernel
theorem dX10_editionLine_85 : decode cX10_editionLine 85 = .ok (.iadd, 1) := by decide +kernel
theorem dX10_editionLine_86 : decode cX10_editionLine 86 = .ok (.iastore, 1) := by decide +kernel
theorem dX10_editionLine_87 : decode cX10_editionLine 87 = .ok (.return_, 1) := by decide +kernel
theorem dX10_editionLine_40 : decode cX10_editionLine 40 = .ok (.return_, 1) := by decide +kernel
theorem dX10_editionLine_18 : decode cX10_editionLine 18 = .ok (.return_, 1) := by decide +kernel
abbrev mX10_clueLine : zM := (yX10_clueLine, cX10_clueLine, 5, none, [])
theorem okX10_clueLine : zMok mX10_clueLine 0 := ⟨by decide, by decide, by decide +kernel⟩
theorem dX10_clueLine_0 : decode cX10_clueLine 0 = .ok (.aload_n 0, 1) := by decide +kernel
theorem dX10_clueLine_1 : decode cX10_clueLine 1 = .ok (.ldc_w 315, 3) := by decide +kernel
theorem dX10_clueLine_4 : decode cX10_clueLine 4 = .ok (.aload_n 0, 1) := by decide +kernel
theorem dX10_clueLine_5 : decode cX10_clueLine 5 = .ok (.getfield 7, 3) := by decide +kernel
theorem dX10_clueLine_8 : decode cX10_clueLine 8 = .ok (.iconst 3, 1) := by decide +kernel
theorem dX10_clueLine_9 : decode cX10_clueLine 9 = .ok (.iaload, 1) := by decide +kernel
theorem dX10_clueLine_10 : decode cX10_clueLine 10 = .ok (.bipush 40, 2) := by decide +kernel
theorem dX10_clueLine_12 : decode cX10_clueLine 12 = .ok (.invokevirtual 287, 3) := by decide +kernel
theorem dX10_clueLine_15 : decode cX10_clueLine 15 = .ok (.ifCond .ne 4, 3) := by decide +kernel
theorem dX10_clueLine_19 : decode cX10_clueLine 19 = .ok (.aload_n 0, 1) := by decide +kernel
theorem dX10_clueLine_20 : decode cX10_clueLine 20 = .ok (.iconst 1, 1) := by decide +kernel
theorem dX10_clueLine_21 : decode cX10_clueLine 21 = .ok (.sipush 999, 3) := by decide +kernel
theorem dX10_clueLine_24 : decode cX10_clueLine 24 = .ok (.invokevirtual 282, 3) := by decide +kernel
theorem dX10_clueLine_27 : decode cX10_clueLine 27 = .ok (.istore_n 1, 1) := by decide +kernel
theorem dX10_clueLine_28 : decode cX10_clueLine 28 = .ok (.aload_n 0, 1) := by decide +kernel
theorem dX10_clueLine_29 : decode cX10_clueLine 29 = .ok (.invokevirtual 317, 3) := by decide +kernel
theorem dX10_clueLine_32 : decode cX10_clueLine 32 = .ok (.istore_n 2, 1) := by decide +kernel
theorem dX10_clueLine_33 : decode cX10_clueLine 33 = .ok (.aload_n 0, 1) := by decide +kernel
theorem dX10_clueLine_34 : decode cX10_clueLine 34 = .ok (.iload_n 2, 1) := by decide +kernel
theorem dX10_clueLine_35 : decode cX10_clueLine 35 = .ok (.invokevirtual 320, 3) := by decide +kernel
theorem dX10_clueLine_38 : decode cX10_clueLine 38 = .ok (.istore_n 3, 1) := by decide +kernel
theorem dX10_clueLine_39 : decode cX10_clueLine 39 = .ok (.aload_n 0, 1) := by decide +kernel
theorem dX10_clueLine_40 : decode cX10_clueLine 40 = .ok (.iconst 1, 1) := by decide +kernel
theorem dX10_clueLine_41 : decode cX10_clueLine 41 = .ok (.bipush 9, 2) := by decide +kernel
theorem dX10_clueLine_43 : decode cX10_clueLine 43 = .ok (.invokevirtual 282, 3) := by decide +kernel
theorem dX10_clueLine_46 : decode cX10_clueLine 46 = .ok (.istore 4, 2) := by decide +kernel
theorem dX10_clueLine_48 : decode cX10_clueLine 48 = .ok (.aload_n 0, 1) := by decide +kernel
theorem dX10_clueLine_49 : decode cX10_clueLine 49 = .ok (.invokevirtual 297, 3) := by decide +kernel
theorem dX10_clueLine_52 : decode cX10_clueLine 52 = .ok (.aload_n 0, 1) := by decide +kernel
theorem dX10_clueLine_53 : decode cX10_clueLine 53 = .ok (.getfield 243, 3) := by decide +kernel
theorem dX10_clueLine_56 : decode cX10_clueLine 56 = .ok (.ifCond .ne 12, 3) := by decide +kernel
theorem dX10_clueLine_68 : decode cX10_clueLine 68 = .ok (.return_, 1) := by decide +kernel
theorem dX10_clueLine_59 : decode cX10_clueLine 59 = .ok (.aload_n 0, 1) := by decide +kernel
theorem dX10_clueLine_60 : decode cX10_clueLine 60 = .ok (.iload_n 1, 1) := by decide +kernel
theorem dX10_clueLine_61 : decode cX10_clueLine 61 = .ok (.iload_n 2, 1) := by decide +kernel
theorem dX10_clueLine_62 : decode cX10_clueLine 62 = .ok (.iload_n 3, 1) := by decide +kernel
theorem dX10_clueLine_63 : decode cX10_clueLine 63 = .ok (.iload 4, 2) := by decide +kernel
theorem dX10_clueLine_65 : decode cX10_clueLine 65 = .ok (.invokevirtual 198, 3) := by decide +kernel
theorem dX10_clueLine_18 : decode cX10_clueLine 18 = .ok (.return_, 1) := by decide +kernel
abbrev mX10_setLine : zM := (yX10_setLine, cX10_setLine, 5, none, [])
theorem okX10_setLine : zMok mX10_setLine 2 := ⟨by decide, by decide, by decide +kernel⟩
theorem dX10_setLine_0 : decode cX10_setLine 0 = .ok (.aload_n 0, 1) := by decide +kernel
theorem dX10_setLine_1 : decode cX10_setLine 1 = .ok (.invokevirtual 272, 3) := by decide +kernel
theorem dX10_setLine_4 : decode cX10_setLine 4 = .ok (.aload_n 0, 1) := by decide +kernel
theorem dX10_setLine_5 : decode cX10_setLine 5 = .ok (.invokevirtual 300, 3) := by decide +kernel
theorem dX10_setLine_8 : decode cX10_setLine 8 = .ok (.istore_n 3, 1) := by decide +kernel
theorem dX10_setLine_9 : decode cX10_setLine 9 = .ok (.aload_n 0, 1) := by decide +kernel
theorem dX10_setLine_10 : decode cX10_setLine 10 = .ok (.iconst 0, 1) := by decide +kernel
theorem dX10_setLine_11 : decode cX10_setLine 11 = .ok (.iload_n 2, 1) := by decide +kernel
theorem dX10_setLine_12 : decode cX10_setLine 12 = .ok (.iconst 1, 1) := by decide +kernel
theorem dX10_setLine_13 : decode cX10_setLine 13 = .ok (.isub, 1) := by decide +kernel
theorem dX10_setLine_14 : decode cX10_setLine 14 = .ok (.invokevirtual 282, 3) := by decide +kernel
theorem dX10_setLine_17 : decode cX10_setLine 17 = .ok (.istore 4, 2) := by decide +kernel
theorem dX10_setLine_19 : decode cX10_setLine 19 = .ok (.aload_n 0, 1) := by decide +kernel
theorem dX10_setLine_20 : decode cX10_setLine 20 = .ok (.invokevirtual 297, 3) := by decide +kernel
theorem dX10_setLine_23 : decode cX10_setLine 23 = .ok (.aload_n 0, 1) := by decide +kernel
theorem dX10_setLine_24 : decode cX10_setLine 24 = .ok (.getfield 243, 3) := by decide +kernel
theorem dX10_setLine_27 : decode cX10_setLine 27 = .ok (.ifCond .ne 11, 3) := by decide +kernel
theorem dX10_setLine_38 : decode cX10_setLine 38 = .ok (.return_, 1) := by decide +kernel
theorem dX10_setLine_30 : decode cX10_setLine 30 = .ok (.aload_n 0, 1) := by decide +kernel
theorem dX10_setLine_31 : decode cX10_setLine 31 = .ok (.iload_n 3, 1) := by decide +kernel
theorem dX10_setLine_32 : decode cX10_setLine 32 = .ok (.iload_n 1, 1) := by decide +kernel
theorem dX10_setLine_33 : decode cX10_setLine 33 = .ok (.iload 4, 2) := by decide +kernel
theorem dX10_setLine_35 : decode cX10_setLine 35 = .ok (.invokevirtual 211, 3) := by decide +kernel

set_option maxRecDepth 20000 in
set_option maxHeartbeats 2000000 in
theorem sX10_editionLine {l : Launch} {w : zW} (hfl : l.stackTraces = false) {σ : zS} {D : zBk} {t : Nat → Int} {n : Nat} {S : zP}  (hz : zOK σ) (hW : WF D) (hR : Rel D (σ.1 262)) (hU : PM t n S σ) : Sp l w mX10_editionLine 6 0 [zf 10 261] σ (zqv (none) (fun τ => zOK τ ∧ ML σ τ ∧ PM t n (lS t n 4 11 (D 1 10 < 12) D S) τ ∧ Rel (lB t n 4 11 (D 1 10 < 12) D S) (τ.1 262))) := by
  obtain ⟨Q, hQ⟩ : ∃ Q : zQ, Q = (zqv (none) (fun τ => zOK τ ∧ ML σ τ ∧ PM t n (lS t n 4 11 (D 1 10 < 12) D S) τ ∧ Rel (lB t n 4 11 (D 1 10 < 12) D S) (τ.1 262))) := ⟨_, rfl⟩
  rw [← hQ]
  refine zx_enter hfl (by decide) rfl 2 rfl ?_
  show zX l w mX10_editionLine (zMQ w 6 0 Q) 0 [zf 10 261, zu, zu] [] 0 σ
  have hP : 0 ≤ D 1 0 ∧ D 1 0 ≤ 8 := hW.1.1
  have hM : 0 ≤ D 1 7 ∧ D 1 7 ≤ 8 := hW.1.2.1
  have hE : 0 ≤ D 1 10 ∧ D 1 10 ≤ 12 := hW.1.2.2.1
  have hK : 0 ≤ D 12 0 ∧ D 12 0 ≤ 40 := hW.1.2.2.2
  have r0 : σ.1 262 0 = D 1 0 := hR.1.1
  have r1 : σ.1 262 1 = D 1 7 := hR.1.2.1
  have r2 : σ.1 262 2 = D 1 10 := hR.1.2.2.1
  have r3 : σ.1 262 3 = D 12 0 := hR.1.2.2.2
  have hM := hW.1.2.2.1
  refine zx_aloadN dX10_editionLine_0 rfl rfl ?_
  refine zx_ldcSw (List.mem_of_getElem? (i := 43) rfl) (by decide) dX10_editionLine_1 ?_
  refine zx_aloadN dX10_editionLine_4 rfl rfl ?_
  refine zy_getR (q' := 262) fl_RX10_7 rfl dX10_editionLine_5 rfl ?_
  refine zx_iconst dX10_editionLine_8 ?_
  refine zy_iald (v := σ.1 262 2) rfl (by decide) (by decide) dX10_editionLine_9 (by omega) (by omega) rfl ?_
  refine zy_top (b := D 1 10) (hR.1.2.2.1) ?_
  refine zx_bipush dX10_editionLine_10 rfl ?_
  refine zy_cvR [zf 100 11, zi (D 1 10), zi 12] (sX10_starts (j := 11) (a := (D 1 10)) (b := 12) hfl hz hU (by decide) (by first | exact hz _ _ | assumption | exact zr_b _ | exact zcmp_r _ _ | (unfold zr at *; omega)) (by first | exact hz _ _ | assumption | exact zr_b _ | exact zcmp_r _ _ | (unfold zr at *; omega))) dX10_editionLine_12 (by decide) rfl cw_RX10_287 okX10_starts rfl (Nat.le_of_ble_eq_true rfl) ⟨Nat.le_of_ble_eq_true rfl, Nat.le_of_ble_eq_true rfl, Nat.le_of_ble_eq_true rfl, Nat.le_of_ble_eq_true rfl⟩ (fun τ12 hr12 => ?_)
  have hz12 : zOK τ12 := hr12.1
  have m0 : ML σ τ12 := ML_x (ML_rf _) hr12.2.1
  have R0 : Rel D (τ12.1 262) := MX_R hr12.2.1 hR
  have p0 := hr12.2.2
  refine zx_if_ne (tgt := 19) (by first | exact hz12 _ _ | assumption | exact zr_b _ | exact zcmp_r _ _ | (unfold zr at *; omega)) dX10_editionLine_15 (by decide) (fun h15 => ?_) (fun h15 => ?_)
  · have h15 := zb_n.mp h15
    obtain ⟨z, hw, hA, hpw⟩ := pW_s h15
    have pS : PM t n (pN t n S) τ12 := hpw ▸ p0
    refine zx_aloadN dX10_editionLine_19 rfl rfl ?_
    refine zy_cvR [] (sX10_mustBe (D := D) (S := (pN t n S)) hfl hz12 (by first | assumption | omega) R0 pS) dX10_editionLine_20 (by decide) rfl cw_RX10_300 okX10_mustBe rfl (Nat.le_of_ble_eq_true rfl) ⟨Nat.le_of_ble_eq_true rfl, Nat.le_of_ble_eq_true rfl, Nat.le_of_ble_eq_true rfl, Nat.le_of_ble_eq_true rfl⟩ (fun τ20 hr20 => ?_)
    have hz20 : zOK τ20 := hr20.1
    refine zy_top (b := if (o1 t n D (pN t n S)).2.1 = 0 then fz (D 2) (D 1 0) (nmv t n (pN t n S)) else 0) (rfl) ?_
    have p20 : PM t n (o1 t n D (pN t n S)) τ20 := hr20.2.2
    have m20 : ML σ τ20 := ML_x m0 hr20.2.1
    have R20 : Rel D (τ20.1 262) := MX_R hr20.2.1 R0
    refine zy_istoreN [zf 10 261, zi (if (o1 t n D (pN t n S)).2.1 = 0 then fz (D 2) (D 1 0) (nmv t n (pN t n S)) else 0), zu] dX10_editionLine_23 rfl (Nat.le_of_ble_eq_true rfl) (Nat.le_of_ble_eq_true rfl) rfl rfl ?_
    refine zx_aloadN dX10_editionLine_24 rfl rfl ?_
    have hv20 : zr (if (o1 t n D (pN t n S)).2.1 = 0 then fz (D 2) (D 1 0) (nmv t n (pN t n S)) else 0) := by have := fz_r (D 2) hW.1.1 (nmv t n (pN t n S)); have := hW.1.1; unfold zr; split <;> omega
    refine zy_cvR [] (sX10_yearHere (S := (o1 t n D (pN t n S))) hfl hz20 p20) dX10_editionLine_25 (by decide) rfl cw_RX10_294 okX10_yearHere rfl (Nat.le_of_ble_eq_true rfl) ⟨Nat.le_of_ble_eq_true rfl, Nat.le_of_ble_eq_true rfl, Nat.le_of_ble_eq_true rfl, Nat.le_of_ble_eq_true rfl⟩ (fun τ25 hr25 => ?_)
    have hz25 : zOK τ25 := hr25.1
    refine zy_top (b := if (o2 t n D 1450 1999 (pN t n S)).2.1 = 0 then pV t n (o1 t n D (pN t n S)).1 else 1450) (rfl) ?_
    have p25 : PM t n (o2 t n D 1450 1999 (pN t n S)) τ25 := hr25.2.2
    have m25 : ML σ τ25 := ML_x m20 hr25.2.1
    have R25 : Rel D (τ25.1 262) := MX_R hr25.2.1 R20
    refine zy_istoreN [zf 10 261, zi (if (o1 t n D (pN t n S)).2.1 = 0 then fz (D 2) (D 1 0) (nmv t n (pN t n S)) else 0), zi (if (o2 t n D 1450 1999 (pN t n S)).2.1 = 0 then pV t n (o1 t n D (pN t n S)).1 else 1450)] dX10_editionLine_28 rfl (Nat.le_of_ble_eq_true rfl) (Nat.le_of_ble_eq_true rfl) rfl rfl ?_
    refine zx_aloadN dX10_editionLine_29 rfl rfl ?_
    have hv25 : zr (if (o2 t n D 1450 1999 (pN t n S)).2.1 = 0 then pV t n (o1 t n D (pN t n S)).1 else 1450) := by
      split
      · rename_i zz; have := pNum_v (S := o1 t n D (pN t n S)) (lo := 1450) (hi := 1999) zz; unfold zr; omega
      · unfold zr; omega
    refine zy_cvvR [] (sX10_semicolon (S := (o2 t n D 1450 1999 (pN t n S))) hfl hz25 p25) dX10_editionLine_30 (by decide) rfl cw_RX10_297 okX10_semicolon rfl (Nat.le_of_ble_eq_true rfl) ⟨Nat.le_of_ble_eq_true rfl, Nat.le_of_ble_eq_true rfl, Nat.le_of_ble_eq_true rfl, Nat.le_of_ble_eq_true rfl⟩ (fun τ30 hr30 => ?_)
    have hz30 : zOK τ30 := hr30.1
    have p30 : PM t n (o3 t n D 1450 1999 (pN t n S)) τ30 := hr30.2.2
    have m30 : ML σ τ30 := ML_x m25 hr30.2.1
    have R30 : Rel D (τ30.1 262) := MX_R hr30.2.1 R25
    refine zx_aloadN dX10_editionLine_33 rfl rfl ?_
    refine zy_getI fl_RX10_243 rfl dX10_editionLine_34 rfl ?_
    refine zx_if_eq (tgt := 41) (by first | exact hz30 _ _ | assumption | exact zr_b _ | exact zcmp_r _ _ | (unfold zr at *; omega)) dX10_editionLine_37 (by decide) (fun h37 => ?_) (fun h37 => ?_)
    · have z3 : (o3 t n D 1450 1999 (pN t n S)).2.1 = 0 := p30.2.2.2.1.1.symm.trans h37
      have z2 := (pSem_s (t := t) (n := n) (S := o2 t n D 1450 1999 (pN t n S)) z3).1
      have s1 := pNum_s (t := t) (n := n) (S := o1 t n D (pN t n S)) (lo := 1450) (hi := 1999) z2
      have sp := pPrn_s (t := t) (n := n) (S := (pN t n S)) (f := D 2) (P := D 1 0) s1.1
      have hfr := fz_r (D 2) hW.1.1 (nmv t n (pN t n S))
      have hfn := sp.2.2.1
      have enp : (nmP t n D (pN t n S) : Int) = fz (D 2) (D 1 0) (nmv t n (pN t n S)) := by unfold nmP; omega
      have ev20 : (if (o1 t n D (pN t n S)).2.1 = 0 then fz (D 2) (D 1 0) (nmv t n (pN t n S)) else 0) = ((nmP t n D (pN t n S) : Nat) : Int) := (if_pos s1.1).trans enp.symm
      have ev25 : (if (o2 t n D 1450 1999 (pN t n S)).2.1 = 0 then pV t n (o1 t n D (pN t n S)).1 else 1450) = pV t n (o1 t n D (pN t n S)).1 := if_pos z2
      have r1 : τ30.1 262 2 = D 1 10 := R30.1.2.2.1
      refine zx_aloadN dX10_editionLine_41 rfl rfl ?_
      refine zy_getR (q' := 262) fl_RX10_7 rfl dX10_editionLine_42 rfl ?_
      refine zx_bipush dX10_editionLine_45 rfl ?_
      refine zx_iconst dX10_editionLine_47 ?_
      refine zx_aloadN dX10_editionLine_48 rfl rfl ?_
      refine zy_getR (q' := 262) fl_RX10_7 rfl dX10_editionLine_49 rfl ?_
      refine zx_iconst dX10_editionLine_52 ?_
      refine zy_iald (v := τ30.1 262 2) rfl (by decide) (by decide) dX10_editionLine_53 (by omega) (by omega) rfl ?_
      refine zx_imul dX10_editionLine_54 ?_
      refine zx_iadd dX10_editionLine_55 ?_
      refine zy_top (b := ((116 + 2 * (D 1 10).toNat : Nat) : Int)) (by omega) ?_
      refine zx_iloadN dX10_editionLine_56 rfl rfl ?_
      refine zy_top (b := ((nmP t n D (pN t n S) : Nat) : Int)) (ev20) ?_
      refine zy_iast (i := 116 + 2 * (D 1 10).toNat) rfl (by decide) (by decide) dX10_editionLine_57 (by omega) (by omega) rfl ?_
      refine zx_aloadN dX10_editionLine_58 rfl rfl ?_
      refine zy_getR (q' := 262) fl_RX10_7 rfl dX10_editionLine_59 rfl ?_
      refine zx_bipush dX10_editionLine_62 rfl ?_
      refine zx_iconst dX10_editionLine_64 ?_
      refine zx_aloadN dX10_editionLine_65 rfl rfl ?_
      refine zy_getR (q' := 262) fl_RX10_7 rfl dX10_editionLine_66 rfl ?_
      refine zx_iconst dX10_editionLine_69 ?_
      refine zy_iald (v := τ30.1 262 2) rfl (by decide) (by decide) dX10_editionLine_70 (by omega) (by omega) (zput_i _ _ _ _ _ (by omega)) ?_
      refine zx_imul dX10_editionLine_71 ?_
      refine zx_iadd dX10_editionLine_72 ?_
      refine zx_iconst dX10_editionLine_73 ?_
      refine zx_iadd dX10_editionLine_74 ?_
      refine zy_top (b := ((116 + 2 * (D 1 10).toNat + 1 : Nat) : Int)) (by omega) ?_
      refine zx_iloadN dX10_editionLine_75 rfl rfl ?_
      refine zy_top (b := pV t n (o1 t n D (pN t n S)).1) (ev25) ?_
      refine zy_iast (i := 116 + 2 * (D 1 10).toNat + 1) rfl (by decide) (by decide) dX10_editionLine_76 (by omega) (by omega) rfl ?_
      refine zx_aloadN dX10_editionLine_77 rfl rfl ?_
      refine zy_getR (q' := 262) fl_RX10_7 rfl dX10_editionLine_78 rfl ?_
      refine zx_iconst dX10_editionLine_81 ?_
      refine zx_dup2 rfl rfl dX10_editionLine_82 ?_
      refine zy_iald (v := τ30.1 262 2) rfl (by decide) (by decide) dX10_editionLine_83 (by omega) (by omega) ((zput_i _ _ _ _ _ (by omega)).trans (zput_i _ _ _ _ _ (by omega))) ?_
      refine zy_top (b := D 1 10) (by first | exact r1 | exact (zput_i _ _ _ _ _ (by omega)).trans r1 | exact (zput_i _ _ _ _ _ (by omega)).trans ((zput_i _ _ _ _ _ (by omega)).trans r1)) ?_
      refine zx_iconst dX10_editionLine_84 ?_
      refine zx_iadd dX10_editionLine_85 ?_
      refine zy_iast (i := 2) rfl (by decide) (by decide) dX10_editionLine_86 (by omega) (by omega) rfl ?_
      refine zx_vret rfl dX10_editionLine_87 ?_
      rw [hQ]
      refine ⟨rfl, ?_⟩
      first
      | (have hn : ¬ (pW t n S 11 (D 1 10 < 12)).2.1 = 0 := h15
         unfold lS lB
         rw [if_neg hn, if_neg hn]
         exact ⟨(zOK_put (zOK_put (zOK_put hz30 (by first | exact hz30 _ _ | assumption | exact zr_b _ | exact zcmp_r _ _ | (unfold zr at *; omega))) (by first | exact hz30 _ _ | assumption | exact zr_b _ | exact zcmp_r _ _ | (unfold zr at *; omega))) (by first | exact hz30 _ _ | assumption | exact zr_b _ | exact zcmp_r _ _ | (unfold zr at *; omega))), m0, p0, R0⟩)
      | (have z3 : ¬ (o3 t n D 1450 1999 (pN t n S)).2.1 = 0 := fun q => h37 (p30.2.2.2.1.1.trans q)
         have e1 : lS t n 4 11 (D 1 10 < 12) D S = o3 t n D 1450 1999 (pN t n S) := by unfold lS sStS; rw [if_pos h15, if_neg (by decide), if_neg (by decide), if_neg (by decide), if_neg (by decide), if_pos rfl]
         have e2 : lB t n 4 11 (D 1 10 < 12) D S = D := by
           have e3 : sStS t n 4 D (pN t n S) = o3 t n D 1450 1999 (pN t n S) := by unfold sStS; rw [if_neg (by decide), if_neg (by decide), if_neg (by decide), if_neg (by decide), if_pos rfl]
           unfold lB sBk; rw [if_pos h15, e3, if_neg z3]
         rw [e1, e2]
         exact ⟨(zOK_put (zOK_put (zOK_put hz30 (by first | exact hz30 _ _ | assumption | exact zr_b _ | exact zcmp_r _ _ | (unfold zr at *; omega))) (by first | exact hz30 _ _ | assumption | exact zr_b _ | exact zcmp_r _ _ | (unfold zr at *; omega))) (by first | exact hz30 _ _ | assumption | exact zr_b _ | exact zcmp_r _ _ | (unfold zr at *; omega))), m30, p30, R30⟩)
      | (have e1 : lS t n 4 11 (D 1 10 < 12) D S = o3 t n D 1450 1999 (pN t n S) := by unfold lS sStS; rw [if_pos h15, if_neg (by decide), if_neg (by decide), if_neg (by decide), if_neg (by decide), if_pos rfl]
         have e2 : lB t n 4 11 (D 1 10 < 12) D S = adE D ((nmP t n D (pN t n S) : Nat) : Int) (pV t n (o1 t n D (pN t n S)).1) := by
           have e3 : sStS t n 4 D (pN t n S) = o3 t n D 1450 1999 (pN t n S) := by unfold sStS; rw [if_neg (by decide), if_neg (by decide), if_neg (by decide), if_neg (by decide), if_pos rfl]
           unfold lB sBk; rw [if_pos h15, e3, if_pos z3]; unfold sStB; rw [if_neg (by decide), if_neg (by decide), if_neg (by decide), if_neg (by decide), if_pos rfl]
         rw [e1, e2]
         refine ⟨(zOK_put (zOK_put (zOK_put hz30 (by first | exact hz30 _ _ | assumption | exact zr_b _ | exact zcmp_r _ _ | (unfold zr at *; omega))) (by first | exact hz30 _ _ | assumption | exact zr_b _ | exact zcmp_r _ _ | (unfold zr at *; omega))) (by first | exact hz30 _ _ | assumption | exact zr_b _ | exact zcmp_r _ _ | (unfold zr at *; omega))), ML_p (ML_p (ML_p m30)), PM_r p30 (mfr_put (mfr_put (mfr_put (mfr_rf _ _ _) rfl (by decide)) rfl (by decide)) rfl (by decide)), Rel_adE hW R30 hA (fun i => ?_)⟩
         simp only [zput_e, true_and])
    · refine zx_vret rfl dX10_editionLine_40 ?_
      rw [hQ]
      refine ⟨rfl, ?_⟩
      first
      | (have hn : ¬ (pW t n S 11 (D 1 10 < 12)).2.1 = 0 := h15
         unfold lS lB
         rw [if_neg hn, if_neg hn]
         exact ⟨hz30, m0, p0, R0⟩)
      | (have z3 : ¬ (o3 t n D 1450 1999 (pN t n S)).2.1 = 0 := fun q => h37 (p30.2.2.2.1.1.trans q)
         have e1 : lS t n 4 11 (D 1 10 < 12) D S = o3 t n D 1450 1999 (pN t n S) := by unfold lS sStS; rw [if_pos h15, if_neg (by decide), if_neg (by decide), if_neg (by decide), if_neg (by decide), if_pos rfl]
         have e2 : lB t n 4 11 (D 1 10 < 12) D S = D := by
           have e3 : sStS t n 4 D (pN t n S) = o3 t n D 1450 1999 (pN t n S) := by unfold sStS; rw [if_neg (by decide), if_neg (by decide), if_neg (by decide), if_neg (by decide), if_pos rfl]
           unfold lB sBk; rw [if_pos h15, e3, if_neg z3]
         rw [e1, e2]
         exact ⟨hz30, m30, p30, R30⟩)
      | (have e1 : lS t n 4 11 (D 1 10 < 12) D S = o3 t n D 1450 1999 (pN t n S) := by unfold lS sStS; rw [if_pos h15, if_neg (by decide), if_neg (by decide), if_neg (by decide), if_neg (by decide), if_pos rfl]
         have e2 : lB t n 4 11 (D 1 10 < 12) D S = adE D ((nmP t n D (pN t n S) : Nat) : Int) (pV t n (o1 t n D (pN t n S)).1) := by
           have e3 : sStS t n 4 D (pN t n S) = o3 t n D 1450 1999 (pN t n S) := by unfold sStS; rw [if_neg (by decide), if_neg (by decide), if_neg (by decide), if_neg (by decide), if_pos rfl]
           unfold lB sBk; rw [if_pos h15, e3, if_pos z3]; unfold sStB; rw [if_neg (by decide), if_neg (by decide), if_neg (by decide), if_neg (by decide), if_pos rfl]
         rw [e1, e2]
         refine ⟨hz30, ML_p (ML_p (ML_p m30)), PM_r p30 (mfr_put (mfr_put (mfr_put (mfr_rf _ _ _) rfl (by decide)) rfl (by decide)) rfl (by decide)), Rel_adE hW R30 hA (fun i => ?_)⟩
         simp only [zput_e, true_and])
  · have h15 := zb_0.mp h15
    refine zx_vret rfl dX10_editionLine_18 ?_
    rw [hQ]
    refine ⟨rfl, ?_⟩
    first
    | (have hn : ¬ (pW t n S 11 (D 1 10 < 12)).2.1 = 0 := h15
       unfold lS lB
       rw [if_neg hn, if_neg hn]
       exact ⟨hz12, m0, p0, R0⟩)
    | (have z3 : ¬ (o3 t n D 1450 1999 (pN t n S)).2.1 = 0 := fun q => h37 (p30.2.2.2.1.1.trans q)
       have e1 : lS t n 4 11 (D 1 10 < 12) D S = o3 t n D 1450 1999 (pN t n S) := by unfold lS sStS; rw [if_pos h15, if_neg (by decide), if_neg (by decide), if_neg (by decide), if_neg (by decide), if_pos rfl]
       have e2 : lB t n 4 11 (D 1 10 < 12) D S = D := by
         have e3 : sStS t n 4 D (pN t n S) = o3 t n D 1450 1999 (pN t n S) := by unfold sStS; rw [if_neg (by decide), if_neg (by decide), if_neg (by decide), if_neg (by decide), if_pos rfl]
         unfold lB sBk; rw [if_pos h15, e3, if_neg z3]
       rw [e1, e2]
       exact ⟨hz12, m30, p30, R30⟩)
    | (have e1 : lS t n 4 11 (D 1 10 < 12) D S = o3 t n D 1450 1999 (pN t n S) := by unfold lS sStS; rw [if_pos h15, if_neg (by decide), if_neg (by decide), if_neg (by decide), if_neg (by decide), if_pos rfl]
       have e2 : lB t n 4 11 (D 1 10 < 12) D S = adE D ((nmP t n D (pN t n S) : Nat) : Int) (pV t n (o1 t n D (pN t n S)).1) := by
         have e3 : sStS t n 4 D (pN t n S) = o3 t n D 1450 1999 (pN t n S) := by unfold sStS; rw [if_neg (by decide), if_neg (by decide), if_neg (by decide), if_neg (by decide), if_pos rfl]
         unfold lB sBk; rw [if_pos h15, e3, if_pos z3]; unfold sStB; rw [if_neg (by decide), if_neg (by decide), if_neg (by decide), if_neg (by decide), if_pos rfl]
       rw [e1, e2]
       refine ⟨hz12, ML_p (ML_p (ML_p m30)), PM_r p30 (mfr_put (mfr_put (mfr_put (mfr_rf _ _ _) rfl (by decide)) rfl (by decide)) rfl (by decide)), Rel_adE hW R30 hA (fun i => ?_)⟩
       simp only [zput_e, true_and])
set_option maxRecDepth 20000 in
set_option maxHeartbeats 2000000 in
theorem sX10_clueLine {l : Launch} {w : zW} (hfl : l.stackTraces = false) {σ : zS} {D : zBk} {t : Nat → Int} {n : Nat} {S : zP}  (hz : zOK σ) (hW : WF D) (hR : Rel D (σ.1 262)) (hU : PM t n S σ) : Sp l w mX10_clueLine 6 0 [zf 10 261] σ (zqv (none) (fun τ => zOK τ ∧ ML σ τ ∧ PM t n (lS t n 5 12 (D 12 0 < 40) D S) τ ∧ Rel (lB t n 5 12 (D 12 0 < 40) D S) (τ.1 262))) := by
  obtain ⟨Q, hQ⟩ : ∃ Q : zQ, Q = (zqv (none) (fun τ => zOK τ ∧ ML σ τ ∧ PM t n (lS t n 5 12 (D 12 0 < 40) D S) τ ∧ Rel (lB t n 5 12 (D 12 0 < 40) D S) (τ.1 262))) := ⟨_, rfl⟩
  rw [← hQ]
  refine zx_enter hfl (by decide) rfl 4 rfl ?_
  show zX l w mX10_clueLine (zMQ w 6 0 Q) 0 [zf 10 261, zu, zu, zu, zu] [] 0 σ
  have hP : 0 ≤ D 1 0 ∧ D 1 0 ≤ 8 := hW.1.1
  have hM : 0 ≤ D 1 7 ∧ D 1 7 ≤ 8 := hW.1.2.1
  have hE : 0 ≤ D 1 10 ∧ D 1 10 ≤ 12 := hW.1.2.2.1
  have hK : 0 ≤ D 12 0 ∧ D 12 0 ≤ 40 := hW.1.2.2.2
  have r0 : σ.1 262 0 = D 1 0 := hR.1.1
  have r1 : σ.1 262 1 = D 1 7 := hR.1.2.1
  have r2 : σ.1 262 2 = D 1 10 := hR.1.2.2.1
  have r3 : σ.1 262 3 = D 12 0 := hR.1.2.2.2
  have hM := hW.1.2.1
  refine zx_aloadN dX10_clueLine_0 rfl rfl ?_
  refine zx_ldcSw (List.mem_of_getElem? (i := 44) rfl) (by decide) dX10_clueLine_1 ?_
  refine zx_aloadN dX10_clueLine_4 rfl rfl ?_
  refine zy_getR (q' := 262) fl_RX10_7 rfl dX10_clueLine_5 rfl ?_
  refine zx_iconst dX10_clueLine_8 ?_
  refine zy_iald (v := σ.1 262 3) rfl (by decide) (by decide) dX10_clueLine_9 (by omega) (by omega) rfl ?_
  refine zy_top (b := D 12 0) (hR.1.2.2.2) ?_
  refine zx_bipush dX10_clueLine_10 rfl ?_
  refine zy_cvR [zf 100 12, zi (D 12 0), zi 40] (sX10_starts (j := 12) (a := (D 12 0)) (b := 40) hfl hz hU (by decide) (by first | exact hz _ _ | assumption | exact zr_b _ | exact zcmp_r _ _ | (unfold zr at *; omega)) (by first | exact hz _ _ | assumption | exact zr_b _ | exact zcmp_r _ _ | (unfold zr at *; omega))) dX10_clueLine_12 (by decide) rfl cw_RX10_287 okX10_starts rfl (Nat.le_of_ble_eq_true rfl) ⟨Nat.le_of_ble_eq_true rfl, Nat.le_of_ble_eq_true rfl, Nat.le_of_ble_eq_true rfl, Nat.le_of_ble_eq_true rfl⟩ (fun τ12 hr12 => ?_)
  have hz12 : zOK τ12 := hr12.1
  have m0 : ML σ τ12 := ML_x (ML_rf _) hr12.2.1
  have R0 : Rel D (τ12.1 262) := MX_R hr12.2.1 hR
  have p0 := hr12.2.2
  refine zx_if_ne (tgt := 19) (by first | exact hz12 _ _ | assumption | exact zr_b _ | exact zcmp_r _ _ | (unfold zr at *; omega)) dX10_clueLine_15 (by decide) (fun h15 => ?_) (fun h15 => ?_)
  · have h15 := zb_n.mp h15
    obtain ⟨z, hw, hA, hpw⟩ := pW_s h15
    have pS : PM t n (pN t n S) τ12 := hpw ▸ p0
    refine zx_aloadN dX10_clueLine_19 rfl rfl ?_
    refine zx_iconst dX10_clueLine_20 ?_
    refine zx_sipush dX10_clueLine_21 rfl ?_
    refine zy_cvR [zi 1, zi 999] (sX10_number (S := (pN t n S)) (a := 1) (b := 999) hfl hz12 pS (by first | exact hz12 _ _ | assumption | exact zr_b _ | exact zcmp_r _ _ | (unfold zr at *; omega)) (by first | exact hz12 _ _ | assumption | exact zr_b _ | exact zcmp_r _ _ | (unfold zr at *; omega))) dX10_clueLine_24 (by decide) rfl cw_RX10_282 okX10_number rfl (Nat.le_of_ble_eq_true rfl) ⟨Nat.le_of_ble_eq_true rfl, Nat.le_of_ble_eq_true rfl, Nat.le_of_ble_eq_true rfl, Nat.le_of_ble_eq_true rfl⟩ (fun τ24 hr24 => ?_)
    have hz24 : zOK τ24 := hr24.1
    refine zy_top (b := if (u1 t n (pN t n S)).2.1 = 0 then pV t n (pN t n S).1 else 1) (rfl) ?_
    have p24 : PM t n (u1 t n (pN t n S)) τ24 := hr24.2.2
    have m24 : ML σ τ24 := ML_x m0 hr24.2.1
    have R24 : Rel D (τ24.1 262) := MX_R hr24.2.1 R0
    have hv24 : zr (if (u1 t n (pN t n S)).2.1 = 0 then pV t n (pN t n S).1 else 1) := by
      split
      · rename_i zz; have := pNum_v (S := (pN t n S)) (lo := 1) (hi := 999) zz; unfold zr; omega
      · unfold zr; omega
    refine zy_istoreN [zf 10 261, zi (if (u1 t n (pN t n S)).2.1 = 0 then pV t n (pN t n S).1 else 1), zu, zu, zu] dX10_clueLine_27 rfl (Nat.le_of_ble_eq_true rfl) (Nat.le_of_ble_eq_true rfl) rfl rfl ?_
    refine zx_aloadN dX10_clueLine_28 rfl rfl ?_
    refine zy_cvR [] (sX10_kindHere (S := (u1 t n (pN t n S))) hfl hz24 p24) dX10_clueLine_29 (by decide) rfl cw_RX10_317 okX10_kindHere rfl (Nat.le_of_ble_eq_true rfl) ⟨Nat.le_of_ble_eq_true rfl, Nat.le_of_ble_eq_true rfl, Nat.le_of_ble_eq_true rfl, Nat.le_of_ble_eq_true rfl⟩ (fun τ29 hr29 => ?_)
    have hz29 : zOK τ29 := hr29.1
    refine zy_top (b := if (u1 t n (pN t n S)).2.1 = 0 then kdv t n (u1 t n (pN t n S)).1 else 0) (rfl) ?_
    have p29 : PM t n (u2 t n (pN t n S)) τ29 := hr29.2.2
    have m29 : ML σ τ29 := ML_x m24 hr29.2.1
    have R29 : Rel D (τ29.1 262) := MX_R hr29.2.1 R24
    have hkr := kdv_r t n (u1 t n (pN t n S)).1
    have hv29 : zr (if (u1 t n (pN t n S)).2.1 = 0 then kdv t n (u1 t n (pN t n S)).1 else 0) := by unfold zr; split <;> omega
    refine zy_istoreN [zf 10 261, zi (if (u1 t n (pN t n S)).2.1 = 0 then pV t n (pN t n S).1 else 1), zi (if (u1 t n (pN t n S)).2.1 = 0 then kdv t n (u1 t n (pN t n S)).1 else 0), zu, zu] dX10_clueLine_32 rfl (Nat.le_of_ble_eq_true rfl) (Nat.le_of_ble_eq_true rfl) rfl rfl ?_
    refine zx_aloadN dX10_clueLine_33 rfl rfl ?_
    refine zx_iloadN dX10_clueLine_34 rfl rfl ?_
    have e35 : pNum t n (u2 t n (pN t n S)) (loM (if (u1 t n (pN t n S)).2.1 = 0 then kdv t n (u1 t n (pN t n S)).1 else 0)) (hiK D (if (u1 t n (pN t n S)).2.1 = 0 then kdv t n (u1 t n (pN t n S)).1 else 0)) = u3 t n D (pN t n S) := by
      unfold u3
      refine pNum_lo (fun q => ?_)
      have hk := pKd_s (t := t) (n := n) (S := u1 t n (pN t n S)) q
      have hkn := hk.2.1
      rw [if_pos hk.1]
      refine ⟨?_, rfl⟩
      unfold loM loK
      (repeat' split) <;> omega
    refine zy_cvR [zi (if (u1 t n (pN t n S)).2.1 = 0 then kdv t n (u1 t n (pN t n S)).1 else 0)] (sX10_valueHere (D := D) (S := (u2 t n (pN t n S))) hfl hz29 (by first | assumption | omega) R29 p29 (by split <;> omega)) dX10_clueLine_35 (by decide) rfl cw_RX10_320 okX10_valueHere rfl (Nat.le_of_ble_eq_true rfl) ⟨Nat.le_of_ble_eq_true rfl, Nat.le_of_ble_eq_true rfl, Nat.le_of_ble_eq_true rfl, Nat.le_of_ble_eq_true rfl⟩ (fun τ35 hr35 => ?_)
    have hz35 : zOK τ35 := hr35.1
    refine zy_top (b := if (u3 t n D (pN t n S)).2.1 = 0 then pV t n (u2 t n (pN t n S)).1 else loM (if (u1 t n (pN t n S)).2.1 = 0 then kdv t n (u1 t n (pN t n S)).1 else 0)) (by rw [e35]) ?_
    have p35 : PM t n (u3 t n D (pN t n S)) τ35 := by rw [← e35]; exact hr35.2.2
    have m35 : ML σ τ35 := ML_x m29 hr35.2.1
    have R35 : Rel D (τ35.1 262) := MX_R hr35.2.1 R29
    have hv35 : zr (if (u3 t n D (pN t n S)).2.1 = 0 then pV t n (u2 t n (pN t n S)).1 else loM (if (u1 t n (pN t n S)).2.1 = 0 then kdv t n (u1 t n (pN t n S)).1 else 0)) := by
      split
      · rename_i zz; have := pNum_v (S := u2 t n (pN t n S)) zz; unfold zr; omega
      · unfold zr loM; split <;> omega
    refine zy_istoreN [zf 10 261, zi (if (u1 t n (pN t n S)).2.1 = 0 then pV t n (pN t n S).1 else 1), zi (if (u1 t n (pN t n S)).2.1 = 0 then kdv t n (u1 t n (pN t n S)).1 else 0), zi (if (u3 t n D (pN t n S)).2.1 = 0 then pV t n (u2 t n (pN t n S)).1 else loM (if (u1 t n (pN t n S)).2.1 = 0 then kdv t n (u1 t n (pN t n S)).1 else 0)), zu] dX10_clueLine_38 rfl (Nat.le_of_ble_eq_true rfl) (Nat.le_of_ble_eq_true rfl) rfl rfl ?_
    refine zx_aloadN dX10_clueLine_39 rfl rfl ?_
    refine zx_iconst dX10_clueLine_40 ?_
    refine zx_bipush dX10_clueLine_41 rfl ?_
    refine zy_cvR [zi 1, zi 9] (sX10_number (S := (u3 t n D (pN t n S))) (a := 1) (b := 9) hfl hz35 p35 (by first | exact hz35 _ _ | assumption | exact zr_b _ | exact zcmp_r _ _ | (unfold zr at *; omega)) (by first | exact hz35 _ _ | assumption | exact zr_b _ | exact zcmp_r _ _ | (unfold zr at *; omega))) dX10_clueLine_43 (by decide) rfl cw_RX10_282 okX10_number rfl (Nat.le_of_ble_eq_true rfl) ⟨Nat.le_of_ble_eq_true rfl, Nat.le_of_ble_eq_true rfl, Nat.le_of_ble_eq_true rfl, Nat.le_of_ble_eq_true rfl⟩ (fun τ43 hr43 => ?_)
    have hz43 : zOK τ43 := hr43.1
    refine zy_top (b := if (u4 t n D (pN t n S)).2.1 = 0 then pV t n (u3 t n D (pN t n S)).1 else 1) (rfl) ?_
    have p43 : PM t n (u4 t n D (pN t n S)) τ43 := hr43.2.2
    have m43 : ML σ τ43 := ML_x m35 hr43.2.1
    have R43 : Rel D (τ43.1 262) := MX_R hr43.2.1 R35
    have hv43 : zr (if (u4 t n D (pN t n S)).2.1 = 0 then pV t n (u3 t n D (pN t n S)).1 else 1) := by
      split
      · rename_i zz; have := pNum_v (S := u3 t n D (pN t n S)) (lo := 1) (hi := 9) zz; unfold zr; omega
      · unfold zr; omega
    refine zy_istore [zf 10 261, zi (if (u1 t n (pN t n S)).2.1 = 0 then pV t n (pN t n S).1 else 1), zi (if (u1 t n (pN t n S)).2.1 = 0 then kdv t n (u1 t n (pN t n S)).1 else 0), zi (if (u3 t n D (pN t n S)).2.1 = 0 then pV t n (u2 t n (pN t n S)).1 else loM (if (u1 t n (pN t n S)).2.1 = 0 then kdv t n (u1 t n (pN t n S)).1 else 0)), zi (if (u4 t n D (pN t n S)).2.1 = 0 then pV t n (u3 t n D (pN t n S)).1 else 1)] dX10_clueLine_46 (Nat.le_of_ble_eq_true rfl) (Nat.le_of_ble_eq_true rfl) rfl rfl ?_
    refine zx_aloadN dX10_clueLine_48 rfl rfl ?_
    refine zy_cvvR [] (sX10_semicolon (S := (u4 t n D (pN t n S))) hfl hz43 p43) dX10_clueLine_49 (by decide) rfl cw_RX10_297 okX10_semicolon rfl (Nat.le_of_ble_eq_true rfl) ⟨Nat.le_of_ble_eq_true rfl, Nat.le_of_ble_eq_true rfl, Nat.le_of_ble_eq_true rfl, Nat.le_of_ble_eq_true rfl⟩ (fun τ49 hr49 => ?_)
    have hz49 : zOK τ49 := hr49.1
    have p49 : PM t n (u5 t n D (pN t n S)) τ49 := hr49.2.2
    have m49 : ML σ τ49 := ML_x m43 hr49.2.1
    have R49 : Rel D (τ49.1 262) := MX_R hr49.2.1 R43
    refine zx_aloadN dX10_clueLine_52 rfl rfl ?_
    refine zy_getI fl_RX10_243 rfl dX10_clueLine_53 rfl ?_
    refine zx_if_ne (tgt := 68) (by first | exact hz49 _ _ | assumption | exact zr_b _ | exact zcmp_r _ _ | (unfold zr at *; omega)) dX10_clueLine_56 (by decide) (fun h56 => ?_) (fun h56 => ?_)
    · refine zx_vret rfl dX10_clueLine_68 ?_
      rw [hQ]
      refine ⟨rfl, ?_⟩
      first
      | (have hn : ¬ (pW t n S 12 (D 12 0 < 40)).2.1 = 0 := h15
         unfold lS lB
         rw [if_neg hn, if_neg hn]
         exact ⟨hz49, m0, p0, R0⟩)
      | (have z3 : ¬ (u5 t n D (pN t n S)).2.1 = 0 := fun q => h56 (p49.2.2.2.1.1.trans q)
         have e1 : lS t n 5 12 (D 12 0 < 40) D S = u5 t n D (pN t n S) := by unfold lS sStS; rw [if_pos h15, if_neg (by decide), if_neg (by decide), if_neg (by decide), if_neg (by decide), if_neg (by decide)]
         have e2 : lB t n 5 12 (D 12 0 < 40) D S = D := by
           have e3 : sStS t n 5 D (pN t n S) = u5 t n D (pN t n S) := by unfold sStS; rw [if_neg (by decide), if_neg (by decide), if_neg (by decide), if_neg (by decide), if_neg (by decide)]
           unfold lB sBk; rw [if_pos h15, e3, if_neg z3]
         rw [e1, e2]
         exact ⟨hz49, m49, p49, R49⟩)
      | (have e1 : lS t n 5 12 (D 12 0 < 40) D S = u5 t n D (pN t n S) := by unfold lS sStS; rw [if_pos h15, if_neg (by decide), if_neg (by decide), if_neg (by decide), if_neg (by decide), if_neg (by decide)]
         have e2 : lB t n 5 12 (D 12 0 < 40) D S = adB D (pV t n (pN t n S).1) (kdv t n (u1 t n (pN t n S)).1) (pV t n (u2 t n (pN t n S)).1) (pV t n (u3 t n D (pN t n S)).1) := by
           have e3 : sStS t n 5 D (pN t n S) = u5 t n D (pN t n S) := by unfold sStS; rw [if_neg (by decide), if_neg (by decide), if_neg (by decide), if_neg (by decide), if_neg (by decide)]
           unfold lB sBk; rw [if_pos h15, e3, if_pos z5]; unfold sStB; rw [if_neg (by decide), if_neg (by decide), if_neg (by decide), if_neg (by decide), if_neg (by decide)]
         rw [e1, e2]
         exact ⟨hz49, mfr_tr m49 hr65.2.1 (fun k q => q.elim id id) (fun i q => q.elim id Or.inl), PM_r p49 hr65.2.1, hr65.2.2.1⟩)
    · have z5 : (u5 t n D (pN t n S)).2.1 = 0 := p49.2.2.2.1.1.symm.trans h56
      have z4 := (pSem_s (t := t) (n := n) (S := u4 t n D (pN t n S)) z5).1
      have s3 := pNum_s (t := t) (n := n) (S := u3 t n D (pN t n S)) (lo := 1) (hi := 9) z4
      have s2 := pNum_s (t := t) (n := n) (S := u2 t n (pN t n S)) s3.1
      have sk := pKd_s (t := t) (n := n) (S := u1 t n (pN t n S)) s2.1
      have f24 : (if (u1 t n (pN t n S)).2.1 = 0 then pV t n (pN t n S).1 else 1) = pV t n (pN t n S).1 := if_pos sk.1
      have f29 : (if (u1 t n (pN t n S)).2.1 = 0 then kdv t n (u1 t n (pN t n S)).1 else 0) = kdv t n (u1 t n (pN t n S)).1 := if_pos sk.1
      have f35 : (if (u3 t n D (pN t n S)).2.1 = 0 then pV t n (u2 t n (pN t n S)).1 else loM (if (u1 t n (pN t n S)).2.1 = 0 then kdv t n (u1 t n (pN t n S)).1 else 0)) = pV t n (u2 t n (pN t n S)).1 := if_pos s3.1
      have f43 : (if (u4 t n D (pN t n S)).2.1 = 0 then pV t n (u3 t n D (pN t n S)).1 else 1) = pV t n (u3 t n D (pN t n S)).1 := if_pos z4
      refine zx_aloadN dX10_clueLine_59 rfl rfl ?_
      refine zx_iloadN dX10_clueLine_60 rfl rfl ?_
      refine zy_top (b := pV t n (pN t n S).1) (f24) ?_
      refine zx_iloadN dX10_clueLine_61 rfl rfl ?_
      refine zy_top (b := kdv t n (u1 t n (pN t n S)).1) (f29) ?_
      refine zx_iloadN dX10_clueLine_62 rfl rfl ?_
      refine zy_top (b := pV t n (u2 t n (pN t n S)).1) (f35) ?_
      refine zx_iload dX10_clueLine_63 rfl ?_
      refine zy_top (b := pV t n (u3 t n D (pN t n S)).1) (f43) ?_
      refine zy_cvvR [zi (pV t n (pN t n S).1), zi (kdv t n (u1 t n (pN t n S)).1), zi (pV t n (u2 t n (pN t n S)).1), zi (pV t n (u3 t n D (pN t n S)).1)] (sX10_clueComes (D := D) hfl hz49 (by first | assumption | omega) R49 (f24 ▸ hv24) (f29 ▸ hv29) (f35 ▸ hv35) (f43 ▸ hv43) hA) dX10_clueLine_65 (by decide) rfl cw_RX10_198 okX10_clueComes rfl (Nat.le_of_ble_eq_true rfl) ⟨Nat.le_of_ble_eq_true rfl, Nat.le_of_ble_eq_true rfl, Nat.le_of_ble_eq_true rfl, Nat.le_of_ble_eq_true rfl⟩ (fun τ65 hr65 => ?_)
      have hz65 : zOK τ65 := hr65.1
      refine zx_vret rfl dX10_clueLine_68 ?_
      rw [hQ]
      refine ⟨rfl, ?_⟩
      first
      | (have hn : ¬ (pW t n S 12 (D 12 0 < 40)).2.1 = 0 := h15
         unfold lS lB
         rw [if_neg hn, if_neg hn]
         exact ⟨hz65, m0, p0, R0⟩)
      | (have z3 : ¬ (u5 t n D (pN t n S)).2.1 = 0 := fun q => h56 (p49.2.2.2.1.1.trans q)
         have e1 : lS t n 5 12 (D 12 0 < 40) D S = u5 t n D (pN t n S) := by unfold lS sStS; rw [if_pos h15, if_neg (by decide), if_neg (by decide), if_neg (by decide), if_neg (by decide), if_neg (by decide)]
         have e2 : lB t n 5 12 (D 12 0 < 40) D S = D := by
           have e3 : sStS t n 5 D (pN t n S) = u5 t n D (pN t n S) := by unfold sStS; rw [if_neg (by decide), if_neg (by decide), if_neg (by decide), if_neg (by decide), if_neg (by decide)]
           unfold lB sBk; rw [if_pos h15, e3, if_neg z3]
         rw [e1, e2]
         exact ⟨hz65, m49, p49, R49⟩)
      | (have e1 : lS t n 5 12 (D 12 0 < 40) D S = u5 t n D (pN t n S) := by unfold lS sStS; rw [if_pos h15, if_neg (by decide), if_neg (by decide), if_neg (by decide), if_neg (by decide), if_neg (by decide)]
         have e2 : lB t n 5 12 (D 12 0 < 40) D S = adB D (pV t n (pN t n S).1) (kdv t n (u1 t n (pN t n S)).1) (pV t n (u2 t n (pN t n S)).1) (pV t n (u3 t n D (pN t n S)).1) := by
           have e3 : sStS t n 5 D (pN t n S) = u5 t n D (pN t n S) := by unfold sStS; rw [if_neg (by decide), if_neg (by decide), if_neg (by decide), if_neg (by decide), if_neg (by decide)]
           unfold lB sBk; rw [if_pos h15, e3, if_pos z5]; unfold sStB; rw [if_neg (by decide), if_neg (by decide), if_neg (by decide), if_neg (by decide), if_neg (by decide)]
         rw [e1, e2]
         exact ⟨hz65, mfr_tr m49 hr65.2.1 (fun k q => q.elim id id) (fun i q => q.elim id Or.inl), PM_r p49 hr65.2.1, hr65.2.2.1⟩)
  · have h15 := zb_0.mp h15
    refine zx_vret rfl dX10_clueLine_18 ?_
    rw [hQ]
    refine ⟨rfl, ?_⟩
    first
    | (have hn : ¬ (pW t n S 12 (D 12 0 < 40)).2.1 = 0 := h15
       unfold lS lB
       rw [if_neg hn, if_neg hn]
       exact ⟨hz12, m0, p0, R0⟩)
    | (have z3 : ¬ (u5 t n D (pN t n S)).2.1 = 0 := fun q => h56 (p49.2.2.2.1.1.trans q)
       have e1 : lS t n 5 12 (D 12 0 < 40) D S = u5 t n D (pN t n S) := by unfold lS sStS; rw [if_pos h15, if_neg (by decide), if_neg (by decide), if_neg (by decide), if_neg (by decide), if_neg (by decide)]
       have e2 : lB t n 5 12 (D 12 0 < 40) D S = D := by
         have e3 : sStS t n 5 D (pN t n S) = u5 t n D (pN t n S) := by unfold sStS; rw [if_neg (by decide), if_neg (by decide), if_neg (by decide), if_neg (by decide), if_neg (by decide)]
         unfold lB sBk; rw [if_pos h15, e3, if_neg z3]
       rw [e1, e2]
       exact ⟨hz12, m49, p49, R49⟩)
    | (have e1 : lS t n 5 12 (D 12 0 < 40) D S = u5 t n D (pN t n S) := by unfold lS sStS; rw [if_pos h15, if_neg (by decide), if_neg (by decide), if_neg (by decide), if_neg (by decide), if_neg (by decide)]
       have e2 : lB t n 5 12 (D 12 0 < 40) D S = adB D (pV t n (pN t n S).1) (kdv t n (u1 t n (pN t n S)).1) (pV t n (u2 t n (pN t n S)).1) (pV t n (u3 t n D (pN t n S)).1) := by
         have e3 : sStS t n 5 D (pN t n S) = u5 t n D (pN t n S) := by unfold sStS; rw [if_neg (by decide), if_neg (by decide), if_neg (by decide), if_neg (by decide), if_neg (by decide)]
         unfold lB sBk; rw [if_pos h15, e3, if_pos z5]; unfold sStB; rw [if_neg (by decide), if_neg (by decide), if_neg (by decide), if_neg (by decide), if_neg (by decide)]
       rw [e1, e2]
       exact ⟨hz12, mfr_tr m49 hr65.2.1 (fun k q => q.elim id id) (fun i q => q.elim id Or.inl), PM_r p49 hr65.2.1, hr65.2.2.1⟩)
set_option maxRecDepth 20000 in
set_option maxHeartbeats 2000000 in
theorem sX10_setLine {l : Launch} {w : zW} (hfl : l.stackTraces = false) {σ : zS} {D : zBk} {t : Nat → Int} {n : Nat} {S : zP} {o : Nat} {x : Int} (hz : zOK σ) (hW : WF D) (hR : Rel D (σ.1 262)) (hU : PN t n S σ) (z : S.2.1 = 0) (k1 : xK t n S.1 = 1) (ho : (o = 10 ∧ x = 32) ∨ (o = 11 ∧ x = 16)) : Sp l w mX10_setLine 4 0 [zf 10 261, zi ((o : Nat) : Int), zi x] σ (zqv (none) (fun τ => zOK τ ∧ ML σ τ ∧ PM t n (o3 t n D 0 (x - 1) (pN t n S)) τ ∧ Rel (if (o3 t n D 0 (x - 1) (pN t n S)).2.1 = 0 then ov D (o - 4) (nmP t n D (pN t n S)) (zor (D (o - 4) (nmP t n D (pN t n S))) (zshl 1 (pV t n (o1 t n D (pN t n S)).1))) else D) (τ.1 262))) := by
  obtain ⟨Q, hQ⟩ : ∃ Q : zQ, Q = (zqv (none) (fun τ => zOK τ ∧ ML σ τ ∧ PM t n (o3 t n D 0 (x - 1) (pN t n S)) τ ∧ Rel (if (o3 t n D 0 (x - 1) (pN t n S)).2.1 = 0 then ov D (o - 4) (nmP t n D (pN t n S)) (zor (D (o - 4) (nmP t n D (pN t n S))) (zshl 1 (pV t n (o1 t n D (pN t n S)).1))) else D) (τ.1 262))) := ⟨_, rfl⟩
  rw [← hQ]
  refine zx_enter hfl (by decide) rfl 2 rfl ?_
  show zX l w mX10_setLine (zMQ w 4 0 Q) 0 [zf 10 261, zi ((o : Nat) : Int), zi x, zu, zu] [] 0 σ
  have hP : 0 ≤ D 1 0 ∧ D 1 0 ≤ 8 := hW.1.1
  have hM : 0 ≤ D 1 7 ∧ D 1 7 ≤ 8 := hW.1.2.1
  have hE : 0 ≤ D 1 10 ∧ D 1 10 ≤ 12 := hW.1.2.2.1
  have hK : 0 ≤ D 12 0 ∧ D 12 0 ≤ 40 := hW.1.2.2.2
  have r0 : σ.1 262 0 = D 1 0 := hR.1.1
  have r1 : σ.1 262 1 = D 1 7 := hR.1.2.1
  have r2 : σ.1 262 2 = D 1 10 := hR.1.2.2.1
  have r3 : σ.1 262 3 = D 12 0 := hR.1.2.2.2
  have hzx : zr x := by unfold zr; omega
  refine zx_aloadN dX10_setLine_0 rfl rfl ?_
  refine zy_cvvR [] (sX10_goesPast (S := S) hfl hz hU (fun _ => k1)) dX10_setLine_1 (by decide) rfl cw_RX10_272 okX10_goesPast rfl (Nat.le_of_ble_eq_true rfl) ⟨Nat.le_of_ble_eq_true rfl, Nat.le_of_ble_eq_true rfl, Nat.le_of_ble_eq_true rfl, Nat.le_of_ble_eq_true rfl⟩ (fun τ1 hr1 => ?_)
  have hz1 : zOK τ1 := hr1.1
  have pS : PM t n (pN t n S) τ1 := by have q := hr1.2.2; rw [if_pos z] at q; exact q
  have m0 : ML σ τ1 := ML_x (ML_rf _) hr1.2.1
  have R0 : Rel D (τ1.1 262) := MX_R hr1.2.1 hR
  refine zx_aloadN dX10_setLine_4 rfl rfl ?_
  refine zy_cvR [] (sX10_mustBe (D := D) (S := (pN t n S)) hfl hz1 (by first | assumption | omega) R0 pS) dX10_setLine_5 (by decide) rfl cw_RX10_300 okX10_mustBe rfl (Nat.le_of_ble_eq_true rfl) ⟨Nat.le_of_ble_eq_true rfl, Nat.le_of_ble_eq_true rfl, Nat.le_of_ble_eq_true rfl, Nat.le_of_ble_eq_true rfl⟩ (fun τ5 hr5 => ?_)
  have hz5 : zOK τ5 := hr5.1
  refine zy_top (b := if (o1 t n D (pN t n S)).2.1 = 0 then fz (D 2) (D 1 0) (nmv t n (pN t n S)) else 0) (rfl) ?_
  have p5 : PM t n (o1 t n D (pN t n S)) τ5 := hr5.2.2
  have m5 : ML σ τ5 := ML_x m0 hr5.2.1
  have R5 : Rel D (τ5.1 262) := MX_R hr5.2.1 R0
  have hv5 : zr (if (o1 t n D (pN t n S)).2.1 = 0 then fz (D 2) (D 1 0) (nmv t n (pN t n S)) else 0) := by have := fz_r (D 2) hW.1.1 (nmv t n (pN t n S)); have := hW.1.1; unfold zr; split <;> omega
  refine zy_istoreN [zf 10 261, zi ((o : Nat) : Int), zi x, zi (if (o1 t n D (pN t n S)).2.1 = 0 then fz (D 2) (D 1 0) (nmv t n (pN t n S)) else 0), zu] dX10_setLine_8 rfl (Nat.le_of_ble_eq_true rfl) (Nat.le_of_ble_eq_true rfl) rfl rfl ?_
  refine zx_aloadN dX10_setLine_9 rfl rfl ?_
  refine zx_iconst dX10_setLine_10 ?_
  refine zx_iloadN dX10_setLine_11 rfl rfl ?_
  refine zx_iconst dX10_setLine_12 ?_
  refine zx_isub dX10_setLine_13 ?_
  refine zy_cvR [zi 0, zi (x - 1)] (sX10_number (S := (o1 t n D (pN t n S))) (a := 0) (b := (x - 1)) hfl hz5 p5 (by first | exact hz5 _ _ | assumption | exact zr_b _ | exact zcmp_r _ _ | (unfold zr at *; omega)) (by first | exact hz5 _ _ | assumption | exact zr_b _ | exact zcmp_r _ _ | (unfold zr at *; omega))) dX10_setLine_14 (by decide) rfl cw_RX10_282 okX10_number rfl (Nat.le_of_ble_eq_true rfl) ⟨Nat.le_of_ble_eq_true rfl, Nat.le_of_ble_eq_true rfl, Nat.le_of_ble_eq_true rfl, Nat.le_of_ble_eq_true rfl⟩ (fun τ14 hr14 => ?_)
  have hz14 : zOK τ14 := hr14.1
  refine zy_top (b := if (o2 t n D 0 (x - 1) (pN t n S)).2.1 = 0 then pV t n (o1 t n D (pN t n S)).1 else 0) (rfl) ?_
  have p14 : PM t n (o2 t n D 0 (x - 1) (pN t n S)) τ14 := hr14.2.2
  have m14 : ML σ τ14 := ML_x m5 hr14.2.1
  have R14 : Rel D (τ14.1 262) := MX_R hr14.2.1 R5
  have hv14 : zr (if (o2 t n D 0 (x - 1) (pN t n S)).2.1 = 0 then pV t n (o1 t n D (pN t n S)).1 else 0) := by
    split
    · rename_i zz; have := pNum_v (S := o1 t n D (pN t n S)) (lo := 0) (hi := x - 1) zz; unfold zr; omega
    · unfold zr; omega
  refine zy_istore [zf 10 261, zi ((o : Nat) : Int), zi x, zi (if (o1 t n D (pN t n S)).2.1 = 0 then fz (D 2) (D 1 0) (nmv t n (pN t n S)) else 0), zi (if (o2 t n D 0 (x - 1) (pN t n S)).2.1 = 0 then pV t n (o1 t n D (pN t n S)).1 else 0)] dX10_setLine_17 (Nat.le_of_ble_eq_true rfl) (Nat.le_of_ble_eq_true rfl) rfl rfl ?_
  refine zx_aloadN dX10_setLine_19 rfl rfl ?_
  refine zy_cvvR [] (sX10_semicolon (S := (o2 t n D 0 (x - 1) (pN t n S))) hfl hz14 p14) dX10_setLine_20 (by decide) rfl cw_RX10_297 okX10_semicolon rfl (Nat.le_of_ble_eq_true rfl) ⟨Nat.le_of_ble_eq_true rfl, Nat.le_of_ble_eq_true rfl, Nat.le_of_ble_eq_true rfl, Nat.le_of_ble_eq_true rfl⟩ (fun τ20 hr20 => ?_)
  have hz20 : zOK τ20 := hr20.1
  have p20 : PM t n (o3 t n D 0 (x - 1) (pN t n S)) τ20 := hr20.2.2
  have m20 : ML σ τ20 := ML_x m14 hr20.2.1
  have R20 : Rel D (τ20.1 262) := MX_R hr20.2.1 R14
  refine zx_aloadN dX10_setLine_23 rfl rfl ?_
  refine zy_getI fl_RX10_243 rfl dX10_setLine_24 rfl ?_
  refine zx_if_ne (tgt := 38) (by first | exact hz20 _ _ | assumption | exact zr_b _ | exact zcmp_r _ _ | (unfold zr at *; omega)) dX10_setLine_27 (by decide) (fun h27 => ?_) (fun h27 => ?_)
  · refine zx_vret rfl dX10_setLine_38 ?_
    rw [hQ]
    refine ⟨rfl, ?_⟩
    first
    | (have z3 : ¬ (o3 t n D 0 (x - 1) (pN t n S)).2.1 = 0 := fun q => h27 (p20.2.2.2.1.1.trans q)
       rw [if_neg z3]
       exact ⟨hz20, m20, p20, R20⟩)
    | (rw [if_pos z3]
       exact ⟨hz20, mfr_tr m20 hr35.2.1 (fun k q => q.elim id id) (fun i q => q.elim id (fun e => absurd e id)), PM_r p20 (mfr_mo hr35.2.1 (fun k q => q) (fun i q => absurd q id)), hr35.2.2⟩)
  · have z3 : (o3 t n D 0 (x - 1) (pN t n S)).2.1 = 0 := p20.2.2.2.1.1.symm.trans h27
    have z2 := (pSem_s (t := t) (n := n) (S := o2 t n D 0 (x - 1) (pN t n S)) z3).1
    have s1 := pNum_s (t := t) (n := n) (S := o1 t n D (pN t n S)) (lo := 0) (hi := x - 1) z2
    have sp := pPrn_s (t := t) (n := n) (S := (pN t n S)) (f := D 2) (P := D 1 0) s1.1
    have hfr := fz_r (D 2) hW.1.1 (nmv t n (pN t n S))
    have hfn := sp.2.2.1
    have enp : (nmP t n D (pN t n S) : Int) = fz (D 2) (D 1 0) (nmv t n (pN t n S)) := by unfold nmP; omega
    have f5 : (if (o1 t n D (pN t n S)).2.1 = 0 then fz (D 2) (D 1 0) (nmv t n (pN t n S)) else 0) = ((nmP t n D (pN t n S) : Nat) : Int) := (if_pos s1.1).trans enp.symm
    have f14 : (if (o2 t n D 0 (x - 1) (pN t n S)).2.1 = 0 then pV t n (o1 t n D (pN t n S)).1 else 0) = pV t n (o1 t n D (pN t n S)).1 := if_pos z2
    refine zx_aloadN dX10_setLine_30 rfl rfl ?_
    refine zx_iloadN dX10_setLine_31 rfl rfl ?_
    refine zy_top (b := ((nmP t n D (pN t n S) : Nat) : Int)) (f5) ?_
    refine zx_iloadN dX10_setLine_32 rfl rfl ?_
    refine zx_iload dX10_setLine_33 rfl ?_
    refine zy_top (b := pV t n (o1 t n D (pN t n S)).1) (f14) ?_
    refine zy_cvvR [zi ((nmP t n D (pN t n S) : Nat) : Int), zi ((o : Nat) : Int), zi (pV t n (o1 t n D (pN t n S)).1)] (sX10_gets (D := D) (p := (nmP t n D (pN t n S))) (o := o) hfl hz20 (by first | assumption | omega) R20 (by omega) (by omega) (f14 ▸ hv14)) dX10_setLine_35 (by decide) rfl cw_RX10_211 okX10_gets rfl (Nat.le_of_ble_eq_true rfl) ⟨Nat.le_of_ble_eq_true rfl, Nat.le_of_ble_eq_true rfl, Nat.le_of_ble_eq_true rfl, Nat.le_of_ble_eq_true rfl⟩ (fun τ35 hr35 => ?_)
    have hz35 : zOK τ35 := hr35.1
    refine zx_vret rfl dX10_setLine_38 ?_
    rw [hQ]
    refine ⟨rfl, ?_⟩
    first
    | (have z3 : ¬ (o3 t n D 0 (x - 1) (pN t n S)).2.1 = 0 := fun q => h27 (p20.2.2.2.1.1.trans q)
       rw [if_neg z3]
       exact ⟨hz35, m20, p20, R20⟩)
    | (rw [if_pos z3]
       exact ⟨hz35, mfr_tr m20 hr35.2.1 (fun k q => q.elim id id) (fun i q => q.elim id (fun e => absurd e id)), PM_r p20 (mfr_mo hr35.2.1 (fun k q => q) (fun i q => absurd q id)), hr35.2.2⟩)

