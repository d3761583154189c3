abbrev mX10_printerLine : zM := (yX10_printerLine, cX10_printerLine, 4, none, [])
theorem okX10_printerLine : zMok mX10_printerLine 0 := ⟨by decide, by decide, by decide +kernel⟩
theorem dX10_printerLine_0 : decode cX10_printerLine 0 = .ok (.aload_n 0, 1) := by decide +kernel
theorem dX10_printerLine_1 : decode cX10_printerLine 1 = .ok (.ldc_w 285, 3) := by decide +kernel
theorem dX10_printerLine_4 : decode cX10_printerLine 4 = .ok (.aload_n 0, 1) := by decide +kernel
theorem dX10_printerLine_5 : decode cX10_printerLine 5 = .ok (.getfield 7, 3) := by decide +kernel
theorem dX10_printerLine_8 : decode cX10_printerLine 8 = .ok (.iconst 0, 1) := by decide +kernel
theorem dX10_printerLine_9 : decode cX10_printerLine 9 = .ok (.iaload, 1) := by decide +kernel
theorem dX10_printerLine_10 : decode cX10_printerLine 10 = .ok (.bipush 8, 2) := by decide +kernel
theorem dX10_printerLine_12 : decode cX10_printerLine 12 = .ok (.invokevirtual 287, 3) := by decide +kernel
theorem dX10_printerLine_15 : decode cX10_printerLine 15 = .ok (.ifCond .ne 4, 3) := by decide +kernel
theorem dX10_printerLine_19 : decode cX10_printerLine 19 = .ok (.aload_n 0, 1) := by decide +kernel
theorem dX10_printerLine_20 : decode cX10_printerLine 20 = .ok (.invokevirtual 291, 3) := by decide +kernel
theorem cw_RX10_291 : zCwV RX10 291 mX10_newName := zall [1559, 1561, 31, 128, 1562] (by decide +kernel) (by decide +kernel)
theorem dX10_printerLine_23 : decode cX10_printerLine 23 = .ok (.aload_n 0, 1) := by decide +kernel
theorem dX10_printerLine_24 : decode cX10_printerLine 24 = .ok (.iconst 0, 1) := by decide +kernel
theorem dX10_printerLine_25 : decode cX10_printerLine 25 = .ok (.bipush 9, 2) := by decide +kernel
theorem dX10_printerLine_27 : decode cX10_printerLine 27 = .ok (.invokevirtual 282, 3) := by decide +kernel
theorem dX10_printerLine_30 : decode cX10_printerLine 30 = .ok (.istore_n 1, 1) := by decide +kernel
theorem dX10_printerLine_31 : decode cX10_printerLine 31 = .ok (.aload_n 0, 1) := by decide +kernel
theorem dX10_printerLine_32 : decode cX10_printerLine 32 = .ok (.invokevirtual 294, 3) := by decide +kernel
theorem dX10_printerLine_35 : decode cX10_printerLine 35 = .ok (.istore_n 2, 1) := by decide +kernel
theorem dX10_printerLine_36 : decode cX10_printerLine 36 = .ok (.aload_n 0, 1) := by decide +kernel
theorem dX10_printerLine_37 : decode cX10_printerLine 37 = .ok (.iload_n 2, 1) := by decide +kernel
theorem dX10_printerLine_38 : decode cX10_printerLine 38 = .ok (.sipush 1999, 3) := by decide +kernel
theorem dX10_printerLine_41 : decode cX10_printerLine 41 = .ok (.invokevirtual 282, 3) := by decide +kernel
theorem dX10_printerLine_44 : decode cX10_printerLine 44 = .ok (.istore_n 3, 1) := by decide +kernel
theorem dX10_printerLine_45 : decode cX10_printerLine 45 = .ok (.aload_n 0, 1) := by decide +kernel
theorem dX10_printerLine_46 : decode cX10_printerLine 46 = .ok (.invokevirtual 297, 3) := by decide +kernel
theorem dX10_printerLine_49 : decode cX10_printerLine 49 = .ok (.aload_n 0, 1) := by decide +kernel
theorem dX10_printerLine_50 : decode cX10_printerLine 50 = .ok (.getfield 243, 3) := by decide +kernel
theorem dX10_printerLine_53 : decode cX10_printerLine 53 = .ok (.ifCond .eq 4, 3) := by decide +kernel
theorem dX10_printerLine_57 : decode cX10_printerLine 57 = .ok (.aload_n 0, 1) := by decide +kernel
theorem dX10_printerLine_58 : decode cX10_printerLine 58 = .ok (.aload_n 0, 1) := by decide +kernel
theorem dX10_printerLine_59 : decode cX10_printerLine 59 = .ok (.getfield 7, 3) := by decide +kernel
theorem dX10_printerLine_62 : decode cX10_printerLine 62 = .ok (.iconst 0, 1) := by decide +kernel
theorem dX10_printerLine_63 : decode cX10_printerLine 63 = .ok (.iaload, 1) := by decide +kernel
theorem dX10_printerLine_64 : decode cX10_printerLine 64 = .ok (.bipush 7, 2) := by decide +kernel
theorem dX10_printerLine_66 : decode cX10_printerLine 66 = .ok (.iload_n 1, 1) := by decide +kernel
theorem dX10_printerLine_67 : decode cX10_printerLine 67 = .ok (.invokevirtual 98, 3) := by decide +kernel
theorem dX10_printerLine_70 : decode cX10_printerLine 70 = .ok (.aload_n 0, 1) := by decide +kernel
theorem dX10_printerLine_71 : decode cX10_printerLine 71 = .ok (.aload_n 0, 1) := by decide +kernel
theorem dX10_printerLine_72 : decode cX10_printerLine 72 = .ok (.getfield 7, 3) := by decide +kernel
theorem dX10_printerLine_75 : decode cX10_printerLine 75 = .ok (.iconst 0, 1) := by decide +kernel
theorem dX10_printerLine_76 : decode cX10_printerLine 76 = .ok (.iaload, 1) := by decide +kernel
theorem dX10_printerLine_77 : decode cX10_printerLine 77 = .ok (.bipush 8, 2) := by decide +kernel
theorem dX10_printerLine_79 : decode cX10_printerLine 79 = .ok (.iload_n 2, 1) := by decide +kernel
theorem dX10_printerLine_80 : decode cX10_printerLine 80 = .ok (.invokevirtual 98, 3) := by decide +kernel
theorem dX10_printerLine_83 : decode cX10_printerLine 83 = .ok (.aload_n 0, 1) := by decide +kernel
theorem dX10_printerLine_84 : decode cX10_printerLine 84 = .ok (.aload_n 0, 1) := by decide +kernel
theorem dX10_printerLine_85 : decode cX10_printerLine 85 = .ok (.getfield 7, 3) := by decide +kernel
theorem dX10_printerLine_88 : decode cX10_printerLine 88 = .ok (.iconst 0, 1) := by decide +kernel
theorem dX10_printerLine_89 : decode cX10_printerLine 89 = .ok (.iaload, 1) := by decide +kernel
theorem dX10_printerLine_90 : decode cX10_printerLine 90 = .ok (.bipush 9, 2) := by decide +kernel
theorem dX10_printerLine_92 : decode cX10_printerLine 92 = .ok (.iload_n 3, 1) := by decide +kernel
theorem dX10_printerLine_93 : decode cX10_printerLine 93 = .ok (.invokevirtual 98, 3) := by decide +kernel
theorem dX10_printerLine_96 : decode cX10_printerLine 96 = .ok (.aload_n 0, 1) := by decide +kernel
theorem dX10_printerLine_97 : decode cX10_printerLine 97 = .ok (.getfield 7, 3) := by decide +kernel
theorem dX10_printerLine_100 : decode cX10_printerLine 100 = .ok (.iconst 0, 1) := by decide +kernel
theorem dX10_printerLine_101 : decode cX10_printerLine 101 = .ok (.dup2, 1) := by decide +kernel
theorem dX10_printerLine_102 : decode cX10_printerLine 102 = .ok (.iaload, 1) := by decide +kernel
theorem dX10_printerLine_103 : decode cX10_printerLine 103 = .ok (.iconst 1, 1) := by decide +kernel
theorem dX10_printerLine_104 : decode cX10_printerLine 104 = .ok (.iadd, 1) := by decide +kernel
theorem dX10_printerLine_105 : decode cX10_printerLine 105 = .ok (.iastore, 1) := by decide +kernel
theorem dX10_printerLine_106 : decode cX10_printerLine 106 = .ok (.return_, 1) := by decide +kernel
theorem dX10_printerLine_56 : decode cX10_printerLine 56 = .ok (.return_, 1) := by decide +kernel
theorem dX10_printerLine_18 : decode cX10_printerLine 18 = .ok (.return_, 1) := by decide +kernel
/-! a new printer on the row -/
def Z0 (D : zBk) (r : Nat → Int) : Prop := ∀ p : Nat, D 1 0 ≤ (p : Int) → p < 8 → r (4 + 12 * p + 10) = 0 ∧ r (4 + 12 * p + 11) = 0
theorem Rel_P {D : zBk} {r r' : Nat → Int} (w : WF D) (h : Rel D r) (hP : D 1 0 < 8) (k : ∀ i, (i < 4 + 12 * (D 1 0).toNat ∨ 4 + 12 * (D 1 0).toNat + 11 < i) → r' i = r i) : Rel D r' := by
  have hn := w.1
  unfold WFn at hn
  obtain ⟨a1, a2, a3, a4, a5⟩ := h
  refine ⟨⟨?_, ?_, ?_, ?_⟩, fun p hp => ⟨?_, fun o h1 h2 => ?_⟩, fun q hq => ?_, fun q hq => ?_, fun c hc o ho => ?_⟩
  · rw [k 0 (by omega)]; exact a1.1
  · rw [k 1 (by omega)]; exact a1.2.1
  · rw [k 2 (by omega)]; exact a1.2.2.1
  · rw [k 3 (by omega)]; exact a1.2.2.2
  · exact nmOK_e (a2 p hp).1 (fun j hj => k _ (by omega)) rfl
  · rw [k _ (by omega)]; exact (a2 p hp).2 o h1 h2
  · rw [k _ (by omega), k _ (by omega)]; exact a3 q hq
  · rw [k _ (by omega), k _ (by omega)]; exact a4 q hq
  · rw [k _ (by omega)]; exact a5 c hc o ho
theorem Rel_adP {D : zBk} {r r' f : Nat → Int} {ct fi la : Int} {m : Nat} (w : WF D) (h : Rel D r) (hP : D 1 0 < 8) (e0 : r' 0 = D 1 0 + 1) (k : ∀ i, i ≠ 0 → (i < 4 + 12 * (D 1 0).toNat ∨ 4 + 12 * (D 1 0).toNat + 11 < i) → r' i = r i)
    (m1 : 1 ≤ m ∧ m ≤ 6) (c0 : r' (4 + 12 * (D 1 0).toNat) = (m : Int)) (cl : ∀ i, i < m → r' (4 + 12 * (D 1 0).toNat + 1 + i) = f i) (hf : ∀ i, i < m → 97 ≤ f i ∧ f i ≤ 122)
    (c7 : r' (4 + 12 * (D 1 0).toNat + 7) = ct) (c8 : r' (4 + 12 * (D 1 0).toNat + 8) = fi) (c9 : r' (4 + 12 * (D 1 0).toNat + 9) = la) (c10 : r' (4 + 12 * (D 1 0).toNat + 10) = 0) (c11 : r' (4 + 12 * (D 1 0).toNat + 11) = 0) : Rel (adP D (pkF f m) ct fi la) r' := by
  have hn := w.1
  unfold WFn at hn
  obtain ⟨a1, a2, a3, a4, a5⟩ := h
  have g : ∀ o i, 8 ≤ o → adP D (pkF f m) ct fi la o i = D o i := fun o i h => by unfold adP; rw [if_neg (by omega), if_neg (by omega)]
  have g0 : adP D (pkF f m) ct fi la 1 0 = D 1 0 + 1 := if_pos ⟨rfl, rfl⟩
  have g1 : ∀ i, i ≠ 0 → adP D (pkF f m) ct fi la 1 i = D 1 i := fun i h => by unfold adP; rw [if_neg (by omega), if_neg (by omega)]
  have gP : ∀ o (p : Nat), 2 ≤ o → ¬ (p : Int) = D 1 0 → adP D (pkF f m) ct fi la o p = D o p := fun o p ho hp => by unfold adP; rw [if_neg (by omega), if_neg (fun q => hp q.1)]
  refine ⟨⟨?_, ?_, ?_, ?_⟩, fun p hp => ?_, fun q hq => ?_, fun q hq => ?_, fun c hc o ho => ?_⟩
  · rw [e0, g0]
  · rw [k 1 (by omega) (by omega), g1 7 (by decide)]; exact a1.2.1
  · rw [k 2 (by omega) (by omega), g1 10 (by decide)]; exact a1.2.2.1
  · rw [k 3 (by omega) (by omega), g 12 0 (by decide)]; exact a1.2.2.2
  · rw [g0] at hp
    by_cases c : (p : Int) = D 1 0
    · have ep : (D 1 0).toNat = p := by omega
      rw [ep] at c0 cl c7 c8 c9 c10 c11
      have v : ∀ o, 2 ≤ o → o ≤ 7 → adP D (pkF f m) ct fi la o p = if o = 2 then pkF f m else if o = 3 then ct else if o = 4 then fi else if o = 5 then la else 0 := fun o h1 h2 => by unfold adP; rw [if_neg (by omega), if_pos ⟨c, h1, h2⟩]
      refine ⟨⟨by omega, fun i hi => ?_, ?_⟩, fun o h1 h2 => ?_⟩
      · rw [cl i (by omega)]; exact hf i (by omega)
      · rw [v 2 (by omega) (by omega), if_pos rfl, c0, Int.toNat_natCast]
        exact pkF_cg (fun i hi => (cl i hi).symm)
      · rw [v (o - 4) (by omega) (by omega)]
        rcases (by omega : o = 7 ∨ o = 8 ∨ o = 9 ∨ o = 10 ∨ o = 11) with rfl | rfl | rfl | rfl | rfl
        · exact c7
        · exact c8
        · exact c9
        · exact c10
        · exact c11
    · exact ⟨nmOK_e (a2 p (by omega)).1 (fun j hj => k _ (by omega) (by omega)) (gP 2 p (by omega) c), fun o h1 h2 => by rw [k _ (by omega) (by omega), gP (o - 4) p (by omega) c]; exact (a2 p (by omega)).2 o h1 h2⟩
  · rw [g1 7 (by decide)] at hq
    rw [g 8 q (by decide), g 9 q (by decide), k _ (by omega) (by omega), k _ (by omega) (by omega)]; exact a3 q hq
  · rw [g1 10 (by decide)] at hq
    rw [g 10 q (by decide), g 11 q (by decide), k _ (by omega) (by omega), k _ (by omega) (by omega)]; exact a4 q hq
  · rw [g 12 0 (by decide)] at hc
    rw [k _ (by omega) (by omega), g (13 + o) c (by omega)]; exact a5 c hc o ho
theorem Z0_e {D : zBk} {r r' : Nat → Int} (h : Z0 D r) (k : ∀ p, p < 8 → r' (4 + 12 * p + 10) = r (4 + 12 * p + 10) ∧ r' (4 + 12 * p + 11) = r (4 + 12 * p + 11)) : Z0 D r' := fun p h1 h2 => by
  rw [(k p h2).1, (k p h2).2]; exact h p h1 h2

set_option maxRecDepth 20000 in
set_option maxHeartbeats 2000000 in
theorem sX10_printerLine {l : Launch} {w : zW} (hfl : l.stackTraces = false) {σ : zS} {D : zBk} {t : Nat → Int} {n : Nat} {S : zP}  (hz : zOK σ) (hW : WF D) (hR : Rel D (σ.1 262)) (hU : PM t n S σ) (hZ : Z0 D (σ.1 262)) : Sp l w mX10_printerLine 6 0 [zf 10 261] σ (zqv (none) (fun τ => zOK τ ∧ ML σ τ ∧ PM t n (lS t n 0 7 (D 1 0 < 8) D S) τ ∧ Rel (lB t n 0 7 (D 1 0 < 8) D S) (τ.1 262) ∧ Z0 (lB t n 0 7 (D 1 0 < 8) D S) (τ.1 262))) := by
  obtain ⟨Q, hQ⟩ : ∃ Q : zQ, Q = (zqv (none) (fun τ => zOK τ ∧ ML σ τ ∧ PM t n (lS t n 0 7 (D 1 0 < 8) D S) τ ∧ Rel (lB t n 0 7 (D 1 0 < 8) D S) (τ.1 262) ∧ Z0 (lB t n 0 7 (D 1 0 < 8) D S) (τ.1 262))) := ⟨_, rfl⟩
  rw [← hQ]
  refine zx_enter hfl (by decide) rfl 3 rfl ?_
  show zX l w mX10_printerLine (zMQ w 6 0 Q) 0 [zf 10 261, zu, zu, zu] [] 0 σ
  have hP : 0 ≤ D 1 0 ∧ D 1 0 ≤ 8 := hW.1.1
  have hM : 0 ≤ D 1 7 ∧ D 1 7 ≤ 8 := hW.1.2.1
  have hE : 0 ≤ D 1 10 ∧ D 1 10 ≤ 12 := hW.1.2.2.1
  have hK : 0 ≤ D 12 0 ∧ D 12 0 ≤ 40 := hW.1.2.2.2
  have r0 : σ.1 262 0 = D 1 0 := hR.1.1
  have r1 : σ.1 262 1 = D 1 7 := hR.1.2.1
  have r2 : σ.1 262 2 = D 1 10 := hR.1.2.2.1
  have r3 : σ.1 262 3 = D 12 0 := hR.1.2.2.2
  have hP8 := hW.1.1
  refine zx_aloadN dX10_printerLine_0 rfl rfl ?_
  refine zx_ldcSw (List.mem_of_getElem? (i := 39) rfl) (by decide) dX10_printerLine_1 ?_
  refine zx_aloadN dX10_printerLine_4 rfl rfl ?_
  refine zy_getR (q' := 262) fl_RX10_7 rfl dX10_printerLine_5 rfl ?_
  refine zx_iconst dX10_printerLine_8 ?_
  refine zy_iald (v := σ.1 262 0) rfl (by decide) (by decide) dX10_printerLine_9 (by omega) (by omega) rfl ?_
  refine zy_top (b := D 1 0) (hR.1.1) ?_
  refine zx_bipush dX10_printerLine_10 rfl ?_
  refine zy_cvR [zf 100 7, zi (D 1 0), zi 8] (sX10_starts (j := 7) (a := (D 1 0)) (b := 8) hfl hz hU (by decide) (by first | exact hz _ _ | assumption | exact zr_b _ | exact zcmp_r _ _ | exact (f27 ▸ hv27) | exact (f32 ▸ hv32) | exact (f41 ▸ hv41) | (unfold zr at *; omega)) (by first | exact hz _ _ | assumption | exact zr_b _ | exact zcmp_r _ _ | exact (f27 ▸ hv27) | exact (f32 ▸ hv32) | exact (f41 ▸ hv41) | (unfold zr at *; omega))) dX10_printerLine_12 (by decide) rfl cw_RX10_287 okX10_starts rfl (Nat.le_of_ble_eq_true rfl) ⟨Nat.le_of_ble_eq_true rfl, Nat.le_of_ble_eq_true rfl, Nat.le_of_ble_eq_true rfl, Nat.le_of_ble_eq_true rfl⟩ (fun τ12 hr12 => ?_)
  have hz12 : zOK τ12 := hr12.1
  have m0 : ML σ τ12 := ML_x (ML_rf _) hr12.2.1
  have R0 : Rel D (τ12.1 262) := MX_R hr12.2.1 hR
  have p0 := hr12.2.2
  refine zx_if_ne (tgt := 19) (by first | exact hz12 _ _ | assumption | exact zr_b _ | exact zcmp_r _ _ | exact (f27 ▸ hv27) | exact (f32 ▸ hv32) | exact (f41 ▸ hv41) | (unfold zr at *; omega)) dX10_printerLine_15 (by decide) (fun h15 => ?_) (fun h15 => ?_)
  · have h15 := zb_n.mp h15
    obtain ⟨z, hw, hA, hpw⟩ := pW_s h15
    have pS : PM t n (pN t n S) τ12 := hpw ▸ p0
    refine zx_aloadN dX10_printerLine_19 rfl rfl ?_
    refine zy_cvvR [] (sX10_newName (D := D) (S := (pN t n S)) hfl hz12 (by first | assumption | omega) R0 pS hA) dX10_printerLine_20 (by decide) rfl cw_RX10_291 okX10_newName rfl (Nat.le_of_ble_eq_true rfl) ⟨Nat.le_of_ble_eq_true rfl, Nat.le_of_ble_eq_true rfl, Nat.le_of_ble_eq_true rfl, Nat.le_of_ble_eq_true rfl⟩ (fun τ20 hr20 => ?_)
    have hz20 : zOK τ20 := hr20.1
    have p20 : PM t n (q1 t n D (pN t n S)) τ20 := hr20.2.2.1
    have m20 : ML σ τ20 := ML_tr m0 hr20.2.1
    have R20 : Rel D (τ20.1 262) := Rel_P hW R0 hA (fun i hi => hr20.2.2.2.1 i (by omega))
    have c12 : ∀ i, τ12.1 262 i = σ.1 262 i := fun i => hr12.2.1.1 262 (fun q => q) (by decide) i
    have ZP : Z0 D (τ20.1 262) := fun p h1 h2 => by
      have q := hZ p h1 h2
      rw [hr20.2.2.2.1 _ (by omega), hr20.2.2.2.1 _ (by omega), c12, c12]; exact q
    refine zx_aloadN dX10_printerLine_23 rfl rfl ?_
    refine zx_iconst dX10_printerLine_24 ?_
    refine zx_bipush dX10_printerLine_25 rfl ?_
    refine zy_cvR [zi 0, zi 9] (sX10_number (S := (q1 t n D (pN t n S))) (a := 0) (b := 9) hfl hz20 p20 (by first | exact hz20 _ _ | assumption | exact zr_b _ | exact zcmp_r _ _ | exact (f27 ▸ hv27) | exact (f32 ▸ hv32) | exact (f41 ▸ hv41) | (unfold zr at *; omega)) (by first | exact hz20 _ _ | assumption | exact zr_b _ | exact zcmp_r _ _ | exact (f27 ▸ hv27) | exact (f32 ▸ hv32) | exact (f41 ▸ hv41) | (unfold zr at *; omega))) dX10_printerLine_27 (by decide) rfl cw_RX10_282 okX10_number rfl (Nat.le_of_ble_eq_true rfl) ⟨Nat.le_of_ble_eq_true rfl, Nat.le_of_ble_eq_true rfl, Nat.le_of_ble_eq_true rfl, Nat.le_of_ble_eq_true rfl⟩ (fun τ27 hr27 => ?_)
    have hz27 : zOK τ27 := hr27.1
    refine zy_top (b := if (q2 t n D (pN t n S)).2.1 = 0 then pV t n (q1 t n D (pN t n S)).1 else 0) (rfl) ?_
    have p27 : PM t n (q2 t n D (pN t n S)) τ27 := hr27.2.2
    have m27 : ML σ τ27 := ML_x m20 hr27.2.1
    have R27 : Rel D (τ27.1 262) := MX_R hr27.2.1 R20
    have c27 : ∀ i, τ27.1 262 i = τ20.1 262 i := fun i => (hr27.2.1.1 262 (fun q => q) (by decide) i).trans rfl
    have hv27 : zr (if (q2 t n D (pN t n S)).2.1 = 0 then pV t n (q1 t n D (pN t n S)).1 else 0) := by
      split
      · rename_i zz; have := pNum_v (S := q1 t n D (pN t n S)) (lo := 0) (hi := 9) zz; unfold zr; omega
      · unfold zr; omega
    refine zy_istoreN [zf 10 261, zi (if (q2 t n D (pN t n S)).2.1 = 0 then pV t n (q1 t n D (pN t n S)).1 else 0), zu, zu] dX10_printerLine_30 rfl (Nat.le_of_ble_eq_true rfl) (Nat.le_of_ble_eq_true rfl) rfl rfl ?_
    refine zx_aloadN dX10_printerLine_31 rfl rfl ?_
    refine zy_cvR [] (sX10_yearHere (S := (q2 t n D (pN t n S))) hfl hz27 p27) dX10_printerLine_32 (by decide) rfl cw_RX10_294 okX10_yearHere rfl (Nat.le_of_ble_eq_true rfl) ⟨Nat.le_of_ble_eq_true rfl, Nat.le_of_ble_eq_true rfl, Nat.le_of_ble_eq_true rfl, Nat.le_of_ble_eq_true rfl⟩ (fun τ32 hr32 => ?_)
    have hz32 : zOK τ32 := hr32.1
    refine zy_top (b := if (q3 t n D (pN t n S)).2.1 = 0 then pV t n (q2 t n D (pN t n S)).1 else 1450) (rfl) ?_
    have p32 : PM t n (q3 t n D (pN t n S)) τ32 := hr32.2.2
    have m32 : ML σ τ32 := ML_x m27 hr32.2.1
    have R32 : Rel D (τ32.1 262) := MX_R hr32.2.1 R27
    have c32 : ∀ i, τ32.1 262 i = τ20.1 262 i := fun i => (hr32.2.1.1 262 (fun q => q) (by decide) i).trans (c27 i)
    have hv32 : zr (if (q3 t n D (pN t n S)).2.1 = 0 then pV t n (q2 t n D (pN t n S)).1 else 1450) := by
      split
      · rename_i zz; have := pNum_v (S := q2 t n D (pN t n S)) (lo := 1450) (hi := 1999) zz; unfold zr; omega
      · unfold zr; omega
    refine zy_istoreN [zf 10 261, zi (if (q2 t n D (pN t n S)).2.1 = 0 then pV t n (q1 t n D (pN t n S)).1 else 0), zi (if (q3 t n D (pN t n S)).2.1 = 0 then pV t n (q2 t n D (pN t n S)).1 else 1450), zu] dX10_printerLine_35 rfl (Nat.le_of_ble_eq_true rfl) (Nat.le_of_ble_eq_true rfl) rfl rfl ?_
    refine zx_aloadN dX10_printerLine_36 rfl rfl ?_
    refine zx_iloadN dX10_printerLine_37 rfl rfl ?_
    refine zx_sipush dX10_printerLine_38 rfl ?_
    have e41 : pNum t n (q3 t n D (pN t n S)) (if (q3 t n D (pN t n S)).2.1 = 0 then pV t n (q2 t n D (pN t n S)).1 else 1450) 1999 = q4 t n D (pN t n S) := by
      unfold q4
      refine pNum_lo (fun q => ?_)
      rw [if_pos q]; exact ⟨rfl, rfl⟩
    refine zy_cvR [zi (if (q3 t n D (pN t n S)).2.1 = 0 then pV t n (q2 t n D (pN t n S)).1 else 1450), zi 1999] (sX10_number (S := (q3 t n D (pN t n S))) (a := (if (q3 t n D (pN t n S)).2.1 = 0 then pV t n (q2 t n D (pN t n S)).1 else 1450)) (b := 1999) hfl hz32 p32 (by first | exact hz32 _ _ | assumption | exact zr_b _ | exact zcmp_r _ _ | exact (f27 ▸ hv27) | exact (f32 ▸ hv32) | exact (f41 ▸ hv41) | (unfold zr at *; omega)) (by first | exact hz32 _ _ | assumption | exact zr_b _ | exact zcmp_r _ _ | exact (f27 ▸ hv27) | exact (f32 ▸ hv32) | exact (f41 ▸ hv41) | (unfold zr at *; omega))) dX10_printerLine_41 (by decide) rfl cw_RX10_282 okX10_number rfl (Nat.le_of_ble_eq_true rfl) ⟨Nat.le_of_ble_eq_true rfl, Nat.le_of_ble_eq_true rfl, Nat.le_of_ble_eq_true rfl, Nat.le_of_ble_eq_true rfl⟩ (fun τ41 hr41 => ?_)
    have hz41 : zOK τ41 := hr41.1
    refine zy_top (b := if (q4 t n D (pN t n S)).2.1 = 0 then pV t n (q3 t n D (pN t n S)).1 else if (q3 t n D (pN t n S)).2.1 = 0 then pV t n (q2 t n D (pN t n S)).1 else 1450) (by rw [e41]) ?_
    have p41 : PM t n (q4 t n D (pN t n S)) τ41 := by rw [← e41]; exact hr41.2.2
    have m41 : ML σ τ41 := ML_x m32 hr41.2.1
    have R41 : Rel D (τ41.1 262) := MX_R hr41.2.1 R32
    have c41 : ∀ i, τ41.1 262 i = τ20.1 262 i := fun i => (hr41.2.1.1 262 (fun q => q) (by decide) i).trans (c32 i)
    have hv41 : zr (if (q4 t n D (pN t n S)).2.1 = 0 then pV t n (q3 t n D (pN t n S)).1 else if (q3 t n D (pN t n S)).2.1 = 0 then pV t n (q2 t n D (pN t n S)).1 else 1450) := by
      split
      · rename_i zz; have := pNum_v (S := q3 t n D (pN t n S)) zz; unfold zr; omega
      · exact hv32
    refine zy_istoreN [zf 10 261, zi (if (q2 t n D (pN t n S)).2.1 = 0 then pV t n (q1 t n D (pN t n S)).1 else 0), zi (if (q3 t n D (pN t n S)).2.1 = 0 then pV t n (q2 t n D (pN t n S)).1 else 1450), zi (if (q4 t n D (pN t n S)).2.1 = 0 then pV t n (q3 t n D (pN t n S)).1 else if (q3 t n D (pN t n S)).2.1 = 0 then pV t n (q2 t n D (pN t n S)).1 else 1450)] dX10_printerLine_44 rfl (Nat.le_of_ble_eq_true rfl) (Nat.le_of_ble_eq_true rfl) rfl rfl ?_
    refine zx_aloadN dX10_printerLine_45 rfl rfl ?_
    refine zy_cvvR [] (sX10_semicolon (S := (q4 t n D (pN t n S))) hfl hz41 p41) dX10_printerLine_46 (by decide) rfl cw_RX10_297 okX10_semicolon rfl (Nat.le_of_ble_eq_true rfl) ⟨Nat.le_of_ble_eq_true rfl, Nat.le_of_ble_eq_true rfl, Nat.le_of_ble_eq_true rfl, Nat.le_of_ble_eq_true rfl⟩ (fun τ46 hr46 => ?_)
    have hz46 : zOK τ46 := hr46.1
    have p46 : PM t n (q5 t n D (pN t n S)) τ46 := hr46.2.2
    have m46 : ML σ τ46 := ML_x m41 hr46.2.1
    have R46 : Rel D (τ46.1 262) := MX_R hr46.2.1 R41
    have c46 : ∀ i, τ46.1 262 i = τ20.1 262 i := fun i => (hr46.2.1.1 262 (fun q => q) (by decide) i).trans (c41 i)
    refine zx_aloadN dX10_printerLine_49 rfl rfl ?_
    refine zy_getI fl_RX10_243 rfl dX10_printerLine_50 rfl ?_
    refine zx_if_eq (tgt := 57) (by first | exact hz46 _ _ | assumption | exact zr_b _ | exact zcmp_r _ _ | exact (f27 ▸ hv27) | exact (f32 ▸ hv32) | exact (f41 ▸ hv41) | (unfold zr at *; omega)) dX10_printerLine_53 (by decide) (fun h53 => ?_) (fun h53 => ?_)
    · have z5 : (q5 t n D (pN t n S)).2.1 = 0 := p46.2.2.2.1.1.symm.trans h53
      have z4 := (pSem_s (t := t) (n := n) (S := q4 t n D (pN t n S)) z5).1
      have s3 := pNum_s (t := t) (n := n) (S := q3 t n D (pN t n S)) z4
      have s2 := pNum_s (t := t) (n := n) (S := q2 t n D (pN t n S)) s3.1
      have s1 := pNum_s (t := t) (n := n) (S := q1 t n D (pN t n S)) s2.1
      obtain ⟨nm1, nm2, nm3⟩ := hr20.2.2.2.2 s1.1
      have f27 : (if (q2 t n D (pN t n S)).2.1 = 0 then pV t n (q1 t n D (pN t n S)).1 else 0) = pV t n (q1 t n D (pN t n S)).1 := if_pos s2.1
      have f32 : (if (q3 t n D (pN t n S)).2.1 = 0 then pV t n (q2 t n D (pN t n S)).1 else 1450) = pV t n (q2 t n D (pN t n S)).1 := if_pos s3.1
      have f41 : (if (q4 t n D (pN t n S)).2.1 = 0 then pV t n (q3 t n D (pN t n S)).1 else if (q3 t n D (pN t n S)).2.1 = 0 then pV t n (q2 t n D (pN t n S)).1 else 1450) = pV t n (q3 t n D (pN t n S)).1 := if_pos z4
      have r0 : τ46.1 262 0 = D 1 0 := R46.1.1
      have hxk : ¬ nmv t n (pN t n S) = 0 := fun q => by
        have e := s1.1
        unfold q1 at e
        rw [pNew_1 q] at e
        exact pF_nz (by decide) e
      obtain ⟨k1, l6, hnv, hlt⟩ := nmv_w hxk
      refine zx_aloadN dX10_printerLine_57 rfl rfl ?_
      refine zx_aloadN dX10_printerLine_58 rfl rfl ?_
      refine zy_getR (q' := 262) fl_RX10_7 rfl dX10_printerLine_59 rfl ?_
      refine zx_iconst dX10_printerLine_62 ?_
      refine zy_iald (v := τ46.1 262 0) rfl (by decide) (by decide) dX10_printerLine_63 (by omega) (by omega) rfl ?_
      refine zy_top (b := (((D 1 0).toNat : Nat) : Int)) (by rw [r0]; omega) ?_
      refine zx_bipush dX10_printerLine_64 rfl ?_
      refine zy_top (b := ((7 : Nat) : Int)) (rfl) ?_
      refine zx_iloadN dX10_printerLine_66 rfl rfl ?_
      refine zy_top (b := pV t n (q1 t n D (pN t n S)).1) (f27) ?_
      refine zy_cvv [zi (((D 1 0).toNat : Nat) : Int), zi ((7 : Nat) : Int), zi (pV t n (q1 t n D (pN t n S)).1)] (sX10_putsPrinter (c := ((D 1 0).toNat)) (o := 7) hfl hz46 (by first | assumption | omega) (by first | assumption | omega) (f27 ▸ hv27)) dX10_printerLine_67 (by decide) rfl cw_RX10_98 okX10_putsPrinter rfl (Nat.le_of_ble_eq_true rfl) ⟨Nat.le_of_ble_eq_true rfl, Nat.le_of_ble_eq_true rfl, Nat.le_of_ble_eq_true rfl, Nat.le_of_ble_eq_true rfl⟩ ?_
      refine zx_aloadN dX10_printerLine_70 rfl rfl ?_
      refine zx_aloadN dX10_printerLine_71 rfl rfl ?_
      refine zy_getR (q' := 262) fl_RX10_7 rfl dX10_printerLine_72 rfl ?_
      refine zx_iconst dX10_printerLine_75 ?_
      refine zy_iald (v := τ46.1 262 0) rfl (by decide) (by decide) dX10_printerLine_76 (by omega) (by omega) (zput_i _ _ _ _ _ (by omega)) ?_
      refine zy_top (b := (((D 1 0).toNat : Nat) : Int)) (by first | (rw [r0]; omega) | (rw [zput_i _ _ _ _ _ (by omega), r0]; omega)) ?_
      refine zx_bipush dX10_printerLine_77 rfl ?_
      refine zy_top (b := ((8 : Nat) : Int)) (rfl) ?_
      refine zx_iloadN dX10_printerLine_79 rfl rfl ?_
      refine zy_top (b := pV t n (q2 t n D (pN t n S)).1) (f32) ?_
      refine zy_cvv [zi (((D 1 0).toNat : Nat) : Int), zi ((8 : Nat) : Int), zi (pV t n (q2 t n D (pN t n S)).1)] (sX10_putsPrinter (c := ((D 1 0).toNat)) (o := 8) hfl (zOK_put hz46 (by first | assumption | exact zr_t _ | (unfold zr; omega))) (by first | assumption | omega) (by first | assumption | omega) (f32 ▸ hv32)) dX10_printerLine_80 (by decide) rfl cw_RX10_98 okX10_putsPrinter rfl (Nat.le_of_ble_eq_true rfl) ⟨Nat.le_of_ble_eq_true rfl, Nat.le_of_ble_eq_true rfl, Nat.le_of_ble_eq_true rfl, Nat.le_of_ble_eq_true rfl⟩ ?_
      refine zx_aloadN dX10_printerLine_83 rfl rfl ?_
      refine zx_aloadN dX10_printerLine_84 rfl rfl ?_
      refine zy_getR (q' := 262) fl_RX10_7 rfl dX10_printerLine_85 rfl ?_
      refine zx_iconst dX10_printerLine_88 ?_
      refine zy_iald (v := τ46.1 262 0) rfl (by decide) (by decide) dX10_printerLine_89 (by omega) (by omega) ((zput_i _ _ _ _ _ (by omega)).trans (zput_i _ _ _ _ _ (by omega))) ?_
      refine zy_top (b := (((D 1 0).toNat : Nat) : Int)) (by first | (rw [r0]; omega) | (rw [zput_i _ _ _ _ _ (by omega), zput_i _ _ _ _ _ (by omega), r0]; omega)) ?_
      refine zx_bipush dX10_printerLine_90 rfl ?_
      refine zy_top (b := ((9 : Nat) : Int)) (rfl) ?_
      refine zx_iloadN dX10_printerLine_92 rfl rfl ?_
      refine zy_top (b := pV t n (q3 t n D (pN t n S)).1) (f41) ?_
      refine zy_cvv [zi (((D 1 0).toNat : Nat) : Int), zi ((9 : Nat) : Int), zi (pV t n (q3 t n D (pN t n S)).1)] (sX10_putsPrinter (c := ((D 1 0).toNat)) (o := 9) hfl (zOK_put (zOK_put hz46 (by first | assumption | exact zr_t _ | (unfold zr; omega))) (by first | assumption | exact zr_t _ | (unfold zr; omega))) (by first | assumption | omega) (by first | assumption | omega) (f41 ▸ hv41)) dX10_printerLine_93 (by decide) rfl cw_RX10_98 okX10_putsPrinter rfl (Nat.le_of_ble_eq_true rfl) ⟨Nat.le_of_ble_eq_true rfl, Nat.le_of_ble_eq_true rfl, Nat.le_of_ble_eq_true rfl, Nat.le_of_ble_eq_true rfl⟩ ?_
      refine zx_aloadN dX10_printerLine_96 rfl rfl ?_
      refine zy_getR (q' := 262) fl_RX10_7 rfl dX10_printerLine_97 rfl ?_
      refine zx_iconst dX10_printerLine_100 ?_
      refine zx_dup2 rfl rfl dX10_printerLine_101 ?_
      refine zy_iald (v := τ46.1 262 0) rfl (by decide) (by decide) dX10_printerLine_102 (by omega) (by omega) ((zput_i _ _ _ _ _ (by omega)).trans ((zput_i _ _ _ _ _ (by omega)).trans (zput_i _ _ _ _ _ (by omega)))) ?_
      refine zy_top (b := D 1 0) (by first | exact r0 | (rw [zput_i _ _ _ _ _ (by omega), zput_i _ _ _ _ _ (by omega), zput_i _ _ _ _ _ (by omega), r0])) ?_
      refine zx_iconst dX10_printerLine_103 ?_
      refine zx_iadd dX10_printerLine_104 ?_
      refine zy_iast (i := 0) rfl (by decide) (by decide) dX10_printerLine_105 (by omega) (by omega) rfl ?_
      refine zx_vret rfl dX10_printerLine_106 ?_
      rw [hQ]
      refine ⟨rfl, ?_⟩
      first
      | (have hn : ¬ (pW t n S 7 (D 1 0 < 8)).2.1 = 0 := h15
         unfold lS lB
         rw [if_neg hn, if_neg hn]
         exact ⟨(zOK_put (zOK_put (zOK_put (zOK_put hz46 (by first | assumption | exact zr_t _ | (unfold zr; omega))) (by first | assumption | exact zr_t _ | (unfold zr; omega))) (by first | assumption | exact zr_t _ | (unfold zr; omega))) (by first | exact hz46 _ _ | assumption | exact zr_b _ | exact zcmp_r _ _ | exact (f27 ▸ hv27) | exact (f32 ▸ hv32) | exact (f41 ▸ hv41) | (unfold zr at *; omega))), m0, p0, R0, Z0_e hZ (fun p _ => ⟨hr12.2.1.1 262 (fun q => q) (by decide) _, hr12.2.1.1 262 (fun q => q) (by decide) _⟩)⟩)
      | (have z3 : ¬ (q5 t n D (pN t n S)).2.1 = 0 := fun q => h53 (p46.2.2.2.1.1.trans q)
         have e1 : lS t n 0 7 (D 1 0 < 8) D S = q5 t n D (pN t n S) := by unfold lS sStS; rw [if_pos h15, if_pos rfl]
         have e2 : lB t n 0 7 (D 1 0 < 8) D S = D := by
           have e3 : sStS t n 0 D (pN t n S) = q5 t n D (pN t n S) := by unfold sStS; rw [if_pos rfl]
           unfold lB sBk; rw [if_pos h15, e3, if_neg z3]
         rw [e1, e2]
         exact ⟨(zOK_put (zOK_put (zOK_put (zOK_put hz46 (by first | assumption | exact zr_t _ | (unfold zr; omega))) (by first | assumption | exact zr_t _ | (unfold zr; omega))) (by first | assumption | exact zr_t _ | (unfold zr; omega))) (by first | exact hz46 _ _ | assumption | exact zr_b _ | exact zcmp_r _ _ | exact (f27 ▸ hv27) | exact (f32 ▸ hv32) | exact (f41 ▸ hv41) | (unfold zr at *; omega))), m46, p46, R46, Z0_e ZP (fun p _ => ⟨c46 _, c46 _⟩)⟩)
      | (have e1 : lS t n 0 7 (D 1 0 < 8) D S = q5 t n D (pN t n S) := by unfold lS sStS; rw [if_pos h15, if_pos rfl]
         have e2 : lB t n 0 7 (D 1 0 < 8) D S = adP D (nmv t n (pN t n S)) (pV t n (q1 t n D (pN t n S)).1) (pV t n (q2 t n D (pN t n S)).1) (pV t n (q3 t n D (pN t n S)).1) := by
           have e3 : sStS t n 0 D (pN t n S) = q5 t n D (pN t n S) := by unfold sStS; rw [if_pos rfl]
           unfold lB sBk; rw [if_pos h15, e3, if_pos z5]; unfold sStB; rw [if_pos rfl]
         have zP := ZP (D 1 0).toNat (by omega) (by omega)
         have kk : ∀ i, i ≠ 0 → i ≠ 4 + 12 * (D 1 0).toNat + 7 → i ≠ 4 + 12 * (D 1 0).toNat + 8 → i ≠ 4 + 12 * (D 1 0).toNat + 9 → (zput (zput (zput (zput τ46 262 (4 + 12 * ((D 1 0).toNat) + 7) (pV t n (q1 t n D (pN t n S)).1)) 262 (4 + 12 * ((D 1 0).toNat) + 8) (pV t n (q2 t n D (pN t n S)).1)) 262 (4 + 12 * ((D 1 0).toNat) + 9) (pV t n (q3 t n D (pN t n S)).1)) 262 0 ((D 1 0) + 1)).1 262 i = τ46.1 262 i := fun i x1 x2 x3 x4 => by
           rw [zput_i _ _ _ _ _ (by omega), zput_i _ _ _ _ _ (by omega), zput_i _ _ _ _ _ (by omega), zput_i _ _ _ _ _ (by omega)]
         have aP0 : adP D (nmv t n (pN t n S)) (pV t n (q1 t n D (pN t n S)).1) (pV t n (q2 t n D (pN t n S)).1) (pV t n (q3 t n D (pN t n S)).1) 1 0 = D 1 0 + 1 := if_pos ⟨rfl, rfl⟩
         rw [e1, e2]
         refine ⟨(zOK_put (zOK_put (zOK_put (zOK_put hz46 (by first | assumption | exact zr_t _ | (unfold zr; omega))) (by first | assumption | exact zr_t _ | (unfold zr; omega))) (by first | assumption | exact zr_t _ | (unfold zr; omega))) (by first | exact hz46 _ _ | assumption | exact zr_b _ | exact zcmp_r _ _ | exact (f27 ▸ hv27) | exact (f32 ▸ hv32) | exact (f41 ▸ hv41) | (unfold zr at *; omega))), ML_p (ML_p (ML_p (ML_p m46))), PM_r p46 (mfr_put (mfr_put (mfr_put (mfr_put (mfr_rf _ _ _) rfl (by decide)) rfl (by decide)) rfl (by decide)) rfl (by decide)), ?_, fun p h1 h2 => ?_⟩
         · rw [hnv]
           refine Rel_adP (m := xW t n ((pN t n S)).1) (f := fun i => t (xS t n ((pN t n S)).1 + i)) hW R20 hA (zput_s _ _ _ _) (fun i x1 x2 => (kk i x1 (by omega) (by omega) (by omega)).trans (c46 i)) nm1 ((kk _ (by omega) (by omega) (by omega) (by omega)).trans ((c46 _).trans nm2)) (fun i hi => (kk _ (by omega) (by omega) (by omega) (by omega)).trans ((c46 _).trans (nm3 i hi))) (fun i hi => (hlt i hi).2) ?_ ?_ ?_ ?_ ?_
           · rw [zput_i _ _ _ _ _ (by omega), zput_i _ _ _ _ _ (by omega), zput_i _ _ _ _ _ (by omega)]; exact zput_s _ _ _ _
           · rw [zput_i _ _ _ _ _ (by omega), zput_i _ _ _ _ _ (by omega)]; exact zput_s _ _ _ _
           · rw [zput_i _ _ _ _ _ (by omega)]; exact zput_s _ _ _ _
           · exact (kk _ (by omega) (by omega) (by omega) (by omega)).trans ((c46 _).trans zP.1)
           · exact (kk _ (by omega) (by omega) (by omega) (by omega)).trans ((c46 _).trans zP.2)
         · rw [aP0] at h1
           have zp := ZP p (by omega) h2
           exact ⟨(kk _ (by omega) (by omega) (by omega) (by omega)).trans ((c46 _).trans zp.1), (kk _ (by omega) (by omega) (by omega) (by omega)).trans ((c46 _).trans zp.2)⟩)
    · refine zx_vret rfl dX10_printerLine_56 ?_
      rw [hQ]
      refine ⟨rfl, ?_⟩
      first
      | (have hn : ¬ (pW t n S 7 (D 1 0 < 8)).2.1 = 0 := h15
         unfold lS lB
         rw [if_neg hn, if_neg hn]
         exact ⟨hz46, m0, p0, R0, Z0_e hZ (fun p _ => ⟨hr12.2.1.1 262 (fun q => q) (by decide) _, hr12.2.1.1 262 (fun q => q) (by decide) _⟩)⟩)
      | (have z3 : ¬ (q5 t n D (pN t n S)).2.1 = 0 := fun q => h53 (p46.2.2.2.1.1.trans q)
         have e1 : lS t n 0 7 (D 1 0 < 8) D S = q5 t n D (pN t n S) := by unfold lS sStS; rw [if_pos h15, if_pos rfl]
         have e2 : lB t n 0 7 (D 1 0 < 8) D S = D := by
           have e3 : sStS t n 0 D (pN t n S) = q5 t n D (pN t n S) := by unfold sStS; rw [if_pos rfl]
           unfold lB sBk; rw [if_pos h15, e3, if_neg z3]
         rw [e1, e2]
         exact ⟨hz46, m46, p46, R46, Z0_e ZP (fun p _ => ⟨c46 _, c46 _⟩)⟩)
      | (have e1 : lS t n 0 7 (D 1 0 < 8) D S = q5 t n D (pN t n S) := by unfold lS sStS; rw [if_pos h15, if_pos rfl]
         have e2 : lB t n 0 7 (D 1 0 < 8) D S = adP D (nmv t n (pN t n S)) (pV t n (q1 t n D (pN t n S)).1) (pV t n (q2 t n D (pN t n S)).1) (pV t n (q3 t n D (pN t n S)).1) := by
           have e3 : sStS t n 0 D (pN t n S) = q5 t n D (pN t n S) := by unfold sStS; rw [if_pos rfl]
           unfold lB sBk; rw [if_pos h15, e3, if_pos z5]; unfold sStB; rw [if_pos rfl]
         have zP := ZP (D 1 0).toNat (by omega) (by omega)
         have kk : ∀ i, i ≠ 0 → i ≠ 4 + 12 * (D 1 0).toNat + 7 → i ≠ 4 + 12 * (D 1 0).toNat + 8 → i ≠ 4 + 12 * (D 1 0).toNat + 9 → τ46.1 262 i = τ46.1 262 i := fun i x1 x2 x3 x4 => by
           rw [zput_i _ _ _ _ _ (by omega), zput_i _ _ _ _ _ (by omega), zput_i _ _ _ _ _ (by omega), zput_i _ _ _ _ _ (by omega)]
         have aP0 : adP D (nmv t n (pN t n S)) (pV t n (q1 t n D (pN t n S)).1) (pV t n (q2 t n D (pN t n S)).1) (pV t n (q3 t n D (pN t n S)).1) 1 0 = D 1 0 + 1 := if_pos ⟨rfl, rfl⟩
         rw [e1, e2]
         refine ⟨hz46, ML_p (ML_p (ML_p (ML_p m46))), PM_r p46 (mfr_put (mfr_put (mfr_put (mfr_put (mfr_rf _ _ _) rfl (by decide)) rfl (by decide)) rfl (by decide)) rfl (by decide)), ?_, fun p h1 h2 => ?_⟩
         · rw [hnv]
           refine Rel_adP (m := xW t n ((pN t n S)).1) (f := fun i => t (xS t n ((pN t n S)).1 + i)) hW R20 hA (zput_s _ _ _ _) (fun i x1 x2 => (kk i x1 (by omega) (by omega) (by omega)).trans (c46 i)) nm1 ((kk _ (by omega) (by omega) (by omega) (by omega)).trans ((c46 _).trans nm2)) (fun i hi => (kk _ (by omega) (by omega) (by omega) (by omega)).trans ((c46 _).trans (nm3 i hi))) (fun i hi => (hlt i hi).2) ?_ ?_ ?_ ?_ ?_
           · rw [zput_i _ _ _ _ _ (by omega), zput_i _ _ _ _ _ (by omega), zput_i _ _ _ _ _ (by omega)]; exact zput_s _ _ _ _
           · rw [zput_i _ _ _ _ _ (by omega), zput_i _ _ _ _ _ (by omega)]; exact zput_s _ _ _ _
           · rw [zput_i _ _ _ _ _ (by omega)]; exact zput_s _ _ _ _
           · exact (kk _ (by omega) (by omega) (by omega) (by omega)).trans ((c46 _).trans zP.1)
           · exact (kk _ (by omega) (by omega) (by omega) (by omega)).trans ((c46 _).trans zP.2)
         · rw [aP0] at h1
           have zp := ZP p (by omega) h2
           exact ⟨(kk _ (by omega) (by omega) (by omega) (by omega)).trans ((c46 _).trans zp.1), (kk _ (by omega) (by omega) (by omega) (by omega)).trans ((c46 _).trans zp.2)⟩)
  · have h15 := zb_0.mp h15
    refine zx_vret rfl dX10_printerLine_18 ?_
    rw [hQ]
    refine ⟨rfl, ?_⟩
    first
    | (have hn : ¬ (pW t n S 7 (D 1 0 < 8)).2.1 = 0 := h15
       unfold lS lB
       rw [if_neg hn, if_neg hn]
       exact ⟨hz12, m0, p0, R0, Z0_e hZ (fun p _ => ⟨hr12.2.1.1 262 (fun q => q) (by decide) _, hr12.2.1.1 262 (fun q => q) (by decide) _⟩)⟩)
    | (have z3 : ¬ (q5 t n D (pN t n S)).2.1 = 0 := fun q => h53 (p46.2.2.2.1.1.trans q)
       have e1 : lS t n 0 7 (D 1 0 < 8) D S = q5 t n D (pN t n S) := by unfold lS sStS; rw [if_pos h15, if_pos rfl]
       have e2 : lB t n 0 7 (D 1 0 < 8) D S = D := by
         have e3 : sStS t n 0 D (pN t n S) = q5 t n D (pN t n S) := by unfold sStS; rw [if_pos rfl]
         unfold lB sBk; rw [if_pos h15, e3, if_neg z3]
       rw [e1, e2]
       exact ⟨hz12, m46, p46, R46, Z0_e ZP (fun p _ => ⟨c46 _, c46 _⟩)⟩)
    | (have e1 : lS t n 0 7 (D 1 0 < 8) D S = q5 t n D (pN t n S) := by unfold lS sStS; rw [if_pos h15, if_pos rfl]
       have e2 : lB t n 0 7 (D 1 0 < 8) D S = adP D (nmv t n (pN t n S)) (pV t n (q1 t n D (pN t n S)).1) (pV t n (q2 t n D (pN t n S)).1) (pV t n (q3 t n D (pN t n S)).1) := by
         have e3 : sStS t n 0 D (pN t n S) = q5 t n D (pN t n S) := by unfold sStS; rw [if_pos rfl]
         unfold lB sBk; rw [if_pos h15, e3, if_pos z5]; unfold sStB; rw [if_pos rfl]
       have zP := ZP (D 1 0).toNat (by omega) (by omega)
       have kk : ∀ i, i ≠ 0 → i ≠ 4 + 12 * (D 1 0).toNat + 7 → i ≠ 4 + 12 * (D 1 0).toNat + 8 → i ≠ 4 + 12 * (D 1 0).toNat + 9 → τ12.1 262 i = τ46.1 262 i := fun i x1 x2 x3 x4 => by
         rw [zput_i _ _ _ _ _ (by omega), zput_i _ _ _ _ _ (by omega), zput_i _ _ _ _ _ (by omega), zput_i _ _ _ _ _ (by omega)]
       have aP0 : adP D (nmv t n (pN t n S)) (pV t n (q1 t n D (pN t n S)).1) (pV t n (q2 t n D (pN t n S)).1) (pV t n (q3 t n D (pN t n S)).1) 1 0 = D 1 0 + 1 := if_pos ⟨rfl, rfl⟩
       rw [e1, e2]
       refine ⟨hz12, ML_p (ML_p (ML_p (ML_p m46))), PM_r p46 (mfr_put (mfr_put (mfr_put (mfr_put (mfr_rf _ _ _) rfl (by decide)) rfl (by decide)) rfl (by decide)) rfl (by decide)), ?_, fun p h1 h2 => ?_⟩
       · rw [hnv]
         refine Rel_adP (m := xW t n ((pN t n S)).1) (f := fun i => t (xS t n ((pN t n S)).1 + i)) hW R20 hA (zput_s _ _ _ _) (fun i x1 x2 => (kk i x1 (by omega) (by omega) (by omega)).trans (c46 i)) nm1 ((kk _ (by omega) (by omega) (by omega) (by omega)).trans ((c46 _).trans nm2)) (fun i hi => (kk _ (by omega) (by omega) (by omega) (by omega)).trans ((c46 _).trans (nm3 i hi))) (fun i hi => (hlt i hi).2) ?_ ?_ ?_ ?_ ?_
         · rw [zput_i _ _ _ _ _ (by omega), zput_i _ _ _ _ _ (by omega), zput_i _ _ _ _ _ (by omega)]; exact zput_s _ _ _ _
         · rw [zput_i _ _ _ _ _ (by omega), zput_i _ _ _ _ _ (by omega)]; exact zput_s _ _ _ _
         · rw [zput_i _ _ _ _ _ (by omega)]; exact zput_s _ _ _ _
         · exact (kk _ (by omega) (by omega) (by omega) (by omega)).trans ((c46 _).trans zP.1)
         · exact (kk _ (by omega) (by omega) (by omega) (by omega)).trans ((c46 _).trans zP.2)
       · rw [aP0] at h1
         have zp := ZP p (by omega) h2
         exact ⟨(kk _ (by omega) (by omega) (by omega) (by omega)).trans ((c46 _).trans zp.1), (kk _ (by omega) (by omega) (by omega) (by omega)).trans ((c46 _).trans zp.2)⟩)

