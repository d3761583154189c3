abbrev mX10_doesOne : zM := (yX10_doesOne, cX10_doesOne, 5, (some .boolean), [])
theorem okX10_doesOne : zMok mX10_doesOne 1 := ⟨by decide, by decide, by decide +kernel⟩
theorem dX10_doesOne_0 : decode cX10_doesOne 0 = .ok (.aload_n 0, 1) := by decide +kernel
theorem dX10_doesOne_1 : decode cX10_doesOne 1 = .ok (.getfield 38, 3) := by decide +kernel
theorem dX10_doesOne_4 : decode cX10_doesOne 4 = .ok (.iload_n 1, 1) := by decide +kernel
theorem dX10_doesOne_5 : decode cX10_doesOne 5 = .ok (.iconst 1, 1) := by decide +kernel
theorem dX10_doesOne_6 : decode cX10_doesOne 6 = .ok (.iadd, 1) := by decide +kernel
theorem dX10_doesOne_7 : decode cX10_doesOne 7 = .ok (.iaload, 1) := by decide +kernel
theorem dX10_doesOne_8 : decode cX10_doesOne 8 = .ok (.istore_n 2, 1) := by decide +kernel
theorem dX10_doesOne_9 : decode cX10_doesOne 9 = .ok (.aload_n 0, 1) := by decide +kernel
theorem dX10_doesOne_10 : decode cX10_doesOne 10 = .ok (.getfield 38, 3) := by decide +kernel
theorem dX10_doesOne_13 : decode cX10_doesOne 13 = .ok (.iload_n 1, 1) := by decide +kernel
theorem dX10_doesOne_14 : decode cX10_doesOne 14 = .ok (.iconst 2, 1) := by decide +kernel
theorem dX10_doesOne_15 : decode cX10_doesOne 15 = .ok (.iadd, 1) := by decide +kernel
theorem dX10_doesOne_16 : decode cX10_doesOne 16 = .ok (.iaload, 1) := by decide +kernel
theorem dX10_doesOne_17 : decode cX10_doesOne 17 = .ok (.istore_n 3, 1) := by decide +kernel
theorem dX10_doesOne_18 : decode cX10_doesOne 18 = .ok (.aload_n 0, 1) := by decide +kernel
theorem dX10_doesOne_19 : decode cX10_doesOne 19 = .ok (.getfield 38, 3) := by decide +kernel
theorem dX10_doesOne_22 : decode cX10_doesOne 22 = .ok (.iload_n 1, 1) := by decide +kernel
theorem dX10_doesOne_23 : decode cX10_doesOne 23 = .ok (.iconst 3, 1) := by decide +kernel
theorem dX10_doesOne_24 : decode cX10_doesOne 24 = .ok (.iadd, 1) := by decide +kernel
theorem dX10_doesOne_25 : decode cX10_doesOne 25 = .ok (.iaload, 1) := by decide +kernel
theorem dX10_doesOne_26 : decode cX10_doesOne 26 = .ok (.istore 4, 2) := by decide +kernel
theorem dX10_doesOne_28 : decode cX10_doesOne 28 = .ok (.aload_n 0, 1) := by decide +kernel
theorem dX10_doesOne_29 : decode cX10_doesOne 29 = .ok (.getfield 38, 3) := by decide +kernel
theorem dX10_doesOne_32 : decode cX10_doesOne 32 = .ok (.iload_n 1, 1) := by decide +kernel
theorem dX10_doesOne_33 : decode cX10_doesOne 33 = .ok (.iaload, 1) := by decide +kernel
theorem dX10_doesOne_34 : decode cX10_doesOne 34 = .ok (.tableswitch 78 0 4 #[34, 51, 57, 64, 71], 34) := by decide +kernel
theorem dX10_doesOne_68 : decode cX10_doesOne 68 = .ok (.aload_n 0, 1) := by decide +kernel
theorem dX10_doesOne_69 : decode cX10_doesOne 69 = .ok (.iload_n 2, 1) := by decide +kernel
theorem dX10_doesOne_70 : decode cX10_doesOne 70 = .ok (.iload_n 3, 1) := by decide +kernel
theorem dX10_doesOne_71 : decode cX10_doesOne 71 = .ok (.iload 4, 2) := by decide +kernel
theorem dX10_doesOne_73 : decode cX10_doesOne 73 = .ok (.aload_n 0, 1) := by decide +kernel
theorem dX10_doesOne_74 : decode cX10_doesOne 74 = .ok (.getfield 38, 3) := by decide +kernel
theorem dX10_doesOne_77 : decode cX10_doesOne 77 = .ok (.iload_n 1, 1) := by decide +kernel
theorem dX10_doesOne_78 : decode cX10_doesOne 78 = .ok (.iconst 4, 1) := by decide +kernel
theorem dX10_doesOne_79 : decode cX10_doesOne 79 = .ok (.iadd, 1) := by decide +kernel
theorem dX10_doesOne_80 : decode cX10_doesOne 80 = .ok (.iaload, 1) := by decide +kernel
theorem dX10_doesOne_81 : decode cX10_doesOne 81 = .ok (.invokevirtual 372, 3) := by decide +kernel
theorem dX10_doesOne_84 : decode cX10_doesOne 84 = .ok (.ireturn, 1) := by decide +kernel
theorem dX10_doesOne_85 : decode cX10_doesOne 85 = .ok (.aload_n 0, 1) := by decide +kernel
theorem dX10_doesOne_86 : decode cX10_doesOne 86 = .ok (.iload_n 2, 1) := by decide +kernel
theorem dX10_doesOne_87 : decode cX10_doesOne 87 = .ok (.invokevirtual 375, 3) := by decide +kernel
theorem dX10_doesOne_90 : decode cX10_doesOne 90 = .ok (.ireturn, 1) := by decide +kernel
theorem dX10_doesOne_91 : decode cX10_doesOne 91 = .ok (.aload_n 0, 1) := by decide +kernel
theorem dX10_doesOne_92 : decode cX10_doesOne 92 = .ok (.iload_n 2, 1) := by decide +kernel
theorem dX10_doesOne_93 : decode cX10_doesOne 93 = .ok (.iconst 1, 1) := by decide +kernel
theorem dX10_doesOne_94 : decode cX10_doesOne 94 = .ok (.invokevirtual 378, 3) := by decide +kernel
theorem dX10_doesOne_97 : decode cX10_doesOne 97 = .ok (.ireturn, 1) := by decide +kernel
theorem dX10_doesOne_98 : decode cX10_doesOne 98 = .ok (.aload_n 0, 1) := by decide +kernel
theorem dX10_doesOne_99 : decode cX10_doesOne 99 = .ok (.iload_n 2, 1) := by decide +kernel
theorem dX10_doesOne_100 : decode cX10_doesOne 100 = .ok (.iconst 0, 1) := by decide +kernel
theorem dX10_doesOne_101 : decode cX10_doesOne 101 = .ok (.invokevirtual 378, 3) := by decide +kernel
theorem dX10_doesOne_104 : decode cX10_doesOne 104 = .ok (.ireturn, 1) := by decide +kernel
theorem dX10_doesOne_105 : decode cX10_doesOne 105 = .ok (.aload_n 0, 1) := by decide +kernel
theorem dX10_doesOne_106 : decode cX10_doesOne 106 = .ok (.iload_n 2, 1) := by decide +kernel
theorem dX10_doesOne_107 : decode cX10_doesOne 107 = .ok (.iload_n 3, 1) := by decide +kernel
theorem dX10_doesOne_108 : decode cX10_doesOne 108 = .ok (.invokevirtual 381, 3) := by decide +kernel
theorem dX10_doesOne_111 : decode cX10_doesOne 111 = .ok (.ireturn, 1) := by decide +kernel
theorem dX10_doesOne_112 : decode cX10_doesOne 112 = .ok (.aload_n 0, 1) := by decide +kernel
theorem dX10_doesOne_113 : decode cX10_doesOne 113 = .ok (.iload_n 2, 1) := by decide +kernel
theorem dX10_doesOne_114 : decode cX10_doesOne 114 = .ok (.iload_n 3, 1) := by decide +kernel
theorem dX10_doesOne_115 : decode cX10_doesOne 115 = .ok (.iload 4, 2) := by decide +kernel
theorem dX10_doesOne_117 : decode cX10_doesOne 117 = .ok (.invokevirtual 384, 3) := by decide +kernel
theorem dX10_doesOne_120 : decode cX10_doesOne 120 = .ok (.ireturn, 1) := by decide +kernel

set_option maxRecDepth 20000 in
set_option maxHeartbeats 2000000 in
theorem sX10_doesOne {l : Launch} {w : zW} (hfl : l.stackTraces = false) {σ : zS} {D : zBk} {i b : Nat} {v : Int} {V : Nat → Int} (hz : zOK σ) (hW : WF D) (hR : Rel D (σ.1 262)) (hP1 : 1 ≤ D 1 0) (hb : b = 5 * i ∧ i < 30) (hc : mWr σ i v V) (hv : cmV D v V) : Sp l w mX10_doesOne 13 0 [zf 10 261, zi ((b : Nat) : Int)] σ (zqv (some (zi (zb (cmE D v V = 0)))) (fun τ => zOK τ ∧ mfr σ τ (fun k => k = 262 ∨ k = 267 ∨ k = 268) (fun i => (9 ≤ i ∧ i ≤ 11) ∨ i = 13 ∨ i = 14) ∧ Rel (cmN D v V) (τ.1 262))) := by
  obtain ⟨Q, hQ⟩ : ∃ Q : zQ, Q = (zqv (some (zi (zb (cmE D v V = 0)))) (fun τ => zOK τ ∧ mfr σ τ (fun k => k = 262 ∨ k = 267 ∨ k = 268) (fun i => (9 ≤ i ∧ i ≤ 11) ∨ i = 13 ∨ i = 14) ∧ Rel (cmN D v V) (τ.1 262))) := ⟨_, rfl⟩
  rw [← hQ]
  refine zx_enter hfl (by decide) rfl 3 rfl ?_
  show zX l w mX10_doesOne (zMQ w 13 0 Q) 0 [zf 10 261, zi ((b : Nat) : Int), zu, zu, zu] [] 0 σ
  have hP : 0 ≤ D 1 0 ∧ D 1 0 ≤ 8 := hW.1.1
  have hM : 0 ≤ D 1 7 ∧ D 1 7 ≤ 8 := hW.1.2.1
  have hE : 0 ≤ D 1 10 ∧ D 1 10 ≤ 12 := hW.1.2.2.1
  have hK : 0 ≤ D 12 0 ∧ D 12 0 ≤ 40 := hW.1.2.2.2
  have r0 : σ.1 262 0 = D 1 0 := hR.1.1
  have r1 : σ.1 262 1 = D 1 7 := hR.1.2.1
  have r2 : σ.1 262 2 = D 1 10 := hR.1.2.2.1
  have r3 : σ.1 262 3 = D 12 0 := hR.1.2.2.2
  obtain ⟨c1, c2, c3, c4, c5⟩ := hc
  obtain ⟨vr, v0, v1, v2, v4, v5⟩ := hv
  have y1 : zr (V 1) := c2 ▸ hz 270 _
  have y2 : v = 0 ∨ v = 4 ∨ v = 5 → zr (V 2) := fun q => c3 q ▸ hz 270 _
  have y3 : v = 0 ∨ v = 5 → zr (V 3) := fun q => c4 q ▸ hz 270 _
  have y4 : v = 0 → zr (V 4) := fun q => c5 q ▸ hz 270 _
  have hK8 : 0 ≤ D 12 0 ∧ D 12 0 ≤ 40 := hW.1.2.2.2
  have hd18 : 0 ≤ V 1 ∧ V 1 < D 12 0 → (D 18 (V 1).toNat = 0 ∨ D 18 (V 1).toNat = 1) := fun q => (hW.2.2.2.2.1 (V 1).toNat (by omega)).2.2.2.2
  refine zx_aloadN dX10_doesOne_0 rfl rfl ?_
  refine zy_getR (q' := 270) fl_RX10_38 rfl dX10_doesOne_1 rfl ?_
  refine zx_iloadN dX10_doesOne_4 rfl rfl ?_
  refine zx_iconst dX10_doesOne_5 ?_
  refine zx_iadd dX10_doesOne_6 ?_
  refine zy_top (b := ((5 * i + 1 : Nat) : Int)) (by omega) ?_
  refine zy_iald (v := σ.1 270 (5 * i + 1)) rfl (by decide) (by decide) dX10_doesOne_7 (by omega) (by omega) rfl ?_
  refine zy_top (b := V 1) (c2) ?_
  refine zy_istoreN [zf 10 261, zi ((b : Nat) : Int), zi (V 1), zu, zu] dX10_doesOne_8 rfl (Nat.le_of_ble_eq_true rfl) (Nat.le_of_ble_eq_true rfl) rfl rfl ?_
  refine zx_aloadN dX10_doesOne_9 rfl rfl ?_
  refine zy_getR (q' := 270) fl_RX10_38 rfl dX10_doesOne_10 rfl ?_
  refine zx_iloadN dX10_doesOne_13 rfl rfl ?_
  refine zx_iconst dX10_doesOne_14 ?_
  refine zx_iadd dX10_doesOne_15 ?_
  refine zy_top (b := ((5 * i + 2 : Nat) : Int)) (by omega) ?_
  refine zy_iald (v := σ.1 270 (5 * i + 2)) rfl (by decide) (by decide) dX10_doesOne_16 (by omega) (by omega) rfl ?_
  refine zy_istoreN [zf 10 261, zi ((b : Nat) : Int), zi (V 1), zi (σ.1 270 (5 * i + 2)), zu] dX10_doesOne_17 rfl (Nat.le_of_ble_eq_true rfl) (Nat.le_of_ble_eq_true rfl) rfl rfl ?_
  refine zx_aloadN dX10_doesOne_18 rfl rfl ?_
  refine zy_getR (q' := 270) fl_RX10_38 rfl dX10_doesOne_19 rfl ?_
  refine zx_iloadN dX10_doesOne_22 rfl rfl ?_
  refine zx_iconst dX10_doesOne_23 ?_
  refine zx_iadd dX10_doesOne_24 ?_
  refine zy_top (b := ((5 * i + 3 : Nat) : Int)) (by omega) ?_
  refine zy_iald (v := σ.1 270 (5 * i + 3)) rfl (by decide) (by decide) dX10_doesOne_25 (by omega) (by omega) rfl ?_
  refine zy_istore [zf 10 261, zi ((b : Nat) : Int), zi (V 1), zi (σ.1 270 (5 * i + 2)), zi (σ.1 270 (5 * i + 3))] dX10_doesOne_26 (Nat.le_of_ble_eq_true rfl) (Nat.le_of_ble_eq_true rfl) rfl rfl ?_
  refine zx_aloadN dX10_doesOne_28 rfl rfl ?_
  refine zy_getR (q' := 270) fl_RX10_38 rfl dX10_doesOne_29 rfl ?_
  refine zx_iloadN dX10_doesOne_32 rfl rfl ?_
  refine zy_top (b := ((5 * i : Nat) : Int)) (by omega) ?_
  refine zy_iald (v := σ.1 270 (5 * i)) rfl (by decide) (by decide) dX10_doesOne_33 (by omega) (by omega) rfl ?_
  refine zy_top (b := v) (c1) ?_
  rcases (by omega : v = 0 ∨ v = 1 ∨ v = 2 ∨ v = 3 ∨ v = 4 ∨ (v < 0 ∨ 4 < v)) with h34 | h34 | h34 | h34 | h34 | h34
  · refine zx_tableIn (off := 34) (tgt := 68) (by first | exact hz _ _ | assumption | exact zr_b _ | exact zcmp_r _ _ | (unfold zr at *; omega)) dX10_doesOne_34 (by omega) (by omega) (by rw [h34]; rfl) (by decide) ?_
    refine zx_aloadN dX10_doesOne_68 rfl rfl ?_
    refine zx_iloadN dX10_doesOne_69 rfl rfl ?_
    refine zx_iloadN dX10_doesOne_70 rfl rfl ?_
    refine zy_top (b := V 2) (c3 (by omega)) ?_
    refine zx_iload dX10_doesOne_71 rfl ?_
    refine zy_top (b := V 3) (c4 (by omega)) ?_
    refine zx_aloadN dX10_doesOne_73 rfl rfl ?_
    refine zy_getR (q' := 270) fl_RX10_38 rfl dX10_doesOne_74 rfl ?_
    refine zx_iloadN dX10_doesOne_77 rfl rfl ?_
    refine zx_iconst dX10_doesOne_78 ?_
    refine zx_iadd dX10_doesOne_79 ?_
    refine zy_top (b := ((5 * i + 4 : Nat) : Int)) (by omega) ?_
    refine zy_iald (v := σ.1 270 (5 * i + 4)) rfl (by decide) (by decide) dX10_doesOne_80 (by omega) (by omega) rfl ?_
    refine zy_top (b := V 4) (c5 (by omega)) ?_
    by_cases hb81 : D 12 0 = 40
    · refine zy_cv [zi (V 1), zi (V 2), zi (V 3), zi (V 4)] (sX10_clueNow_f (D := D) hfl hz (by first | assumption | omega) (by first | assumption | (refine Rel_put (by decide) ?_; assumption) | (refine Rel_put (by decide) (Rel_put (by decide) ?_); assumption) | (refine Rel_put (by decide) (Rel_put (by decide) (Rel_put (by decide) ?_)); assumption)) y1 (y2 (by omega)) (y3 (by omega)) (y4 (by omega)) (by omega)) dX10_doesOne_81 (by decide) rfl cw_RX10_372 okX10_clueNow rfl (Nat.le_of_ble_eq_true rfl) ⟨Nat.le_of_ble_eq_true rfl, Nat.le_of_ble_eq_true rfl, Nat.le_of_ble_eq_true rfl, Nat.le_of_ble_eq_true rfl⟩ ?_
      refine zx_iret rfl (zb_nar _) dX10_doesOne_84 ?_
      rw [hQ]
      refine ⟨congrArg (fun z : Int => (Sum.inl (some (zi z)) : Option zV ⊕ String)) ?_, ?_⟩
      · first
        | (have en : cmE D v V = 0 := by
             unfold cmE
             (repeat' split) <;> first | rfl | omega | (exfalso; omega) | contradiction | exact hb117 ⟨by assumption, by assumption⟩ | exact absurd (by assumption) (Classical.not_not.mp hb117).1 | exact absurd (Classical.not_not.mp hb117).2 (by assumption) | exact absurd ⟨by assumption, by assumption⟩ hb117
           exact zb_c ⟨fun _ => en, fun _ => trivial⟩)
        | (have en : ¬ cmE D v V = 0 := by
             unfold cmE
             (repeat' split) <;> first | omega | (exfalso; omega) | contradiction | exact hb117 ⟨by assumption, by assumption⟩ | exact absurd (by assumption) (Classical.not_not.mp hb117).1 | exact absurd (Classical.not_not.mp hb117).2 (by assumption) | exact absurd ⟨by assumption, by assumption⟩ hb117
           exact zb_c ⟨fun q => absurd q (fun r => r), fun q => absurd q en⟩)
      have en : ¬ cmE D v V = 0 := by
        unfold cmE
        (repeat' split) <;> first | omega | (exfalso; omega) | contradiction | exact hb117 ⟨by assumption, by assumption⟩ | exact absurd (by assumption) (Classical.not_not.mp hb117).1 | exact absurd (Classical.not_not.mp hb117).2 (by assumption) | exact absurd ⟨by assumption, by assumption⟩ hb117
      exact ⟨hz, mfr_rf _ _ _, by rw [cmN_f en]; exact hR⟩
    · refine zy_cvR [zi (V 1), zi (V 2), zi (V 3), zi (V 4)] (sX10_clueNow (D := D) hfl hz (by first | assumption | omega) (by first | assumption | (refine Rel_put (by decide) ?_; assumption) | (refine Rel_put (by decide) (Rel_put (by decide) ?_); assumption) | (refine Rel_put (by decide) (Rel_put (by decide) (Rel_put (by decide) ?_)); assumption)) y1 (y2 (by omega)) (y3 (by omega)) (y4 (by omega)) (by omega)) dX10_doesOne_81 (by decide) rfl cw_RX10_372 okX10_clueNow rfl (Nat.le_of_ble_eq_true rfl) ⟨Nat.le_of_ble_eq_true rfl, Nat.le_of_ble_eq_true rfl, Nat.le_of_ble_eq_true rfl, Nat.le_of_ble_eq_true rfl⟩ (fun τ81 hr81 => ?_)
      have hz81 : zOK τ81 := hr81.1
      refine zx_iret rfl (zb_nar _) dX10_doesOne_84 ?_
      rw [hQ]
      refine ⟨congrArg (fun z : Int => (Sum.inl (some (zi z)) : Option zV ⊕ String)) ?_, ?_⟩
      · first
        | (have en : cmE D v V = 0 := by
             unfold cmE
             (repeat' split) <;> first | rfl | omega | (exfalso; omega) | contradiction | exact hb117 ⟨by assumption, by assumption⟩ | exact absurd (by assumption) (Classical.not_not.mp hb117).1 | exact absurd (Classical.not_not.mp hb117).2 (by assumption) | exact absurd ⟨by assumption, by assumption⟩ hb117
           exact zb_c ⟨fun _ => en, fun _ => trivial⟩)
        | (have en : ¬ cmE D v V = 0 := by
             unfold cmE
             (repeat' split) <;> first | omega | (exfalso; omega) | contradiction | exact hb117 ⟨by assumption, by assumption⟩ | exact absurd (by assumption) (Classical.not_not.mp hb117).1 | exact absurd (Classical.not_not.mp hb117).2 (by assumption) | exact absurd ⟨by assumption, by assumption⟩ hb117
           exact zb_c ⟨fun q => absurd q (fun r => r), fun q => absurd q en⟩)
      have en : cmE D v V = 0 := by
        unfold cmE
        (repeat' split) <;> first | rfl | omega | (exfalso; omega) | contradiction | exact hb117 ⟨by assumption, by assumption⟩ | exact absurd (by assumption) (Classical.not_not.mp hb117).1 | exact absurd (Classical.not_not.mp hb117).2 (by assumption) | exact absurd ⟨by assumption, by assumption⟩ hb117
      have hB : cmN D v V = cmB D v V := cmN_t en
      unfold cmB at hB
      rw [if_pos h34] at hB
      exact ⟨hz81, mfr_mo hr81.2.1 (fun k q => by first | exact q | exact Or.inl q) (fun i q => by first | exact q | exact Or.inr (Or.inr q)), by rw [hB]; exact hr81.2.2.1⟩
  · refine zx_tableIn (off := 51) (tgt := 85) (by first | exact hz _ _ | assumption | exact zr_b _ | exact zcmp_r _ _ | (unfold zr at *; omega)) dX10_doesOne_34 (by omega) (by omega) (by rw [h34]; rfl) (by decide) ?_
    refine zx_aloadN dX10_doesOne_85 rfl rfl ?_
    refine zx_iloadN dX10_doesOne_86 rfl rfl ?_
    refine zy_cvR [zi (V 1)] (sX10_readNow (D := D) hfl hz (by first | assumption | omega) (by first | assumption | (refine Rel_put (by decide) ?_; assumption) | (refine Rel_put (by decide) (Rel_put (by decide) ?_); assumption) | (refine Rel_put (by decide) (Rel_put (by decide) (Rel_put (by decide) ?_)); assumption)) (by have := v1 h34; omega)) dX10_doesOne_87 (by decide) rfl cw_RX10_375 okX10_readNow rfl (Nat.le_of_ble_eq_true rfl) ⟨Nat.le_of_ble_eq_true rfl, Nat.le_of_ble_eq_true rfl, Nat.le_of_ble_eq_true rfl, Nat.le_of_ble_eq_true rfl⟩ (fun τ87 hr87 => ?_)
    have hz87 : zOK τ87 := hr87.1
    refine zx_iret rfl (zb_nar _) dX10_doesOne_90 ?_
    rw [hQ]
    refine ⟨congrArg (fun z : Int => (Sum.inl (some (zi z)) : Option zV ⊕ String)) ?_, ?_⟩
    · first
      | (have en : cmE D v V = 0 := by
           unfold cmE
           (repeat' split) <;> first | rfl | omega | (exfalso; omega) | contradiction | exact hb117 ⟨by assumption, by assumption⟩ | exact absurd (by assumption) (Classical.not_not.mp hb117).1 | exact absurd (Classical.not_not.mp hb117).2 (by assumption) | exact absurd ⟨by assumption, by assumption⟩ hb117
         exact zb_c ⟨fun _ => en, fun _ => trivial⟩)
      | (have en : ¬ cmE D v V = 0 := by
           unfold cmE
           (repeat' split) <;> first | omega | (exfalso; omega) | contradiction | exact hb117 ⟨by assumption, by assumption⟩ | exact absurd (by assumption) (Classical.not_not.mp hb117).1 | exact absurd (Classical.not_not.mp hb117).2 (by assumption) | exact absurd ⟨by assumption, by assumption⟩ hb117
         exact zb_c ⟨fun q => absurd q (fun r => r), fun q => absurd q en⟩)
    have en : cmE D v V = 0 := by
      unfold cmE
      (repeat' split) <;> first | rfl | omega | (exfalso; omega) | contradiction | exact hb117 ⟨by assumption, by assumption⟩ | exact absurd (by assumption) (Classical.not_not.mp hb117).1 | exact absurd (Classical.not_not.mp hb117).2 (by assumption) | exact absurd ⟨by assumption, by assumption⟩ hb117
    have hB : cmN D v V = cmB D v V := cmN_t en
    unfold cmB at hB
    rw [if_neg (by omega), if_pos h34] at hB
    exact ⟨hz87, mfr_mo hr87.2.1 (fun k q => by first | exact q | exact Or.inl q) (fun i q => by first | exact q | exact Or.inr (Or.inr q)), by rw [hB]; exact hr87.2.2.1⟩
  · refine zx_tableIn (off := 57) (tgt := 91) (by first | exact hz _ _ | assumption | exact zr_b _ | exact zcmp_r _ _ | (unfold zr at *; omega)) dX10_doesOne_34 (by omega) (by omega) (by rw [h34]; rfl) (by decide) ?_
    have z1 := v2 (by omega)
    refine zx_aloadN dX10_doesOne_91 rfl rfl ?_
    refine zx_iloadN dX10_doesOne_92 rfl rfl ?_
    refine zx_iconst dX10_doesOne_93 ?_
    by_cases hb94 : ¬ (0 ≤ (V 1) ∧ (V 1) < D 12 0 ∧ ¬ D 18 (V 1).toNat = 1)
    · refine zy_cv [zi (V 1), zi 1] (sX10_asideNow_f (D := D) hfl hz (by first | assumption | omega) (by first | assumption | (refine Rel_put (by decide) ?_; assumption) | (refine Rel_put (by decide) (Rel_put (by decide) ?_); assumption) | (refine Rel_put (by decide) (Rel_put (by decide) (Rel_put (by decide) ?_)); assumption)) y1 (Or.inr rfl) (by first | assumption | exact Classical.not_not.mp (by assumption))) dX10_doesOne_94 (by decide) rfl cw_RX10_378 okX10_asideNow rfl (Nat.le_of_ble_eq_true rfl) ⟨Nat.le_of_ble_eq_true rfl, Nat.le_of_ble_eq_true rfl, Nat.le_of_ble_eq_true rfl, Nat.le_of_ble_eq_true rfl⟩ ?_
      refine zx_iret rfl (zb_nar _) dX10_doesOne_97 ?_
      rw [hQ]
      refine ⟨congrArg (fun z : Int => (Sum.inl (some (zi z)) : Option zV ⊕ String)) ?_, ?_⟩
      · first
        | (have en : cmE D v V = 0 := by
             unfold cmE
             (repeat' split) <;> first | rfl | omega | (exfalso; omega) | contradiction | exact hb117 ⟨by assumption, by assumption⟩ | exact absurd (by assumption) (Classical.not_not.mp hb117).1 | exact absurd (Classical.not_not.mp hb117).2 (by assumption) | exact absurd ⟨by assumption, by assumption⟩ hb117
           exact zb_c ⟨fun _ => en, fun _ => trivial⟩)
        | (have en : ¬ cmE D v V = 0 := by
             unfold cmE
             (repeat' split) <;> first | omega | (exfalso; omega) | contradiction | exact hb117 ⟨by assumption, by assumption⟩ | exact absurd (by assumption) (Classical.not_not.mp hb117).1 | exact absurd (Classical.not_not.mp hb117).2 (by assumption) | exact absurd ⟨by assumption, by assumption⟩ hb117
           exact zb_c ⟨fun q => absurd q (fun r => r), fun q => absurd q en⟩)
      have en : ¬ cmE D v V = 0 := by
        unfold cmE
        (repeat' split) <;> first | omega | (exfalso; omega) | contradiction | exact hb117 ⟨by assumption, by assumption⟩ | exact absurd (by assumption) (Classical.not_not.mp hb117).1 | exact absurd (Classical.not_not.mp hb117).2 (by assumption) | exact absurd ⟨by assumption, by assumption⟩ hb117
      exact ⟨hz, mfr_rf _ _ _, by rw [cmN_f en]; exact hR⟩
    · refine zy_cvR [zi (V 1), zi 1] (sX10_asideNow (D := D) hfl hz (by first | assumption | omega) (by first | assumption | (refine Rel_put (by decide) ?_; assumption) | (refine Rel_put (by decide) (Rel_put (by decide) ?_); assumption) | (refine Rel_put (by decide) (Rel_put (by decide) (Rel_put (by decide) ?_)); assumption)) y1 (Or.inr rfl) (by first | assumption | omega) (by first | assumption | exact Classical.not_not.mp (by assumption))) dX10_doesOne_94 (by decide) rfl cw_RX10_378 okX10_asideNow rfl (Nat.le_of_ble_eq_true rfl) ⟨Nat.le_of_ble_eq_true rfl, Nat.le_of_ble_eq_true rfl, Nat.le_of_ble_eq_true rfl, Nat.le_of_ble_eq_true rfl⟩ (fun τ94 hr94 => ?_)
      have hz94 : zOK τ94 := hr94.1
      refine zx_iret rfl (zb_nar _) dX10_doesOne_97 ?_
      rw [hQ]
      refine ⟨congrArg (fun z : Int => (Sum.inl (some (zi z)) : Option zV ⊕ String)) ?_, ?_⟩
      · first
        | (have en : cmE D v V = 0 := by
             unfold cmE
             (repeat' split) <;> first | rfl | omega | (exfalso; omega) | contradiction | exact hb117 ⟨by assumption, by assumption⟩ | exact absurd (by assumption) (Classical.not_not.mp hb117).1 | exact absurd (Classical.not_not.mp hb117).2 (by assumption) | exact absurd ⟨by assumption, by assumption⟩ hb117
           exact zb_c ⟨fun _ => en, fun _ => trivial⟩)
        | (have en : ¬ cmE D v V = 0 := by
             unfold cmE
             (repeat' split) <;> first | omega | (exfalso; omega) | contradiction | exact hb117 ⟨by assumption, by assumption⟩ | exact absurd (by assumption) (Classical.not_not.mp hb117).1 | exact absurd (Classical.not_not.mp hb117).2 (by assumption) | exact absurd ⟨by assumption, by assumption⟩ hb117
           exact zb_c ⟨fun q => absurd q (fun r => r), fun q => absurd q en⟩)
      have en : cmE D v V = 0 := by
        unfold cmE
        (repeat' split) <;> first | rfl | omega | (exfalso; omega) | contradiction | exact hb117 ⟨by assumption, by assumption⟩ | exact absurd (by assumption) (Classical.not_not.mp hb117).1 | exact absurd (Classical.not_not.mp hb117).2 (by assumption) | exact absurd ⟨by assumption, by assumption⟩ hb117
      have hB : cmN D v V = cmB D v V := cmN_t en
      unfold cmB at hB
      rw [if_neg (by omega), if_neg (by omega), if_pos h34] at hB
      exact ⟨hz94, mfr_mo hr94.2.1 (fun k q => by first | exact q | exact Or.inl q) (fun i q => by first | exact q | exact Or.inr (Or.inr q)), by rw [hB]; exact hr94.2.2.1⟩
  · refine zx_tableIn (off := 64) (tgt := 98) (by first | exact hz _ _ | assumption | exact zr_b _ | exact zcmp_r _ _ | (unfold zr at *; omega)) dX10_doesOne_34 (by omega) (by omega) (by rw [h34]; rfl) (by decide) ?_
    have z1 := v2 (by omega)
    refine zx_aloadN dX10_doesOne_98 rfl rfl ?_
    refine zx_iloadN dX10_doesOne_99 rfl rfl ?_
    refine zx_iconst dX10_doesOne_100 ?_
    by_cases hb101 : ¬ (0 ≤ (V 1) ∧ (V 1) < D 12 0 ∧ ¬ D 18 (V 1).toNat = 0)
    · refine zy_cv [zi (V 1), zi 0] (sX10_asideNow_f (D := D) hfl hz (by first | assumption | omega) (by first | assumption | (refine Rel_put (by decide) ?_; assumption) | (refine Rel_put (by decide) (Rel_put (by decide) ?_); assumption) | (refine Rel_put (by decide) (Rel_put (by decide) (Rel_put (by decide) ?_)); assumption)) y1 (Or.inl rfl) (by first | assumption | exact Classical.not_not.mp (by assumption))) dX10_doesOne_101 (by decide) rfl cw_RX10_378 okX10_asideNow rfl (Nat.le_of_ble_eq_true rfl) ⟨Nat.le_of_ble_eq_true rfl, Nat.le_of_ble_eq_true rfl, Nat.le_of_ble_eq_true rfl, Nat.le_of_ble_eq_true rfl⟩ ?_
      refine zx_iret rfl (zb_nar _) dX10_doesOne_104 ?_
      rw [hQ]
      refine ⟨congrArg (fun z : Int => (Sum.inl (some (zi z)) : Option zV ⊕ String)) ?_, ?_⟩
      · first
        | (have en : cmE D v V = 0 := by
             unfold cmE
             (repeat' split) <;> first | rfl | omega | (exfalso; omega) | contradiction | exact hb117 ⟨by assumption, by assumption⟩ | exact absurd (by assumption) (Classical.not_not.mp hb117).1 | exact absurd (Classical.not_not.mp hb117).2 (by assumption) | exact absurd ⟨by assumption, by assumption⟩ hb117
           exact zb_c ⟨fun _ => en, fun _ => trivial⟩)
        | (have en : ¬ cmE D v V = 0 := by
             unfold cmE
             (repeat' split) <;> first | omega | (exfalso; omega) | contradiction | exact hb117 ⟨by assumption, by assumption⟩ | exact absurd (by assumption) (Classical.not_not.mp hb117).1 | exact absurd (Classical.not_not.mp hb117).2 (by assumption) | exact absurd ⟨by assumption, by assumption⟩ hb117
           exact zb_c ⟨fun q => absurd q (fun r => r), fun q => absurd q en⟩)
      have en : ¬ cmE D v V = 0 := by
        unfold cmE
        (repeat' split) <;> first | omega | (exfalso; omega) | contradiction | exact hb117 ⟨by assumption, by assumption⟩ | exact absurd (by assumption) (Classical.not_not.mp hb117).1 | exact absurd (Classical.not_not.mp hb117).2 (by assumption) | exact absurd ⟨by assumption, by assumption⟩ hb117
      exact ⟨hz, mfr_rf _ _ _, by rw [cmN_f en]; exact hR⟩
    · refine zy_cvR [zi (V 1), zi 0] (sX10_asideNow (D := D) hfl hz (by first | assumption | omega) (by first | assumption | (refine Rel_put (by decide) ?_; assumption) | (refine Rel_put (by decide) (Rel_put (by decide) ?_); assumption) | (refine Rel_put (by decide) (Rel_put (by decide) (Rel_put (by decide) ?_)); assumption)) y1 (Or.inl rfl) (by first | assumption | omega) (by first | assumption | exact Classical.not_not.mp (by assumption))) dX10_doesOne_101 (by decide) rfl cw_RX10_378 okX10_asideNow rfl (Nat.le_of_ble_eq_true rfl) ⟨Nat.le_of_ble_eq_true rfl, Nat.le_of_ble_eq_true rfl, Nat.le_of_ble_eq_true rfl, Nat.le_of_ble_eq_true rfl⟩ (fun τ101 hr101 => ?_)
      have hz101 : zOK τ101 := hr101.1
      refine zx_iret rfl (zb_nar _) dX10_doesOne_104 ?_
      rw [hQ]
      refine ⟨congrArg (fun z : Int => (Sum.inl (some (zi z)) : Option zV ⊕ String)) ?_, ?_⟩
      · first
        | (have en : cmE D v V = 0 := by
             unfold cmE
             (repeat' split) <;> first | rfl | omega | (exfalso; omega) | contradiction | exact hb117 ⟨by assumption, by assumption⟩ | exact absurd (by assumption) (Classical.not_not.mp hb117).1 | exact absurd (Classical.not_not.mp hb117).2 (by assumption) | exact absurd ⟨by assumption, by assumption⟩ hb117
           exact zb_c ⟨fun _ => en, fun _ => trivial⟩)
        | (have en : ¬ cmE D v V = 0 := by
             unfold cmE
             (repeat' split) <;> first | omega | (exfalso; omega) | contradiction | exact hb117 ⟨by assumption, by assumption⟩ | exact absurd (by assumption) (Classical.not_not.mp hb117).1 | exact absurd (Classical.not_not.mp hb117).2 (by assumption) | exact absurd ⟨by assumption, by assumption⟩ hb117
           exact zb_c ⟨fun q => absurd q (fun r => r), fun q => absurd q en⟩)
      have en : cmE D v V = 0 := by
        unfold cmE
        (repeat' split) <;> first | rfl | omega | (exfalso; omega) | contradiction | exact hb117 ⟨by assumption, by assumption⟩ | exact absurd (by assumption) (Classical.not_not.mp hb117).1 | exact absurd (Classical.not_not.mp hb117).2 (by assumption) | exact absurd ⟨by assumption, by assumption⟩ hb117
      have hB : cmN D v V = cmB D v V := cmN_t en
      unfold cmB at hB
      rw [if_neg (by omega), if_neg (by omega), if_neg (by omega), if_pos h34] at hB
      exact ⟨hz101, mfr_mo hr101.2.1 (fun k q => by first | exact q | exact Or.inl q) (fun i q => by first | exact q | exact Or.inr (Or.inr q)), by rw [hB]; exact hr101.2.2.1⟩
  · refine zx_tableIn (off := 71) (tgt := 105) (by first | exact hz _ _ | assumption | exact zr_b _ | exact zcmp_r _ _ | (unfold zr at *; omega)) dX10_doesOne_34 (by omega) (by omega) (by rw [h34]; rfl) (by decide) ?_
    have z1 := v2 (by omega)
    have z2 := y2 (by omega)
    refine zx_aloadN dX10_doesOne_105 rfl rfl ?_
    refine zx_iloadN dX10_doesOne_106 rfl rfl ?_
    refine zx_iloadN dX10_doesOne_107 rfl rfl ?_
    refine zy_top (b := V 2) (c3 (by omega)) ?_
    by_cases hb108 : ¬ (0 ≤ (V 1) ∧ (V 1) < D 12 0)
    · refine zy_cv [zi (V 1), zi (V 2)] (sX10_weighNow_f (D := D) hfl hz (by first | assumption | omega) (by first | assumption | (refine Rel_put (by decide) ?_; assumption) | (refine Rel_put (by decide) (Rel_put (by decide) ?_); assumption) | (refine Rel_put (by decide) (Rel_put (by decide) (Rel_put (by decide) ?_)); assumption)) y1 z2 (by first | assumption | exact Classical.not_not.mp (by assumption))) dX10_doesOne_108 (by decide) rfl cw_RX10_381 okX10_weighNow rfl (Nat.le_of_ble_eq_true rfl) ⟨Nat.le_of_ble_eq_true rfl, Nat.le_of_ble_eq_true rfl, Nat.le_of_ble_eq_true rfl, Nat.le_of_ble_eq_true rfl⟩ ?_
      refine zx_iret rfl (zb_nar _) dX10_doesOne_111 ?_
      rw [hQ]
      refine ⟨congrArg (fun z : Int => (Sum.inl (some (zi z)) : Option zV ⊕ String)) ?_, ?_⟩
      · first
        | (have en : cmE D v V = 0 := by
             unfold cmE
             (repeat' split) <;> first | rfl | omega | (exfalso; omega) | contradiction | exact hb117 ⟨by assumption, by assumption⟩ | exact absurd (by assumption) (Classical.not_not.mp hb117).1 | exact absurd (Classical.not_not.mp hb117).2 (by assumption) | exact absurd ⟨by assumption, by assumption⟩ hb117
           exact zb_c ⟨fun _ => en, fun _ => trivial⟩)
        | (have en : ¬ cmE D v V = 0 := by
             unfold cmE
             (repeat' split) <;> first | omega | (exfalso; omega) | contradiction | exact hb117 ⟨by assumption, by assumption⟩ | exact absurd (by assumption) (Classical.not_not.mp hb117).1 | exact absurd (Classical.not_not.mp hb117).2 (by assumption) | exact absurd ⟨by assumption, by assumption⟩ hb117
           exact zb_c ⟨fun q => absurd q (fun r => r), fun q => absurd q en⟩)
      have en : ¬ cmE D v V = 0 := by
        unfold cmE
        (repeat' split) <;> first | omega | (exfalso; omega) | contradiction | exact hb117 ⟨by assumption, by assumption⟩ | exact absurd (by assumption) (Classical.not_not.mp hb117).1 | exact absurd (Classical.not_not.mp hb117).2 (by assumption) | exact absurd ⟨by assumption, by assumption⟩ hb117
      exact ⟨hz, mfr_rf _ _ _, by rw [cmN_f en]; exact hR⟩
    · refine zy_cvR [zi (V 1), zi (V 2)] (sX10_weighNow (D := D) hfl hz (by first | assumption | omega) (by first | assumption | (refine Rel_put (by decide) ?_; assumption) | (refine Rel_put (by decide) (Rel_put (by decide) ?_); assumption) | (refine Rel_put (by decide) (Rel_put (by decide) (Rel_put (by decide) ?_)); assumption)) y1 z2 (by first | assumption | exact Classical.not_not.mp (by assumption))) dX10_doesOne_108 (by decide) rfl cw_RX10_381 okX10_weighNow rfl (Nat.le_of_ble_eq_true rfl) ⟨Nat.le_of_ble_eq_true rfl, Nat.le_of_ble_eq_true rfl, Nat.le_of_ble_eq_true rfl, Nat.le_of_ble_eq_true rfl⟩ (fun τ108 hr108 => ?_)
      have hz108 : zOK τ108 := hr108.1
      refine zx_iret rfl (zb_nar _) dX10_doesOne_111 ?_
      rw [hQ]
      refine ⟨congrArg (fun z : Int => (Sum.inl (some (zi z)) : Option zV ⊕ String)) ?_, ?_⟩
      · first
        | (have en : cmE D v V = 0 := by
             unfold cmE
             (repeat' split) <;> first | rfl | omega | (exfalso; omega) | contradiction | exact hb117 ⟨by assumption, by assumption⟩ | exact absurd (by assumption) (Classical.not_not.mp hb117).1 | exact absurd (Classical.not_not.mp hb117).2 (by assumption) | exact absurd ⟨by assumption, by assumption⟩ hb117
           exact zb_c ⟨fun _ => en, fun _ => trivial⟩)
        | (have en : ¬ cmE D v V = 0 := by
             unfold cmE
             (repeat' split) <;> first | omega | (exfalso; omega) | contradiction | exact hb117 ⟨by assumption, by assumption⟩ | exact absurd (by assumption) (Classical.not_not.mp hb117).1 | exact absurd (Classical.not_not.mp hb117).2 (by assumption) | exact absurd ⟨by assumption, by assumption⟩ hb117
           exact zb_c ⟨fun q => absurd q (fun r => r), fun q => absurd q en⟩)
      have en : cmE D v V = 0 := by
        unfold cmE
        (repeat' split) <;> first | rfl | omega | (exfalso; omega) | contradiction | exact hb117 ⟨by assumption, by assumption⟩ | exact absurd (by assumption) (Classical.not_not.mp hb117).1 | exact absurd (Classical.not_not.mp hb117).2 (by assumption) | exact absurd ⟨by assumption, by assumption⟩ hb117
      have hB : cmN D v V = cmB D v V := cmN_t en
      unfold cmB at hB
      rw [if_neg (by omega), if_neg (by omega), if_neg (by omega), if_neg (by omega), if_pos h34] at hB
      exact ⟨hz108, mfr_mo hr108.2.1 (fun k q => by first | exact q | exact Or.inl q) (fun i q => by first | exact q | exact Or.inr (Or.inr q)), by rw [hB]; exact hr108.2.2.1⟩
  · refine zx_tableOut (tgt := 112) (by first | exact hz _ _ | assumption | exact zr_b _ | exact zcmp_r _ _ | (unfold zr at *; omega)) dX10_doesOne_34 (by omega) (by decide) ?_
    have z5 := v5 (by omega)
    have z2 := y2 (by omega)
    have z3 := y3 (by omega)
    refine zx_aloadN dX10_doesOne_112 rfl rfl ?_
    refine zx_iloadN dX10_doesOne_113 rfl rfl ?_
    refine zx_iloadN dX10_doesOne_114 rfl rfl ?_
    refine zy_top (b := V 2) (c3 (by omega)) ?_
    refine zx_iload dX10_doesOne_115 rfl ?_
    refine zy_top (b := V 3) (c4 (by omega)) ?_
    by_cases hb117 : ¬ (¬ (V 1) = (V 2) ∧ hasDev D (V 1).toNat (V 3))
    · refine zy_cv [zi (V 1), zi (V 2), zi (V 3)] (sX10_lendNow_f (D := D) hfl hz (by first | assumption | omega) (by first | assumption | (refine Rel_put (by decide) ?_; assumption) | (refine Rel_put (by decide) (Rel_put (by decide) ?_); assumption) | (refine Rel_put (by decide) (Rel_put (by decide) (Rel_put (by decide) ?_)); assumption)) y1 z2 z3 ⟨z5.1, z5.2.1⟩ (by first | assumption | exact Classical.not_not.mp (by assumption))) dX10_doesOne_117 (by decide) rfl cw_RX10_384 okX10_lendNow rfl (Nat.le_of_ble_eq_true rfl) ⟨Nat.le_of_ble_eq_true rfl, Nat.le_of_ble_eq_true rfl, Nat.le_of_ble_eq_true rfl, Nat.le_of_ble_eq_true rfl⟩ ?_
      refine zx_iret rfl (zb_nar _) dX10_doesOne_120 ?_
      rw [hQ]
      refine ⟨congrArg (fun z : Int => (Sum.inl (some (zi z)) : Option zV ⊕ String)) ?_, ?_⟩
      · first
        | (have en : cmE D v V = 0 := by
             unfold cmE
             (repeat' split) <;> first | rfl | omega | (exfalso; omega) | contradiction | exact hb117 ⟨by assumption, by assumption⟩ | exact absurd (by assumption) (Classical.not_not.mp hb117).1 | exact absurd (Classical.not_not.mp hb117).2 (by assumption) | exact absurd ⟨by assumption, by assumption⟩ hb117
           exact zb_c ⟨fun _ => en, fun _ => trivial⟩)
        | (have en : ¬ cmE D v V = 0 := by
             unfold cmE
             (repeat' split) <;> first | omega | (exfalso; omega) | contradiction | exact hb117 ⟨by assumption, by assumption⟩ | exact absurd (by assumption) (Classical.not_not.mp hb117).1 | exact absurd (Classical.not_not.mp hb117).2 (by assumption) | exact absurd ⟨by assumption, by assumption⟩ hb117
           exact zb_c ⟨fun q => absurd q (fun r => r), fun q => absurd q en⟩)
      have en : ¬ cmE D v V = 0 := by
        unfold cmE
        (repeat' split) <;> first | omega | (exfalso; omega) | contradiction | exact hb117 ⟨by assumption, by assumption⟩ | exact absurd (by assumption) (Classical.not_not.mp hb117).1 | exact absurd (Classical.not_not.mp hb117).2 (by assumption) | exact absurd ⟨by assumption, by assumption⟩ hb117
      exact ⟨hz, mfr_rf _ _ _, by rw [cmN_f en]; exact hR⟩
    · refine zy_cvR [zi (V 1), zi (V 2), zi (V 3)] (sX10_lendNow (D := D) hfl hz (by first | assumption | omega) (by first | assumption | (refine Rel_put (by decide) ?_; assumption) | (refine Rel_put (by decide) (Rel_put (by decide) ?_); assumption) | (refine Rel_put (by decide) (Rel_put (by decide) (Rel_put (by decide) ?_)); assumption)) y1 z2 z3 ⟨z5.1, z5.2.1⟩ (by first | assumption | exact Classical.not_not.mp (by assumption))) dX10_doesOne_117 (by decide) rfl cw_RX10_384 okX10_lendNow rfl (Nat.le_of_ble_eq_true rfl) ⟨Nat.le_of_ble_eq_true rfl, Nat.le_of_ble_eq_true rfl, Nat.le_of_ble_eq_true rfl, Nat.le_of_ble_eq_true rfl⟩ (fun τ117 hr117 => ?_)
      have hz117 : zOK τ117 := hr117.1
      refine zx_iret rfl (zb_nar _) dX10_doesOne_120 ?_
      rw [hQ]
      refine ⟨congrArg (fun z : Int => (Sum.inl (some (zi z)) : Option zV ⊕ String)) ?_, ?_⟩
      · first
        | (have en : cmE D v V = 0 := by
             unfold cmE
             (repeat' split) <;> first | rfl | omega | (exfalso; omega) | contradiction | exact hb117 ⟨by assumption, by assumption⟩ | exact absurd (by assumption) (Classical.not_not.mp hb117).1 | exact absurd (Classical.not_not.mp hb117).2 (by assumption) | exact absurd ⟨by assumption, by assumption⟩ hb117
           exact zb_c ⟨fun _ => en, fun _ => trivial⟩)
        | (have en : ¬ cmE D v V = 0 := by
             unfold cmE
             (repeat' split) <;> first | omega | (exfalso; omega) | contradiction | exact hb117 ⟨by assumption, by assumption⟩ | exact absurd (by assumption) (Classical.not_not.mp hb117).1 | exact absurd (Classical.not_not.mp hb117).2 (by assumption) | exact absurd ⟨by assumption, by assumption⟩ hb117
           exact zb_c ⟨fun q => absurd q (fun r => r), fun q => absurd q en⟩)
      have en : cmE D v V = 0 := by
        unfold cmE
        (repeat' split) <;> first | rfl | omega | (exfalso; omega) | contradiction | exact hb117 ⟨by assumption, by assumption⟩ | exact absurd (by assumption) (Classical.not_not.mp hb117).1 | exact absurd (Classical.not_not.mp hb117).2 (by assumption) | exact absurd ⟨by assumption, by assumption⟩ hb117
      have hB : cmN D v V = cmB D v V := cmN_t en
      unfold cmB at hB
      rw [if_neg (by omega), if_neg (by omega), if_neg (by omega), if_neg (by omega), if_neg (by omega)] at hB
      exact ⟨hz117, mfr_mo hr117.2.1 (fun k q => by first | exact q | exact Or.inl q) (fun i q => by first | exact q | exact Or.inr (Or.inr q)), by rw [hB]; exact hr117.2.2.1⟩

