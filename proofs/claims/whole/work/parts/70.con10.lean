abbrev mX10_init : zM := (yX10_init, cX10_init, 2, none, [])
theorem okX10_init : zMok mX10_init 0 := ⟨by decide, by decide, by decide +kernel⟩
theorem dX10_init_0 : decode cX10_init 0 = .ok (.aload_n 0, 1) := by decide +kernel
theorem ob_RX10_1 : ∀ x ∈ ([.methodLink RX10 1 Lib.objectInit, .instanceMethod Lib.objectInit, .code Lib.objectInit ⟨#[0xb1]⟩ 1 none] : List Cond), x ∈ zgood := zall [1501, 143, 144] (by decide +kernel) (by decide +kernel)
theorem dX10_init_1 : decode cX10_init 1 = .ok (.invokespecial 1, 3) := by decide +kernel
theorem dX10_init_4 : decode cX10_init 4 = .ok (.aload_n 0, 1) := by decide +kernel
theorem dX10_init_5 : decode cX10_init 5 = .ok (.sipush 380, 3) := by decide +kernel
theorem dX10_init_8 : decode cX10_init 8 = .ok (.newarray .int, 2) := by decide +kernel
theorem dX10_init_10 : decode cX10_init 10 = .ok (.putfield 7, 3) := by decide +kernel
theorem dX10_init_13 : decode cX10_init 13 = .ok (.aload_n 0, 1) := by decide +kernel
theorem dX10_init_14 : decode cX10_init 14 = .ok (.sipush 380, 3) := by decide +kernel
theorem dX10_init_17 : decode cX10_init 17 = .ok (.newarray .int, 2) := by decide +kernel
theorem dX10_init_19 : decode cX10_init 19 = .ok (.putfield 13, 3) := by decide +kernel
theorem dX10_init_22 : decode cX10_init 22 = .ok (.aload_n 0, 1) := by decide +kernel
theorem dX10_init_23 : decode cX10_init 23 = .ok (.sipush 380, 3) := by decide +kernel
theorem dX10_init_26 : decode cX10_init 26 = .ok (.newarray .int, 2) := by decide +kernel
theorem dX10_init_28 : decode cX10_init 28 = .ok (.putfield 16, 3) := by decide +kernel
theorem dX10_init_31 : decode cX10_init 31 = .ok (.aload_n 0, 1) := by decide +kernel
theorem dX10_init_32 : decode cX10_init 32 = .ok (.sipush 380, 3) := by decide +kernel
theorem dX10_init_35 : decode cX10_init 35 = .ok (.newarray .int, 2) := by decide +kernel
theorem dX10_init_37 : decode cX10_init 37 = .ok (.putfield 19, 3) := by decide +kernel
theorem dX10_init_40 : decode cX10_init 40 = .ok (.aload_n 0, 1) := by decide +kernel
theorem dX10_init_41 : decode cX10_init 41 = .ok (.sipush 3040, 3) := by decide +kernel
theorem dX10_init_44 : decode cX10_init 44 = .ok (.newarray .int, 2) := by decide +kernel
theorem dX10_init_46 : decode cX10_init 46 = .ok (.putfield 22, 3) := by decide +kernel
theorem dX10_init_49 : decode cX10_init 49 = .ok (.aload_n 0, 1) := by decide +kernel
theorem dX10_init_50 : decode cX10_init 50 = .ok (.sipush 560, 3) := by decide +kernel
theorem dX10_init_53 : decode cX10_init 53 = .ok (.newarray .int, 2) := by decide +kernel
theorem dX10_init_55 : decode cX10_init 55 = .ok (.putfield 25, 3) := by decide +kernel
theorem dX10_init_58 : decode cX10_init 58 = .ok (.aload_n 0, 1) := by decide +kernel
theorem dX10_init_59 : decode cX10_init 59 = .ok (.bipush 8, 2) := by decide +kernel
theorem dX10_init_61 : decode cX10_init 61 = .ok (.newarray .int, 2) := by decide +kernel
theorem dX10_init_63 : decode cX10_init 63 = .ok (.putfield 28, 3) := by decide +kernel
theorem dX10_init_66 : decode cX10_init 66 = .ok (.aload_n 0, 1) := by decide +kernel
theorem dX10_init_67 : decode cX10_init 67 = .ok (.sipush 1400, 3) := by decide +kernel
theorem dX10_init_70 : decode cX10_init 70 = .ok (.newarray .int, 2) := by decide +kernel
theorem dX10_init_72 : decode cX10_init 72 = .ok (.putfield 31, 3) := by decide +kernel
theorem dX10_init_75 : decode cX10_init 75 = .ok (.aload_n 0, 1) := by decide +kernel
theorem dX10_init_76 : decode cX10_init 76 = .ok (.iconst (-1), 1) := by decide +kernel
theorem dX10_init_77 : decode cX10_init 77 = .ok (.putfield 34, 3) := by decide +kernel
theorem dX10_init_80 : decode cX10_init 80 = .ok (.aload_n 0, 1) := by decide +kernel
theorem dX10_init_81 : decode cX10_init 81 = .ok (.sipush 150, 3) := by decide +kernel
theorem dX10_init_84 : decode cX10_init 84 = .ok (.newarray .int, 2) := by decide +kernel
theorem dX10_init_86 : decode cX10_init 86 = .ok (.putfield 38, 3) := by decide +kernel
theorem dX10_init_89 : decode cX10_init 89 = .ok (.aload_n 0, 1) := by decide +kernel
theorem dX10_init_90 : decode cX10_init 90 = .ok (.sipush 160, 3) := by decide +kernel
theorem dX10_init_93 : decode cX10_init 93 = .ok (.newarray .int, 2) := by decide +kernel
theorem dX10_init_95 : decode cX10_init 95 = .ok (.putfield 41, 3) := by decide +kernel
theorem dX10_init_98 : decode cX10_init 98 = .ok (.aload_n 0, 1) := by decide +kernel
theorem dX10_init_99 : decode cX10_init 99 = .ok (.ldc 44, 2) := by decide +kernel
theorem dX10_init_101 : decode cX10_init 101 = .ok (.invokevirtual 46, 3) := by decide +kernel
theorem cw_RX10_46 : zCwV RX10 46 mX10_loads := zall [1503, 1505, 21, 128, 1506] (by decide +kernel) (by decide +kernel)
theorem dX10_init_104 : decode cX10_init 104 = .ok (.aload_n 0, 1) := by decide +kernel
theorem dX10_init_105 : decode cX10_init 105 = .ok (.ldc 50, 2) := by decide +kernel
theorem dX10_init_107 : decode cX10_init 107 = .ok (.invokevirtual 46, 3) := by decide +kernel
theorem dX10_init_110 : decode cX10_init 110 = .ok (.aload_n 0, 1) := by decide +kernel
theorem dX10_init_111 : decode cX10_init 111 = .ok (.invokevirtual 52, 3) := by decide +kernel
theorem cw_RX10_52 : zCwV RX10 52 mX10_load := zall [1510, 1511, 1512, 128, 1513] (by decide +kernel) (by decide +kernel)
theorem dX10_init_114 : decode cX10_init 114 = .ok (.istore_n 1, 1) := by decide +kernel
theorem dX10_init_115 : decode cX10_init 115 = .ok (.return_, 1) := by decide +kernel
/-! the model's constructor, and the two together -/
theorem dt_p (i : Nat) : 0 ≤ dtx i := by
  unfold dtx
  rw [List.getD_eq_getElem?_getD]
  cases hq : dtL[i]? with
  | none => exact Int.le_refl _
  | some x => exact (dt_b x (List.mem_of_getElem? hq)).1
def MI (σ : zS) : Prop := zOK σ ∧ Inv σ ∧ σ.2 = 0
theorem MI_ok {σ τ υ : zS} {X : Nat → zTr} {M : Nat} (hC : CI σ) (hX : cTr dtx 347 X M) (hm : ¬ ((X M).2.1.2.1 = 0 ∧ ¬ xK dtx 347 (X M).2.1.1 = 0)) (hE : zEq (X M).2.2 (bk σ 30)) (h5 : σ.1 1 5 = (cFin dtx 347 X M).2.1) (h6 : σ.1 1 6 = (cFin dtx 347 X M).2.2) (h1 : mfr σ τ (fun k => k = 269) (fun i => i = 16)) (hz : zOK υ) (h2 : mfr τ υ lA lF) (hR : Rel (X M).2.2 (υ.1 262)) (k5 : υ.1 261 5 = 0) (k16 : υ.1 261 16 = 0) (k22 : υ.1 261 22 = (cFin dtx 347 X M).2.1) (k23 : υ.1 261 23 = (cFin dtx 347 X M).2.2) (k19 : 0 ≤ υ.1 261 19 ∧ υ.1 261 19 ≤ 1401) : MI υ := by
  obtain ⟨-, c1, -, c2, c3, c4, c5⟩ := hC
  have f : ∀ k, k ≠ 261 → k ≠ 262 → k ≠ 264 → k ≠ 269 → ∀ i, υ.1 k i = σ.1 k i := fun k a1 a2 a3 a4 i => (h2.1 k (fun q => q.elim a2 a3) a1 i).trans (h1.1 k a4 a1 i)
  have g : ∀ i, ¬ lF i → i ≠ 16 → υ.1 261 i = σ.1 261 i := fun i a1 a2 => (h2.2.1 i a1).trans (h1.2.1 i a2)
  have z : ∀ k, k = 0 ∨ 50 ≤ k → k ≠ 261 → ∀ i, σ.1 k i = 0 := fun k a1 a2 i => (c4 k a1 i).trans (zs_o (by omega) a2 i)
  have eb : bk υ 30 = bk σ 30 ∨ True := Or.inr trivial
  have hEu : zEq (bk σ 30) (bk υ 30) := ⟨⟨f 31 (by decide) (by decide) (by decide) (by decide) _, f 31 (by decide) (by decide) (by decide) (by decide) _, f 31 (by decide) (by decide) (by decide) (by decide) _, f 42 (by decide) (by decide) (by decide) (by decide) _⟩, fun o _ _ i _ => f (30 + o) (by omega) (by omega) (by omega) (by omega) i, fun o _ _ i _ => f (30 + o) (by omega) (by omega) (by omega) (by omega) i, fun o _ _ i _ => f (30 + o) (by omega) (by omega) (by omega) (by omega) i⟩
  have hE2 := zEq_tr hE hEu
  have hWX := (hX.2.1 M (Nat.le_refl _)).1
  refine ⟨hz, ⟨⟨WF_eq hE2 hWX, ?_, Rel_l (lEq_z hWX hE2) hR⟩, ⟨?_, ?_, ?_⟩, ⟨?_, ?_, ?_, ?_⟩, ⟨⟨[], ⟨?_, ?_⟩, ⟨?_, ?_⟩, ?_, ?_⟩, k19⟩, ⟨?_, ?_⟩, ⟨[], ⟨?_, ?_⟩, ⟨?_, ?_⟩, ?_⟩⟩, ?_⟩
  · rw [hE2.1.1, (dt_run hX hm).2]; decide
  · exact Or.inl ((f 0 (by decide) (by decide) (by decide) (by decide) 5).trans (z 0 (Or.inl rfl) (by decide) 5))
  · rw [f 0 (by decide) (by decide) (by decide) (by decide) 5, z 0 (Or.inl rfl) (by decide) 5, g 7 (by unfold lF; omega) (by decide), c4 261 (by omega) 7]; rfl
  · intro h
    rw [f 0 (by decide) (by decide) (by decide) (by decide) 5, z 0 (Or.inl rfl) (by decide) 5] at h
    exact absurd h (by decide)
  · have a1 : υ.1 70 1 = 0 := (f 70 (by decide) (by decide) (by decide) (by decide) 1).trans (z 70 (by omega) (by decide) 1)
    have a2 : υ.1 70 2 = 0 := (f 70 (by decide) (by decide) (by decide) (by decide) 2).trans (z 70 (by omega) (by decide) 2)
    unfold HN
    rw [a1, a2]; decide
  · intro k hk
    have hb : k + 18 < 261 := by
      rcases hk with rfl | rfl | rfl | ⟨r, hr, rfl⟩ <;> omega
    exact bb_pt2 (fun i => f _ (by omega) (by omega) (by omega) (by omega) i) (fun i => f _ (by omega) (by omega) (by omega) (by omega) i) (c2 k hk)
  · exact k5.trans ((f 70 (by decide) (by decide) (by decide) (by decide) 2).trans (z 70 (by omega) (by decide) 2)).symm
  · intro i hi
    rw [f 70 (by decide) (by decide) (by decide) (by decide) 2, z 70 (by omega) (by decide) 2] at hi
    omega
  · exact (f 1 (by decide) (by decide) (by decide) (by decide) 1).trans c3
  · intro i hi; exact absurd hi (Nat.not_lt_zero _)
  · exact k16
  · intro i hi; exact absurd hi (Nat.not_lt_zero _)
  · exact Nat.zero_le _
  · intro x hx; cases hx
  · exact ((f 1 (by decide) (by decide) (by decide) (by decide) 5).trans h5).trans k22.symm
  · exact ((f 1 (by decide) (by decide) (by decide) (by decide) 6).trans h6).trans k23.symm
  · exact (f 259 (by decide) (by decide) (by decide) (by decide) 1).trans (z 259 (by omega) (by decide) 1)
  · intro i hi; exact absurd hi (Nat.not_lt_zero _)
  · exact (g 27 (by unfold lF; omega) (by decide)).trans (c4 261 (by omega) 27)
  · intro i hi; exact absurd hi (Nat.not_lt_zero _)
  · exact Nat.zero_le _
  · exact h2.2.2.trans (h1.2.2.trans c5)

set_option maxRecDepth 20000 in
set_option maxHeartbeats 4000000 in
theorem con_X10 {l : Launch} {w : zW} (hfl : l.stackTraces = false) {σ : zS} (hC : CI σ) {pre : List va_E} (hp : pre = eL w σ (zshL.take 261) 0) : zCon l w mX10_init 9 10 6838 pre (.inr (10, [Value.null, Value.null, Value.null, Value.null, Value.null, Value.int 0, Value.int 0, Value.int 0, Value.null, Value.int 0, Value.int 0, Value.int 0, Value.null, Value.int 0, Value.int 0, Value.null, Value.int 0, Value.int 0, Value.int 0, Value.int 0, Value.int 0, Value.int 0, Value.int 0, Value.int 0, Value.null, Value.int 0, Value.null, Value.int 0])) (zRs w MI (fun σ => eL w σ (zshL.take 272) 0)) := by
  obtain ⟨Rs, hRs⟩ : ∃ Rs : Heap → Prop, Rs = zRs w MI (fun σ => eL w σ (zshL.take 272) 0) := ⟨_, rfl⟩
  rw [← hRs]
  have hpl : pre.length = 261 := by rw [hp, eL_len]; decide +kernel
  have hσ : ∀ j, pre.length + 1 ≤ j → j < pre.length + 11 → ∀ i, σ.1 j i = 0 := fun j h1 h2 i => (hC.2.2.2.2.2.1 j (by omega) i).trans (zs_o (by omega) (by omega) i)
  refine zk_enter hfl (by decide) rfl rfl 1 rfl ?_
  show zK l w mX10_init _ true 0 [zV0 (zB w + pre.length), zu] [] 0 0 (eX w σ pre 10 [Value.null, Value.null, Value.null, Value.null, Value.null, Value.int 0, Value.int 0, Value.int 0, Value.null, Value.int 0, Value.int 0, Value.int 0, Value.null, Value.int 0, Value.int 0, Value.null, Value.int 0, Value.int 0, Value.int 0, Value.int 0, Value.int 0, Value.int 0, Value.int 0, Value.int 0, Value.null, Value.int 0, Value.null, Value.int 0] [])
  refine zk_aloadN dX10_init_0 rfl rfl ?_
  refine zk_obj ob_RX10_1 (Nat.le_of_ble_eq_true rfl) ⟨(Nat.le_of_ble_eq_true rfl), (Nat.le_of_ble_eq_true rfl)⟩ dX10_init_1 ?_
  refine zk_aloadN dX10_init_4 rfl rfl ?_
  refine zk_sipush dX10_init_5 rfl ?_
  refine kx_newa (g := 29) (n := 380) (q := 0) (a := zB w + (pre.length + 1)) (T' := [29]) rfl ac_int rfl rfl (fun _ _ h => h) rfl (by decide) rfl (by decide) (by decide) (hσ (pre.length + 1) (by omega) (by omega)) (by decide) (by decide) (Nat.le_of_ble_eq_true rfl) (Nat.le_of_ble_eq_true rfl) (Nat.le_of_ble_eq_true rfl) dX10_init_8 rfl ?_
  refine kx_put (ty := (.array .int)) fl_RX10_7 (Nat.le_of_ble_eq_true rfl) (fun _ _ _ h => by cases h; exact ⟨by decide +kernel, Or.inr ⟨rfl, rfl, rfl⟩⟩) rfl rfl dX10_init_10 (fs' := [Value.ref (zB w + (pre.length + 1)), Value.null, Value.null, Value.null, Value.null, Value.int 0, Value.int 0, Value.int 0, Value.null, Value.int 0, Value.int 0, Value.int 0, Value.null, Value.int 0, Value.int 0, Value.null, Value.int 0, Value.int 0, Value.int 0, Value.int 0, Value.int 0, Value.int 0, Value.int 0, Value.int 0, Value.null, Value.int 0, Value.null, Value.int 0]) rfl ?_
  refine zk_aloadN dX10_init_13 rfl rfl ?_
  refine zk_sipush dX10_init_14 rfl ?_
  refine kx_newa (g := 29) (n := 380) (q := 0) (a := zB w + (pre.length + 2)) (T' := [29, 29]) rfl ac_int rfl rfl (fun _ _ h => h) rfl (by decide) rfl (by decide) (by decide) (hσ (pre.length + 2) (by omega) (by omega)) (by decide) (by decide) (Nat.le_of_ble_eq_true rfl) (Nat.le_of_ble_eq_true rfl) (Nat.le_of_ble_eq_true rfl) dX10_init_17 rfl ?_
  refine kx_put (ty := (.array .int)) fl_RX10_13 (Nat.le_of_ble_eq_true rfl) (fun _ _ _ h => by cases h; exact ⟨by decide +kernel, Or.inr ⟨rfl, rfl, rfl⟩⟩) rfl rfl dX10_init_19 (fs' := [Value.ref (zB w + (pre.length + 1)), Value.ref (zB w + (pre.length + 2)), Value.null, Value.null, Value.null, Value.int 0, Value.int 0, Value.int 0, Value.null, Value.int 0, Value.int 0, Value.int 0, Value.null, Value.int 0, Value.int 0, Value.null, Value.int 0, Value.int 0, Value.int 0, Value.int 0, Value.int 0, Value.int 0, Value.int 0, Value.int 0, Value.null, Value.int 0, Value.null, Value.int 0]) rfl ?_
  refine zk_aloadN dX10_init_22 rfl rfl ?_
  refine zk_sipush dX10_init_23 rfl ?_
  refine kx_newa (g := 29) (n := 380) (q := 0) (a := zB w + (pre.length + 3)) (T' := [29, 29, 29]) rfl ac_int rfl rfl (fun _ _ h => h) rfl (by decide) rfl (by decide) (by decide) (hσ (pre.length + 3) (by omega) (by omega)) (by decide) (by decide) (Nat.le_of_ble_eq_true rfl) (Nat.le_of_ble_eq_true rfl) (Nat.le_of_ble_eq_true rfl) dX10_init_26 rfl ?_
  refine kx_put (ty := (.array .int)) fl_RX10_16 (Nat.le_of_ble_eq_true rfl) (fun _ _ _ h => by cases h; exact ⟨by decide +kernel, Or.inr ⟨rfl, rfl, rfl⟩⟩) rfl rfl dX10_init_28 (fs' := [Value.ref (zB w + (pre.length + 1)), Value.ref (zB w + (pre.length + 2)), Value.ref (zB w + (pre.length + 3)), Value.null, Value.null, Value.int 0, Value.int 0, Value.int 0, Value.null, Value.int 0, Value.int 0, Value.int 0, Value.null, Value.int 0, Value.int 0, Value.null, Value.int 0, Value.int 0, Value.int 0, Value.int 0, Value.int 0, Value.int 0, Value.int 0, Value.int 0, Value.null, Value.int 0, Value.null, Value.int 0]) rfl ?_
  refine zk_aloadN dX10_init_31 rfl rfl ?_
  refine zk_sipush dX10_init_32 rfl ?_
  refine kx_newa (g := 29) (n := 380) (q := 0) (a := zB w + (pre.length + 4)) (T' := [29, 29, 29, 29]) rfl ac_int rfl rfl (fun _ _ h => h) rfl (by decide) rfl (by decide) (by decide) (hσ (pre.length + 4) (by omega) (by omega)) (by decide) (by decide) (Nat.le_of_ble_eq_true rfl) (Nat.le_of_ble_eq_true rfl) (Nat.le_of_ble_eq_true rfl) dX10_init_35 rfl ?_
  refine kx_put (ty := (.array .int)) fl_RX10_19 (Nat.le_of_ble_eq_true rfl) (fun _ _ _ h => by cases h; exact ⟨by decide +kernel, Or.inr ⟨rfl, rfl, rfl⟩⟩) rfl rfl dX10_init_37 (fs' := [Value.ref (zB w + (pre.length + 1)), Value.ref (zB w + (pre.length + 2)), Value.ref (zB w + (pre.length + 3)), Value.ref (zB w + (pre.length + 4)), Value.null, Value.int 0, Value.int 0, Value.int 0, Value.null, Value.int 0, Value.int 0, Value.int 0, Value.null, Value.int 0, Value.int 0, Value.null, Value.int 0, Value.int 0, Value.int 0, Value.int 0, Value.int 0, Value.int 0, Value.int 0, Value.int 0, Value.null, Value.int 0, Value.null, Value.int 0]) rfl ?_
  refine zk_aloadN dX10_init_40 rfl rfl ?_
  refine zk_sipush dX10_init_41 rfl ?_
  refine kx_newa (g := 30) (n := 3040) (q := 0) (a := zB w + (pre.length + 5)) (T' := [29, 29, 29, 29, 30]) rfl ac_int rfl rfl (fun _ _ h => h) rfl (by decide) rfl (by decide) (by decide) (hσ (pre.length + 5) (by omega) (by omega)) (by decide) (by decide) (Nat.le_of_ble_eq_true rfl) (Nat.le_of_ble_eq_true rfl) (Nat.le_of_ble_eq_true rfl) dX10_init_44 rfl ?_
  refine kx_put (ty := (.array .int)) fl_RX10_22 (Nat.le_of_ble_eq_true rfl) (fun _ _ _ h => by cases h; exact ⟨by decide +kernel, Or.inr ⟨rfl, rfl, rfl⟩⟩) rfl rfl dX10_init_46 (fs' := [Value.ref (zB w + (pre.length + 1)), Value.ref (zB w + (pre.length + 2)), Value.ref (zB w + (pre.length + 3)), Value.ref (zB w + (pre.length + 4)), Value.ref (zB w + (pre.length + 5)), Value.int 0, Value.int 0, Value.int 0, Value.null, Value.int 0, Value.int 0, Value.int 0, Value.null, Value.int 0, Value.int 0, Value.null, Value.int 0, Value.int 0, Value.int 0, Value.int 0, Value.int 0, Value.int 0, Value.int 0, Value.int 0, Value.null, Value.int 0, Value.null, Value.int 0]) rfl ?_
  refine zk_aloadN dX10_init_49 rfl rfl ?_
  refine zk_sipush dX10_init_50 rfl ?_
  refine kx_newa (g := 31) (n := 560) (q := 0) (a := zB w + (pre.length + 6)) (T' := [29, 29, 29, 29, 30, 31]) rfl ac_int rfl rfl (fun _ _ h => h) rfl (by decide) rfl (by decide) (by decide) (hσ (pre.length + 6) (by omega) (by omega)) (by decide) (by decide) (Nat.le_of_ble_eq_true rfl) (Nat.le_of_ble_eq_true rfl) (Nat.le_of_ble_eq_true rfl) dX10_init_53 rfl ?_
  refine kx_put (ty := (.array .int)) fl_RX10_25 (Nat.le_of_ble_eq_true rfl) (fun _ _ _ h => by cases h; exact ⟨by decide +kernel, Or.inr ⟨rfl, rfl, rfl⟩⟩) rfl rfl dX10_init_55 (fs' := [Value.ref (zB w + (pre.length + 1)), Value.ref (zB w + (pre.length + 2)), Value.ref (zB w + (pre.length + 3)), Value.ref (zB w + (pre.length + 4)), Value.ref (zB w + (pre.length + 5)), Value.int 0, Value.int 0, Value.int 0, Value.ref (zB w + (pre.length + 6)), Value.int 0, Value.int 0, Value.int 0, Value.null, Value.int 0, Value.int 0, Value.null, Value.int 0, Value.int 0, Value.int 0, Value.int 0, Value.int 0, Value.int 0, Value.int 0, Value.int 0, Value.null, Value.int 0, Value.null, Value.int 0]) rfl ?_
  refine zk_aloadN dX10_init_58 rfl rfl ?_
  refine zk_bipush dX10_init_59 rfl ?_
  refine kx_newa (g := 21) (n := 8) (q := 0) (a := zB w + (pre.length + 7)) (T' := [29, 29, 29, 29, 30, 31, 21]) rfl ac_int rfl rfl (fun _ _ h => h) rfl (by decide) rfl (by decide) (by decide) (hσ (pre.length + 7) (by omega) (by omega)) (by decide) (by decide) (Nat.le_of_ble_eq_true rfl) (Nat.le_of_ble_eq_true rfl) (Nat.le_of_ble_eq_true rfl) dX10_init_61 rfl ?_
  refine kx_put (ty := (.array .int)) fl_RX10_28 (Nat.le_of_ble_eq_true rfl) (fun _ _ _ h => by cases h; exact ⟨by decide +kernel, Or.inr ⟨rfl, rfl, rfl⟩⟩) rfl rfl dX10_init_63 (fs' := [Value.ref (zB w + (pre.length + 1)), Value.ref (zB w + (pre.length + 2)), Value.ref (zB w + (pre.length + 3)), Value.ref (zB w + (pre.length + 4)), Value.ref (zB w + (pre.length + 5)), Value.int 0, Value.int 0, Value.int 0, Value.ref (zB w + (pre.length + 6)), Value.int 0, Value.int 0, Value.int 0, Value.ref (zB w + (pre.length + 7)), Value.int 0, Value.int 0, Value.null, Value.int 0, Value.int 0, Value.int 0, Value.int 0, Value.int 0, Value.int 0, Value.int 0, Value.int 0, Value.null, Value.int 0, Value.null, Value.int 0]) rfl ?_
  refine zk_aloadN dX10_init_66 rfl rfl ?_
  refine zk_sipush dX10_init_67 rfl ?_
  refine kx_newa (g := 32) (n := 1400) (q := 0) (a := zB w + (pre.length + 8)) (T' := [29, 29, 29, 29, 30, 31, 21, 32]) rfl ac_int rfl rfl (fun _ _ h => h) rfl (by decide) rfl (by decide) (by decide) (hσ (pre.length + 8) (by omega) (by omega)) (by decide) (by decide) (Nat.le_of_ble_eq_true rfl) (Nat.le_of_ble_eq_true rfl) (Nat.le_of_ble_eq_true rfl) dX10_init_70 rfl ?_
  refine kx_put (ty := (.array .int)) fl_RX10_31 (Nat.le_of_ble_eq_true rfl) (fun _ _ _ h => by cases h; exact ⟨by decide +kernel, Or.inr ⟨rfl, rfl, rfl⟩⟩) rfl rfl dX10_init_72 (fs' := [Value.ref (zB w + (pre.length + 1)), Value.ref (zB w + (pre.length + 2)), Value.ref (zB w + (pre.length + 3)), Value.ref (zB w + (pre.length + 4)), Value.ref (zB w + (pre.length + 5)), Value.int 0, Value.int 0, Value.int 0, Value.ref (zB w + (pre.length + 6)), Value.int 0, Value.int 0, Value.int 0, Value.ref (zB w + (pre.length + 7)), Value.int 0, Value.int 0, Value.ref (zB w + (pre.length + 8)), Value.int 0, Value.int 0, Value.int 0, Value.int 0, Value.int 0, Value.int 0, Value.int 0, Value.int 0, Value.null, Value.int 0, Value.null, Value.int 0]) rfl ?_
  refine zk_aloadN dX10_init_75 rfl rfl ?_
  refine zk_iconst dX10_init_76 ?_
  refine kx_put (ty := .int) fl_RX10_34 (Nat.le_of_ble_eq_true rfl) (fun _ _ _ h => by cases h; exact ⟨by decide +kernel, Or.inl rfl⟩) rfl rfl dX10_init_77 (fs' := [Value.ref (zB w + (pre.length + 1)), Value.ref (zB w + (pre.length + 2)), Value.ref (zB w + (pre.length + 3)), Value.ref (zB w + (pre.length + 4)), Value.ref (zB w + (pre.length + 5)), Value.int 0, Value.int 0, Value.int 0, Value.ref (zB w + (pre.length + 6)), Value.int 0, Value.int 0, Value.int 0, Value.ref (zB w + (pre.length + 7)), Value.int 0, Value.int 0, Value.ref (zB w + (pre.length + 8)), Value.int 0, Value.int 0, Value.int 0, Value.int 0, Value.int 0, Value.int 0, Value.int 0, Value.int (Int32.ofInt (-1)), Value.null, Value.int 0, Value.null, Value.int 0]) rfl ?_
  refine zk_aloadN dX10_init_80 rfl rfl ?_
  refine zk_sipush dX10_init_81 rfl ?_
  refine kx_newa (g := 33) (n := 150) (q := 0) (a := zB w + (pre.length + 9)) (T' := [29, 29, 29, 29, 30, 31, 21, 32, 33]) rfl ac_int rfl rfl (fun _ _ h => h) rfl (by decide) rfl (by decide) (by decide) (hσ (pre.length + 9) (by omega) (by omega)) (by decide) (by decide) (Nat.le_of_ble_eq_true rfl) (Nat.le_of_ble_eq_true rfl) (Nat.le_of_ble_eq_true rfl) dX10_init_84 rfl ?_
  refine kx_put (ty := (.array .int)) fl_RX10_38 (Nat.le_of_ble_eq_true rfl) (fun _ _ _ h => by cases h; exact ⟨by decide +kernel, Or.inr ⟨rfl, rfl, rfl⟩⟩) rfl rfl dX10_init_86 (fs' := [Value.ref (zB w + (pre.length + 1)), Value.ref (zB w + (pre.length + 2)), Value.ref (zB w + (pre.length + 3)), Value.ref (zB w + (pre.length + 4)), Value.ref (zB w + (pre.length + 5)), Value.int 0, Value.int 0, Value.int 0, Value.ref (zB w + (pre.length + 6)), Value.int 0, Value.int 0, Value.int 0, Value.ref (zB w + (pre.length + 7)), Value.int 0, Value.int 0, Value.ref (zB w + (pre.length + 8)), Value.int 0, Value.int 0, Value.int 0, Value.int 0, Value.int 0, Value.int 0, Value.int 0, Value.int (Int32.ofInt (-1)), Value.ref (zB w + (pre.length + 9)), Value.int 0, Value.null, Value.int 0]) rfl ?_
  refine zk_aloadN dX10_init_89 rfl rfl ?_
  refine zk_sipush dX10_init_90 rfl ?_
  refine kx_newa (g := 34) (n := 160) (q := 0) (a := zB w + (pre.length + 10)) (T' := [29, 29, 29, 29, 30, 31, 21, 32, 33, 34]) rfl ac_int rfl rfl (fun _ _ h => h) rfl (by decide) rfl (by decide) (by decide) (hσ (pre.length + 10) (by omega) (by omega)) (by decide) (by decide) (Nat.le_of_ble_eq_true rfl) (Nat.le_of_ble_eq_true rfl) (Nat.le_of_ble_eq_true rfl) dX10_init_93 rfl ?_
  refine kx_put (ty := (.array .int)) fl_RX10_41 (Nat.le_of_ble_eq_true rfl) (fun _ _ _ h => by cases h; exact ⟨by decide +kernel, Or.inr ⟨rfl, rfl, rfl⟩⟩) rfl rfl dX10_init_95 (fs' := [Value.ref (zB w + (pre.length + 1)), Value.ref (zB w + (pre.length + 2)), Value.ref (zB w + (pre.length + 3)), Value.ref (zB w + (pre.length + 4)), Value.ref (zB w + (pre.length + 5)), Value.int 0, Value.int 0, Value.int 0, Value.ref (zB w + (pre.length + 6)), Value.int 0, Value.int 0, Value.int 0, Value.ref (zB w + (pre.length + 7)), Value.int 0, Value.int 0, Value.ref (zB w + (pre.length + 8)), Value.int 0, Value.int 0, Value.int 0, Value.int 0, Value.int 0, Value.int 0, Value.int 0, Value.int (Int32.ofInt (-1)), Value.ref (zB w + (pre.length + 9)), Value.int 0, Value.ref (zB w + (pre.length + 10)), Value.int 0]) rfl ?_
  refine zk_zx (N := 272) (c0 := 10) (s0 := 6838) (σ := σ) (ls' := [zf 10 261, zu]) rfl rfl (by decide +kernel) (by decide +kernel) ?_ (by rw [hpl]; rfl) (fun v hv => ?_) (Nat.le_of_ble_eq_true rfl) (Nat.le_of_ble_eq_true rfl) ?_
  · refine (eX_end (c := fun i => if i = 23 then -1 else 0) (by decide) (fun i => ?_) rfl).trans ?_
    · rw [hpl]
      refine (hC.2.2.2.2.2.1 261 (by omega) i).trans ?_
      show (if (261 = 1 ∧ i = 6) ∨ (261 = 261 ∧ i = 23) then (-1 : Int) else 0) = _
      by_cases h : i = 23
      · rw [if_pos (Or.inr ⟨rfl, h⟩), if_pos h]
      · rw [if_neg (by omega), if_neg h]
    · have e : zshL.take 272 = zshL.take 261 ++ (10 :: [29, 29, 29, 29, 30, 31, 21, 32, 33, 34]) := by decide +kernel
      have e2 : (zshL.take 261).length = 261 := by decide +kernel
      rw [e, eL_app, ← hp, hpl, e2, Nat.zero_add]
  · rcases List.mem_cons.mp hv with rfl | hv
    · exact Or.inr (Or.inr ⟨by decide, by show 261 < 272; decide, by decide +kernel⟩)
    · rcases List.mem_singleton.mp hv with rfl; exact trivial
  obtain ⟨X, M, hX, hm, hE, h5, h6⟩ := hC.2.2.1
  have c4 := hC.2.2.2.2.2.1
  have hI0 : InM σ [] := ⟨c4 261 (by omega) 16, fun i hi => absurd hi (Nat.not_lt_zero _)⟩
  refine zx_aloadN dX10_init_98 rfl rfl ?_
  refine zx_ldcS (List.mem_of_getElem? (i := 37) rfl) (by decide) dX10_init_99 ?_
  refine zy_cvvR [zf 100 33] (sX10_loads hfl hC.1 hI0 (by decide)) dX10_init_101 (by decide) rfl cw_RX10_46 okX10_loads rfl (Nat.le_of_ble_eq_true rfl) ⟨(Nat.le_of_ble_eq_true rfl), (Nat.le_of_ble_eq_true rfl), (Nat.le_of_ble_eq_true rfl), (Nat.le_of_ble_eq_true rfl)⟩ (fun τ1 h1 => ?_)
  obtain ⟨hz1, hF1, hI1⟩ := h1
  refine zx_aloadN dX10_init_104 rfl rfl ?_
  refine zx_ldcS (List.mem_of_getElem? (i := 38) rfl) (by decide) dX10_init_105 ?_
  refine zy_cvvR [zf 100 34] (sX10_loads hfl hz1 hI1 (by simp only [List.length_append, sbn_l, List.length_nil]; decide)) dX10_init_107 (by decide) rfl cw_RX10_46 okX10_loads rfl (Nat.le_of_ble_eq_true rfl) ⟨(Nat.le_of_ble_eq_true rfl), (Nat.le_of_ble_eq_true rfl), (Nat.le_of_ble_eq_true rfl), (Nat.le_of_ble_eq_true rfl)⟩ (fun τ2 h2 => ?_)
  obtain ⟨hz2, hG2, hI2⟩ := h2
  have hF2 : mfr σ τ2 (fun k => k = 269) (fun i => i = 16) := mfr_tr hF1 hG2 (fun _ q => q.elim id id) (fun _ q => q.elim id id)
  have zl : zslen.getD 33 0 = 198 ∧ zslen.getD 34 0 = 149 := by decide
  rw [zl.1, zl.2, List.nil_append, ← dt_m] at hI2
  have hn2 : τ2.1 261 16 = ((347 : Nat) : Int) := by rw [hI2.1, dt_l]
  have h19 : τ2.1 261 19 = 0 := (hF2.2.1 19 (by decide)).trans (c4 261 (by omega) 19)
  have hTM : TM dtx 347 τ2 := fun i hi => by
    have e : τ2.1 269 i = dtx i := hI2.2 i (by rw [dt_l]; exact hi)
    rw [e]; exact ⟨dt_p i, Or.inl rfl⟩
  have hRl : Rel (fun _ _ => 0) (τ2.1 262) := (Rel_0 ⟨rfl, rfl, rfl, rfl⟩ (fun j _ => (hF2.1 262 (by decide) (by decide) j).trans ((c4 262 (by omega) j).trans (zs_o (by decide) (by decide) j)))).1
  refine zx_aloadN dX10_init_110 rfl rfl ?_
  refine zy_cvR [] (sX10_load hfl hz2 (WF_emp rfl rfl rfl rfl) hRl hTM ⟨hn2, by decide⟩ (by omega) hX hm (dt_run hX hm).1) dX10_init_111 (by decide) rfl cw_RX10_52 okX10_load rfl (Nat.le_of_ble_eq_true rfl) ⟨(Nat.le_of_ble_eq_true rfl), (Nat.le_of_ble_eq_true rfl), (Nat.le_of_ble_eq_true rfl), (Nat.le_of_ble_eq_true rfl)⟩ (fun τ3 h3 => ?_)
  obtain ⟨hz3, hF3, hR3, k5, k6, k16, k22, k23, k19⟩ := h3
  refine zy_istoreN [zf 10 261, zi ((X M).2.2 12 0)] dX10_init_114 rfl (Nat.le_of_ble_eq_true rfl) (Nat.le_of_ble_eq_true rfl) rfl rfl ?_
  refine zx_kret rfl dX10_init_115 (fun H hR => ?_) (Nat.le_of_ble_eq_true rfl) (Nat.le_of_ble_eq_true rfl)
  rw [hRs]
  exact ⟨τ3, MI_ok hC hX hm hE h5 h6 hF2 hz3 hF3 hR3 k5 k16 k22 k23 k19, (zR_rep (by decide +kernel)).mpr hR⟩

