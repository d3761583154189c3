abbrev mX10_load : zM := (yX10_load, cX10_load, 2, (some .int), [])
theorem okX10_load : zMok mX10_load 0 := ⟨by decide, by decide, by decide +kernel⟩
theorem dX10_load_0 : decode cX10_load 0 = .ok (.aload_n 0, 1) := by decide +kernel
theorem dX10_load_1 : decode cX10_load 1 = .ok (.getfield 7, 3) := by decide +kernel
theorem dX10_load_4 : decode cX10_load 4 = .ok (.iconst 0, 1) := by decide +kernel
theorem dX10_load_5 : decode cX10_load 5 = .ok (.aload_n 0, 1) := by decide +kernel
theorem dX10_load_6 : decode cX10_load 6 = .ok (.getfield 16, 3) := by decide +kernel
theorem dX10_load_9 : decode cX10_load 9 = .ok (.iconst 0, 1) := by decide +kernel
theorem dX10_load_10 : decode cX10_load 10 = .ok (.invokestatic 70, 3) := by decide +kernel
theorem dX10_load_13 : decode cX10_load 13 = .ok (.iconst 0, 1) := by decide +kernel
theorem dX10_load_14 : decode cX10_load 14 = .ok (.istore_n 1, 1) := by decide +kernel
theorem dX10_load_15 : decode cX10_load 15 = .ok (.iload_n 1, 1) := by decide +kernel
theorem dX10_load_16 : decode cX10_load 16 = .ok (.sipush 380, 3) := by decide +kernel
theorem dX10_load_19 : decode cX10_load 19 = .ok (.if_icmp .ge 16, 3) := by decide +kernel
theorem dX10_load_35 : decode cX10_load 35 = .ok (.aload_n 0, 1) := by decide +kernel
theorem dX10_load_36 : decode cX10_load 36 = .ok (.invokevirtual 339, 3) := by decide +kernel
theorem dX10_load_39 : decode cX10_load 39 = .ok (.aload_n 0, 1) := by decide +kernel
theorem dX10_load_40 : decode cX10_load 40 = .ok (.invokevirtual 342, 3) := by decide +kernel
theorem cw_RX10_342 : zCwV RX10 342 mX10_readsAll := zall [1521, 1523, 23, 128, 1524] (by decide +kernel) (by decide +kernel)
theorem dX10_load_43 : decode cX10_load 43 = .ok (.aload_n 0, 1) := by decide +kernel
theorem dX10_load_44 : decode cX10_load 44 = .ok (.aload_n 0, 1) := by decide +kernel
theorem dX10_load_45 : decode cX10_load 45 = .ok (.invokevirtual 345, 3) := by decide +kernel
theorem dX10_load_48 : decode cX10_load 48 = .ok (.invokevirtual 220, 3) := by decide +kernel
theorem dX10_load_51 : decode cX10_load 51 = .ok (.ifCond .ne 18, 3) := by decide +kernel
theorem dX10_load_54 : decode cX10_load 54 = .ok (.aload_n 0, 1) := by decide +kernel
theorem dX10_load_55 : decode cX10_load 55 = .ok (.getfield 16, 3) := by decide +kernel
theorem dX10_load_58 : decode cX10_load 58 = .ok (.iconst 0, 1) := by decide +kernel
theorem dX10_load_59 : decode cX10_load 59 = .ok (.aload_n 0, 1) := by decide +kernel
theorem dX10_load_60 : decode cX10_load 60 = .ok (.getfield 7, 3) := by decide +kernel
theorem dX10_load_63 : decode cX10_load 63 = .ok (.iconst 0, 1) := by decide +kernel
theorem dX10_load_64 : decode cX10_load 64 = .ok (.invokestatic 70, 3) := by decide +kernel
theorem dX10_load_67 : decode cX10_load 67 = .ok (.iconst 0, 1) := by decide +kernel
theorem dX10_load_68 : decode cX10_load 68 = .ok (.ireturn, 1) := by decide +kernel
theorem dX10_load_22 : decode cX10_load 22 = .ok (.aload_n 0, 1) := by decide +kernel
theorem dX10_load_23 : decode cX10_load 23 = .ok (.getfield 7, 3) := by decide +kernel
theorem dX10_load_26 : decode cX10_load 26 = .ok (.iload_n 1, 1) := by decide +kernel
theorem dX10_load_27 : decode cX10_load 27 = .ok (.iconst 0, 1) := by decide +kernel
theorem dX10_load_28 : decode cX10_load 28 = .ok (.iastore, 1) := by decide +kernel
theorem dX10_load_29 : decode cX10_load 29 = .ok (.iinc 1 1, 3) := by decide +kernel
theorem dX10_load_32 : decode cX10_load 32 = .ok (.goto (-17), 3) := by decide +kernel
theorem dX10_load_69 : decode cX10_load 69 = .ok (.aload_n 0, 1) := by decide +kernel
theorem dX10_load_70 : decode cX10_load 70 = .ok (.iconst 0, 1) := by decide +kernel
theorem dX10_load_71 : decode cX10_load 71 = .ok (.putfield 348, 3) := by decide +kernel
theorem dX10_load_74 : decode cX10_load 74 = .ok (.aload_n 0, 1) := by decide +kernel
theorem dX10_load_75 : decode cX10_load 75 = .ok (.getfield 7, 3) := by decide +kernel
theorem dX10_load_78 : decode cX10_load 78 = .ok (.iconst 3, 1) := by decide +kernel
theorem dX10_load_79 : decode cX10_load 79 = .ok (.iaload, 1) := by decide +kernel
theorem dX10_load_80 : decode cX10_load 80 = .ok (.ireturn, 1) := by decide +kernel

def lA (q : Nat) : Prop := q = 262 ∨ q = 264
def lF (i : Nat) : Prop := i = 5 ∨ i = 6 ∨ i = 14 ∨ (16 ≤ i ∧ i ≤ 23)
def lG (i : Nat) : Prop := i = 6 ∨ i = 14 ∨ (16 ≤ i ∧ i ≤ 23)
theorem Rel_0 {D : zBk} {r : Nat → Int} (h : D 1 0 = 0 ∧ D 1 7 = 0 ∧ D 1 10 = 0 ∧ D 12 0 = 0) (z : ∀ j, j < 380 → r j = 0) : Rel D r ∧ Z0 D r := by
  obtain ⟨h1, h2, h3, h4⟩ := h
  refine ⟨⟨⟨(z 0 (by omega)).trans h1.symm, (z 1 (by omega)).trans h2.symm, (z 2 (by omega)).trans h3.symm, (z 3 (by omega)).trans h4.symm⟩, fun p hp => ?_, fun q hq => ?_, fun q hq => ?_, fun c hc => ?_⟩, fun p _ hp => ⟨z _ (by omega), z _ (by omega)⟩⟩
  · rw [h1] at hp; omega
  · rw [h2] at hq; omega
  · rw [h3] at hq; omega
  · rw [h4] at hc; omega

set_option maxRecDepth 20000 in
set_option maxHeartbeats 2000000 in
theorem sX10_load_f {l : Launch} {w : zW} (hfl : l.stackTraces = false) {σ : zS} {D : zBk} {t : Nat → Int} {n : Nat} {X : Nat → zTr} {M : Nat} (hz : zOK σ) (hW : WF D) (hR : Rel D (σ.1 262)) (hT : TM t n σ) (hn : σ.1 261 16 = (n : Int) ∧ n ≤ 1400) (hw19 : 0 ≤ σ.1 261 19 ∧ σ.1 261 19 ≤ 1401) (hX : cTr t n X M) (hm : ¬ ((X M).2.1.2.1 = 0 ∧ ¬ xK t n (X M).2.1.1 = 0)) (hw : ¬ (cFin t n X M).2.1 = 0) : Sp l w mX10_load 8 0 [zf 10 261] σ (zqv (some (zi 0)) (fun τ => zOK τ ∧ mfr σ τ lA lG ∧ Rel D (τ.1 262) ∧ τ.1 261 6 = 1 ∧ τ.1 261 16 = 0 ∧ τ.1 261 22 = (cFin t n X M).2.1 ∧ τ.1 261 23 = (cFin t n X M).2.2 ∧ 0 ≤ τ.1 261 19 ∧ τ.1 261 19 ≤ 1401)) := by
  obtain ⟨Q, hQ⟩ : ∃ Q : zQ, Q = (zqv (some (zi 0)) (fun τ => zOK τ ∧ mfr σ τ lA lG ∧ Rel D (τ.1 262) ∧ τ.1 261 6 = 1 ∧ τ.1 261 16 = 0 ∧ τ.1 261 22 = (cFin t n X M).2.1 ∧ τ.1 261 23 = (cFin t n X M).2.2 ∧ 0 ≤ τ.1 261 19 ∧ τ.1 261 19 ≤ 1401)) := ⟨_, rfl⟩
  rw [← hQ]
  refine zx_enter hfl (by decide) rfl 1 rfl ?_
  show zX l w mX10_load (zMQ w 8 0 Q) 0 [zf 10 261, zu] [] 0 σ
  have hP : 0 ≤ D 1 0 ∧ D 1 0 ≤ 8 := hW.1.1
  have hM : 0 ≤ D 1 7 ∧ D 1 7 ≤ 8 := hW.1.2.1
  have hE : 0 ≤ D 1 10 ∧ D 1 10 ≤ 12 := hW.1.2.2.1
  have hK : 0 ≤ D 12 0 ∧ D 12 0 ≤ 40 := hW.1.2.2.2
  have r0 : σ.1 262 0 = D 1 0 := hR.1.1
  have r1 : σ.1 262 1 = D 1 7 := hR.1.2.1
  have r2 : σ.1 262 2 = D 1 10 := hR.1.2.2.1
  have r3 : σ.1 262 3 = D 12 0 := hR.1.2.2.2
  refine zx_aloadN dX10_load_0 rfl rfl ?_
  refine zy_getR (q' := 262) fl_RX10_7 rfl dX10_load_1 rfl ?_
  refine zx_iconst dX10_load_4 ?_
  refine zx_aloadN dX10_load_5 rfl rfl ?_
  refine zy_getR (q' := 264) fl_RX10_16 rfl dX10_load_6 rfl ?_
  refine zx_iconst dX10_load_9 ?_
  refine zy_csvR [zf 29 262, zi 0, zf 29 264, zi 0] (sX10_copies_a (q := 262) (a := 0) (v := 264) (b := 0) hfl hz (by first | assumption | omega) (by first | assumption | omega) (by decide)) dX10_load_10 cw_RX10_70 okX10_copies rfl (Nat.le_of_ble_eq_true rfl) ⟨Nat.le_of_ble_eq_true rfl, Nat.le_of_ble_eq_true rfl, Nat.le_of_ble_eq_true rfl, Nat.le_of_ble_eq_true rfl⟩ (fun τ10 hr10 => ?_)
  have hz10 : zOK τ10 := hr10.1
  have m10 : mfr σ τ10 (fun k => k = 264) (fun _ => False) := mfr_cpo hr10.2 (by decide)
  refine zx_iconst dX10_load_13 ?_
  refine zy_istoreN [zf 10 261, zi 0] dX10_load_14 rfl (Nat.le_of_ble_eq_true rfl) (Nat.le_of_ble_eq_true rfl) rfl rfl ?_
  have L15 : ∀ (N : Nat) (υ : zS) (i : Nat), (zOK υ) → (i ≤ 380) → (mfr τ10 υ (fun k => k = 262) (fun _ => False)) → (∀ j, j < i → υ.1 262 j = 0) → (381 - i) < N → zX l w mX10_load (zMQ w 8 0 Q) 15 [zf 10 261, zi ((i : Nat) : Int)] [] 0 υ := by
    intro N
    induction N with
    | zero => intro υ i _ _ _ _ _; exact absurd (by assumption) (Nat.not_lt_zero _)
    | succ N ih15 =>
      intro υ i hz hi g1 g2 hN
      refine zx_iloadN dX10_load_15 rfl rfl ?_
      refine zx_sipush dX10_load_16 rfl ?_
      refine zx_icmp_ge (tgt := 35) (by first | exact hz _ _ | assumption | exact zr_b _ | exact zcmp_r _ _ | (unfold zr at *; omega)) (by first | exact hz _ _ | assumption | exact zr_b _ | exact zcmp_r _ _ | (unfold zr at *; omega)) dX10_load_19 (by decide) (fun h19 => ?_) (fun h19 => ?_)
      · have mu : mfr σ υ lA (fun _ => False) := mfr_tr m10 g1 (fun k q => by unfold lA; omega) (fun i q => q.elim id id)
        have i380 : i = 380 := by omega
        have zrow : ∀ j, j < 380 → υ.1 262 j = 0 := fun j hj => g2 j (by omega)
        have tu : TM t n υ := TM_e (fun j => mu.1 269 (by unfold lA; decide) (by decide) j) hT
        have nu : υ.1 261 16 = (n : Int) ∧ n ≤ 1400 := ⟨(mu.2.1 16 (fun q => q)).trans hn.1, hn.2⟩
        have wu : 0 ≤ υ.1 261 19 ∧ υ.1 261 19 ≤ 1401 := by rw [mu.2.1 19 (fun q => q)]; exact hw19
        refine zx_aloadN dX10_load_35 rfl rfl ?_
        refine zy_cvvR [] (sX10_startsText (t := t) (n := n) hfl hz tu nu wu) dX10_load_36 (by decide) rfl cw_RX10_339 okX10_startsText rfl (Nat.le_of_ble_eq_true rfl) ⟨Nat.le_of_ble_eq_true rfl, Nat.le_of_ble_eq_true rfl, Nat.le_of_ble_eq_true rfl, Nat.le_of_ble_eq_true rfl⟩ (fun τ36 hr36 => ?_)
        have hz36 : zOK τ36 := hr36.1
        have zr36 : ∀ j, j < 380 → τ36.1 262 j = 0 := fun j hj => (hr36.2.1.1 262 (fun q => q) (by decide) j).trans (zrow j hj)
        have R0 := Rel_0 hX.2.2.2.2 zr36
        refine zx_aloadN dX10_load_39 rfl rfl ?_
        refine zy_cvvR [] (sX10_readsAll (t := t) (n := n) (X := X) (M := M) hfl hz36 hX hm hr36.2.2 R0.1 R0.2) dX10_load_40 (by decide) rfl cw_RX10_342 okX10_readsAll rfl (Nat.le_of_ble_eq_true rfl) ⟨Nat.le_of_ble_eq_true rfl, Nat.le_of_ble_eq_true rfl, Nat.le_of_ble_eq_true rfl, Nat.le_of_ble_eq_true rfl⟩ (fun τ40 hr40 => ?_)
        have hz40 : zOK τ40 := hr40.1
        have b20 := hr40.2.2.1.2.2.2.1.1
        have b21 := hr40.2.2.1.2.2.2.1.2
        have b19 := hr40.2.2.1.2.2.2.2.1
        refine zx_aloadN dX10_load_43 rfl rfl ?_
        refine zx_aloadN dX10_load_44 rfl rfl ?_
        refine zy_cvR [] (sX10_endsText  hfl hz40 ) dX10_load_45 (by decide) rfl cw_RX10_345 okX10_endsText rfl (Nat.le_of_ble_eq_true rfl) ⟨Nat.le_of_ble_eq_true rfl, Nat.le_of_ble_eq_true rfl, Nat.le_of_ble_eq_true rfl, Nat.le_of_ble_eq_true rfl⟩ (fun τ45 hr45 => ?_)
        have hz45 : zOK τ45 := hr45.1
        have me := mfr_end hr45.2.1 hr45.2.2
        have e16 : τ45.1 261 16 = 0 := (hr45.2.1 261 16).trans (if_pos ⟨rfl, rfl⟩)
        have e22 : τ45.1 261 22 = (cFin t n X M).2.1 := (hr45.2.1 261 22).trans (by rw [if_neg (by omega), if_pos ⟨rfl, rfl⟩]; exact b20)
        have e23 : τ45.1 261 23 = (cFin t n X M).2.2 := (hr45.2.1 261 23).trans (by rw [if_neg (by omega), if_neg (by omega), if_pos ⟨rfl, rfl⟩]; exact b21)
        have e19 : 0 ≤ τ45.1 261 19 ∧ τ45.1 261 19 ≤ 1401 := by rw [me.2.1 19 (by decide)]; omega
        have m36 : mfr σ τ36 lA (fun i => 17 ≤ i ∧ i ≤ 21) := mfr_tr mu hr36.2.1 (fun k q => q.elim id (fun r => absurd r id)) (fun i q => q.elim (fun r => absurd r id) id)
        have m40 : mfr σ τ40 lA (fun i => i = 14 ∨ (17 ≤ i ∧ i ≤ 21)) := mfr_tr m36 hr40.2.1 (fun k q => by unfold lA at *; omega) (fun i q => by omega)
        have m45 : mfr σ τ45 lA (fun i => i = 14 ∨ (16 ≤ i ∧ i ≤ 23)) := mfr_tr m40 me (fun k q => q.elim id (fun r => absurd r id)) (fun i q => by omega)
        have f6 : ∀ i v, i ≠ 6 → (zput τ45 261 6 v).1 261 i = τ45.1 261 i := fun i v hi => zput_i _ _ _ _ _ hi
        refine zy_cv [zi (zb (τ40.1 261 20 = 0))] (sX10_passes (A := (τ40.1 261 20 = 0)) hfl hz45 ) dX10_load_48 (by decide) rfl cw_RX10_220 okX10_passes rfl (Nat.le_of_ble_eq_true rfl) ⟨Nat.le_of_ble_eq_true rfl, Nat.le_of_ble_eq_true rfl, Nat.le_of_ble_eq_true rfl, Nat.le_of_ble_eq_true rfl⟩ ?_
        refine zx_if_ne (tgt := 69) (by first | exact hz45 _ _ | assumption | exact zr_b _ | exact zcmp_r _ _ | (unfold zr at *; omega)) dX10_load_51 (by decide) (fun h51 => ?_) (fun h51 => ?_)
        · have h51 := zb_n.mp h51
          exact absurd (b20.symm.trans h51) hw
        · have h51 := zb_0.mp h51
          refine zx_aloadN dX10_load_54 rfl rfl ?_
          refine zy_getR (q' := 264) fl_RX10_16 rfl dX10_load_55 rfl ?_
          refine zx_iconst dX10_load_58 ?_
          refine zx_aloadN dX10_load_59 rfl rfl ?_
          refine zy_getR (q' := 262) fl_RX10_7 rfl dX10_load_60 rfl ?_
          refine zx_iconst dX10_load_63 ?_
          refine zy_csvR [zf 29 264, zi 0, zf 29 262, zi 0] (sX10_copies_a (q := 264) (a := 0) (v := 262) (b := 0) hfl (zOK_put hz45 (zr_b _)) (by first | assumption | omega) (by first | assumption | omega) (by decide)) dX10_load_64 cw_RX10_70 okX10_copies rfl (Nat.le_of_ble_eq_true rfl) ⟨Nat.le_of_ble_eq_true rfl, Nat.le_of_ble_eq_true rfl, Nat.le_of_ble_eq_true rfl, Nat.le_of_ble_eq_true rfl⟩ (fun τ64 hr64 => ?_)
          have hz64 : zOK τ64 := hr64.1
          refine zx_iconst dX10_load_67 ?_
          refine zx_iret rfl rfl dX10_load_68 ?_
          rw [hQ]
          refine ⟨congrArg (fun z : Int => (Sum.inl (some (zi z)) : Option zV ⊕ String)) ?_, ?_⟩
          · rfl
          have m64 : mfr (zput τ45 261 6 (zb (¬ (τ40.1 261 20 = 0)))) τ64 (fun k => k = 262) (fun _ => False) := mfr_cpo hr64.2 (by decide)
          have m6 : mfr σ (zput τ45 261 6 (zb (¬ (τ40.1 261 20 = 0)))) lA lG := mfr_mo (mfr_put261 m45) (fun k q => q) (fun i q => by unfold lG; omega)
          have mz : mfr σ τ64 lA lG := mfr_tr m6 m64 (fun k q => by unfold lA at *; omega) (fun i q => q.elim id (fun r => absurd r id))
          have c : ∀ i, τ64.1 261 i = (zput τ45 261 6 (zb (¬ (τ40.1 261 20 = 0)))).1 261 i := fun i => m64.2.1 i (fun q => q)
          have h264 : ∀ j, (zput τ45 261 6 (zb (¬ (τ40.1 261 20 = 0)))).1 264 j = τ10.1 264 j := fun j => by
            rw [zput_k _ _ _ _ _ (by decide), me.1 264 (fun q => q) (by decide) j, hr40.2.1.1 264 (by decide) (by decide) j, hr36.2.1.1 264 (fun q => q) (by decide) j]
            exact g1.1 264 (by decide) (by decide) j
          refine ⟨hz64, mz, Rel_same hW hR (fun j hj => ?_), (c 6).trans ((zput_s _ _ _ _).trans (zb_t (by assumption))), ?_, ?_, ?_, ?_⟩
          · have e1 := hr64.2.2.2.1 j (by omega)
            have e2 := hr10.2.2.2.1 j (by omega)
            rw [Nat.zero_add] at e1 e2
            exact e1.trans ((h264 j).trans e2)
          · exact (c 16).trans ((f6 _ _ (by decide)).trans e16)
          · exact (c 22).trans ((f6 _ _ (by decide)).trans e22)
          · exact (c 23).trans ((f6 _ _ (by decide)).trans e23)
          · rw [c 19, f6 _ _ (by decide)]; exact e19
      · refine zx_aloadN dX10_load_22 rfl rfl ?_
        refine zy_getR (q' := 262) fl_RX10_7 rfl dX10_load_23 rfl ?_
        refine zx_iloadN dX10_load_26 rfl rfl ?_
        refine zx_iconst dX10_load_27 ?_
        refine zy_iast (i := i) rfl (by decide) (by decide) dX10_load_28 (by omega) (by omega) rfl ?_
        refine zy_iinc (b := ((i + 1 : Nat) : Int)) [zf 10 261, zi ((i + 1 : Nat) : Int)] dX10_load_29 rfl (by omega) (Nat.le_of_ble_eq_true rfl) rfl rfl ?_
        refine zx_goto (tgt := 15) dX10_load_32 (by decide) ?_
        exact ih15 (zput υ 262 i 0) (i + 1) (zOK_put hz (by unfold zr; omega)) (by first | assumption | omega) (mfr_put g1 rfl (by decide)) (fun j hj => by have := g2 j; simp only [zput_e, true_and, and_true, ↓reduceIte]; split <;> omega) (by omega)
  exact L15 _ τ10 0 hz10 (by first | assumption | omega) (mfr_rf _ _ _) (fun j hj => absurd hj (Nat.not_lt_zero j)) (Nat.lt_succ_self _)
set_option maxRecDepth 20000 in
set_option maxHeartbeats 2000000 in
theorem sX10_load {l : Launch} {w : zW} (hfl : l.stackTraces = false) {σ : zS} {D : zBk} {t : Nat → Int} {n : Nat} {X : Nat → zTr} {M : Nat} (hz : zOK σ) (hW : WF D) (hR : Rel D (σ.1 262)) (hT : TM t n σ) (hn : σ.1 261 16 = (n : Int) ∧ n ≤ 1400) (hw19 : 0 ≤ σ.1 261 19 ∧ σ.1 261 19 ≤ 1401) (hX : cTr t n X M) (hm : ¬ ((X M).2.1.2.1 = 0 ∧ ¬ xK t n (X M).2.1.1 = 0)) (hw : (cFin t n X M).2.1 = 0) : Sp l w mX10_load 8 0 [zf 10 261] σ (zqv (some (zi ((X M).2.2 12 0))) (fun τ => zOK τ ∧ mfr σ τ lA lF ∧ Rel (X M).2.2 (τ.1 262) ∧ τ.1 261 5 = 0 ∧ τ.1 261 6 = 0 ∧ τ.1 261 16 = 0 ∧ τ.1 261 22 = (cFin t n X M).2.1 ∧ τ.1 261 23 = (cFin t n X M).2.2 ∧ 0 ≤ τ.1 261 19 ∧ τ.1 261 19 ≤ 1401)) := by
  obtain ⟨Q, hQ⟩ : ∃ Q : zQ, Q = (zqv (some (zi ((X M).2.2 12 0))) (fun τ => zOK τ ∧ mfr σ τ lA lF ∧ Rel (X M).2.2 (τ.1 262) ∧ τ.1 261 5 = 0 ∧ τ.1 261 6 = 0 ∧ τ.1 261 16 = 0 ∧ τ.1 261 22 = (cFin t n X M).2.1 ∧ τ.1 261 23 = (cFin t n X M).2.2 ∧ 0 ≤ τ.1 261 19 ∧ τ.1 261 19 ≤ 1401)) := ⟨_, rfl⟩
  rw [← hQ]
  refine zx_enter hfl (by decide) rfl 1 rfl ?_
  show zX l w mX10_load (zMQ w 8 0 Q) 0 [zf 10 261, zu] [] 0 σ
  have hP : 0 ≤ D 1 0 ∧ D 1 0 ≤ 8 := hW.1.1
  have hM : 0 ≤ D 1 7 ∧ D 1 7 ≤ 8 := hW.1.2.1
  have hE : 0 ≤ D 1 10 ∧ D 1 10 ≤ 12 := hW.1.2.2.1
  have hK : 0 ≤ D 12 0 ∧ D 12 0 ≤ 40 := hW.1.2.2.2
  have r0 : σ.1 262 0 = D 1 0 := hR.1.1
  have r1 : σ.1 262 1 = D 1 7 := hR.1.2.1
  have r2 : σ.1 262 2 = D 1 10 := hR.1.2.2.1
  have r3 : σ.1 262 3 = D 12 0 := hR.1.2.2.2
  refine zx_aloadN dX10_load_0 rfl rfl ?_
  refine zy_getR (q' := 262) fl_RX10_7 rfl dX10_load_1 rfl ?_
  refine zx_iconst dX10_load_4 ?_
  refine zx_aloadN dX10_load_5 rfl rfl ?_
  refine zy_getR (q' := 264) fl_RX10_16 rfl dX10_load_6 rfl ?_
  refine zx_iconst dX10_load_9 ?_
  refine zy_csvR [zf 29 262, zi 0, zf 29 264, zi 0] (sX10_copies_a (q := 262) (a := 0) (v := 264) (b := 0) hfl hz (by first | assumption | omega) (by first | assumption | omega) (by decide)) dX10_load_10 cw_RX10_70 okX10_copies rfl (Nat.le_of_ble_eq_true rfl) ⟨Nat.le_of_ble_eq_true rfl, Nat.le_of_ble_eq_true rfl, Nat.le_of_ble_eq_true rfl, Nat.le_of_ble_eq_true rfl⟩ (fun τ10 hr10 => ?_)
  have hz10 : zOK τ10 := hr10.1
  have m10 : mfr σ τ10 (fun k => k = 264) (fun _ => False) := mfr_cpo hr10.2 (by decide)
  refine zx_iconst dX10_load_13 ?_
  refine zy_istoreN [zf 10 261, zi 0] dX10_load_14 rfl (Nat.le_of_ble_eq_true rfl) (Nat.le_of_ble_eq_true rfl) rfl rfl ?_
  have L15 : ∀ (N : Nat) (υ : zS) (i : Nat), (zOK υ) → (i ≤ 380) → (mfr τ10 υ (fun k => k = 262) (fun _ => False)) → (∀ j, j < i → υ.1 262 j = 0) → (381 - i) < N → zX l w mX10_load (zMQ w 8 0 Q) 15 [zf 10 261, zi ((i : Nat) : Int)] [] 0 υ := by
    intro N
    induction N with
    | zero => intro υ i _ _ _ _ _; exact absurd (by assumption) (Nat.not_lt_zero _)
    | succ N ih15 =>
      intro υ i hz hi g1 g2 hN
      refine zx_iloadN dX10_load_15 rfl rfl ?_
      refine zx_sipush dX10_load_16 rfl ?_
      refine zx_icmp_ge (tgt := 35) (by first | exact hz _ _ | assumption | exact zr_b _ | exact zcmp_r _ _ | (unfold zr at *; omega)) (by first | exact hz _ _ | assumption | exact zr_b _ | exact zcmp_r _ _ | (unfold zr at *; omega)) dX10_load_19 (by decide) (fun h19 => ?_) (fun h19 => ?_)
      · have mu : mfr σ υ lA (fun _ => False) := mfr_tr m10 g1 (fun k q => by unfold lA; omega) (fun i q => q.elim id id)
        have i380 : i = 380 := by omega
        have zrow : ∀ j, j < 380 → υ.1 262 j = 0 := fun j hj => g2 j (by omega)
        have tu : TM t n υ := TM_e (fun j => mu.1 269 (by unfold lA; decide) (by decide) j) hT
        have nu : υ.1 261 16 = (n : Int) ∧ n ≤ 1400 := ⟨(mu.2.1 16 (fun q => q)).trans hn.1, hn.2⟩
        have wu : 0 ≤ υ.1 261 19 ∧ υ.1 261 19 ≤ 1401 := by rw [mu.2.1 19 (fun q => q)]; exact hw19
        refine zx_aloadN dX10_load_35 rfl rfl ?_
        refine zy_cvvR [] (sX10_startsText (t := t) (n := n) hfl hz tu nu wu) dX10_load_36 (by decide) rfl cw_RX10_339 okX10_startsText rfl (Nat.le_of_ble_eq_true rfl) ⟨Nat.le_of_ble_eq_true rfl, Nat.le_of_ble_eq_true rfl, Nat.le_of_ble_eq_true rfl, Nat.le_of_ble_eq_true rfl⟩ (fun τ36 hr36 => ?_)
        have hz36 : zOK τ36 := hr36.1
        have zr36 : ∀ j, j < 380 → τ36.1 262 j = 0 := fun j hj => (hr36.2.1.1 262 (fun q => q) (by decide) j).trans (zrow j hj)
        have R0 := Rel_0 hX.2.2.2.2 zr36
        refine zx_aloadN dX10_load_39 rfl rfl ?_
        refine zy_cvvR [] (sX10_readsAll (t := t) (n := n) (X := X) (M := M) hfl hz36 hX hm hr36.2.2 R0.1 R0.2) dX10_load_40 (by decide) rfl cw_RX10_342 okX10_readsAll rfl (Nat.le_of_ble_eq_true rfl) ⟨Nat.le_of_ble_eq_true rfl, Nat.le_of_ble_eq_true rfl, Nat.le_of_ble_eq_true rfl, Nat.le_of_ble_eq_true rfl⟩ (fun τ40 hr40 => ?_)
        have hz40 : zOK τ40 := hr40.1
        have b20 := hr40.2.2.1.2.2.2.1.1
        have b21 := hr40.2.2.1.2.2.2.1.2
        have b19 := hr40.2.2.1.2.2.2.2.1
        refine zx_aloadN dX10_load_43 rfl rfl ?_
        refine zx_aloadN dX10_load_44 rfl rfl ?_
        refine zy_cvR [] (sX10_endsText  hfl hz40 ) dX10_load_45 (by decide) rfl cw_RX10_345 okX10_endsText rfl (Nat.le_of_ble_eq_true rfl) ⟨Nat.le_of_ble_eq_true rfl, Nat.le_of_ble_eq_true rfl, Nat.le_of_ble_eq_true rfl, Nat.le_of_ble_eq_true rfl⟩ (fun τ45 hr45 => ?_)
        have hz45 : zOK τ45 := hr45.1
        have me := mfr_end hr45.2.1 hr45.2.2
        have e16 : τ45.1 261 16 = 0 := (hr45.2.1 261 16).trans (if_pos ⟨rfl, rfl⟩)
        have e22 : τ45.1 261 22 = (cFin t n X M).2.1 := (hr45.2.1 261 22).trans (by rw [if_neg (by omega), if_pos ⟨rfl, rfl⟩]; exact b20)
        have e23 : τ45.1 261 23 = (cFin t n X M).2.2 := (hr45.2.1 261 23).trans (by rw [if_neg (by omega), if_neg (by omega), if_pos ⟨rfl, rfl⟩]; exact b21)
        have e19 : 0 ≤ τ45.1 261 19 ∧ τ45.1 261 19 ≤ 1401 := by rw [me.2.1 19 (by decide)]; omega
        have m36 : mfr σ τ36 lA (fun i => 17 ≤ i ∧ i ≤ 21) := mfr_tr mu hr36.2.1 (fun k q => q.elim id (fun r => absurd r id)) (fun i q => q.elim (fun r => absurd r id) id)
        have m40 : mfr σ τ40 lA (fun i => i = 14 ∨ (17 ≤ i ∧ i ≤ 21)) := mfr_tr m36 hr40.2.1 (fun k q => by unfold lA at *; omega) (fun i q => by omega)
        have m45 : mfr σ τ45 lA (fun i => i = 14 ∨ (16 ≤ i ∧ i ≤ 23)) := mfr_tr m40 me (fun k q => q.elim id (fun r => absurd r id)) (fun i q => by omega)
        have f6 : ∀ i v, i ≠ 6 → (zput τ45 261 6 v).1 261 i = τ45.1 261 i := fun i v hi => zput_i _ _ _ _ _ hi
        refine zy_cv [zi (zb (τ40.1 261 20 = 0))] (sX10_passes (A := (τ40.1 261 20 = 0)) hfl hz45 ) dX10_load_48 (by decide) rfl cw_RX10_220 okX10_passes rfl (Nat.le_of_ble_eq_true rfl) ⟨Nat.le_of_ble_eq_true rfl, Nat.le_of_ble_eq_true rfl, Nat.le_of_ble_eq_true rfl, Nat.le_of_ble_eq_true rfl⟩ ?_
        refine zx_if_ne (tgt := 69) (by first | exact hz45 _ _ | assumption | exact zr_b _ | exact zcmp_r _ _ | (unfold zr at *; omega)) dX10_load_51 (by decide) (fun h51 => ?_) (fun h51 => ?_)
        · have h51 := zb_n.mp h51
          have RX : Rel (X M).2.2 (τ45.1 262) := mfr_R me (fun q => q) (hr40.2.2.2 hw)
          refine zx_aloadN dX10_load_69 rfl rfl ?_
          refine zx_iconst dX10_load_70 ?_
          refine zx_putI fl_RX10_348 rfl (Or.inl fp_10_5) dX10_load_71 ?_
          refine zx_aloadN dX10_load_74 rfl rfl ?_
          refine zy_getR (q' := 262) fl_RX10_7 rfl dX10_load_75 rfl ?_
          refine zx_iconst dX10_load_78 ?_
          refine zy_iald (v := τ45.1 262 3) rfl (by decide) (by decide) dX10_load_79 (by omega) (by omega) ((zput_k _ _ _ _ _ (by omega)).trans (zput_k _ _ _ _ _ (by omega))) ?_
          refine zx_iret rfl rfl dX10_load_80 ?_
          rw [hQ]
          refine ⟨congrArg (fun z : Int => (Sum.inl (some (zi z)) : Option zV ⊕ String)) ?_, ?_⟩
          · exact RX.1.2.2.2
          refine ⟨(zOK_put (zOK_put hz45 (zr_b _)) (by unfold zr; omega)), ?_, Rel_put (by decide) (Rel_put (by decide) RX), zput_s _ _ _ _, (zput_i _ _ _ _ _ (by decide)).trans ((zput_s _ _ _ _).trans (zb_f (fun q => q (by assumption)))), ?_, ?_, ?_, ?_⟩
          · exact mfr_mo (mfr_put261 (mfr_put261 m45)) (fun k q => q) (fun i q => by unfold lF; omega)
          · exact (zput_i _ _ _ _ _ (by decide)).trans ((f6 _ _ (by decide)).trans e16)
          · exact (zput_i _ _ _ _ _ (by decide)).trans ((f6 _ _ (by decide)).trans e22)
          · exact (zput_i _ _ _ _ _ (by decide)).trans ((f6 _ _ (by decide)).trans e23)
          · rw [zput_i _ _ _ _ _ (by decide), f6 _ _ (by decide)]; exact e19
        · have h51 := zb_0.mp h51
          exact absurd (b20.trans hw) h51
      · refine zx_aloadN dX10_load_22 rfl rfl ?_
        refine zy_getR (q' := 262) fl_RX10_7 rfl dX10_load_23 rfl ?_
        refine zx_iloadN dX10_load_26 rfl rfl ?_
        refine zx_iconst dX10_load_27 ?_
        refine zy_iast (i := i) rfl (by decide) (by decide) dX10_load_28 (by omega) (by omega) rfl ?_
        refine zy_iinc (b := ((i + 1 : Nat) : Int)) [zf 10 261, zi ((i + 1 : Nat) : Int)] dX10_load_29 rfl (by omega) (Nat.le_of_ble_eq_true rfl) rfl rfl ?_
        refine zx_goto (tgt := 15) dX10_load_32 (by decide) ?_
        exact ih15 (zput υ 262 i 0) (i + 1) (zOK_put hz (by unfold zr; omega)) (by first | assumption | omega) (mfr_put g1 rfl (by decide)) (fun j hj => by have := g2 j; simp only [zput_e, true_and, and_true, ↓reduceIte]; split <;> omega) (by omega)
  exact L15 _ τ10 0 hz10 (by first | assumption | omega) (mfr_rf _ _ _) (fun j hj => absurd hj (Nat.not_lt_zero j)) (Nat.lt_succ_self _)

