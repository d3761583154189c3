abbrev mX10_readsOne : zM := (yX10_readsOne, cX10_readsOne, 2, none, [])
theorem okX10_readsOne : zMok mX10_readsOne 0 := ⟨by decide, by decide, by decide +kernel⟩
theorem dX10_readsOne_0 : decode cX10_readsOne 0 = .ok (.aload_n 0, 1) := by decide +kernel
theorem dX10_readsOne_1 : decode cX10_readsOne 1 = .ok (.invokevirtual 363, 3) := by decide +kernel
theorem cw_RX10_363 : zCwV RX10 363 mX10_commandHere := zall [1771, 1773, 54, 128, 1774] (by decide +kernel) (by decide +kernel)
theorem dX10_readsOne_4 : decode cX10_readsOne 4 = .ok (.istore_n 1, 1) := by decide +kernel
theorem dX10_readsOne_5 : decode cX10_readsOne 5 = .ok (.aload_n 0, 1) := by decide +kernel
theorem dX10_readsOne_6 : decode cX10_readsOne 6 = .ok (.iload_n 1, 1) := by decide +kernel
theorem dX10_readsOne_7 : decode cX10_readsOne 7 = .ok (.iconst (-1), 1) := by decide +kernel
theorem dX10_readsOne_8 : decode cX10_readsOne 8 = .ok (.if_icmp .eq 7, 3) := by decide +kernel
theorem dX10_readsOne_15 : decode cX10_readsOne 15 = .ok (.iconst 0, 1) := by decide +kernel
theorem dX10_readsOne_16 : decode cX10_readsOne 16 = .ok (.iconst 1, 1) := by decide +kernel
theorem dX10_readsOne_17 : decode cX10_readsOne 17 = .ok (.invokevirtual 252, 3) := by decide +kernel
theorem dX10_readsOne_20 : decode cX10_readsOne 20 = .ok (.aload_n 0, 1) := by decide +kernel
theorem dX10_readsOne_21 : decode cX10_readsOne 21 = .ok (.aload_n 0, 1) := by decide +kernel
theorem dX10_readsOne_22 : decode cX10_readsOne 22 = .ok (.getfield 366, 3) := by decide +kernel
theorem fl_RX10_366 : zFl RX10 366 10 25 := ⟨RX10, TX10, 28, rfl, by decide, zmem1 1678 (by decide +kernel) rfl, rfl⟩
theorem dX10_readsOne_25 : decode cX10_readsOne 25 = .ok (.bipush 30, 2) := by decide +kernel
theorem dX10_readsOne_27 : decode cX10_readsOne 27 = .ok (.if_icmp .ge 7, 3) := by decide +kernel
theorem dX10_readsOne_34 : decode cX10_readsOne 34 = .ok (.iconst 0, 1) := by decide +kernel
theorem dX10_readsOne_35 : decode cX10_readsOne 35 = .ok (.iconst 4, 1) := by decide +kernel
theorem dX10_readsOne_36 : decode cX10_readsOne 36 = .ok (.invokevirtual 252, 3) := by decide +kernel
theorem dX10_readsOne_39 : decode cX10_readsOne 39 = .ok (.aload_n 0, 1) := by decide +kernel
theorem dX10_readsOne_40 : decode cX10_readsOne 40 = .ok (.getfield 243, 3) := by decide +kernel
theorem dX10_readsOne_43 : decode cX10_readsOne 43 = .ok (.ifCond .eq 4, 3) := by decide +kernel
theorem dX10_readsOne_47 : decode cX10_readsOne 47 = .ok (.aload_n 0, 1) := by decide +kernel
theorem dX10_readsOne_48 : decode cX10_readsOne 48 = .ok (.invokevirtual 272, 3) := by decide +kernel
theorem dX10_readsOne_51 : decode cX10_readsOne 51 = .ok (.aload_n 0, 1) := by decide +kernel
theorem dX10_readsOne_52 : decode cX10_readsOne 52 = .ok (.getfield 38, 3) := by decide +kernel
theorem dX10_readsOne_55 : decode cX10_readsOne 55 = .ok (.iconst 5, 1) := by decide +kernel
theorem dX10_readsOne_56 : decode cX10_readsOne 56 = .ok (.aload_n 0, 1) := by decide +kernel
theorem dX10_readsOne_57 : decode cX10_readsOne 57 = .ok (.getfield 366, 3) := by decide +kernel
theorem dX10_readsOne_60 : decode cX10_readsOne 60 = .ok (.imul, 1) := by decide +kernel
theorem dX10_readsOne_61 : decode cX10_readsOne 61 = .ok (.iload_n 1, 1) := by decide +kernel
theorem dX10_readsOne_62 : decode cX10_readsOne 62 = .ok (.iastore, 1) := by decide +kernel
theorem dX10_readsOne_63 : decode cX10_readsOne 63 = .ok (.aload_n 0, 1) := by decide +kernel
theorem dX10_readsOne_64 : decode cX10_readsOne 64 = .ok (.iload_n 1, 1) := by decide +kernel
theorem dX10_readsOne_65 : decode cX10_readsOne 65 = .ok (.iconst 5, 1) := by decide +kernel
theorem dX10_readsOne_66 : decode cX10_readsOne 66 = .ok (.aload_n 0, 1) := by decide +kernel
theorem dX10_readsOne_67 : decode cX10_readsOne 67 = .ok (.getfield 366, 3) := by decide +kernel
theorem dX10_readsOne_70 : decode cX10_readsOne 70 = .ok (.imul, 1) := by decide +kernel
theorem dX10_readsOne_71 : decode cX10_readsOne 71 = .ok (.iconst 1, 1) := by decide +kernel
theorem dX10_readsOne_72 : decode cX10_readsOne 72 = .ok (.iadd, 1) := by decide +kernel
theorem dX10_readsOne_73 : decode cX10_readsOne 73 = .ok (.invokevirtual 369, 3) := by decide +kernel
theorem cw_RX10_369 : zCwV RX10 369 mX10_partsOf := zall [1780, 1782, 55, 128, 1783] (by decide +kernel) (by decide +kernel)
theorem dX10_readsOne_76 : decode cX10_readsOne 76 = .ok (.aload_n 0, 1) := by decide +kernel
theorem dX10_readsOne_77 : decode cX10_readsOne 77 = .ok (.dup, 1) := by decide +kernel
theorem dX10_readsOne_78 : decode cX10_readsOne 78 = .ok (.getfield 366, 3) := by decide +kernel
theorem dX10_readsOne_81 : decode cX10_readsOne 81 = .ok (.iconst 1, 1) := by decide +kernel
theorem dX10_readsOne_82 : decode cX10_readsOne 82 = .ok (.iadd, 1) := by decide +kernel
theorem dX10_readsOne_83 : decode cX10_readsOne 83 = .ok (.putfield 366, 3) := by decide +kernel
theorem fp_10_25 : zFi 10 25 "I" := ⟨RX10, TX10, 28, rfl, rfl, rfl⟩
theorem dX10_readsOne_86 : decode cX10_readsOne 86 = .ok (.aload_n 0, 1) := by decide +kernel
theorem dX10_readsOne_87 : decode cX10_readsOne 87 = .ok (.invokevirtual 297, 3) := by decide +kernel
theorem cw_RX10_297 : zCwV RX10 297 mX10_semicolon := zall [1590, 1592, 38, 128, 1593] (by decide +kernel) (by decide +kernel)
theorem dX10_readsOne_90 : decode cX10_readsOne 90 = .ok (.return_, 1) := by decide +kernel
theorem dX10_readsOne_46 : decode cX10_readsOne 46 = .ok (.return_, 1) := by decide +kernel
theorem dX10_readsOne_30 : decode cX10_readsOne 30 = .ok (.iconst 1, 1) := by decide +kernel
theorem dX10_readsOne_31 : decode cX10_readsOne 31 = .ok (.goto 4, 3) := by decide +kernel
theorem dX10_readsOne_11 : decode cX10_readsOne 11 = .ok (.iconst 1, 1) := by decide +kernel
theorem dX10_readsOne_12 : decode cX10_readsOne 12 = .ok (.goto 4, 3) := by decide +kernel
/-! one command read and done by the model -/
noncomputable def cN (t : Nat → Int) (n : Nat) (D : zBk) (k : Nat) (S : zP) : zP := if vct t n S.1 = -1 then pF t n S 1 else if 30 ≤ k then pF t n S 4 else cS t n (vct t n S.1) D (pN t n S)
def mWr (σ : zS) (k : Nat) (v : Int) (V : Nat → Int) : Prop := σ.1 270 (5 * k) = v ∧ σ.1 270 (5 * k + 1) = V 1 ∧ ((v = 0 ∨ v = 4 ∨ v = 5) → σ.1 270 (5 * k + 2) = V 2) ∧ ((v = 0 ∨ v = 5) → σ.1 270 (5 * k + 3) = V 3) ∧ (v = 0 → σ.1 270 (5 * k + 4) = V 4)
theorem mWr_e {σ τ : zS} {k : Nat} {v : Int} {V : Nat → Int} (h : ∀ i, i < 5 * (k + 1) → τ.1 270 i = σ.1 270 i) (c : mWr σ k v V) : mWr τ k v V := by
  unfold mWr
  rw [h (5 * k) (by omega), h (5 * k + 1) (by omega), h (5 * k + 2) (by omega), h (5 * k + 3) (by omega), h (5 * k + 4) (by omega)]
  exact c
theorem vct_w {t : Nat → Int} {n p : Nat} (h : ¬ vct t n p = -1) : xK t n p = 1 := by
  by_cases c : xK t n p = 1
  · exact c
  · exfalso; apply h; unfold vct
    rw [if_neg (fun q => c q.1), if_neg (fun q => c q.1), if_neg (fun q => c q.1), if_neg (fun q => c q.1), if_neg (fun q => c q.1), if_neg (fun q => c q.1)]
theorem PM_25 {t : Nat → Int} {n : Nat} {S : zP} {σ : zS} {i : Nat} {v : Int} (hi : 23 < i ∨ i < 16) (h : PM t n S σ) : PM t n S (zput σ 261 i v) := by
  obtain ⟨p1, p2⟩ := h
  have e : ∀ j, j ≠ i → (zput σ 261 i v).1 261 j = σ.1 261 j := fun j hj => zput_i _ _ _ _ _ hj
  refine ⟨TM_e (fun j => zput_k _ _ _ _ _ (by decide)) p1, ?_⟩
  rw [e 16 (by omega), e 17 (by omega), e 18 (by omega), e 19 (by omega), e 20 (by omega), e 21 (by omega)]; exact p2
def MC (σ τ : zS) : Prop := mfr σ τ (fun q => q = 270) (fun i => (17 ≤ i ∧ i ≤ 21) ∨ i = 25)
theorem MC_x {σ τ υ : zS} (h : MC σ τ) (h' : MX τ υ) : MC σ υ := mfr_tr h h' (fun k q => q.elim id (fun e => absurd e id)) (fun _ q => q.elim id Or.inl)
theorem MC_t {σ τ υ : zS} (h : MC σ τ) (h' : MT τ υ) : MC σ υ := mfr_tr h h' (fun k q => q.elim id id) (fun _ q => q.elim id Or.inl)
theorem MC_p {σ τ : zS} {i : Nat} {v : Int} (h : MC σ τ) : MC σ (zput τ 270 i v) := mfr_put h rfl (by decide)
theorem MC_q {σ τ : zS} {v : Int} (h : MC σ τ) : MC σ (zput τ 261 25 v) := mfr_mo (mfr_put261 h) (fun _ q => q) (fun j q => q.elim id (fun e => Or.inr e))
theorem MC_rf (σ : zS) : MC σ σ := mfr_rf _ _ _

set_option maxRecDepth 20000 in
set_option maxHeartbeats 2000000 in
theorem sX10_readsOne {l : Launch} {w : zW} (hfl : l.stackTraces = false) {σ : zS} {D : zBk} {t : Nat → Int} {n : Nat} {S : zP} {k : Nat} (hz : zOK σ) (hW : WF D) (hR : Rel D (σ.1 262)) (hU : PM t n S σ) (z : S.2.1 = 0) (hk : σ.1 261 25 = ((k : Nat) : Int) ∧ k ≤ 30) : Sp l w mX10_readsOne 7 0 [zf 10 261] σ (zqv (none) (fun τ => zOK τ ∧ MC σ τ ∧ (∀ i, i < 5 * k → τ.1 270 i = σ.1 270 i) ∧ PM t n (cN t n D k S) τ ∧ ((cN t n D k S).2.1 = 0 → τ.1 261 25 = ((k + 1 : Nat) : Int) ∧ mWr τ k (vct t n S.1) (cV t n (vct t n S.1) D (pN t n S))))) := by
  obtain ⟨Q, hQ⟩ : ∃ Q : zQ, Q = (zqv (none) (fun τ => zOK τ ∧ MC σ τ ∧ (∀ i, i < 5 * k → τ.1 270 i = σ.1 270 i) ∧ PM t n (cN t n D k S) τ ∧ ((cN t n D k S).2.1 = 0 → τ.1 261 25 = ((k + 1 : Nat) : Int) ∧ mWr τ k (vct t n S.1) (cV t n (vct t n S.1) D (pN t n S))))) := ⟨_, rfl⟩
  rw [← hQ]
  refine zx_enter hfl (by decide) rfl 1 rfl ?_
  show zX l w mX10_readsOne (zMQ w 7 0 Q) 0 [zf 10 261, zu] [] 0 σ
  have hP : 0 ≤ D 1 0 ∧ D 1 0 ≤ 8 := hW.1.1
  have hM : 0 ≤ D 1 7 ∧ D 1 7 ≤ 8 := hW.1.2.1
  have hE : 0 ≤ D 1 10 ∧ D 1 10 ≤ 12 := hW.1.2.2.1
  have hK : 0 ≤ D 12 0 ∧ D 12 0 ≤ 40 := hW.1.2.2.2
  have r0 : σ.1 262 0 = D 1 0 := hR.1.1
  have r1 : σ.1 262 1 = D 1 7 := hR.1.2.1
  have r2 : σ.1 262 2 = D 1 10 := hR.1.2.2.1
  have r3 : σ.1 262 3 = D 12 0 := hR.1.2.2.2
  have hvr := vct_r t n S.1
  have hR0 := hR
  refine zx_aloadN dX10_readsOne_0 rfl rfl ?_
  refine zy_cvR [] (sX10_commandHere  hfl hz hU) dX10_readsOne_1 (by decide) rfl cw_RX10_363 okX10_commandHere rfl (Nat.le_of_ble_eq_true rfl) ⟨Nat.le_of_ble_eq_true rfl, Nat.le_of_ble_eq_true rfl, Nat.le_of_ble_eq_true rfl, Nat.le_of_ble_eq_true rfl⟩ (fun τ1 hr1 => ?_)
  have hz1 : zOK τ1 := hr1.1
  refine zy_top (b := vct t n S.1) (by rw [if_pos z]) ?_
  refine zy_istoreN [zf 10 261, zi (vct t n S.1)] dX10_readsOne_4 rfl (Nat.le_of_ble_eq_true rfl) (Nat.le_of_ble_eq_true rfl) rfl rfl ?_
  refine zx_aloadN dX10_readsOne_5 rfl rfl ?_
  refine zx_iloadN dX10_readsOne_6 rfl rfl ?_
  refine zx_iconst dX10_readsOne_7 ?_
  refine zx_icmp_eq (tgt := 15) (by first | exact hz1 _ _ | assumption | exact zr_b _ | exact zcmp_r _ _ | (unfold zr at *; omega)) (by first | exact hz1 _ _ | assumption | exact zr_b _ | exact zcmp_r _ _ | (unfold zr at *; omega)) dX10_readsOne_8 (by decide) (fun h8 => ?_) (fun h8 => ?_)
  · refine zx_iconst dX10_readsOne_15 ?_
    refine zy_top (b := zb False) (zb_f (fun q => q)).symm ?_
    refine zx_iconst dX10_readsOne_16 ?_
    refine zy_cvvR [zi (zb False), zi 1] (sX10_must (A := False) hfl hz1 hr1.2.2 (by omega)) dX10_readsOne_17 (by decide) rfl cw_RX10_252 okX10_must rfl (Nat.le_of_ble_eq_true rfl) ⟨Nat.le_of_ble_eq_true rfl, Nat.le_of_ble_eq_true rfl, Nat.le_of_ble_eq_true rfl, Nat.le_of_ble_eq_true rfl⟩ (fun τ17 hr17 => ?_)
    have hz17 : zOK τ17 := hr17.1
    have q17 : PN t n (if vct t n S.1 = -1 then pF t n S 1 else S) τ17 := by
      have q := hr17.2.2.1
      first
      | (rw [if_pos trivial] at q; rw [if_neg h8]; exact q)
      | (rw [if_neg (fun r => r)] at q; rw [if_pos h8]; exact q)
    have m17 := MX_tr hr1.2.1 hr17.2.1
    have k17 : τ17.1 261 25 = ((k : Nat) : Int) := (MX_c m17 (by decide)).trans hk.1
    refine zx_aloadN dX10_readsOne_20 rfl rfl ?_
    refine zx_aloadN dX10_readsOne_21 rfl rfl ?_
    refine zy_getI fl_RX10_366 rfl dX10_readsOne_22 rfl ?_
    refine zy_top (b := ((k : Nat) : Int)) (k17) ?_
    refine zx_bipush dX10_readsOne_25 rfl ?_
    refine zx_icmp_ge (tgt := 34) (by first | exact hz17 _ _ | assumption | exact zr_b _ | exact zcmp_r _ _ | (unfold zr at *; omega)) (by first | exact hz17 _ _ | assumption | exact zr_b _ | exact zcmp_r _ _ | (unfold zr at *; omega)) dX10_readsOne_27 (by decide) (fun h27 => ?_) (fun h27 => ?_)
    · refine zx_iconst dX10_readsOne_34 ?_
      refine zy_top (b := zb False) (zb_f (fun q => q)).symm ?_
      refine zx_iconst dX10_readsOne_35 ?_
      refine zy_cvvR [zi (zb False), zi 4] (sX10_must (S := (if vct t n S.1 = -1 then pF t n S 1 else S)) (A := False) hfl hz17 q17 (by omega)) dX10_readsOne_36 (by decide) rfl cw_RX10_252 okX10_must rfl (Nat.le_of_ble_eq_true rfl) ⟨Nat.le_of_ble_eq_true rfl, Nat.le_of_ble_eq_true rfl, Nat.le_of_ble_eq_true rfl, Nat.le_of_ble_eq_true rfl⟩ (fun τ36 hr36 => ?_)
      have hz36 : zOK τ36 := hr36.1
      have q36 : PN t n (if 30 ≤ k then pF t n (if vct t n S.1 = -1 then pF t n S 1 else S) 4 else (if vct t n S.1 = -1 then pF t n S 1 else S)) τ36 := by
        have q := hr36.2.2.1
        first
        | (rw [if_pos trivial] at q; rw [if_neg (by omega)]; exact q)
        | (rw [if_neg (fun r => r)] at q; rw [if_pos (by omega)]; exact q)
      have m36 := MX_tr m17 hr36.2.1
      have k36 : τ36.1 261 25 = ((k : Nat) : Int) := (MX_c m36 (by decide)).trans hk.1
      have e36 := q36.1.2.2.2.1.1
      refine zx_aloadN dX10_readsOne_39 rfl rfl ?_
      refine zy_getI fl_RX10_243 rfl dX10_readsOne_40 rfl ?_
      refine zx_if_eq (tgt := 47) (by first | exact hz36 _ _ | assumption | exact zr_b _ | exact zcmp_r _ _ | (unfold zr at *; omega)) dX10_readsOne_43 (by decide) (fun h43 => ?_) (fun h43 => ?_)
      · have hz2 : (if 30 ≤ k then pF t n (if vct t n S.1 = -1 then pF t n S 1 else S) 4 else (if vct t n S.1 = -1 then pF t n S 1 else S)).2.1 = 0 := e36.symm.trans h43
        have hk30 : ¬ 30 ≤ k := fun q => by rw [if_pos q] at hz2; exact absurd hz2 (pF_nz (by decide))
        have hv1 : ¬ vct t n S.1 = -1 := fun q => by rw [if_neg hk30, if_pos q] at hz2; exact absurd hz2 (pF_nz (by decide))
        have qS : PN t n S τ36 := by have q := q36; rw [if_neg hk30, if_neg hv1] at q; exact q
        refine zx_aloadN dX10_readsOne_47 rfl rfl ?_
        refine zy_cvvR [] (sX10_goesPast (S := S) hfl hz36 qS (fun _ => vct_w hv1)) dX10_readsOne_48 (by decide) rfl cw_RX10_272 okX10_goesPast rfl (Nat.le_of_ble_eq_true rfl) ⟨Nat.le_of_ble_eq_true rfl, Nat.le_of_ble_eq_true rfl, Nat.le_of_ble_eq_true rfl, Nat.le_of_ble_eq_true rfl⟩ (fun τ48 hr48 => ?_)
        have hz48 : zOK τ48 := hr48.1
        have q48 : PM t n (pN t n S) τ48 := by have q := hr48.2.2; rw [if_pos z] at q; exact q
        have m48 := MX_tr m36 hr48.2.1
        have k48 : τ48.1 261 25 = ((k : Nat) : Int) := (MX_c m48 (by decide)).trans hk.1
        have hzv : zr (vct t n S.1) := by unfold zr; omega
        have R62 : ∀ i v, Rel D ((zput τ48 270 i v).1 262) := fun i v => mfr_R (MC_p (MC_x (MC_rf _) m48)) (by decide) hR0
        refine zx_aloadN dX10_readsOne_51 rfl rfl ?_
        refine zy_getR (q' := 270) fl_RX10_38 rfl dX10_readsOne_52 rfl ?_
        refine zx_iconst dX10_readsOne_55 ?_
        refine zx_aloadN dX10_readsOne_56 rfl rfl ?_
        refine zy_getI fl_RX10_366 rfl dX10_readsOne_57 rfl ?_
        refine zy_top (b := ((k : Nat) : Int)) (k48) ?_
        refine zx_imul dX10_readsOne_60 ?_
        refine zy_top (b := ((5 * k : Nat) : Int)) (by omega) ?_
        refine zx_iloadN dX10_readsOne_61 rfl rfl ?_
        refine zy_iast (i := 5 * k) rfl (by decide) (by decide) dX10_readsOne_62 (by omega) (by omega) rfl ?_
        refine zx_aloadN dX10_readsOne_63 rfl rfl ?_
        refine zx_iloadN dX10_readsOne_64 rfl rfl ?_
        refine zx_iconst dX10_readsOne_65 ?_
        refine zx_aloadN dX10_readsOne_66 rfl rfl ?_
        refine zy_getI (v := τ48.1 261 25) fl_RX10_366 rfl dX10_readsOne_67 (zput_k _ _ _ _ _ (by omega)) ?_
        refine zy_top (b := ((k : Nat) : Int)) (k48) ?_
        refine zx_imul dX10_readsOne_70 ?_
        refine zy_top (b := ((5 * k : Nat) : Int)) (by omega) ?_
        refine zx_iconst dX10_readsOne_71 ?_
        refine zx_iadd dX10_readsOne_72 ?_
        refine zy_top (b := ((5 * k + 1 : Nat) : Int)) (by omega) ?_
        by_cases hb73 : (vct t n S.1) = 0
        · refine zy_cvvR [zi (vct t n S.1), zi ((5 * k + 1 : Nat) : Int)] (sX10_partsOf_0 (D := D) (S := (pN t n S)) (to := (5 * k + 1)) hfl (zOK_put hz48 (by first | exact hz48 _ _ | assumption | exact zr_b _ | exact zcmp_r _ _ | (unfold zr at *; omega))) (by first | assumption | omega) (R62 _ _) (PM_put q48) (by omega) (by omega)) dX10_readsOne_73 (by decide) rfl cw_RX10_369 okX10_partsOf rfl (Nat.le_of_ble_eq_true rfl) ⟨Nat.le_of_ble_eq_true rfl, Nat.le_of_ble_eq_true rfl, Nat.le_of_ble_eq_true rfl, Nat.le_of_ble_eq_true rfl⟩ (fun τ73 hr73 => ?_)
          have hz73 : zOK τ73 := hr73.1
          have k73 : τ73.1 261 25 = ((k : Nat) : Int) := (hr73.2.1.2.1 25 (by omega)).trans ((zput_k _ _ _ _ _ (by decide)).trans k48)
          refine zx_aloadN dX10_readsOne_76 rfl rfl ?_
          refine zx_dup rfl dX10_readsOne_77 ?_
          refine zy_getI fl_RX10_366 rfl dX10_readsOne_78 rfl ?_
          refine zy_top (b := ((k : Nat) : Int)) (k73) ?_
          refine zx_iconst dX10_readsOne_81 ?_
          refine zx_iadd dX10_readsOne_82 ?_
          refine zx_putI fl_RX10_366 rfl (Or.inl fp_10_25) dX10_readsOne_83 ?_
          refine zx_aloadN dX10_readsOne_86 rfl rfl ?_
          refine zy_cvvR [] (sX10_semicolon (S := (cP t n (vct t n S.1) D (pN t n S))) hfl (zOK_put hz73 (by first | exact hz73 _ _ | assumption | exact zr_b _ | exact zcmp_r _ _ | (unfold zr at *; omega))) (PM_25 (by decide) hr73.2.2.2.1)) dX10_readsOne_87 (by decide) rfl cw_RX10_297 okX10_semicolon rfl (Nat.le_of_ble_eq_true rfl) ⟨Nat.le_of_ble_eq_true rfl, Nat.le_of_ble_eq_true rfl, Nat.le_of_ble_eq_true rfl, Nat.le_of_ble_eq_true rfl⟩ (fun τ87 hr87 => ?_)
          have hz87 : zOK τ87 := hr87.1
          refine zx_vret rfl dX10_readsOne_90 ?_
          rw [hQ]
          refine ⟨rfl, ?_⟩
          first
          | (have hcn : (if 30 ≤ k then pF t n (if vct t n S.1 = -1 then pF t n S 1 else S) 4 else (if vct t n S.1 = -1 then pF t n S 1 else S)) = cN t n D k S := by
               unfold cN
               first
               | (rw [if_pos h8, if_pos h8]
                  by_cases q : 30 ≤ k
                  · rw [if_pos q, pF_n (pF_nz (by decide))]
                  · rw [if_neg q])
               | (rw [if_neg h8, if_neg h8]
                  by_cases q : 30 ≤ k
                  · rw [if_pos q, if_pos q]
                  · exfalso; rw [if_neg h8, if_neg q] at e36; exact h43 (e36.trans z))
             exact ⟨hz87, MC_x (MC_rf _) m36, fun i _ => MX_270 m36 i, hcn ▸ q36.1, fun q => absurd (e36.trans ((congrArg (fun s : zP => s.2.1) hcn).trans q)) h43⟩)
          | (have hcn : pSem t n (cP t n (vct t n S.1) D (pN t n S)) = cN t n D k S := by
               unfold cN; rw [if_neg hv1, if_neg hk30]; exact cP_s
             have c270 : ∀ i, τ87.1 270 i = τ73.1 270 i := fun i => (MX_270 hr87.2.1 i).trans (zput_k _ _ _ _ _ (by decide))
             refine ⟨hz87, MC_x (MC_q (MC_t (MC_p (MC_x (MC_rf _) m48)) hr73.2.1)) hr87.2.1, fun i hi => ?_, hcn ▸ hr87.2.2, fun q => ?_⟩
             · rw [c270, hr73.2.2.1 i (by omega), zput_i _ _ _ _ _ (by omega)]; exact MX_270 m48 i
             · rw [← hcn] at q
               have hp := hr73.2.2.2.2 (pSem_s q).1
               refine ⟨(MX_c hr87.2.1 (by decide)).trans ((zput_s _ _ _ _).trans (by omega)), ?_, ?_, fun c => ?_, fun c => ?_, fun c => ?_⟩
               · rw [c270, hr73.2.2.1 (5 * k) (by omega)]; exact zput_s _ _ _ _
               · rw [c270]; exact hp.1
               · rw [c270]; exact hp.2.1 c
               · rw [c270]; exact hp.2.2.1 c
               · rw [c270]; exact hp.2.2.2 c)
        · by_cases hb73b : (vct t n S.1) = 1
          · refine zy_cvvR [zi (vct t n S.1), zi ((5 * k + 1 : Nat) : Int)] (sX10_partsOf_1 (D := D) (S := (pN t n S)) (to := (5 * k + 1)) hfl (zOK_put hz48 (by first | exact hz48 _ _ | assumption | exact zr_b _ | exact zcmp_r _ _ | (unfold zr at *; omega))) (by first | assumption | omega) (R62 _ _) (PM_put q48) (by omega) (by omega)) dX10_readsOne_73 (by decide) rfl cw_RX10_369 okX10_partsOf rfl (Nat.le_of_ble_eq_true rfl) ⟨Nat.le_of_ble_eq_true rfl, Nat.le_of_ble_eq_true rfl, Nat.le_of_ble_eq_true rfl, Nat.le_of_ble_eq_true rfl⟩ (fun τ73 hr73 => ?_)
            have hz73 : zOK τ73 := hr73.1
            have k73 : τ73.1 261 25 = ((k : Nat) : Int) := (hr73.2.1.2.1 25 (by omega)).trans ((zput_k _ _ _ _ _ (by decide)).trans k48)
            refine zx_aloadN dX10_readsOne_76 rfl rfl ?_
            refine zx_dup rfl dX10_readsOne_77 ?_
            refine zy_getI fl_RX10_366 rfl dX10_readsOne_78 rfl ?_
            refine zy_top (b := ((k : Nat) : Int)) (k73) ?_
            refine zx_iconst dX10_readsOne_81 ?_
            refine zx_iadd dX10_readsOne_82 ?_
            refine zx_putI fl_RX10_366 rfl (Or.inl fp_10_25) dX10_readsOne_83 ?_
            refine zx_aloadN dX10_readsOne_86 rfl rfl ?_
            refine zy_cvvR [] (sX10_semicolon (S := (cP t n (vct t n S.1) D (pN t n S))) hfl (zOK_put hz73 (by first | exact hz73 _ _ | assumption | exact zr_b _ | exact zcmp_r _ _ | (unfold zr at *; omega))) (PM_25 (by decide) hr73.2.2.2.1)) dX10_readsOne_87 (by decide) rfl cw_RX10_297 okX10_semicolon rfl (Nat.le_of_ble_eq_true rfl) ⟨Nat.le_of_ble_eq_true rfl, Nat.le_of_ble_eq_true rfl, Nat.le_of_ble_eq_true rfl, Nat.le_of_ble_eq_true rfl⟩ (fun τ87 hr87 => ?_)
            have hz87 : zOK τ87 := hr87.1
            refine zx_vret rfl dX10_readsOne_90 ?_
            rw [hQ]
            refine ⟨rfl, ?_⟩
            first
            | (have hcn : (if 30 ≤ k then pF t n (if vct t n S.1 = -1 then pF t n S 1 else S) 4 else (if vct t n S.1 = -1 then pF t n S 1 else S)) = cN t n D k S := by
                 unfold cN
                 first
                 | (rw [if_pos h8, if_pos h8]
                    by_cases q : 30 ≤ k
                    · rw [if_pos q, pF_n (pF_nz (by decide))]
                    · rw [if_neg q])
                 | (rw [if_neg h8, if_neg h8]
                    by_cases q : 30 ≤ k
                    · rw [if_pos q, if_pos q]
                    · exfalso; rw [if_neg h8, if_neg q] at e36; exact h43 (e36.trans z))
               exact ⟨hz87, MC_x (MC_rf _) m36, fun i _ => MX_270 m36 i, hcn ▸ q36.1, fun q => absurd (e36.trans ((congrArg (fun s : zP => s.2.1) hcn).trans q)) h43⟩)
            | (have hcn : pSem t n (cP t n (vct t n S.1) D (pN t n S)) = cN t n D k S := by
                 unfold cN; rw [if_neg hv1, if_neg hk30]; exact cP_s
               have c270 : ∀ i, τ87.1 270 i = τ73.1 270 i := fun i => (MX_270 hr87.2.1 i).trans (zput_k _ _ _ _ _ (by decide))
               refine ⟨hz87, MC_x (MC_q (MC_t (MC_p (MC_x (MC_rf _) m48)) hr73.2.1)) hr87.2.1, fun i hi => ?_, hcn ▸ hr87.2.2, fun q => ?_⟩
               · rw [c270, hr73.2.2.1 i (by omega), zput_i _ _ _ _ _ (by omega)]; exact MX_270 m48 i
               · rw [← hcn] at q
                 have hp := hr73.2.2.2.2 (pSem_s q).1
                 refine ⟨(MX_c hr87.2.1 (by decide)).trans ((zput_s _ _ _ _).trans (by omega)), ?_, ?_, fun c => ?_, fun c => ?_, fun c => ?_⟩
                 · rw [c270, hr73.2.2.1 (5 * k) (by omega)]; exact zput_s _ _ _ _
                 · rw [c270]; exact hp.1
                 · rw [c270]; exact hp.2.1 c
                 · rw [c270]; exact hp.2.2.1 c
                 · rw [c270]; exact hp.2.2.2 c)
          · by_cases hb73bb : (vct t n S.1) = 2
            · refine zy_cvvR [zi (vct t n S.1), zi ((5 * k + 1 : Nat) : Int)] (sX10_partsOf_2 (D := D) (S := (pN t n S)) (to := (5 * k + 1)) hfl (zOK_put hz48 (by first | exact hz48 _ _ | assumption | exact zr_b _ | exact zcmp_r _ _ | (unfold zr at *; omega))) (by first | assumption | omega) (R62 _ _) (PM_put q48) (by omega) (by omega)) dX10_readsOne_73 (by decide) rfl cw_RX10_369 okX10_partsOf rfl (Nat.le_of_ble_eq_true rfl) ⟨Nat.le_of_ble_eq_true rfl, Nat.le_of_ble_eq_true rfl, Nat.le_of_ble_eq_true rfl, Nat.le_of_ble_eq_true rfl⟩ (fun τ73 hr73 => ?_)
              have hz73 : zOK τ73 := hr73.1
              have k73 : τ73.1 261 25 = ((k : Nat) : Int) := (hr73.2.1.2.1 25 (by omega)).trans ((zput_k _ _ _ _ _ (by decide)).trans k48)
              refine zx_aloadN dX10_readsOne_76 rfl rfl ?_
              refine zx_dup rfl dX10_readsOne_77 ?_
              refine zy_getI fl_RX10_366 rfl dX10_readsOne_78 rfl ?_
              refine zy_top (b := ((k : Nat) : Int)) (k73) ?_
              refine zx_iconst dX10_readsOne_81 ?_
              refine zx_iadd dX10_readsOne_82 ?_
              refine zx_putI fl_RX10_366 rfl (Or.inl fp_10_25) dX10_readsOne_83 ?_
              refine zx_aloadN dX10_readsOne_86 rfl rfl ?_
              refine zy_cvvR [] (sX10_semicolon (S := (cP t n (vct t n S.1) D (pN t n S))) hfl (zOK_put hz73 (by first | exact hz73 _ _ | assumption | exact zr_b _ | exact zcmp_r _ _ | (unfold zr at *; omega))) (PM_25 (by decide) hr73.2.2.2.1)) dX10_readsOne_87 (by decide) rfl cw_RX10_297 okX10_semicolon rfl (Nat.le_of_ble_eq_true rfl) ⟨Nat.le_of_ble_eq_true rfl, Nat.le_of_ble_eq_true rfl, Nat.le_of_ble_eq_true rfl, Nat.le_of_ble_eq_true rfl⟩ (fun τ87 hr87 => ?_)
              have hz87 : zOK τ87 := hr87.1
              refine zx_vret rfl dX10_readsOne_90 ?_
              rw [hQ]
              refine ⟨rfl, ?_⟩
              first
              | (have hcn : (if 30 ≤ k then pF t n (if vct t n S.1 = -1 then pF t n S 1 else S) 4 else (if vct t n S.1 = -1 then pF t n S 1 else S)) = cN t n D k S := by
                   unfold cN
                   first
                   | (rw [if_pos h8, if_pos h8]
                      by_cases q : 30 ≤ k
                      · rw [if_pos q, pF_n (pF_nz (by decide))]
                      · rw [if_neg q])
                   | (rw [if_neg h8, if_neg h8]
                      by_cases q : 30 ≤ k
                      · rw [if_pos q, if_pos q]
                      · exfalso; rw [if_neg h8, if_neg q] at e36; exact h43 (e36.trans z))
                 exact ⟨hz87, MC_x (MC_rf _) m36, fun i _ => MX_270 m36 i, hcn ▸ q36.1, fun q => absurd (e36.trans ((congrArg (fun s : zP => s.2.1) hcn).trans q)) h43⟩)
              | (have hcn : pSem t n (cP t n (vct t n S.1) D (pN t n S)) = cN t n D k S := by
                   unfold cN; rw [if_neg hv1, if_neg hk30]; exact cP_s
                 have c270 : ∀ i, τ87.1 270 i = τ73.1 270 i := fun i => (MX_270 hr87.2.1 i).trans (zput_k _ _ _ _ _ (by decide))
                 refine ⟨hz87, MC_x (MC_q (MC_t (MC_p (MC_x (MC_rf _) m48)) hr73.2.1)) hr87.2.1, fun i hi => ?_, hcn ▸ hr87.2.2, fun q => ?_⟩
                 · rw [c270, hr73.2.2.1 i (by omega), zput_i _ _ _ _ _ (by omega)]; exact MX_270 m48 i
                 · rw [← hcn] at q
                   have hp := hr73.2.2.2.2 (pSem_s q).1
                   refine ⟨(MX_c hr87.2.1 (by decide)).trans ((zput_s _ _ _ _).trans (by omega)), ?_, ?_, fun c => ?_, fun c => ?_, fun c => ?_⟩
                   · rw [c270, hr73.2.2.1 (5 * k) (by omega)]; exact zput_s _ _ _ _
                   · rw [c270]; exact hp.1
                   · rw [c270]; exact hp.2.1 c
                   · rw [c270]; exact hp.2.2.1 c
                   · rw [c270]; exact hp.2.2.2 c)
            · by_cases hb73bbb : (vct t n S.1) = 3
              · refine zy_cvvR [zi (vct t n S.1), zi ((5 * k + 1 : Nat) : Int)] (sX10_partsOf_3 (D := D) (S := (pN t n S)) (to := (5 * k + 1)) hfl (zOK_put hz48 (by first | exact hz48 _ _ | assumption | exact zr_b _ | exact zcmp_r _ _ | (unfold zr at *; omega))) (by first | assumption | omega) (R62 _ _) (PM_put q48) (by omega) (by omega)) dX10_readsOne_73 (by decide) rfl cw_RX10_369 okX10_partsOf rfl (Nat.le_of_ble_eq_true rfl) ⟨Nat.le_of_ble_eq_true rfl, Nat.le_of_ble_eq_true rfl, Nat.le_of_ble_eq_true rfl, Nat.le_of_ble_eq_true rfl⟩ (fun τ73 hr73 => ?_)
                have hz73 : zOK τ73 := hr73.1
                have k73 : τ73.1 261 25 = ((k : Nat) : Int) := (hr73.2.1.2.1 25 (by omega)).trans ((zput_k _ _ _ _ _ (by decide)).trans k48)
                refine zx_aloadN dX10_readsOne_76 rfl rfl ?_
                refine zx_dup rfl dX10_readsOne_77 ?_
                refine zy_getI fl_RX10_366 rfl dX10_readsOne_78 rfl ?_
                refine zy_top (b := ((k : Nat) : Int)) (k73) ?_
                refine zx_iconst dX10_readsOne_81 ?_
                refine zx_iadd dX10_readsOne_82 ?_
                refine zx_putI fl_RX10_366 rfl (Or.inl fp_10_25) dX10_readsOne_83 ?_
                refine zx_aloadN dX10_readsOne_86 rfl rfl ?_
                refine zy_cvvR [] (sX10_semicolon (S := (cP t n (vct t n S.1) D (pN t n S))) hfl (zOK_put hz73 (by first | exact hz73 _ _ | assumption | exact zr_b _ | exact zcmp_r _ _ | (unfold zr at *; omega))) (PM_25 (by decide) hr73.2.2.2.1)) dX10_readsOne_87 (by decide) rfl cw_RX10_297 okX10_semicolon rfl (Nat.le_of_ble_eq_true rfl) ⟨Nat.le_of_ble_eq_true rfl, Nat.le_of_ble_eq_true rfl, Nat.le_of_ble_eq_true rfl, Nat.le_of_ble_eq_true rfl⟩ (fun τ87 hr87 => ?_)
                have hz87 : zOK τ87 := hr87.1
                refine zx_vret rfl dX10_readsOne_90 ?_
                rw [hQ]
                refine ⟨rfl, ?_⟩
                first
                | (have hcn : (if 30 ≤ k then pF t n (if vct t n S.1 = -1 then pF t n S 1 else S) 4 else (if vct t n S.1 = -1 then pF t n S 1 else S)) = cN t n D k S := by
                     unfold cN
                     first
                     | (rw [if_pos h8, if_pos h8]
                        by_cases q : 30 ≤ k
                        · rw [if_pos q, pF_n (pF_nz (by decide))]
                        · rw [if_neg q])
                     | (rw [if_neg h8, if_neg h8]
                        by_cases q : 30 ≤ k
                        · rw [if_pos q, if_pos q]
                        · exfalso; rw [if_neg h8, if_neg q] at e36; exact h43 (e36.trans z))
                   exact ⟨hz87, MC_x (MC_rf _) m36, fun i _ => MX_270 m36 i, hcn ▸ q36.1, fun q => absurd (e36.trans ((congrArg (fun s : zP => s.2.1) hcn).trans q)) h43⟩)
                | (have hcn : pSem t n (cP t n (vct t n S.1) D (pN t n S)) = cN t n D k S := by
                     unfold cN; rw [if_neg hv1, if_neg hk30]; exact cP_s
                   have c270 : ∀ i, τ87.1 270 i = τ73.1 270 i := fun i => (MX_270 hr87.2.1 i).trans (zput_k _ _ _ _ _ (by decide))
                   refine ⟨hz87, MC_x (MC_q (MC_t (MC_p (MC_x (MC_rf _) m48)) hr73.2.1)) hr87.2.1, fun i hi => ?_, hcn ▸ hr87.2.2, fun q => ?_⟩
                   · rw [c270, hr73.2.2.1 i (by omega), zput_i _ _ _ _ _ (by omega)]; exact MX_270 m48 i
                   · rw [← hcn] at q
                     have hp := hr73.2.2.2.2 (pSem_s q).1
                     refine ⟨(MX_c hr87.2.1 (by decide)).trans ((zput_s _ _ _ _).trans (by omega)), ?_, ?_, fun c => ?_, fun c => ?_, fun c => ?_⟩
                     · rw [c270, hr73.2.2.1 (5 * k) (by omega)]; exact zput_s _ _ _ _
                     · rw [c270]; exact hp.1
                     · rw [c270]; exact hp.2.1 c
                     · rw [c270]; exact hp.2.2.1 c
                     · rw [c270]; exact hp.2.2.2 c)
              · by_cases hb73bbbb : (vct t n S.1) = 4
                · refine zy_cvvR [zi (vct t n S.1), zi ((5 * k + 1 : Nat) : Int)] (sX10_partsOf_4 (D := D) (S := (pN t n S)) (to := (5 * k + 1)) hfl (zOK_put hz48 (by first | exact hz48 _ _ | assumption | exact zr_b _ | exact zcmp_r _ _ | (unfold zr at *; omega))) (by first | assumption | omega) (R62 _ _) (PM_put q48) (by omega) (by omega)) dX10_readsOne_73 (by decide) rfl cw_RX10_369 okX10_partsOf rfl (Nat.le_of_ble_eq_true rfl) ⟨Nat.le_of_ble_eq_true rfl, Nat.le_of_ble_eq_true rfl, Nat.le_of_ble_eq_true rfl, Nat.le_of_ble_eq_true rfl⟩ (fun τ73 hr73 => ?_)
                  have hz73 : zOK τ73 := hr73.1
                  have k73 : τ73.1 261 25 = ((k : Nat) : Int) := (hr73.2.1.2.1 25 (by omega)).trans ((zput_k _ _ _ _ _ (by decide)).trans k48)
                  refine zx_aloadN dX10_readsOne_76 rfl rfl ?_
                  refine zx_dup rfl dX10_readsOne_77 ?_
                  refine zy_getI fl_RX10_366 rfl dX10_readsOne_78 rfl ?_
                  refine zy_top (b := ((k : Nat) : Int)) (k73) ?_
                  refine zx_iconst dX10_readsOne_81 ?_
                  refine zx_iadd dX10_readsOne_82 ?_
                  refine zx_putI fl_RX10_366 rfl (Or.inl fp_10_25) dX10_readsOne_83 ?_
                  refine zx_aloadN dX10_readsOne_86 rfl rfl ?_
                  refine zy_cvvR [] (sX10_semicolon (S := (cP t n (vct t n S.1) D (pN t n S))) hfl (zOK_put hz73 (by first | exact hz73 _ _ | assumption | exact zr_b _ | exact zcmp_r _ _ | (unfold zr at *; omega))) (PM_25 (by decide) hr73.2.2.2.1)) dX10_readsOne_87 (by decide) rfl cw_RX10_297 okX10_semicolon rfl (Nat.le_of_ble_eq_true rfl) ⟨Nat.le_of_ble_eq_true rfl, Nat.le_of_ble_eq_true rfl, Nat.le_of_ble_eq_true rfl, Nat.le_of_ble_eq_true rfl⟩ (fun τ87 hr87 => ?_)
                  have hz87 : zOK τ87 := hr87.1
                  refine zx_vret rfl dX10_readsOne_90 ?_
                  rw [hQ]
                  refine ⟨rfl, ?_⟩
                  first
                  | (have hcn : (if 30 ≤ k then pF t n (if vct t n S.1 = -1 then pF t n S 1 else S) 4 else (if vct t n S.1 = -1 then pF t n S 1 else S)) = cN t n D k S := by
                       unfold cN
                       first
                       | (rw [if_pos h8, if_pos h8]
                          by_cases q : 30 ≤ k
                          · rw [if_pos q, pF_n (pF_nz (by decide))]
                          · rw [if_neg q])
                       | (rw [if_neg h8, if_neg h8]
                          by_cases q : 30 ≤ k
                          · rw [if_pos q, if_pos q]
                          · exfalso; rw [if_neg h8, if_neg q] at e36; exact h43 (e36.trans z))
                     exact ⟨hz87, MC_x (MC_rf _) m36, fun i _ => MX_270 m36 i, hcn ▸ q36.1, fun q => absurd (e36.trans ((congrArg (fun s : zP => s.2.1) hcn).trans q)) h43⟩)
                  | (have hcn : pSem t n (cP t n (vct t n S.1) D (pN t n S)) = cN t n D k S := by
                       unfold cN; rw [if_neg hv1, if_neg hk30]; exact cP_s
                     have c270 : ∀ i, τ87.1 270 i = τ73.1 270 i := fun i => (MX_270 hr87.2.1 i).trans (zput_k _ _ _ _ _ (by decide))
                     refine ⟨hz87, MC_x (MC_q (MC_t (MC_p (MC_x (MC_rf _) m48)) hr73.2.1)) hr87.2.1, fun i hi => ?_, hcn ▸ hr87.2.2, fun q => ?_⟩
                     · rw [c270, hr73.2.2.1 i (by omega), zput_i _ _ _ _ _ (by omega)]; exact MX_270 m48 i
                     · rw [← hcn] at q
                       have hp := hr73.2.2.2.2 (pSem_s q).1
                       refine ⟨(MX_c hr87.2.1 (by decide)).trans ((zput_s _ _ _ _).trans (by omega)), ?_, ?_, fun c => ?_, fun c => ?_, fun c => ?_⟩
                       · rw [c270, hr73.2.2.1 (5 * k) (by omega)]; exact zput_s _ _ _ _
                       · rw [c270]; exact hp.1
                       · rw [c270]; exact hp.2.1 c
                       · rw [c270]; exact hp.2.2.1 c
                       · rw [c270]; exact hp.2.2.2 c)
                · refine zy_cvvR [zi (vct t n S.1), zi ((5 * k + 1 : Nat) : Int)] (sX10_partsOf_5 (D := D) (S := (pN t n S)) (to := (5 * k + 1)) hfl (zOK_put hz48 (by first | exact hz48 _ _ | assumption | exact zr_b _ | exact zcmp_r _ _ | (unfold zr at *; omega))) (by first | assumption | omega) (R62 _ _) (PM_put q48) (by omega) (by omega)) dX10_readsOne_73 (by decide) rfl cw_RX10_369 okX10_partsOf rfl (Nat.le_of_ble_eq_true rfl) ⟨Nat.le_of_ble_eq_true rfl, Nat.le_of_ble_eq_true rfl, Nat.le_of_ble_eq_true rfl, Nat.le_of_ble_eq_true rfl⟩ (fun τ73 hr73 => ?_)
                  have hz73 : zOK τ73 := hr73.1
                  have k73 : τ73.1 261 25 = ((k : Nat) : Int) := (hr73.2.1.2.1 25 (by omega)).trans ((zput_k _ _ _ _ _ (by decide)).trans k48)
                  refine zx_aloadN dX10_readsOne_76 rfl rfl ?_
                  refine zx_dup rfl dX10_readsOne_77 ?_
                  refine zy_getI fl_RX10_366 rfl dX10_readsOne_78 rfl ?_
                  refine zy_top (b := ((k : Nat) : Int)) (k73) ?_
                  refine zx_iconst dX10_readsOne_81 ?_
                  refine zx_iadd dX10_readsOne_82 ?_
                  refine zx_putI fl_RX10_366 rfl (Or.inl fp_10_25) dX10_readsOne_83 ?_
                  refine zx_aloadN dX10_readsOne_86 rfl rfl ?_
                  refine zy_cvvR [] (sX10_semicolon (S := (cP t n (vct t n S.1) D (pN t n S))) hfl (zOK_put hz73 (by first | exact hz73 _ _ | assumption | exact zr_b _ | exact zcmp_r _ _ | (unfold zr at *; omega))) (PM_25 (by decide) hr73.2.2.2.1)) dX10_readsOne_87 (by decide) rfl cw_RX10_297 okX10_semicolon rfl (Nat.le_of_ble_eq_true rfl) ⟨Nat.le_of_ble_eq_true rfl, Nat.le_of_ble_eq_true rfl, Nat.le_of_ble_eq_true rfl, Nat.le_of_ble_eq_true rfl⟩ (fun τ87 hr87 => ?_)
                  have hz87 : zOK τ87 := hr87.1
                  refine zx_vret rfl dX10_readsOne_90 ?_
                  rw [hQ]
                  refine ⟨rfl, ?_⟩
                  first
                  | (have hcn : (if 30 ≤ k then pF t n (if vct t n S.1 = -1 then pF t n S 1 else S) 4 else (if vct t n S.1 = -1 then pF t n S 1 else S)) = cN t n D k S := by
                       unfold cN
                       first
                       | (rw [if_pos h8, if_pos h8]
                          by_cases q : 30 ≤ k
                          · rw [if_pos q, pF_n (pF_nz (by decide))]
                          · rw [if_neg q])
                       | (rw [if_neg h8, if_neg h8]
                          by_cases q : 30 ≤ k
                          · rw [if_pos q, if_pos q]
                          · exfalso; rw [if_neg h8, if_neg q] at e36; exact h43 (e36.trans z))
                     exact ⟨hz87, MC_x (MC_rf _) m36, fun i _ => MX_270 m36 i, hcn ▸ q36.1, fun q => absurd (e36.trans ((congrArg (fun s : zP => s.2.1) hcn).trans q)) h43⟩)
                  | (have hcn : pSem t n (cP t n (vct t n S.1) D (pN t n S)) = cN t n D k S := by
                       unfold cN; rw [if_neg hv1, if_neg hk30]; exact cP_s
                     have c270 : ∀ i, τ87.1 270 i = τ73.1 270 i := fun i => (MX_270 hr87.2.1 i).trans (zput_k _ _ _ _ _ (by decide))
                     refine ⟨hz87, MC_x (MC_q (MC_t (MC_p (MC_x (MC_rf _) m48)) hr73.2.1)) hr87.2.1, fun i hi => ?_, hcn ▸ hr87.2.2, fun q => ?_⟩
                     · rw [c270, hr73.2.2.1 i (by omega), zput_i _ _ _ _ _ (by omega)]; exact MX_270 m48 i
                     · rw [← hcn] at q
                       have hp := hr73.2.2.2.2 (pSem_s q).1
                       refine ⟨(MX_c hr87.2.1 (by decide)).trans ((zput_s _ _ _ _).trans (by omega)), ?_, ?_, fun c => ?_, fun c => ?_, fun c => ?_⟩
                       · rw [c270, hr73.2.2.1 (5 * k) (by omega)]; exact zput_s _ _ _ _
                       · rw [c270]; exact hp.1
                       · rw [c270]; exact hp.2.1 c
                       · rw [c270]; exact hp.2.2.1 c
                       · rw [c270]; exact hp.2.2.2 c)
      · refine zx_vret rfl dX10_readsOne_46 ?_
        rw [hQ]
        refine ⟨rfl, ?_⟩
        first
        | (have hcn : (if 30 ≤ k then pF t n (if vct t n S.1 = -1 then pF t n S 1 else S) 4 else (if vct t n S.1 = -1 then pF t n S 1 else S)) = cN t n D k S := by
             unfold cN
             first
             | (rw [if_pos h8, if_pos h8]
                by_cases q : 30 ≤ k
                · rw [if_pos q, pF_n (pF_nz (by decide))]
                · rw [if_neg q])
             | (rw [if_neg h8, if_neg h8]
                by_cases q : 30 ≤ k
                · rw [if_pos q, if_pos q]
                · exfalso; rw [if_neg h8, if_neg q] at e36; exact h43 (e36.trans z))
           exact ⟨hz36, MC_x (MC_rf _) m36, fun i _ => MX_270 m36 i, hcn ▸ q36.1, fun q => absurd (e36.trans ((congrArg (fun s : zP => s.2.1) hcn).trans q)) h43⟩)
        | (have hcn : pSem t n (cP t n (vct t n S.1) D (pN t n S)) = cN t n D k S := by
             unfold cN; rw [if_neg hv1, if_neg hk30]; exact cP_s
           have c270 : ∀ i, τ87.1 270 i = τ73.1 270 i := fun i => (MX_270 hr87.2.1 i).trans (zput_k _ _ _ _ _ (by decide))
           refine ⟨hz36, MC_x (MC_q (MC_t (MC_p (MC_x (MC_rf _) m48)) hr73.2.1)) hr87.2.1, fun i hi => ?_, hcn ▸ hr87.2.2, fun q => ?_⟩
           · rw [c270, hr73.2.2.1 i (by omega), zput_i _ _ _ _ _ (by omega)]; exact MX_270 m48 i
           · rw [← hcn] at q
             have hp := hr73.2.2.2.2 (pSem_s q).1
             refine ⟨(MX_c hr87.2.1 (by decide)).trans ((zput_s _ _ _ _).trans (by omega)), ?_, ?_, fun c => ?_, fun c => ?_, fun c => ?_⟩
             · rw [c270, hr73.2.2.1 (5 * k) (by omega)]; exact zput_s _ _ _ _
             · rw [c270]; exact hp.1
             · rw [c270]; exact hp.2.1 c
             · rw [c270]; exact hp.2.2.1 c
             · rw [c270]; exact hp.2.2.2 c)
    · refine zx_iconst dX10_readsOne_30 ?_
      refine zx_goto (tgt := 35) dX10_readsOne_31 (by decide) ?_
      refine zy_top (b := zb True) (zb_t trivial).symm ?_
      refine zx_iconst dX10_readsOne_35 ?_
      refine zy_cvvR [zi (zb True), zi 4] (sX10_must (S := (if vct t n S.1 = -1 then pF t n S 1 else S)) (A := True) hfl hz17 q17 (by omega)) dX10_readsOne_36 (by decide) rfl cw_RX10_252 okX10_must rfl (Nat.le_of_ble_eq_true rfl) ⟨Nat.le_of_ble_eq_true rfl, Nat.le_of_ble_eq_true rfl, Nat.le_of_ble_eq_true rfl, Nat.le_of_ble_eq_true rfl⟩ (fun τ36 hr36 => ?_)
      have hz36 : zOK τ36 := hr36.1
      have q36 : PN t n (if 30 ≤ k then pF t n (if vct t n S.1 = -1 then pF t n S 1 else S) 4 else (if vct t n S.1 = -1 then pF t n S 1 else S)) τ36 := by
        have q := hr36.2.2.1
        first
        | (rw [if_pos trivial] at q; rw [if_neg (by omega)]; exact q)
        | (rw [if_neg (fun r => r)] at q; rw [if_pos (by omega)]; exact q)
      have m36 := MX_tr m17 hr36.2.1
      have k36 : τ36.1 261 25 = ((k : Nat) : Int) := (MX_c m36 (by decide)).trans hk.1
      have e36 := q36.1.2.2.2.1.1
      refine zx_aloadN dX10_readsOne_39 rfl rfl ?_
      refine zy_getI fl_RX10_243 rfl dX10_readsOne_40 rfl ?_
      refine zx_if_eq (tgt := 47) (by first | exact hz36 _ _ | assumption | exact zr_b _ | exact zcmp_r _ _ | (unfold zr at *; omega)) dX10_readsOne_43 (by decide) (fun h43 => ?_) (fun h43 => ?_)
      · have hz2 : (if 30 ≤ k then pF t n (if vct t n S.1 = -1 then pF t n S 1 else S) 4 else (if vct t n S.1 = -1 then pF t n S 1 else S)).2.1 = 0 := e36.symm.trans h43
        have hk30 : ¬ 30 ≤ k := fun q => by rw [if_pos q] at hz2; exact absurd hz2 (pF_nz (by decide))
        have hv1 : ¬ vct t n S.1 = -1 := fun q => by rw [if_neg hk30, if_pos q] at hz2; exact absurd hz2 (pF_nz (by decide))
        have qS : PN t n S τ36 := by have q := q36; rw [if_neg hk30, if_neg hv1] at q; exact q
        refine zx_aloadN dX10_readsOne_47 rfl rfl ?_
        refine zy_cvvR [] (sX10_goesPast (S := S) hfl hz36 qS (fun _ => vct_w hv1)) dX10_readsOne_48 (by decide) rfl cw_RX10_272 okX10_goesPast rfl (Nat.le_of_ble_eq_true rfl) ⟨Nat.le_of_ble_eq_true rfl, Nat.le_of_ble_eq_true rfl, Nat.le_of_ble_eq_true rfl, Nat.le_of_ble_eq_true rfl⟩ (fun τ48 hr48 => ?_)
        have hz48 : zOK τ48 := hr48.1
        have q48 : PM t n (pN t n S) τ48 := by have q := hr48.2.2; rw [if_pos z] at q; exact q
        have m48 := MX_tr m36 hr48.2.1
        have k48 : τ48.1 261 25 = ((k : Nat) : Int) := (MX_c m48 (by decide)).trans hk.1
        have hzv : zr (vct t n S.1) := by unfold zr; omega
        have R62 : ∀ i v, Rel D ((zput τ48 270 i v).1 262) := fun i v => mfr_R (MC_p (MC_x (MC_rf _) m48)) (by decide) hR0
        refine zx_aloadN dX10_readsOne_51 rfl rfl ?_
        refine zy_getR (q' := 270) fl_RX10_38 rfl dX10_readsOne_52 rfl ?_
        refine zx_iconst dX10_readsOne_55 ?_
        refine zx_aloadN dX10_readsOne_56 rfl rfl ?_
        refine zy_getI fl_RX10_366 rfl dX10_readsOne_57 rfl ?_
        refine zy_top (b := ((k : Nat) : Int)) (k48) ?_
        refine zx_imul dX10_readsOne_60 ?_
        refine zy_top (b := ((5 * k : Nat) : Int)) (by omega) ?_
        refine zx_iloadN dX10_readsOne_61 rfl rfl ?_
        refine zy_iast (i := 5 * k) rfl (by decide) (by decide) dX10_readsOne_62 (by omega) (by omega) rfl ?_
        refine zx_aloadN dX10_readsOne_63 rfl rfl ?_
        refine zx_iloadN dX10_readsOne_64 rfl rfl ?_
        refine zx_iconst dX10_readsOne_65 ?_
        refine zx_aloadN dX10_readsOne_66 rfl rfl ?_
        refine zy_getI (v := τ48.1 261 25) fl_RX10_366 rfl dX10_readsOne_67 (zput_k _ _ _ _ _ (by omega)) ?_
        refine zy_top (b := ((k : Nat) : Int)) (k48) ?_
        refine zx_imul dX10_readsOne_70 ?_
        refine zy_top (b := ((5 * k : Nat) : Int)) (by omega) ?_
        refine zx_iconst dX10_readsOne_71 ?_
        refine zx_iadd dX10_readsOne_72 ?_
        refine zy_top (b := ((5 * k + 1 : Nat) : Int)) (by omega) ?_
        by_cases hb73 : (vct t n S.1) = 0
        · refine zy_cvvR [zi (vct t n S.1), zi ((5 * k + 1 : Nat) : Int)] (sX10_partsOf_0 (D := D) (S := (pN t n S)) (to := (5 * k + 1)) hfl (zOK_put hz48 (by first | exact hz48 _ _ | assumption | exact zr_b _ | exact zcmp_r _ _ | (unfold zr at *; omega))) (by first | assumption | omega) (R62 _ _) (PM_put q48) (by omega) (by omega)) dX10_readsOne_73 (by decide) rfl cw_RX10_369 okX10_partsOf rfl (Nat.le_of_ble_eq_true rfl) ⟨Nat.le_of_ble_eq_true rfl, Nat.le_of_ble_eq_true rfl, Nat.le_of_ble_eq_true rfl, Nat.le_of_ble_eq_true rfl⟩ (fun τ73 hr73 => ?_)
          have hz73 : zOK τ73 := hr73.1
          have k73 : τ73.1 261 25 = ((k : Nat) : Int) := (hr73.2.1.2.1 25 (by omega)).trans ((zput_k _ _ _ _ _ (by decide)).trans k48)
          refine zx_aloadN dX10_readsOne_76 rfl rfl ?_
          refine zx_dup rfl dX10_readsOne_77 ?_
          refine zy_getI fl_RX10_366 rfl dX10_readsOne_78 rfl ?_
          refine zy_top (b := ((k : Nat) : Int)) (k73) ?_
          refine zx_iconst dX10_readsOne_81 ?_
          refine zx_iadd dX10_readsOne_82 ?_
          refine zx_putI fl_RX10_366 rfl (Or.inl fp_10_25) dX10_readsOne_83 ?_
          refine zx_aloadN dX10_readsOne_86 rfl rfl ?_
          refine zy_cvvR [] (sX10_semicolon (S := (cP t n (vct t n S.1) D (pN t n S))) hfl (zOK_put hz73 (by first | exact hz73 _ _ | assumption | exact zr_b _ | exact zcmp_r _ _ | (unfold zr at *; omega))) (PM_25 (by decide) hr73.2.2.2.1)) dX10_readsOne_87 (by decide) rfl cw_RX10_297 okX10_semicolon rfl (Nat.le_of_ble_eq_true rfl) ⟨Nat.le_of_ble_eq_true rfl, Nat.le_of_ble_eq_true rfl, Nat.le_of_ble_eq_true rfl, Nat.le_of_ble_eq_true rfl⟩ (fun τ87 hr87 => ?_)
          have hz87 : zOK τ87 := hr87.1
          refine zx_vret rfl dX10_readsOne_90 ?_
          rw [hQ]
          refine ⟨rfl, ?_⟩
          first
          | (have hcn : (if 30 ≤ k then pF t n (if vct t n S.1 = -1 then pF t n S 1 else S) 4 else (if vct t n S.1 = -1 then pF t n S 1 else S)) = cN t n D k S := by
               unfold cN
               first
               | (rw [if_pos h8, if_pos h8]
                  by_cases q : 30 ≤ k
                  · rw [if_pos q, pF_n (pF_nz (by decide))]
                  · rw [if_neg q])
               | (rw [if_neg h8, if_neg h8]
                  by_cases q : 30 ≤ k
                  · rw [if_pos q, if_pos q]
                  · exfalso; rw [if_neg h8, if_neg q] at e36; exact h43 (e36.trans z))
             exact ⟨hz87, MC_x (MC_rf _) m36, fun i _ => MX_270 m36 i, hcn ▸ q36.1, fun q => absurd (e36.trans ((congrArg (fun s : zP => s.2.1) hcn).trans q)) h43⟩)
          | (have hcn : pSem t n (cP t n (vct t n S.1) D (pN t n S)) = cN t n D k S := by
               unfold cN; rw [if_neg hv1, if_neg hk30]; exact cP_s
             have c270 : ∀ i, τ87.1 270 i = τ73.1 270 i := fun i => (MX_270 hr87.2.1 i).trans (zput_k _ _ _ _ _ (by decide))
             refine ⟨hz87, MC_x (MC_q (MC_t (MC_p (MC_x (MC_rf _) m48)) hr73.2.1)) hr87.2.1, fun i hi => ?_, hcn ▸ hr87.2.2, fun q => ?_⟩
             · rw [c270, hr73.2.2.1 i (by omega), zput_i _ _ _ _ _ (by omega)]; exact MX_270 m48 i
             · rw [← hcn] at q
               have hp := hr73.2.2.2.2 (pSem_s q).1
               refine ⟨(MX_c hr87.2.1 (by decide)).trans ((zput_s _ _ _ _).trans (by omega)), ?_, ?_, fun c => ?_, fun c => ?_, fun c => ?_⟩
               · rw [c270, hr73.2.2.1 (5 * k) (by omega)]; exact zput_s _ _ _ _
               · rw [c270]; exact hp.1
               · rw [c270]; exact hp.2.1 c
               · rw [c270]; exact hp.2.2.1 c
               · rw [c270]; exact hp.2.2.2 c)
        · by_cases hb73b : (vct t n S.1) = 1
          · refine zy_cvvR [zi (vct t n S.1), zi ((5 * k + 1 : Nat) : Int)] (sX10_partsOf_1 (D := D) (S := (pN t n S)) (to := (5 * k + 1)) hfl (zOK_put hz48 (by first | exact hz48 _ _ | assumption | exact zr_b _ | exact zcmp_r _ _ | (unfold zr at *; omega))) (by first | assumption | omega) (R62 _ _) (PM_put q48) (by omega) (by omega)) dX10_readsOne_73 (by decide) rfl cw_RX10_369 okX10_partsOf rfl (Nat.le_of_ble_eq_true rfl) ⟨Nat.le_of_ble_eq_true rfl, Nat.le_of_ble_eq_true rfl, Nat.le_of_ble_eq_true rfl, Nat.le_of_ble_eq_true rfl⟩ (fun τ73 hr73 => ?_)
            have hz73 : zOK τ73 := hr73.1
            have k73 : τ73.1 261 25 = ((k : Nat) : Int) := (hr73.2.1.2.1 25 (by omega)).trans ((zput_k _ _ _ _ _ (by decide)).trans k48)
            refine zx_aloadN dX10_readsOne_76 rfl rfl ?_
            refine zx_dup rfl dX10_readsOne_77 ?_
            refine zy_getI fl_RX10_366 rfl dX10_readsOne_78 rfl ?_
            refine zy_top (b := ((k : Nat) : Int)) (k73) ?_
            refine zx_iconst dX10_readsOne_81 ?_
            refine zx_iadd dX10_readsOne_82 ?_
            refine zx_putI fl_RX10_366 rfl (Or.inl fp_10_25) dX10_readsOne_83 ?_
            refine zx_aloadN dX10_readsOne_86 rfl rfl ?_
            refine zy_cvvR [] (sX10_semicolon (S := (cP t n (vct t n S.1) D (pN t n S))) hfl (zOK_put hz73 (by first | exact hz73 _ _ | assumption | exact zr_b _ | exact zcmp_r _ _ | (unfold zr at *; omega))) (PM_25 (by decide) hr73.2.2.2.1)) dX10_readsOne_87 (by decide) rfl cw_RX10_297 okX10_semicolon rfl (Nat.le_of_ble_eq_true rfl) ⟨Nat.le_of_ble_eq_true rfl, Nat.le_of_ble_eq_true rfl, Nat.le_of_ble_eq_true rfl, Nat.le_of_ble_eq_true rfl⟩ (fun τ87 hr87 => ?_)
            have hz87 : zOK τ87 := hr87.1
            refine zx_vret rfl dX10_readsOne_90 ?_
            rw [hQ]
            refine ⟨rfl, ?_⟩
            first
            | (have hcn : (if 30 ≤ k then pF t n (if vct t n S.1 = -1 then pF t n S 1 else S) 4 else (if vct t n S.1 = -1 then pF t n S 1 else S)) = cN t n D k S := by
                 unfold cN
                 first
                 | (rw [if_pos h8, if_pos h8]
                    by_cases q : 30 ≤ k
                    · rw [if_pos q, pF_n (pF_nz (by decide))]
                    · rw [if_neg q])
                 | (rw [if_neg h8, if_neg h8]
                    by_cases q : 30 ≤ k
                    · rw [if_pos q, if_pos q]
                    · exfalso; rw [if_neg h8, if_neg q] at e36; exact h43 (e36.trans z))
               exact ⟨hz87, MC_x (MC_rf _) m36, fun i _ => MX_270 m36 i, hcn ▸ q36.1, fun q => absurd (e36.trans ((congrArg (fun s : zP => s.2.1) hcn).trans q)) h43⟩)
            | (have hcn : pSem t n (cP t n (vct t n S.1) D (pN t n S)) = cN t n D k S := by
                 unfold cN; rw [if_neg hv1, if_neg hk30]; exact cP_s
               have c270 : ∀ i, τ87.1 270 i = τ73.1 270 i := fun i => (MX_270 hr87.2.1 i).trans (zput_k _ _ _ _ _ (by decide))
               refine ⟨hz87, MC_x (MC_q (MC_t (MC_p (MC_x (MC_rf _) m48)) hr73.2.1)) hr87.2.1, fun i hi => ?_, hcn ▸ hr87.2.2, fun q => ?_⟩
               · rw [c270, hr73.2.2.1 i (by omega), zput_i _ _ _ _ _ (by omega)]; exact MX_270 m48 i
               · rw [← hcn] at q
                 have hp := hr73.2.2.2.2 (pSem_s q).1
                 refine ⟨(MX_c hr87.2.1 (by decide)).trans ((zput_s _ _ _ _).trans (by omega)), ?_, ?_, fun c => ?_, fun c => ?_, fun c => ?_⟩
                 · rw [c270, hr73.2.2.1 (5 * k) (by omega)]; exact zput_s _ _ _ _
                 · rw [c270]; exact hp.1
                 · rw [c270]; exact hp.2.1 c
                 · rw [c270]; exact hp.2.2.1 c
                 · rw [c270]; exact hp.2.2.2 c)
          · by_cases hb73bb : (vct t n S.1) = 2
            · refine zy_cvvR [zi (vct t n S.1), zi ((5 * k + 1 : Nat) : Int)] (sX10_partsOf_2 (D := D) (S := (pN t n S)) (to := (5 * k + 1)) hfl (zOK_put hz48 (by first | exact hz48 _ _ | assumption | exact zr_b _ | exact zcmp_r _ _ | (unfold zr at *; omega))) (by first | assumption | omega) (R62 _ _) (PM_put q48) (by omega) (by omega)) dX10_readsOne_73 (by decide) rfl cw_RX10_369 okX10_partsOf rfl (Nat.le_of_ble_eq_true rfl) ⟨Nat.le_of_ble_eq_true rfl, Nat.le_of_ble_eq_true rfl, Nat.le_of_ble_eq_true rfl, Nat.le_of_ble_eq_true rfl⟩ (fun τ73 hr73 => ?_)
              have hz73 : zOK τ73 := hr73.1
              have k73 : τ73.1 261 25 = ((k : Nat) : Int) := (hr73.2.1.2.1 25 (by omega)).trans ((zput_k _ _ _ _ _ (by decide)).trans k48)
              refine zx_aloadN dX10_readsOne_76 rfl rfl ?_
              refine zx_dup rfl dX10_readsOne_77 ?_
              refine zy_getI fl_RX10_366 rfl dX10_readsOne_78 rfl ?_
              refine zy_top (b := ((k : Nat) : Int)) (k73) ?_
              refine zx_iconst dX10_readsOne_81 ?_
              refine zx_iadd dX10_readsOne_82 ?_
              refine zx_putI fl_RX10_366 rfl (Or.inl fp_10_25) dX10_readsOne_83 ?_
              refine zx_aloadN dX10_readsOne_86 rfl rfl ?_
              refine zy_cvvR [] (sX10_semicolon (S := (cP t n (vct t n S.1) D (pN t n S))) hfl (zOK_put hz73 (by first | exact hz73 _ _ | assumption | exact zr_b _ | exact zcmp_r _ _ | (unfold zr at *; omega))) (PM_25 (by decide) hr73.2.2.2.1)) dX10_readsOne_87 (by decide) rfl cw_RX10_297 okX10_semicolon rfl (Nat.le_of_ble_eq_true rfl) ⟨Nat.le_of_ble_eq_true rfl, Nat.le_of_ble_eq_true rfl, Nat.le_of_ble_eq_true rfl, Nat.le_of_ble_eq_true rfl⟩ (fun τ87 hr87 => ?_)
              have hz87 : zOK τ87 := hr87.1
              refine zx_vret rfl dX10_readsOne_90 ?_
              rw [hQ]
              refine ⟨rfl, ?_⟩
              first
              | (have hcn : (if 30 ≤ k then pF t n (if vct t n S.1 = -1 then pF t n S 1 else S) 4 else (if vct t n S.1 = -1 then pF t n S 1 else S)) = cN t n D k S := by
                   unfold cN
                   first
                   | (rw [if_pos h8, if_pos h8]
                      by_cases q : 30 ≤ k
                      · rw [if_pos q, pF_n (pF_nz (by decide))]
                      · rw [if_neg q])
                   | (rw [if_neg h8, if_neg h8]
                      by_cases q : 30 ≤ k
                      · rw [if_pos q, if_pos q]
                      · exfalso; rw [if_neg h8, if_neg q] at e36; exact h43 (e36.trans z))
                 exact ⟨hz87, MC_x (MC_rf _) m36, fun i _ => MX_270 m36 i, hcn ▸ q36.1, fun q => absurd (e36.trans ((congrArg (fun s : zP => s.2.1) hcn).trans q)) h43⟩)
              | (have hcn : pSem t n (cP t n (vct t n S.1) D (pN t n S)) = cN t n D k S := by
                   unfold cN; rw [if_neg hv1, if_neg hk30]; exact cP_s
                 have c270 : ∀ i, τ87.1 270 i = τ73.1 270 i := fun i => (MX_270 hr87.2.1 i).trans (zput_k _ _ _ _ _ (by decide))
                 refine ⟨hz87, MC_x (MC_q (MC_t (MC_p (MC_x (MC_rf _) m48)) hr73.2.1)) hr87.2.1, fun i hi => ?_, hcn ▸ hr87.2.2, fun q => ?_⟩
                 · rw [c270, hr73.2.2.1 i (by omega), zput_i _ _ _ _ _ (by omega)]; exact MX_270 m48 i
                 · rw [← hcn] at q
                   have hp := hr73.2.2.2.2 (pSem_s q).1
                   refine ⟨(MX_c hr87.2.1 (by decide)).trans ((zput_s _ _ _ _).trans (by omega)), ?_, ?_, fun c => ?_, fun c => ?_, fun c => ?_⟩
                   · rw [c270, hr73.2.2.1 (5 * k) (by omega)]; exact zput_s _ _ _ _
                   · rw [c270]; exact hp.1
                   · rw [c270]; exact hp.2.1 c
                   · rw [c270]; exact hp.2.2.1 c
                   · rw [c270]; exact hp.2.2.2 c)
            · by_cases hb73bbb : (vct t n S.1) = 3
              · refine zy_cvvR [zi (vct t n S.1), zi ((5 * k + 1 : Nat) : Int)] (sX10_partsOf_3 (D := D) (S := (pN t n S)) (to := (5 * k + 1)) hfl (zOK_put hz48 (by first | exact hz48 _ _ | assumption | exact zr_b _ | exact zcmp_r _ _ | (unfold zr at *; omega))) (by first | assumption | omega) (R62 _ _) (PM_put q48) (by omega) (by omega)) dX10_readsOne_73 (by decide) rfl cw_RX10_369 okX10_partsOf rfl (Nat.le_of_ble_eq_true rfl) ⟨Nat.le_of_ble_eq_true rfl, Nat.le_of_ble_eq_true rfl, Nat.le_of_ble_eq_true rfl, Nat.le_of_ble_eq_true rfl⟩ (fun τ73 hr73 => ?_)
                have hz73 : zOK τ73 := hr73.1
                have k73 : τ73.1 261 25 = ((k : Nat) : Int) := (hr73.2.1.2.1 25 (by omega)).trans ((zput_k _ _ _ _ _ (by decide)).trans k48)
                refine zx_aloadN dX10_readsOne_76 rfl rfl ?_
                refine zx_dup rfl dX10_readsOne_77 ?_
                refine zy_getI fl_RX10_366 rfl dX10_readsOne_78 rfl ?_
                refine zy_top (b := ((k : Nat) : Int)) (k73) ?_
                refine zx_iconst dX10_readsOne_81 ?_
                refine zx_iadd dX10_readsOne_82 ?_
                refine zx_putI fl_RX10_366 rfl (Or.inl fp_10_25) dX10_readsOne_83 ?_
                refine zx_aloadN dX10_readsOne_86 rfl rfl ?_
                refine zy_cvvR [] (sX10_semicolon (S := (cP t n (vct t n S.1) D (pN t n S))) hfl (zOK_put hz73 (by first | exact hz73 _ _ | assumption | exact zr_b _ | exact zcmp_r _ _ | (unfold zr at *; omega))) (PM_25 (by decide) hr73.2.2.2.1)) dX10_readsOne_87 (by decide) rfl cw_RX10_297 okX10_semicolon rfl (Nat.le_of_ble_eq_true rfl) ⟨Nat.le_of_ble_eq_true rfl, Nat.le_of_ble_eq_true rfl, Nat.le_of_ble_eq_true rfl, Nat.le_of_ble_eq_true rfl⟩ (fun τ87 hr87 => ?_)
                have hz87 : zOK τ87 := hr87.1
                refine zx_vret rfl dX10_readsOne_90 ?_
                rw [hQ]
                refine ⟨rfl, ?_⟩
                first
                | (have hcn : (if 30 ≤ k then pF t n (if vct t n S.1 = -1 then pF t n S 1 else S) 4 else (if vct t n S.1 = -1 then pF t n S 1 else S)) = cN t n D k S := by
                     unfold cN
                     first
                     | (rw [if_pos h8, if_pos h8]
                        by_cases q : 30 ≤ k
                        · rw [if_pos q, pF_n (pF_nz (by decide))]
                        · rw [if_neg q])
                     | (rw [if_neg h8, if_neg h8]
                        by_cases q : 30 ≤ k
                        · rw [if_pos q, if_pos q]
                        · exfalso; rw [if_neg h8, if_neg q] at e36; exact h43 (e36.trans z))
                   exact ⟨hz87, MC_x (MC_rf _) m36, fun i _ => MX_270 m36 i, hcn ▸ q36.1, fun q => absurd (e36.trans ((congrArg (fun s : zP => s.2.1) hcn).trans q)) h43⟩)
                | (have hcn : pSem t n (cP t n (vct t n S.1) D (pN t n S)) = cN t n D k S := by
                     unfold cN; rw [if_neg hv1, if_neg hk30]; exact cP_s
                   have c270 : ∀ i, τ87.1 270 i = τ73.1 270 i := fun i => (MX_270 hr87.2.1 i).trans (zput_k _ _ _ _ _ (by decide))
                   refine ⟨hz87, MC_x (MC_q (MC_t (MC_p (MC_x (MC_rf _) m48)) hr73.2.1)) hr87.2.1, fun i hi => ?_, hcn ▸ hr87.2.2, fun q => ?_⟩
                   · rw [c270, hr73.2.2.1 i (by omega), zput_i _ _ _ _ _ (by omega)]; exact MX_270 m48 i
                   · rw [← hcn] at q
                     have hp := hr73.2.2.2.2 (pSem_s q).1
                     refine ⟨(MX_c hr87.2.1 (by decide)).trans ((zput_s _ _ _ _).trans (by omega)), ?_, ?_, fun c => ?_, fun c => ?_, fun c => ?_⟩
                     · rw [c270, hr73.2.2.1 (5 * k) (by omega)]; exact zput_s _ _ _ _
                     · rw [c270]; exact hp.1
                     · rw [c270]; exact hp.2.1 c
                     · rw [c270]; exact hp.2.2.1 c
                     · rw [c270]; exact hp.2.2.2 c)
              · by_cases hb73bbbb : (vct t n S.1) = 4
                · refine zy_cvvR [zi (vct t n S.1), zi ((5 * k + 1 : Nat) : Int)] (sX10_partsOf_4 (D := D) (S := (pN t n S)) (to := (5 * k + 1)) hfl (zOK_put hz48 (by first | exact hz48 _ _ | assumption | exact zr_b _ | exact zcmp_r _ _ | (unfold zr at *; omega))) (by first | assumption | omega) (R62 _ _) (PM_put q48) (by omega) (by omega)) dX10_readsOne_73 (by decide) rfl cw_RX10_369 okX10_partsOf rfl (Nat.le_of_ble_eq_true rfl) ⟨Nat.le_of_ble_eq_true rfl, Nat.le_of_ble_eq_true rfl, Nat.le_of_ble_eq_true rfl, Nat.le_of_ble_eq_true rfl⟩ (fun τ73 hr73 => ?_)
                  have hz73 : zOK τ73 := hr73.1
                  have k73 : τ73.1 261 25 = ((k : Nat) : Int) := (hr73.2.1.2.1 25 (by omega)).trans ((zput_k _ _ _ _ _ (by decide)).trans k48)
                  refine zx_aloadN dX10_readsOne_76 rfl rfl ?_
                  refine zx_dup rfl dX10_readsOne_77 ?_
                  refine zy_getI fl_RX10_366 rfl dX10_readsOne_78 rfl ?_
                  refine zy_top (b := ((k : Nat) : Int)) (k73) ?_
                  refine zx_iconst dX10_readsOne_81 ?_
                  refine zx_iadd dX10_readsOne_82 ?_
                  refine zx_putI fl_RX10_366 rfl (Or.inl fp_10_25) dX10_readsOne_83 ?_
                  refine zx_aloadN dX10_readsOne_86 rfl rfl ?_
                  refine zy_cvvR [] (sX10_semicolon (S := (cP t n (vct t n S.1) D (pN t n S))) hfl (zOK_put hz73 (by first | exact hz73 _ _ | assumption | exact zr_b _ | exact zcmp_r _ _ | (unfold zr at *; omega))) (PM_25 (by decide) hr73.2.2.2.1)) dX10_readsOne_87 (by decide) rfl cw_RX10_297 okX10_semicolon rfl (Nat.le_of_ble_eq_true rfl) ⟨Nat.le_of_ble_eq_true rfl, Nat.le_of_ble_eq_true rfl, Nat.le_of_ble_eq_true rfl, Nat.le_of_ble_eq_true rfl⟩ (fun τ87 hr87 => ?_)
                  have hz87 : zOK τ87 := hr87.1
                  refine zx_vret rfl dX10_readsOne_90 ?_
                  rw [hQ]
                  refine ⟨rfl, ?_⟩
                  first
                  | (have hcn : (if 30 ≤ k then pF t n (if vct t n S.1 = -1 then pF t n S 1 else S) 4 else (if vct t n S.1 = -1 then pF t n S 1 else S)) = cN t n D k S := by
                       unfold cN
                       first
                       | (rw [if_pos h8, if_pos h8]
                          by_cases q : 30 ≤ k
                          · rw [if_pos q, pF_n (pF_nz (by decide))]
                          · rw [if_neg q])
                       | (rw [if_neg h8, if_neg h8]
                          by_cases q : 30 ≤ k
                          · rw [if_pos q, if_pos q]
                          · exfalso; rw [if_neg h8, if_neg q] at e36; exact h43 (e36.trans z))
                     exact ⟨hz87, MC_x (MC_rf _) m36, fun i _ => MX_270 m36 i, hcn ▸ q36.1, fun q => absurd (e36.trans ((congrArg (fun s : zP => s.2.1) hcn).trans q)) h43⟩)
                  | (have hcn : pSem t n (cP t n (vct t n S.1) D (pN t n S)) = cN t n D k S := by
                       unfold cN; rw [if_neg hv1, if_neg hk30]; exact cP_s
                     have c270 : ∀ i, τ87.1 270 i = τ73.1 270 i := fun i => (MX_270 hr87.2.1 i).trans (zput_k _ _ _ _ _ (by decide))
                     refine ⟨hz87, MC_x (MC_q (MC_t (MC_p (MC_x (MC_rf _) m48)) hr73.2.1)) hr87.2.1, fun i hi => ?_, hcn ▸ hr87.2.2, fun q => ?_⟩
                     · rw [c270, hr73.2.2.1 i (by omega), zput_i _ _ _ _ _ (by omega)]; exact MX_270 m48 i
                     · rw [← hcn] at q
                       have hp := hr73.2.2.2.2 (pSem_s q).1
                       refine ⟨(MX_c hr87.2.1 (by decide)).trans ((zput_s _ _ _ _).trans (by omega)), ?_, ?_, fun c => ?_, fun c => ?_, fun c => ?_⟩
                       · rw [c270, hr73.2.2.1 (5 * k) (by omega)]; exact zput_s _ _ _ _
                       · rw [c270]; exact hp.1
                       · rw [c270]; exact hp.2.1 c
                       · rw [c270]; exact hp.2.2.1 c
                       · rw [c270]; exact hp.2.2.2 c)
                · refine zy_cvvR [zi (vct t n S.1), zi ((5 * k + 1 : Nat) : Int)] (sX10_partsOf_5 (D := D) (S := (pN t n S)) (to := (5 * k + 1)) hfl (zOK_put hz48 (by first | exact hz48 _ _ | assumption | exact zr_b _ | exact zcmp_r _ _ | (unfold zr at *; omega))) (by first | assumption | omega) (R62 _ _) (PM_put q48) (by omega) (by omega)) dX10_readsOne_73 (by decide) rfl cw_RX10_369 okX10_partsOf rfl (Nat.le_of_ble_eq_true rfl) ⟨Nat.le_of_ble_eq_true rfl, Nat.le_of_ble_eq_true rfl, Nat.le_of_ble_eq_true rfl, Nat.le_of_ble_eq_true rfl⟩ (fun τ73 hr73 => ?_)
                  have hz73 : zOK τ73 := hr73.1
                  have k73 : τ73.1 261 25 = ((k : Nat) : Int) := (hr73.2.1.2.1 25 (by omega)).trans ((zput_k _ _ _ _ _ (by decide)).trans k48)
                  refine zx_aloadN dX10_readsOne_76 rfl rfl ?_
                  refine zx_dup rfl dX10_readsOne_77 ?_
                  refine zy_getI fl_RX10_366 rfl dX10_readsOne_78 rfl ?_
                  refine zy_top (b := ((k : Nat) : Int)) (k73) ?_
                  refine zx_iconst dX10_readsOne_81 ?_
                  refine zx_iadd dX10_readsOne_82 ?_
                  refine zx_putI fl_RX10_366 rfl (Or.inl fp_10_25) dX10_readsOne_83 ?_
                  refine zx_aloadN dX10_readsOne_86 rfl rfl ?_
                  refine zy_cvvR [] (sX10_semicolon (S := (cP t n (vct t n S.1) D (pN t n S))) hfl (zOK_put hz73 (by first | exact hz73 _ _ | assumption | exact zr_b _ | exact zcmp_r _ _ | (unfold zr at *; omega))) (PM_25 (by decide) hr73.2.2.2.1)) dX10_readsOne_87 (by decide) rfl cw_RX10_297 okX10_semicolon rfl (Nat.le_of_ble_eq_true rfl) ⟨Nat.le_of_ble_eq_true rfl, Nat.le_of_ble_eq_true rfl, Nat.le_of_ble_eq_true rfl, Nat.le_of_ble_eq_true rfl⟩ (fun τ87 hr87 => ?_)
                  have hz87 : zOK τ87 := hr87.1
                  refine zx_vret rfl dX10_readsOne_90 ?_
                  rw [hQ]
                  refine ⟨rfl, ?_⟩
                  first
                  | (have hcn : (if 30 ≤ k then pF t n (if vct t n S.1 = -1 then pF t n S 1 else S) 4 else (if vct t n S.1 = -1 then pF t n S 1 else S)) = cN t n D k S := by
                       unfold cN
                       first
                       | (rw [if_pos h8, if_pos h8]
                          by_cases q : 30 ≤ k
                          · rw [if_pos q, pF_n (pF_nz (by decide))]
                          · rw [if_neg q])
                       | (rw [if_neg h8, if_neg h8]
                          by_cases q : 30 ≤ k
                          · rw [if_pos q, if_pos q]
                          · exfalso; rw [if_neg h8, if_neg q] at e36; exact h43 (e36.trans z))
                     exact ⟨hz87, MC_x (MC_rf _) m36, fun i _ => MX_270 m36 i, hcn ▸ q36.1, fun q => absurd (e36.trans ((congrArg (fun s : zP => s.2.1) hcn).trans q)) h43⟩)
                  | (have hcn : pSem t n (cP t n (vct t n S.1) D (pN t n S)) = cN t n D k S := by
                       unfold cN; rw [if_neg hv1, if_neg hk30]; exact cP_s
                     have c270 : ∀ i, τ87.1 270 i = τ73.1 270 i := fun i => (MX_270 hr87.2.1 i).trans (zput_k _ _ _ _ _ (by decide))
                     refine ⟨hz87, MC_x (MC_q (MC_t (MC_p (MC_x (MC_rf _) m48)) hr73.2.1)) hr87.2.1, fun i hi => ?_, hcn ▸ hr87.2.2, fun q => ?_⟩
                     · rw [c270, hr73.2.2.1 i (by omega), zput_i _ _ _ _ _ (by omega)]; exact MX_270 m48 i
                     · rw [← hcn] at q
                       have hp := hr73.2.2.2.2 (pSem_s q).1
                       refine ⟨(MX_c hr87.2.1 (by decide)).trans ((zput_s _ _ _ _).trans (by omega)), ?_, ?_, fun c => ?_, fun c => ?_, fun c => ?_⟩
                       · rw [c270, hr73.2.2.1 (5 * k) (by omega)]; exact zput_s _ _ _ _
                       · rw [c270]; exact hp.1
                       · rw [c270]; exact hp.2.1 c
                       · rw [c270]; exact hp.2.2.1 c
                       · rw [c270]; exact hp.2.2.2 c)
      · refine zx_vret rfl dX10_readsOne_46 ?_
        rw [hQ]
        refine ⟨rfl, ?_⟩
        first
        | (have hcn : (if 30 ≤ k then pF t n (if vct t n S.1 = -1 then pF t n S 1 else S) 4 else (if vct t n S.1 = -1 then pF t n S 1 else S)) = cN t n D k S := by
             unfold cN
             first
             | (rw [if_pos h8, if_pos h8]
                by_cases q : 30 ≤ k
                · rw [if_pos q, pF_n (pF_nz (by decide))]
                · rw [if_neg q])
             | (rw [if_neg h8, if_neg h8]
                by_cases q : 30 ≤ k
                · rw [if_pos q, if_pos q]
                · exfalso; rw [if_neg h8, if_neg q] at e36; exact h43 (e36.trans z))
           exact ⟨hz36, MC_x (MC_rf _) m36, fun i _ => MX_270 m36 i, hcn ▸ q36.1, fun q => absurd (e36.trans ((congrArg (fun s : zP => s.2.1) hcn).trans q)) h43⟩)
        | (have hcn : pSem t n (cP t n (vct t n S.1) D (pN t n S)) = cN t n D k S := by
             unfold cN; rw [if_neg hv1, if_neg hk30]; exact cP_s
           have c270 : ∀ i, τ87.1 270 i = τ73.1 270 i := fun i => (MX_270 hr87.2.1 i).trans (zput_k _ _ _ _ _ (by decide))
           refine ⟨hz36, MC_x (MC_q (MC_t (MC_p (MC_x (MC_rf _) m48)) hr73.2.1)) hr87.2.1, fun i hi => ?_, hcn ▸ hr87.2.2, fun q => ?_⟩
           · rw [c270, hr73.2.2.1 i (by omega), zput_i _ _ _ _ _ (by omega)]; exact MX_270 m48 i
           · rw [← hcn] at q
             have hp := hr73.2.2.2.2 (pSem_s q).1
             refine ⟨(MX_c hr87.2.1 (by decide)).trans ((zput_s _ _ _ _).trans (by omega)), ?_, ?_, fun c => ?_, fun c => ?_, fun c => ?_⟩
             · rw [c270, hr73.2.2.1 (5 * k) (by omega)]; exact zput_s _ _ _ _
             · rw [c270]; exact hp.1
             · rw [c270]; exact hp.2.1 c
             · rw [c270]; exact hp.2.2.1 c
             · rw [c270]; exact hp.2.2.2 c)
  · refine zx_iconst dX10_readsOne_11 ?_
    refine zx_goto (tgt := 16) dX10_readsOne_12 (by decide) ?_
    refine zy_top (b := zb True) (zb_t trivial).symm ?_
    refine zx_iconst dX10_readsOne_16 ?_
    refine zy_cvvR [zi (zb True), zi 1] (sX10_must (A := True) hfl hz1 hr1.2.2 (by omega)) dX10_readsOne_17 (by decide) rfl cw_RX10_252 okX10_must rfl (Nat.le_of_ble_eq_true rfl) ⟨Nat.le_of_ble_eq_true rfl, Nat.le_of_ble_eq_true rfl, Nat.le_of_ble_eq_true rfl, Nat.le_of_ble_eq_true rfl⟩ (fun τ17 hr17 => ?_)
    have hz17 : zOK τ17 := hr17.1
    have q17 : PN t n (if vct t n S.1 = -1 then pF t n S 1 else S) τ17 := by
      have q := hr17.2.2.1
      first
      | (rw [if_pos trivial] at q; rw [if_neg h8]; exact q)
      | (rw [if_neg (fun r => r)] at q; rw [if_pos h8]; exact q)
    have m17 := MX_tr hr1.2.1 hr17.2.1
    have k17 : τ17.1 261 25 = ((k : Nat) : Int) := (MX_c m17 (by decide)).trans hk.1
    refine zx_aloadN dX10_readsOne_20 rfl rfl ?_
    refine zx_aloadN dX10_readsOne_21 rfl rfl ?_
    refine zy_getI fl_RX10_366 rfl dX10_readsOne_22 rfl ?_
    refine zy_top (b := ((k : Nat) : Int)) (k17) ?_
    refine zx_bipush dX10_readsOne_25 rfl ?_
    refine zx_icmp_ge (tgt := 34) (by first | exact hz17 _ _ | assumption | exact zr_b _ | exact zcmp_r _ _ | (unfold zr at *; omega)) (by first | exact hz17 _ _ | assumption | exact zr_b _ | exact zcmp_r _ _ | (unfold zr at *; omega)) dX10_readsOne_27 (by decide) (fun h27 => ?_) (fun h27 => ?_)
    · refine zx_iconst dX10_readsOne_34 ?_
      refine zy_top (b := zb False) (zb_f (fun q => q)).symm ?_
      refine zx_iconst dX10_readsOne_35 ?_
      refine zy_cvvR [zi (zb False), zi 4] (sX10_must (S := (if vct t n S.1 = -1 then pF t n S 1 else S)) (A := False) hfl hz17 q17 (by omega)) dX10_readsOne_36 (by decide) rfl cw_RX10_252 okX10_must rfl (Nat.le_of_ble_eq_true rfl) ⟨Nat.le_of_ble_eq_true rfl, Nat.le_of_ble_eq_true rfl, Nat.le_of_ble_eq_true rfl, Nat.le_of_ble_eq_true rfl⟩ (fun τ36 hr36 => ?_)
      have hz36 : zOK τ36 := hr36.1
      have q36 : PN t n (if 30 ≤ k then pF t n (if vct t n S.1 = -1 then pF t n S 1 else S) 4 else (if vct t n S.1 = -1 then pF t n S 1 else S)) τ36 := by
        have q := hr36.2.2.1
        first
        | (rw [if_pos trivial] at q; rw [if_neg (by omega)]; exact q)
        | (rw [if_neg (fun r => r)] at q; rw [if_pos (by omega)]; exact q)
      have m36 := MX_tr m17 hr36.2.1
      have k36 : τ36.1 261 25 = ((k : Nat) : Int) := (MX_c m36 (by decide)).trans hk.1
      have e36 := q36.1.2.2.2.1.1
      refine zx_aloadN dX10_readsOne_39 rfl rfl ?_
      refine zy_getI fl_RX10_243 rfl dX10_readsOne_40 rfl ?_
      refine zx_if_eq (tgt := 47) (by first | exact hz36 _ _ | assumption | exact zr_b _ | exact zcmp_r _ _ | (unfold zr at *; omega)) dX10_readsOne_43 (by decide) (fun h43 => ?_) (fun h43 => ?_)
      · have hz2 : (if 30 ≤ k then pF t n (if vct t n S.1 = -1 then pF t n S 1 else S) 4 else (if vct t n S.1 = -1 then pF t n S 1 else S)).2.1 = 0 := e36.symm.trans h43
        have hk30 : ¬ 30 ≤ k := fun q => by rw [if_pos q] at hz2; exact absurd hz2 (pF_nz (by decide))
        have hv1 : ¬ vct t n S.1 = -1 := fun q => by rw [if_neg hk30, if_pos q] at hz2; exact absurd hz2 (pF_nz (by decide))
        have qS : PN t n S τ36 := by have q := q36; rw [if_neg hk30, if_neg hv1] at q; exact q
        refine zx_aloadN dX10_readsOne_47 rfl rfl ?_
        refine zy_cvvR [] (sX10_goesPast (S := S) hfl hz36 qS (fun _ => vct_w hv1)) dX10_readsOne_48 (by decide) rfl cw_RX10_272 okX10_goesPast rfl (Nat.le_of_ble_eq_true rfl) ⟨Nat.le_of_ble_eq_true rfl, Nat.le_of_ble_eq_true rfl, Nat.le_of_ble_eq_true rfl, Nat.le_of_ble_eq_true rfl⟩ (fun τ48 hr48 => ?_)
        have hz48 : zOK τ48 := hr48.1
        have q48 : PM t n (pN t n S) τ48 := by have q := hr48.2.2; rw [if_pos z] at q; exact q
        have m48 := MX_tr m36 hr48.2.1
        have k48 : τ48.1 261 25 = ((k : Nat) : Int) := (MX_c m48 (by decide)).trans hk.1
        have hzv : zr (vct t n S.1) := by unfold zr; omega
        have R62 : ∀ i v, Rel D ((zput τ48 270 i v).1 262) := fun i v => mfr_R (MC_p (MC_x (MC_rf _) m48)) (by decide) hR0
        refine zx_aloadN dX10_readsOne_51 rfl rfl ?_
        refine zy_getR (q' := 270) fl_RX10_38 rfl dX10_readsOne_52 rfl ?_
        refine zx_iconst dX10_readsOne_55 ?_
        refine zx_aloadN dX10_readsOne_56 rfl rfl ?_
        refine zy_getI fl_RX10_366 rfl dX10_readsOne_57 rfl ?_
        refine zy_top (b := ((k : Nat) : Int)) (k48) ?_
        refine zx_imul dX10_readsOne_60 ?_
        refine zy_top (b := ((5 * k : Nat) : Int)) (by omega) ?_
        refine zx_iloadN dX10_readsOne_61 rfl rfl ?_
        refine zy_iast (i := 5 * k) rfl (by decide) (by decide) dX10_readsOne_62 (by omega) (by omega) rfl ?_
        refine zx_aloadN dX10_readsOne_63 rfl rfl ?_
        refine zx_iloadN dX10_readsOne_64 rfl rfl ?_
        refine zx_iconst dX10_readsOne_65 ?_
        refine zx_aloadN dX10_readsOne_66 rfl rfl ?_
        refine zy_getI (v := τ48.1 261 25) fl_RX10_366 rfl dX10_readsOne_67 (zput_k _ _ _ _ _ (by omega)) ?_
        refine zy_top (b := ((k : Nat) : Int)) (k48) ?_
        refine zx_imul dX10_readsOne_70 ?_
        refine zy_top (b := ((5 * k : Nat) : Int)) (by omega) ?_
        refine zx_iconst dX10_readsOne_71 ?_
        refine zx_iadd dX10_readsOne_72 ?_
        refine zy_top (b := ((5 * k + 1 : Nat) : Int)) (by omega) ?_
        by_cases hb73 : (vct t n S.1) = 0
        · refine zy_cvvR [zi (vct t n S.1), zi ((5 * k + 1 : Nat) : Int)] (sX10_partsOf_0 (D := D) (S := (pN t n S)) (to := (5 * k + 1)) hfl (zOK_put hz48 (by first | exact hz48 _ _ | assumption | exact zr_b _ | exact zcmp_r _ _ | (unfold zr at *; omega))) (by first | assumption | omega) (R62 _ _) (PM_put q48) (by omega) (by omega)) dX10_readsOne_73 (by decide) rfl cw_RX10_369 okX10_partsOf rfl (Nat.le_of_ble_eq_true rfl) ⟨Nat.le_of_ble_eq_true rfl, Nat.le_of_ble_eq_true rfl, Nat.le_of_ble_eq_true rfl, Nat.le_of_ble_eq_true rfl⟩ (fun τ73 hr73 => ?_)
          have hz73 : zOK τ73 := hr73.1
          have k73 : τ73.1 261 25 = ((k : Nat) : Int) := (hr73.2.1.2.1 25 (by omega)).trans ((zput_k _ _ _ _ _ (by decide)).trans k48)
          refine zx_aloadN dX10_readsOne_76 rfl rfl ?_
          refine zx_dup rfl dX10_readsOne_77 ?_
          refine zy_getI fl_RX10_366 rfl dX10_readsOne_78 rfl ?_
          refine zy_top (b := ((k : Nat) : Int)) (k73) ?_
          refine zx_iconst dX10_readsOne_81 ?_
          refine zx_iadd dX10_readsOne_82 ?_
          refine zx_putI fl_RX10_366 rfl (Or.inl fp_10_25) dX10_readsOne_83 ?_
          refine zx_aloadN dX10_readsOne_86 rfl rfl ?_
          refine zy_cvvR [] (sX10_semicolon (S := (cP t n (vct t n S.1) D (pN t n S))) hfl (zOK_put hz73 (by first | exact hz73 _ _ | assumption | exact zr_b _ | exact zcmp_r _ _ | (unfold zr at *; omega))) (PM_25 (by decide) hr73.2.2.2.1)) dX10_readsOne_87 (by decide) rfl cw_RX10_297 okX10_semicolon rfl (Nat.le_of_ble_eq_true rfl) ⟨Nat.le_of_ble_eq_true rfl, Nat.le_of_ble_eq_true rfl, Nat.le_of_ble_eq_true rfl, Nat.le_of_ble_eq_true rfl⟩ (fun τ87 hr87 => ?_)
          have hz87 : zOK τ87 := hr87.1
          refine zx_vret rfl dX10_readsOne_90 ?_
          rw [hQ]
          refine ⟨rfl, ?_⟩
          first
          | (have hcn : (if 30 ≤ k then pF t n (if vct t n S.1 = -1 then pF t n S 1 else S) 4 else (if vct t n S.1 = -1 then pF t n S 1 else S)) = cN t n D k S := by
               unfold cN
               first
               | (rw [if_pos h8, if_pos h8]
                  by_cases q : 30 ≤ k
                  · rw [if_pos q, pF_n (pF_nz (by decide))]
                  · rw [if_neg q])
               | (rw [if_neg h8, if_neg h8]
                  by_cases q : 30 ≤ k
                  · rw [if_pos q, if_pos q]
                  · exfalso; rw [if_neg h8, if_neg q] at e36; exact h43 (e36.trans z))
             exact ⟨hz87, MC_x (MC_rf _) m36, fun i _ => MX_270 m36 i, hcn ▸ q36.1, fun q => absurd (e36.trans ((congrArg (fun s : zP => s.2.1) hcn).trans q)) h43⟩)
          | (have hcn : pSem t n (cP t n (vct t n S.1) D (pN t n S)) = cN t n D k S := by
               unfold cN; rw [if_neg hv1, if_neg hk30]; exact cP_s
             have c270 : ∀ i, τ87.1 270 i = τ73.1 270 i := fun i => (MX_270 hr87.2.1 i).trans (zput_k _ _ _ _ _ (by decide))
             refine ⟨hz87, MC_x (MC_q (MC_t (MC_p (MC_x (MC_rf _) m48)) hr73.2.1)) hr87.2.1, fun i hi => ?_, hcn ▸ hr87.2.2, fun q => ?_⟩
             · rw [c270, hr73.2.2.1 i (by omega), zput_i _ _ _ _ _ (by omega)]; exact MX_270 m48 i
             · rw [← hcn] at q
               have hp := hr73.2.2.2.2 (pSem_s q).1
               refine ⟨(MX_c hr87.2.1 (by decide)).trans ((zput_s _ _ _ _).trans (by omega)), ?_, ?_, fun c => ?_, fun c => ?_, fun c => ?_⟩
               · rw [c270, hr73.2.2.1 (5 * k) (by omega)]; exact zput_s _ _ _ _
               · rw [c270]; exact hp.1
               · rw [c270]; exact hp.2.1 c
               · rw [c270]; exact hp.2.2.1 c
               · rw [c270]; exact hp.2.2.2 c)
        · by_cases hb73b : (vct t n S.1) = 1
          · refine zy_cvvR [zi (vct t n S.1), zi ((5 * k + 1 : Nat) : Int)] (sX10_partsOf_1 (D := D) (S := (pN t n S)) (to := (5 * k + 1)) hfl (zOK_put hz48 (by first | exact hz48 _ _ | assumption | exact zr_b _ | exact zcmp_r _ _ | (unfold zr at *; omega))) (by first | assumption | omega) (R62 _ _) (PM_put q48) (by omega) (by omega)) dX10_readsOne_73 (by decide) rfl cw_RX10_369 okX10_partsOf rfl (Nat.le_of_ble_eq_true rfl) ⟨Nat.le_of_ble_eq_true rfl, Nat.le_of_ble_eq_true rfl, Nat.le_of_ble_eq_true rfl, Nat.le_of_ble_eq_true rfl⟩ (fun τ73 hr73 => ?_)
            have hz73 : zOK τ73 := hr73.1
            have k73 : τ73.1 261 25 = ((k : Nat) : Int) := (hr73.2.1.2.1 25 (by omega)).trans ((zput_k _ _ _ _ _ (by decide)).trans k48)
            refine zx_aloadN dX10_readsOne_76 rfl rfl ?_
            refine zx_dup rfl dX10_readsOne_77 ?_
            refine zy_getI fl_RX10_366 rfl dX10_readsOne_78 rfl ?_
            refine zy_top (b := ((k : Nat) : Int)) (k73) ?_
            refine zx_iconst dX10_readsOne_81 ?_
            refine zx_iadd dX10_readsOne_82 ?_
            refine zx_putI fl_RX10_366 rfl (Or.inl fp_10_25) dX10_readsOne_83 ?_
            refine zx_aloadN dX10_readsOne_86 rfl rfl ?_
            refine zy_cvvR [] (sX10_semicolon (S := (cP t n (vct t n S.1) D (pN t n S))) hfl (zOK_put hz73 (by first | exact hz73 _ _ | assumption | exact zr_b _ | exact zcmp_r _ _ | (unfold zr at *; omega))) (PM_25 (by decide) hr73.2.2.2.1)) dX10_readsOne_87 (by decide) rfl cw_RX10_297 okX10_semicolon rfl (Nat.le_of_ble_eq_true rfl) ⟨Nat.le_of_ble_eq_true rfl, Nat.le_of_ble_eq_true rfl, Nat.le_of_ble_eq_true rfl, Nat.le_of_ble_eq_true rfl⟩ (fun τ87 hr87 => ?_)
            have hz87 : zOK τ87 := hr87.1
            refine zx_vret rfl dX10_readsOne_90 ?_
            rw [hQ]
            refine ⟨rfl, ?_⟩
            first
            | (have hcn : (if 30 ≤ k then pF t n (if vct t n S.1 = -1 then pF t n S 1 else S) 4 else (if vct t n S.1 = -1 then pF t n S 1 else S)) = cN t n D k S := by
                 unfold cN
                 first
                 | (rw [if_pos h8, if_pos h8]
                    by_cases q : 30 ≤ k
                    · rw [if_pos q, pF_n (pF_nz (by decide))]
                    · rw [if_neg q])
                 | (rw [if_neg h8, if_neg h8]
                    by_cases q : 30 ≤ k
                    · rw [if_pos q, if_pos q]
                    · exfalso; rw [if_neg h8, if_neg q] at e36; exact h43 (e36.trans z))
               exact ⟨hz87, MC_x (MC_rf _) m36, fun i _ => MX_270 m36 i, hcn ▸ q36.1, fun q => absurd (e36.trans ((congrArg (fun s : zP => s.2.1) hcn).trans q)) h43⟩)
            | (have hcn : pSem t n (cP t n (vct t n S.1) D (pN t n S)) = cN t n D k S := by
                 unfold cN; rw [if_neg hv1, if_neg hk30]; exact cP_s
               have c270 : ∀ i, τ87.1 270 i = τ73.1 270 i := fun i => (MX_270 hr87.2.1 i).trans (zput_k _ _ _ _ _ (by decide))
               refine ⟨hz87, MC_x (MC_q (MC_t (MC_p (MC_x (MC_rf _) m48)) hr73.2.1)) hr87.2.1, fun i hi => ?_, hcn ▸ hr87.2.2, fun q => ?_⟩
               · rw [c270, hr73.2.2.1 i (by omega), zput_i _ _ _ _ _ (by omega)]; exact MX_270 m48 i
               · rw [← hcn] at q
                 have hp := hr73.2.2.2.2 (pSem_s q).1
                 refine ⟨(MX_c hr87.2.1 (by decide)).trans ((zput_s _ _ _ _).trans (by omega)), ?_, ?_, fun c => ?_, fun c => ?_, fun c => ?_⟩
                 · rw [c270, hr73.2.2.1 (5 * k) (by omega)]; exact zput_s _ _ _ _
                 · rw [c270]; exact hp.1
                 · rw [c270]; exact hp.2.1 c
                 · rw [c270]; exact hp.2.2.1 c
                 · rw [c270]; exact hp.2.2.2 c)
          · by_cases hb73bb : (vct t n S.1) = 2
            · refine zy_cvvR [zi (vct t n S.1), zi ((5 * k + 1 : Nat) : Int)] (sX10_partsOf_2 (D := D) (S := (pN t n S)) (to := (5 * k + 1)) hfl (zOK_put hz48 (by first | exact hz48 _ _ | assumption | exact zr_b _ | exact zcmp_r _ _ | (unfold zr at *; omega))) (by first | assumption | omega) (R62 _ _) (PM_put q48) (by omega) (by omega)) dX10_readsOne_73 (by decide) rfl cw_RX10_369 okX10_partsOf rfl (Nat.le_of_ble_eq_true rfl) ⟨Nat.le_of_ble_eq_true rfl, Nat.le_of_ble_eq_true rfl, Nat.le_of_ble_eq_true rfl, Nat.le_of_ble_eq_true rfl⟩ (fun τ73 hr73 => ?_)
              have hz73 : zOK τ73 := hr73.1
              have k73 : τ73.1 261 25 = ((k : Nat) : Int) := (hr73.2.1.2.1 25 (by omega)).trans ((zput_k _ _ _ _ _ (by decide)).trans k48)
              refine zx_aloadN dX10_readsOne_76 rfl rfl ?_
              refine zx_dup rfl dX10_readsOne_77 ?_
              refine zy_getI fl_RX10_366 rfl dX10_readsOne_78 rfl ?_
              refine zy_top (b := ((k : Nat) : Int)) (k73) ?_
              refine zx_iconst dX10_readsOne_81 ?_
              refine zx_iadd dX10_readsOne_82 ?_
              refine zx_putI fl_RX10_366 rfl (Or.inl fp_10_25) dX10_readsOne_83 ?_
              refine zx_aloadN dX10_readsOne_86 rfl rfl ?_
              refine zy_cvvR [] (sX10_semicolon (S := (cP t n (vct t n S.1) D (pN t n S))) hfl (zOK_put hz73 (by first | exact hz73 _ _ | assumption | exact zr_b _ | exact zcmp_r _ _ | (unfold zr at *; omega))) (PM_25 (by decide) hr73.2.2.2.1)) dX10_readsOne_87 (by decide) rfl cw_RX10_297 okX10_semicolon rfl (Nat.le_of_ble_eq_true rfl) ⟨Nat.le_of_ble_eq_true rfl, Nat.le_of_ble_eq_true rfl, Nat.le_of_ble_eq_true rfl, Nat.le_of_ble_eq_true rfl⟩ (fun τ87 hr87 => ?_)
              have hz87 : zOK τ87 := hr87.1
              refine zx_vret rfl dX10_readsOne_90 ?_
              rw [hQ]
              refine ⟨rfl, ?_⟩
              first
              | (have hcn : (if 30 ≤ k then pF t n (if vct t n S.1 = -1 then pF t n S 1 else S) 4 else (if vct t n S.1 = -1 then pF t n S 1 else S)) = cN t n D k S := by
                   unfold cN
                   first
                   | (rw [if_pos h8, if_pos h8]
                      by_cases q : 30 ≤ k
                      · rw [if_pos q, pF_n (pF_nz (by decide))]
                      · rw [if_neg q])
                   | (rw [if_neg h8, if_neg h8]
                      by_cases q : 30 ≤ k
                      · rw [if_pos q, if_pos q]
                      · exfalso; rw [if_neg h8, if_neg q] at e36; exact h43 (e36.trans z))
                 exact ⟨hz87, MC_x (MC_rf _) m36, fun i _ => MX_270 m36 i, hcn ▸ q36.1, fun q => absurd (e36.trans ((congrArg (fun s : zP => s.2.1) hcn).trans q)) h43⟩)
              | (have hcn : pSem t n (cP t n (vct t n S.1) D (pN t n S)) = cN t n D k S := by
                   unfold cN; rw [if_neg hv1, if_neg hk30]; exact cP_s
                 have c270 : ∀ i, τ87.1 270 i = τ73.1 270 i := fun i => (MX_270 hr87.2.1 i).trans (zput_k _ _ _ _ _ (by decide))
                 refine ⟨hz87, MC_x (MC_q (MC_t (MC_p (MC_x (MC_rf _) m48)) hr73.2.1)) hr87.2.1, fun i hi => ?_, hcn ▸ hr87.2.2, fun q => ?_⟩
                 · rw [c270, hr73.2.2.1 i (by omega), zput_i _ _ _ _ _ (by omega)]; exact MX_270 m48 i
                 · rw [← hcn] at q
                   have hp := hr73.2.2.2.2 (pSem_s q).1
                   refine ⟨(MX_c hr87.2.1 (by decide)).trans ((zput_s _ _ _ _).trans (by omega)), ?_, ?_, fun c => ?_, fun c => ?_, fun c => ?_⟩
                   · rw [c270, hr73.2.2.1 (5 * k) (by omega)]; exact zput_s _ _ _ _
                   · rw [c270]; exact hp.1
                   · rw [c270]; exact hp.2.1 c
                   · rw [c270]; exact hp.2.2.1 c
                   · rw [c270]; exact hp.2.2.2 c)
            · by_cases hb73bbb : (vct t n S.1) = 3
              · refine zy_cvvR [zi (vct t n S.1), zi ((5 * k + 1 : Nat) : Int)] (sX10_partsOf_3 (D := D) (S := (pN t n S)) (to := (5 * k + 1)) hfl (zOK_put hz48 (by first | exact hz48 _ _ | assumption | exact zr_b _ | exact zcmp_r _ _ | (unfold zr at *; omega))) (by first | assumption | omega) (R62 _ _) (PM_put q48) (by omega) (by omega)) dX10_readsOne_73 (by decide) rfl cw_RX10_369 okX10_partsOf rfl (Nat.le_of_ble_eq_true rfl) ⟨Nat.le_of_ble_eq_true rfl, Nat.le_of_ble_eq_true rfl, Nat.le_of_ble_eq_true rfl, Nat.le_of_ble_eq_true rfl⟩ (fun τ73 hr73 => ?_)
                have hz73 : zOK τ73 := hr73.1
                have k73 : τ73.1 261 25 = ((k : Nat) : Int) := (hr73.2.1.2.1 25 (by omega)).trans ((zput_k _ _ _ _ _ (by decide)).trans k48)
                refine zx_aloadN dX10_readsOne_76 rfl rfl ?_
                refine zx_dup rfl dX10_readsOne_77 ?_
                refine zy_getI fl_RX10_366 rfl dX10_readsOne_78 rfl ?_
                refine zy_top (b := ((k : Nat) : Int)) (k73) ?_
                refine zx_iconst dX10_readsOne_81 ?_
                refine zx_iadd dX10_readsOne_82 ?_
                refine zx_putI fl_RX10_366 rfl (Or.inl fp_10_25) dX10_readsOne_83 ?_
                refine zx_aloadN dX10_readsOne_86 rfl rfl ?_
                refine zy_cvvR [] (sX10_semicolon (S := (cP t n (vct t n S.1) D (pN t n S))) hfl (zOK_put hz73 (by first | exact hz73 _ _ | assumption | exact zr_b _ | exact zcmp_r _ _ | (unfold zr at *; omega))) (PM_25 (by decide) hr73.2.2.2.1)) dX10_readsOne_87 (by decide) rfl cw_RX10_297 okX10_semicolon rfl (Nat.le_of_ble_eq_true rfl) ⟨Nat.le_of_ble_eq_true rfl, Nat.le_of_ble_eq_true rfl, Nat.le_of_ble_eq_true rfl, Nat.le_of_ble_eq_true rfl⟩ (fun τ87 hr87 => ?_)
                have hz87 : zOK τ87 := hr87.1
                refine zx_vret rfl dX10_readsOne_90 ?_
                rw [hQ]
                refine ⟨rfl, ?_⟩
                first
                | (have hcn : (if 30 ≤ k then pF t n (if vct t n S.1 = -1 then pF t n S 1 else S) 4 else (if vct t n S.1 = -1 then pF t n S 1 else S)) = cN t n D k S := by
                     unfold cN
                     first
                     | (rw [if_pos h8, if_pos h8]
                        by_cases q : 30 ≤ k
                        · rw [if_pos q, pF_n (pF_nz (by decide))]
                        · rw [if_neg q])
                     | (rw [if_neg h8, if_neg h8]
                        by_cases q : 30 ≤ k
                        · rw [if_pos q, if_pos q]
                        · exfalso; rw [if_neg h8, if_neg q] at e36; exact h43 (e36.trans z))
                   exact ⟨hz87, MC_x (MC_rf _) m36, fun i _ => MX_270 m36 i, hcn ▸ q36.1, fun q => absurd (e36.trans ((congrArg (fun s : zP => s.2.1) hcn).trans q)) h43⟩)
                | (have hcn : pSem t n (cP t n (vct t n S.1) D (pN t n S)) = cN t n D k S := by
                     unfold cN; rw [if_neg hv1, if_neg hk30]; exact cP_s
                   have c270 : ∀ i, τ87.1 270 i = τ73.1 270 i := fun i => (MX_270 hr87.2.1 i).trans (zput_k _ _ _ _ _ (by decide))
                   refine ⟨hz87, MC_x (MC_q (MC_t (MC_p (MC_x (MC_rf _) m48)) hr73.2.1)) hr87.2.1, fun i hi => ?_, hcn ▸ hr87.2.2, fun q => ?_⟩
                   · rw [c270, hr73.2.2.1 i (by omega), zput_i _ _ _ _ _ (by omega)]; exact MX_270 m48 i
                   · rw [← hcn] at q
                     have hp := hr73.2.2.2.2 (pSem_s q).1
                     refine ⟨(MX_c hr87.2.1 (by decide)).trans ((zput_s _ _ _ _).trans (by omega)), ?_, ?_, fun c => ?_, fun c => ?_, fun c => ?_⟩
                     · rw [c270, hr73.2.2.1 (5 * k) (by omega)]; exact zput_s _ _ _ _
                     · rw [c270]; exact hp.1
                     · rw [c270]; exact hp.2.1 c
                     · rw [c270]; exact hp.2.2.1 c
                     · rw [c270]; exact hp.2.2.2 c)
              · by_cases hb73bbbb : (vct t n S.1) = 4
                · refine zy_cvvR [zi (vct t n S.1), zi ((5 * k + 1 : Nat) : Int)] (sX10_partsOf_4 (D := D) (S := (pN t n S)) (to := (5 * k + 1)) hfl (zOK_put hz48 (by first | exact hz48 _ _ | assumption | exact zr_b _ | exact zcmp_r _ _ | (unfold zr at *; omega))) (by first | assumption | omega) (R62 _ _) (PM_put q48) (by omega) (by omega)) dX10_readsOne_73 (by decide) rfl cw_RX10_369 okX10_partsOf rfl (Nat.le_of_ble_eq_true rfl) ⟨Nat.le_of_ble_eq_true rfl, Nat.le_of_ble_eq_true rfl, Nat.le_of_ble_eq_true rfl, Nat.le_of_ble_eq_true rfl⟩ (fun τ73 hr73 => ?_)
                  have hz73 : zOK τ73 := hr73.1
                  have k73 : τ73.1 261 25 = ((k : Nat) : Int) := (hr73.2.1.2.1 25 (by omega)).trans ((zput_k _ _ _ _ _ (by decide)).trans k48)
                  refine zx_aloadN dX10_readsOne_76 rfl rfl ?_
                  refine zx_dup rfl dX10_readsOne_77 ?_
                  refine zy_getI fl_RX10_366 rfl dX10_readsOne_78 rfl ?_
                  refine zy_top (b := ((k : Nat) : Int)) (k73) ?_
                  refine zx_iconst dX10_readsOne_81 ?_
                  refine zx_iadd dX10_readsOne_82 ?_
                  refine zx_putI fl_RX10_366 rfl (Or.inl fp_10_25) dX10_readsOne_83 ?_
                  refine zx_aloadN dX10_readsOne_86 rfl rfl ?_
                  refine zy_cvvR [] (sX10_semicolon (S := (cP t n (vct t n S.1) D (pN t n S))) hfl (zOK_put hz73 (by first | exact hz73 _ _ | assumption | exact zr_b _ | exact zcmp_r _ _ | (unfold zr at *; omega))) (PM_25 (by decide) hr73.2.2.2.1)) dX10_readsOne_87 (by decide) rfl cw_RX10_297 okX10_semicolon rfl (Nat.le_of_ble_eq_true rfl) ⟨Nat.le_of_ble_eq_true rfl, Nat.le_of_ble_eq_true rfl, Nat.le_of_ble_eq_true rfl, Nat.le_of_ble_eq_true rfl⟩ (fun τ87 hr87 => ?_)
                  have hz87 : zOK τ87 := hr87.1
                  refine zx_vret rfl dX10_readsOne_90 ?_
                  rw [hQ]
                  refine ⟨rfl, ?_⟩
                  first
                  | (have hcn : (if 30 ≤ k then pF t n (if vct t n S.1 = -1 then pF t n S 1 else S) 4 else (if vct t n S.1 = -1 then pF t n S 1 else S)) = cN t n D k S := by
                       unfold cN
                       first
                       | (rw [if_pos h8, if_pos h8]
                          by_cases q : 30 ≤ k
                          · rw [if_pos q, pF_n (pF_nz (by decide))]
                          · rw [if_neg q])
                       | (rw [if_neg h8, if_neg h8]
                          by_cases q : 30 ≤ k
                          · rw [if_pos q, if_pos q]
                          · exfalso; rw [if_neg h8, if_neg q] at e36; exact h43 (e36.trans z))
                     exact ⟨hz87, MC_x (MC_rf _) m36, fun i _ => MX_270 m36 i, hcn ▸ q36.1, fun q => absurd (e36.trans ((congrArg (fun s : zP => s.2.1) hcn).trans q)) h43⟩)
                  | (have hcn : pSem t n (cP t n (vct t n S.1) D (pN t n S)) = cN t n D k S := by
                       unfold cN; rw [if_neg hv1, if_neg hk30]; exact cP_s
                     have c270 : ∀ i, τ87.1 270 i = τ73.1 270 i := fun i => (MX_270 hr87.2.1 i).trans (zput_k _ _ _ _ _ (by decide))
                     refine ⟨hz87, MC_x (MC_q (MC_t (MC_p (MC_x (MC_rf _) m48)) hr73.2.1)) hr87.2.1, fun i hi => ?_, hcn ▸ hr87.2.2, fun q => ?_⟩
                     · rw [c270, hr73.2.2.1 i (by omega), zput_i _ _ _ _ _ (by omega)]; exact MX_270 m48 i
                     · rw [← hcn] at q
                       have hp := hr73.2.2.2.2 (pSem_s q).1
                       refine ⟨(MX_c hr87.2.1 (by decide)).trans ((zput_s _ _ _ _).trans (by omega)), ?_, ?_, fun c => ?_, fun c => ?_, fun c => ?_⟩
                       · rw [c270, hr73.2.2.1 (5 * k) (by omega)]; exact zput_s _ _ _ _
                       · rw [c270]; exact hp.1
                       · rw [c270]; exact hp.2.1 c
                       · rw [c270]; exact hp.2.2.1 c
                       · rw [c270]; exact hp.2.2.2 c)
                · refine zy_cvvR [zi (vct t n S.1), zi ((5 * k + 1 : Nat) : Int)] (sX10_partsOf_5 (D := D) (S := (pN t n S)) (to := (5 * k + 1)) hfl (zOK_put hz48 (by first | exact hz48 _ _ | assumption | exact zr_b _ | exact zcmp_r _ _ | (unfold zr at *; omega))) (by first | assumption | omega) (R62 _ _) (PM_put q48) (by omega) (by omega)) dX10_readsOne_73 (by decide) rfl cw_RX10_369 okX10_partsOf rfl (Nat.le_of_ble_eq_true rfl) ⟨Nat.le_of_ble_eq_true rfl, Nat.le_of_ble_eq_true rfl, Nat.le_of_ble_eq_true rfl, Nat.le_of_ble_eq_true rfl⟩ (fun τ73 hr73 => ?_)
                  have hz73 : zOK τ73 := hr73.1
                  have k73 : τ73.1 261 25 = ((k : Nat) : Int) := (hr73.2.1.2.1 25 (by omega)).trans ((zput_k _ _ _ _ _ (by decide)).trans k48)
                  refine zx_aloadN dX10_readsOne_76 rfl rfl ?_
                  refine zx_dup rfl dX10_readsOne_77 ?_
                  refine zy_getI fl_RX10_366 rfl dX10_readsOne_78 rfl ?_
                  refine zy_top (b := ((k : Nat) : Int)) (k73) ?_
                  refine zx_iconst dX10_readsOne_81 ?_
                  refine zx_iadd dX10_readsOne_82 ?_
                  refine zx_putI fl_RX10_366 rfl (Or.inl fp_10_25) dX10_readsOne_83 ?_
                  refine zx_aloadN dX10_readsOne_86 rfl rfl ?_
                  refine zy_cvvR [] (sX10_semicolon (S := (cP t n (vct t n S.1) D (pN t n S))) hfl (zOK_put hz73 (by first | exact hz73 _ _ | assumption | exact zr_b _ | exact zcmp_r _ _ | (unfold zr at *; omega))) (PM_25 (by decide) hr73.2.2.2.1)) dX10_readsOne_87 (by decide) rfl cw_RX10_297 okX10_semicolon rfl (Nat.le_of_ble_eq_true rfl) ⟨Nat.le_of_ble_eq_true rfl, Nat.le_of_ble_eq_true rfl, Nat.le_of_ble_eq_true rfl, Nat.le_of_ble_eq_true rfl⟩ (fun τ87 hr87 => ?_)
                  have hz87 : zOK τ87 := hr87.1
                  refine zx_vret rfl dX10_readsOne_90 ?_
                  rw [hQ]
                  refine ⟨rfl, ?_⟩
                  first
                  | (have hcn : (if 30 ≤ k then pF t n (if vct t n S.1 = -1 then pF t n S 1 else S) 4 else (if vct t n S.1 = -1 then pF t n S 1 else S)) = cN t n D k S := by
                       unfold cN
                       first
                       | (rw [if_pos h8, if_pos h8]
                          by_cases q : 30 ≤ k
                          · rw [if_pos q, pF_n (pF_nz (by decide))]
                          · rw [if_neg q])
                       | (rw [if_neg h8, if_neg h8]
                          by_cases q : 30 ≤ k
                          · rw [if_pos q, if_pos q]
                          · exfalso; rw [if_neg h8, if_neg q] at e36; exact h43 (e36.trans z))
                     exact ⟨hz87, MC_x (MC_rf _) m36, fun i _ => MX_270 m36 i, hcn ▸ q36.1, fun q => absurd (e36.trans ((congrArg (fun s : zP => s.2.1) hcn).trans q)) h43⟩)
                  | (have hcn : pSem t n (cP t n (vct t n S.1) D (pN t n S)) = cN t n D k S := by
                       unfold cN; rw [if_neg hv1, if_neg hk30]; exact cP_s
                     have c270 : ∀ i, τ87.1 270 i = τ73.1 270 i := fun i => (MX_270 hr87.2.1 i).trans (zput_k _ _ _ _ _ (by decide))
                     refine ⟨hz87, MC_x (MC_q (MC_t (MC_p (MC_x (MC_rf _) m48)) hr73.2.1)) hr87.2.1, fun i hi => ?_, hcn ▸ hr87.2.2, fun q => ?_⟩
                     · rw [c270, hr73.2.2.1 i (by omega), zput_i _ _ _ _ _ (by omega)]; exact MX_270 m48 i
                     · rw [← hcn] at q
                       have hp := hr73.2.2.2.2 (pSem_s q).1
                       refine ⟨(MX_c hr87.2.1 (by decide)).trans ((zput_s _ _ _ _).trans (by omega)), ?_, ?_, fun c => ?_, fun c => ?_, fun c => ?_⟩
                       · rw [c270, hr73.2.2.1 (5 * k) (by omega)]; exact zput_s _ _ _ _
                       · rw [c270]; exact hp.1
                       · rw [c270]; exact hp.2.1 c
                       · rw [c270]; exact hp.2.2.1 c
                       · rw [c270]; exact hp.2.2.2 c)
      · refine zx_vret rfl dX10_readsOne_46 ?_
        rw [hQ]
        refine ⟨rfl, ?_⟩
        first
        | (have hcn : (if 30 ≤ k then pF t n (if vct t n S.1 = -1 then pF t n S 1 else S) 4 else (if vct t n S.1 = -1 then pF t n S 1 else S)) = cN t n D k S := by
             unfold cN
             first
             | (rw [if_pos h8, if_pos h8]
                by_cases q : 30 ≤ k
                · rw [if_pos q, pF_n (pF_nz (by decide))]
                · rw [if_neg q])
             | (rw [if_neg h8, if_neg h8]
                by_cases q : 30 ≤ k
                · rw [if_pos q, if_pos q]
                · exfalso; rw [if_neg h8, if_neg q] at e36; exact h43 (e36.trans z))
           exact ⟨hz36, MC_x (MC_rf _) m36, fun i _ => MX_270 m36 i, hcn ▸ q36.1, fun q => absurd (e36.trans ((congrArg (fun s : zP => s.2.1) hcn).trans q)) h43⟩)
        | (have hcn : pSem t n (cP t n (vct t n S.1) D (pN t n S)) = cN t n D k S := by
             unfold cN; rw [if_neg hv1, if_neg hk30]; exact cP_s
           have c270 : ∀ i, τ87.1 270 i = τ73.1 270 i := fun i => (MX_270 hr87.2.1 i).trans (zput_k _ _ _ _ _ (by decide))
           refine ⟨hz36, MC_x (MC_q (MC_t (MC_p (MC_x (MC_rf _) m48)) hr73.2.1)) hr87.2.1, fun i hi => ?_, hcn ▸ hr87.2.2, fun q => ?_⟩
           · rw [c270, hr73.2.2.1 i (by omega), zput_i _ _ _ _ _ (by omega)]; exact MX_270 m48 i
           · rw [← hcn] at q
             have hp := hr73.2.2.2.2 (pSem_s q).1
             refine ⟨(MX_c hr87.2.1 (by decide)).trans ((zput_s _ _ _ _).trans (by omega)), ?_, ?_, fun c => ?_, fun c => ?_, fun c => ?_⟩
             · rw [c270, hr73.2.2.1 (5 * k) (by omega)]; exact zput_s _ _ _ _
             · rw [c270]; exact hp.1
             · rw [c270]; exact hp.2.1 c
             · rw [c270]; exact hp.2.2.1 c
             · rw [c270]; exact hp.2.2.2 c)
    · refine zx_iconst dX10_readsOne_30 ?_
      refine zx_goto (tgt := 35) dX10_readsOne_31 (by decide) ?_
      refine zy_top (b := zb True) (zb_t trivial).symm ?_
      refine zx_iconst dX10_readsOne_35 ?_
      refine zy_cvvR [zi (zb True), zi 4] (sX10_must (S := (if vct t n S.1 = -1 then pF t n S 1 else S)) (A := True) hfl hz17 q17 (by omega)) dX10_readsOne_36 (by decide) rfl cw_RX10_252 okX10_must rfl (Nat.le_of_ble_eq_true rfl) ⟨Nat.le_of_ble_eq_true rfl, Nat.le_of_ble_eq_true rfl, Nat.le_of_ble_eq_true rfl, Nat.le_of_ble_eq_true rfl⟩ (fun τ36 hr36 => ?_)
      have hz36 : zOK τ36 := hr36.1
      have q36 : PN t n (if 30 ≤ k then pF t n (if vct t n S.1 = -1 then pF t n S 1 else S) 4 else (if vct t n S.1 = -1 then pF t n S 1 else S)) τ36 := by
        have q := hr36.2.2.1
        first
        | (rw [if_pos trivial] at q; rw [if_neg (by omega)]; exact q)
        | (rw [if_neg (fun r => r)] at q; rw [if_pos (by omega)]; exact q)
      have m36 := MX_tr m17 hr36.2.1
      have k36 : τ36.1 261 25 = ((k : Nat) : Int) := (MX_c m36 (by decide)).trans hk.1
      have e36 := q36.1.2.2.2.1.1
      refine zx_aloadN dX10_readsOne_39 rfl rfl ?_
      refine zy_getI fl_RX10_243 rfl dX10_readsOne_40 rfl ?_
      refine zx_if_eq (tgt := 47) (by first | exact hz36 _ _ | assumption | exact zr_b _ | exact zcmp_r _ _ | (unfold zr at *; omega)) dX10_readsOne_43 (by decide) (fun h43 => ?_) (fun h43 => ?_)
      · have hz2 : (if 30 ≤ k then pF t n (if vct t n S.1 = -1 then pF t n S 1 else S) 4 else (if vct t n S.1 = -1 then pF t n S 1 else S)).2.1 = 0 := e36.symm.trans h43
        have hk30 : ¬ 30 ≤ k := fun q => by rw [if_pos q] at hz2; exact absurd hz2 (pF_nz (by decide))
        have hv1 : ¬ vct t n S.1 = -1 := fun q => by rw [if_neg hk30, if_pos q] at hz2; exact absurd hz2 (pF_nz (by decide))
        have qS : PN t n S τ36 := by have q := q36; rw [if_neg hk30, if_neg hv1] at q; exact q
        refine zx_aloadN dX10_readsOne_47 rfl rfl ?_
        refine zy_cvvR [] (sX10_goesPast (S := S) hfl hz36 qS (fun _ => vct_w hv1)) dX10_readsOne_48 (by decide) rfl cw_RX10_272 okX10_goesPast rfl (Nat.le_of_ble_eq_true rfl) ⟨Nat.le_of_ble_eq_true rfl, Nat.le_of_ble_eq_true rfl, Nat.le_of_ble_eq_true rfl, Nat.le_of_ble_eq_true rfl⟩ (fun τ48 hr48 => ?_)
        have hz48 : zOK τ48 := hr48.1
        have q48 : PM t n (pN t n S) τ48 := by have q := hr48.2.2; rw [if_pos z] at q; exact q
        have m48 := MX_tr m36 hr48.2.1
        have k48 : τ48.1 261 25 = ((k : Nat) : Int) := (MX_c m48 (by decide)).trans hk.1
        have hzv : zr (vct t n S.1) := by unfold zr; omega
        have R62 : ∀ i v, Rel D ((zput τ48 270 i v).1 262) := fun i v => mfr_R (MC_p (MC_x (MC_rf _) m48)) (by decide) hR0
        refine zx_aloadN dX10_readsOne_51 rfl rfl ?_
        refine zy_getR (q' := 270) fl_RX10_38 rfl dX10_readsOne_52 rfl ?_
        refine zx_iconst dX10_readsOne_55 ?_
        refine zx_aloadN dX10_readsOne_56 rfl rfl ?_
        refine zy_getI fl_RX10_366 rfl dX10_readsOne_57 rfl ?_
        refine zy_top (b := ((k : Nat) : Int)) (k48) ?_
        refine zx_imul dX10_readsOne_60 ?_
        refine zy_top (b := ((5 * k : Nat) : Int)) (by omega) ?_
        refine zx_iloadN dX10_readsOne_61 rfl rfl ?_
        refine zy_iast (i := 5 * k) rfl (by decide) (by decide) dX10_readsOne_62 (by omega) (by omega) rfl ?_
        refine zx_aloadN dX10_readsOne_63 rfl rfl ?_
        refine zx_iloadN dX10_readsOne_64 rfl rfl ?_
        refine zx_iconst dX10_readsOne_65 ?_
        refine zx_aloadN dX10_readsOne_66 rfl rfl ?_
        refine zy_getI (v := τ48.1 261 25) fl_RX10_366 rfl dX10_readsOne_67 (zput_k _ _ _ _ _ (by omega)) ?_
        refine zy_top (b := ((k : Nat) : Int)) (k48) ?_
        refine zx_imul dX10_readsOne_70 ?_
        refine zy_top (b := ((5 * k : Nat) : Int)) (by omega) ?_
        refine zx_iconst dX10_readsOne_71 ?_
        refine zx_iadd dX10_readsOne_72 ?_
        refine zy_top (b := ((5 * k + 1 : Nat) : Int)) (by omega) ?_
        by_cases hb73 : (vct t n S.1) = 0
        · refine zy_cvvR [zi (vct t n S.1), zi ((5 * k + 1 : Nat) : Int)] (sX10_partsOf_0 (D := D) (S := (pN t n S)) (to := (5 * k + 1)) hfl (zOK_put hz48 (by first | exact hz48 _ _ | assumption | exact zr_b _ | exact zcmp_r _ _ | (unfold zr at *; omega))) (by first | assumption | omega) (R62 _ _) (PM_put q48) (by omega) (by omega)) dX10_readsOne_73 (by decide) rfl cw_RX10_369 okX10_partsOf rfl (Nat.le_of_ble_eq_true rfl) ⟨Nat.le_of_ble_eq_true rfl, Nat.le_of_ble_eq_true rfl, Nat.le_of_ble_eq_true rfl, Nat.le_of_ble_eq_true rfl⟩ (fun τ73 hr73 => ?_)
          have hz73 : zOK τ73 := hr73.1
          have k73 : τ73.1 261 25 = ((k : Nat) : Int) := (hr73.2.1.2.1 25 (by omega)).trans ((zput_k _ _ _ _ _ (by decide)).trans k48)
          refine zx_aloadN dX10_readsOne_76 rfl rfl ?_
          refine zx_dup rfl dX10_readsOne_77 ?_
          refine zy_getI fl_RX10_366 rfl dX10_readsOne_78 rfl ?_
          refine zy_top (b := ((k : Nat) : Int)) (k73) ?_
          refine zx_iconst dX10_readsOne_81 ?_
          refine zx_iadd dX10_readsOne_82 ?_
          refine zx_putI fl_RX10_366 rfl (Or.inl fp_10_25) dX10_readsOne_83 ?_
          refine zx_aloadN dX10_readsOne_86 rfl rfl ?_
          refine zy_cvvR [] (sX10_semicolon (S := (cP t n (vct t n S.1) D (pN t n S))) hfl (zOK_put hz73 (by first | exact hz73 _ _ | assumption | exact zr_b _ | exact zcmp_r _ _ | (unfold zr at *; omega))) (PM_25 (by decide) hr73.2.2.2.1)) dX10_readsOne_87 (by decide) rfl cw_RX10_297 okX10_semicolon rfl (Nat.le_of_ble_eq_true rfl) ⟨Nat.le_of_ble_eq_true rfl, Nat.le_of_ble_eq_true rfl, Nat.le_of_ble_eq_true rfl, Nat.le_of_ble_eq_true rfl⟩ (fun τ87 hr87 => ?_)
          have hz87 : zOK τ87 := hr87.1
          refine zx_vret rfl dX10_readsOne_90 ?_
          rw [hQ]
          refine ⟨rfl, ?_⟩
          first
          | (have hcn : (if 30 ≤ k then pF t n (if vct t n S.1 = -1 then pF t n S 1 else S) 4 else (if vct t n S.1 = -1 then pF t n S 1 else S)) = cN t n D k S := by
               unfold cN
               first
               | (rw [if_pos h8, if_pos h8]
                  by_cases q : 30 ≤ k
                  · rw [if_pos q, pF_n (pF_nz (by decide))]
                  · rw [if_neg q])
               | (rw [if_neg h8, if_neg h8]
                  by_cases q : 30 ≤ k
                  · rw [if_pos q, if_pos q]
                  · exfalso; rw [if_neg h8, if_neg q] at e36; exact h43 (e36.trans z))
             exact ⟨hz87, MC_x (MC_rf _) m36, fun i _ => MX_270 m36 i, hcn ▸ q36.1, fun q => absurd (e36.trans ((congrArg (fun s : zP => s.2.1) hcn).trans q)) h43⟩)
          | (have hcn : pSem t n (cP t n (vct t n S.1) D (pN t n S)) = cN t n D k S := by
               unfold cN; rw [if_neg hv1, if_neg hk30]; exact cP_s
             have c270 : ∀ i, τ87.1 270 i = τ73.1 270 i := fun i => (MX_270 hr87.2.1 i).trans (zput_k _ _ _ _ _ (by decide))
             refine ⟨hz87, MC_x (MC_q (MC_t (MC_p (MC_x (MC_rf _) m48)) hr73.2.1)) hr87.2.1, fun i hi => ?_, hcn ▸ hr87.2.2, fun q => ?_⟩
             · rw [c270, hr73.2.2.1 i (by omega), zput_i _ _ _ _ _ (by omega)]; exact MX_270 m48 i
             · rw [← hcn] at q
               have hp := hr73.2.2.2.2 (pSem_s q).1
               refine ⟨(MX_c hr87.2.1 (by decide)).trans ((zput_s _ _ _ _).trans (by omega)), ?_, ?_, fun c => ?_, fun c => ?_, fun c => ?_⟩
               · rw [c270, hr73.2.2.1 (5 * k) (by omega)]; exact zput_s _ _ _ _
               · rw [c270]; exact hp.1
               · rw [c270]; exact hp.2.1 c
               · rw [c270]; exact hp.2.2.1 c
               · rw [c270]; exact hp.2.2.2 c)
        · by_cases hb73b : (vct t n S.1) = 1
          · refine zy_cvvR [zi (vct t n S.1), zi ((5 * k + 1 : Nat) : Int)] (sX10_partsOf_1 (D := D) (S := (pN t n S)) (to := (5 * k + 1)) hfl (zOK_put hz48 (by first | exact hz48 _ _ | assumption | exact zr_b _ | exact zcmp_r _ _ | (unfold zr at *; omega))) (by first | assumption | omega) (R62 _ _) (PM_put q48) (by omega) (by omega)) dX10_readsOne_73 (by decide) rfl cw_RX10_369 okX10_partsOf rfl (Nat.le_of_ble_eq_true rfl) ⟨Nat.le_of_ble_eq_true rfl, Nat.le_of_ble_eq_true rfl, Nat.le_of_ble_eq_true rfl, Nat.le_of_ble_eq_true rfl⟩ (fun τ73 hr73 => ?_)
            have hz73 : zOK τ73 := hr73.1
            have k73 : τ73.1 261 25 = ((k : Nat) : Int) := (hr73.2.1.2.1 25 (by omega)).trans ((zput_k _ _ _ _ _ (by decide)).trans k48)
            refine zx_aloadN dX10_readsOne_76 rfl rfl ?_
            refine zx_dup rfl dX10_readsOne_77 ?_
            refine zy_getI fl_RX10_366 rfl dX10_readsOne_78 rfl ?_
            refine zy_top (b := ((k : Nat) : Int)) (k73) ?_
            refine zx_iconst dX10_readsOne_81 ?_
            refine zx_iadd dX10_readsOne_82 ?_
            refine zx_putI fl_RX10_366 rfl (Or.inl fp_10_25) dX10_readsOne_83 ?_
            refine zx_aloadN dX10_readsOne_86 rfl rfl ?_
            refine zy_cvvR [] (sX10_semicolon (S := (cP t n (vct t n S.1) D (pN t n S))) hfl (zOK_put hz73 (by first | exact hz73 _ _ | assumption | exact zr_b _ | exact zcmp_r _ _ | (unfold zr at *; omega))) (PM_25 (by decide) hr73.2.2.2.1)) dX10_readsOne_87 (by decide) rfl cw_RX10_297 okX10_semicolon rfl (Nat.le_of_ble_eq_true rfl) ⟨Nat.le_of_ble_eq_true rfl, Nat.le_of_ble_eq_true rfl, Nat.le_of_ble_eq_true rfl, Nat.le_of_ble_eq_true rfl⟩ (fun τ87 hr87 => ?_)
            have hz87 : zOK τ87 := hr87.1
            refine zx_vret rfl dX10_readsOne_90 ?_
            rw [hQ]
            refine ⟨rfl, ?_⟩
            first
            | (have hcn : (if 30 ≤ k then pF t n (if vct t n S.1 = -1 then pF t n S 1 else S) 4 else (if vct t n S.1 = -1 then pF t n S 1 else S)) = cN t n D k S := by
                 unfold cN
                 first
                 | (rw [if_pos h8, if_pos h8]
                    by_cases q : 30 ≤ k
                    · rw [if_pos q, pF_n (pF_nz (by decide))]
                    · rw [if_neg q])
                 | (rw [if_neg h8, if_neg h8]
                    by_cases q : 30 ≤ k
                    · rw [if_pos q, if_pos q]
                    · exfalso; rw [if_neg h8, if_neg q] at e36; exact h43 (e36.trans z))
               exact ⟨hz87, MC_x (MC_rf _) m36, fun i _ => MX_270 m36 i, hcn ▸ q36.1, fun q => absurd (e36.trans ((congrArg (fun s : zP => s.2.1) hcn).trans q)) h43⟩)
            | (have hcn : pSem t n (cP t n (vct t n S.1) D (pN t n S)) = cN t n D k S := by
                 unfold cN; rw [if_neg hv1, if_neg hk30]; exact cP_s
               have c270 : ∀ i, τ87.1 270 i = τ73.1 270 i := fun i => (MX_270 hr87.2.1 i).trans (zput_k _ _ _ _ _ (by decide))
               refine ⟨hz87, MC_x (MC_q (MC_t (MC_p (MC_x (MC_rf _) m48)) hr73.2.1)) hr87.2.1, fun i hi => ?_, hcn ▸ hr87.2.2, fun q => ?_⟩
               · rw [c270, hr73.2.2.1 i (by omega), zput_i _ _ _ _ _ (by omega)]; exact MX_270 m48 i
               · rw [← hcn] at q
                 have hp := hr73.2.2.2.2 (pSem_s q).1
                 refine ⟨(MX_c hr87.2.1 (by decide)).trans ((zput_s _ _ _ _).trans (by omega)), ?_, ?_, fun c => ?_, fun c => ?_, fun c => ?_⟩
                 · rw [c270, hr73.2.2.1 (5 * k) (by omega)]; exact zput_s _ _ _ _
                 · rw [c270]; exact hp.1
                 · rw [c270]; exact hp.2.1 c
                 · rw [c270]; exact hp.2.2.1 c
                 · rw [c270]; exact hp.2.2.2 c)
          · by_cases hb73bb : (vct t n S.1) = 2
            · refine zy_cvvR [zi (vct t n S.1), zi ((5 * k + 1 : Nat) : Int)] (sX10_partsOf_2 (D := D) (S := (pN t n S)) (to := (5 * k + 1)) hfl (zOK_put hz48 (by first | exact hz48 _ _ | assumption | exact zr_b _ | exact zcmp_r _ _ | (unfold zr at *; omega))) (by first | assumption | omega) (R62 _ _) (PM_put q48) (by omega) (by omega)) dX10_readsOne_73 (by decide) rfl cw_RX10_369 okX10_partsOf rfl (Nat.le_of_ble_eq_true rfl) ⟨Nat.le_of_ble_eq_true rfl, Nat.le_of_ble_eq_true rfl, Nat.le_of_ble_eq_true rfl, Nat.le_of_ble_eq_true rfl⟩ (fun τ73 hr73 => ?_)
              have hz73 : zOK τ73 := hr73.1
              have k73 : τ73.1 261 25 = ((k : Nat) : Int) := (hr73.2.1.2.1 25 (by omega)).trans ((zput_k _ _ _ _ _ (by decide)).trans k48)
              refine zx_aloadN dX10_readsOne_76 rfl rfl ?_
              refine zx_dup rfl dX10_readsOne_77 ?_
              refine zy_getI fl_RX10_366 rfl dX10_readsOne_78 rfl ?_
              refine zy_top (b := ((k : Nat) : Int)) (k73) ?_
              refine zx_iconst dX10_readsOne_81 ?_
              refine zx_iadd dX10_readsOne_82 ?_
              refine zx_putI fl_RX10_366 rfl (Or.inl fp_10_25) dX10_readsOne_83 ?_
              refine zx_aloadN dX10_readsOne_86 rfl rfl ?_
              refine zy_cvvR [] (sX10_semicolon (S := (cP t n (vct t n S.1) D (pN t n S))) hfl (zOK_put hz73 (by first | exact hz73 _ _ | assumption | exact zr_b _ | exact zcmp_r _ _ | (unfold zr at *; omega))) (PM_25 (by decide) hr73.2.2.2.1)) dX10_readsOne_87 (by decide) rfl cw_RX10_297 okX10_semicolon rfl (Nat.le_of_ble_eq_true rfl) ⟨Nat.le_of_ble_eq_true rfl, Nat.le_of_ble_eq_true rfl, Nat.le_of_ble_eq_true rfl, Nat.le_of_ble_eq_true rfl⟩ (fun τ87 hr87 => ?_)
              have hz87 : zOK τ87 := hr87.1
              refine zx_vret rfl dX10_readsOne_90 ?_
              rw [hQ]
              refine ⟨rfl, ?_⟩
              first
              | (have hcn : (if 30 ≤ k then pF t n (if vct t n S.1 = -1 then pF t n S 1 else S) 4 else (if vct t n S.1 = -1 then pF t n S 1 else S)) = cN t n D k S := by
                   unfold cN
                   first
                   | (rw [if_pos h8, if_pos h8]
                      by_cases q : 30 ≤ k
                      · rw [if_pos q, pF_n (pF_nz (by decide))]
                      · rw [if_neg q])
                   | (rw [if_neg h8, if_neg h8]
                      by_cases q : 30 ≤ k
                      · rw [if_pos q, if_pos q]
                      · exfalso; rw [if_neg h8, if_neg q] at e36; exact h43 (e36.trans z))
                 exact ⟨hz87, MC_x (MC_rf _) m36, fun i _ => MX_270 m36 i, hcn ▸ q36.1, fun q => absurd (e36.trans ((congrArg (fun s : zP => s.2.1) hcn).trans q)) h43⟩)
              | (have hcn : pSem t n (cP t n (vct t n S.1) D (pN t n S)) = cN t n D k S := by
                   unfold cN; rw [if_neg hv1, if_neg hk30]; exact cP_s
                 have c270 : ∀ i, τ87.1 270 i = τ73.1 270 i := fun i => (MX_270 hr87.2.1 i).trans (zput_k _ _ _ _ _ (by decide))
                 refine ⟨hz87, MC_x (MC_q (MC_t (MC_p (MC_x (MC_rf _) m48)) hr73.2.1)) hr87.2.1, fun i hi => ?_, hcn ▸ hr87.2.2, fun q => ?_⟩
                 · rw [c270, hr73.2.2.1 i (by omega), zput_i _ _ _ _ _ (by omega)]; exact MX_270 m48 i
                 · rw [← hcn] at q
                   have hp := hr73.2.2.2.2 (pSem_s q).1
                   refine ⟨(MX_c hr87.2.1 (by decide)).trans ((zput_s _ _ _ _).trans (by omega)), ?_, ?_, fun c => ?_, fun c => ?_, fun c => ?_⟩
                   · rw [c270, hr73.2.2.1 (5 * k) (by omega)]; exact zput_s _ _ _ _
                   · rw [c270]; exact hp.1
                   · rw [c270]; exact hp.2.1 c
                   · rw [c270]; exact hp.2.2.1 c
                   · rw [c270]; exact hp.2.2.2 c)
            · by_cases hb73bbb : (vct t n S.1) = 3
              · refine zy_cvvR [zi (vct t n S.1), zi ((5 * k + 1 : Nat) : Int)] (sX10_partsOf_3 (D := D) (S := (pN t n S)) (to := (5 * k + 1)) hfl (zOK_put hz48 (by first | exact hz48 _ _ | assumption | exact zr_b _ | exact zcmp_r _ _ | (unfold zr at *; omega))) (by first | assumption | omega) (R62 _ _) (PM_put q48) (by omega) (by omega)) dX10_readsOne_73 (by decide) rfl cw_RX10_369 okX10_partsOf rfl (Nat.le_of_ble_eq_true rfl) ⟨Nat.le_of_ble_eq_true rfl, Nat.le_of_ble_eq_true rfl, Nat.le_of_ble_eq_true rfl, Nat.le_of_ble_eq_true rfl⟩ (fun τ73 hr73 => ?_)
                have hz73 : zOK τ73 := hr73.1
                have k73 : τ73.1 261 25 = ((k : Nat) : Int) := (hr73.2.1.2.1 25 (by omega)).trans ((zput_k _ _ _ _ _ (by decide)).trans k48)
                refine zx_aloadN dX10_readsOne_76 rfl rfl ?_
                refine zx_dup rfl dX10_readsOne_77 ?_
                refine zy_getI fl_RX10_366 rfl dX10_readsOne_78 rfl ?_
                refine zy_top (b := ((k : Nat) : Int)) (k73) ?_
                refine zx_iconst dX10_readsOne_81 ?_
                refine zx_iadd dX10_readsOne_82 ?_
                refine zx_putI fl_RX10_366 rfl (Or.inl fp_10_25) dX10_readsOne_83 ?_
                refine zx_aloadN dX10_readsOne_86 rfl rfl ?_
                refine zy_cvvR [] (sX10_semicolon (S := (cP t n (vct t n S.1) D (pN t n S))) hfl (zOK_put hz73 (by first | exact hz73 _ _ | assumption | exact zr_b _ | exact zcmp_r _ _ | (unfold zr at *; omega))) (PM_25 (by decide) hr73.2.2.2.1)) dX10_readsOne_87 (by decide) rfl cw_RX10_297 okX10_semicolon rfl (Nat.le_of_ble_eq_true rfl) ⟨Nat.le_of_ble_eq_true rfl, Nat.le_of_ble_eq_true rfl, Nat.le_of_ble_eq_true rfl, Nat.le_of_ble_eq_true rfl⟩ (fun τ87 hr87 => ?_)
                have hz87 : zOK τ87 := hr87.1
                refine zx_vret rfl dX10_readsOne_90 ?_
                rw [hQ]
                refine ⟨rfl, ?_⟩
                first
                | (have hcn : (if 30 ≤ k then pF t n (if vct t n S.1 = -1 then pF t n S 1 else S) 4 else (if vct t n S.1 = -1 then pF t n S 1 else S)) = cN t n D k S := by
                     unfold cN
                     first
                     | (rw [if_pos h8, if_pos h8]
                        by_cases q : 30 ≤ k
                        · rw [if_pos q, pF_n (pF_nz (by decide))]
                        · rw [if_neg q])
                     | (rw [if_neg h8, if_neg h8]
                        by_cases q : 30 ≤ k
                        · rw [if_pos q, if_pos q]
                        · exfalso; rw [if_neg h8, if_neg q] at e36; exact h43 (e36.trans z))
                   exact ⟨hz87, MC_x (MC_rf _) m36, fun i _ => MX_270 m36 i, hcn ▸ q36.1, fun q => absurd (e36.trans ((congrArg (fun s : zP => s.2.1) hcn).trans q)) h43⟩)
                | (have hcn : pSem t n (cP t n (vct t n S.1) D (pN t n S)) = cN t n D k S := by
                     unfold cN; rw [if_neg hv1, if_neg hk30]; exact cP_s
                   have c270 : ∀ i, τ87.1 270 i = τ73.1 270 i := fun i => (MX_270 hr87.2.1 i).trans (zput_k _ _ _ _ _ (by decide))
                   refine ⟨hz87, MC_x (MC_q (MC_t (MC_p (MC_x (MC_rf _) m48)) hr73.2.1)) hr87.2.1, fun i hi => ?_, hcn ▸ hr87.2.2, fun q => ?_⟩
                   · rw [c270, hr73.2.2.1 i (by omega), zput_i _ _ _ _ _ (by omega)]; exact MX_270 m48 i
                   · rw [← hcn] at q
                     have hp := hr73.2.2.2.2 (pSem_s q).1
                     refine ⟨(MX_c hr87.2.1 (by decide)).trans ((zput_s _ _ _ _).trans (by omega)), ?_, ?_, fun c => ?_, fun c => ?_, fun c => ?_⟩
                     · rw [c270, hr73.2.2.1 (5 * k) (by omega)]; exact zput_s _ _ _ _
                     · rw [c270]; exact hp.1
                     · rw [c270]; exact hp.2.1 c
                     · rw [c270]; exact hp.2.2.1 c
                     · rw [c270]; exact hp.2.2.2 c)
              · by_cases hb73bbbb : (vct t n S.1) = 4
                · refine zy_cvvR [zi (vct t n S.1), zi ((5 * k + 1 : Nat) : Int)] (sX10_partsOf_4 (D := D) (S := (pN t n S)) (to := (5 * k + 1)) hfl (zOK_put hz48 (by first | exact hz48 _ _ | assumption | exact zr_b _ | exact zcmp_r _ _ | (unfold zr at *; omega))) (by first | assumption | omega) (R62 _ _) (PM_put q48) (by omega) (by omega)) dX10_readsOne_73 (by decide) rfl cw_RX10_369 okX10_partsOf rfl (Nat.le_of_ble_eq_true rfl) ⟨Nat.le_of_ble_eq_true rfl, Nat.le_of_ble_eq_true rfl, Nat.le_of_ble_eq_true rfl, Nat.le_of_ble_eq_true rfl⟩ (fun τ73 hr73 => ?_)
                  have hz73 : zOK τ73 := hr73.1
                  have k73 : τ73.1 261 25 = ((k : Nat) : Int) := (hr73.2.1.2.1 25 (by omega)).trans ((zput_k _ _ _ _ _ (by decide)).trans k48)
                  refine zx_aloadN dX10_readsOne_76 rfl rfl ?_
                  refine zx_dup rfl dX10_readsOne_77 ?_
                  refine zy_getI fl_RX10_366 rfl dX10_readsOne_78 rfl ?_
                  refine zy_top (b := ((k : Nat) : Int)) (k73) ?_
                  refine zx_iconst dX10_readsOne_81 ?_
                  refine zx_iadd dX10_readsOne_82 ?_
                  refine zx_putI fl_RX10_366 rfl (Or.inl fp_10_25) dX10_readsOne_83 ?_
                  refine zx_aloadN dX10_readsOne_86 rfl rfl ?_
                  refine zy_cvvR [] (sX10_semicolon (S := (cP t n (vct t n S.1) D (pN t n S))) hfl (zOK_put hz73 (by first | exact hz73 _ _ | assumption | exact zr_b _ | exact zcmp_r _ _ | (unfold zr at *; omega))) (PM_25 (by decide) hr73.2.2.2.1)) dX10_readsOne_87 (by decide) rfl cw_RX10_297 okX10_semicolon rfl (Nat.le_of_ble_eq_true rfl) ⟨Nat.le_of_ble_eq_true rfl, Nat.le_of_ble_eq_true rfl, Nat.le_of_ble_eq_true rfl, Nat.le_of_ble_eq_true rfl⟩ (fun τ87 hr87 => ?_)
                  have hz87 : zOK τ87 := hr87.1
                  refine zx_vret rfl dX10_readsOne_90 ?_
                  rw [hQ]
                  refine ⟨rfl, ?_⟩
                  first
                  | (have hcn : (if 30 ≤ k then pF t n (if vct t n S.1 = -1 then pF t n S 1 else S) 4 else (if vct t n S.1 = -1 then pF t n S 1 else S)) = cN t n D k S := by
                       unfold cN
                       first
                       | (rw [if_pos h8, if_pos h8]
                          by_cases q : 30 ≤ k
                          · rw [if_pos q, pF_n (pF_nz (by decide))]
                          · rw [if_neg q])
                       | (rw [if_neg h8, if_neg h8]
                          by_cases q : 30 ≤ k
                          · rw [if_pos q, if_pos q]
                          · exfalso; rw [if_neg h8, if_neg q] at e36; exact h43 (e36.trans z))
                     exact ⟨hz87, MC_x (MC_rf _) m36, fun i _ => MX_270 m36 i, hcn ▸ q36.1, fun q => absurd (e36.trans ((congrArg (fun s : zP => s.2.1) hcn).trans q)) h43⟩)
                  | (have hcn : pSem t n (cP t n (vct t n S.1) D (pN t n S)) = cN t n D k S := by
                       unfold cN; rw [if_neg hv1, if_neg hk30]; exact cP_s
                     have c270 : ∀ i, τ87.1 270 i = τ73.1 270 i := fun i => (MX_270 hr87.2.1 i).trans (zput_k _ _ _ _ _ (by decide))
                     refine ⟨hz87, MC_x (MC_q (MC_t (MC_p (MC_x (MC_rf _) m48)) hr73.2.1)) hr87.2.1, fun i hi => ?_, hcn ▸ hr87.2.2, fun q => ?_⟩
                     · rw [c270, hr73.2.2.1 i (by omega), zput_i _ _ _ _ _ (by omega)]; exact MX_270 m48 i
                     · rw [← hcn] at q
                       have hp := hr73.2.2.2.2 (pSem_s q).1
                       refine ⟨(MX_c hr87.2.1 (by decide)).trans ((zput_s _ _ _ _).trans (by omega)), ?_, ?_, fun c => ?_, fun c => ?_, fun c => ?_⟩
                       · rw [c270, hr73.2.2.1 (5 * k) (by omega)]; exact zput_s _ _ _ _
                       · rw [c270]; exact hp.1
                       · rw [c270]; exact hp.2.1 c
                       · rw [c270]; exact hp.2.2.1 c
                       · rw [c270]; exact hp.2.2.2 c)
                · refine zy_cvvR [zi (vct t n S.1), zi ((5 * k + 1 : Nat) : Int)] (sX10_partsOf_5 (D := D) (S := (pN t n S)) (to := (5 * k + 1)) hfl (zOK_put hz48 (by first | exact hz48 _ _ | assumption | exact zr_b _ | exact zcmp_r _ _ | (unfold zr at *; omega))) (by first | assumption | omega) (R62 _ _) (PM_put q48) (by omega) (by omega)) dX10_readsOne_73 (by decide) rfl cw_RX10_369 okX10_partsOf rfl (Nat.le_of_ble_eq_true rfl) ⟨Nat.le_of_ble_eq_true rfl, Nat.le_of_ble_eq_true rfl, Nat.le_of_ble_eq_true rfl, Nat.le_of_ble_eq_true rfl⟩ (fun τ73 hr73 => ?_)
                  have hz73 : zOK τ73 := hr73.1
                  have k73 : τ73.1 261 25 = ((k : Nat) : Int) := (hr73.2.1.2.1 25 (by omega)).trans ((zput_k _ _ _ _ _ (by decide)).trans k48)
                  refine zx_aloadN dX10_readsOne_76 rfl rfl ?_
                  refine zx_dup rfl dX10_readsOne_77 ?_
                  refine zy_getI fl_RX10_366 rfl dX10_readsOne_78 rfl ?_
                  refine zy_top (b := ((k : Nat) : Int)) (k73) ?_
                  refine zx_iconst dX10_readsOne_81 ?_
                  refine zx_iadd dX10_readsOne_82 ?_
                  refine zx_putI fl_RX10_366 rfl (Or.inl fp_10_25) dX10_readsOne_83 ?_
                  refine zx_aloadN dX10_readsOne_86 rfl rfl ?_
                  refine zy_cvvR [] (sX10_semicolon (S := (cP t n (vct t n S.1) D (pN t n S))) hfl (zOK_put hz73 (by first | exact hz73 _ _ | assumption | exact zr_b _ | exact zcmp_r _ _ | (unfold zr at *; omega))) (PM_25 (by decide) hr73.2.2.2.1)) dX10_readsOne_87 (by decide) rfl cw_RX10_297 okX10_semicolon rfl (Nat.le_of_ble_eq_true rfl) ⟨Nat.le_of_ble_eq_true rfl, Nat.le_of_ble_eq_true rfl, Nat.le_of_ble_eq_true rfl, Nat.le_of_ble_eq_true rfl⟩ (fun τ87 hr87 => ?_)
                  have hz87 : zOK τ87 := hr87.1
                  refine zx_vret rfl dX10_readsOne_90 ?_
                  rw [hQ]
                  refine ⟨rfl, ?_⟩
                  first
                  | (have hcn : (if 30 ≤ k then pF t n (if vct t n S.1 = -1 then pF t n S 1 else S) 4 else (if vct t n S.1 = -1 then pF t n S 1 else S)) = cN t n D k S := by
                       unfold cN
                       first
                       | (rw [if_pos h8, if_pos h8]
                          by_cases q : 30 ≤ k
                          · rw [if_pos q, pF_n (pF_nz (by decide))]
                          · rw [if_neg q])
                       | (rw [if_neg h8, if_neg h8]
                          by_cases q : 30 ≤ k
                          · rw [if_pos q, if_pos q]
                          · exfalso; rw [if_neg h8, if_neg q] at e36; exact h43 (e36.trans z))
                     exact ⟨hz87, MC_x (MC_rf _) m36, fun i _ => MX_270 m36 i, hcn ▸ q36.1, fun q => absurd (e36.trans ((congrArg (fun s : zP => s.2.1) hcn).trans q)) h43⟩)
                  | (have hcn : pSem t n (cP t n (vct t n S.1) D (pN t n S)) = cN t n D k S := by
                       unfold cN; rw [if_neg hv1, if_neg hk30]; exact cP_s
                     have c270 : ∀ i, τ87.1 270 i = τ73.1 270 i := fun i => (MX_270 hr87.2.1 i).trans (zput_k _ _ _ _ _ (by decide))
                     refine ⟨hz87, MC_x (MC_q (MC_t (MC_p (MC_x (MC_rf _) m48)) hr73.2.1)) hr87.2.1, fun i hi => ?_, hcn ▸ hr87.2.2, fun q => ?_⟩
                     · rw [c270, hr73.2.2.1 i (by omega), zput_i _ _ _ _ _ (by omega)]; exact MX_270 m48 i
                     · rw [← hcn] at q
                       have hp := hr73.2.2.2.2 (pSem_s q).1
                       refine ⟨(MX_c hr87.2.1 (by decide)).trans ((zput_s _ _ _ _).trans (by omega)), ?_, ?_, fun c => ?_, fun c => ?_, fun c => ?_⟩
                       · rw [c270, hr73.2.2.1 (5 * k) (by omega)]; exact zput_s _ _ _ _
                       · rw [c270]; exact hp.1
                       · rw [c270]; exact hp.2.1 c
                       · rw [c270]; exact hp.2.2.1 c
                       · rw [c270]; exact hp.2.2.2 c)
      · refine zx_vret rfl dX10_readsOne_46 ?_
        rw [hQ]
        refine ⟨rfl, ?_⟩
        first
        | (have hcn : (if 30 ≤ k then pF t n (if vct t n S.1 = -1 then pF t n S 1 else S) 4 else (if vct t n S.1 = -1 then pF t n S 1 else S)) = cN t n D k S := by
             unfold cN
             first
             | (rw [if_pos h8, if_pos h8]
                by_cases q : 30 ≤ k
                · rw [if_pos q, pF_n (pF_nz (by decide))]
                · rw [if_neg q])
             | (rw [if_neg h8, if_neg h8]
                by_cases q : 30 ≤ k
                · rw [if_pos q, if_pos q]
                · exfalso; rw [if_neg h8, if_neg q] at e36; exact h43 (e36.trans z))
           exact ⟨hz36, MC_x (MC_rf _) m36, fun i _ => MX_270 m36 i, hcn ▸ q36.1, fun q => absurd (e36.trans ((congrArg (fun s : zP => s.2.1) hcn).trans q)) h43⟩)
        | (have hcn : pSem t n (cP t n (vct t n S.1) D (pN t n S)) = cN t n D k S := by
             unfold cN; rw [if_neg hv1, if_neg hk30]; exact cP_s
           have c270 : ∀ i, τ87.1 270 i = τ73.1 270 i := fun i => (MX_270 hr87.2.1 i).trans (zput_k _ _ _ _ _ (by decide))
           refine ⟨hz36, MC_x (MC_q (MC_t (MC_p (MC_x (MC_rf _) m48)) hr73.2.1)) hr87.2.1, fun i hi => ?_, hcn ▸ hr87.2.2, fun q => ?_⟩
           · rw [c270, hr73.2.2.1 i (by omega), zput_i _ _ _ _ _ (by omega)]; exact MX_270 m48 i
           · rw [← hcn] at q
             have hp := hr73.2.2.2.2 (pSem_s q).1
             refine ⟨(MX_c hr87.2.1 (by decide)).trans ((zput_s _ _ _ _).trans (by omega)), ?_, ?_, fun c => ?_, fun c => ?_, fun c => ?_⟩
             · rw [c270, hr73.2.2.1 (5 * k) (by omega)]; exact zput_s _ _ _ _
             · rw [c270]; exact hp.1
             · rw [c270]; exact hp.2.1 c
             · rw [c270]; exact hp.2.2.1 c
             · rw [c270]; exact hp.2.2.2 c)

