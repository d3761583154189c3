abbrev mX10_executeCommands : zM := (yX10_executeCommands, cX10_executeCommands, 2, (some .int), [])
theorem okX10_executeCommands : zMok mX10_executeCommands 0 := ⟨by decide, by decide, by decide +kernel⟩
theorem dX10_executeCommands_0 : decode cX10_executeCommands 0 = .ok (.aload_n 0, 1) := by decide +kernel
theorem dX10_executeCommands_1 : decode cX10_executeCommands 1 = .ok (.invokevirtual 339, 3) := by decide +kernel
theorem cw_RX10_339 : zCwV RX10 339 mX10_startsText := zall [1517, 1519, 22, 128, 1520] (by decide +kernel) (by decide +kernel)
theorem dX10_executeCommands_4 : decode cX10_executeCommands 4 = .ok (.aload_n 0, 1) := by decide +kernel
theorem dX10_executeCommands_5 : decode cX10_executeCommands 5 = .ok (.iconst 0, 1) := by decide +kernel
theorem dX10_executeCommands_6 : decode cX10_executeCommands 6 = .ok (.putfield 366, 3) := by decide +kernel
theorem dX10_executeCommands_9 : decode cX10_executeCommands 9 = .ok (.aload_n 0, 1) := by decide +kernel
theorem dX10_executeCommands_10 : decode cX10_executeCommands 10 = .ok (.getfield 243, 3) := by decide +kernel
theorem dX10_executeCommands_13 : decode cX10_executeCommands 13 = .ok (.ifCond .ne 18, 3) := by decide +kernel
theorem dX10_executeCommands_31 : decode cX10_executeCommands 31 = .ok (.aload_n 0, 1) := by decide +kernel
theorem dX10_executeCommands_32 : decode cX10_executeCommands 32 = .ok (.aload_n 0, 1) := by decide +kernel
theorem dX10_executeCommands_33 : decode cX10_executeCommands 33 = .ok (.invokevirtual 345, 3) := by decide +kernel
theorem cw_RX10_345 : zCwV RX10 345 mX10_endsText := zall [1645, 1647, 50, 128, 1648] (by decide +kernel) (by decide +kernel)
theorem dX10_executeCommands_36 : decode cX10_executeCommands 36 = .ok (.invokevirtual 220, 3) := by decide +kernel
theorem dX10_executeCommands_39 : decode cX10_executeCommands 39 = .ok (.ifCond .ne 5, 3) := by decide +kernel
theorem dX10_executeCommands_42 : decode cX10_executeCommands 42 = .ok (.iconst 0, 1) := by decide +kernel
theorem dX10_executeCommands_43 : decode cX10_executeCommands 43 = .ok (.ireturn, 1) := by decide +kernel
theorem dX10_executeCommands_16 : decode cX10_executeCommands 16 = .ok (.aload_n 0, 1) := by decide +kernel
theorem dX10_executeCommands_17 : decode cX10_executeCommands 17 = .ok (.invokevirtual 249, 3) := by decide +kernel
theorem dX10_executeCommands_20 : decode cX10_executeCommands 20 = .ok (.iconst (-1), 1) := by decide +kernel
theorem dX10_executeCommands_21 : decode cX10_executeCommands 21 = .ok (.if_icmp .eq 10, 3) := by decide +kernel
theorem dX10_executeCommands_24 : decode cX10_executeCommands 24 = .ok (.aload_n 0, 1) := by decide +kernel
theorem dX10_executeCommands_25 : decode cX10_executeCommands 25 = .ok (.invokevirtual 387, 3) := by decide +kernel
theorem cw_RX10_387 : zCwV RX10 387 mX10_readsOne := zall [1767, 1769, 53, 128, 1770] (by decide +kernel) (by decide +kernel)
theorem dX10_executeCommands_28 : decode cX10_executeCommands 28 = .ok (.goto (-19), 3) := by decide +kernel
theorem dX10_executeCommands_44 : decode cX10_executeCommands 44 = .ok (.aload_n 0, 1) := by decide +kernel
theorem dX10_executeCommands_45 : decode cX10_executeCommands 45 = .ok (.aload_n 0, 1) := by decide +kernel
theorem dX10_executeCommands_46 : decode cX10_executeCommands 46 = .ok (.getfield 7, 3) := by decide +kernel
theorem dX10_executeCommands_49 : decode cX10_executeCommands 49 = .ok (.invokevirtual 390, 3) := by decide +kernel
theorem dX10_executeCommands_52 : decode cX10_executeCommands 52 = .ok (.iconst 0, 1) := by decide +kernel
theorem dX10_executeCommands_53 : decode cX10_executeCommands 53 = .ok (.istore_n 1, 1) := by decide +kernel
theorem dX10_executeCommands_54 : decode cX10_executeCommands 54 = .ok (.iload_n 1, 1) := by decide +kernel
theorem dX10_executeCommands_55 : decode cX10_executeCommands 55 = .ok (.aload_n 0, 1) := by decide +kernel
theorem dX10_executeCommands_56 : decode cX10_executeCommands 56 = .ok (.getfield 366, 3) := by decide +kernel
theorem dX10_executeCommands_59 : decode cX10_executeCommands 59 = .ok (.if_icmp .ge 19, 3) := by decide +kernel
theorem dX10_executeCommands_78 : decode cX10_executeCommands 78 = .ok (.iload_n 1, 1) := by decide +kernel
theorem dX10_executeCommands_79 : decode cX10_executeCommands 79 = .ok (.ireturn, 1) := by decide +kernel
theorem dX10_executeCommands_62 : decode cX10_executeCommands 62 = .ok (.aload_n 0, 1) := by decide +kernel
theorem dX10_executeCommands_63 : decode cX10_executeCommands 63 = .ok (.iconst 5, 1) := by decide +kernel
theorem dX10_executeCommands_64 : decode cX10_executeCommands 64 = .ok (.iload_n 1, 1) := by decide +kernel
theorem dX10_executeCommands_65 : decode cX10_executeCommands 65 = .ok (.imul, 1) := by decide +kernel
theorem dX10_executeCommands_66 : decode cX10_executeCommands 66 = .ok (.invokevirtual 394, 3) := by decide +kernel
theorem cw_RX10_394 : zCwV RX10 394 mX10_doesOne := zall [1792, 1794, 58, 128, 1795] (by decide +kernel) (by decide +kernel)
theorem dX10_executeCommands_69 : decode cX10_executeCommands 69 = .ok (.ifCond .eq 9, 3) := by decide +kernel
theorem dX10_executeCommands_72 : decode cX10_executeCommands 72 = .ok (.iinc 1 1, 3) := by decide +kernel
theorem dX10_executeCommands_75 : decode cX10_executeCommands 75 = .ok (.goto (-21), 3) := by decide +kernel
/-! a text of commands, read and done by the model -/
theorem MC_tr {σ τ υ : zS} (h : MC σ τ) (h' : MC τ υ) : MC σ υ := mfr_tr h h' (fun _ q => q.elim id id) (fun _ q => q.elim id id)
theorem MC_R {D : zBk} {σ τ : zS} (h : MC σ τ) (hR : Rel D (σ.1 262)) : Rel D (τ.1 262) := mfr_R h (by decide) hR
theorem cY_N {t : Nat → Int} {n : Nat} {D : zBk} {k : Nat} (h : mor t n (cY t n D k)) : cY t n D (k + 1) = cN t n D k (cY t n D k) := by
  unfold cN
  by_cases a : vct t n (cY t n D k).1 = -1
  · rw [cY_n h a, if_pos a]
  · by_cases b : 30 ≤ k
    · rw [cY_l h a b, if_neg a, if_pos b]
    · rw [cY_c h a b, if_neg a, if_neg b]
theorem cY_g {t : Nat → Int} {n : Nat} {D : zBk} {m : Nat} (hm : m ≤ 31) (h : ¬ mor t n (cY t n D m)) : cY t n D 1400 = cY t n D m := by
  have := cY_s h (1400 - m)
  rw [show m + (1400 - m) = 1400 by omega] at this; exact this
theorem mor_u {t : Nat → Int} {n : Nat} {D : zBk} {m k : Nat} (a : ∀ i, i < m → mor t n (cY t n D i)) (b : ¬ mor t n (cY t n D m)) (c : ∀ i, i < k → mor t n (cY t n D i)) (d : ¬ mor t n (cY t n D k)) : m = k := by
  rcases Nat.lt_trichotomy m k with q | q | q
  · exact absurd (c m q) b
  · exact q
  · exact absurd (a k q) d
theorem mfr_end {σ τ : zS} {a b : Int} (h : ∀ k i, τ.1 k i = if k = 261 ∧ i = 16 then 0 else if k = 261 ∧ i = 22 then a else if k = 261 ∧ i = 23 then b else σ.1 k i) (h2 : τ.2 = σ.2) : mfr σ τ (fun _ => False) (fun i => i = 16 ∨ i = 22 ∨ i = 23) :=
  ⟨fun k _ hk i => by rw [h, if_neg (by omega), if_neg (by omega), if_neg (by omega)], fun i hi => by rw [h, if_neg (by omega), if_neg (by omega), if_neg (by omega)], h2⟩
def eA (q : Nat) : Prop := q = 262 ∨ q = 266 ∨ q = 267 ∨ q = 268 ∨ q = 270
def eF (i : Nat) : Prop := i = 5 ∨ i = 6 ∨ (9 ≤ i ∧ i ≤ 11) ∨ i = 13 ∨ i = 14 ∨ (16 ≤ i ∧ i ≤ 23) ∨ i = 25

theorem MPu_end {σ τ υ : zS} {r : Nat → Int} {A F : Nat → Prop} (h : MPu σ τ r) (m : mfr τ υ A F) (a : ¬ A 266 := by decide) (f : ¬ F 5 := by decide) : MPu σ υ r := by
  have e5 := m.2.1 5 f
  have e6 : ∀ j, υ.1 266 j = τ.1 266 j := fun j => m.1 266 a (by decide) j
  unfold MPu at *
  rw [e5]
  obtain ⟨a1, a2, a3, a4⟩ := h
  exact ⟨a1, a2, fun j hj => (e6 _).trans (a3 j hj), fun i hi j hj => (e6 _).trans (a4 i hi j hj)⟩

set_option maxRecDepth 20000 in
set_option maxHeartbeats 2000000 in
theorem sX10_executeCommands_f {l : Launch} {w : zW} (hfl : l.stackTraces = false) {σ : zS} {D : zBk} {t : Nat → Int} {n : Nat}  (hz : zOK σ) (hW : WF D) (hR : Rel D (σ.1 262)) (hT : TM t n σ) (hn : σ.1 261 16 = (n : Int) ∧ n ≤ 1400) (hw19 : 0 ≤ σ.1 261 19 ∧ σ.1 261 19 ≤ 1401) (hw : ¬ (cY t n D 1400).2.1 = 0) : Sp l w mX10_executeCommands 14 0 [zf 10 261] σ (zqv (some (zi 0)) (fun τ => zOK τ ∧ mfr σ τ eA eF ∧ Rel D (τ.1 262) ∧ τ.1 261 6 = 1 ∧ τ.1 261 16 = 0 ∧ τ.1 261 22 = (cY t n D 1400).2.1 ∧ τ.1 261 23 = (cY t n D 1400).2.2 ∧ 0 ≤ τ.1 261 19 ∧ τ.1 261 19 ≤ 1401)) := by
  obtain ⟨Q, hQ⟩ : ∃ Q : zQ, Q = (zqv (some (zi 0)) (fun τ => zOK τ ∧ mfr σ τ eA eF ∧ Rel D (τ.1 262) ∧ τ.1 261 6 = 1 ∧ τ.1 261 16 = 0 ∧ τ.1 261 22 = (cY t n D 1400).2.1 ∧ τ.1 261 23 = (cY t n D 1400).2.2 ∧ 0 ≤ τ.1 261 19 ∧ τ.1 261 19 ≤ 1401)) := ⟨_, rfl⟩
  rw [← hQ]
  refine zx_enter hfl (by decide) rfl 1 rfl ?_
  show zX l w mX10_executeCommands (zMQ w 14 0 Q) 0 [zf 10 261, zu] [] 0 σ
  have hP : 0 ≤ D 1 0 ∧ D 1 0 ≤ 8 := hW.1.1
  have hM : 0 ≤ D 1 7 ∧ D 1 7 ≤ 8 := hW.1.2.1
  have hE : 0 ≤ D 1 10 ∧ D 1 10 ≤ 12 := hW.1.2.2.1
  have hK : 0 ≤ D 12 0 ∧ D 12 0 ≤ 40 := hW.1.2.2.2
  have r0 : σ.1 262 0 = D 1 0 := hR.1.1
  have r1 : σ.1 262 1 = D 1 7 := hR.1.2.1
  have r2 : σ.1 262 2 = D 1 10 := hR.1.2.2.1
  have r3 : σ.1 262 3 = D 12 0 := hR.1.2.2.2
  refine zx_aloadN dX10_executeCommands_0 rfl rfl ?_
  refine zy_cvvR [] (sX10_startsText  hfl hz hT hn hw19) dX10_executeCommands_1 (by decide) rfl cw_RX10_339 okX10_startsText rfl (Nat.le_of_ble_eq_true rfl) ⟨Nat.le_of_ble_eq_true rfl, Nat.le_of_ble_eq_true rfl, Nat.le_of_ble_eq_true rfl, Nat.le_of_ble_eq_true rfl⟩ (fun τ1 hr1 => ?_)
  have hz1 : zOK τ1 := hr1.1
  refine zx_aloadN dX10_executeCommands_4 rfl rfl ?_
  refine zx_iconst dX10_executeCommands_5 ?_
  refine zx_putI fl_RX10_366 rfl (Or.inl fp_10_25) dX10_executeCommands_6 ?_
  have L9 : ∀ (N : Nat) (τ : zS) (k : Nat), (zOK τ) → (MC σ τ) → (∀ i, i < k → mor t n (cY t n D i)) → (PM t n (cY t n D k) τ) → ((cY t n D k).2.1 = 0 → τ.1 261 25 = ((k : Nat) : Int) ∧ ∀ i, i < k → mWr τ i (vct t n (cY t n D i).1) (cV t n (vct t n (cY t n D i).1) D (pN t n (cY t n D i)))) → (k ≤ 31) → (32 - k) < N → zX l w mX10_executeCommands (zMQ w 14 0 Q) 9 [zf 10 261, zu] [] 0 τ := by
    intro N
    induction N with
    | zero => intro τ k _ _ _ _ _ _ _; exact absurd (by assumption) (Nat.not_lt_zero _)
    | succ N ih9 =>
      intro τ k hz h1 h2 h3k h4k hk hN
      have hRt := MC_R h1 hR
      refine zx_aloadN dX10_executeCommands_9 rfl rfl ?_
      refine zy_getI fl_RX10_243 rfl dX10_executeCommands_10 rfl ?_
      refine zx_if_ne (tgt := 31) (by first | exact hz _ _ | assumption | exact zr_b _ | exact zcmp_r _ _ | (unfold zr at *; omega)) dX10_executeCommands_13 (by decide) (fun h13 => ?_) (fun h13 => ?_)
      · have hme : ¬ mor t n (cY t n D k) := fun q => h13 (h3k.2.2.2.1.1.trans q.1)
        have pb : PM t n (cY t n D k) τ := h3k
        have mb : MC σ τ := h1
        have wb : (cY t n D k).2.1 = 0 → τ.1 261 25 = ((k : Nat) : Int) ∧ ∀ i, i < k → mWr τ i (vct t n (cY t n D i).1) (cV t n (vct t n (cY t n D i).1) D (pN t n (cY t n D i))) := h4k
        have hcf := cY_g hk hme
        refine zx_aloadN dX10_executeCommands_31 rfl rfl ?_
        refine zx_aloadN dX10_executeCommands_32 rfl rfl ?_
        refine zy_cvR [] (sX10_endsText  hfl hz ) dX10_executeCommands_33 (by decide) rfl cw_RX10_345 okX10_endsText rfl (Nat.le_of_ble_eq_true rfl) ⟨Nat.le_of_ble_eq_true rfl, Nat.le_of_ble_eq_true rfl, Nat.le_of_ble_eq_true rfl, Nat.le_of_ble_eq_true rfl⟩ (fun τ33 hr33 => ?_)
        have hz33 : zOK τ33 := hr33.1
        have me := mfr_end hr33.2.1 hr33.2.2
        have b20 := pb.2.2.2.1.1
        have b21 := pb.2.2.2.1.2
        have b19 := pb.2.2.2.2.1
        have e16 : τ33.1 261 16 = 0 := (hr33.2.1 261 16).trans (if_pos ⟨rfl, rfl⟩)
        have e22 : τ33.1 261 22 = (cY t n D 1400).2.1 := (hr33.2.1 261 22).trans (by rw [if_neg (by omega), if_pos ⟨rfl, rfl⟩, hcf]; exact b20)
        have e23 : τ33.1 261 23 = (cY t n D 1400).2.2 := (hr33.2.1 261 23).trans (by rw [if_neg (by omega), if_neg (by omega), if_pos ⟨rfl, rfl⟩, hcf]; exact b21)
        have e19 : 0 ≤ τ33.1 261 19 ∧ τ33.1 261 19 ≤ 1401 := by rw [me.2.1 19 (by decide)]; omega
        have m33 : mfr σ τ33 (fun q => q = 270) (fun i => (16 ≤ i ∧ i ≤ 23) ∨ i = 25) := mfr_tr mb me (fun k q => q.elim id (fun r => absurd r id)) (fun i q => by omega)
        have R33 : Rel D (τ33.1 262) := mfr_R m33 (by decide) hR
        refine zy_cv [zi (zb (τ.1 261 20 = 0))] (sX10_passes (A := (τ.1 261 20 = 0)) hfl hz33 ) dX10_executeCommands_36 (by decide) rfl cw_RX10_220 okX10_passes rfl (Nat.le_of_ble_eq_true rfl) ⟨Nat.le_of_ble_eq_true rfl, Nat.le_of_ble_eq_true rfl, Nat.le_of_ble_eq_true rfl, Nat.le_of_ble_eq_true rfl⟩ ?_
        refine zx_if_ne (tgt := 44) (by first | exact hz33 _ _ | assumption | exact zr_b _ | exact zcmp_r _ _ | (unfold zr at *; omega)) dX10_executeCommands_39 (by decide) (fun h39 => ?_) (fun h39 => ?_)
        · have h39 := zb_n.mp h39
          exact absurd (by rw [hcf]; exact b20.symm.trans (by assumption)) hw
        · have h39 := zb_0.mp h39
          refine zx_iconst dX10_executeCommands_42 ?_
          refine zx_iret rfl rfl dX10_executeCommands_43 ?_
          rw [hQ]
          refine ⟨congrArg (fun z : Int => (Sum.inl (some (zi z)) : Option zV ⊕ String)) ?_, ?_⟩
          · rfl
          have f6 : ∀ i v, i ≠ 6 → (zput τ33 261 6 v).1 261 i = τ33.1 261 i := fun i v hi => zput_i _ _ _ _ _ hi
          refine ⟨(zOK_put hz33 (zr_b _)), mfr_mo (mfr_put261 m33) (fun k q => by unfold eA; omega) (fun i q => by unfold eF; omega), Rel_put (by decide) R33, (zput_s _ _ _ _).trans (zb_t (by assumption)), ?_, ?_, ?_, ?_⟩
          · exact (f6 _ _ (by decide)).trans e16
          · exact (f6 _ _ (by decide)).trans e22
          · exact (f6 _ _ (by decide)).trans e23
          · exact ⟨by rw [f6 _ _ (by decide)]; exact e19.1, by rw [f6 _ _ (by decide)]; exact e19.2⟩
      · have z : (cY t n D k).2.1 = 0 := h3k.2.2.2.1.1.symm.trans h13
        obtain ⟨hkc, hmw⟩ := h4k z
        have hxe := (h3k.2.2.2.2.2 z).2.2
        have hTt := h3k.1
        refine zx_aloadN dX10_executeCommands_16 rfl rfl ?_
        refine zy_cvR [] (sX10_next (S := (cY t n D k)) hfl hz h3k) dX10_executeCommands_17 (by decide) rfl cw_RX10_249 okX10_next rfl (Nat.le_of_ble_eq_true rfl) ⟨Nat.le_of_ble_eq_true rfl, Nat.le_of_ble_eq_true rfl, Nat.le_of_ble_eq_true rfl, Nat.le_of_ble_eq_true rfl⟩ (fun τ17 hr17 => ?_)
        have hz17 : zOK τ17 := hr17.1
        refine zy_top (b := uM τ n (xS t n (cY t n D k).1)) (by rw [hxe]) ?_
        have huz := uM_z hz n (xS t n (cY t n D k).1)
        have hun := uM_n (k := xS t n (cY t n D k).1) hTt
        have hR17 := MX_R hr17.2.1 hRt
        have k17 : τ17.1 261 25 = ((k : Nat) : Int) := (MX_c hr17.2.1 (by decide)).trans hkc
        refine zx_iconst dX10_executeCommands_20 ?_
        refine zx_icmp_eq (tgt := 31) (by first | exact hz17 _ _ | assumption | exact zr_b _ | exact zcmp_r _ _ | (unfold zr at *; omega)) (by first | exact hz17 _ _ | assumption | exact zr_b _ | exact zcmp_r _ _ | (unfold zr at *; omega)) dX10_executeCommands_21 (by decide) (fun h21 => ?_) (fun h21 => ?_)
        · have hme : ¬ mor t n (cY t n D k) := fun q => q.2 (by unfold xK; rw [if_pos (hun.mp h21)])
          have pb : PM t n (cY t n D k) τ17 := hr17.2.2.1
          have mb : MC σ τ17 := MC_x h1 hr17.2.1
          have wb : (cY t n D k).2.1 = 0 → τ17.1 261 25 = ((k : Nat) : Int) ∧ ∀ i, i < k → mWr τ17 i (vct t n (cY t n D i).1) (cV t n (vct t n (cY t n D i).1) D (pN t n (cY t n D i))) := fun _ => ⟨k17, fun i hi => mWr_e (fun j _ => MX_270 hr17.2.1 j) (hmw i hi)⟩
          have hcf := cY_g hk hme
          refine zx_aloadN dX10_executeCommands_31 rfl rfl ?_
          refine zx_aloadN dX10_executeCommands_32 rfl rfl ?_
          refine zy_cvR [] (sX10_endsText  hfl hz17 ) dX10_executeCommands_33 (by decide) rfl cw_RX10_345 okX10_endsText rfl (Nat.le_of_ble_eq_true rfl) ⟨Nat.le_of_ble_eq_true rfl, Nat.le_of_ble_eq_true rfl, Nat.le_of_ble_eq_true rfl, Nat.le_of_ble_eq_true rfl⟩ (fun τ33 hr33 => ?_)
          have hz33 : zOK τ33 := hr33.1
          have me := mfr_end hr33.2.1 hr33.2.2
          have b20 := pb.2.2.2.1.1
          have b21 := pb.2.2.2.1.2
          have b19 := pb.2.2.2.2.1
          have e16 : τ33.1 261 16 = 0 := (hr33.2.1 261 16).trans (if_pos ⟨rfl, rfl⟩)
          have e22 : τ33.1 261 22 = (cY t n D 1400).2.1 := (hr33.2.1 261 22).trans (by rw [if_neg (by omega), if_pos ⟨rfl, rfl⟩, hcf]; exact b20)
          have e23 : τ33.1 261 23 = (cY t n D 1400).2.2 := (hr33.2.1 261 23).trans (by rw [if_neg (by omega), if_neg (by omega), if_pos ⟨rfl, rfl⟩, hcf]; exact b21)
          have e19 : 0 ≤ τ33.1 261 19 ∧ τ33.1 261 19 ≤ 1401 := by rw [me.2.1 19 (by decide)]; omega
          have m33 : mfr σ τ33 (fun q => q = 270) (fun i => (16 ≤ i ∧ i ≤ 23) ∨ i = 25) := mfr_tr mb me (fun k q => q.elim id (fun r => absurd r id)) (fun i q => by omega)
          have R33 : Rel D (τ33.1 262) := mfr_R m33 (by decide) hR
          refine zy_cv [zi (zb (τ17.1 261 20 = 0))] (sX10_passes (A := (τ17.1 261 20 = 0)) hfl hz33 ) dX10_executeCommands_36 (by decide) rfl cw_RX10_220 okX10_passes rfl (Nat.le_of_ble_eq_true rfl) ⟨Nat.le_of_ble_eq_true rfl, Nat.le_of_ble_eq_true rfl, Nat.le_of_ble_eq_true rfl, Nat.le_of_ble_eq_true rfl⟩ ?_
          refine zx_if_ne (tgt := 44) (by first | exact hz33 _ _ | assumption | exact zr_b _ | exact zcmp_r _ _ | (unfold zr at *; omega)) dX10_executeCommands_39 (by decide) (fun h39 => ?_) (fun h39 => ?_)
          · have h39 := zb_n.mp h39
            exact absurd (by rw [hcf]; exact b20.symm.trans (by assumption)) hw
          · have h39 := zb_0.mp h39
            refine zx_iconst dX10_executeCommands_42 ?_
            refine zx_iret rfl rfl dX10_executeCommands_43 ?_
            rw [hQ]
            refine ⟨congrArg (fun z : Int => (Sum.inl (some (zi z)) : Option zV ⊕ String)) ?_, ?_⟩
            · rfl
            have f6 : ∀ i v, i ≠ 6 → (zput τ33 261 6 v).1 261 i = τ33.1 261 i := fun i v hi => zput_i _ _ _ _ _ hi
            refine ⟨(zOK_put hz33 (zr_b _)), mfr_mo (mfr_put261 m33) (fun k q => by unfold eA; omega) (fun i q => by unfold eF; omega), Rel_put (by decide) R33, (zput_s _ _ _ _).trans (zb_t (by assumption)), ?_, ?_, ?_, ?_⟩
            · exact (f6 _ _ (by decide)).trans e16
            · exact (f6 _ _ (by decide)).trans e22
            · exact (f6 _ _ (by decide)).trans e23
            · exact ⟨by rw [f6 _ _ (by decide)]; exact e19.1, by rw [f6 _ _ (by decide)]; exact e19.2⟩
        · have hmk : mor t n (cY t n D k) := ⟨z, by have a := kb_r (t (xS t n (cY t n D k).1)); unfold xK; rw [if_neg (fun q => h21 (hun.mpr q))]; omega⟩
          have hk30 := cY_5 h2 z
          refine zx_aloadN dX10_executeCommands_24 rfl rfl ?_
          refine zy_cvvR [] (sX10_readsOne (D := D) (S := (cY t n D k)) (k := k) hfl hz17 (by first | assumption | omega) hR17 hr17.2.2.1 z ⟨k17, hk30⟩) dX10_executeCommands_25 (by decide) rfl cw_RX10_387 okX10_readsOne rfl (Nat.le_of_ble_eq_true rfl) ⟨Nat.le_of_ble_eq_true rfl, Nat.le_of_ble_eq_true rfl, Nat.le_of_ble_eq_true rfl, Nat.le_of_ble_eq_true rfl⟩ (fun τ25 hr25 => ?_)
          have hz25 : zOK τ25 := hr25.1
          have n1 : MC σ τ25 := MC_tr (MC_x h1 hr17.2.1) hr25.2.1
          have n2 : ∀ i, i < k + 1 → mor t n (cY t n D i) := fun i hi => by
            rcases Nat.lt_or_ge i k with q | q
            · exact h2 i q
            · rw [show i = k by omega]; exact hmk
          have n3 : PM t n (cY t n D (k + 1)) τ25 := by rw [cY_N hmk]; exact hr25.2.2.2.1
          have n4 : (cY t n D (k + 1)).2.1 = 0 → τ25.1 261 25 = ((k + 1 : Nat) : Int) ∧ ∀ i, i < k + 1 → mWr τ25 i (vct t n (cY t n D i).1) (cV t n (vct t n (cY t n D i).1) D (pN t n (cY t n D i))) := fun q => by
            rw [cY_N hmk] at q
            have hq := hr25.2.2.2.2 q
            refine ⟨hq.1, fun i hi => ?_⟩
            rcases Nat.lt_or_ge i k with r | r
            · exact mWr_e (fun j hj => (hr25.2.2.1 j (by omega)).trans (MX_270 hr17.2.1 j)) (hmw i r)
            · have ei : i = k := by omega
              subst ei
              exact hq.2
          refine zx_goto (tgt := 9) dX10_executeCommands_28 (by decide) ?_
          exact ih9 τ25 (k + 1) hz25 n1 n2 n3 n4 (by omega) (by omega)
  exact L9 _ (zput τ1 261 25 0) 0 (zOK_put hz1 (by unfold zr; omega)) (MC_q (MC_x (MC_rf _) hr1.2.1)) (fun i hi => absurd hi (Nat.not_lt_zero i)) (PM_25 (by decide) hr1.2.2) (fun _ => ⟨zput_s _ _ _ _, fun i hi => absurd hi (Nat.not_lt_zero i)⟩) (by omega) (Nat.lt_succ_self _)
set_option maxRecDepth 20000 in
set_option maxHeartbeats 2000000 in
theorem sX10_executeCommands {l : Launch} {w : zW} (hfl : l.stackTraces = false) {σ : zS} {D : zBk} {t : Nat → Int} {n : Nat} {X : Nat → zBk} {m d : Nat} (hz : zOK σ) (hW : WF D) (hR : Rel D (σ.1 262)) (hT : TM t n σ) (hn : σ.1 261 16 = (n : Int) ∧ n ≤ 1400) (hw19 : 0 ≤ σ.1 261 19 ∧ σ.1 261 19 ≤ 1401) (hP1 : 1 ≤ D 1 0) (hm5 : 0 ≤ σ.1 261 5 ∧ σ.1 261 5 ≤ 8) (hw : (cY t n D 1400).2.1 = 0) (he : eTr t n D X m d) : Sp l w mX10_executeCommands 14 0 [zf 10 261] σ (zqv (some (zi ((d : Nat) : Int))) (fun τ => zOK τ ∧ mfr σ τ eA eF ∧ Rel (X d) (τ.1 262) ∧ MPu σ τ (σ.1 262) ∧ τ.1 261 6 = 0 ∧ τ.1 261 16 = 0 ∧ τ.1 261 22 = (cY t n D 1400).2.1 ∧ τ.1 261 23 = (cY t n D 1400).2.2 ∧ 0 ≤ τ.1 261 19 ∧ τ.1 261 19 ≤ 1401)) := by
  obtain ⟨Q, hQ⟩ : ∃ Q : zQ, Q = (zqv (some (zi ((d : Nat) : Int))) (fun τ => zOK τ ∧ mfr σ τ eA eF ∧ Rel (X d) (τ.1 262) ∧ MPu σ τ (σ.1 262) ∧ τ.1 261 6 = 0 ∧ τ.1 261 16 = 0 ∧ τ.1 261 22 = (cY t n D 1400).2.1 ∧ τ.1 261 23 = (cY t n D 1400).2.2 ∧ 0 ≤ τ.1 261 19 ∧ τ.1 261 19 ≤ 1401)) := ⟨_, rfl⟩
  rw [← hQ]
  refine zx_enter hfl (by decide) rfl 1 rfl ?_
  show zX l w mX10_executeCommands (zMQ w 14 0 Q) 0 [zf 10 261, zu] [] 0 σ
  have hP : 0 ≤ D 1 0 ∧ D 1 0 ≤ 8 := hW.1.1
  have hM : 0 ≤ D 1 7 ∧ D 1 7 ≤ 8 := hW.1.2.1
  have hE : 0 ≤ D 1 10 ∧ D 1 10 ≤ 12 := hW.1.2.2.1
  have hK : 0 ≤ D 12 0 ∧ D 12 0 ≤ 40 := hW.1.2.2.2
  have r0 : σ.1 262 0 = D 1 0 := hR.1.1
  have r1 : σ.1 262 1 = D 1 7 := hR.1.2.1
  have r2 : σ.1 262 2 = D 1 10 := hR.1.2.2.1
  have r3 : σ.1 262 3 = D 12 0 := hR.1.2.2.2
  obtain ⟨⟨x1, x2, x3⟩, hdm, x6, x4, x5, x7⟩ := he
  refine zx_aloadN dX10_executeCommands_0 rfl rfl ?_
  refine zy_cvvR [] (sX10_startsText  hfl hz hT hn hw19) dX10_executeCommands_1 (by decide) rfl cw_RX10_339 okX10_startsText rfl (Nat.le_of_ble_eq_true rfl) ⟨Nat.le_of_ble_eq_true rfl, Nat.le_of_ble_eq_true rfl, Nat.le_of_ble_eq_true rfl, Nat.le_of_ble_eq_true rfl⟩ (fun τ1 hr1 => ?_)
  have hz1 : zOK τ1 := hr1.1
  refine zx_aloadN dX10_executeCommands_4 rfl rfl ?_
  refine zx_iconst dX10_executeCommands_5 ?_
  refine zx_putI fl_RX10_366 rfl (Or.inl fp_10_25) dX10_executeCommands_6 ?_
  have L9 : ∀ (N : Nat) (τ : zS) (k : Nat), (zOK τ) → (MC σ τ) → (∀ i, i < k → mor t n (cY t n D i)) → (PM t n (cY t n D k) τ) → ((cY t n D k).2.1 = 0 → τ.1 261 25 = ((k : Nat) : Int) ∧ ∀ i, i < k → mWr τ i (vct t n (cY t n D i).1) (cV t n (vct t n (cY t n D i).1) D (pN t n (cY t n D i)))) → (k ≤ 31) → (32 - k) < N → zX l w mX10_executeCommands (zMQ w 14 0 Q) 9 [zf 10 261, zu] [] 0 τ := by
    intro N
    induction N with
    | zero => intro τ k _ _ _ _ _ _ _; exact absurd (by assumption) (Nat.not_lt_zero _)
    | succ N ih9 =>
      intro τ k hz h1 h2 h3k h4k hk hN
      have hRt := MC_R h1 hR
      refine zx_aloadN dX10_executeCommands_9 rfl rfl ?_
      refine zy_getI fl_RX10_243 rfl dX10_executeCommands_10 rfl ?_
      refine zx_if_ne (tgt := 31) (by first | exact hz _ _ | assumption | exact zr_b _ | exact zcmp_r _ _ | (unfold zr at *; omega)) dX10_executeCommands_13 (by decide) (fun h13 => ?_) (fun h13 => ?_)
      · have hme : ¬ mor t n (cY t n D k) := fun q => h13 (h3k.2.2.2.1.1.trans q.1)
        have pb : PM t n (cY t n D k) τ := h3k
        have mb : MC σ τ := h1
        have wb : (cY t n D k).2.1 = 0 → τ.1 261 25 = ((k : Nat) : Int) ∧ ∀ i, i < k → mWr τ i (vct t n (cY t n D i).1) (cV t n (vct t n (cY t n D i).1) D (pN t n (cY t n D i))) := h4k
        have hcf := cY_g hk hme
        refine zx_aloadN dX10_executeCommands_31 rfl rfl ?_
        refine zx_aloadN dX10_executeCommands_32 rfl rfl ?_
        refine zy_cvR [] (sX10_endsText  hfl hz ) dX10_executeCommands_33 (by decide) rfl cw_RX10_345 okX10_endsText rfl (Nat.le_of_ble_eq_true rfl) ⟨Nat.le_of_ble_eq_true rfl, Nat.le_of_ble_eq_true rfl, Nat.le_of_ble_eq_true rfl, Nat.le_of_ble_eq_true rfl⟩ (fun τ33 hr33 => ?_)
        have hz33 : zOK τ33 := hr33.1
        have me := mfr_end hr33.2.1 hr33.2.2
        have b20 := pb.2.2.2.1.1
        have b21 := pb.2.2.2.1.2
        have b19 := pb.2.2.2.2.1
        have e16 : τ33.1 261 16 = 0 := (hr33.2.1 261 16).trans (if_pos ⟨rfl, rfl⟩)
        have e22 : τ33.1 261 22 = (cY t n D 1400).2.1 := (hr33.2.1 261 22).trans (by rw [if_neg (by omega), if_pos ⟨rfl, rfl⟩, hcf]; exact b20)
        have e23 : τ33.1 261 23 = (cY t n D 1400).2.2 := (hr33.2.1 261 23).trans (by rw [if_neg (by omega), if_neg (by omega), if_pos ⟨rfl, rfl⟩, hcf]; exact b21)
        have e19 : 0 ≤ τ33.1 261 19 ∧ τ33.1 261 19 ≤ 1401 := by rw [me.2.1 19 (by decide)]; omega
        have m33 : mfr σ τ33 (fun q => q = 270) (fun i => (16 ≤ i ∧ i ≤ 23) ∨ i = 25) := mfr_tr mb me (fun k q => q.elim id (fun r => absurd r id)) (fun i q => by omega)
        have R33 : Rel D (τ33.1 262) := mfr_R m33 (by decide) hR
        refine zy_cv [zi (zb (τ.1 261 20 = 0))] (sX10_passes (A := (τ.1 261 20 = 0)) hfl hz33 ) dX10_executeCommands_36 (by decide) rfl cw_RX10_220 okX10_passes rfl (Nat.le_of_ble_eq_true rfl) ⟨Nat.le_of_ble_eq_true rfl, Nat.le_of_ble_eq_true rfl, Nat.le_of_ble_eq_true rfl, Nat.le_of_ble_eq_true rfl⟩ ?_
        refine zx_if_ne (tgt := 44) (by first | exact hz33 _ _ | assumption | exact zr_b _ | exact zcmp_r _ _ | (unfold zr at *; omega)) dX10_executeCommands_39 (by decide) (fun h39 => ?_) (fun h39 => ?_)
        · have h39 := zb_n.mp h39
          have hmk2 : m = k := mor_u x2 x3 h2 hme
          have zk : (cY t n D k).2.1 = 0 := by rw [← hcf]; exact hw
          obtain ⟨b25, bmw⟩ := wb zk
          have f6 : ∀ i v, i ≠ 6 → (zput τ33 261 6 v).1 261 i = τ33.1 261 i := fun i v hi => zput_i _ _ _ _ _ hi
          have e5 : τ33.1 261 5 = σ.1 261 5 := m33.2.1 5 (by decide)
          refine zx_aloadN dX10_executeCommands_44 rfl rfl ?_
          refine zx_aloadN dX10_executeCommands_45 rfl rfl ?_
          refine zy_getR (q' := 262) fl_RX10_7 rfl dX10_executeCommands_46 rfl ?_
          refine zy_cvvR [zf 29 262] (sX10_keeps  hfl (zOK_put hz33 (zr_b _)) (by rw [f6 5 _ (by decide), e5]; exact hm5) (by decide) (by decide)) dX10_executeCommands_49 (by decide) rfl cw_RX10_390 okX10_keeps rfl (Nat.le_of_ble_eq_true rfl) ⟨Nat.le_of_ble_eq_true rfl, Nat.le_of_ble_eq_true rfl, Nat.le_of_ble_eq_true rfl, Nat.le_of_ble_eq_true rfl⟩ (fun τ49 hr49 => ?_)
          have hz49 : zOK τ49 := hr49.1
          have m25 : τ49.1 261 25 = ((m : Nat) : Int) := (hr49.2.1.2.1 25 (by decide)).trans ((f6 25 _ (by decide)).trans ((me.2.1 25 (by decide)).trans (by rw [hmk2]; exact b25)))
          have w49 : ∀ i, i < m → mWr τ49 i (vct t n (cY t n D i).1) (cV t n (vct t n (cY t n D i).1) D (pN t n (cY t n D i))) := fun i hi => mWr_e (fun j _ => (hr49.2.1.1 270 (by decide) (by decide) j).trans ((zput_k _ _ _ _ _ (by decide)).trans (me.1 270 (fun q => q) (by decide) j))) (bmw i (by omega))
          have i2 : Rel (X 0) (τ49.1 262) := Rel_l x6 (mfr_R hr49.2.1 (by decide) (Rel_put (by decide) R33))
          have i4 : (X 0) 1 0 = D 1 0 ∧ (X 0) 1 7 = D 1 7 := ⟨x6.1.1, x6.1.2.1⟩
          refine zx_iconst dX10_executeCommands_52 ?_
          refine zy_istoreN [zf 10 261, zi 0] dX10_executeCommands_53 rfl (Nat.le_of_ble_eq_true rfl) (Nat.le_of_ble_eq_true rfl) rfl rfl ?_
          have L54 : ∀ (N : Nat) (υ : zS) (i : Nat), (zOK υ) → (mfr τ49 υ (fun k => k = 262 ∨ k = 267 ∨ k = 268) (fun i => (9 ≤ i ∧ i ≤ 11) ∨ i = 13 ∨ i = 14)) → (Rel (X i) (υ.1 262)) → (i ≤ d) → ((X i) 1 0 = D 1 0 ∧ (X i) 1 7 = D 1 7) → (32 - i) < N → zX l w mX10_executeCommands (zMQ w 14 0 Q) 54 [zf 10 261, zi ((i : Nat) : Int)] [] 0 υ := by
            intro N
            induction N with
            | zero => intro υ i _ _ _ _ _ _; exact absurd (by assumption) (Nat.not_lt_zero _)
            | succ N ih54 =>
              intro υ i hz g1 g2 g3 g4 hN
              have u25 : υ.1 261 25 = ((m : Nat) : Int) := (g1.2.1 25 (by decide)).trans m25
              have hWi : WF (X i) := by
                rcases Nat.lt_or_ge i d with q | q
                · exact (x4 i q).1
                · rw [show i = d by omega]; exact x5
              refine zx_iloadN dX10_executeCommands_54 rfl rfl ?_
              refine zx_aloadN dX10_executeCommands_55 rfl rfl ?_
              refine zy_getI fl_RX10_366 rfl dX10_executeCommands_56 rfl ?_
              refine zy_top (b := ((m : Nat) : Int)) (u25) ?_
              refine zx_icmp_ge (tgt := 78) (by first | exact hz _ _ | assumption | exact zr_b _ | exact zcmp_r _ _ | (unfold zr at *; omega)) (by first | exact hz _ _ | assumption | exact zr_b _ | exact zcmp_r _ _ | (unfold zr at *; omega)) dX10_executeCommands_59 (by decide) (fun h59 => ?_) (fun h59 => ?_)
              · have hid : i = d := by omega
                have fr : mfr τ49 υ (fun k => k = 262 ∨ k = 267 ∨ k = 268) (fun i => (9 ≤ i ∧ i ≤ 11) ∨ i = 13 ∨ i = 14) := g1
                have rf : Rel (X d) (υ.1 262) := hid ▸ g2
                refine zx_iloadN dX10_executeCommands_78 rfl rfl ?_
                refine zx_iret rfl rfl dX10_executeCommands_79 ?_
                rw [hQ]
                refine ⟨congrArg (fun z : Int => (Sum.inl (some (zi z)) : Option zV ⊕ String)) ?_, ?_⟩
                · omega
                have c : ∀ i, ¬ ((9 ≤ i ∧ i ≤ 11) ∨ i = 13 ∨ i = 14) → i ≠ 5 → i ≠ 6 → υ.1 261 i = τ33.1 261 i := fun i q1 q2 q3 => (fr.2.1 i q1).trans ((hr49.2.1.2.1 i q2).trans (f6 i _ q3))
                have c6 : υ.1 261 6 = 0 := (fr.2.1 6 (by decide)).trans ((hr49.2.1.2.1 6 (by decide)).trans ((zput_s _ _ _ _).trans (zb_f (fun q => q (by assumption)))))
                have mp := MPu_to (υ := zput τ33 261 6 _) (σ := σ) (r := σ.1 262) hr49.2.2 ((f6 5 _ (by decide)).trans e5) (fun j => (zput_k _ _ _ _ _ (by decide)).trans (m33.1 266 (by decide) (by decide) j)) (fun j _ => (zput_k _ _ _ _ _ (by decide)).trans (m33.1 262 (by decide) (by decide) j))
                refine ⟨hz, mfr_tr (mfr_put261 m33) (mfr_tr hr49.2.1 fr (A'' := fun k => k = 266 ∨ k = 262 ∨ k = 267 ∨ k = 268) (F'' := fun i => i = 5 ∨ (9 ≤ i ∧ i ≤ 11) ∨ i = 13 ∨ i = 14) (fun k q => by omega) (fun i q => by omega)) (fun k q => by unfold eA; omega) (fun i q => by unfold eF; omega), rf, MPu_end mp fr, c6, ?_, ?_, ?_, ?_, ?_⟩
                · exact (c 16 (by decide) (by decide) (by decide)).trans e16
                · exact (c 22 (by decide) (by decide) (by decide)).trans e22
                · exact (c 23 (by decide) (by decide) (by decide)).trans e23
                · rw [c 19 (by decide) (by decide) (by decide)]; exact e19.1
                · rw [c 19 (by decide) (by decide) (by decide)]; exact e19.2
              · have him : i < m := by omega
                have hmwi : mWr υ i (vct t n (cY t n D i).1) (cV t n (vct t n (cY t n D i).1) D (pN t n (cY t n D i))) := mWr_e (fun j _ => g1.1 270 (by decide) (by decide) j) (w49 i him)
                have hcvi : cmV (X i) (vct t n (cY t n D i).1) (cV t n (vct t n (cY t n D i).1) D (pN t n (cY t n D i))) := cmV_e (D := D) g4.1 g4.2 (cY_v hW.1.1 (x2 i him) (cY_z x1 x2 x3 hw him))
                refine zx_aloadN dX10_executeCommands_62 rfl rfl ?_
                refine zx_iconst dX10_executeCommands_63 ?_
                refine zx_iloadN dX10_executeCommands_64 rfl rfl ?_
                refine zx_imul dX10_executeCommands_65 ?_
                refine zy_top (b := ((5 * i : Nat) : Int)) (by omega) ?_
                refine zy_cvR [zi ((5 * i : Nat) : Int)] (sX10_doesOne (D := (X i)) (i := i) (b := (5 * i)) (v := (vct t n (cY t n D i).1)) (V := (cV t n (vct t n (cY t n D i).1) D (pN t n (cY t n D i)))) hfl hz hWi g2 (by omega) ⟨rfl, by omega⟩ hmwi hcvi) dX10_executeCommands_66 (by decide) rfl cw_RX10_394 okX10_doesOne rfl (Nat.le_of_ble_eq_true rfl) ⟨Nat.le_of_ble_eq_true rfl, Nat.le_of_ble_eq_true rfl, Nat.le_of_ble_eq_true rfl, Nat.le_of_ble_eq_true rfl⟩ (fun τ66 hr66 => ?_)
                have hz66 : zOK τ66 := hr66.1
                refine zx_if_eq (tgt := 78) (by first | exact hz66 _ _ | assumption | exact zr_b _ | exact zcmp_r _ _ | (unfold zr at *; omega)) dX10_executeCommands_69 (by decide) (fun h69 => ?_) (fun h69 => ?_)
                · have h69 := zb_0.mp h69
                  have hid : i = d := by
                    rcases Nat.lt_or_ge i d with q | q
                    · exact absurd (x4 i q).2.1 h69
                    · omega
                  have fr : mfr τ49 τ66 (fun k => k = 262 ∨ k = 267 ∨ k = 268) (fun i => (9 ≤ i ∧ i ≤ 11) ∨ i = 13 ∨ i = 14) := mfr_tr g1 hr66.2.1 (fun k q => q.elim id id) (fun i q => q.elim id id)
                  have rf : Rel (X d) (τ66.1 262) := by
                    have q := hr66.2.2
                    rw [cmN_f h69] at q
                    exact hid ▸ q
                  refine zx_iloadN dX10_executeCommands_78 rfl rfl ?_
                  refine zx_iret rfl rfl dX10_executeCommands_79 ?_
                  rw [hQ]
                  refine ⟨congrArg (fun z : Int => (Sum.inl (some (zi z)) : Option zV ⊕ String)) ?_, ?_⟩
                  · omega
                  have c : ∀ i, ¬ ((9 ≤ i ∧ i ≤ 11) ∨ i = 13 ∨ i = 14) → i ≠ 5 → i ≠ 6 → τ66.1 261 i = τ33.1 261 i := fun i q1 q2 q3 => (fr.2.1 i q1).trans ((hr49.2.1.2.1 i q2).trans (f6 i _ q3))
                  have c6 : τ66.1 261 6 = 0 := (fr.2.1 6 (by decide)).trans ((hr49.2.1.2.1 6 (by decide)).trans ((zput_s _ _ _ _).trans (zb_f (fun q => q (by assumption)))))
                  have mp := MPu_to (υ := zput τ33 261 6 _) (σ := σ) (r := σ.1 262) hr49.2.2 ((f6 5 _ (by decide)).trans e5) (fun j => (zput_k _ _ _ _ _ (by decide)).trans (m33.1 266 (by decide) (by decide) j)) (fun j _ => (zput_k _ _ _ _ _ (by decide)).trans (m33.1 262 (by decide) (by decide) j))
                  refine ⟨hz66, mfr_tr (mfr_put261 m33) (mfr_tr hr49.2.1 fr (A'' := fun k => k = 266 ∨ k = 262 ∨ k = 267 ∨ k = 268) (F'' := fun i => i = 5 ∨ (9 ≤ i ∧ i ≤ 11) ∨ i = 13 ∨ i = 14) (fun k q => by omega) (fun i q => by omega)) (fun k q => by unfold eA; omega) (fun i q => by unfold eF; omega), rf, MPu_end mp fr, c6, ?_, ?_, ?_, ?_, ?_⟩
                  · exact (c 16 (by decide) (by decide) (by decide)).trans e16
                  · exact (c 22 (by decide) (by decide) (by decide)).trans e22
                  · exact (c 23 (by decide) (by decide) (by decide)).trans e23
                  · rw [c 19 (by decide) (by decide) (by decide)]; exact e19.1
                  · rw [c 19 (by decide) (by decide) (by decide)]; exact e19.2
                · have h69 := zb_n.mp h69
                  have j3 : i + 1 ≤ d := by
                    rcases Nat.lt_or_ge i d with q | q
                    · exact q
                    · have ed : i = d := by omega
                      exact absurd (ed ▸ h69) (ed ▸ x7 (by omega))
                  have xs := x4 i j3
                  have j1 : mfr τ49 τ66 (fun k => k = 262 ∨ k = 267 ∨ k = 268) (fun i => (9 ≤ i ∧ i ≤ 11) ∨ i = 13 ∨ i = 14) := mfr_tr g1 hr66.2.1 (fun k q => q.elim id id) (fun i q => q.elim id id)
                  have j2 : Rel (X (i + 1)) (τ66.1 262) := by
                    have q := hr66.2.2
                    rw [cmN_t h69] at q
                    exact Rel_l xs.2.2 q
                  have j4 : (X (i + 1)) 1 0 = D 1 0 ∧ (X (i + 1)) 1 7 = D 1 7 := ⟨xs.2.2.1.1.trans ((cmB_1 _ _ _ _).trans g4.1), xs.2.2.1.2.1.trans ((cmB_1 _ _ _ _).trans g4.2)⟩
                  refine zy_iinc (b := ((i + 1 : Nat) : Int)) [zf 10 261, zi ((i + 1 : Nat) : Int)] dX10_executeCommands_72 rfl (by omega) (Nat.le_of_ble_eq_true rfl) rfl rfl ?_
                  refine zx_goto (tgt := 54) dX10_executeCommands_75 (by decide) ?_
                  exact ih54 τ66 (i + 1) hz66 j1 j2 j3 j4 (by omega)
          exact L54 _ τ49 0 hz49 (mfr_rf _ _ _) i2 (Nat.zero_le _) i4 (Nat.lt_succ_self _)
        · have h39 := zb_0.mp h39
          have zk : (cY t n D k).2.1 = 0 := by rw [← hcf]; exact hw
          exact absurd (b20.trans zk) h39
      · have z : (cY t n D k).2.1 = 0 := h3k.2.2.2.1.1.symm.trans h13
        obtain ⟨hkc, hmw⟩ := h4k z
        have hxe := (h3k.2.2.2.2.2 z).2.2
        have hTt := h3k.1
        refine zx_aloadN dX10_executeCommands_16 rfl rfl ?_
        refine zy_cvR [] (sX10_next (S := (cY t n D k)) hfl hz h3k) dX10_executeCommands_17 (by decide) rfl cw_RX10_249 okX10_next rfl (Nat.le_of_ble_eq_true rfl) ⟨Nat.le_of_ble_eq_true rfl, Nat.le_of_ble_eq_true rfl, Nat.le_of_ble_eq_true rfl, Nat.le_of_ble_eq_true rfl⟩ (fun τ17 hr17 => ?_)
        have hz17 : zOK τ17 := hr17.1
        refine zy_top (b := uM τ n (xS t n (cY t n D k).1)) (by rw [hxe]) ?_
        have huz := uM_z hz n (xS t n (cY t n D k).1)
        have hun := uM_n (k := xS t n (cY t n D k).1) hTt
        have hR17 := MX_R hr17.2.1 hRt
        have k17 : τ17.1 261 25 = ((k : Nat) : Int) := (MX_c hr17.2.1 (by decide)).trans hkc
        refine zx_iconst dX10_executeCommands_20 ?_
        refine zx_icmp_eq (tgt := 31) (by first | exact hz17 _ _ | assumption | exact zr_b _ | exact zcmp_r _ _ | (unfold zr at *; omega)) (by first | exact hz17 _ _ | assumption | exact zr_b _ | exact zcmp_r _ _ | (unfold zr at *; omega)) dX10_executeCommands_21 (by decide) (fun h21 => ?_) (fun h21 => ?_)
        · have hme : ¬ mor t n (cY t n D k) := fun q => q.2 (by unfold xK; rw [if_pos (hun.mp h21)])
          have pb : PM t n (cY t n D k) τ17 := hr17.2.2.1
          have mb : MC σ τ17 := MC_x h1 hr17.2.1
          have wb : (cY t n D k).2.1 = 0 → τ17.1 261 25 = ((k : Nat) : Int) ∧ ∀ i, i < k → mWr τ17 i (vct t n (cY t n D i).1) (cV t n (vct t n (cY t n D i).1) D (pN t n (cY t n D i))) := fun _ => ⟨k17, fun i hi => mWr_e (fun j _ => MX_270 hr17.2.1 j) (hmw i hi)⟩
          have hcf := cY_g hk hme
          refine zx_aloadN dX10_executeCommands_31 rfl rfl ?_
          refine zx_aloadN dX10_executeCommands_32 rfl rfl ?_
          refine zy_cvR [] (sX10_endsText  hfl hz17 ) dX10_executeCommands_33 (by decide) rfl cw_RX10_345 okX10_endsText rfl (Nat.le_of_ble_eq_true rfl) ⟨Nat.le_of_ble_eq_true rfl, Nat.le_of_ble_eq_true rfl, Nat.le_of_ble_eq_true rfl, Nat.le_of_ble_eq_true rfl⟩ (fun τ33 hr33 => ?_)
          have hz33 : zOK τ33 := hr33.1
          have me := mfr_end hr33.2.1 hr33.2.2
          have b20 := pb.2.2.2.1.1
          have b21 := pb.2.2.2.1.2
          have b19 := pb.2.2.2.2.1
          have e16 : τ33.1 261 16 = 0 := (hr33.2.1 261 16).trans (if_pos ⟨rfl, rfl⟩)
          have e22 : τ33.1 261 22 = (cY t n D 1400).2.1 := (hr33.2.1 261 22).trans (by rw [if_neg (by omega), if_pos ⟨rfl, rfl⟩, hcf]; exact b20)
          have e23 : τ33.1 261 23 = (cY t n D 1400).2.2 := (hr33.2.1 261 23).trans (by rw [if_neg (by omega), if_neg (by omega), if_pos ⟨rfl, rfl⟩, hcf]; exact b21)
          have e19 : 0 ≤ τ33.1 261 19 ∧ τ33.1 261 19 ≤ 1401 := by rw [me.2.1 19 (by decide)]; omega
          have m33 : mfr σ τ33 (fun q => q = 270) (fun i => (16 ≤ i ∧ i ≤ 23) ∨ i = 25) := mfr_tr mb me (fun k q => q.elim id (fun r => absurd r id)) (fun i q => by omega)
          have R33 : Rel D (τ33.1 262) := mfr_R m33 (by decide) hR
          refine zy_cv [zi (zb (τ17.1 261 20 = 0))] (sX10_passes (A := (τ17.1 261 20 = 0)) hfl hz33 ) dX10_executeCommands_36 (by decide) rfl cw_RX10_220 okX10_passes rfl (Nat.le_of_ble_eq_true rfl) ⟨Nat.le_of_ble_eq_true rfl, Nat.le_of_ble_eq_true rfl, Nat.le_of_ble_eq_true rfl, Nat.le_of_ble_eq_true rfl⟩ ?_
          refine zx_if_ne (tgt := 44) (by first | exact hz33 _ _ | assumption | exact zr_b _ | exact zcmp_r _ _ | (unfold zr at *; omega)) dX10_executeCommands_39 (by decide) (fun h39 => ?_) (fun h39 => ?_)
          · have h39 := zb_n.mp h39
            have hmk2 : m = k := mor_u x2 x3 h2 hme
            have zk : (cY t n D k).2.1 = 0 := by rw [← hcf]; exact hw
            obtain ⟨b25, bmw⟩ := wb zk
            have f6 : ∀ i v, i ≠ 6 → (zput τ33 261 6 v).1 261 i = τ33.1 261 i := fun i v hi => zput_i _ _ _ _ _ hi
            have e5 : τ33.1 261 5 = σ.1 261 5 := m33.2.1 5 (by decide)
            refine zx_aloadN dX10_executeCommands_44 rfl rfl ?_
            refine zx_aloadN dX10_executeCommands_45 rfl rfl ?_
            refine zy_getR (q' := 262) fl_RX10_7 rfl dX10_executeCommands_46 rfl ?_
            refine zy_cvvR [zf 29 262] (sX10_keeps  hfl (zOK_put hz33 (zr_b _)) (by rw [f6 5 _ (by decide), e5]; exact hm5) (by decide) (by decide)) dX10_executeCommands_49 (by decide) rfl cw_RX10_390 okX10_keeps rfl (Nat.le_of_ble_eq_true rfl) ⟨Nat.le_of_ble_eq_true rfl, Nat.le_of_ble_eq_true rfl, Nat.le_of_ble_eq_true rfl, Nat.le_of_ble_eq_true rfl⟩ (fun τ49 hr49 => ?_)
            have hz49 : zOK τ49 := hr49.1
            have m25 : τ49.1 261 25 = ((m : Nat) : Int) := (hr49.2.1.2.1 25 (by decide)).trans ((f6 25 _ (by decide)).trans ((me.2.1 25 (by decide)).trans (by rw [hmk2]; exact b25)))
            have w49 : ∀ i, i < m → mWr τ49 i (vct t n (cY t n D i).1) (cV t n (vct t n (cY t n D i).1) D (pN t n (cY t n D i))) := fun i hi => mWr_e (fun j _ => (hr49.2.1.1 270 (by decide) (by decide) j).trans ((zput_k _ _ _ _ _ (by decide)).trans (me.1 270 (fun q => q) (by decide) j))) (bmw i (by omega))
            have i2 : Rel (X 0) (τ49.1 262) := Rel_l x6 (mfr_R hr49.2.1 (by decide) (Rel_put (by decide) R33))
            have i4 : (X 0) 1 0 = D 1 0 ∧ (X 0) 1 7 = D 1 7 := ⟨x6.1.1, x6.1.2.1⟩
            refine zx_iconst dX10_executeCommands_52 ?_
            refine zy_istoreN [zf 10 261, zi 0] dX10_executeCommands_53 rfl (Nat.le_of_ble_eq_true rfl) (Nat.le_of_ble_eq_true rfl) rfl rfl ?_
            have L54 : ∀ (N : Nat) (υ : zS) (i : Nat), (zOK υ) → (mfr τ49 υ (fun k => k = 262 ∨ k = 267 ∨ k = 268) (fun i => (9 ≤ i ∧ i ≤ 11) ∨ i = 13 ∨ i = 14)) → (Rel (X i) (υ.1 262)) → (i ≤ d) → ((X i) 1 0 = D 1 0 ∧ (X i) 1 7 = D 1 7) → (32 - i) < N → zX l w mX10_executeCommands (zMQ w 14 0 Q) 54 [zf 10 261, zi ((i : Nat) : Int)] [] 0 υ := by
              intro N
              induction N with
              | zero => intro υ i _ _ _ _ _ _; exact absurd (by assumption) (Nat.not_lt_zero _)
              | succ N ih54 =>
                intro υ i hz g1 g2 g3 g4 hN
                have u25 : υ.1 261 25 = ((m : Nat) : Int) := (g1.2.1 25 (by decide)).trans m25
                have hWi : WF (X i) := by
                  rcases Nat.lt_or_ge i d with q | q
                  · exact (x4 i q).1
                  · rw [show i = d by omega]; exact x5
                refine zx_iloadN dX10_executeCommands_54 rfl rfl ?_
                refine zx_aloadN dX10_executeCommands_55 rfl rfl ?_
                refine zy_getI fl_RX10_366 rfl dX10_executeCommands_56 rfl ?_
                refine zy_top (b := ((m : Nat) : Int)) (u25) ?_
                refine zx_icmp_ge (tgt := 78) (by first | exact hz _ _ | assumption | exact zr_b _ | exact zcmp_r _ _ | (unfold zr at *; omega)) (by first | exact hz _ _ | assumption | exact zr_b _ | exact zcmp_r _ _ | (unfold zr at *; omega)) dX10_executeCommands_59 (by decide) (fun h59 => ?_) (fun h59 => ?_)
                · have hid : i = d := by omega
                  have fr : mfr τ49 υ (fun k => k = 262 ∨ k = 267 ∨ k = 268) (fun i => (9 ≤ i ∧ i ≤ 11) ∨ i = 13 ∨ i = 14) := g1
                  have rf : Rel (X d) (υ.1 262) := hid ▸ g2
                  refine zx_iloadN dX10_executeCommands_78 rfl rfl ?_
                  refine zx_iret rfl rfl dX10_executeCommands_79 ?_
                  rw [hQ]
                  refine ⟨congrArg (fun z : Int => (Sum.inl (some (zi z)) : Option zV ⊕ String)) ?_, ?_⟩
                  · omega
                  have c : ∀ i, ¬ ((9 ≤ i ∧ i ≤ 11) ∨ i = 13 ∨ i = 14) → i ≠ 5 → i ≠ 6 → υ.1 261 i = τ33.1 261 i := fun i q1 q2 q3 => (fr.2.1 i q1).trans ((hr49.2.1.2.1 i q2).trans (f6 i _ q3))
                  have c6 : υ.1 261 6 = 0 := (fr.2.1 6 (by decide)).trans ((hr49.2.1.2.1 6 (by decide)).trans ((zput_s _ _ _ _).trans (zb_f (fun q => q (by assumption)))))
                  have mp := MPu_to (υ := zput τ33 261 6 _) (σ := σ) (r := σ.1 262) hr49.2.2 ((f6 5 _ (by decide)).trans e5) (fun j => (zput_k _ _ _ _ _ (by decide)).trans (m33.1 266 (by decide) (by decide) j)) (fun j _ => (zput_k _ _ _ _ _ (by decide)).trans (m33.1 262 (by decide) (by decide) j))
                  refine ⟨hz, mfr_tr (mfr_put261 m33) (mfr_tr hr49.2.1 fr (A'' := fun k => k = 266 ∨ k = 262 ∨ k = 267 ∨ k = 268) (F'' := fun i => i = 5 ∨ (9 ≤ i ∧ i ≤ 11) ∨ i = 13 ∨ i = 14) (fun k q => by omega) (fun i q => by omega)) (fun k q => by unfold eA; omega) (fun i q => by unfold eF; omega), rf, MPu_end mp fr, c6, ?_, ?_, ?_, ?_, ?_⟩
                  · exact (c 16 (by decide) (by decide) (by decide)).trans e16
                  · exact (c 22 (by decide) (by decide) (by decide)).trans e22
                  · exact (c 23 (by decide) (by decide) (by decide)).trans e23
                  · rw [c 19 (by decide) (by decide) (by decide)]; exact e19.1
                  · rw [c 19 (by decide) (by decide) (by decide)]; exact e19.2
                · have him : i < m := by omega
                  have hmwi : mWr υ i (vct t n (cY t n D i).1) (cV t n (vct t n (cY t n D i).1) D (pN t n (cY t n D i))) := mWr_e (fun j _ => g1.1 270 (by decide) (by decide) j) (w49 i him)
                  have hcvi : cmV (X i) (vct t n (cY t n D i).1) (cV t n (vct t n (cY t n D i).1) D (pN t n (cY t n D i))) := cmV_e (D := D) g4.1 g4.2 (cY_v hW.1.1 (x2 i him) (cY_z x1 x2 x3 hw him))
                  refine zx_aloadN dX10_executeCommands_62 rfl rfl ?_
                  refine zx_iconst dX10_executeCommands_63 ?_
                  refine zx_iloadN dX10_executeCommands_64 rfl rfl ?_
                  refine zx_imul dX10_executeCommands_65 ?_
                  refine zy_top (b := ((5 * i : Nat) : Int)) (by omega) ?_
                  refine zy_cvR [zi ((5 * i : Nat) : Int)] (sX10_doesOne (D := (X i)) (i := i) (b := (5 * i)) (v := (vct t n (cY t n D i).1)) (V := (cV t n (vct t n (cY t n D i).1) D (pN t n (cY t n D i)))) hfl hz hWi g2 (by omega) ⟨rfl, by omega⟩ hmwi hcvi) dX10_executeCommands_66 (by decide) rfl cw_RX10_394 okX10_doesOne rfl (Nat.le_of_ble_eq_true rfl) ⟨Nat.le_of_ble_eq_true rfl, Nat.le_of_ble_eq_true rfl, Nat.le_of_ble_eq_true rfl, Nat.le_of_ble_eq_true rfl⟩ (fun τ66 hr66 => ?_)
                  have hz66 : zOK τ66 := hr66.1
                  refine zx_if_eq (tgt := 78) (by first | exact hz66 _ _ | assumption | exact zr_b _ | exact zcmp_r _ _ | (unfold zr at *; omega)) dX10_executeCommands_69 (by decide) (fun h69 => ?_) (fun h69 => ?_)
                  · have h69 := zb_0.mp h69
                    have hid : i = d := by
                      rcases Nat.lt_or_ge i d with q | q
                      · exact absurd (x4 i q).2.1 h69
                      · omega
                    have fr : mfr τ49 τ66 (fun k => k = 262 ∨ k = 267 ∨ k = 268) (fun i => (9 ≤ i ∧ i ≤ 11) ∨ i = 13 ∨ i = 14) := mfr_tr g1 hr66.2.1 (fun k q => q.elim id id) (fun i q => q.elim id id)
                    have rf : Rel (X d) (τ66.1 262) := by
                      have q := hr66.2.2
                      rw [cmN_f h69] at q
                      exact hid ▸ q
                    refine zx_iloadN dX10_executeCommands_78 rfl rfl ?_
                    refine zx_iret rfl rfl dX10_executeCommands_79 ?_
                    rw [hQ]
                    refine ⟨congrArg (fun z : Int => (Sum.inl (some (zi z)) : Option zV ⊕ String)) ?_, ?_⟩
                    · omega
                    have c : ∀ i, ¬ ((9 ≤ i ∧ i ≤ 11) ∨ i = 13 ∨ i = 14) → i ≠ 5 → i ≠ 6 → τ66.1 261 i = τ33.1 261 i := fun i q1 q2 q3 => (fr.2.1 i q1).trans ((hr49.2.1.2.1 i q2).trans (f6 i _ q3))
                    have c6 : τ66.1 261 6 = 0 := (fr.2.1 6 (by decide)).trans ((hr49.2.1.2.1 6 (by decide)).trans ((zput_s _ _ _ _).trans (zb_f (fun q => q (by assumption)))))
                    have mp := MPu_to (υ := zput τ33 261 6 _) (σ := σ) (r := σ.1 262) hr49.2.2 ((f6 5 _ (by decide)).trans e5) (fun j => (zput_k _ _ _ _ _ (by decide)).trans (m33.1 266 (by decide) (by decide) j)) (fun j _ => (zput_k _ _ _ _ _ (by decide)).trans (m33.1 262 (by decide) (by decide) j))
                    refine ⟨hz66, mfr_tr (mfr_put261 m33) (mfr_tr hr49.2.1 fr (A'' := fun k => k = 266 ∨ k = 262 ∨ k = 267 ∨ k = 268) (F'' := fun i => i = 5 ∨ (9 ≤ i ∧ i ≤ 11) ∨ i = 13 ∨ i = 14) (fun k q => by omega) (fun i q => by omega)) (fun k q => by unfold eA; omega) (fun i q => by unfold eF; omega), rf, MPu_end mp fr, c6, ?_, ?_, ?_, ?_, ?_⟩
                    · exact (c 16 (by decide) (by decide) (by decide)).trans e16
                    · exact (c 22 (by decide) (by decide) (by decide)).trans e22
                    · exact (c 23 (by decide) (by decide) (by decide)).trans e23
                    · rw [c 19 (by decide) (by decide) (by decide)]; exact e19.1
                    · rw [c 19 (by decide) (by decide) (by decide)]; exact e19.2
                  · have h69 := zb_n.mp h69
                    have j3 : i + 1 ≤ d := by
                      rcases Nat.lt_or_ge i d with q | q
                      · exact q
                      · have ed : i = d := by omega
                        exact absurd (ed ▸ h69) (ed ▸ x7 (by omega))
                    have xs := x4 i j3
                    have j1 : mfr τ49 τ66 (fun k => k = 262 ∨ k = 267 ∨ k = 268) (fun i => (9 ≤ i ∧ i ≤ 11) ∨ i = 13 ∨ i = 14) := mfr_tr g1 hr66.2.1 (fun k q => q.elim id id) (fun i q => q.elim id id)
                    have j2 : Rel (X (i + 1)) (τ66.1 262) := by
                      have q := hr66.2.2
                      rw [cmN_t h69] at q
                      exact Rel_l xs.2.2 q
                    have j4 : (X (i + 1)) 1 0 = D 1 0 ∧ (X (i + 1)) 1 7 = D 1 7 := ⟨xs.2.2.1.1.trans ((cmB_1 _ _ _ _).trans g4.1), xs.2.2.1.2.1.trans ((cmB_1 _ _ _ _).trans g4.2)⟩
                    refine zy_iinc (b := ((i + 1 : Nat) : Int)) [zf 10 261, zi ((i + 1 : Nat) : Int)] dX10_executeCommands_72 rfl (by omega) (Nat.le_of_ble_eq_true rfl) rfl rfl ?_
                    refine zx_goto (tgt := 54) dX10_executeCommands_75 (by decide) ?_
                    exact ih54 τ66 (i + 1) hz66 j1 j2 j3 j4 (by omega)
            exact L54 _ τ49 0 hz49 (mfr_rf _ _ _) i2 (Nat.zero_le _) i4 (Nat.lt_succ_self _)
          · have h39 := zb_0.mp h39
            have zk : (cY t n D k).2.1 = 0 := by rw [← hcf]; exact hw
            exact absurd (b20.trans zk) h39
        · have hmk : mor t n (cY t n D k) := ⟨z, by have a := kb_r (t (xS t n (cY t n D k).1)); unfold xK; rw [if_neg (fun q => h21 (hun.mpr q))]; omega⟩
          have hk30 := cY_5 h2 z
          refine zx_aloadN dX10_executeCommands_24 rfl rfl ?_
          refine zy_cvvR [] (sX10_readsOne (D := D) (S := (cY t n D k)) (k := k) hfl hz17 (by first | assumption | omega) hR17 hr17.2.2.1 z ⟨k17, hk30⟩) dX10_executeCommands_25 (by decide) rfl cw_RX10_387 okX10_readsOne rfl (Nat.le_of_ble_eq_true rfl) ⟨Nat.le_of_ble_eq_true rfl, Nat.le_of_ble_eq_true rfl, Nat.le_of_ble_eq_true rfl, Nat.le_of_ble_eq_true rfl⟩ (fun τ25 hr25 => ?_)
          have hz25 : zOK τ25 := hr25.1
          have n1 : MC σ τ25 := MC_tr (MC_x h1 hr17.2.1) hr25.2.1
          have n2 : ∀ i, i < k + 1 → mor t n (cY t n D i) := fun i hi => by
            rcases Nat.lt_or_ge i k with q | q
            · exact h2 i q
            · rw [show i = k by omega]; exact hmk
          have n3 : PM t n (cY t n D (k + 1)) τ25 := by rw [cY_N hmk]; exact hr25.2.2.2.1
          have n4 : (cY t n D (k + 1)).2.1 = 0 → τ25.1 261 25 = ((k + 1 : Nat) : Int) ∧ ∀ i, i < k + 1 → mWr τ25 i (vct t n (cY t n D i).1) (cV t n (vct t n (cY t n D i).1) D (pN t n (cY t n D i))) := fun q => by
            rw [cY_N hmk] at q
            have hq := hr25.2.2.2.2 q
            refine ⟨hq.1, fun i hi => ?_⟩
            rcases Nat.lt_or_ge i k with r | r
            · exact mWr_e (fun j hj => (hr25.2.2.1 j (by omega)).trans (MX_270 hr17.2.1 j)) (hmw i r)
            · have ei : i = k := by omega
              subst ei
              exact hq.2
          refine zx_goto (tgt := 9) dX10_executeCommands_28 (by decide) ?_
          exact ih9 τ25 (k + 1) hz25 n1 n2 n3 n4 (by omega) (by omega)
  exact L9 _ (zput τ1 261 25 0) 0 (zOK_put hz1 (by unfold zr; omega)) (MC_q (MC_x (MC_rf _) hr1.2.1)) (fun i hi => absurd hi (Nat.not_lt_zero i)) (PM_25 (by decide) hr1.2.2) (fun _ => ⟨zput_s _ _ _ _, fun i hi => absurd hi (Nat.not_lt_zero i)⟩) (by omega) (Nat.lt_succ_self _)

