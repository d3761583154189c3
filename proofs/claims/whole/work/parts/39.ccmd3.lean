abbrev mX3_fillFrom : zM := (yX3_fillFrom, cX3_fillFrom, 5, (some .boolean), [])
theorem okX3_fillFrom : zMok mX3_fillFrom 2 := ⟨by decide, by decide, by decide +kernel⟩
theorem dX3_fillFrom_0 : decode cX3_fillFrom 0 = .ok (.aload_n 0, 1) := by decide +kernel
theorem dX3_fillFrom_1 : decode cX3_fillFrom 1 = .ok (.iconst 0, 1) := by decide +kernel
theorem dX3_fillFrom_2 : decode cX3_fillFrom 2 = .ok (.putfield 9, 3) := by decide +kernel
theorem dX3_fillFrom_5 : decode cX3_fillFrom 5 = .ok (.aload_n 1, 1) := by decide +kernel
theorem dX3_fillFrom_6 : decode cX3_fillFrom 6 = .ok (.invokevirtual 31, 3) := by decide +kernel
theorem cw_RX3_31 : zCwV RX3 31 mX6_startParsing := zall [1137, 489, 490, 114, 491] (by decide +kernel) (by decide +kernel)
theorem dX3_fillFrom_9 : decode cX3_fillFrom 9 = .ok (.iconst 0, 1) := by decide +kernel
theorem dX3_fillFrom_10 : decode cX3_fillFrom 10 = .ok (.istore_n 3, 1) := by decide +kernel
theorem dX3_fillFrom_11 : decode cX3_fillFrom 11 = .ok (.iload_n 3, 1) := by decide +kernel
theorem dX3_fillFrom_12 : decode cX3_fillFrom 12 = .ok (.sipush 1400, 3) := by decide +kernel
theorem dX3_fillFrom_15 : decode cX3_fillFrom 15 = .ok (.if_icmp .ge 65, 3) := by decide +kernel
theorem dX3_fillFrom_80 : decode cX3_fillFrom 80 = .ok (.aload_n 1, 1) := by decide +kernel
theorem dX3_fillFrom_81 : decode cX3_fillFrom 81 = .ok (.invokevirtual 55, 3) := by decide +kernel
theorem cw_RX3_55 : zCwV RX3 55 mX6_isSound := zall [1165, 504, 505, 114, 506] (by decide +kernel) (by decide +kernel)
theorem dX3_fillFrom_84 : decode cX3_fillFrom 84 = .ok (.ireturn, 1) := by decide +kernel
theorem dX3_fillFrom_18 : decode cX3_fillFrom 18 = .ok (.aload_n 1, 1) := by decide +kernel
theorem dX3_fillFrom_19 : decode cX3_fillFrom 19 = .ok (.invokevirtual 36, 3) := by decide +kernel
theorem cw_RX3_36 : zCwV RX3 36 mX6_hasMore := zall [1138, 500, 501, 114, 502] (by decide +kernel) (by decide +kernel)
theorem dX3_fillFrom_22 : decode cX3_fillFrom 22 = .ok (.ifCond .eq 58, 3) := by decide +kernel
theorem dX3_fillFrom_25 : decode cX3_fillFrom 25 = .ok (.aload_n 1, 1) := by decide +kernel
theorem dX3_fillFrom_26 : decode cX3_fillFrom 26 = .ok (.invokestatic 40, 3) := by decide +kernel
theorem cw_RX3_40 : zCwS RX3 40 mX3_verbAt := zall [1139, 1140, 119, 1141] (by decide +kernel) (by decide +kernel)
theorem dX3_fillFrom_29 : decode cX3_fillFrom 29 = .ok (.istore 4, 2) := by decide +kernel
theorem dX3_fillFrom_31 : decode cX3_fillFrom 31 = .ok (.iload 4, 2) := by decide +kernel
theorem dX3_fillFrom_33 : decode cX3_fillFrom 33 = .ok (.iconst (-1), 1) := by decide +kernel
theorem dX3_fillFrom_34 : decode cX3_fillFrom 34 = .ok (.if_icmp .ne 11, 3) := by decide +kernel
theorem dX3_fillFrom_45 : decode cX3_fillFrom 45 = .ok (.aload_n 0, 1) := by decide +kernel
theorem dX3_fillFrom_46 : decode cX3_fillFrom 46 = .ok (.getfield 9, 3) := by decide +kernel
theorem dX3_fillFrom_49 : decode cX3_fillFrom 49 = .ok (.bipush 30, 2) := by decide +kernel
theorem dX3_fillFrom_51 : decode cX3_fillFrom 51 = .ok (.if_icmp .lt 11, 3) := by decide +kernel
theorem dX3_fillFrom_62 : decode cX3_fillFrom 62 = .ok (.aload_n 1, 1) := by decide +kernel
theorem dX3_fillFrom_63 : decode cX3_fillFrom 63 = .ok (.invokevirtual 48, 3) := by decide +kernel
theorem cw_RX3_48 : zCwV RX3 48 mX6_takeToken := zall [1150, 493, 494, 114, 495] (by decide +kernel) (by decide +kernel)
theorem dX3_fillFrom_66 : decode cX3_fillFrom 66 = .ok (.aload_n 0, 1) := by decide +kernel
theorem dX3_fillFrom_67 : decode cX3_fillFrom 67 = .ok (.aload_n 1, 1) := by decide +kernel
theorem dX3_fillFrom_68 : decode cX3_fillFrom 68 = .ok (.aload_n 2, 1) := by decide +kernel
theorem dX3_fillFrom_69 : decode cX3_fillFrom 69 = .ok (.iload 4, 2) := by decide +kernel
theorem dX3_fillFrom_71 : decode cX3_fillFrom 71 = .ok (.invokevirtual 51, 3) := by decide +kernel
theorem cw_RX3_51 : zCwV RX3 51 mX3_takeCommand := zall [1151, 1153, 15, 119, 1154] (by decide +kernel) (by decide +kernel)
theorem dX3_fillFrom_74 : decode cX3_fillFrom 74 = .ok (.iinc 3 1, 3) := by decide +kernel
theorem dX3_fillFrom_77 : decode cX3_fillFrom 77 = .ok (.goto (-66), 3) := by decide +kernel
theorem dX3_fillFrom_54 : decode cX3_fillFrom 54 = .ok (.aload_n 1, 1) := by decide +kernel
theorem dX3_fillFrom_55 : decode cX3_fillFrom 55 = .ok (.iconst 4, 1) := by decide +kernel
theorem dX3_fillFrom_56 : decode cX3_fillFrom 56 = .ok (.invokevirtual 44, 3) := by decide +kernel
theorem cw_RX3_44 : zCwV RX3 44 mX6_fail := zall [1149, 524, 525, 114, 526] (by decide +kernel) (by decide +kernel)
theorem dX3_fillFrom_59 : decode cX3_fillFrom 59 = .ok (.goto 15, 3) := by decide +kernel
theorem dX3_fillFrom_37 : decode cX3_fillFrom 37 = .ok (.aload_n 1, 1) := by decide +kernel
theorem dX3_fillFrom_38 : decode cX3_fillFrom 38 = .ok (.iconst 1, 1) := by decide +kernel
theorem dX3_fillFrom_39 : decode cX3_fillFrom 39 = .ok (.invokevirtual 44, 3) := by decide +kernel
theorem dX3_fillFrom_42 : decode cX3_fillFrom 42 = .ok (.goto 32, 3) := by decide +kernel

def cWr (σ : zS) (k : Nat) (v : Int) (V : Nat → Int) : Prop := σ.1 25 k = v ∧ σ.1 26 k = V 1 ∧ ((v = 0 ∨ v = 4 ∨ v = 5) → σ.1 27 k = V 2) ∧ ((v = 0 ∨ v = 5) → σ.1 28 k = V 3) ∧ (v = 0 → σ.1 29 k = V 4)
theorem cWr_e {σ τ : zS} {k : Nat} {v : Int} {V : Nat → Int} (h : ∀ q, 25 ≤ q → q ≤ 29 → τ.1 q k = σ.1 q k) (c : cWr σ k v V) : cWr τ k v V := by
  unfold cWr
  rw [h 25 (by omega) (by omega), h 26 (by omega) (by omega), h 27 (by omega) (by omega), h 28 (by omega) (by omega), h 29 (by omega) (by omega)]
  exact c

set_option maxRecDepth 20000 in
set_option maxHeartbeats 2000000 in
theorem sX3_fillFrom {l : Launch} {w : zW} (hfl : l.stackTraces = false) {σ : zS} {t : Nat → Int} {n : Nat}  (hz : zOK σ) (hT : ∀ i : Nat, σ.1 2 i = t i) (hn : σ.1 1 1 = (n : Int) ∧ n ≤ 1400) (hA1 : 0 ≤ σ.1 31 0 ∧ σ.1 31 0 ≤ 8) (hA2 : 0 ≤ σ.1 31 7 ∧ σ.1 31 7 ≤ 8) : Sp l w mX3_fillFrom 8 0 [zf 3 24, zf 6 1, zf 0 31] σ (zqv (some (zi (zb ((cY t n (bk σ 30) 1400).2.1 = 0)))) (fun τ => zOK τ ∧ zSame (fun q => q = 1 ∨ (24 ≤ q ∧ q ≤ 29)) σ τ ∧ PC t n (cY t n (bk σ 30) 1400) τ ∧ ((cY t n (bk σ 30) 1400).2.1 = 0 → ∃ m : Nat, m ≤ 30 ∧ cM t n (bk σ 30) 1400 = m ∧ (∀ i, i < m → mor t n (cY t n (bk σ 30) i)) ∧ ¬ mor t n (cY t n (bk σ 30) m) ∧ τ.1 24 0 = (m : Int) ∧ ∀ i, i < m → cWr τ i (vct t n (cY t n (bk σ 30) i).1) (cV t n (vct t n (cY t n (bk σ 30) i).1) (bk σ 30) (pN t n (cY t n (bk σ 30) i)))))) := by
  obtain ⟨Q, hQ⟩ : ∃ Q : zQ, Q = (zqv (some (zi (zb ((cY t n (bk σ 30) 1400).2.1 = 0)))) (fun τ => zOK τ ∧ zSame (fun q => q = 1 ∨ (24 ≤ q ∧ q ≤ 29)) σ τ ∧ PC t n (cY t n (bk σ 30) 1400) τ ∧ ((cY t n (bk σ 30) 1400).2.1 = 0 → ∃ m : Nat, m ≤ 30 ∧ cM t n (bk σ 30) 1400 = m ∧ (∀ i, i < m → mor t n (cY t n (bk σ 30) i)) ∧ ¬ mor t n (cY t n (bk σ 30) m) ∧ τ.1 24 0 = (m : Int) ∧ ∀ i, i < m → cWr τ i (vct t n (cY t n (bk σ 30) i).1) (cV t n (vct t n (cY t n (bk σ 30) i).1) (bk σ 30) (pN t n (cY t n (bk σ 30) i)))))) := ⟨_, rfl⟩
  rw [← hQ]
  refine zx_enter hfl (by decide) rfl 2 rfl ?_
  show zX l w mX3_fillFrom (zMQ w 8 0 Q) 0 [zf 3 24, zf 6 1, zf 0 31, zu, zu] [] 0 σ
  refine zx_aloadN dX3_fillFrom_0 rfl rfl ?_
  refine zx_iconst dX3_fillFrom_1 ?_
  refine zx_putI fl_RX3_9 rfl (Or.inl fp_3_0) dX3_fillFrom_2 ?_
  refine zx_aloadN dX3_fillFrom_5 rfl rfl ?_
  refine zy_cvvR [] (sX6_startParsing  hfl (zOK_put hz (by unfold zr; omega)) (fun i => (zput_k _ _ _ _ _ (by decide)).trans (hT i)) (⟨(zput_k _ _ _ _ _ (by decide)).trans hn.1, hn.2⟩)) dX3_fillFrom_6 (by decide) rfl cw_RX3_31 okX6_startParsing rfl (Nat.le_of_ble_eq_true rfl) ⟨Nat.le_of_ble_eq_true rfl, Nat.le_of_ble_eq_true rfl, Nat.le_of_ble_eq_true rfl, Nat.le_of_ble_eq_true rfl⟩ (fun τ6 hr6 => ?_)
  have hz6 : zOK τ6 := hr6.1
  have hi1 : zSame (fun q => q = 1 ∨ (24 ≤ q ∧ q ≤ 29)) σ τ6 := ⟨fun q hq i => (hr6.2.1.1 q (by dsimp only at hq ⊢; omega) i).trans (zput_k _ _ _ _ _ (by dsimp only at hq; omega)), hr6.2.1.2⟩
  have hi5 : τ6.1 24 0 = ((0 : Nat) : Int) := (hr6.2.1.1 24 (by dsimp only; omega) 0).trans (zput_s _ _ _ _)
  refine zx_iconst dX3_fillFrom_9 ?_
  refine zy_istoreN [zf 3 24, zf 6 1, zf 0 31, zi 0, zu] dX3_fillFrom_10 rfl (Nat.le_of_ble_eq_true rfl) (Nat.le_of_ble_eq_true rfl) rfl rfl ?_
  have L11 : ∀ (N : Nat) (τ : zS) (k : Nat), (zOK τ) → (zSame (fun q => q = 1 ∨ (24 ≤ q ∧ q ≤ 29)) σ τ) → (∀ i, i < k → mor t n (cY t n (bk σ 30) i)) → (PC t n (cY t n (bk σ 30) k) τ) → ((cY t n (bk σ 30) k).2.1 = 0 → τ.1 24 0 = (k : Int) ∧ ∀ i, i < k → cWr τ i (vct t n (cY t n (bk σ 30) i).1) (cV t n (vct t n (cY t n (bk σ 30) i).1) (bk σ 30) (pN t n (cY t n (bk σ 30) i)))) → (k ≤ 1400) → (1401 - k) < N → zX l w mX3_fillFrom (zMQ w 8 0 Q) 11 [zf 3 24, zf 6 1, zf 0 31, zi ((k : Nat) : Int), zu] [] 0 τ := by
    intro N
    induction N with
    | zero => intro τ k _ _ _ _ _ _ _; exact absurd (by assumption) (Nat.not_lt_zero _)
    | succ N ih11 =>
      intro τ k hz h1 h2 h3 h5 hk hN
      have hQk := h3.2.2.1
      have f30 : ∀ q, 30 ≤ q → ∀ i, τ.1 q i = σ.1 q i := fun q hq i => h1.1 q (by dsimp only; omega) i
      have eDk : bk τ 30 = bk σ 30 := funext (fun o => funext (fun i => f30 (30 + o) (by omega) i))
      refine zx_iloadN dX3_fillFrom_11 rfl rfl ?_
      refine zx_sipush dX3_fillFrom_12 rfl ?_
      refine zx_icmp_ge (tgt := 80) (by first | exact hz _ _ | assumption | exact zr_b _ | exact zcmp_r _ _ | (unfold zr at *; omega)) (by first | exact hz _ _ | assumption | exact zr_b _ | exact zcmp_r _ _ | (unfold zr at *; omega)) dX3_fillFrom_15 (by decide) (fun h15 => ?_) (fun h15 => ?_)
      · have hend := cY_end hn.2 hk h2 (by first | (left; omega) | exact Or.inr (fun q => h22 ⟨h3.2.2.2.1.1.trans q.1, fun z => q.2 ((h3.2.2.2.2.1 q.1).2.1.symm.trans z)⟩))
        refine zx_aloadN dX3_fillFrom_80 rfl rfl ?_
        refine zy_cv [] (sX6_isSound  hfl hz ) dX3_fillFrom_81 (by decide) rfl cw_RX3_55 okX6_isSound rfl (Nat.le_of_ble_eq_true rfl) ⟨Nat.le_of_ble_eq_true rfl, Nat.le_of_ble_eq_true rfl, Nat.le_of_ble_eq_true rfl, Nat.le_of_ble_eq_true rfl⟩ ?_
        refine zx_iret rfl (zb_nar _) dX3_fillFrom_84 ?_
        rw [hQ]
        refine ⟨congrArg (fun z : Int => (Sum.inl (some (zi z)) : Option zV ⊕ String)) ?_, ?_⟩
        · rw [hend.2.1]; exact zb_c (by rw [h3.2.2.2.1.1])
        rw [hend.2.1]
        refine ⟨hz, h1, h3, fun z => ⟨k, cY_5 h2 z, hend.2.2, h2, hend.1, (h5 z).1, (h5 z).2⟩⟩
      · refine zx_aloadN dX3_fillFrom_18 rfl rfl ?_
        refine zy_cv [] (sX6_hasMore  hfl hz ) dX3_fillFrom_19 (by decide) rfl cw_RX3_36 okX6_hasMore rfl (Nat.le_of_ble_eq_true rfl) ⟨Nat.le_of_ble_eq_true rfl, Nat.le_of_ble_eq_true rfl, Nat.le_of_ble_eq_true rfl, Nat.le_of_ble_eq_true rfl⟩ ?_
        refine zx_if_eq (tgt := 80) (by first | exact hz _ _ | assumption | exact zr_b _ | exact zcmp_r _ _ | (unfold zr at *; omega)) dX3_fillFrom_22 (by decide) (fun h22 => ?_) (fun h22 => ?_)
        · have h22 := zb_0.mp h22
          have hend := cY_end hn.2 hk h2 (by first | (left; omega) | exact Or.inr (fun q => h22 ⟨h3.2.2.2.1.1.trans q.1, fun z => q.2 ((h3.2.2.2.2.1 q.1).2.1.symm.trans z)⟩))
          refine zx_aloadN dX3_fillFrom_80 rfl rfl ?_
          refine zy_cv [] (sX6_isSound  hfl hz ) dX3_fillFrom_81 (by decide) rfl cw_RX3_55 okX6_isSound rfl (Nat.le_of_ble_eq_true rfl) ⟨Nat.le_of_ble_eq_true rfl, Nat.le_of_ble_eq_true rfl, Nat.le_of_ble_eq_true rfl, Nat.le_of_ble_eq_true rfl⟩ ?_
          refine zx_iret rfl (zb_nar _) dX3_fillFrom_84 ?_
          rw [hQ]
          refine ⟨congrArg (fun z : Int => (Sum.inl (some (zi z)) : Option zV ⊕ String)) ?_, ?_⟩
          · rw [hend.2.1]; exact zb_c (by rw [h3.2.2.2.1.1])
          rw [hend.2.1]
          refine ⟨hz, h1, h3, fun z => ⟨k, cY_5 h2 z, hend.2.2, h2, hend.1, (h5 z).1, (h5 z).2⟩⟩
        · have h22 := zb_n.mp h22
          have hs0 : (cY t n (bk σ 30) k).2.1 = 0 := h3.2.2.2.1.1.symm.trans h22.1
          have hsk : ¬ xK t n (cY t n (bk σ 30) k).1 = 0 := fun q => h22.2 ((h3.2.2.2.2.1 hs0).2.1.trans q)
          have hmk : mor t n (cY t n (bk σ 30) k) := ⟨hs0, hsk⟩
          have hvr := vct_r t n (cY t n (bk σ 30) k).1
          obtain ⟨hkc, hwr⟩ := h5 hs0
          refine zx_aloadN dX3_fillFrom_25 rfl rfl ?_
          refine zy_cs [zf 6 1] (sX3_verbAt (S := (cY t n (bk σ 30) k)) hfl hz h3 hs0) dX3_fillFrom_26 cw_RX3_40 okX3_verbAt rfl (Nat.le_of_ble_eq_true rfl) ⟨Nat.le_of_ble_eq_true rfl, Nat.le_of_ble_eq_true rfl, Nat.le_of_ble_eq_true rfl, Nat.le_of_ble_eq_true rfl⟩ ?_
          refine zy_istore [zf 3 24, zf 6 1, zf 0 31, zi ((k : Nat) : Int), zi (vct t n (cY t n (bk σ 30) k).1)] dX3_fillFrom_29 (Nat.le_of_ble_eq_true rfl) (Nat.le_of_ble_eq_true rfl) rfl rfl ?_
          refine zx_iload dX3_fillFrom_31 rfl ?_
          refine zx_iconst dX3_fillFrom_33 ?_
          refine zx_icmp_ne (tgt := 45) (by first | exact hz _ _ | assumption | exact zr_b _ | exact zcmp_r _ _ | (unfold zr at *; omega)) (by first | exact hz _ _ | assumption | exact zr_b _ | exact zcmp_r _ _ | (unfold zr at *; omega)) dX3_fillFrom_34 (by decide) (fun h34 => ?_) (fun h34 => ?_)
          · refine zx_aloadN dX3_fillFrom_45 rfl rfl ?_
            refine zy_getI fl_RX3_9 rfl dX3_fillFrom_46 rfl ?_
            refine zx_bipush dX3_fillFrom_49 rfl ?_
            refine zx_icmp_lt (tgt := 62) (by first | exact hz _ _ | assumption | exact zr_b _ | exact zcmp_r _ _ | (unfold zr at *; omega)) (by first | exact hz _ _ | assumption | exact zr_b _ | exact zcmp_r _ _ | (unfold zr at *; omega)) dX3_fillFrom_51 (by decide) (fun h51 => ?_) (fun h51 => ?_)
            · refine zx_aloadN dX3_fillFrom_62 rfl rfl ?_
              refine zy_cvvR [] (sX6_takeToken (S := (cY t n (bk σ 30) k)) hfl hz h3 hs0) dX3_fillFrom_63 (by decide) rfl cw_RX3_48 okX6_takeToken rfl (Nat.le_of_ble_eq_true rfl) ⟨Nat.le_of_ble_eq_true rfl, Nat.le_of_ble_eq_true rfl, Nat.le_of_ble_eq_true rfl, Nat.le_of_ble_eq_true rfl⟩ (fun τ63 hr63 => ?_)
              have hz63 : zOK τ63 := hr63.1
              have f63 : ∀ q, 24 ≤ q → ∀ i, τ63.1 q i = τ.1 q i := fun q hq i => hr63.2.1.1 q (by first | omega | (dsimp only; omega)) i
              have eD : bk τ63 30 = bk σ 30 := funext (fun o => funext (fun i => (f63 (30 + o) (by omega) i).trans (f30 (30 + o) (by omega) i)))
              refine zx_aloadN dX3_fillFrom_66 rfl rfl ?_
              refine zx_aloadN dX3_fillFrom_67 rfl rfl ?_
              refine zx_aloadN dX3_fillFrom_68 rfl rfl ?_
              refine zx_iload dX3_fillFrom_69 rfl ?_
              by_cases hb71 : (vct t n (cY t n (bk σ 30) k).1) = 0
              · refine zy_cvvR [zf 6 1, zf 0 31, zi (vct t n (cY t n (bk σ 30) k).1)] (sX3_takeCommand_0 (S := (pN t n (cY t n (bk σ 30) k))) (k := k) hfl hz63 hr63.2.2 (⟨(f63 24 (by omega) 0).trans hkc, by omega⟩) (by rw [f63 31 (by omega), f30 31 (by omega)]; exact hA1) (by rw [f63 31 (by omega), f30 31 (by omega)]; exact hA2) (by omega)) dX3_fillFrom_71 (by decide) rfl cw_RX3_51 okX3_takeCommand rfl (Nat.le_of_ble_eq_true rfl) ⟨Nat.le_of_ble_eq_true rfl, Nat.le_of_ble_eq_true rfl, Nat.le_of_ble_eq_true rfl, Nat.le_of_ble_eq_true rfl⟩ (fun τ71 hr71 => ?_)
                have hz71 : zOK τ71 := hr71.1
                have c71 := hr71
                rw [eD] at c71
                have npc : PC t n (cY t n (bk σ 30) (k + 1)) τ71 := by rw [cY_c hmk h34 (by omega)]; exact c71.2.2.1
                have n1 : zSame (fun q => q = 1 ∨ (24 ≤ q ∧ q ≤ 29)) σ τ71 := zSame_tr (zSame_tr h1 hr63.2.1 (fun q hq => by first | omega | (dsimp only at hq ⊢; omega))) c71.2.1 (fun q hq => by first | omega | (dsimp only at hq ⊢; omega))
                have nm : ∀ i, i < k + 1 → mor t n (cY t n (bk σ 30) i) := fun i hi => by
                  rcases Nat.lt_or_ge i k with q | q
                  · exact h2 i q
                  · rw [show i = k by omega]; exact hmk
                have nv : (cY t n (bk σ 30) (k + 1)).2.1 = 0 → τ71.1 24 0 = ((k + 1 : Nat) : Int) ∧ ∀ i, i < k + 1 → cWr τ71 i (vct t n (cY t n (bk σ 30) i).1) (cV t n (vct t n (cY t n (bk σ 30) i).1) (bk σ 30) (pN t n (cY t n (bk σ 30) i))) := fun z => by
                  rw [cY_c hmk h34 (by omega)] at z
                  have hvv := c71.2.2.2.2 z
                  refine ⟨hvv.1, fun i hi => ?_⟩
                  rcases Nat.lt_or_ge i k with q | q
                  · exact cWr_e (fun q h1 h2 => (c71.2.2.2.1 q h1 h2 i (by omega)).trans (f63 q (by omega) i)) (hwr i q)
                  · have ei : i = k := by omega
                    subst ei
                    exact ⟨by have := hvv.2; omega, by have := hvv.2; omega, fun c => by have := hvv.2; omega, fun c => by have := hvv.2; omega, fun c => by have := hvv.2; omega⟩
                refine zy_iinc (b := ((k + 1 : Nat) : Int)) [zf 3 24, zf 6 1, zf 0 31, zi ((k + 1 : Nat) : Int), zi (vct t n (cY t n (bk σ 30) k).1)] dX3_fillFrom_74 rfl (by omega) (Nat.le_of_ble_eq_true rfl) rfl rfl ?_
                refine zx_goto (tgt := 11) dX3_fillFrom_77 (by decide) ?_
                refine zy_drop 4 [zf 3 24, zf 6 1, zf 0 31, zi ((k + 1 : Nat) : Int), zu] rfl ?_
                exact ih11 τ71 (k + 1) hz71 n1 nm npc nv (by first | assumption | omega) (by omega)
              · by_cases hb71b : (vct t n (cY t n (bk σ 30) k).1) = 1
                · refine zy_cvvR [zf 6 1, zf 0 31, zi (vct t n (cY t n (bk σ 30) k).1)] (sX3_takeCommand_1 (S := (pN t n (cY t n (bk σ 30) k))) (k := k) hfl hz63 hr63.2.2 (⟨(f63 24 (by omega) 0).trans hkc, by omega⟩) (by rw [f63 31 (by omega), f30 31 (by omega)]; exact hA1) (by rw [f63 31 (by omega), f30 31 (by omega)]; exact hA2) (by omega)) dX3_fillFrom_71 (by decide) rfl cw_RX3_51 okX3_takeCommand rfl (Nat.le_of_ble_eq_true rfl) ⟨Nat.le_of_ble_eq_true rfl, Nat.le_of_ble_eq_true rfl, Nat.le_of_ble_eq_true rfl, Nat.le_of_ble_eq_true rfl⟩ (fun τ71 hr71 => ?_)
                  have hz71 : zOK τ71 := hr71.1
                  have c71 := hr71
                  rw [eD] at c71
                  have npc : PC t n (cY t n (bk σ 30) (k + 1)) τ71 := by rw [cY_c hmk h34 (by omega)]; exact c71.2.2.1
                  have n1 : zSame (fun q => q = 1 ∨ (24 ≤ q ∧ q ≤ 29)) σ τ71 := zSame_tr (zSame_tr h1 hr63.2.1 (fun q hq => by first | omega | (dsimp only at hq ⊢; omega))) c71.2.1 (fun q hq => by first | omega | (dsimp only at hq ⊢; omega))
                  have nm : ∀ i, i < k + 1 → mor t n (cY t n (bk σ 30) i) := fun i hi => by
                    rcases Nat.lt_or_ge i k with q | q
                    · exact h2 i q
                    · rw [show i = k by omega]; exact hmk
                  have nv : (cY t n (bk σ 30) (k + 1)).2.1 = 0 → τ71.1 24 0 = ((k + 1 : Nat) : Int) ∧ ∀ i, i < k + 1 → cWr τ71 i (vct t n (cY t n (bk σ 30) i).1) (cV t n (vct t n (cY t n (bk σ 30) i).1) (bk σ 30) (pN t n (cY t n (bk σ 30) i))) := fun z => by
                    rw [cY_c hmk h34 (by omega)] at z
                    have hvv := c71.2.2.2.2 z
                    refine ⟨hvv.1, fun i hi => ?_⟩
                    rcases Nat.lt_or_ge i k with q | q
                    · exact cWr_e (fun q h1 h2 => (c71.2.2.2.1 q h1 h2 i (by omega)).trans (f63 q (by omega) i)) (hwr i q)
                    · have ei : i = k := by omega
                      subst ei
                      exact ⟨by have := hvv.2; omega, by have := hvv.2; omega, fun c => by have := hvv.2; omega, fun c => by have := hvv.2; omega, fun c => by have := hvv.2; omega⟩
                  refine zy_iinc (b := ((k + 1 : Nat) : Int)) [zf 3 24, zf 6 1, zf 0 31, zi ((k + 1 : Nat) : Int), zi (vct t n (cY t n (bk σ 30) k).1)] dX3_fillFrom_74 rfl (by omega) (Nat.le_of_ble_eq_true rfl) rfl rfl ?_
                  refine zx_goto (tgt := 11) dX3_fillFrom_77 (by decide) ?_
                  refine zy_drop 4 [zf 3 24, zf 6 1, zf 0 31, zi ((k + 1 : Nat) : Int), zu] rfl ?_
                  exact ih11 τ71 (k + 1) hz71 n1 nm npc nv (by first | assumption | omega) (by omega)
                · by_cases hb71bb : (vct t n (cY t n (bk σ 30) k).1) = 2
                  · refine zy_cvvR [zf 6 1, zf 0 31, zi (vct t n (cY t n (bk σ 30) k).1)] (sX3_takeCommand_2 (S := (pN t n (cY t n (bk σ 30) k))) (k := k) hfl hz63 hr63.2.2 (⟨(f63 24 (by omega) 0).trans hkc, by omega⟩) (by rw [f63 31 (by omega), f30 31 (by omega)]; exact hA1) (by rw [f63 31 (by omega), f30 31 (by omega)]; exact hA2) (by omega)) dX3_fillFrom_71 (by decide) rfl cw_RX3_51 okX3_takeCommand rfl (Nat.le_of_ble_eq_true rfl) ⟨Nat.le_of_ble_eq_true rfl, Nat.le_of_ble_eq_true rfl, Nat.le_of_ble_eq_true rfl, Nat.le_of_ble_eq_true rfl⟩ (fun τ71 hr71 => ?_)
                    have hz71 : zOK τ71 := hr71.1
                    have c71 := hr71
                    rw [eD] at c71
                    have npc : PC t n (cY t n (bk σ 30) (k + 1)) τ71 := by rw [cY_c hmk h34 (by omega)]; exact c71.2.2.1
                    have n1 : zSame (fun q => q = 1 ∨ (24 ≤ q ∧ q ≤ 29)) σ τ71 := zSame_tr (zSame_tr h1 hr63.2.1 (fun q hq => by first | omega | (dsimp only at hq ⊢; omega))) c71.2.1 (fun q hq => by first | omega | (dsimp only at hq ⊢; omega))
                    have nm : ∀ i, i < k + 1 → mor t n (cY t n (bk σ 30) i) := fun i hi => by
                      rcases Nat.lt_or_ge i k with q | q
                      · exact h2 i q
                      · rw [show i = k by omega]; exact hmk
                    have nv : (cY t n (bk σ 30) (k + 1)).2.1 = 0 → τ71.1 24 0 = ((k + 1 : Nat) : Int) ∧ ∀ i, i < k + 1 → cWr τ71 i (vct t n (cY t n (bk σ 30) i).1) (cV t n (vct t n (cY t n (bk σ 30) i).1) (bk σ 30) (pN t n (cY t n (bk σ 30) i))) := fun z => by
                      rw [cY_c hmk h34 (by omega)] at z
                      have hvv := c71.2.2.2.2 z
                      refine ⟨hvv.1, fun i hi => ?_⟩
                      rcases Nat.lt_or_ge i k with q | q
                      · exact cWr_e (fun q h1 h2 => (c71.2.2.2.1 q h1 h2 i (by omega)).trans (f63 q (by omega) i)) (hwr i q)
                      · have ei : i = k := by omega
                        subst ei
                        exact ⟨by have := hvv.2; omega, by have := hvv.2; omega, fun c => by have := hvv.2; omega, fun c => by have := hvv.2; omega, fun c => by have := hvv.2; omega⟩
                    refine zy_iinc (b := ((k + 1 : Nat) : Int)) [zf 3 24, zf 6 1, zf 0 31, zi ((k + 1 : Nat) : Int), zi (vct t n (cY t n (bk σ 30) k).1)] dX3_fillFrom_74 rfl (by omega) (Nat.le_of_ble_eq_true rfl) rfl rfl ?_
                    refine zx_goto (tgt := 11) dX3_fillFrom_77 (by decide) ?_
                    refine zy_drop 4 [zf 3 24, zf 6 1, zf 0 31, zi ((k + 1 : Nat) : Int), zu] rfl ?_
                    exact ih11 τ71 (k + 1) hz71 n1 nm npc nv (by first | assumption | omega) (by omega)
                  · by_cases hb71bbb : (vct t n (cY t n (bk σ 30) k).1) = 3
                    · refine zy_cvvR [zf 6 1, zf 0 31, zi (vct t n (cY t n (bk σ 30) k).1)] (sX3_takeCommand_3 (S := (pN t n (cY t n (bk σ 30) k))) (k := k) hfl hz63 hr63.2.2 (⟨(f63 24 (by omega) 0).trans hkc, by omega⟩) (by rw [f63 31 (by omega), f30 31 (by omega)]; exact hA1) (by rw [f63 31 (by omega), f30 31 (by omega)]; exact hA2) (by omega)) dX3_fillFrom_71 (by decide) rfl cw_RX3_51 okX3_takeCommand rfl (Nat.le_of_ble_eq_true rfl) ⟨Nat.le_of_ble_eq_true rfl, Nat.le_of_ble_eq_true rfl, Nat.le_of_ble_eq_true rfl, Nat.le_of_ble_eq_true rfl⟩ (fun τ71 hr71 => ?_)
                      have hz71 : zOK τ71 := hr71.1
                      have c71 := hr71
                      rw [eD] at c71
                      have npc : PC t n (cY t n (bk σ 30) (k + 1)) τ71 := by rw [cY_c hmk h34 (by omega)]; exact c71.2.2.1
                      have n1 : zSame (fun q => q = 1 ∨ (24 ≤ q ∧ q ≤ 29)) σ τ71 := zSame_tr (zSame_tr h1 hr63.2.1 (fun q hq => by first | omega | (dsimp only at hq ⊢; omega))) c71.2.1 (fun q hq => by first | omega | (dsimp only at hq ⊢; omega))
                      have nm : ∀ i, i < k + 1 → mor t n (cY t n (bk σ 30) i) := fun i hi => by
                        rcases Nat.lt_or_ge i k with q | q
                        · exact h2 i q
                        · rw [show i = k by omega]; exact hmk
                      have nv : (cY t n (bk σ 30) (k + 1)).2.1 = 0 → τ71.1 24 0 = ((k + 1 : Nat) : Int) ∧ ∀ i, i < k + 1 → cWr τ71 i (vct t n (cY t n (bk σ 30) i).1) (cV t n (vct t n (cY t n (bk σ 30) i).1) (bk σ 30) (pN t n (cY t n (bk σ 30) i))) := fun z => by
                        rw [cY_c hmk h34 (by omega)] at z
                        have hvv := c71.2.2.2.2 z
                        refine ⟨hvv.1, fun i hi => ?_⟩
                        rcases Nat.lt_or_ge i k with q | q
                        · exact cWr_e (fun q h1 h2 => (c71.2.2.2.1 q h1 h2 i (by omega)).trans (f63 q (by omega) i)) (hwr i q)
                        · have ei : i = k := by omega
                          subst ei
                          exact ⟨by have := hvv.2; omega, by have := hvv.2; omega, fun c => by have := hvv.2; omega, fun c => by have := hvv.2; omega, fun c => by have := hvv.2; omega⟩
                      refine zy_iinc (b := ((k + 1 : Nat) : Int)) [zf 3 24, zf 6 1, zf 0 31, zi ((k + 1 : Nat) : Int), zi (vct t n (cY t n (bk σ 30) k).1)] dX3_fillFrom_74 rfl (by omega) (Nat.le_of_ble_eq_true rfl) rfl rfl ?_
                      refine zx_goto (tgt := 11) dX3_fillFrom_77 (by decide) ?_
                      refine zy_drop 4 [zf 3 24, zf 6 1, zf 0 31, zi ((k + 1 : Nat) : Int), zu] rfl ?_
                      exact ih11 τ71 (k + 1) hz71 n1 nm npc nv (by first | assumption | omega) (by omega)
                    · by_cases hb71bbbb : (vct t n (cY t n (bk σ 30) k).1) = 4
                      · refine zy_cvvR [zf 6 1, zf 0 31, zi (vct t n (cY t n (bk σ 30) k).1)] (sX3_takeCommand_4 (S := (pN t n (cY t n (bk σ 30) k))) (k := k) hfl hz63 hr63.2.2 (⟨(f63 24 (by omega) 0).trans hkc, by omega⟩) (by rw [f63 31 (by omega), f30 31 (by omega)]; exact hA1) (by rw [f63 31 (by omega), f30 31 (by omega)]; exact hA2) (by omega)) dX3_fillFrom_71 (by decide) rfl cw_RX3_51 okX3_takeCommand rfl (Nat.le_of_ble_eq_true rfl) ⟨Nat.le_of_ble_eq_true rfl, Nat.le_of_ble_eq_true rfl, Nat.le_of_ble_eq_true rfl, Nat.le_of_ble_eq_true rfl⟩ (fun τ71 hr71 => ?_)
                        have hz71 : zOK τ71 := hr71.1
                        have c71 := hr71
                        rw [eD] at c71
                        have npc : PC t n (cY t n (bk σ 30) (k + 1)) τ71 := by rw [cY_c hmk h34 (by omega)]; exact c71.2.2.1
                        have n1 : zSame (fun q => q = 1 ∨ (24 ≤ q ∧ q ≤ 29)) σ τ71 := zSame_tr (zSame_tr h1 hr63.2.1 (fun q hq => by first | omega | (dsimp only at hq ⊢; omega))) c71.2.1 (fun q hq => by first | omega | (dsimp only at hq ⊢; omega))
                        have nm : ∀ i, i < k + 1 → mor t n (cY t n (bk σ 30) i) := fun i hi => by
                          rcases Nat.lt_or_ge i k with q | q
                          · exact h2 i q
                          · rw [show i = k by omega]; exact hmk
                        have nv : (cY t n (bk σ 30) (k + 1)).2.1 = 0 → τ71.1 24 0 = ((k + 1 : Nat) : Int) ∧ ∀ i, i < k + 1 → cWr τ71 i (vct t n (cY t n (bk σ 30) i).1) (cV t n (vct t n (cY t n (bk σ 30) i).1) (bk σ 30) (pN t n (cY t n (bk σ 30) i))) := fun z => by
                          rw [cY_c hmk h34 (by omega)] at z
                          have hvv := c71.2.2.2.2 z
                          refine ⟨hvv.1, fun i hi => ?_⟩
                          rcases Nat.lt_or_ge i k with q | q
                          · exact cWr_e (fun q h1 h2 => (c71.2.2.2.1 q h1 h2 i (by omega)).trans (f63 q (by omega) i)) (hwr i q)
                          · have ei : i = k := by omega
                            subst ei
                            exact ⟨by have := hvv.2; omega, by have := hvv.2; omega, fun c => by have := hvv.2; omega, fun c => by have := hvv.2; omega, fun c => by have := hvv.2; omega⟩
                        refine zy_iinc (b := ((k + 1 : Nat) : Int)) [zf 3 24, zf 6 1, zf 0 31, zi ((k + 1 : Nat) : Int), zi (vct t n (cY t n (bk σ 30) k).1)] dX3_fillFrom_74 rfl (by omega) (Nat.le_of_ble_eq_true rfl) rfl rfl ?_
                        refine zx_goto (tgt := 11) dX3_fillFrom_77 (by decide) ?_
                        refine zy_drop 4 [zf 3 24, zf 6 1, zf 0 31, zi ((k + 1 : Nat) : Int), zu] rfl ?_
                        exact ih11 τ71 (k + 1) hz71 n1 nm npc nv (by first | assumption | omega) (by omega)
                      · refine zy_cvvR [zf 6 1, zf 0 31, zi (vct t n (cY t n (bk σ 30) k).1)] (sX3_takeCommand_5 (S := (pN t n (cY t n (bk σ 30) k))) (k := k) hfl hz63 hr63.2.2 (⟨(f63 24 (by omega) 0).trans hkc, by omega⟩) (by rw [f63 31 (by omega), f30 31 (by omega)]; exact hA1) (by rw [f63 31 (by omega), f30 31 (by omega)]; exact hA2) (by omega)) dX3_fillFrom_71 (by decide) rfl cw_RX3_51 okX3_takeCommand rfl (Nat.le_of_ble_eq_true rfl) ⟨Nat.le_of_ble_eq_true rfl, Nat.le_of_ble_eq_true rfl, Nat.le_of_ble_eq_true rfl, Nat.le_of_ble_eq_true rfl⟩ (fun τ71 hr71 => ?_)
                        have hz71 : zOK τ71 := hr71.1
                        have c71 := hr71
                        rw [eD] at c71
                        have npc : PC t n (cY t n (bk σ 30) (k + 1)) τ71 := by rw [cY_c hmk h34 (by omega)]; exact c71.2.2.1
                        have n1 : zSame (fun q => q = 1 ∨ (24 ≤ q ∧ q ≤ 29)) σ τ71 := zSame_tr (zSame_tr h1 hr63.2.1 (fun q hq => by first | omega | (dsimp only at hq ⊢; omega))) c71.2.1 (fun q hq => by first | omega | (dsimp only at hq ⊢; omega))
                        have nm : ∀ i, i < k + 1 → mor t n (cY t n (bk σ 30) i) := fun i hi => by
                          rcases Nat.lt_or_ge i k with q | q
                          · exact h2 i q
                          · rw [show i = k by omega]; exact hmk
                        have nv : (cY t n (bk σ 30) (k + 1)).2.1 = 0 → τ71.1 24 0 = ((k + 1 : Nat) : Int) ∧ ∀ i, i < k + 1 → cWr τ71 i (vct t n (cY t n (bk σ 30) i).1) (cV t n (vct t n (cY t n (bk σ 30) i).1) (bk σ 30) (pN t n (cY t n (bk σ 30) i))) := fun z => by
                          rw [cY_c hmk h34 (by omega)] at z
                          have hvv := c71.2.2.2.2 z
                          refine ⟨hvv.1, fun i hi => ?_⟩
                          rcases Nat.lt_or_ge i k with q | q
                          · exact cWr_e (fun q h1 h2 => (c71.2.2.2.1 q h1 h2 i (by omega)).trans (f63 q (by omega) i)) (hwr i q)
                          · have ei : i = k := by omega
                            subst ei
                            exact ⟨by have := hvv.2; omega, by have := hvv.2; omega, fun c => by have := hvv.2; omega, fun c => by have := hvv.2; omega, fun c => by have := hvv.2; omega⟩
                        refine zy_iinc (b := ((k + 1 : Nat) : Int)) [zf 3 24, zf 6 1, zf 0 31, zi ((k + 1 : Nat) : Int), zi (vct t n (cY t n (bk σ 30) k).1)] dX3_fillFrom_74 rfl (by omega) (Nat.le_of_ble_eq_true rfl) rfl rfl ?_
                        refine zx_goto (tgt := 11) dX3_fillFrom_77 (by decide) ?_
                        refine zy_drop 4 [zf 3 24, zf 6 1, zf 0 31, zi ((k + 1 : Nat) : Int), zu] rfl ?_
                        exact ih11 τ71 (k + 1) hz71 n1 nm npc nv (by first | assumption | omega) (by omega)
            · refine zx_aloadN dX3_fillFrom_54 rfl rfl ?_
              refine zx_iconst dX3_fillFrom_55 ?_
              refine zy_cvvR [zi 4] (sX6_fail (S := (cY t n (bk σ 30) k)) hfl hz (by omega) h3) dX3_fillFrom_56 (by decide) rfl cw_RX3_44 okX6_fail rfl (Nat.le_of_ble_eq_true rfl) ⟨Nat.le_of_ble_eq_true rfl, Nat.le_of_ble_eq_true rfl, Nat.le_of_ble_eq_true rfl, Nat.le_of_ble_eq_true rfl⟩ (fun τ56 hr56 => ?_)
              have hz56 : zOK τ56 := hr56.1
              have npc : PC t n (cY t n (bk σ 30) (k + 1)) τ56 := by rw [cY_l hmk h34 (by omega)]; exact hr56.2.2
              have n1 : zSame (fun q => q = 1 ∨ (24 ≤ q ∧ q ≤ 29)) σ τ56 := zSame_tr h1 hr56.2.1 (fun q hq => by first | omega | (dsimp only at hq ⊢; omega))
              have nm : ∀ i, i < k + 1 → mor t n (cY t n (bk σ 30) i) := fun i hi => by
                rcases Nat.lt_or_ge i k with q | q
                · exact h2 i q
                · rw [show i = k by omega]; exact hmk
              have nv : (cY t n (bk σ 30) (k + 1)).2.1 = 0 → τ56.1 24 0 = ((k + 1 : Nat) : Int) ∧ ∀ i, i < k + 1 → cWr τ56 i (vct t n (cY t n (bk σ 30) i).1) (cV t n (vct t n (cY t n (bk σ 30) i).1) (bk σ 30) (pN t n (cY t n (bk σ 30) i))) := fun z => by rw [cY_l hmk h34 (by omega)] at z; exact absurd z (pF_nz (by decide))
              refine zx_goto (tgt := 74) dX3_fillFrom_59 (by decide) ?_
              refine zy_iinc (b := ((k + 1 : Nat) : Int)) [zf 3 24, zf 6 1, zf 0 31, zi ((k + 1 : Nat) : Int), zi (vct t n (cY t n (bk σ 30) k).1)] dX3_fillFrom_74 rfl (by omega) (Nat.le_of_ble_eq_true rfl) rfl rfl ?_
              refine zx_goto (tgt := 11) dX3_fillFrom_77 (by decide) ?_
              refine zy_drop 4 [zf 3 24, zf 6 1, zf 0 31, zi ((k + 1 : Nat) : Int), zu] rfl ?_
              exact ih11 τ56 (k + 1) hz56 n1 nm npc nv (by first | assumption | omega) (by omega)
          · refine zx_aloadN dX3_fillFrom_37 rfl rfl ?_
            refine zx_iconst dX3_fillFrom_38 ?_
            refine zy_cvvR [zi 1] (sX6_fail (S := (cY t n (bk σ 30) k)) hfl hz (by omega) h3) dX3_fillFrom_39 (by decide) rfl cw_RX3_44 okX6_fail rfl (Nat.le_of_ble_eq_true rfl) ⟨Nat.le_of_ble_eq_true rfl, Nat.le_of_ble_eq_true rfl, Nat.le_of_ble_eq_true rfl, Nat.le_of_ble_eq_true rfl⟩ (fun τ39 hr39 => ?_)
            have hz39 : zOK τ39 := hr39.1
            have npc : PC t n (cY t n (bk σ 30) (k + 1)) τ39 := by rw [cY_n hmk h34]; exact hr39.2.2
            have n1 : zSame (fun q => q = 1 ∨ (24 ≤ q ∧ q ≤ 29)) σ τ39 := zSame_tr h1 hr39.2.1 (fun q hq => by first | omega | (dsimp only at hq ⊢; omega))
            have nm : ∀ i, i < k + 1 → mor t n (cY t n (bk σ 30) i) := fun i hi => by
              rcases Nat.lt_or_ge i k with q | q
              · exact h2 i q
              · rw [show i = k by omega]; exact hmk
            have nv : (cY t n (bk σ 30) (k + 1)).2.1 = 0 → τ39.1 24 0 = ((k + 1 : Nat) : Int) ∧ ∀ i, i < k + 1 → cWr τ39 i (vct t n (cY t n (bk σ 30) i).1) (cV t n (vct t n (cY t n (bk σ 30) i).1) (bk σ 30) (pN t n (cY t n (bk σ 30) i))) := fun z => by rw [cY_n hmk h34] at z; exact absurd z (pF_nz (by decide))
            refine zx_goto (tgt := 74) dX3_fillFrom_42 (by decide) ?_
            refine zy_iinc (b := ((k + 1 : Nat) : Int)) [zf 3 24, zf 6 1, zf 0 31, zi ((k + 1 : Nat) : Int), zi (vct t n (cY t n (bk σ 30) k).1)] dX3_fillFrom_74 rfl (by omega) (Nat.le_of_ble_eq_true rfl) rfl rfl ?_
            refine zx_goto (tgt := 11) dX3_fillFrom_77 (by decide) ?_
            refine zy_drop 4 [zf 3 24, zf 6 1, zf 0 31, zi ((k + 1 : Nat) : Int), zu] rfl ?_
            exact ih11 τ39 (k + 1) hz39 n1 nm npc nv (by first | assumption | omega) (by omega)
  exact L11 _ τ6 0 hz6 hi1 (fun i hi => absurd hi (Nat.not_lt_zero i)) hr6.2.2 (fun _ => ⟨hi5, fun i hi => absurd hi (Nat.not_lt_zero i)⟩) (by first | assumption | omega) (Nat.lt_succ_self _)

