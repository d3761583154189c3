abbrev mX9_formatVerdict : zM := (yX9_formatVerdict, cX9_formatVerdict, 3, (some .int), [])
theorem okX9_formatVerdict : zMok mX9_formatVerdict 0 := ⟨by decide, by decide, by decide +kernel⟩
theorem dX9_formatVerdict_0 : decode cX9_formatVerdict 0 = .ok (.aload_n 0, 1) := by decide +kernel
theorem dX9_formatVerdict_1 : decode cX9_formatVerdict 1 = .ok (.invokevirtual 240, 3) := by decide +kernel
theorem dX9_formatVerdict_4 : decode cX9_formatVerdict 4 = .ok (.aload_n 0, 1) := by decide +kernel
theorem dX9_formatVerdict_5 : decode cX9_formatVerdict 5 = .ok (.getfield 61, 3) := by decide +kernel
theorem dX9_formatVerdict_8 : decode cX9_formatVerdict 8 = .ok (.invokevirtual 329, 3) := by decide +kernel
theorem cw_RX9_329 : zCwV RX9 329 mX8_clear := zall [977, 978, 979, 122, 980] (by decide +kernel) (by decide +kernel)
theorem dX9_formatVerdict_11 : decode cX9_formatVerdict 11 = .ok (.aload_n 0, 1) := by decide +kernel
theorem dX9_formatVerdict_12 : decode cX9_formatVerdict 12 = .ok (.getfield 61, 3) := by decide +kernel
theorem dX9_formatVerdict_15 : decode cX9_formatVerdict 15 = .ok (.aload_n 0, 1) := by decide +kernel
theorem dX9_formatVerdict_16 : decode cX9_formatVerdict 16 = .ok (.getfield 33, 3) := by decide +kernel
theorem dX9_formatVerdict_19 : decode cX9_formatVerdict 19 = .ok (.getfield 134, 3) := by decide +kernel
theorem dX9_formatVerdict_22 : decode cX9_formatVerdict 22 = .ok (.aload_n 0, 1) := by decide +kernel
theorem dX9_formatVerdict_23 : decode cX9_formatVerdict 23 = .ok (.getfield 54, 3) := by decide +kernel
theorem dX9_formatVerdict_26 : decode cX9_formatVerdict 26 = .ok (.invokevirtual 255, 3) := by decide +kernel
theorem dX9_formatVerdict_29 : decode cX9_formatVerdict 29 = .ok (.invokevirtual 332, 3) := by decide +kernel
theorem cw_RX9_332 : zCwV RX9 332 mX0_nameAt := zall [981, 982, 983, 117, 984] (by decide +kernel) (by decide +kernel)
theorem dX9_formatVerdict_32 : decode cX9_formatVerdict 32 = .ok (.invokevirtual 335, 3) := by decide +kernel
theorem cw_RX9_335 : zCwV RX9 335 mX8_putName := zall [985, 986, 987, 122, 988] (by decide +kernel) (by decide +kernel)
theorem dX9_formatVerdict_35 : decode cX9_formatVerdict 35 = .ok (.aload_n 0, 1) := by decide +kernel
theorem dX9_formatVerdict_36 : decode cX9_formatVerdict 36 = .ok (.getfield 61, 3) := by decide +kernel
theorem dX9_formatVerdict_39 : decode cX9_formatVerdict 39 = .ok (.bipush 32, 2) := by decide +kernel
theorem dX9_formatVerdict_41 : decode cX9_formatVerdict 41 = .ok (.invokevirtual 338, 3) := by decide +kernel
theorem cw_RX9_338 : zCwV RX9 338 mX8_put := zall [993, 990, 991, 122, 992] (by decide +kernel) (by decide +kernel)
theorem dX9_formatVerdict_44 : decode cX9_formatVerdict 44 = .ok (.aload_n 0, 1) := by decide +kernel
theorem dX9_formatVerdict_45 : decode cX9_formatVerdict 45 = .ok (.getfield 61, 3) := by decide +kernel
theorem dX9_formatVerdict_48 : decode cX9_formatVerdict 48 = .ok (.aload_n 0, 1) := by decide +kernel
theorem dX9_formatVerdict_49 : decode cX9_formatVerdict 49 = .ok (.getfield 54, 3) := by decide +kernel
theorem dX9_formatVerdict_52 : decode cX9_formatVerdict 52 = .ok (.invokevirtual 258, 3) := by decide +kernel
theorem dX9_formatVerdict_55 : decode cX9_formatVerdict 55 = .ok (.invokevirtual 341, 3) := by decide +kernel
theorem cw_RX9_341 : zCwV RX9 341 mX8_putNumber := zall [994, 995, 996, 122, 997] (by decide +kernel) (by decide +kernel)
theorem dX9_formatVerdict_58 : decode cX9_formatVerdict 58 = .ok (.iconst 0, 1) := by decide +kernel
theorem dX9_formatVerdict_59 : decode cX9_formatVerdict 59 = .ok (.istore_n 1, 1) := by decide +kernel
theorem dX9_formatVerdict_60 : decode cX9_formatVerdict 60 = .ok (.iload_n 1, 1) := by decide +kernel
theorem dX9_formatVerdict_61 : decode cX9_formatVerdict 61 = .ok (.aload_n 0, 1) := by decide +kernel
theorem dX9_formatVerdict_62 : decode cX9_formatVerdict 62 = .ok (.getfield 33, 3) := by decide +kernel
theorem dX9_formatVerdict_65 : decode cX9_formatVerdict 65 = .ok (.getfield 125, 3) := by decide +kernel
theorem dX9_formatVerdict_68 : decode cX9_formatVerdict 68 = .ok (.getfield 129, 3) := by decide +kernel
theorem dX9_formatVerdict_71 : decode cX9_formatVerdict 71 = .ok (.if_icmp .ge 69, 3) := by decide +kernel
theorem dX9_formatVerdict_140 : decode cX9_formatVerdict 140 = .ok (.aload_n 0, 1) := by decide +kernel
theorem dX9_formatVerdict_141 : decode cX9_formatVerdict 141 = .ok (.getfield 61, 3) := by decide +kernel
theorem dX9_formatVerdict_144 : decode cX9_formatVerdict 144 = .ok (.getfield 347, 3) := by decide +kernel
theorem fl_RX9_347 : zFl RX9 347 8 1 := ⟨RX8, TX8, 2, rfl, by decide, zmem1 407 (by decide +kernel) rfl, rfl⟩
theorem dX9_formatVerdict_147 : decode cX9_formatVerdict 147 = .ok (.ireturn, 1) := by decide +kernel
theorem dX9_formatVerdict_74 : decode cX9_formatVerdict 74 = .ok (.aload_n 0, 1) := by decide +kernel
theorem dX9_formatVerdict_75 : decode cX9_formatVerdict 75 = .ok (.getfield 33, 3) := by decide +kernel
theorem dX9_formatVerdict_78 : decode cX9_formatVerdict 78 = .ok (.getfield 125, 3) := by decide +kernel
theorem dX9_formatVerdict_81 : decode cX9_formatVerdict 81 = .ok (.iload_n 1, 1) := by decide +kernel
theorem dX9_formatVerdict_82 : decode cX9_formatVerdict 82 = .ok (.invokevirtual 226, 3) := by decide +kernel
theorem dX9_formatVerdict_85 : decode cX9_formatVerdict 85 = .ok (.istore_n 2, 1) := by decide +kernel
theorem dX9_formatVerdict_86 : decode cX9_formatVerdict 86 = .ok (.aload_n 0, 1) := by decide +kernel
theorem dX9_formatVerdict_87 : decode cX9_formatVerdict 87 = .ok (.getfield 54, 3) := by decide +kernel
theorem dX9_formatVerdict_90 : decode cX9_formatVerdict 90 = .ok (.iload_n 2, 1) := by decide +kernel
theorem dX9_formatVerdict_91 : decode cX9_formatVerdict 91 = .ok (.invokevirtual 344, 3) := by decide +kernel
theorem cw_RX9_344 : zCwV RX9 344 mX7_heeds := zall [998, 888, 889, 121, 890] (by decide +kernel) (by decide +kernel)
theorem dX9_formatVerdict_94 : decode cX9_formatVerdict 94 = .ok (.ifCond .eq 40, 3) := by decide +kernel
theorem dX9_formatVerdict_134 : decode cX9_formatVerdict 134 = .ok (.iinc 1 1, 3) := by decide +kernel
theorem dX9_formatVerdict_137 : decode cX9_formatVerdict 137 = .ok (.goto (-77), 3) := by decide +kernel
theorem dX9_formatVerdict_97 : decode cX9_formatVerdict 97 = .ok (.aload_n 0, 1) := by decide +kernel
theorem dX9_formatVerdict_98 : decode cX9_formatVerdict 98 = .ok (.getfield 61, 3) := by decide +kernel
theorem dX9_formatVerdict_101 : decode cX9_formatVerdict 101 = .ok (.aload_n 0, 1) := by decide +kernel
theorem dX9_formatVerdict_102 : decode cX9_formatVerdict 102 = .ok (.getfield 54, 3) := by decide +kernel
theorem dX9_formatVerdict_105 : decode cX9_formatVerdict 105 = .ok (.aload_n 0, 1) := by decide +kernel
theorem dX9_formatVerdict_106 : decode cX9_formatVerdict 106 = .ok (.getfield 33, 3) := by decide +kernel
theorem dX9_formatVerdict_109 : decode cX9_formatVerdict 109 = .ok (.iload_n 2, 1) := by decide +kernel
theorem dX9_formatVerdict_110 : decode cX9_formatVerdict 110 = .ok (.invokevirtual 267, 3) := by decide +kernel
theorem dX9_formatVerdict_113 : decode cX9_formatVerdict 113 = .ok (.ifCond .eq 8, 3) := by decide +kernel
theorem dX9_formatVerdict_121 : decode cX9_formatVerdict 121 = .ok (.bipush 43, 2) := by decide +kernel
theorem dX9_formatVerdict_123 : decode cX9_formatVerdict 123 = .ok (.invokevirtual 338, 3) := by decide +kernel
theorem dX9_formatVerdict_126 : decode cX9_formatVerdict 126 = .ok (.aload_n 0, 1) := by decide +kernel
theorem dX9_formatVerdict_127 : decode cX9_formatVerdict 127 = .ok (.getfield 61, 3) := by decide +kernel
theorem dX9_formatVerdict_130 : decode cX9_formatVerdict 130 = .ok (.iload_n 2, 1) := by decide +kernel
theorem dX9_formatVerdict_131 : decode cX9_formatVerdict 131 = .ok (.invokevirtual 341, 3) := by decide +kernel
theorem dX9_formatVerdict_116 : decode cX9_formatVerdict 116 = .ok (.bipush 45, 2) := by decide +kernel
theorem dX9_formatVerdict_118 : decode cX9_formatVerdict 118 = .ok (.goto 5, 3) := by decide +kernel

set_option maxRecDepth 20000 in
set_option maxHeartbeats 2000000 in
theorem sX9_formatVerdict {l : Launch} {w : zW} (hfl : l.stackTraces = false) {σ : zS}  (hz : zOK σ) (hW : WF (bk σ 30)) (hP1 : 1 ≤ σ.1 31 0) : Sp l w mX9_formatVerdict 6 0 [zf 9 0] σ (zqv (some (zi ((fmL (bk σ 30) (σ.1 42 0).toNat).length : Int))) (fun τ => zOK τ ∧ zSame (fun q => 252 ≤ q ∧ q ≤ 260) σ τ ∧ Out τ (fmL (bk σ 30) (σ.1 42 0).toNat))) := by
  obtain ⟨Q, hQ⟩ : ∃ Q : zQ, Q = (zqv (some (zi ((fmL (bk σ 30) (σ.1 42 0).toNat).length : Int))) (fun τ => zOK τ ∧ zSame (fun q => 252 ≤ q ∧ q ≤ 260) σ τ ∧ Out τ (fmL (bk σ 30) (σ.1 42 0).toNat))) := ⟨_, rfl⟩
  rw [← hQ]
  refine zx_enter hfl (by decide) rfl 2 rfl ?_
  show zX l w mX9_formatVerdict (zMQ w 6 0 Q) 0 [zf 9 0, zu, zu] [] 0 σ
  have hP : 0 ≤ σ.1 31 0 ∧ σ.1 31 0 ≤ 8 := hW.1.1
  have hM : 0 ≤ σ.1 31 7 ∧ σ.1 31 7 ≤ 8 := hW.1.2.1
  have hE : 0 ≤ σ.1 31 10 ∧ σ.1 31 10 ≤ 12 := hW.1.2.2.1
  have hK : 0 ≤ σ.1 42 0 ∧ σ.1 42 0 ≤ 40 := hW.1.2.2.2
  refine zx_aloadN dX9_formatVerdict_0 rfl rfl ?_
  refine zy_cvvR [] (sX9_judgePresent  hfl hz (by first | assumption | omega)) dX9_formatVerdict_1 (by decide) rfl cw_RX9_240 okX9_judgePresent rfl (Nat.le_of_ble_eq_true rfl) ⟨Nat.le_of_ble_eq_true rfl, Nat.le_of_ble_eq_true rfl, Nat.le_of_ble_eq_true rfl, Nat.le_of_ble_eq_true rfl⟩ (fun τ1 hr1 => ?_)
  have hz1 : zOK τ1 := hr1.1
  have bk1 : bk σ 30 1 0 = σ.1 31 0 := rfl
  have bk12 : bk σ 30 12 0 = σ.1 42 0 := rfl
  have jw := Jd_win hW hr1.2.2 hP1
  have jwP : (wP (bk σ 30) (Ht (bk σ 30)) : Int) < σ.1 31 0 := jw.1
  have jr := Jd_rk hr1.2.2
  have jH := hr1.2.2.2.1
  have jT := hr1.2.2.2.2.1
  have jP : τ1.1 252 5 = σ.1 31 0 := hr1.2.2.1
  have jO := hr1.2.2.2.2.2
  have j0 := jO.1 0 (by show 0 < (σ.1 31 0).toNat; omega)
  have jq : zEq (bk σ 30) (bk τ1 30) := zEq_same hr1.2.1 (by intro o ho; show ¬ (252 ≤ 30 + o ∧ 30 + o ≤ 258); omega)
  have jW := WF_eq jq hW
  have j31 : τ1.1 31 0 = σ.1 31 0 := hr1.2.1.1 31 (by dsimp only; omega) 0
  have j42 : τ1.1 42 0 = σ.1 42 0 := hr1.2.1.1 42 (by dsimp only; omega) 0
  have jb := tR_b (H := (Ht (bk σ 30))) hW jw.1
  have jy := (hW.2.1 _ jw.1).2
  have jyb : 1450 ≤ wY (bk σ 30) (Ht (bk σ 30)) ∧ wY (bk σ 30) (Ht (bk σ 30)) ≤ 1999 := by unfold wY; omega
  have jsb : 0 ≤ wS (bk σ 30) (Ht (bk σ 30)) ∧ wS (bk σ 30) (Ht (bk σ 30)) ≤ 360 := tS_b hW _
  have jw0 : 0 ≤ τ1.1 258 0 ∧ τ1.1 258 0 < 8 := by omega
  have hyd := jyb
  refine zx_aloadN dX9_formatVerdict_4 rfl rfl ?_
  refine zy_getR (q' := 259) fl_RX9_61 rfl dX9_formatVerdict_5 rfl ?_
  refine zy_cvv [] (sX8_clear  hfl hz1 ) dX9_formatVerdict_8 (by decide) rfl cw_RX9_329 okX8_clear rfl (Nat.le_of_ble_eq_true rfl) ⟨Nat.le_of_ble_eq_true rfl, Nat.le_of_ble_eq_true rfl, Nat.le_of_ble_eq_true rfl, Nat.le_of_ble_eq_true rfl⟩ ?_
  refine zx_aloadN dX9_formatVerdict_11 rfl rfl ?_
  refine zy_getR (q' := 259) fl_RX9_61 rfl dX9_formatVerdict_12 rfl ?_
  refine zx_aloadN dX9_formatVerdict_15 rfl rfl ?_
  refine zy_getR (q' := 30) fl_RX9_33 rfl dX9_formatVerdict_16 rfl ?_
  refine zy_getR (q' := 31) fl_RX9_134 rfl dX9_formatVerdict_19 rfl ?_
  refine zx_aloadN dX9_formatVerdict_22 rfl rfl ?_
  refine zy_getR (q' := 252) fl_RX9_54 rfl dX9_formatVerdict_23 rfl ?_
  refine zy_cv [] (sX7_winner  hfl (zOK_put hz1 (by unfold zr; omega)) (by rw [zput_k _ _ _ _ _ (by decide)]; omega)) dX9_formatVerdict_26 (by decide) rfl cw_RX9_255 okX7_winner rfl (Nat.le_of_ble_eq_true rfl) ⟨Nat.le_of_ble_eq_true rfl, Nat.le_of_ble_eq_true rfl, Nat.le_of_ble_eq_true rfl, Nat.le_of_ble_eq_true rfl⟩ ?_
  refine zy_top (b := ((wP (bk σ 30) (Ht (bk σ 30)) : Nat) : Int)) ((zput_k _ _ _ _ _ (by decide)).trans jw.2.1) ?_
  refine zy_cv [zi ((wP (bk σ 30) (Ht (bk σ 30)) : Nat) : Int)] (sX0_nameAt  hfl (zOK_put hz1 (by unfold zr; omega)) (by unfold zr; omega) (by rw [zput_k _ _ _ _ _ (by decide)]; omega)) dX9_formatVerdict_29 (by decide) rfl cw_RX9_332 okX0_nameAt rfl (Nat.le_of_ble_eq_true rfl) ⟨Nat.le_of_ble_eq_true rfl, Nat.le_of_ble_eq_true rfl, Nat.le_of_ble_eq_true rfl, Nat.le_of_ble_eq_true rfl⟩ ?_
  refine zy_top (b := if 0 ≤ ((wP (bk σ 30) (Ht (bk σ 30)) : Nat) : Int) ∧ ((wP (bk σ 30) (Ht (bk σ 30)) : Nat) : Int) < (zput τ1 259 1 0).1 31 0 then (zput τ1 259 1 0).1 32 (wP (bk σ 30) (Ht (bk σ 30))) else 0) (by rw [Int.toNat_natCast]) ?_
  refine zy_top (b := σ.1 32 (wP (bk σ 30) (Ht (bk σ 30)))) (by rw [if_pos ⟨by omega, by rw [zput_k _ _ _ _ _ (by decide)]; omega⟩]; exact (zput_k _ _ _ _ _ (by decide)).trans (hr1.2.1.1 32 (by dsimp only; omega) _)) ?_
  refine zy_cvvR [zi (σ.1 32 (wP (bk σ 30) (Ht (bk σ 30))))] (sX8_putName (L := ([] : List Int)) hfl (zOK_put hz1 (by unfold zr; omega)) (by have := hz 32 (wP (bk σ 30) (Ht (bk σ 30))); exact this) (⟨zput_s _ _ _ _, fun i hi => absurd hi (Nat.not_lt_zero i)⟩) (by decide)) dX9_formatVerdict_32 (by decide) rfl cw_RX9_335 okX8_putName rfl (Nat.le_of_ble_eq_true rfl) ⟨Nat.le_of_ble_eq_true rfl, Nat.le_of_ble_eq_true rfl, Nat.le_of_ble_eq_true rfl, Nat.le_of_ble_eq_true rfl⟩ (fun τ32 hr32 => ?_)
  have hz32 : zOK τ32 := hr32.1
  refine zx_aloadN dX9_formatVerdict_35 rfl rfl ?_
  refine zy_getR (q' := 259) fl_RX9_61 rfl dX9_formatVerdict_36 rfl ?_
  refine zx_bipush dX9_formatVerdict_39 rfl ?_
  refine zy_cvvR [zi 32] (sX8_put (L := ([] ++ nmL (σ.1 32 (wP (bk σ 30) (Ht (bk σ 30)))) 6)) hfl hz32 (by decide) hr32.2.2 (by have := nmL_l (σ.1 32 (wP (bk σ 30) (Ht (bk σ 30)))) 6; rw [List.nil_append]; omega)) dX9_formatVerdict_41 (by decide) rfl cw_RX9_338 okX8_put rfl (Nat.le_of_ble_eq_true rfl) ⟨Nat.le_of_ble_eq_true rfl, Nat.le_of_ble_eq_true rfl, Nat.le_of_ble_eq_true rfl, Nat.le_of_ble_eq_true rfl⟩ (fun τ41 hr41 => ?_)
  have hz41 : zOK τ41 := hr41.1
  refine zx_aloadN dX9_formatVerdict_44 rfl rfl ?_
  refine zy_getR (q' := 259) fl_RX9_61 rfl dX9_formatVerdict_45 rfl ?_
  have q252 : ∀ k, 252 ≤ k → k ≤ 258 → ∀ i, τ41.1 k i = τ1.1 k i := fun k h1 h2 i => (hr41.2.1.1 k (by dsimp only; omega) i).trans ((hr32.2.1.1 k (by dsimp only; omega) i).trans (zput_k _ _ _ _ _ (by omega)))
  have q2525 := q252 252 (by omega) (by omega) 5
  have q2580 := q252 258 (by omega) (by omega) 0
  refine zx_aloadN dX9_formatVerdict_48 rfl rfl ?_
  refine zy_getR (q' := 252) fl_RX9_54 rfl dX9_formatVerdict_49 rfl ?_
  refine zy_cv [] (sX7_winningYear  hfl hz41 (by first | assumption | omega) (by first | assumption | omega)) dX9_formatVerdict_52 (by decide) rfl cw_RX9_258 okX7_winningYear rfl (Nat.le_of_ble_eq_true rfl) ⟨Nat.le_of_ble_eq_true rfl, Nat.le_of_ble_eq_true rfl, Nat.le_of_ble_eq_true rfl, Nat.le_of_ble_eq_true rfl⟩ ?_
  refine zy_top (b := wY (bk σ 30) (Ht (bk σ 30))) (by rw [q252 255 (by omega) (by omega), q2580, jw.2.1]; exact jw.2.2.1) ?_
  refine zy_cvvR [zi (wY (bk σ 30) (Ht (bk σ 30)))] (sX8_putNumber (L := (([] ++ nmL (σ.1 32 (wP (bk σ 30) (Ht (bk σ 30)))) 6) ++ [32])) hfl hz41 (by omega) hr41.2.2 (by have := nmL_l (σ.1 32 (wP (bk σ 30) (Ht (bk σ 30)))) 6; rw [List.nil_append, List.length_append, List.length_singleton]; omega)) dX9_formatVerdict_55 (by decide) rfl cw_RX9_341 okX8_putNumber rfl (Nat.le_of_ble_eq_true rfl) ⟨Nat.le_of_ble_eq_true rfl, Nat.le_of_ble_eq_true rfl, Nat.le_of_ble_eq_true rfl, Nat.le_of_ble_eq_true rfl⟩ (fun τ55 hr55 => ?_)
  have hz55 : zOK τ55 := hr55.1
  refine zx_iconst dX9_formatVerdict_58 ?_
  refine zy_istoreN [zf 9 0, zi 0, zu] dX9_formatVerdict_59 rfl (Nat.le_of_ble_eq_true rfl) (Nat.le_of_ble_eq_true rfl) rfl rfl ?_
  have L60 : ∀ (N : Nat) (τ : zS) (p : Nat), (zOK τ) → ((p : Int) ≤ σ.1 42 0) → (zSame (fun q => 259 ≤ q ∧ q ≤ 260) τ1 τ) → (Out τ (fmL (bk σ 30) p)) → (41 - p) < N → zX l w mX9_formatVerdict (zMQ w 6 0 Q) 60 [zf 9 0, zi ((p : Nat) : Int), zu] [] 0 τ := by
    intro N
    induction N with
    | zero => intro τ p _ _ _ _ _; exact absurd (by assumption) (Nat.not_lt_zero _)
    | succ N ih60 =>
      intro τ p hz hp_ h1 h2 hN
      have c42 : τ.1 42 0 = σ.1 42 0 := (h1.1 42 (by dsimp only; omega) 0).trans j42
      have hfml := fmL_l hW (n := p) (by show (p : Int) ≤ σ.1 42 0; omega)
      have zq : zEq (bk τ1 30) (bk τ 30) := zEq_same h1 (by intro o ho; show ¬ (259 ≤ 30 + o ∧ 30 + o ≤ 260); omega)
      have zq0 := zEq_tr jq zq
      have hWτ := WF_eq zq jW
      have k253 : ∀ i, τ.1 253 i = τ1.1 253 i := h1.1 253 (by dsimp only; omega)
      have k258 : ∀ i, τ.1 258 i = τ1.1 258 i := h1.1 258 (by dsimp only; omega)
      have k252 : ∀ i, τ.1 252 i = τ1.1 252 i := h1.1 252 (by dsimp only; omega)
      have k255 : ∀ i, τ.1 255 i = τ1.1 255 i := h1.1 255 (by dsimp only; omega)
      have c31 : τ.1 31 0 = σ.1 31 0 := (h1.1 31 (by dsimp only; omega) 0).trans j31
      refine zx_iloadN dX9_formatVerdict_60 rfl rfl ?_
      refine zx_aloadN dX9_formatVerdict_61 rfl rfl ?_
      refine zy_getR (q' := 30) fl_RX9_33 rfl dX9_formatVerdict_62 rfl ?_
      refine zy_getR (q' := 42) fl_RX9_125 rfl dX9_formatVerdict_65 rfl ?_
      refine zy_getI fl_RX9_129 rfl dX9_formatVerdict_68 rfl ?_
      refine zx_icmp_ge (tgt := 140) (by first | exact hz _ _ | assumption | exact zr_b _ | exact zcmp_r _ _ | (unfold zr at *; omega)) (by first | exact hz _ _ | assumption | exact zr_b _ | exact zcmp_r _ _ | (unfold zr at *; omega)) dX9_formatVerdict_71 (by decide) (fun h71 => ?_) (fun h71 => ?_)
      · refine zx_aloadN dX9_formatVerdict_140 rfl rfl ?_
        refine zy_getR (q' := 259) fl_RX9_61 rfl dX9_formatVerdict_141 rfl ?_
        refine zy_getI fl_RX9_347 rfl dX9_formatVerdict_144 rfl ?_
        refine zx_iret rfl rfl dX9_formatVerdict_147 ?_
        rw [hQ]
        refine ⟨congrArg (fun z : Int => (Sum.inl (some (zi z)) : Option zV ⊕ String)) ?_, ?_⟩
        · have e : p = (σ.1 42 0).toNat := by omega
          have h := h2.1
          rw [e] at h
          exact h
        have e : p = (σ.1 42 0).toNat := by omega
        exact ⟨hz, zSame_tr hr1.2.1 h1 (fun q hq => by first | omega | (dsimp only at hq ⊢; omega)), e ▸ h2⟩
      · have hp : (p : Int) < σ.1 42 0 := by omega
        have hO : 0 ≤ σ.1 49 p ∧ σ.1 49 p < σ.1 42 0 := hW.2.2.2.2.2.1 p (by show (p : Int) < σ.1 42 0; omega)
        have c49 : τ.1 49 p = σ.1 49 p := (h1.1 49 (by dsimp only; omega) p).trans (hr1.2.1.1 49 (by dsimp only; omega) p)
        refine zx_aloadN dX9_formatVerdict_74 rfl rfl ?_
        refine zy_getR (q' := 30) fl_RX9_33 rfl dX9_formatVerdict_75 rfl ?_
        refine zy_getR (q' := 42) fl_RX9_125 rfl dX9_formatVerdict_78 rfl ?_
        refine zx_iloadN dX9_formatVerdict_81 rfl rfl ?_
        refine zy_cv [zi ((p : Nat) : Int)] (sX2_clueAt  hfl hz (by first | exact hz _ _ | assumption | exact zr_b _ | exact zcmp_r _ _ | (unfold zr at *; omega)) (by first | assumption | omega)) dX9_formatVerdict_82 (by decide) rfl cw_RX9_226 okX2_clueAt rfl (Nat.le_of_ble_eq_true rfl) ⟨Nat.le_of_ble_eq_true rfl, Nat.le_of_ble_eq_true rfl, Nat.le_of_ble_eq_true rfl, Nat.le_of_ble_eq_true rfl⟩ ?_
        refine zy_top (b := if 0 ≤ ((p : Nat) : Int) ∧ ((p : Nat) : Int) < τ.1 42 0 then τ.1 49 p else -1) rfl ?_
        refine zy_top (b := (((σ.1 49 p).toNat : Nat) : Int)) (by rw [if_pos (by omega)]; show τ.1 49 p = _; omega) ?_
        refine zy_istoreN [zf 9 0, zi ((p : Nat) : Int), zi (((σ.1 49 p).toNat : Nat) : Int)] dX9_formatVerdict_85 rfl (Nat.le_of_ble_eq_true rfl) (Nat.le_of_ble_eq_true rfl) rfl rfl ?_
        refine zx_aloadN dX9_formatVerdict_86 rfl rfl ?_
        refine zy_getR (q' := 252) fl_RX9_54 rfl dX9_formatVerdict_87 rfl ?_
        refine zx_iloadN dX9_formatVerdict_90 rfl rfl ?_
        refine zy_cv [zi (((σ.1 49 p).toNat : Nat) : Int)] (sX7_heeds (h := (Ht (bk σ 30) (σ.1 49 p).toNat)) hfl hz (by omega) ((k253 _).trans (jH (σ.1 49 p).toNat (by show (((σ.1 49 p).toNat : Nat) : Int) < σ.1 42 0; omega)))) dX9_formatVerdict_91 (by decide) rfl cw_RX9_344 okX7_heeds rfl (Nat.le_of_ble_eq_true rfl) ⟨Nat.le_of_ble_eq_true rfl, Nat.le_of_ble_eq_true rfl, Nat.le_of_ble_eq_true rfl, Nat.le_of_ble_eq_true rfl⟩ ?_
        refine zx_if_eq (tgt := 134) (by first | exact hz _ _ | assumption | exact zr_b _ | exact zcmp_r _ _ | (unfold zr at *; omega)) dX9_formatVerdict_94 (by decide) (fun h94 => ?_) (fun h94 => ?_)
        · have h94 := zb_0.mp h94
          refine zy_iinc (b := ((p + 1 : Nat) : Int)) [zf 9 0, zi ((p + 1 : Nat) : Int), zi (((σ.1 49 p).toNat : Nat) : Int)] dX9_formatVerdict_134 rfl (by omega) (Nat.le_of_ble_eq_true rfl) rfl rfl ?_
          refine zx_goto (tgt := 60) dX9_formatVerdict_137 (by decide) ?_
          refine zy_drop 2 [zf 9 0, zi ((p + 1 : Nat) : Int), zu] rfl ?_
          exact ih60 τ (p + 1) hz (by first | assumption | omega) (by first | exact h1 | exact zSame_tr (zSame_tr h1 hr123.2.1 (fun q hq => by first | omega | (dsimp only at hq ⊢; omega))) hr131.2.1 (fun q hq => by first | omega | (dsimp only at hq ⊢; omega))) (by first | (rw [fmL_n h94]; exact h2) | (rw [fmL_o h94 h113]; exact hr131.2.2) | (rw [fmL_e h94 h113]; exact hr131.2.2)) (by omega)
        · have h94 := zb_n.mp h94
          refine zx_aloadN dX9_formatVerdict_97 rfl rfl ?_
          refine zy_getR (q' := 259) fl_RX9_61 rfl dX9_formatVerdict_98 rfl ?_
          refine zx_aloadN dX9_formatVerdict_101 rfl rfl ?_
          refine zy_getR (q' := 252) fl_RX9_54 rfl dX9_formatVerdict_102 rfl ?_
          refine zx_aloadN dX9_formatVerdict_105 rfl rfl ?_
          refine zy_getR (q' := 30) fl_RX9_33 rfl dX9_formatVerdict_106 rfl ?_
          refine zx_iloadN dX9_formatVerdict_109 rfl rfl ?_
          refine zy_cv [zf 1 30, zi (((σ.1 49 p).toNat : Nat) : Int)] (sX7_leavesOpen (h := (Ht (bk σ 30) (σ.1 49 p).toNat)) (u := (wP (bk σ 30) (Ht (bk σ 30)))) hfl hz hWτ (by rw [k252]; omega) ((k258 0).trans jw.2.1) (by omega) (by omega) ((k253 _).trans (jH (σ.1 49 p).toNat (by show (((σ.1 49 p).toNat : Nat) : Int) < σ.1 42 0; omega)))) dX9_formatVerdict_110 (by decide) rfl cw_RX9_267 okX7_leavesOpen rfl (Nat.le_of_ble_eq_true rfl) ⟨Nat.le_of_ble_eq_true rfl, Nat.le_of_ble_eq_true rfl, Nat.le_of_ble_eq_true rfl, Nat.le_of_ble_eq_true rfl⟩ ?_
          refine zy_top (b := zb (opn (bk σ 30) (σ.1 49 p).toNat)) (by rw [k255, jw.2.2.1]; exact zb_c (by unfold opn; rw [cFit_eq zq0 hW jw.1 (show (((σ.1 49 p).toNat : Nat) : Int) < σ.1 42 0 by omega)])) ?_
          refine zx_if_eq (tgt := 121) (by first | exact hz _ _ | assumption | exact zr_b _ | exact zcmp_r _ _ | (unfold zr at *; omega)) dX9_formatVerdict_113 (by decide) (fun h113 => ?_) (fun h113 => ?_)
          · have h113 := zb_0.mp h113
            refine zx_bipush dX9_formatVerdict_121 rfl ?_
            refine zy_cvvR [zi 43] (sX8_put (L := (fmL (bk σ 30) p)) hfl hz (by decide) h2 (by omega)) dX9_formatVerdict_123 (by decide) rfl cw_RX9_338 okX8_put rfl (Nat.le_of_ble_eq_true rfl) ⟨Nat.le_of_ble_eq_true rfl, Nat.le_of_ble_eq_true rfl, Nat.le_of_ble_eq_true rfl, Nat.le_of_ble_eq_true rfl⟩ (fun τ123 hr123 => ?_)
            have hz123 : zOK τ123 := hr123.1
            refine zx_aloadN dX9_formatVerdict_126 rfl rfl ?_
            refine zy_getR (q' := 259) fl_RX9_61 rfl dX9_formatVerdict_127 rfl ?_
            refine zx_iloadN dX9_formatVerdict_130 rfl rfl ?_
            refine zy_top (b := σ.1 49 p) (by omega) ?_
            refine zy_cvvR [zi (σ.1 49 p)] (sX8_putNumber_2 (L := (fmL (bk σ 30) p ++ [43])) hfl hz123 (by omega) hr123.2.2 (by simp only [List.length_append, List.length_singleton]; omega)) dX9_formatVerdict_131 (by decide) rfl cw_RX9_341 okX8_putNumber rfl (Nat.le_of_ble_eq_true rfl) ⟨Nat.le_of_ble_eq_true rfl, Nat.le_of_ble_eq_true rfl, Nat.le_of_ble_eq_true rfl, Nat.le_of_ble_eq_true rfl⟩ (fun τ131 hr131 => ?_)
            have hz131 : zOK τ131 := hr131.1
            refine zy_iinc (b := ((p + 1 : Nat) : Int)) [zf 9 0, zi ((p + 1 : Nat) : Int), zi (((σ.1 49 p).toNat : Nat) : Int)] dX9_formatVerdict_134 rfl (by omega) (Nat.le_of_ble_eq_true rfl) rfl rfl ?_
            refine zx_goto (tgt := 60) dX9_formatVerdict_137 (by decide) ?_
            refine zy_drop 2 [zf 9 0, zi ((p + 1 : Nat) : Int), zu] rfl ?_
            exact ih60 τ131 (p + 1) hz131 (by first | assumption | omega) (by first | exact h1 | exact zSame_tr (zSame_tr h1 hr123.2.1 (fun q hq => by first | omega | (dsimp only at hq ⊢; omega))) hr131.2.1 (fun q hq => by first | omega | (dsimp only at hq ⊢; omega))) (by first | (rw [fmL_n h94]; exact h2) | (rw [fmL_o h94 h113]; exact hr131.2.2) | (rw [fmL_e h94 h113]; exact hr131.2.2)) (by omega)
          · have h113 := zb_n.mp h113
            refine zx_bipush dX9_formatVerdict_116 rfl ?_
            refine zx_goto (tgt := 123) dX9_formatVerdict_118 (by decide) ?_
            refine zy_cvvR [zi 45] (sX8_put (L := (fmL (bk σ 30) p)) hfl hz (by decide) h2 (by omega)) dX9_formatVerdict_123 (by decide) rfl cw_RX9_338 okX8_put rfl (Nat.le_of_ble_eq_true rfl) ⟨Nat.le_of_ble_eq_true rfl, Nat.le_of_ble_eq_true rfl, Nat.le_of_ble_eq_true rfl, Nat.le_of_ble_eq_true rfl⟩ (fun τ123 hr123 => ?_)
            have hz123 : zOK τ123 := hr123.1
            refine zx_aloadN dX9_formatVerdict_126 rfl rfl ?_
            refine zy_getR (q' := 259) fl_RX9_61 rfl dX9_formatVerdict_127 rfl ?_
            refine zx_iloadN dX9_formatVerdict_130 rfl rfl ?_
            refine zy_top (b := σ.1 49 p) (by omega) ?_
            refine zy_cvvR [zi (σ.1 49 p)] (sX8_putNumber_2 (L := (fmL (bk σ 30) p ++ [45])) hfl hz123 (by omega) hr123.2.2 (by simp only [List.length_append, List.length_singleton]; omega)) dX9_formatVerdict_131 (by decide) rfl cw_RX9_341 okX8_putNumber rfl (Nat.le_of_ble_eq_true rfl) ⟨Nat.le_of_ble_eq_true rfl, Nat.le_of_ble_eq_true rfl, Nat.le_of_ble_eq_true rfl, Nat.le_of_ble_eq_true rfl⟩ (fun τ131 hr131 => ?_)
            have hz131 : zOK τ131 := hr131.1
            refine zy_iinc (b := ((p + 1 : Nat) : Int)) [zf 9 0, zi ((p + 1 : Nat) : Int), zi (((σ.1 49 p).toNat : Nat) : Int)] dX9_formatVerdict_134 rfl (by omega) (Nat.le_of_ble_eq_true rfl) rfl rfl ?_
            refine zx_goto (tgt := 60) dX9_formatVerdict_137 (by decide) ?_
            refine zy_drop 2 [zf 9 0, zi ((p + 1 : Nat) : Int), zu] rfl ?_
            exact ih60 τ131 (p + 1) hz131 (by first | assumption | omega) (by first | exact h1 | exact zSame_tr (zSame_tr h1 hr123.2.1 (fun q hq => by first | omega | (dsimp only at hq ⊢; omega))) hr131.2.1 (fun q hq => by first | omega | (dsimp only at hq ⊢; omega))) (by first | (rw [fmL_n h94]; exact h2) | (rw [fmL_o h94 h113]; exact hr131.2.2) | (rw [fmL_e h94 h113]; exact hr131.2.2)) (by omega)
  exact L60 _ τ55 0 hz55 (by first | assumption | omega) (zSame_tr (zSame_tr (zSame_tr (S'' := fun q => 259 ≤ q ∧ q ≤ 260) (S := fun q => 259 ≤ q ∧ q ≤ 260) ⟨fun q hq i => zput_k _ _ _ _ _ (by dsimp only at hq; omega), rfl⟩ hr32.2.1 (fun q hq => by first | omega | (dsimp only at hq ⊢; omega))) hr41.2.1 (fun q hq => by first | omega | (dsimp only at hq ⊢; omega))) hr55.2.1 (fun q hq => by first | omega | (dsimp only at hq ⊢; omega))) (by have h := hr55.2.2; rw [List.nil_append] at h; rw [fm_0]; exact h) (Nat.lt_succ_self _)

