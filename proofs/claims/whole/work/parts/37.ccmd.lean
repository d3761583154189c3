abbrev mX3_verbAt : zM := (yX3_verbAt, cX3_verbAt, 1, (some .int), [])
theorem okX3_verbAt : zMok mX3_verbAt 1 := ⟨by decide, by decide, by decide +kernel⟩
theorem dX3_verbAt_0 : decode cX3_verbAt 0 = .ok (.aload_n 0, 1) := by decide +kernel
theorem dX3_verbAt_1 : decode cX3_verbAt 1 = .ok (.ldc 58, 2) := by decide +kernel
theorem dX3_verbAt_3 : decode cX3_verbAt 3 = .ok (.invokevirtual 60, 3) := by decide +kernel
theorem cw_RX3_60 : zCwV RX3 60 mX6_isAt := zall [1143, 512, 513, 114, 514] (by decide +kernel) (by decide +kernel)
theorem dX3_verbAt_6 : decode cX3_verbAt 6 = .ok (.ifCond .eq 5, 3) := by decide +kernel
theorem dX3_verbAt_11 : decode cX3_verbAt 11 = .ok (.aload_n 0, 1) := by decide +kernel
theorem dX3_verbAt_12 : decode cX3_verbAt 12 = .ok (.ldc 64, 2) := by decide +kernel
theorem dX3_verbAt_14 : decode cX3_verbAt 14 = .ok (.invokevirtual 60, 3) := by decide +kernel
theorem dX3_verbAt_17 : decode cX3_verbAt 17 = .ok (.ifCond .eq 5, 3) := by decide +kernel
theorem dX3_verbAt_22 : decode cX3_verbAt 22 = .ok (.aload_n 0, 1) := by decide +kernel
theorem dX3_verbAt_23 : decode cX3_verbAt 23 = .ok (.ldc 66, 2) := by decide +kernel
theorem dX3_verbAt_25 : decode cX3_verbAt 25 = .ok (.invokevirtual 60, 3) := by decide +kernel
theorem dX3_verbAt_28 : decode cX3_verbAt 28 = .ok (.ifCond .eq 5, 3) := by decide +kernel
theorem dX3_verbAt_33 : decode cX3_verbAt 33 = .ok (.aload_n 0, 1) := by decide +kernel
theorem dX3_verbAt_34 : decode cX3_verbAt 34 = .ok (.ldc 68, 2) := by decide +kernel
theorem dX3_verbAt_36 : decode cX3_verbAt 36 = .ok (.invokevirtual 60, 3) := by decide +kernel
theorem dX3_verbAt_39 : decode cX3_verbAt 39 = .ok (.ifCond .eq 5, 3) := by decide +kernel
theorem dX3_verbAt_44 : decode cX3_verbAt 44 = .ok (.aload_n 0, 1) := by decide +kernel
theorem dX3_verbAt_45 : decode cX3_verbAt 45 = .ok (.ldc 70, 2) := by decide +kernel
theorem dX3_verbAt_47 : decode cX3_verbAt 47 = .ok (.invokevirtual 60, 3) := by decide +kernel
theorem dX3_verbAt_50 : decode cX3_verbAt 50 = .ok (.ifCond .eq 5, 3) := by decide +kernel
theorem dX3_verbAt_55 : decode cX3_verbAt 55 = .ok (.aload_n 0, 1) := by decide +kernel
theorem dX3_verbAt_56 : decode cX3_verbAt 56 = .ok (.ldc 72, 2) := by decide +kernel
theorem dX3_verbAt_58 : decode cX3_verbAt 58 = .ok (.invokevirtual 60, 3) := by decide +kernel
theorem dX3_verbAt_61 : decode cX3_verbAt 61 = .ok (.ifCond .eq 7, 3) := by decide +kernel
theorem dX3_verbAt_68 : decode cX3_verbAt 68 = .ok (.iconst (-1), 1) := by decide +kernel
theorem dX3_verbAt_69 : decode cX3_verbAt 69 = .ok (.ireturn, 1) := by decide +kernel
theorem dX3_verbAt_64 : decode cX3_verbAt 64 = .ok (.iconst 5, 1) := by decide +kernel
theorem dX3_verbAt_65 : decode cX3_verbAt 65 = .ok (.goto 4, 3) := by decide +kernel
theorem dX3_verbAt_53 : decode cX3_verbAt 53 = .ok (.iconst 4, 1) := by decide +kernel
theorem dX3_verbAt_54 : decode cX3_verbAt 54 = .ok (.ireturn, 1) := by decide +kernel
theorem dX3_verbAt_42 : decode cX3_verbAt 42 = .ok (.iconst 3, 1) := by decide +kernel
theorem dX3_verbAt_43 : decode cX3_verbAt 43 = .ok (.ireturn, 1) := by decide +kernel
theorem dX3_verbAt_31 : decode cX3_verbAt 31 = .ok (.iconst 2, 1) := by decide +kernel
theorem dX3_verbAt_32 : decode cX3_verbAt 32 = .ok (.ireturn, 1) := by decide +kernel
theorem dX3_verbAt_20 : decode cX3_verbAt 20 = .ok (.iconst 1, 1) := by decide +kernel
theorem dX3_verbAt_21 : decode cX3_verbAt 21 = .ok (.ireturn, 1) := by decide +kernel
theorem dX3_verbAt_9 : decode cX3_verbAt 9 = .ok (.iconst 0, 1) := by decide +kernel
theorem dX3_verbAt_10 : decode cX3_verbAt 10 = .ok (.ireturn, 1) := by decide +kernel
abbrev mX3_takeClueNumbers : zM := (yX3_takeClueNumbers, cX3_takeClueNumbers, 4, none, [])
theorem okX3_takeClueNumbers : zMok mX3_takeClueNumbers 2 := ⟨by decide, by decide, by decide +kernel⟩
theorem dX3_takeClueNumbers_0 : decode cX3_takeClueNumbers 0 = .ok (.aload_n 0, 1) := by decide +kernel
theorem dX3_takeClueNumbers_1 : decode cX3_takeClueNumbers 1 = .ok (.getfield 9, 3) := by decide +kernel
theorem fl_RX3_9 : zFl RX3 9 3 0 := ⟨RX3, TX3, 6, rfl, by decide, zmem1 321 (by decide +kernel) rfl, rfl⟩
theorem dX3_takeClueNumbers_4 : decode cX3_takeClueNumbers 4 = .ok (.ifCond .lt 12, 3) := by decide +kernel
theorem dX3_takeClueNumbers_7 : decode cX3_takeClueNumbers 7 = .ok (.aload_n 0, 1) := by decide +kernel
theorem dX3_takeClueNumbers_8 : decode cX3_takeClueNumbers 8 = .ok (.getfield 9, 3) := by decide +kernel
theorem dX3_takeClueNumbers_11 : decode cX3_takeClueNumbers 11 = .ok (.bipush 30, 2) := by decide +kernel
theorem dX3_takeClueNumbers_13 : decode cX3_takeClueNumbers 13 = .ok (.if_icmp .lt 4, 3) := by decide +kernel
theorem dX3_takeClueNumbers_17 : decode cX3_takeClueNumbers 17 = .ok (.aload_n 0, 1) := by decide +kernel
theorem dX3_takeClueNumbers_18 : decode cX3_takeClueNumbers 18 = .ok (.getfield 19, 3) := by decide +kernel
theorem fl_RX3_19 : zFl RX3 19 3 2 := ⟨RX3, TX3, 6, rfl, by decide, zmem1 325 (by decide +kernel) rfl, rfl⟩
theorem dX3_takeClueNumbers_21 : decode cX3_takeClueNumbers 21 = .ok (.aload_n 0, 1) := by decide +kernel
theorem dX3_takeClueNumbers_22 : decode cX3_takeClueNumbers 22 = .ok (.getfield 9, 3) := by decide +kernel
theorem dX3_takeClueNumbers_25 : decode cX3_takeClueNumbers 25 = .ok (.aload_n 1, 1) := by decide +kernel
theorem dX3_takeClueNumbers_26 : decode cX3_takeClueNumbers 26 = .ok (.iconst 1, 1) := by decide +kernel
theorem dX3_takeClueNumbers_27 : decode cX3_takeClueNumbers 27 = .ok (.sipush 999, 3) := by decide +kernel
theorem dX3_takeClueNumbers_30 : decode cX3_takeClueNumbers 30 = .ok (.invokevirtual 78, 3) := by decide +kernel
theorem cw_RX3_78 : zCwV RX3 78 mX6_takeNumber := zall [1159, 559, 560, 114, 561] (by decide +kernel) (by decide +kernel)
theorem dX3_takeClueNumbers_33 : decode cX3_takeClueNumbers 33 = .ok (.iastore, 1) := by decide +kernel
theorem dX3_takeClueNumbers_34 : decode cX3_takeClueNumbers 34 = .ok (.aload_n 1, 1) := by decide +kernel
theorem dX3_takeClueNumbers_35 : decode cX3_takeClueNumbers 35 = .ok (.invokevirtual 89, 3) := by decide +kernel
theorem cw_RX3_89 : zCwV RX3 89 mX6_takeKind := zall [1160, 583, 584, 114, 585] (by decide +kernel) (by decide +kernel)
theorem dX3_takeClueNumbers_38 : decode cX3_takeClueNumbers 38 = .ok (.istore_n 3, 1) := by decide +kernel
theorem dX3_takeClueNumbers_39 : decode cX3_takeClueNumbers 39 = .ok (.aload_n 0, 1) := by decide +kernel
theorem dX3_takeClueNumbers_40 : decode cX3_takeClueNumbers 40 = .ok (.getfield 22, 3) := by decide +kernel
theorem fl_RX3_22 : zFl RX3 22 3 3 := ⟨RX3, TX3, 6, rfl, by decide, zmem1 327 (by decide +kernel) rfl, rfl⟩
theorem dX3_takeClueNumbers_43 : decode cX3_takeClueNumbers 43 = .ok (.aload_n 0, 1) := by decide +kernel
theorem dX3_takeClueNumbers_44 : decode cX3_takeClueNumbers 44 = .ok (.getfield 9, 3) := by decide +kernel
theorem dX3_takeClueNumbers_47 : decode cX3_takeClueNumbers 47 = .ok (.iload_n 3, 1) := by decide +kernel
theorem dX3_takeClueNumbers_48 : decode cX3_takeClueNumbers 48 = .ok (.iastore, 1) := by decide +kernel
theorem dX3_takeClueNumbers_49 : decode cX3_takeClueNumbers 49 = .ok (.aload_n 0, 1) := by decide +kernel
theorem dX3_takeClueNumbers_50 : decode cX3_takeClueNumbers 50 = .ok (.getfield 25, 3) := by decide +kernel
theorem fl_RX3_25 : zFl RX3 25 3 4 := ⟨RX3, TX3, 6, rfl, by decide, zmem1 329 (by decide +kernel) rfl, rfl⟩
theorem dX3_takeClueNumbers_53 : decode cX3_takeClueNumbers 53 = .ok (.aload_n 0, 1) := by decide +kernel
theorem dX3_takeClueNumbers_54 : decode cX3_takeClueNumbers 54 = .ok (.getfield 9, 3) := by decide +kernel
theorem dX3_takeClueNumbers_57 : decode cX3_takeClueNumbers 57 = .ok (.aload_n 1, 1) := by decide +kernel
theorem dX3_takeClueNumbers_58 : decode cX3_takeClueNumbers 58 = .ok (.iload_n 3, 1) := by decide +kernel
theorem dX3_takeClueNumbers_59 : decode cX3_takeClueNumbers 59 = .ok (.invokestatic 93, 3) := by decide +kernel
theorem cw_RX3_93 : zCwS RX3 93 mX0_lowestValue := zall [1161, 593, 117, 594] (by decide +kernel) (by decide +kernel)
theorem dX3_takeClueNumbers_62 : decode cX3_takeClueNumbers 62 = .ok (.aload_n 2, 1) := by decide +kernel
theorem dX3_takeClueNumbers_63 : decode cX3_takeClueNumbers 63 = .ok (.iload_n 3, 1) := by decide +kernel
theorem dX3_takeClueNumbers_64 : decode cX3_takeClueNumbers 64 = .ok (.invokevirtual 99, 3) := by decide +kernel
theorem cw_RX3_99 : zCwV RX3 99 mX0_highestValue := zall [1162, 596, 597, 117, 598] (by decide +kernel) (by decide +kernel)
theorem dX3_takeClueNumbers_67 : decode cX3_takeClueNumbers 67 = .ok (.invokevirtual 78, 3) := by decide +kernel
theorem dX3_takeClueNumbers_70 : decode cX3_takeClueNumbers 70 = .ok (.iastore, 1) := by decide +kernel
theorem dX3_takeClueNumbers_71 : decode cX3_takeClueNumbers 71 = .ok (.aload_n 0, 1) := by decide +kernel
theorem dX3_takeClueNumbers_72 : decode cX3_takeClueNumbers 72 = .ok (.getfield 28, 3) := by decide +kernel
theorem fl_RX3_28 : zFl RX3 28 3 5 := ⟨RX3, TX3, 6, rfl, by decide, zmem1 331 (by decide +kernel) rfl, rfl⟩
theorem dX3_takeClueNumbers_75 : decode cX3_takeClueNumbers 75 = .ok (.aload_n 0, 1) := by decide +kernel
theorem dX3_takeClueNumbers_76 : decode cX3_takeClueNumbers 76 = .ok (.getfield 9, 3) := by decide +kernel
theorem dX3_takeClueNumbers_79 : decode cX3_takeClueNumbers 79 = .ok (.aload_n 1, 1) := by decide +kernel
theorem dX3_takeClueNumbers_80 : decode cX3_takeClueNumbers 80 = .ok (.iconst 1, 1) := by decide +kernel
theorem dX3_takeClueNumbers_81 : decode cX3_takeClueNumbers 81 = .ok (.bipush 9, 2) := by decide +kernel
theorem dX3_takeClueNumbers_83 : decode cX3_takeClueNumbers 83 = .ok (.invokevirtual 78, 3) := by decide +kernel
theorem dX3_takeClueNumbers_86 : decode cX3_takeClueNumbers 86 = .ok (.iastore, 1) := by decide +kernel
theorem dX3_takeClueNumbers_87 : decode cX3_takeClueNumbers 87 = .ok (.return_, 1) := by decide +kernel
/-! commands: where a reader stands behind them, and what they say -/
noncomputable def vct (t : Nat → Int) (n p : Nat) : Int := @ite Int (isW t n p 12) (Classical.propDecidable _) 0 (@ite Int (isW t n p 18) (Classical.propDecidable _) 1 (@ite Int (isW t n p 19) (Classical.propDecidable _) 2 (@ite Int (isW t n p 20) (Classical.propDecidable _) 3 (@ite Int (isW t n p 21) (Classical.propDecidable _) 4 (@ite Int (isW t n p 22) (Classical.propDecidable _) 5 (-1))))))
theorem vct_r (t : Nat → Int) (n p : Nat) : -1 ≤ vct t n p ∧ vct t n p ≤ 5 := by unfold vct; (repeat' split) <;> omega
noncomputable def a1 (t : Nat → Int) (n : Nat) (lo hi : Int) (S : zP) : zP := pNum t n S lo hi
noncomputable def a2 (t : Nat → Int) (n : Nat) (lo hi : Int) (S : zP) : zP := pSem t n (a1 t n lo hi S)
noncomputable def g1 (t : Nat → Int) (n : Nat) (S : zP) : zP := pNum t n (a1 t n 0 39 S) 1 9
noncomputable def g2 (t : Nat → Int) (n : Nat) (S : zP) : zP := pSem t n (g1 t n S)
noncomputable def l1 (t : Nat → Int) (n : Nat) (D : zBk) (S : zP) : zP := pPrn t n (D 2) (D 1 0) (o1 t n D S)
noncomputable def l2 (t : Nat → Int) (n : Nat) (D : zBk) (S : zP) : zP := pNum t n (l1 t n D S) 0 31
noncomputable def l3 (t : Nat → Int) (n : Nat) (D : zBk) (S : zP) : zP := pSem t n (l2 t n D S)
noncomputable def cS (t : Nat → Int) (n : Nat) (v : Int) (D : zBk) (S : zP) : zP := if v = 0 then u5 t n D S else if v = 1 then a2 t n 1 40 S else if v = 4 then g2 t n S else if v = 5 then l3 t n D S else a2 t n 0 39 S
noncomputable def cV (t : Nat → Int) (n : Nat) (v : Int) (D : zBk) (S : zP) (j : Nat) : Int :=
  if v = 0 then (if j = 1 then pV t n S.1 else if j = 2 then kdv t n (u1 t n S).1 else if j = 3 then pV t n (u2 t n S).1 else pV t n (u3 t n D S).1)
  else if v = 4 then (if j = 1 then pV t n S.1 else pV t n (a1 t n 0 39 S).1)
  else if v = 5 then (if j = 1 then fz (D 2) (D 1 0) (nmv t n S) else if j = 2 then fz (D 2) (D 1 0) (nmv t n (o1 t n D S)) else pV t n (l1 t n D S).1)
  else pV t n S.1
def mor (t : Nat → Int) (n : Nat) (S : zP) : Prop := S.2.1 = 0 ∧ ¬ xK t n S.1 = 0
noncomputable def cY (t : Nat → Int) (n : Nat) (D : zBk) : Nat → zP
  | 0 => (0, 0, -1)
  | k + 1 => @ite zP (mor t n (cY t n D k)) (Classical.propDecidable _) (if vct t n (cY t n D k).1 = -1 then pF t n (cY t n D k) 1 else if 30 ≤ k then pF t n (cY t n D k) 4 else cS t n (vct t n (cY t n D k).1) D (pN t n (cY t n D k))) (cY t n D k)
theorem cY_n {t : Nat → Int} {n : Nat} {D : zBk} {k : Nat} (h : mor t n (cY t n D k)) (h1 : vct t n (cY t n D k).1 = -1) : cY t n D (k + 1) = pF t n (cY t n D k) 1 := by rw [cY, if_pos h, if_pos h1]
theorem cY_l {t : Nat → Int} {n : Nat} {D : zBk} {k : Nat} (h : mor t n (cY t n D k)) (h1 : ¬ vct t n (cY t n D k).1 = -1) (h2 : 30 ≤ k) : cY t n D (k + 1) = pF t n (cY t n D k) 4 := by rw [cY, if_pos h, if_neg h1, if_pos h2]
theorem cY_c {t : Nat → Int} {n : Nat} {D : zBk} {k : Nat} (h : mor t n (cY t n D k)) (h1 : ¬ vct t n (cY t n D k).1 = -1) (h2 : ¬ 30 ≤ k) : cY t n D (k + 1) = cS t n (vct t n (cY t n D k).1) D (pN t n (cY t n D k)) := by rw [cY, if_pos h, if_neg h1, if_neg h2]
theorem cY_s {t : Nat → Int} {n : Nat} {D : zBk} {k : Nat} (h : ¬ mor t n (cY t n D k)) : ∀ j, cY t n D (k + j) = cY t n D k
  | 0 => rfl
  | j + 1 => by
    have e := cY_s h j
    rw [show k + (j + 1) = (k + j) + 1 by omega, cY, e, if_neg h]
noncomputable def cM (t : Nat → Int) (n : Nat) (D : zBk) (k : Nat) : Int := zs (fun i => zb (mor t n (cY t n D i))) k
theorem cM_all {t : Nat → Int} {n : Nat} {D : zBk} : ∀ {k : Nat}, (∀ i, i < k → mor t n (cY t n D i)) → cM t n D k = k
  | 0, _ => rfl
  | k + 1, h => by
    have := cM_all (t := t) (n := n) (D := D) (k := k) (fun i hi => h i (by omega))
    unfold cM at *
    rw [zs_s, this, zb_t (h k (Nat.lt_succ_self k))]; omega
theorem cM_st {t : Nat → Int} {n : Nat} {D : zBk} {k : Nat} (h : ¬ mor t n (cY t n D k)) : ∀ j, cM t n D (k + j) = cM t n D k
  | 0 => rfl
  | j + 1 => by
    have := cM_st h j
    unfold cM at *
    rw [show k + (j + 1) = (k + j) + 1 by omega, zs_s, this, cY_s h j, zb_f h]; omega
theorem cS_m {t : Nat → Int} {n : Nat} {v : Int} {D : zBk} {S : zP} (h : S.1 ≤ n) : S.1 ≤ (cS t n v D S).1 ∧ (cS t n v D S).1 ≤ n := by
  have A : ∀ lo hi, S.1 ≤ (a2 t n lo hi S).1 ∧ (a2 t n lo hi S).1 ≤ n := fun lo hi => by
    have a := pNum_m (t := t) (lo := lo) (hi := hi) h
    have b := pSem_m (t := t) a.2
    exact ⟨Nat.le_trans a.1 b.1, b.2⟩
  unfold cS
  split
  · have a := pNum_m (t := t) (lo := 1) (hi := 999) h
    have b := pKd_m (t := t) a.2
    have c := pNum_m (t := t) (lo := loK (kdv t n (u1 t n S).1)) (hi := hiK D (kdv t n (u1 t n S).1)) b.2
    have d := pNum_m (t := t) (lo := 1) (hi := 9) c.2
    have e := pSem_m (t := t) d.2
    exact ⟨u5_m h, e.2⟩
  · split
    · exact A 1 40
    · split
      · have a := pNum_m (t := t) (lo := 0) (hi := 39) h
        have b := pNum_m (t := t) (lo := 1) (hi := 9) a.2
        have c := pSem_m (t := t) b.2
        exact ⟨Nat.le_trans a.1 (Nat.le_trans b.1 c.1), c.2⟩
      · split
        · have a := pPrn_m (t := t) (f := D 2) (P := D 1 0) h
          have b := pPrn_m (t := t) (f := D 2) (P := D 1 0) a.2
          have c := pNum_m (t := t) (lo := 0) (hi := 31) b.2
          have d := pSem_m (t := t) c.2
          exact ⟨Nat.le_trans a.1 (Nat.le_trans b.1 (Nat.le_trans c.1 d.1)), d.2⟩
        · exact A 0 39
theorem cY_m {t : Nat → Int} {n : Nat} {D : zBk} : ∀ k : Nat, (cY t n D k).1 ≤ n
  | 0 => Nat.zero_le _
  | k + 1 => by
    have h := cY_m (t := t) (n := n) (D := D) k
    rw [cY]
    split
    · split
      · exact (pF_m h).2
      · split
        · exact (pF_m h).2
        · exact (cS_m (pN_m h).2).2
    · exact h
theorem cY_pos {t : Nat → Int} {n : Nat} {D : zBk} : ∀ k : Nat, (∀ i, i < k → mor t n (cY t n D i)) → (cY t n D k).2.1 = 0 → k ≤ (cY t n D k).1
  | 0, _, _ => Nat.zero_le _
  | k + 1, h, h0 => by
    have hm := h k (Nat.lt_succ_self k)
    have hk := cY_m (t := t) (n := n) (D := D) k
    have ih := cY_pos k (fun i hi => h i (by omega)) hm.1
    by_cases e1 : vct t n (cY t n D k).1 = -1
    · rw [cY_n hm e1] at h0; exact absurd h0 (pF_nz (by decide))
    · by_cases e2 : 30 ≤ k
      · rw [cY_l hm e1 e2] at h0; exact absurd h0 (pF_nz (by decide))
      · rw [cY_c hm e1 e2]
        have x1 := xE_lt (t := t) hk hm.2
        have x2 := xS_le (t := t) hk
        have x3 := (cS_m (t := t) (v := vct t n (cY t n D k).1) (D := D) (pN_m (t := t) hk).2).1
        have x4 : (pN t n (cY t n D k)).1 = xE t n (cY t n D k).1 := rfl
        omega
theorem cY_end {t : Nat → Int} {n : Nat} {D : zBk} (hn : n ≤ 1400) {k : Nat} (hk : k ≤ 1400) (h : ∀ i, i < k → mor t n (cY t n D i)) (he : k = 1400 ∨ ¬ mor t n (cY t n D k)) : ¬ mor t n (cY t n D k) ∧ cY t n D 1400 = cY t n D k ∧ cM t n D 1400 = k := by
  have hm : ¬ mor t n (cY t n D k) := by
    rcases he with e | e
    · intro hm
      have := cY_pos k h hm.1
      have h1 := cY_m (t := t) (n := n) (D := D) k
      have h2 := xS_le (t := t) h1
      have h3 := xK_n hm.2
      omega
    · exact e
  refine ⟨hm, ?_, ?_⟩
  · have := cY_s hm (1400 - k)
    rw [show k + (1400 - k) = 1400 by omega] at this; exact this
  · have := cM_st hm (1400 - k)
    rw [show k + (1400 - k) = 1400 by omega] at this
    rw [this, cM_all h]
theorem cY_5 {t : Nat → Int} {n : Nat} {D : zBk} {k : Nat} (h : ∀ i, i < k → mor t n (cY t n D i)) (h0 : (cY t n D k).2.1 = 0) : k ≤ 30 := by
  rcases Nat.lt_or_ge 30 k with q | q
  · exfalso
    have hm := h (k - 1) (by omega)
    have e : k = (k - 1) + 1 := by omega
    rw [e] at h0
    by_cases e1 : vct t n (cY t n D (k - 1)).1 = -1
    · rw [cY_n hm e1] at h0; exact absurd h0 (pF_nz (by decide))
    · rw [cY_l hm e1 (by omega)] at h0; exact absurd h0 (pF_nz (by decide))
  · exact q
theorem pNum_v {t : Nat → Int} {n : Nat} {S : zP} {lo hi : Int} (h : (pNum t n S lo hi).2.1 = 0) : 0 ≤ pV t n S.1 ∧ pV t n S.1 < 10000 := by
  by_cases a : S.2.1 = 0 ∧ xK t n S.1 = 2 ∧ xE t n S.1 - xS t n S.1 ≤ 4
  · have hd := tok_d a.2.1
    exact dv_4 a.2.2 (fun i hi => (hd.2 _ (by omega) (by omega)).2)
  · rw [pNum_1 a] at h; exact absurd h (pF_nz (by decide))
theorem FI_z {t : Nat → Int} {n : Nat} {S : zP} {lo hi : Int} : zr (if (pNum t n S lo hi).2.1 = 0 then pV t n S.1 else 0) := by
  split
  · rename_i z; have := pNum_v z; unfold zr; omega
  · unfold zr; omega

theorem PC_put {t : Nat → Int} {n : Nat} {S : zP} {σ : zS} {q i : Nat} {v : Int} (hq : 2 < q) (h : PC t n S σ) : PC t n S (zput σ q i v) := by
  obtain ⟨a1, a2, a3, a4, a5, a6⟩ := h
  have e : ∀ x j, x ≤ 2 → (zput σ q i v).1 x j = σ.1 x j := fun x j hx => zput_k _ _ _ _ _ (by omega)
  refine ⟨fun j => (e 2 j (by omega)).trans (a1 j), ?_, a3, ?_, fun z => ?_, fun z => ?_⟩
  · rw [e 1 1 (by omega)]; exact a2
  · rw [e 1 5 (by omega), e 1 6 (by omega)]; exact a4
  · rw [e 1 2 (by omega), e 1 3 (by omega), e 1 4 (by omega)]; exact a5 z
  · rw [e 1 2 (by omega)]; exact a6 z

set_option maxRecDepth 20000 in
set_option maxHeartbeats 2000000 in
theorem sX3_verbAt {l : Launch} {w : zW} (hfl : l.stackTraces = false) {σ : zS} {t : Nat → Int} {n : Nat} {S : zP}  (hz : zOK σ) (hP : PC t n S σ) (h0 : S.2.1 = 0) : Sp l w mX3_verbAt 5 0 [zf 6 1] σ (zret (zi (vct t n S.1)) σ) := by
  obtain ⟨Q, hQ⟩ : ∃ Q : zQ, Q = (zret (zi (vct t n S.1)) σ) := ⟨_, rfl⟩
  rw [← hQ]
  refine zx_enter hfl (by decide) rfl 0 rfl ?_
  show zX l w mX3_verbAt (zMQ w 5 0 Q) 0 [zf 6 1] [] 0 σ
  refine zx_aloadN dX3_verbAt_0 rfl rfl ?_
  refine zx_ldcS (List.mem_of_getElem? (i := 21) rfl) (by decide) dX3_verbAt_1 ?_
  refine zy_cv [zf 100 12] (sX6_isAt (j := 12) hfl hz (by first | assumption | omega)) dX3_verbAt_3 (by decide) rfl cw_RX3_60 okX6_isAt rfl (Nat.le_of_ble_eq_true rfl) ⟨Nat.le_of_ble_eq_true rfl, Nat.le_of_ble_eq_true rfl, Nat.le_of_ble_eq_true rfl, Nat.le_of_ble_eq_true rfl⟩ ?_
  refine zx_if_eq (tgt := 11) (by first | exact hz _ _ | assumption | exact zr_b _ | exact zcmp_r _ _ | (unfold zr at *; omega)) dX3_verbAt_6 (by decide) (fun h6 => ?_) (fun h6 => ?_)
  · have h6 := zb_0.mp h6
    refine zx_aloadN dX3_verbAt_11 rfl rfl ?_
    refine zx_ldcS (List.mem_of_getElem? (i := 22) rfl) (by decide) dX3_verbAt_12 ?_
    refine zy_cv [zf 100 18] (sX6_isAt (j := 18) hfl hz (by first | assumption | omega)) dX3_verbAt_14 (by decide) rfl cw_RX3_60 okX6_isAt rfl (Nat.le_of_ble_eq_true rfl) ⟨Nat.le_of_ble_eq_true rfl, Nat.le_of_ble_eq_true rfl, Nat.le_of_ble_eq_true rfl, Nat.le_of_ble_eq_true rfl⟩ ?_
    refine zx_if_eq (tgt := 22) (by first | exact hz _ _ | assumption | exact zr_b _ | exact zcmp_r _ _ | (unfold zr at *; omega)) dX3_verbAt_17 (by decide) (fun h17 => ?_) (fun h17 => ?_)
    · have h17 := zb_0.mp h17
      refine zx_aloadN dX3_verbAt_22 rfl rfl ?_
      refine zx_ldcS (List.mem_of_getElem? (i := 23) rfl) (by decide) dX3_verbAt_23 ?_
      refine zy_cv [zf 100 19] (sX6_isAt (j := 19) hfl hz (by first | assumption | omega)) dX3_verbAt_25 (by decide) rfl cw_RX3_60 okX6_isAt rfl (Nat.le_of_ble_eq_true rfl) ⟨Nat.le_of_ble_eq_true rfl, Nat.le_of_ble_eq_true rfl, Nat.le_of_ble_eq_true rfl, Nat.le_of_ble_eq_true rfl⟩ ?_
      refine zx_if_eq (tgt := 33) (by first | exact hz _ _ | assumption | exact zr_b _ | exact zcmp_r _ _ | (unfold zr at *; omega)) dX3_verbAt_28 (by decide) (fun h28 => ?_) (fun h28 => ?_)
      · have h28 := zb_0.mp h28
        refine zx_aloadN dX3_verbAt_33 rfl rfl ?_
        refine zx_ldcS (List.mem_of_getElem? (i := 24) rfl) (by decide) dX3_verbAt_34 ?_
        refine zy_cv [zf 100 20] (sX6_isAt (j := 20) hfl hz (by first | assumption | omega)) dX3_verbAt_36 (by decide) rfl cw_RX3_60 okX6_isAt rfl (Nat.le_of_ble_eq_true rfl) ⟨Nat.le_of_ble_eq_true rfl, Nat.le_of_ble_eq_true rfl, Nat.le_of_ble_eq_true rfl, Nat.le_of_ble_eq_true rfl⟩ ?_
        refine zx_if_eq (tgt := 44) (by first | exact hz _ _ | assumption | exact zr_b _ | exact zcmp_r _ _ | (unfold zr at *; omega)) dX3_verbAt_39 (by decide) (fun h39 => ?_) (fun h39 => ?_)
        · have h39 := zb_0.mp h39
          refine zx_aloadN dX3_verbAt_44 rfl rfl ?_
          refine zx_ldcS (List.mem_of_getElem? (i := 25) rfl) (by decide) dX3_verbAt_45 ?_
          refine zy_cv [zf 100 21] (sX6_isAt (j := 21) hfl hz (by first | assumption | omega)) dX3_verbAt_47 (by decide) rfl cw_RX3_60 okX6_isAt rfl (Nat.le_of_ble_eq_true rfl) ⟨Nat.le_of_ble_eq_true rfl, Nat.le_of_ble_eq_true rfl, Nat.le_of_ble_eq_true rfl, Nat.le_of_ble_eq_true rfl⟩ ?_
          refine zx_if_eq (tgt := 55) (by first | exact hz _ _ | assumption | exact zr_b _ | exact zcmp_r _ _ | (unfold zr at *; omega)) dX3_verbAt_50 (by decide) (fun h50 => ?_) (fun h50 => ?_)
          · have h50 := zb_0.mp h50
            refine zx_aloadN dX3_verbAt_55 rfl rfl ?_
            refine zx_ldcS (List.mem_of_getElem? (i := 26) rfl) (by decide) dX3_verbAt_56 ?_
            refine zy_cv [zf 100 22] (sX6_isAt (j := 22) hfl hz (by first | assumption | omega)) dX3_verbAt_58 (by decide) rfl cw_RX3_60 okX6_isAt rfl (Nat.le_of_ble_eq_true rfl) ⟨Nat.le_of_ble_eq_true rfl, Nat.le_of_ble_eq_true rfl, Nat.le_of_ble_eq_true rfl, Nat.le_of_ble_eq_true rfl⟩ ?_
            refine zx_if_eq (tgt := 68) (by first | exact hz _ _ | assumption | exact zr_b _ | exact zcmp_r _ _ | (unfold zr at *; omega)) dX3_verbAt_61 (by decide) (fun h61 => ?_) (fun h61 => ?_)
            · have h61 := zb_0.mp h61
              refine zx_iconst dX3_verbAt_68 ?_
              refine zx_iret rfl rfl dX3_verbAt_69 ?_
              rw [hQ]
              refine ⟨congrArg (fun z : Int => (Sum.inl (some (zi z)) : Option zV ⊕ String)) ?_, by first | rfl | (exfalso; omega)⟩
              unfold vct
              first
              | (rw [if_pos h6.2])
              | (rw [if_neg (fun q => h6 ⟨h0, q⟩), if_pos h17.2])
              | (rw [if_neg (fun q => h6 ⟨h0, q⟩), if_neg (fun q => h17 ⟨h0, q⟩), if_pos h28.2])
              | (rw [if_neg (fun q => h6 ⟨h0, q⟩), if_neg (fun q => h17 ⟨h0, q⟩), if_neg (fun q => h28 ⟨h0, q⟩), if_pos h39.2])
              | (rw [if_neg (fun q => h6 ⟨h0, q⟩), if_neg (fun q => h17 ⟨h0, q⟩), if_neg (fun q => h28 ⟨h0, q⟩), if_neg (fun q => h39 ⟨h0, q⟩), if_pos h50.2])
              | (rw [if_neg (fun q => h6 ⟨h0, q⟩), if_neg (fun q => h17 ⟨h0, q⟩), if_neg (fun q => h28 ⟨h0, q⟩), if_neg (fun q => h39 ⟨h0, q⟩), if_neg (fun q => h50 ⟨h0, q⟩), if_pos h61.2])
              | (rw [if_neg (fun q => h6 ⟨h0, q⟩), if_neg (fun q => h17 ⟨h0, q⟩), if_neg (fun q => h28 ⟨h0, q⟩), if_neg (fun q => h39 ⟨h0, q⟩), if_neg (fun q => h50 ⟨h0, q⟩), if_neg (fun q => h61 ⟨h0, q⟩)])
            · have h61 := zb_n.mp h61
              refine zx_iconst dX3_verbAt_64 ?_
              refine zx_goto (tgt := 69) dX3_verbAt_65 (by decide) ?_
              refine zx_iret rfl rfl dX3_verbAt_69 ?_
              rw [hQ]
              refine ⟨congrArg (fun z : Int => (Sum.inl (some (zi z)) : Option zV ⊕ String)) ?_, by first | rfl | (exfalso; omega)⟩
              unfold vct
              first
              | (rw [if_pos h6.2])
              | (rw [if_neg (fun q => h6 ⟨h0, q⟩), if_pos h17.2])
              | (rw [if_neg (fun q => h6 ⟨h0, q⟩), if_neg (fun q => h17 ⟨h0, q⟩), if_pos h28.2])
              | (rw [if_neg (fun q => h6 ⟨h0, q⟩), if_neg (fun q => h17 ⟨h0, q⟩), if_neg (fun q => h28 ⟨h0, q⟩), if_pos h39.2])
              | (rw [if_neg (fun q => h6 ⟨h0, q⟩), if_neg (fun q => h17 ⟨h0, q⟩), if_neg (fun q => h28 ⟨h0, q⟩), if_neg (fun q => h39 ⟨h0, q⟩), if_pos h50.2])
              | (rw [if_neg (fun q => h6 ⟨h0, q⟩), if_neg (fun q => h17 ⟨h0, q⟩), if_neg (fun q => h28 ⟨h0, q⟩), if_neg (fun q => h39 ⟨h0, q⟩), if_neg (fun q => h50 ⟨h0, q⟩), if_pos h61.2])
              | (rw [if_neg (fun q => h6 ⟨h0, q⟩), if_neg (fun q => h17 ⟨h0, q⟩), if_neg (fun q => h28 ⟨h0, q⟩), if_neg (fun q => h39 ⟨h0, q⟩), if_neg (fun q => h50 ⟨h0, q⟩), if_neg (fun q => h61 ⟨h0, q⟩)])
          · have h50 := zb_n.mp h50
            refine zx_iconst dX3_verbAt_53 ?_
            refine zx_iret rfl rfl dX3_verbAt_54 ?_
            rw [hQ]
            refine ⟨congrArg (fun z : Int => (Sum.inl (some (zi z)) : Option zV ⊕ String)) ?_, by first | rfl | (exfalso; omega)⟩
            unfold vct
            first
            | (rw [if_pos h6.2])
            | (rw [if_neg (fun q => h6 ⟨h0, q⟩), if_pos h17.2])
            | (rw [if_neg (fun q => h6 ⟨h0, q⟩), if_neg (fun q => h17 ⟨h0, q⟩), if_pos h28.2])
            | (rw [if_neg (fun q => h6 ⟨h0, q⟩), if_neg (fun q => h17 ⟨h0, q⟩), if_neg (fun q => h28 ⟨h0, q⟩), if_pos h39.2])
            | (rw [if_neg (fun q => h6 ⟨h0, q⟩), if_neg (fun q => h17 ⟨h0, q⟩), if_neg (fun q => h28 ⟨h0, q⟩), if_neg (fun q => h39 ⟨h0, q⟩), if_pos h50.2])
            | (rw [if_neg (fun q => h6 ⟨h0, q⟩), if_neg (fun q => h17 ⟨h0, q⟩), if_neg (fun q => h28 ⟨h0, q⟩), if_neg (fun q => h39 ⟨h0, q⟩), if_neg (fun q => h50 ⟨h0, q⟩), if_pos h61.2])
            | (rw [if_neg (fun q => h6 ⟨h0, q⟩), if_neg (fun q => h17 ⟨h0, q⟩), if_neg (fun q => h28 ⟨h0, q⟩), if_neg (fun q => h39 ⟨h0, q⟩), if_neg (fun q => h50 ⟨h0, q⟩), if_neg (fun q => h61 ⟨h0, q⟩)])
        · have h39 := zb_n.mp h39
          refine zx_iconst dX3_verbAt_42 ?_
          refine zx_iret rfl rfl dX3_verbAt_43 ?_
          rw [hQ]
          refine ⟨congrArg (fun z : Int => (Sum.inl (some (zi z)) : Option zV ⊕ String)) ?_, by first | rfl | (exfalso; omega)⟩
          unfold vct
          first
          | (rw [if_pos h6.2])
          | (rw [if_neg (fun q => h6 ⟨h0, q⟩), if_pos h17.2])
          | (rw [if_neg (fun q => h6 ⟨h0, q⟩), if_neg (fun q => h17 ⟨h0, q⟩), if_pos h28.2])
          | (rw [if_neg (fun q => h6 ⟨h0, q⟩), if_neg (fun q => h17 ⟨h0, q⟩), if_neg (fun q => h28 ⟨h0, q⟩), if_pos h39.2])
          | (rw [if_neg (fun q => h6 ⟨h0, q⟩), if_neg (fun q => h17 ⟨h0, q⟩), if_neg (fun q => h28 ⟨h0, q⟩), if_neg (fun q => h39 ⟨h0, q⟩), if_pos h50.2])
          | (rw [if_neg (fun q => h6 ⟨h0, q⟩), if_neg (fun q => h17 ⟨h0, q⟩), if_neg (fun q => h28 ⟨h0, q⟩), if_neg (fun q => h39 ⟨h0, q⟩), if_neg (fun q => h50 ⟨h0, q⟩), if_pos h61.2])
          | (rw [if_neg (fun q => h6 ⟨h0, q⟩), if_neg (fun q => h17 ⟨h0, q⟩), if_neg (fun q => h28 ⟨h0, q⟩), if_neg (fun q => h39 ⟨h0, q⟩), if_neg (fun q => h50 ⟨h0, q⟩), if_neg (fun q => h61 ⟨h0, q⟩)])
      · have h28 := zb_n.mp h28
        refine zx_iconst dX3_verbAt_31 ?_
        refine zx_iret rfl rfl dX3_verbAt_32 ?_
        rw [hQ]
        refine ⟨congrArg (fun z : Int => (Sum.inl (some (zi z)) : Option zV ⊕ String)) ?_, by first | rfl | (exfalso; omega)⟩
        unfold vct
        first
        | (rw [if_pos h6.2])
        | (rw [if_neg (fun q => h6 ⟨h0, q⟩), if_pos h17.2])
        | (rw [if_neg (fun q => h6 ⟨h0, q⟩), if_neg (fun q => h17 ⟨h0, q⟩), if_pos h28.2])
        | (rw [if_neg (fun q => h6 ⟨h0, q⟩), if_neg (fun q => h17 ⟨h0, q⟩), if_neg (fun q => h28 ⟨h0, q⟩), if_pos h39.2])
        | (rw [if_neg (fun q => h6 ⟨h0, q⟩), if_neg (fun q => h17 ⟨h0, q⟩), if_neg (fun q => h28 ⟨h0, q⟩), if_neg (fun q => h39 ⟨h0, q⟩), if_pos h50.2])
        | (rw [if_neg (fun q => h6 ⟨h0, q⟩), if_neg (fun q => h17 ⟨h0, q⟩), if_neg (fun q => h28 ⟨h0, q⟩), if_neg (fun q => h39 ⟨h0, q⟩), if_neg (fun q => h50 ⟨h0, q⟩), if_pos h61.2])
        | (rw [if_neg (fun q => h6 ⟨h0, q⟩), if_neg (fun q => h17 ⟨h0, q⟩), if_neg (fun q => h28 ⟨h0, q⟩), if_neg (fun q => h39 ⟨h0, q⟩), if_neg (fun q => h50 ⟨h0, q⟩), if_neg (fun q => h61 ⟨h0, q⟩)])
    · have h17 := zb_n.mp h17
      refine zx_iconst dX3_verbAt_20 ?_
      refine zx_iret rfl rfl dX3_verbAt_21 ?_
      rw [hQ]
      refine ⟨congrArg (fun z : Int => (Sum.inl (some (zi z)) : Option zV ⊕ String)) ?_, by first | rfl | (exfalso; omega)⟩
      unfold vct
      first
      | (rw [if_pos h6.2])
      | (rw [if_neg (fun q => h6 ⟨h0, q⟩), if_pos h17.2])
      | (rw [if_neg (fun q => h6 ⟨h0, q⟩), if_neg (fun q => h17 ⟨h0, q⟩), if_pos h28.2])
      | (rw [if_neg (fun q => h6 ⟨h0, q⟩), if_neg (fun q => h17 ⟨h0, q⟩), if_neg (fun q => h28 ⟨h0, q⟩), if_pos h39.2])
      | (rw [if_neg (fun q => h6 ⟨h0, q⟩), if_neg (fun q => h17 ⟨h0, q⟩), if_neg (fun q => h28 ⟨h0, q⟩), if_neg (fun q => h39 ⟨h0, q⟩), if_pos h50.2])
      | (rw [if_neg (fun q => h6 ⟨h0, q⟩), if_neg (fun q => h17 ⟨h0, q⟩), if_neg (fun q => h28 ⟨h0, q⟩), if_neg (fun q => h39 ⟨h0, q⟩), if_neg (fun q => h50 ⟨h0, q⟩), if_pos h61.2])
      | (rw [if_neg (fun q => h6 ⟨h0, q⟩), if_neg (fun q => h17 ⟨h0, q⟩), if_neg (fun q => h28 ⟨h0, q⟩), if_neg (fun q => h39 ⟨h0, q⟩), if_neg (fun q => h50 ⟨h0, q⟩), if_neg (fun q => h61 ⟨h0, q⟩)])
  · have h6 := zb_n.mp h6
    refine zx_iconst dX3_verbAt_9 ?_
    refine zx_iret rfl rfl dX3_verbAt_10 ?_
    rw [hQ]
    refine ⟨congrArg (fun z : Int => (Sum.inl (some (zi z)) : Option zV ⊕ String)) ?_, by first | rfl | (exfalso; omega)⟩
    unfold vct
    first
    | (rw [if_pos h6.2])
    | (rw [if_neg (fun q => h6 ⟨h0, q⟩), if_pos h17.2])
    | (rw [if_neg (fun q => h6 ⟨h0, q⟩), if_neg (fun q => h17 ⟨h0, q⟩), if_pos h28.2])
    | (rw [if_neg (fun q => h6 ⟨h0, q⟩), if_neg (fun q => h17 ⟨h0, q⟩), if_neg (fun q => h28 ⟨h0, q⟩), if_pos h39.2])
    | (rw [if_neg (fun q => h6 ⟨h0, q⟩), if_neg (fun q => h17 ⟨h0, q⟩), if_neg (fun q => h28 ⟨h0, q⟩), if_neg (fun q => h39 ⟨h0, q⟩), if_pos h50.2])
    | (rw [if_neg (fun q => h6 ⟨h0, q⟩), if_neg (fun q => h17 ⟨h0, q⟩), if_neg (fun q => h28 ⟨h0, q⟩), if_neg (fun q => h39 ⟨h0, q⟩), if_neg (fun q => h50 ⟨h0, q⟩), if_pos h61.2])
    | (rw [if_neg (fun q => h6 ⟨h0, q⟩), if_neg (fun q => h17 ⟨h0, q⟩), if_neg (fun q => h28 ⟨h0, q⟩), if_neg (fun q => h39 ⟨h0, q⟩), if_neg (fun q => h50 ⟨h0, q⟩), if_neg (fun q => h61 ⟨h0, q⟩)])
set_option maxRecDepth 20000 in
set_option maxHeartbeats 2000000 in
theorem sX3_takeClueNumbers {l : Launch} {w : zW} (hfl : l.stackTraces = false) {σ : zS} {t : Nat → Int} {n : Nat} {S : zP} {k : Nat} (hz : zOK σ) (hP : PC t n S σ) (hk : σ.1 24 0 = (k : Int) ∧ k < 30) (hA1 : 0 ≤ σ.1 31 0 ∧ σ.1 31 0 ≤ 8) (hA2 : 0 ≤ σ.1 31 7 ∧ σ.1 31 7 ≤ 8) : Sp l w mX3_takeClueNumbers 6 0 [zf 3 24, zf 6 1, zf 0 31] σ (zqv (none) (fun τ => zOK τ ∧ zSame (fun q => q = 1 ∨ (26 ≤ q ∧ q ≤ 29)) σ τ ∧ PC t n (u4 t n (bk σ 30) S) τ ∧ (∀ q, 25 ≤ q → q ≤ 29 → ∀ i, i ≠ k → τ.1 q i = σ.1 q i) ∧ ((u4 t n (bk σ 30) S).2.1 = 0 → τ.1 26 k = pV t n S.1 ∧ τ.1 27 k = kdv t n (u1 t n S).1 ∧ τ.1 28 k = pV t n (u2 t n S).1 ∧ τ.1 29 k = pV t n (u3 t n (bk σ 30) S).1))) := by
  obtain ⟨Q, hQ⟩ : ∃ Q : zQ, Q = (zqv (none) (fun τ => zOK τ ∧ zSame (fun q => q = 1 ∨ (26 ≤ q ∧ q ≤ 29)) σ τ ∧ PC t n (u4 t n (bk σ 30) S) τ ∧ (∀ q, 25 ≤ q → q ≤ 29 → ∀ i, i ≠ k → τ.1 q i = σ.1 q i) ∧ ((u4 t n (bk σ 30) S).2.1 = 0 → τ.1 26 k = pV t n S.1 ∧ τ.1 27 k = kdv t n (u1 t n S).1 ∧ τ.1 28 k = pV t n (u2 t n S).1 ∧ τ.1 29 k = pV t n (u3 t n (bk σ 30) S).1))) := ⟨_, rfl⟩
  rw [← hQ]
  refine zx_enter hfl (by decide) rfl 1 rfl ?_
  show zX l w mX3_takeClueNumbers (zMQ w 6 0 Q) 0 [zf 3 24, zf 6 1, zf 0 31, zu] [] 0 σ
  have hpp := hP.2.2.1
  refine zx_aloadN dX3_takeClueNumbers_0 rfl rfl ?_
  refine zy_getI fl_RX3_9 rfl dX3_takeClueNumbers_1 rfl ?_
  refine zx_if_lt (tgt := 16) (by first | exact hz _ _ | assumption | exact zr_b _ | exact zcmp_r _ _ | (unfold zr at *; omega)) dX3_takeClueNumbers_4 (by decide) (fun h4 => ?_) (fun h4 => ?_)
  · exfalso; omega
  · refine zx_aloadN dX3_takeClueNumbers_7 rfl rfl ?_
    refine zy_getI fl_RX3_9 rfl dX3_takeClueNumbers_8 rfl ?_
    refine zx_bipush dX3_takeClueNumbers_11 rfl ?_
    refine zx_icmp_lt (tgt := 17) (by first | exact hz _ _ | assumption | exact zr_b _ | exact zcmp_r _ _ | (unfold zr at *; omega)) (by first | exact hz _ _ | assumption | exact zr_b _ | exact zcmp_r _ _ | (unfold zr at *; omega)) dX3_takeClueNumbers_13 (by decide) (fun h13 => ?_) (fun h13 => ?_)
    · refine zx_aloadN dX3_takeClueNumbers_17 rfl rfl ?_
      refine zy_getR (q' := 26) fl_RX3_19 rfl dX3_takeClueNumbers_18 rfl ?_
      refine zx_aloadN dX3_takeClueNumbers_21 rfl rfl ?_
      refine zy_getI fl_RX3_9 rfl dX3_takeClueNumbers_22 rfl ?_
      refine zy_top (b := ((k : Nat) : Int)) (hk.1) ?_
      refine zx_aloadN dX3_takeClueNumbers_25 rfl rfl ?_
      refine zx_iconst dX3_takeClueNumbers_26 ?_
      refine zx_sipush dX3_takeClueNumbers_27 rfl ?_
      refine zy_cvR [zi 1, zi 999] (sX6_takeNumber (S := S) hfl hz (by first | assumption | omega) (by first | exact hz _ _ | assumption | exact zr_b _ | exact zcmp_r _ _ | (unfold zr at *; omega)) (by first | exact hz _ _ | assumption | exact zr_b _ | exact zcmp_r _ _ | (unfold zr at *; omega))) dX3_takeClueNumbers_30 (by decide) rfl cw_RX3_78 okX6_takeNumber rfl (Nat.le_of_ble_eq_true rfl) ⟨Nat.le_of_ble_eq_true rfl, Nat.le_of_ble_eq_true rfl, Nat.le_of_ble_eq_true rfl, Nat.le_of_ble_eq_true rfl⟩ (fun τ30 hr30 => ?_)
      have hz30 : zOK τ30 := hr30.1
      refine zy_top (b := if (u1 t n S).2.1 = 0 then pV t n (S).1 else 0) (rfl) ?_
      have hq30 : PC t n (u1 t n S) τ30 := hr30.2.2
      have hy30 : zr (if (u1 t n S).2.1 = 0 then pV t n (S).1 else 0) := FI_z
      have n2430 : τ30.1 24 0 = (k : Int) := (hr30.2.1.1 24 (by dsimp only; omega) 0).trans hk.1
      refine zy_iast (i := k) rfl (by decide) (by decide) dX3_takeClueNumbers_33 (by omega) (by omega) rfl ?_
      refine zx_aloadN dX3_takeClueNumbers_34 rfl rfl ?_
      refine zy_cvR [] (sX6_takeKind (S := (u1 t n S)) hfl (zOK_put hz30 (by first | exact hz30 _ _ | assumption | exact zr_b _ | exact zcmp_r _ _ | (unfold zr at *; omega))) (PC_put (by decide) hq30)) dX3_takeClueNumbers_35 (by decide) rfl cw_RX3_89 okX6_takeKind rfl (Nat.le_of_ble_eq_true rfl) ⟨Nat.le_of_ble_eq_true rfl, Nat.le_of_ble_eq_true rfl, Nat.le_of_ble_eq_true rfl, Nat.le_of_ble_eq_true rfl⟩ (fun τ35 hr35 => ?_)
      have hz35 : zOK τ35 := hr35.1
      have hq35 : PC t n (u2 t n S) τ35 := hr35.2.2
      have n2435 : τ35.1 24 0 = (k : Int) := (hr35.2.1.1 24 (by dsimp only; omega) 0).trans ((zput_k _ _ _ _ _ (by decide)).trans n2430)
      have hke : -1 ≤ (if (u1 t n S).2.1 = 0 then kdv t n (u1 t n S).1 else -1) ∧ (if (u1 t n S).2.1 = 0 then kdv t n (u1 t n S).1 else -1) ≤ 4 := by split; exact kdv_r _ _ _; omega
      have hzk : zr (if (u1 t n S).2.1 = 0 then kdv t n (u1 t n S).1 else -1) := by unfold zr; omega
      have f35 : ∀ i, τ35.1 31 i = σ.1 31 i := fun i => (hr35.2.1.1 31 (by dsimp only; omega) i).trans ((zput_k _ _ _ _ _ (by decide)).trans (hr30.2.1.1 31 (by dsimp only; omega) i))
      refine zy_istoreN [zf 3 24, zf 6 1, zf 0 31, zi (if (u1 t n S).2.1 = 0 then kdv t n (u1 t n S).1 else -1)] dX3_takeClueNumbers_38 rfl (Nat.le_of_ble_eq_true rfl) (Nat.le_of_ble_eq_true rfl) rfl rfl ?_
      refine zx_aloadN dX3_takeClueNumbers_39 rfl rfl ?_
      refine zy_getR (q' := 27) fl_RX3_22 rfl dX3_takeClueNumbers_40 rfl ?_
      refine zx_aloadN dX3_takeClueNumbers_43 rfl rfl ?_
      refine zy_getI fl_RX3_9 rfl dX3_takeClueNumbers_44 rfl ?_
      refine zy_top (b := ((k : Nat) : Int)) (n2435) ?_
      refine zx_iloadN dX3_takeClueNumbers_47 rfl rfl ?_
      refine zy_iast (i := k) rfl (by decide) (by decide) dX3_takeClueNumbers_48 (by omega) (by omega) rfl ?_
      refine zx_aloadN dX3_takeClueNumbers_49 rfl rfl ?_
      refine zy_getR (q' := 28) fl_RX3_25 rfl dX3_takeClueNumbers_50 rfl ?_
      refine zx_aloadN dX3_takeClueNumbers_53 rfl rfl ?_
      refine zy_getI (v := τ35.1 24 0) fl_RX3_9 rfl dX3_takeClueNumbers_54 (zput_k _ _ _ _ _ (by omega)) ?_
      refine zy_top (b := ((k : Nat) : Int)) (n2435) ?_
      refine zx_aloadN dX3_takeClueNumbers_57 rfl rfl ?_
      refine zx_iloadN dX3_takeClueNumbers_58 rfl rfl ?_
      refine zy_cs [zi (if (u1 t n S).2.1 = 0 then kdv t n (u1 t n S).1 else -1)] (sX0_lowestValue  hfl (zOK_put hz35 (by first | exact hz35 _ _ | assumption | exact zr_b _ | exact zcmp_r _ _ | (unfold zr at *; omega))) (by first | exact hz35 _ _ | assumption | exact zr_b _ | exact zcmp_r _ _ | (unfold zr at *; omega))) dX3_takeClueNumbers_59 cw_RX3_93 okX0_lowestValue rfl (Nat.le_of_ble_eq_true rfl) ⟨Nat.le_of_ble_eq_true rfl, Nat.le_of_ble_eq_true rfl, Nat.le_of_ble_eq_true rfl, Nat.le_of_ble_eq_true rfl⟩ ?_
      have zlo : zr (if (if (u1 t n S).2.1 = 0 then kdv t n (u1 t n S).1 else -1) = 4 then 1450 else 0) := by split <;> (unfold zr; omega)
      refine zx_aloadN dX3_takeClueNumbers_62 rfl rfl ?_
      refine zx_iloadN dX3_takeClueNumbers_63 rfl rfl ?_
      refine zy_cv [zi (if (u1 t n S).2.1 = 0 then kdv t n (u1 t n S).1 else -1)] (sX0_highestValue  hfl (zOK_put hz35 (by first | exact hz35 _ _ | assumption | exact zr_b _ | exact zcmp_r _ _ | (unfold zr at *; omega))) (by first | exact hz35 _ _ | assumption | exact zr_b _ | exact zcmp_r _ _ | (unfold zr at *; omega))) dX3_takeClueNumbers_64 (by decide) rfl cw_RX3_99 okX0_highestValue rfl (Nat.le_of_ble_eq_true rfl) ⟨Nat.le_of_ble_eq_true rfl, Nat.le_of_ble_eq_true rfl, Nat.le_of_ble_eq_true rfl, Nat.le_of_ble_eq_true rfl⟩ ?_
      refine zy_top (b := (if (if (u1 t n S).2.1 = 0 then kdv t n (u1 t n S).1 else -1) = 0 then 31 else if (if (u1 t n S).2.1 = 0 then kdv t n (u1 t n S).1 else -1) = 1 then 15 else if (if (u1 t n S).2.1 = 0 then kdv t n (u1 t n S).1 else -1) = 2 then σ.1 31 7 - 1 else if (if (u1 t n S).2.1 = 0 then kdv t n (u1 t n S).1 else -1) = 3 then 9 else 1999)) (by rw [zput_k _ _ _ _ _ (by decide), f35]) ?_
      have zhi : zr (if (if (u1 t n S).2.1 = 0 then kdv t n (u1 t n S).1 else -1) = 0 then 31 else if (if (u1 t n S).2.1 = 0 then kdv t n (u1 t n S).1 else -1) = 1 then 15 else if (if (u1 t n S).2.1 = 0 then kdv t n (u1 t n S).1 else -1) = 2 then σ.1 31 7 - 1 else if (if (u1 t n S).2.1 = 0 then kdv t n (u1 t n S).1 else -1) = 3 then 9 else 1999) := by (repeat' split) <;> (unfold zr; omega)
      have e67 : pNum t n (u2 t n S) (if (if (u1 t n S).2.1 = 0 then kdv t n (u1 t n S).1 else -1) = 4 then 1450 else 0) (if (if (u1 t n S).2.1 = 0 then kdv t n (u1 t n S).1 else -1) = 0 then 31 else if (if (u1 t n S).2.1 = 0 then kdv t n (u1 t n S).1 else -1) = 1 then 15 else if (if (u1 t n S).2.1 = 0 then kdv t n (u1 t n S).1 else -1) = 2 then σ.1 31 7 - 1 else if (if (u1 t n S).2.1 = 0 then kdv t n (u1 t n S).1 else -1) = 3 then 9 else 1999) = u3 t n (bk σ 30) S := by
        unfold u3
        refine pNum_lo (fun q => ?_)
        have hk := pKd_s (t := t) (n := n) (S := u1 t n S) q
        rw [if_pos hk.1]
        exact ⟨rfl, rfl⟩
      refine zy_cvR [zi (if (if (u1 t n S).2.1 = 0 then kdv t n (u1 t n S).1 else -1) = 4 then 1450 else 0), zi (if (if (u1 t n S).2.1 = 0 then kdv t n (u1 t n S).1 else -1) = 0 then 31 else if (if (u1 t n S).2.1 = 0 then kdv t n (u1 t n S).1 else -1) = 1 then 15 else if (if (u1 t n S).2.1 = 0 then kdv t n (u1 t n S).1 else -1) = 2 then σ.1 31 7 - 1 else if (if (u1 t n S).2.1 = 0 then kdv t n (u1 t n S).1 else -1) = 3 then 9 else 1999)] (sX6_takeNumber (S := (u2 t n S)) hfl (zOK_put hz35 (by first | exact hz35 _ _ | assumption | exact zr_b _ | exact zcmp_r _ _ | (unfold zr at *; omega))) (PC_put (by decide) hq35) (by first | exact hz35 _ _ | assumption | exact zr_b _ | exact zcmp_r _ _ | (unfold zr at *; omega)) (by first | exact hz35 _ _ | assumption | exact zr_b _ | exact zcmp_r _ _ | (unfold zr at *; omega))) dX3_takeClueNumbers_67 (by decide) rfl cw_RX3_78 okX6_takeNumber rfl (Nat.le_of_ble_eq_true rfl) ⟨Nat.le_of_ble_eq_true rfl, Nat.le_of_ble_eq_true rfl, Nat.le_of_ble_eq_true rfl, Nat.le_of_ble_eq_true rfl⟩ (fun τ67 hr67 => ?_)
      have hz67 : zOK τ67 := hr67.1
      refine zy_top (b := if (u3 t n (bk σ 30) S).2.1 = 0 then pV t n (u2 t n S).1 else 0) (by rw [e67]) ?_
      have hq67 : PC t n (u3 t n (bk σ 30) S) τ67 := by rw [← e67]; exact hr67.2.2
      have hy67 : zr (if (u3 t n (bk σ 30) S).2.1 = 0 then pV t n (u2 t n S).1 else 0) := FI_z
      have n2467 : τ67.1 24 0 = (k : Int) := (hr67.2.1.1 24 (by dsimp only; omega) 0).trans ((zput_k _ _ _ _ _ (by decide)).trans n2435)
      refine zy_iast (i := k) rfl (by decide) (by decide) dX3_takeClueNumbers_70 (by omega) (by omega) rfl ?_
      refine zx_aloadN dX3_takeClueNumbers_71 rfl rfl ?_
      refine zy_getR (q' := 29) fl_RX3_28 rfl dX3_takeClueNumbers_72 rfl ?_
      refine zx_aloadN dX3_takeClueNumbers_75 rfl rfl ?_
      refine zy_getI (v := τ67.1 24 0) fl_RX3_9 rfl dX3_takeClueNumbers_76 (zput_k _ _ _ _ _ (by omega)) ?_
      refine zy_top (b := ((k : Nat) : Int)) (n2467) ?_
      refine zx_aloadN dX3_takeClueNumbers_79 rfl rfl ?_
      refine zx_iconst dX3_takeClueNumbers_80 ?_
      refine zx_bipush dX3_takeClueNumbers_81 rfl ?_
      refine zy_cvR [zi 1, zi 9] (sX6_takeNumber (S := (u3 t n (bk σ 30) S)) hfl (zOK_put hz67 (by first | exact hz67 _ _ | assumption | exact zr_b _ | exact zcmp_r _ _ | (unfold zr at *; omega))) (PC_put (by decide) hq67) (by first | exact hz67 _ _ | assumption | exact zr_b _ | exact zcmp_r _ _ | (unfold zr at *; omega)) (by first | exact hz67 _ _ | assumption | exact zr_b _ | exact zcmp_r _ _ | (unfold zr at *; omega))) dX3_takeClueNumbers_83 (by decide) rfl cw_RX3_78 okX6_takeNumber rfl (Nat.le_of_ble_eq_true rfl) ⟨Nat.le_of_ble_eq_true rfl, Nat.le_of_ble_eq_true rfl, Nat.le_of_ble_eq_true rfl, Nat.le_of_ble_eq_true rfl⟩ (fun τ83 hr83 => ?_)
      have hz83 : zOK τ83 := hr83.1
      refine zy_top (b := if (u4 t n (bk σ 30) S).2.1 = 0 then pV t n (u3 t n (bk σ 30) S).1 else 0) (rfl) ?_
      have hq83 : PC t n (u4 t n (bk σ 30) S) τ83 := hr83.2.2
      have hy83 : zr (if (u4 t n (bk σ 30) S).2.1 = 0 then pV t n (u3 t n (bk σ 30) S).1 else 0) := FI_z
      refine zy_iast (i := k) rfl (by decide) (by decide) dX3_takeClueNumbers_86 (by omega) (by omega) rfl ?_
      refine zx_vret rfl dX3_takeClueNumbers_87 ?_
      rw [hQ]
      refine ⟨rfl, ?_⟩
      refine ⟨(zOK_put hz83 (by first | exact hz83 _ _ | assumption | exact zr_b _ | exact zcmp_r _ _ | (unfold zr at *; omega))), ⟨fun q hq i => ?_, ?_⟩, PC_put (by decide) hq83, fun q h1 h2 i hi => ?_, fun z => ?_⟩
      · have hq2 := hq
        dsimp only at hq2
        rw [zput_k _ _ _ _ _ (by omega), hr83.2.1.1 q (by dsimp only; omega), zput_k _ _ _ _ _ (by omega), hr67.2.1.1 q (by dsimp only; omega), zput_k _ _ _ _ _ (by omega), hr35.2.1.1 q (by dsimp only; omega), zput_k _ _ _ _ _ (by omega), hr30.2.1.1 q (by dsimp only; omega)]
      · exact hr83.2.1.2.trans (hr67.2.1.2.trans (hr35.2.1.2.trans hr30.2.1.2))
      · rw [zput_i _ _ _ _ _ hi, hr83.2.1.1 q (by dsimp only; omega), zput_i _ _ _ _ _ hi, hr67.2.1.1 q (by dsimp only; omega), zput_i _ _ _ _ _ hi, hr35.2.1.1 q (by dsimp only; omega), zput_i _ _ _ _ _ hi, hr30.2.1.1 q (by dsimp only; omega)]
      · have s3 := pNum_s (t := t) (n := n) (S := u3 t n (bk σ 30) S) z
        have s2 := pNum_s (t := t) (n := n) (S := u2 t n S) s3.1
        have sk := pKd_s (t := t) (n := n) (S := u1 t n S) s2.1
        refine ⟨?_, ?_, ?_, ?_⟩
        · rw [zput_k _ _ _ _ _ (by decide), hr83.2.1.1 26 (by dsimp only; omega), zput_k _ _ _ _ _ (by decide), hr67.2.1.1 26 (by dsimp only; omega), zput_k _ _ _ _ _ (by decide), hr35.2.1.1 26 (by dsimp only; omega), zput_s]; exact if_pos sk.1
        · rw [zput_k _ _ _ _ _ (by decide), hr83.2.1.1 27 (by dsimp only; omega), zput_k _ _ _ _ _ (by decide), hr67.2.1.1 27 (by dsimp only; omega), zput_s]; exact if_pos sk.1
        · rw [zput_k _ _ _ _ _ (by decide), hr83.2.1.1 28 (by dsimp only; omega), zput_s]; exact if_pos s3.1
        · rw [zput_s]; exact if_pos z
    · exfalso; omega

