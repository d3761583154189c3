abbrev mX9_perform : zM := (yX9_perform, cX9_perform, 5, (some .int), [])
theorem okX9_perform : zMok mX9_perform 1 := ⟨by decide, by decide, by decide +kernel⟩
theorem dX9_perform_0 : decode cX9_perform 0 = .ok (.iload_n 1, 1) := by decide +kernel
theorem dX9_perform_1 : decode cX9_perform 1 = .ok (.ifCond .lt 14, 3) := by decide +kernel
theorem dX9_perform_4 : decode cX9_perform 4 = .ok (.iload_n 1, 1) := by decide +kernel
theorem dX9_perform_5 : decode cX9_perform 5 = .ok (.aload_n 0, 1) := by decide +kernel
theorem dX9_perform_6 : decode cX9_perform 6 = .ok (.getfield 26, 3) := by decide +kernel
theorem fl_RX9_26 : zFl RX9 26 9 2 := ⟨RX9, TX9, 9, rfl, by decide, zmem1 664 (by decide +kernel) rfl, rfl⟩
theorem dX9_perform_9 : decode cX9_perform 9 = .ok (.getfield 146, 3) := by decide +kernel
theorem fl_RX9_146 : zFl RX9 146 3 0 := ⟨RX3, TX3, 6, rfl, by decide, zmem1 322 (by decide +kernel) rfl, rfl⟩
theorem dX9_perform_12 : decode cX9_perform 12 = .ok (.if_icmp .lt 5, 3) := by decide +kernel
theorem dX9_perform_17 : decode cX9_perform 17 = .ok (.aload_n 0, 1) := by decide +kernel
theorem dX9_perform_18 : decode cX9_perform 18 = .ok (.getfield 26, 3) := by decide +kernel
theorem dX9_perform_21 : decode cX9_perform 21 = .ok (.getfield 354, 3) := by decide +kernel
theorem fl_RX9_354 : zFl RX9 354 3 2 := ⟨RX3, TX3, 6, rfl, by decide, zmem1 326 (by decide +kernel) rfl, rfl⟩
theorem dX9_perform_24 : decode cX9_perform 24 = .ok (.iload_n 1, 1) := by decide +kernel
theorem dX9_perform_25 : decode cX9_perform 25 = .ok (.iaload, 1) := by decide +kernel
theorem dX9_perform_26 : decode cX9_perform 26 = .ok (.istore_n 2, 1) := by decide +kernel
theorem dX9_perform_27 : decode cX9_perform 27 = .ok (.aload_n 0, 1) := by decide +kernel
theorem dX9_perform_28 : decode cX9_perform 28 = .ok (.getfield 26, 3) := by decide +kernel
theorem dX9_perform_31 : decode cX9_perform 31 = .ok (.getfield 357, 3) := by decide +kernel
theorem fl_RX9_357 : zFl RX9 357 3 3 := ⟨RX3, TX3, 6, rfl, by decide, zmem1 328 (by decide +kernel) rfl, rfl⟩
theorem dX9_perform_34 : decode cX9_perform 34 = .ok (.iload_n 1, 1) := by decide +kernel
theorem dX9_perform_35 : decode cX9_perform 35 = .ok (.iaload, 1) := by decide +kernel
theorem dX9_perform_36 : decode cX9_perform 36 = .ok (.istore_n 3, 1) := by decide +kernel
theorem dX9_perform_37 : decode cX9_perform 37 = .ok (.aload_n 0, 1) := by decide +kernel
theorem dX9_perform_38 : decode cX9_perform 38 = .ok (.getfield 26, 3) := by decide +kernel
theorem dX9_perform_41 : decode cX9_perform 41 = .ok (.getfield 360, 3) := by decide +kernel
theorem fl_RX9_360 : zFl RX9 360 3 4 := ⟨RX3, TX3, 6, rfl, by decide, zmem1 330 (by decide +kernel) rfl, rfl⟩
theorem dX9_perform_44 : decode cX9_perform 44 = .ok (.iload_n 1, 1) := by decide +kernel
theorem dX9_perform_45 : decode cX9_perform 45 = .ok (.iaload, 1) := by decide +kernel
theorem dX9_perform_46 : decode cX9_perform 46 = .ok (.istore 4, 2) := by decide +kernel
theorem dX9_perform_48 : decode cX9_perform 48 = .ok (.aload_n 0, 1) := by decide +kernel
theorem dX9_perform_49 : decode cX9_perform 49 = .ok (.getfield 26, 3) := by decide +kernel
theorem dX9_perform_52 : decode cX9_perform 52 = .ok (.getfield 363, 3) := by decide +kernel
theorem fl_RX9_363 : zFl RX9 363 3 1 := ⟨RX3, TX3, 6, rfl, by decide, zmem1 324 (by decide +kernel) rfl, rfl⟩
theorem dX9_perform_55 : decode cX9_perform 55 = .ok (.iload_n 1, 1) := by decide +kernel
theorem dX9_perform_56 : decode cX9_perform 56 = .ok (.iaload, 1) := by decide +kernel
theorem dX9_perform_57 : decode cX9_perform 57 = .ok (.tableswitch 93 0 4 #[35, 56, 65, 74, 83], 35) := by decide +kernel
theorem dX9_perform_92 : decode cX9_perform 92 = .ok (.aload_n 0, 1) := by decide +kernel
theorem dX9_perform_93 : decode cX9_perform 93 = .ok (.getfield 33, 3) := by decide +kernel
theorem dX9_perform_96 : decode cX9_perform 96 = .ok (.iload_n 2, 1) := by decide +kernel
theorem dX9_perform_97 : decode cX9_perform 97 = .ok (.iload_n 3, 1) := by decide +kernel
theorem dX9_perform_98 : decode cX9_perform 98 = .ok (.iload 4, 2) := by decide +kernel
theorem dX9_perform_100 : decode cX9_perform 100 = .ok (.aload_n 0, 1) := by decide +kernel
theorem dX9_perform_101 : decode cX9_perform 101 = .ok (.getfield 26, 3) := by decide +kernel
theorem dX9_perform_104 : decode cX9_perform 104 = .ok (.getfield 366, 3) := by decide +kernel
theorem fl_RX9_366 : zFl RX9 366 3 5 := ⟨RX3, TX3, 6, rfl, by decide, zmem1 332 (by decide +kernel) rfl, rfl⟩
theorem dX9_perform_107 : decode cX9_perform 107 = .ok (.iload_n 1, 1) := by decide +kernel
theorem dX9_perform_108 : decode cX9_perform 108 = .ok (.iaload, 1) := by decide +kernel
theorem dX9_perform_109 : decode cX9_perform 109 = .ok (.invokevirtual 351, 3) := by decide +kernel
theorem dX9_perform_112 : decode cX9_perform 112 = .ok (.ireturn, 1) := by decide +kernel
theorem dX9_perform_113 : decode cX9_perform 113 = .ok (.aload_n 0, 1) := by decide +kernel
theorem dX9_perform_114 : decode cX9_perform 114 = .ok (.getfield 33, 3) := by decide +kernel
theorem dX9_perform_117 : decode cX9_perform 117 = .ok (.iload_n 2, 1) := by decide +kernel
theorem dX9_perform_118 : decode cX9_perform 118 = .ok (.invokevirtual 297, 3) := by decide +kernel
theorem dX9_perform_121 : decode cX9_perform 121 = .ok (.ireturn, 1) := by decide +kernel
theorem dX9_perform_122 : decode cX9_perform 122 = .ok (.aload_n 0, 1) := by decide +kernel
theorem dX9_perform_123 : decode cX9_perform 123 = .ok (.getfield 33, 3) := by decide +kernel
theorem dX9_perform_126 : decode cX9_perform 126 = .ok (.iload_n 2, 1) := by decide +kernel
theorem dX9_perform_127 : decode cX9_perform 127 = .ok (.invokevirtual 308, 3) := by decide +kernel
theorem dX9_perform_130 : decode cX9_perform 130 = .ok (.ireturn, 1) := by decide +kernel
theorem dX9_perform_131 : decode cX9_perform 131 = .ok (.aload_n 0, 1) := by decide +kernel
theorem dX9_perform_132 : decode cX9_perform 132 = .ok (.getfield 33, 3) := by decide +kernel
theorem dX9_perform_135 : decode cX9_perform 135 = .ok (.iload_n 2, 1) := by decide +kernel
theorem dX9_perform_136 : decode cX9_perform 136 = .ok (.invokevirtual 311, 3) := by decide +kernel
theorem dX9_perform_139 : decode cX9_perform 139 = .ok (.ireturn, 1) := by decide +kernel
theorem dX9_perform_140 : decode cX9_perform 140 = .ok (.aload_n 0, 1) := by decide +kernel
theorem dX9_perform_141 : decode cX9_perform 141 = .ok (.getfield 33, 3) := by decide +kernel
theorem dX9_perform_144 : decode cX9_perform 144 = .ok (.iload_n 2, 1) := by decide +kernel
theorem dX9_perform_145 : decode cX9_perform 145 = .ok (.iload_n 3, 1) := by decide +kernel
theorem dX9_perform_146 : decode cX9_perform 146 = .ok (.invokevirtual 314, 3) := by decide +kernel
theorem dX9_perform_149 : decode cX9_perform 149 = .ok (.ireturn, 1) := by decide +kernel
theorem dX9_perform_150 : decode cX9_perform 150 = .ok (.aload_n 0, 1) := by decide +kernel
theorem dX9_perform_151 : decode cX9_perform 151 = .ok (.getfield 33, 3) := by decide +kernel
theorem dX9_perform_154 : decode cX9_perform 154 = .ok (.iload_n 2, 1) := by decide +kernel
theorem dX9_perform_155 : decode cX9_perform 155 = .ok (.iload_n 3, 1) := by decide +kernel
theorem dX9_perform_156 : decode cX9_perform 156 = .ok (.iload 4, 2) := by decide +kernel
theorem dX9_perform_158 : decode cX9_perform 158 = .ok (.invokevirtual 317, 3) := by decide +kernel
theorem dX9_perform_161 : decode cX9_perform 161 = .ok (.ireturn, 1) := by decide +kernel
/-! one command on a book -/
noncomputable def cmB (D : zBk) (v : Int) (V : Nat → Int) : zBk := if v = 0 then adB D (V 1) (V 2) (V 3) (V 4) else if v = 1 then rdB D (V 1) else if v = 2 then ov D 18 (V 1).toNat 1 else if v = 3 then ov D 18 (V 1).toNat 0 else if v = 4 then ov D 16 (V 1).toNat (V 2) else lnB D (V 1).toNat (V 2).toNat (V 3)
noncomputable def cmE (D : zBk) (v : Int) (V : Nat → Int) : Int :=
  if v = 0 then (if 40 ≤ D 12 0 then 3 else 0) else if v = 1 then 0
  else if v = 2 then (if ¬ (0 ≤ V 1 ∧ V 1 < D 12 0) then 1 else if ¬ D 18 (V 1).toNat = 0 then 3 else 0)
  else if v = 3 then (if ¬ (0 ≤ V 1 ∧ V 1 < D 12 0) then 1 else if D 18 (V 1).toNat = 0 then 3 else 0)
  else if v = 4 then (if ¬ (0 ≤ V 1 ∧ V 1 < D 12 0) then 1 else 0)
  else if V 1 = V 2 then 2 else @ite Int (hasDev D (V 1).toNat (V 3)) (Classical.propDecidable _) 0 3
noncomputable def cmN (D : zBk) (v : Int) (V : Nat → Int) : zBk := if cmE D v V = 0 then cmB D v V else D
def cmV (D : zBk) (v : Int) (V : Nat → Int) : Prop := (0 ≤ v ∧ v ≤ 5) ∧ (v = 0 → (1 ≤ V 1 ∧ V 1 ≤ 999) ∧ (1 ≤ V 4 ∧ V 4 ≤ 9) ∧ (0 ≤ V 2 ∧ V 2 ≤ 4) ∧ loK (V 2) ≤ V 3 ∧ V 3 ≤ hiK D (V 2)) ∧ (v = 1 → 1 ≤ V 1 ∧ V 1 ≤ 40) ∧ (v = 2 ∨ v = 3 ∨ v = 4 → 0 ≤ V 1 ∧ V 1 ≤ 39) ∧ (v = 4 → 1 ≤ V 2 ∧ V 2 ≤ 9) ∧ (v = 5 → (0 ≤ V 1 ∧ V 1 < D 1 0) ∧ (0 ≤ V 2 ∧ V 2 < D 1 0) ∧ 0 ≤ V 3 ∧ V 3 ≤ 31)
theorem cmN_t {D : zBk} {v : Int} {V : Nat → Int} (h : cmE D v V = 0) : cmN D v V = cmB D v V := if_pos h
theorem cmN_f {D : zBk} {v : Int} {V : Nat → Int} (h : ¬ cmE D v V = 0) : cmN D v V = D := if_neg h
theorem cmB_1 (D : zBk) (v : Int) (V : Nat → Int) (i : Nat) : cmB D v V 1 i = D 1 i := by
  unfold cmB
  split
  · unfold adB; rw [if_neg (by omega), if_neg (by omega)]
  · split
    · exact if_neg (by decide)
    · (repeat' split) <;> first | exact if_neg (by omega) | (unfold lnB; exact if_neg (by decide))
theorem cS_v {t : Nat → Int} {n : Nat} {v : Int} {D : zBk} {S : zP} (hv : 0 ≤ v ∧ v ≤ 5) (hP : 0 ≤ D 1 0 ∧ D 1 0 ≤ 8) (h : (cS t n v D S).2.1 = 0) : cmV D v (cV t n v D S) := by
  unfold cS at h
  refine ⟨hv, fun q => ?_, fun q => ?_, fun q => ?_, fun q => ?_, fun q => ?_⟩
  · rw [if_pos q] at h
    have s0 := pSem_s (t := t) (n := n) (S := u4 t n D S) h
    have s4 := pNum_s (t := t) (n := n) (S := u3 t n D S) (lo := 1) (hi := 9) s0.1
    have s3 := pNum_s (t := t) (n := n) (S := u2 t n S) s4.1
    have s2 := pKd_s (t := t) (n := n) (S := u1 t n S) s3.1
    have s1 := pNum_s (t := t) (n := n) (S := S) (lo := 1) (hi := 999) s2.1
    have hk := kdv_r t n (u1 t n S).1
    have e1 : cV t n v D S 1 = pV t n S.1 := by unfold cV; rw [if_pos q]; rfl
    have e2 : cV t n v D S 2 = kdv t n (u1 t n S).1 := by unfold cV; rw [if_pos q]; rfl
    have e3 : cV t n v D S 3 = pV t n (u2 t n S).1 := by unfold cV; rw [if_pos q]; rfl
    have e4 : cV t n v D S 4 = pV t n (u3 t n D S).1 := by unfold cV; rw [if_pos q]; rfl
    rw [e1, e2, e3, e4]
    exact ⟨s1.2.1, s4.2.1, ⟨by have := s2.2.1; omega, hk.2⟩, s3.2.1.1, s3.2.1.2⟩
  · rw [if_neg (by omega), if_pos q] at h
    have s0 := pSem_s (t := t) (n := n) (S := a1 t n 1 40 S) h
    have s1 := pNum_s (t := t) (n := n) (S := S) (lo := 1) (hi := 40) s0.1
    have e1 : cV t n v D S 1 = pV t n S.1 := by unfold cV; rw [if_neg (by omega), if_neg (by omega), if_neg (by omega)]
    rw [e1]; exact s1.2.1
  · by_cases q4 : v = 4
    · rw [if_neg (by omega), if_neg (by omega), if_pos q4] at h
      have s0 := pSem_s (t := t) (n := n) (S := g1 t n S) h
      have s1 := pNum_s (t := t) (n := n) (S := a1 t n 0 39 S) (lo := 1) (hi := 9) s0.1
      have s2 := pNum_s (t := t) (n := n) (S := S) (lo := 0) (hi := 39) s1.1
      have e1 : cV t n v D S 1 = pV t n S.1 := by unfold cV; rw [if_neg (by omega), if_pos q4]; rfl
      rw [e1]; exact s2.2.1
    · rw [if_neg (by omega), if_neg (by omega), if_neg q4, if_neg (by omega)] at h
      have s0 := pSem_s (t := t) (n := n) (S := a1 t n 0 39 S) h
      have s1 := pNum_s (t := t) (n := n) (S := S) (lo := 0) (hi := 39) s0.1
      have e1 : cV t n v D S 1 = pV t n S.1 := by unfold cV; rw [if_neg (by omega), if_neg (by omega), if_neg (by omega)]
      rw [e1]; exact s1.2.1
  · rw [if_neg (by omega), if_neg (by omega), if_pos q] at h
    have s0 := pSem_s (t := t) (n := n) (S := g1 t n S) h
    have s1 := pNum_s (t := t) (n := n) (S := a1 t n 0 39 S) (lo := 1) (hi := 9) s0.1
    have e1 : cV t n v D S 2 = pV t n (a1 t n 0 39 S).1 := by unfold cV; rw [if_neg (by omega), if_pos q]; rfl
    rw [e1]; exact s1.2.1
  · rw [if_neg (by omega), if_neg (by omega), if_neg (by omega), if_pos q] at h
    have s0 := pSem_s (t := t) (n := n) (S := l2 t n D S) h
    have s1 := pNum_s (t := t) (n := n) (S := l1 t n D S) (lo := 0) (hi := 31) s0.1
    have s2 := pPrn_s (t := t) (n := n) (S := o1 t n D S) (f := D 2) (P := D 1 0) s1.1
    have s3 := pPrn_s (t := t) (n := n) (S := S) (f := D 2) (P := D 1 0) s2.1
    have r1 := fz_r (D 2) hP (nmv t n S)
    have r2 := fz_r (D 2) hP (nmv t n (o1 t n D S))
    have e1 : cV t n v D S 1 = fz (D 2) (D 1 0) (nmv t n S) := by unfold cV; rw [if_neg (by omega), if_neg (by omega), if_pos q]; rfl
    have e2 : cV t n v D S 2 = fz (D 2) (D 1 0) (nmv t n (o1 t n D S)) := by unfold cV; rw [if_neg (by omega), if_neg (by omega), if_pos q]; rfl
    have e3 : cV t n v D S 3 = pV t n (l1 t n D S).1 := by unfold cV; rw [if_neg (by omega), if_neg (by omega), if_pos q]; rfl
    rw [e1, e2, e3]
    have x1 := s3.2.2.1
    have x2 := s2.2.2.1
    exact ⟨by omega, by omega, s1.2.1⟩
theorem cY_v {t : Nat → Int} {n : Nat} {D : zBk} {k : Nat} (hP : 0 ≤ D 1 0 ∧ D 1 0 ≤ 8) (hm : mor t n (cY t n D k)) (h : (cY t n D (k + 1)).2.1 = 0) : cmV D (vct t n (cY t n D k).1) (cV t n (vct t n (cY t n D k).1) D (pN t n (cY t n D k))) := by
  have hv := vct_r t n (cY t n D k).1
  by_cases e1 : vct t n (cY t n D k).1 = -1
  · rw [cY_n hm e1] at h; exact absurd h (pF_nz (by decide))
  · by_cases e2 : 30 ≤ k
    · rw [cY_l hm e1 e2] at h; exact absurd h (pF_nz (by decide))
    · rw [cY_c hm e1 e2] at h
      exact cS_v (by omega) hP h

set_option maxRecDepth 20000 in
set_option maxHeartbeats 2000000 in
theorem sX9_perform {l : Launch} {w : zW} (hfl : l.stackTraces = false) {σ : zS} {i : Nat} {v : Int} {V : Nat → Int} (hz : zOK σ) (hW : WF (bk σ 30)) (hb : bbK σ 30) (hc : cWr σ i v V) (hv : cmV (bk σ 30) v V) (hi : (i : Int) < σ.1 24 0 ∧ i < 30) : Sp l w mX9_perform 4 0 [zf 9 0, zi ((i : Nat) : Int)] σ (zqv (some (zi (cmE (bk σ 30) v V))) (fun τ => zOK τ ∧ zSame (fun q => 30 ≤ q ∧ q ≤ 49) σ τ ∧ bbK τ 30 ∧ WF (bk τ 30) ∧ lEq (cmN (bk σ 30) v V) (bk τ 30))) := by
  obtain ⟨Q, hQ⟩ : ∃ Q : zQ, Q = (zqv (some (zi (cmE (bk σ 30) v V))) (fun τ => zOK τ ∧ zSame (fun q => 30 ≤ q ∧ q ≤ 49) σ τ ∧ bbK τ 30 ∧ WF (bk τ 30) ∧ lEq (cmN (bk σ 30) v V) (bk τ 30))) := ⟨_, rfl⟩
  rw [← hQ]
  refine zx_enter hfl (by decide) rfl 3 rfl ?_
  show zX l w mX9_perform (zMQ w 4 0 Q) 0 [zf 9 0, zi ((i : Nat) : Int), zu, zu, zu] [] 0 σ
  have hP8 : 0 ≤ σ.1 31 0 ∧ σ.1 31 0 ≤ 8 := hW.1.1
  have hM8 : 0 ≤ σ.1 31 7 ∧ σ.1 31 7 ≤ 8 := hW.1.2.1
  have hK8 : 0 ≤ σ.1 42 0 ∧ σ.1 42 0 ≤ 40 := hW.1.2.2.2
  have hO8 : ∀ i : Nat, (i : Int) < σ.1 42 0 → 0 ≤ σ.1 49 i ∧ σ.1 49 i < σ.1 42 0 := hW.2.2.2.2.2.1
  have hI8 : ∀ i j : Nat, (i : Int) < σ.1 42 0 → (j : Int) < σ.1 42 0 → (σ.1 49 i).toNat = (σ.1 49 j).toNat → i = j := fun i j a b e => WFo_inj hW.2.2.2.2.2 a b e
  obtain ⟨c1, c2, c3, c4, c5⟩ := hc
  obtain ⟨vr, v0, v1, v2, v4, v5⟩ := hv
  have y1 : zr (V 1) := c2 ▸ hz 26 i
  have y2 : v = 0 ∨ v = 4 ∨ v = 5 → zr (V 2) := fun q => c3 q ▸ hz 27 i
  have y3 : v = 0 ∨ v = 5 → zr (V 3) := fun q => c4 q ▸ hz 28 i
  have y4 : v = 0 → zr (V 4) := fun q => c5 q ▸ hz 29 i
  have k12 : bk σ 30 12 0 = σ.1 42 0 := rfl
  have k18 : bk σ 30 18 (V 1).toNat = σ.1 48 (V 1).toNat := rfl
  have k10 : bk σ 30 1 0 = σ.1 31 0 := rfl
  have k17 : bk σ 30 1 7 = σ.1 31 7 := rfl
  refine zx_iloadN dX9_perform_0 rfl rfl ?_
  refine zx_if_lt (tgt := 15) (by first | exact hz _ _ | assumption | exact zr_b _ | exact zcmp_r _ _ | (unfold zr at *; omega)) dX9_perform_1 (by decide) (fun h1 => ?_) (fun h1 => ?_)
  · exfalso; omega
  · refine zx_iloadN dX9_perform_4 rfl rfl ?_
    refine zx_aloadN dX9_perform_5 rfl rfl ?_
    refine zy_getR (q' := 24) fl_RX9_26 rfl dX9_perform_6 rfl ?_
    refine zy_getI fl_RX9_146 rfl dX9_perform_9 rfl ?_
    refine zx_icmp_lt (tgt := 17) (by first | exact hz _ _ | assumption | exact zr_b _ | exact zcmp_r _ _ | (unfold zr at *; omega)) (by first | exact hz _ _ | assumption | exact zr_b _ | exact zcmp_r _ _ | (unfold zr at *; omega)) dX9_perform_12 (by decide) (fun h12 => ?_) (fun h12 => ?_)
    · refine zx_aloadN dX9_perform_17 rfl rfl ?_
      refine zy_getR (q' := 24) fl_RX9_26 rfl dX9_perform_18 rfl ?_
      refine zy_getR (q' := 26) fl_RX9_354 rfl dX9_perform_21 rfl ?_
      refine zx_iloadN dX9_perform_24 rfl rfl ?_
      refine zy_iald (v := σ.1 26 i) rfl (by decide) (by decide) dX9_perform_25 (by omega) (by omega) rfl ?_
      refine zy_top (b := V 1) (c2) ?_
      refine zy_istoreN [zf 9 0, zi ((i : Nat) : Int), zi (V 1), zu, zu] dX9_perform_26 rfl (Nat.le_of_ble_eq_true rfl) (Nat.le_of_ble_eq_true rfl) rfl rfl ?_
      refine zx_aloadN dX9_perform_27 rfl rfl ?_
      refine zy_getR (q' := 24) fl_RX9_26 rfl dX9_perform_28 rfl ?_
      refine zy_getR (q' := 27) fl_RX9_357 rfl dX9_perform_31 rfl ?_
      refine zx_iloadN dX9_perform_34 rfl rfl ?_
      refine zy_iald (v := σ.1 27 i) rfl (by decide) (by decide) dX9_perform_35 (by omega) (by omega) rfl ?_
      refine zy_istoreN [zf 9 0, zi ((i : Nat) : Int), zi (V 1), zi (σ.1 27 i), zu] dX9_perform_36 rfl (Nat.le_of_ble_eq_true rfl) (Nat.le_of_ble_eq_true rfl) rfl rfl ?_
      refine zx_aloadN dX9_perform_37 rfl rfl ?_
      refine zy_getR (q' := 24) fl_RX9_26 rfl dX9_perform_38 rfl ?_
      refine zy_getR (q' := 28) fl_RX9_360 rfl dX9_perform_41 rfl ?_
      refine zx_iloadN dX9_perform_44 rfl rfl ?_
      refine zy_iald (v := σ.1 28 i) rfl (by decide) (by decide) dX9_perform_45 (by omega) (by omega) rfl ?_
      refine zy_istore [zf 9 0, zi ((i : Nat) : Int), zi (V 1), zi (σ.1 27 i), zi (σ.1 28 i)] dX9_perform_46 (Nat.le_of_ble_eq_true rfl) (Nat.le_of_ble_eq_true rfl) rfl rfl ?_
      refine zx_aloadN dX9_perform_48 rfl rfl ?_
      refine zy_getR (q' := 24) fl_RX9_26 rfl dX9_perform_49 rfl ?_
      refine zy_getR (q' := 25) fl_RX9_363 rfl dX9_perform_52 rfl ?_
      refine zx_iloadN dX9_perform_55 rfl rfl ?_
      refine zy_iald (v := σ.1 25 i) rfl (by decide) (by decide) dX9_perform_56 (by omega) (by omega) rfl ?_
      refine zy_top (b := v) (c1) ?_
      rcases (by omega : v = 0 ∨ v = 1 ∨ v = 2 ∨ v = 3 ∨ v = 4 ∨ (v < 0 ∨ 4 < v)) with h57 | h57 | h57 | h57 | h57 | h57
      · refine zx_tableIn (off := 35) (tgt := 92) (by first | exact hz _ _ | assumption | exact zr_b _ | exact zcmp_r _ _ | (unfold zr at *; omega)) dX9_perform_57 (by omega) (by omega) (by rw [h57]; rfl) (by decide) ?_
        have v0' := v0 h57
        have h4k : (1 ≤ V 1 ∧ V 1 ≤ 999) ∧ (1 ≤ V 4 ∧ V 4 ≤ 9) ∧ (if V 2 = 4 then 1450 else 0) ≤ V 3 ∧ V 3 ≤ (if V 2 = 0 then 31 else if V 2 = 1 then 15 else if V 2 = 2 then σ.1 31 7 - 1 else if V 2 = 3 then 9 else 1999) := by
          obtain ⟨a, b, c, d, e⟩ := v0'
          unfold loK at d
          unfold hiK at e
          rw [k17] at e
          exact ⟨a, b, d, e⟩
        have wk : WFk (bk σ 30) (V 2) (V 3) := by
          unfold WFk; show _ ∧ _ ∧ _ ∧ _ ∧ _ ∧ _ ∧ (V 2 = 2 → V 3 < σ.1 31 7) ∧ _ ∧ _; obtain ⟨-, -, hl, hh⟩ := h4k; have h2 := v0'.2.2.1; (repeat' split at hl) <;> (repeat' split at hh) <;> omega
        refine zx_aloadN dX9_perform_92 rfl rfl ?_
        refine zy_getR (q' := 30) fl_RX9_33 rfl dX9_perform_93 rfl ?_
        refine zx_iloadN dX9_perform_96 rfl rfl ?_
        refine zx_iloadN dX9_perform_97 rfl rfl ?_
        refine zy_top (b := V 2) (c3 (by omega)) ?_
        refine zx_iload dX9_perform_98 rfl ?_
        refine zy_top (b := V 3) (c4 (by omega)) ?_
        refine zx_aloadN dX9_perform_100 rfl rfl ?_
        refine zy_getR (q' := 24) fl_RX9_26 rfl dX9_perform_101 rfl ?_
        refine zy_getR (q' := 29) fl_RX9_366 rfl dX9_perform_104 rfl ?_
        refine zx_iloadN dX9_perform_107 rfl rfl ?_
        refine zy_iald (v := σ.1 29 i) rfl (by decide) (by decide) dX9_perform_108 (by omega) (by omega) rfl ?_
        refine zy_top (b := V 4) (c5 (by omega)) ?_
        by_cases hb109 : 40 ≤ σ.1 42 0
        · refine zy_cv [zi (V 1), zi (V 2), zi (V 3), zi (V 4)] (sX1_enterClue_s  hfl hz y1 (y2 (by omega)) (y3 (by omega)) (y4 (by omega)) hM8 hK8 h4k (by first | assumption | exact (show σ.1 42 0 < 40 by omega))) dX9_perform_109 (by decide) rfl cw_RX9_351 okX1_enterClue rfl (Nat.le_of_ble_eq_true rfl) ⟨Nat.le_of_ble_eq_true rfl, Nat.le_of_ble_eq_true rfl, Nat.le_of_ble_eq_true rfl, Nat.le_of_ble_eq_true rfl⟩ ?_
          refine zx_iret rfl rfl dX9_perform_112 ?_
          rw [hQ]
          refine ⟨congrArg (fun z : Int => (Sum.inl (some (zi z)) : Option zV ⊕ String)) ?_, ?_⟩
          · unfold cmE
            (repeat' split) <;> first | rfl | omega | (exfalso; omega) | contradiction | exact absurd (hdi.mp (by assumption)) (by assumption) | exact absurd (hdi.mpr (Classical.not_not.mp (by assumption))) (by assumption)
          refine ⟨hz, ⟨fun _ _ _ => rfl, rfl⟩, hb, hW, ?_⟩
          have en : ¬ cmE (bk σ 30) v V = 0 := by
            unfold cmE
            (repeat' split) <;> first | omega | (exfalso; omega) | contradiction | exact absurd (hdi.mp (by assumption)) (by assumption) | exact absurd (hdi.mpr (Classical.not_not.mp (by assumption))) (by assumption)
          rw [cmN_f en]; exact pEq_l (fun _ _ _ => rfl)
        · refine zy_cvR [zi (V 1), zi (V 2), zi (V 3), zi (V 4)] (sX1_enterClue  hfl hz y1 (y2 (by omega)) (y3 (by omega)) (y4 (by omega)) hM8 hK8 h4k (by first | assumption | exact (show σ.1 42 0 < 40 by omega)) hO8) dX9_perform_109 (by decide) rfl cw_RX9_351 okX1_enterClue rfl (Nat.le_of_ble_eq_true rfl) ⟨Nat.le_of_ble_eq_true rfl, Nat.le_of_ble_eq_true rfl, Nat.le_of_ble_eq_true rfl, Nat.le_of_ble_eq_true rfl⟩ (fun τ109 hr109 => ?_)
          have hz109 : zOK τ109 := hr109.1
          refine zx_iret rfl rfl dX9_perform_112 ?_
          rw [hQ]
          refine ⟨congrArg (fun z : Int => (Sum.inl (some (zi z)) : Option zV ⊕ String)) ?_, ?_⟩
          · unfold cmE
            (repeat' split) <;> first | rfl | omega | (exfalso; omega) | contradiction | exact absurd (hdi.mp (by assumption)) (by assumption) | exact absurd (hdi.mpr (Classical.not_not.mp (by assumption))) (by assumption)
          have hE : cmE (bk σ 30) v V = 0 := by
            unfold cmE
            (repeat' split) <;> first | rfl | omega | (exfalso; omega) | contradiction | exact absurd (hdi.mp (by assumption)) (by assumption) | exact absurd (hdi.mpr (Classical.not_not.mp (by assumption))) (by assumption)
          have hB : cmN (bk σ 30) v V = cmB (bk σ 30) v V := cmN_t hE
          unfold cmB at hB
          rw [if_pos h57] at hB
          rw [hB]
          have ha := add_ok hW hr109 (show σ.1 42 0 < 40 by omega) (v0'.1) wk (v0'.2.1)
          exact ⟨hz109, ⟨fun q hq i => hr109.2.1.1 q (by dsimp only at hq ⊢; omega) i, hr109.2.1.2⟩, (fun i hi => by have b := hb i hi; have e5 := hr109.2.2.2.2.2.2.2.1 i; have e6 := hr109.2.2.2.2.2.2.2.2.1 i; constructor <;> first | (show τ109.1 (42 + 5) i = 0 ∨ τ109.1 (42 + 5) i = 1; rw [e5]; split; exact Or.inl rfl; exact b.1) | (show τ109.1 (42 + 6) i = 0 ∨ τ109.1 (42 + 6) i = 1; rw [e6]; split; exact Or.inl rfl; exact b.2)), ha.1, ha.2⟩
      · refine zx_tableIn (off := 56) (tgt := 113) (by first | exact hz _ _ | assumption | exact zr_b _ | exact zcmp_r _ _ | (unfold zr at *; omega)) dX9_perform_57 (by omega) (by omega) (by rw [h57]; rfl) (by decide) ?_
        refine zx_aloadN dX9_perform_113 rfl rfl ?_
        refine zy_getR (q' := 30) fl_RX9_33 rfl dX9_perform_114 rfl ?_
        refine zx_iloadN dX9_perform_117 rfl rfl ?_
        refine zy_cvR [zi (V 1)] (sX1_readOn_b  hfl hz (v1 h57) hK8 hO8 hI8) dX9_perform_118 (by decide) rfl cw_RX9_297 okX1_readOn rfl (Nat.le_of_ble_eq_true rfl) ⟨Nat.le_of_ble_eq_true rfl, Nat.le_of_ble_eq_true rfl, Nat.le_of_ble_eq_true rfl, Nat.le_of_ble_eq_true rfl⟩ (fun τ118 hr118 => ?_)
        have hz118 : zOK τ118 := hr118.1
        refine zx_iret rfl rfl dX9_perform_121 ?_
        rw [hQ]
        refine ⟨congrArg (fun z : Int => (Sum.inl (some (zi z)) : Option zV ⊕ String)) ?_, ?_⟩
        · unfold cmE
          (repeat' split) <;> first | rfl | omega | (exfalso; omega) | contradiction | exact absurd (hdi.mp (by assumption)) (by assumption) | exact absurd (hdi.mpr (Classical.not_not.mp (by assumption))) (by assumption)
        have hE : cmE (bk σ 30) v V = 0 := by
          unfold cmE
          (repeat' split) <;> first | rfl | omega | (exfalso; omega) | contradiction | exact absurd (hdi.mp (by assumption)) (by assumption) | exact absurd (hdi.mpr (Classical.not_not.mp (by assumption))) (by assumption)
        have hB : cmN (bk σ 30) v V = cmB (bk σ 30) v V := cmN_t hE
        unfold cmB at hB
        rw [if_neg (by omega), if_pos h57] at hB
        rw [hB]
        have ha := rd_ok (D := bk σ 30) (D' := bk τ118 30) (n := V 1) hW (fun o i h => hr118.2.1.1 (30 + o) (by dsimp only; omega) i) (fun p hp => hr118.2.2.1 p hp)
        exact ⟨hz118, ⟨fun q hq i => hr118.2.1.1 q (by dsimp only at hq ⊢; omega) i, hr118.2.1.2⟩, (fun i hi => by have b := hb i hi; have e5 := hr118.2.2.2 i; have e6 := hr118.2.1.1 48 (by dsimp only; omega) i; refine ⟨?_, ?_⟩; (rcases e5 with e5 | e5; (show τ118.1 47 i = 0 ∨ τ118.1 47 i = 1; rw [show τ118.1 47 i = σ.1 47 i from e5]; exact b.1); exact Or.inr e5); (show τ118.1 48 i = 0 ∨ τ118.1 48 i = 1; rw [e6]; exact b.2)), ha.1, ha.2⟩
      · refine zx_tableIn (off := 65) (tgt := 122) (by first | exact hz _ _ | assumption | exact zr_b _ | exact zcmp_r _ _ | (unfold zr at *; omega)) dX9_perform_57 (by omega) (by omega) (by rw [h57]; rfl) (by decide) ?_
        refine zx_aloadN dX9_perform_122 rfl rfl ?_
        refine zy_getR (q' := 30) fl_RX9_33 rfl dX9_perform_123 rfl ?_
        refine zx_iloadN dX9_perform_126 rfl rfl ?_
        by_cases hb127 : ¬ (0 ≤ (V 1) ∧ (V 1) < σ.1 42 0)
        · refine zy_cv [zi (V 1)] (sX1_drop_x  hfl hz y1 hK8 (by first | assumption | exact (show 0 ≤ V 1 ∧ V 1 < σ.1 42 0 by omega))) dX9_perform_127 (by decide) rfl cw_RX9_308 okX1_drop rfl (Nat.le_of_ble_eq_true rfl) ⟨Nat.le_of_ble_eq_true rfl, Nat.le_of_ble_eq_true rfl, Nat.le_of_ble_eq_true rfl, Nat.le_of_ble_eq_true rfl⟩ ?_
          refine zx_iret rfl rfl dX9_perform_130 ?_
          rw [hQ]
          refine ⟨congrArg (fun z : Int => (Sum.inl (some (zi z)) : Option zV ⊕ String)) ?_, ?_⟩
          · unfold cmE
            (repeat' split) <;> first | rfl | omega | (exfalso; omega) | contradiction | exact absurd (hdi.mp (by assumption)) (by assumption) | exact absurd (hdi.mpr (Classical.not_not.mp (by assumption))) (by assumption)
          refine ⟨hz, ⟨fun _ _ _ => rfl, rfl⟩, hb, hW, ?_⟩
          have en : ¬ cmE (bk σ 30) v V = 0 := by
            unfold cmE
            (repeat' split) <;> first | omega | (exfalso; omega) | contradiction | exact absurd (hdi.mp (by assumption)) (by assumption) | exact absurd (hdi.mpr (Classical.not_not.mp (by assumption))) (by assumption)
          rw [cmN_f en]; exact pEq_l (fun _ _ _ => rfl)
        · by_cases hb127b : ¬ σ.1 48 (V 1).toNat = 0
          · refine zy_cv [zi (V 1)] (sX1_drop_s  hfl hz y1 hK8 (by first | assumption | exact (show 0 ≤ V 1 ∧ V 1 < σ.1 42 0 by omega)) (by assumption)) dX9_perform_127 (by decide) rfl cw_RX9_308 okX1_drop rfl (Nat.le_of_ble_eq_true rfl) ⟨Nat.le_of_ble_eq_true rfl, Nat.le_of_ble_eq_true rfl, Nat.le_of_ble_eq_true rfl, Nat.le_of_ble_eq_true rfl⟩ ?_
            refine zx_iret rfl rfl dX9_perform_130 ?_
            rw [hQ]
            refine ⟨congrArg (fun z : Int => (Sum.inl (some (zi z)) : Option zV ⊕ String)) ?_, ?_⟩
            · unfold cmE
              (repeat' split) <;> first | rfl | omega | (exfalso; omega) | contradiction | exact absurd (hdi.mp (by assumption)) (by assumption) | exact absurd (hdi.mpr (Classical.not_not.mp (by assumption))) (by assumption)
            refine ⟨hz, ⟨fun _ _ _ => rfl, rfl⟩, hb, hW, ?_⟩
            have en : ¬ cmE (bk σ 30) v V = 0 := by
              unfold cmE
              (repeat' split) <;> first | omega | (exfalso; omega) | contradiction | exact absurd (hdi.mp (by assumption)) (by assumption) | exact absurd (hdi.mpr (Classical.not_not.mp (by assumption))) (by assumption)
            rw [cmN_f en]; exact pEq_l (fun _ _ _ => rfl)
          · refine zy_cv [zi (V 1)] (sX1_drop  hfl hz y1 hK8 (by first | assumption | exact (show 0 ≤ V 1 ∧ V 1 < σ.1 42 0 by omega)) (by assumption)) dX9_perform_127 (by decide) rfl cw_RX9_308 okX1_drop rfl (Nat.le_of_ble_eq_true rfl) ⟨Nat.le_of_ble_eq_true rfl, Nat.le_of_ble_eq_true rfl, Nat.le_of_ble_eq_true rfl, Nat.le_of_ble_eq_true rfl⟩ ?_
            refine zx_iret rfl rfl dX9_perform_130 ?_
            rw [hQ]
            refine ⟨congrArg (fun z : Int => (Sum.inl (some (zi z)) : Option zV ⊕ String)) ?_, ?_⟩
            · unfold cmE
              (repeat' split) <;> first | rfl | omega | (exfalso; omega) | contradiction | exact absurd (hdi.mp (by assumption)) (by assumption) | exact absurd (hdi.mpr (Classical.not_not.mp (by assumption))) (by assumption)
            have hE : cmE (bk σ 30) v V = 0 := by
              unfold cmE
              (repeat' split) <;> first | rfl | omega | (exfalso; omega) | contradiction | exact absurd (hdi.mp (by assumption)) (by assumption) | exact absurd (hdi.mpr (Classical.not_not.mp (by assumption))) (by assumption)
            have hB : cmN (bk σ 30) v V = cmB (bk σ 30) v V := cmN_t hE
            unfold cmB at hB
            rw [if_neg (by omega), if_neg (by omega), if_pos h57] at hB
            rw [hB]
            have hDq : pEq (ov (bk σ 30) 18 (V 1).toNat 1) (bk (zput σ (30 + 18) (V 1).toNat 1) 30) := put_ov
            exact ⟨(zOK_put hz (by unfold zr; omega)), ⟨fun q hq i => zput_k _ _ _ _ _ (by dsimp only at hq; omega), rfl⟩, bb_put (o := 18) (Or.inr rfl) hb, WF_eq (pEq_z hDq) (WF_ovK hW (Or.inr ⟨Or.inr rfl, Or.inr rfl⟩)), pEq_l hDq⟩
      · refine zx_tableIn (off := 74) (tgt := 131) (by first | exact hz _ _ | assumption | exact zr_b _ | exact zcmp_r _ _ | (unfold zr at *; omega)) dX9_perform_57 (by omega) (by omega) (by rw [h57]; rfl) (by decide) ?_
        refine zx_aloadN dX9_perform_131 rfl rfl ?_
        refine zy_getR (q' := 30) fl_RX9_33 rfl dX9_perform_132 rfl ?_
        refine zx_iloadN dX9_perform_135 rfl rfl ?_
        by_cases hb136 : ¬ (0 ≤ (V 1) ∧ (V 1) < σ.1 42 0)
        · refine zy_cv [zi (V 1)] (sX1_pickUp_x  hfl hz y1 hK8 (by first | assumption | exact (show 0 ≤ V 1 ∧ V 1 < σ.1 42 0 by omega))) dX9_perform_136 (by decide) rfl cw_RX9_311 okX1_pickUp rfl (Nat.le_of_ble_eq_true rfl) ⟨Nat.le_of_ble_eq_true rfl, Nat.le_of_ble_eq_true rfl, Nat.le_of_ble_eq_true rfl, Nat.le_of_ble_eq_true rfl⟩ ?_
          refine zx_iret rfl rfl dX9_perform_139 ?_
          rw [hQ]
          refine ⟨congrArg (fun z : Int => (Sum.inl (some (zi z)) : Option zV ⊕ String)) ?_, ?_⟩
          · unfold cmE
            (repeat' split) <;> first | rfl | omega | (exfalso; omega) | contradiction | exact absurd (hdi.mp (by assumption)) (by assumption) | exact absurd (hdi.mpr (Classical.not_not.mp (by assumption))) (by assumption)
          refine ⟨hz, ⟨fun _ _ _ => rfl, rfl⟩, hb, hW, ?_⟩
          have en : ¬ cmE (bk σ 30) v V = 0 := by
            unfold cmE
            (repeat' split) <;> first | omega | (exfalso; omega) | contradiction | exact absurd (hdi.mp (by assumption)) (by assumption) | exact absurd (hdi.mpr (Classical.not_not.mp (by assumption))) (by assumption)
          rw [cmN_f en]; exact pEq_l (fun _ _ _ => rfl)
        · by_cases hb136b : σ.1 48 (V 1).toNat = 0
          · refine zy_cv [zi (V 1)] (sX1_pickUp_s  hfl hz y1 hK8 (by first | assumption | exact (show 0 ≤ V 1 ∧ V 1 < σ.1 42 0 by omega)) (by assumption)) dX9_perform_136 (by decide) rfl cw_RX9_311 okX1_pickUp rfl (Nat.le_of_ble_eq_true rfl) ⟨Nat.le_of_ble_eq_true rfl, Nat.le_of_ble_eq_true rfl, Nat.le_of_ble_eq_true rfl, Nat.le_of_ble_eq_true rfl⟩ ?_
            refine zx_iret rfl rfl dX9_perform_139 ?_
            rw [hQ]
            refine ⟨congrArg (fun z : Int => (Sum.inl (some (zi z)) : Option zV ⊕ String)) ?_, ?_⟩
            · unfold cmE
              (repeat' split) <;> first | rfl | omega | (exfalso; omega) | contradiction | exact absurd (hdi.mp (by assumption)) (by assumption) | exact absurd (hdi.mpr (Classical.not_not.mp (by assumption))) (by assumption)
            refine ⟨hz, ⟨fun _ _ _ => rfl, rfl⟩, hb, hW, ?_⟩
            have en : ¬ cmE (bk σ 30) v V = 0 := by
              unfold cmE
              (repeat' split) <;> first | omega | (exfalso; omega) | contradiction | exact absurd (hdi.mp (by assumption)) (by assumption) | exact absurd (hdi.mpr (Classical.not_not.mp (by assumption))) (by assumption)
            rw [cmN_f en]; exact pEq_l (fun _ _ _ => rfl)
          · refine zy_cv [zi (V 1)] (sX1_pickUp  hfl hz y1 hK8 (by first | assumption | exact (show 0 ≤ V 1 ∧ V 1 < σ.1 42 0 by omega)) (by assumption)) dX9_perform_136 (by decide) rfl cw_RX9_311 okX1_pickUp rfl (Nat.le_of_ble_eq_true rfl) ⟨Nat.le_of_ble_eq_true rfl, Nat.le_of_ble_eq_true rfl, Nat.le_of_ble_eq_true rfl, Nat.le_of_ble_eq_true rfl⟩ ?_
            refine zx_iret rfl rfl dX9_perform_139 ?_
            rw [hQ]
            refine ⟨congrArg (fun z : Int => (Sum.inl (some (zi z)) : Option zV ⊕ String)) ?_, ?_⟩
            · unfold cmE
              (repeat' split) <;> first | rfl | omega | (exfalso; omega) | contradiction | exact absurd (hdi.mp (by assumption)) (by assumption) | exact absurd (hdi.mpr (Classical.not_not.mp (by assumption))) (by assumption)
            have hE : cmE (bk σ 30) v V = 0 := by
              unfold cmE
              (repeat' split) <;> first | rfl | omega | (exfalso; omega) | contradiction | exact absurd (hdi.mp (by assumption)) (by assumption) | exact absurd (hdi.mpr (Classical.not_not.mp (by assumption))) (by assumption)
            have hB : cmN (bk σ 30) v V = cmB (bk σ 30) v V := cmN_t hE
            unfold cmB at hB
            rw [if_neg (by omega), if_neg (by omega), if_neg (by omega), if_pos h57] at hB
            rw [hB]
            have hDq : pEq (ov (bk σ 30) 18 (V 1).toNat 0) (bk (zput σ (30 + 18) (V 1).toNat 0) 30) := put_ov
            exact ⟨(zOK_put hz (by unfold zr; omega)), ⟨fun q hq i => zput_k _ _ _ _ _ (by dsimp only at hq; omega), rfl⟩, bb_put (o := 18) (Or.inl rfl) hb, WF_eq (pEq_z hDq) (WF_ovK hW (Or.inr ⟨Or.inr rfl, Or.inl rfl⟩)), pEq_l hDq⟩
      · refine zx_tableIn (off := 83) (tgt := 140) (by first | exact hz _ _ | assumption | exact zr_b _ | exact zcmp_r _ _ | (unfold zr at *; omega)) dX9_perform_57 (by omega) (by omega) (by rw [h57]; rfl) (by decide) ?_
        have y2h := y2 (by omega)
        refine zx_aloadN dX9_perform_140 rfl rfl ?_
        refine zy_getR (q' := 30) fl_RX9_33 rfl dX9_perform_141 rfl ?_
        refine zx_iloadN dX9_perform_144 rfl rfl ?_
        refine zx_iloadN dX9_perform_145 rfl rfl ?_
        refine zy_top (b := V 2) (c3 (by omega)) ?_
        by_cases hb146 : ¬ (0 ≤ (V 1) ∧ (V 1) < σ.1 42 0)
        · refine zy_cv [zi (V 1), zi (V 2)] (sX1_changeWeight_x  hfl hz y1 (y2 (by omega)) hK8 (by first | assumption | exact (show 0 ≤ V 1 ∧ V 1 < σ.1 42 0 by omega))) dX9_perform_146 (by decide) rfl cw_RX9_314 okX1_changeWeight rfl (Nat.le_of_ble_eq_true rfl) ⟨Nat.le_of_ble_eq_true rfl, Nat.le_of_ble_eq_true rfl, Nat.le_of_ble_eq_true rfl, Nat.le_of_ble_eq_true rfl⟩ ?_
          refine zx_iret rfl rfl dX9_perform_149 ?_
          rw [hQ]
          refine ⟨congrArg (fun z : Int => (Sum.inl (some (zi z)) : Option zV ⊕ String)) ?_, ?_⟩
          · unfold cmE
            (repeat' split) <;> first | rfl | omega | (exfalso; omega) | contradiction | exact absurd (hdi.mp (by assumption)) (by assumption) | exact absurd (hdi.mpr (Classical.not_not.mp (by assumption))) (by assumption)
          refine ⟨hz, ⟨fun _ _ _ => rfl, rfl⟩, hb, hW, ?_⟩
          have en : ¬ cmE (bk σ 30) v V = 0 := by
            unfold cmE
            (repeat' split) <;> first | omega | (exfalso; omega) | contradiction | exact absurd (hdi.mp (by assumption)) (by assumption) | exact absurd (hdi.mpr (Classical.not_not.mp (by assumption))) (by assumption)
          rw [cmN_f en]; exact pEq_l (fun _ _ _ => rfl)
        · refine zy_cv [zi (V 1), zi (V 2)] (sX1_changeWeight  hfl hz y1 (y2 (by omega)) hK8 (by first | assumption | exact (show 0 ≤ V 1 ∧ V 1 < σ.1 42 0 by omega)) (v4 h57)) dX9_perform_146 (by decide) rfl cw_RX9_314 okX1_changeWeight rfl (Nat.le_of_ble_eq_true rfl) ⟨Nat.le_of_ble_eq_true rfl, Nat.le_of_ble_eq_true rfl, Nat.le_of_ble_eq_true rfl, Nat.le_of_ble_eq_true rfl⟩ ?_
          refine zx_iret rfl rfl dX9_perform_149 ?_
          rw [hQ]
          refine ⟨congrArg (fun z : Int => (Sum.inl (some (zi z)) : Option zV ⊕ String)) ?_, ?_⟩
          · unfold cmE
            (repeat' split) <;> first | rfl | omega | (exfalso; omega) | contradiction | exact absurd (hdi.mp (by assumption)) (by assumption) | exact absurd (hdi.mpr (Classical.not_not.mp (by assumption))) (by assumption)
          have hE : cmE (bk σ 30) v V = 0 := by
            unfold cmE
            (repeat' split) <;> first | rfl | omega | (exfalso; omega) | contradiction | exact absurd (hdi.mp (by assumption)) (by assumption) | exact absurd (hdi.mpr (Classical.not_not.mp (by assumption))) (by assumption)
          have hB : cmN (bk σ 30) v V = cmB (bk σ 30) v V := cmN_t hE
          unfold cmB at hB
          rw [if_neg (by omega), if_neg (by omega), if_neg (by omega), if_neg (by omega), if_pos h57] at hB
          rw [hB]
          have hDq : pEq (ov (bk σ 30) 16 (V 1).toNat (V 2)) (bk (zput σ (30 + 16) (V 1).toNat (V 2)) 30) := put_ov
          exact ⟨(zOK_put hz (by assumption)), ⟨fun q hq i => zput_k _ _ _ _ _ (by dsimp only at hq; omega), rfl⟩, bb_put2 (by decide) (by decide) hb, WF_eq (pEq_z hDq) (WF_ovK hW (Or.inl ⟨rfl, v4 h57⟩)), pEq_l hDq⟩
      · refine zx_tableOut (tgt := 150) (by first | exact hz _ _ | assumption | exact zr_b _ | exact zcmp_r _ _ | (unfold zr at *; omega)) dX9_perform_57 (by omega) (by decide) ?_
        have v5b := v5 (by omega)
        have hdi : hasDev (bk σ 30) (V 1).toNat (V 3) ↔ (0 ≤ V 3 ∧ V 3 ≤ 31 ∧ ¬ zand (zushr (σ.1 36 (V 1).toNat) (V 3)) 1 = 0) := Iff.rfl
        rw [k10] at v5b
        refine zx_aloadN dX9_perform_150 rfl rfl ?_
        refine zy_getR (q' := 30) fl_RX9_33 rfl dX9_perform_151 rfl ?_
        refine zx_iloadN dX9_perform_154 rfl rfl ?_
        refine zx_iloadN dX9_perform_155 rfl rfl ?_
        refine zy_top (b := V 2) (c3 (by omega)) ?_
        refine zx_iload dX9_perform_156 rfl ?_
        refine zy_top (b := V 3) (c4 (by omega)) ?_
        by_cases hb158 : (V 1) = (V 2)
        · refine zy_cv [zi (V 1), zi (V 2), zi (V 3)] (sX1_lend_a  hfl hz y1 (y2 (by omega)) (y3 (by omega)) hP8 ⟨v5b.1, v5b.2.1⟩ (by assumption)) dX9_perform_158 (by decide) rfl cw_RX9_317 okX1_lend rfl (Nat.le_of_ble_eq_true rfl) ⟨Nat.le_of_ble_eq_true rfl, Nat.le_of_ble_eq_true rfl, Nat.le_of_ble_eq_true rfl, Nat.le_of_ble_eq_true rfl⟩ ?_
          refine zx_iret rfl rfl dX9_perform_161 ?_
          rw [hQ]
          refine ⟨congrArg (fun z : Int => (Sum.inl (some (zi z)) : Option zV ⊕ String)) ?_, ?_⟩
          · unfold cmE
            (repeat' split) <;> first | rfl | omega | (exfalso; omega) | contradiction | exact absurd (hdi.mp (by assumption)) (by assumption) | exact absurd (hdi.mpr (Classical.not_not.mp (by assumption))) (by assumption)
          refine ⟨hz, ⟨fun _ _ _ => rfl, rfl⟩, hb, hW, ?_⟩
          have en : ¬ cmE (bk σ 30) v V = 0 := by
            unfold cmE
            (repeat' split) <;> first | omega | (exfalso; omega) | contradiction | exact absurd (hdi.mp (by assumption)) (by assumption) | exact absurd (hdi.mpr (Classical.not_not.mp (by assumption))) (by assumption)
          rw [cmN_f en]; exact pEq_l (fun _ _ _ => rfl)
        · by_cases hb158b : ¬ (0 ≤ (V 3) ∧ (V 3) ≤ 31 ∧ ¬ zand (zushr (σ.1 36 (V 1).toNat) (V 3)) 1 = 0)
          · refine zy_cv [zi (V 1), zi (V 2), zi (V 3)] (sX1_lend_s  hfl hz y1 (y2 (by omega)) (y3 (by omega)) hP8 ⟨v5b.1, v5b.2.1⟩ (by assumption) (by first | assumption | exact Classical.not_not.mp (by assumption))) dX9_perform_158 (by decide) rfl cw_RX9_317 okX1_lend rfl (Nat.le_of_ble_eq_true rfl) ⟨Nat.le_of_ble_eq_true rfl, Nat.le_of_ble_eq_true rfl, Nat.le_of_ble_eq_true rfl, Nat.le_of_ble_eq_true rfl⟩ ?_
            refine zx_iret rfl rfl dX9_perform_161 ?_
            rw [hQ]
            refine ⟨congrArg (fun z : Int => (Sum.inl (some (zi z)) : Option zV ⊕ String)) ?_, ?_⟩
            · unfold cmE
              (repeat' split) <;> first | rfl | omega | (exfalso; omega) | contradiction | exact absurd (hdi.mp (by assumption)) (by assumption) | exact absurd (hdi.mpr (Classical.not_not.mp (by assumption))) (by assumption)
            refine ⟨hz, ⟨fun _ _ _ => rfl, rfl⟩, hb, hW, ?_⟩
            have en : ¬ cmE (bk σ 30) v V = 0 := by
              unfold cmE
              (repeat' split) <;> first | omega | (exfalso; omega) | contradiction | exact absurd (hdi.mp (by assumption)) (by assumption) | exact absurd (hdi.mpr (Classical.not_not.mp (by assumption))) (by assumption)
            rw [cmN_f en]; exact pEq_l (fun _ _ _ => rfl)
          · refine zy_cvR [zi (V 1), zi (V 2), zi (V 3)] (sX1_lend  hfl hz y1 (y2 (by omega)) (y3 (by omega)) hP8 ⟨v5b.1, v5b.2.1⟩ (by assumption) (by first | assumption | exact Classical.not_not.mp (by assumption))) dX9_perform_158 (by decide) rfl cw_RX9_317 okX1_lend rfl (Nat.le_of_ble_eq_true rfl) ⟨Nat.le_of_ble_eq_true rfl, Nat.le_of_ble_eq_true rfl, Nat.le_of_ble_eq_true rfl, Nat.le_of_ble_eq_true rfl⟩ (fun τ158 hr158 => ?_)
            have hz158 : zOK τ158 := hr158.1
            refine zx_iret rfl rfl dX9_perform_161 ?_
            rw [hQ]
            refine ⟨congrArg (fun z : Int => (Sum.inl (some (zi z)) : Option zV ⊕ String)) ?_, ?_⟩
            · unfold cmE
              (repeat' split) <;> first | rfl | omega | (exfalso; omega) | contradiction | exact absurd (hdi.mp (by assumption)) (by assumption) | exact absurd (hdi.mpr (Classical.not_not.mp (by assumption))) (by assumption)
            have hE : cmE (bk σ 30) v V = 0 := by
              unfold cmE
              (repeat' split) <;> first | rfl | omega | (exfalso; omega) | contradiction | exact absurd (hdi.mp (by assumption)) (by assumption) | exact absurd (hdi.mpr (Classical.not_not.mp (by assumption))) (by assumption)
            have hB : cmN (bk σ 30) v V = cmB (bk σ 30) v V := cmN_t hE
            unfold cmB at hB
            rw [if_neg (by omega), if_neg (by omega), if_neg (by omega), if_neg (by omega), if_neg (by omega)] at hB
            rw [hB]
            have h18 : pEq (lnB (bk σ 30) (V 1).toNat (V 2).toNat (V 3)) (bk τ158 30) := fun o ho i => by
              unfold lnB
              by_cases e : o = 6
              · subst e; rw [if_pos rfl]; exact hr158.2.2 i
              · rw [if_neg e]; exact hr158.2.1.1 (30 + o) (by dsimp only; omega) i
            have hWD : WF (lnB (bk σ 30) (V 1).toNat (V 2).toNat (V 3)) := WF_agree hW (fun o i h1 _ _ _ => by unfold lnB; rw [if_neg h1]) (fun c hc => (hW.2.2.2.2.1 c hc).2.2)
            exact ⟨hz158, ⟨fun q hq i => hr158.2.1.1 q (by dsimp only at hq ⊢; omega) i, hr158.2.1.2⟩, bb_pt2 (fun i => hr158.2.1.1 47 (by dsimp only; omega) i) (fun i => hr158.2.1.1 48 (by dsimp only; omega) i) hb, WF_eq (pEq_z h18) hWD, pEq_l h18⟩
    · exfalso; omega

