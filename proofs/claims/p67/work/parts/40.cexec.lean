
/-! one command on a book -/
noncomputable def cmB (D : zBk) (v : Int) (V : Nat → Int) : zBk := if v = 0 then adB D (V 1) (V 2) (V 3) (V 4) else if v = 1 then rdB D (V 1) else if v = 2 then ov D 18 (V 1).toNat 1 else if v = 3 then ov D 18 (V 1).toNat 0 else if v = 4 then ov D 16 (V 1).toNat (V 2) else lnB D (V 1).toNat (V 2).toNat (V 3)
noncomputable def cmE (D : zBk) (v : Int) (V : Nat → Int) : Int :=
  if v = 0 then (if 40 ≤ D 12 0 then 3 else 0) else if v = 1 then 0
  else if v = 2 then (if ¬ (0 ≤ V 1 ∧ V 1 < D 12 0) then 1 else if ¬ D 18 (V 1).toNat = 0 then 3 else 0)
  else if v = 3 then (if ¬ (0 ≤ V 1 ∧ V 1 < D 12 0) then 1 else if D 18 (V 1).toNat = 0 then 3 else 0)
  else if v = 4 then (if ¬ (0 ≤ V 1 ∧ V 1 < D 12 0) then 1 else 0)
  else if V 1 = V 2 then 2 else @ite Int (hasDev D (V 1).toNat (V 3)) (Classical.propDecidable _) 0 3
noncomputable def cmN (D : zBk) (v : Int) (V : Nat → Int) : zBk := if cmE D v V = 0 then cmB D v V else D
def cmV (D : zBk) (v : Int) (V : Nat → Int) : Prop := (0 ≤ v ∧ v ≤ 5) ∧ (v = 0 → (1 ≤ V 1 ∧ V 1 ≤ 999) ∧ (1 ≤ V 4 ∧ V 4 ≤ 9) ∧ (0 ≤ V 2 ∧ V 2 ≤ 4) ∧ loK (V 2) ≤ V 3 ∧ V 3 ≤ hiK D (V 2)) ∧ (v = 1 → 1 ≤ V 1 ∧ V 1 ≤ 40) ∧ (v = 2 ∨ v = 3 ∨ v = 4 → 0 ≤ V 1 ∧ V 1 ≤ 39) ∧ (v = 4 → 1 ≤ V 2 ∧ V 2 ≤ 9) ∧ (v = 5 → (0 ≤ V 1 ∧ V 1 < D 1 0) ∧ (0 ≤ V 2 ∧ V 2 < D 1 0) ∧ 0 ≤ V 3 ∧ V 3 ≤ 31)
theorem cmN_t {D : zBk} {v : Int} {V : Nat → Int} (h : cmE D v V = 0) : cmN D v V = cmB D v V := if_pos h
theorem cmN_f {D : zBk} {v : Int} {V : Nat → Int} (h : ¬ cmE D v V = 0) : cmN D v V = D := if_neg h
theorem cmB_1 (D : zBk) (v : Int) (V : Nat → Int) (i : Nat) : cmB D v V 1 i = D 1 i := by
  unfold cmB
  split
  · unfold adB; rw [if_neg (by omega), if_neg (by omega)]
  · split
    · exact if_neg (by decide)
    · (repeat' split) <;> first | exact if_neg (by omega) | (unfold lnB; exact if_neg (by decide))
theorem cS_v {t : Nat → Int} {n : Nat} {v : Int} {D : zBk} {S : zP} (hv : 0 ≤ v ∧ v ≤ 5) (hP : 0 ≤ D 1 0 ∧ D 1 0 ≤ 8) (h : (cS t n v D S).2.1 = 0) : cmV D v (cV t n v D S) := by
  unfold cS at h
  refine ⟨hv, fun q => ?_, fun q => ?_, fun q => ?_, fun q => ?_, fun q => ?_⟩
  · rw [if_pos q] at h
    have s0 := pSem_s (t := t) (n := n) (S := u4 t n D S) h
    have s4 := pNum_s (t := t) (n := n) (S := u3 t n D S) (lo := 1) (hi := 9) s0.1
    have s3 := pNum_s (t := t) (n := n) (S := u2 t n S) s4.1
    have s2 := pKd_s (t := t) (n := n) (S := u1 t n S) s3.1
    have s1 := pNum_s (t := t) (n := n) (S := S) (lo := 1) (hi := 999) s2.1
    have hk := kdv_r t n (u1 t n S).1
    have e1 : cV t n v D S 1 = pV t n S.1 := by unfold cV; rw [if_pos q]; rfl
    have e2 : cV t n v D S 2 = kdv t n (u1 t n S).1 := by unfold cV; rw [if_pos q]; rfl
    have e3 : cV t n v D S 3 = pV t n (u2 t n S).1 := by unfold cV; rw [if_pos q]; rfl
    have e4 : cV t n v D S 4 = pV t n (u3 t n D S).1 := by unfold cV; rw [if_pos q]; rfl
    rw [e1, e2, e3, e4]
    exact ⟨s1.2.1, s4.2.1, ⟨by have := s2.2.1; omega, hk.2⟩, s3.2.1.1, s3.2.1.2⟩
  · rw [if_neg (by omega), if_pos q] at h
    have s0 := pSem_s (t := t) (n := n) (S := a1 t n 1 40 S) h
    have s1 := pNum_s (t := t) (n := n) (S := S) (lo := 1) (hi := 40) s0.1
    have e1 : cV t n v D S 1 = pV t n S.1 := by unfold cV; rw [if_neg (by omega), if_neg (by omega), if_neg (by omega)]
    rw [e1]; exact s1.2.1
  · by_cases q4 : v = 4
    · rw [if_neg (by omega), if_neg (by omega), if_pos q4] at h
      have s0 := pSem_s (t := t) (n := n) (S := g1 t n S) h
      have s1 := pNum_s (t := t) (n := n) (S := a1 t n 0 39 S) (lo := 1) (hi := 9) s0.1
      have s2 := pNum_s (t := t) (n := n) (S := S) (lo := 0) (hi := 39) s1.1
      have e1 : cV t n v D S 1 = pV t n S.1 := by unfold cV; rw [if_neg (by omega), if_pos q4]; rfl
      rw [e1]; exact s2.2.1
    · rw [if_neg (by omega), if_neg (by omega), if_neg q4, if_neg (by omega)] at h
      have s0 := pSem_s (t := t) (n := n) (S := a1 t n 0 39 S) h
      have s1 := pNum_s (t := t) (n := n) (S := S) (lo := 0) (hi := 39) s0.1
      have e1 : cV t n v D S 1 = pV t n S.1 := by unfold cV; rw [if_neg (by omega), if_neg (by omega), if_neg (by omega)]
      rw [e1]; exact s1.2.1
  · rw [if_neg (by omega), if_neg (by omega), if_pos q] at h
    have s0 := pSem_s (t := t) (n := n) (S := g1 t n S) h
    have s1 := pNum_s (t := t) (n := n) (S := a1 t n 0 39 S) (lo := 1) (hi := 9) s0.1
    have e1 : cV t n v D S 2 = pV t n (a1 t n 0 39 S).1 := by unfold cV; rw [if_neg (by omega), if_pos q]; rfl
    rw [e1]; exact s1.2.1
  · rw [if_neg (by omega), if_neg (by omega), if_neg (by omega), if_pos q] at h
    have s0 := pSem_s (t := t) (n := n) (S := l2 t n D S) h
    have s1 := pNum_s (t := t) (n := n) (S := l1 t n D S) (lo := 0) (hi := 31) s0.1
    have s2 := pPrn_s (t := t) (n := n) (S := o1 t n D S) (f := D 2) (P := D 1 0) s1.1
    have s3 := pPrn_s (t := t) (n := n) (S := S) (f := D 2) (P := D 1 0) s2.1
    have r1 := fz_r (D 2) hP (nmv t n S)
    have r2 := fz_r (D 2) hP (nmv t n (o1 t n D S))
    have e1 : cV t n v D S 1 = fz (D 2) (D 1 0) (nmv t n S) := by unfold cV; rw [if_neg (by omega), if_neg (by omega), if_pos q]; rfl
    have e2 : cV t n v D S 2 = fz (D 2) (D 1 0) (nmv t n (o1 t n D S)) := by unfold cV; rw [if_neg (by omega), if_neg (by omega), if_pos q]; rfl
    have e3 : cV t n v D S 3 = pV t n (l1 t n D S).1 := by unfold cV; rw [if_neg (by omega), if_neg (by omega), if_pos q]; rfl
    rw [e1, e2, e3]
    have x1 := s3.2.2.1
    have x2 := s2.2.2.1
    exact ⟨by omega, by omega, s1.2.1⟩
theorem cY_v {t : Nat → Int} {n : Nat} {D : zBk} {k : Nat} (hP : 0 ≤ D 1 0 ∧ D 1 0 ≤ 8) (hm : mor t n (cY t n D k)) (h : (cY t n D (k + 1)).2.1 = 0) : cmV D (vct t n (cY t n D k).1) (cV t n (vct t n (cY t n D k).1) D (pN t n (cY t n D k))) := by
  have hv := vct_r t n (cY t n D k).1
  by_cases e1 : vct t n (cY t n D k).1 = -1
  · rw [cY_n hm e1] at h; exact absurd h (pF_nz (by decide))
  · by_cases e2 : 30 ≤ k
    · rw [cY_l hm e1 e2] at h; exact absurd h (pF_nz (by decide))
    · rw [cY_c hm e1 e2] at h
      exact cS_v (by omega) hP h



