
/-! commands: where a reader stands behind them, and what they say -/
noncomputable def vct (t : Nat → Int) (n p : Nat) : Int := @ite Int (isW t n p 12) (Classical.propDecidable _) 0 (@ite Int (isW t n p 18) (Classical.propDecidable _) 1 (@ite Int (isW t n p 19) (Classical.propDecidable _) 2 (@ite Int (isW t n p 20) (Classical.propDecidable _) 3 (@ite Int (isW t n p 21) (Classical.propDecidable _) 4 (@ite Int (isW t n p 22) (Classical.propDecidable _) 5 (-1))))))
theorem vct_r (t : Nat → Int) (n p : Nat) : -1 ≤ vct t n p ∧ vct t n p ≤ 5 := by unfold vct; (repeat' split) <;> omega
noncomputable def a1 (t : Nat → Int) (n : Nat) (lo hi : Int) (S : zP) : zP := pNum t n S lo hi
noncomputable def a2 (t : Nat → Int) (n : Nat) (lo hi : Int) (S : zP) : zP := pSem t n (a1 t n lo hi S)
noncomputable def g1 (t : Nat → Int) (n : Nat) (S : zP) : zP := pNum t n (a1 t n 0 39 S) 1 9
noncomputable def g2 (t : Nat → Int) (n : Nat) (S : zP) : zP := pSem t n (g1 t n S)
noncomputable def l1 (t : Nat → Int) (n : Nat) (D : zBk) (S : zP) : zP := pPrn t n (D 2) (D 1 0) (o1 t n D S)
noncomputable def l2 (t : Nat → Int) (n : Nat) (D : zBk) (S : zP) : zP := pNum t n (l1 t n D S) 0 31
noncomputable def l3 (t : Nat → Int) (n : Nat) (D : zBk) (S : zP) : zP := pSem t n (l2 t n D S)
noncomputable def cS (t : Nat → Int) (n : Nat) (v : Int) (D : zBk) (S : zP) : zP := if v = 0 then u5 t n D S else if v = 1 then a2 t n 1 40 S else if v = 4 then g2 t n S else if v = 5 then l3 t n D S else a2 t n 0 39 S
noncomputable def cV (t : Nat → Int) (n : Nat) (v : Int) (D : zBk) (S : zP) (j : Nat) : Int :=
  if v = 0 then (if j = 1 then pV t n S.1 else if j = 2 then kdv t n (u1 t n S).1 else if j = 3 then pV t n (u2 t n S).1 else pV t n (u3 t n D S).1)
  else if v = 4 then (if j = 1 then pV t n S.1 else pV t n (a1 t n 0 39 S).1)
  else if v = 5 then (if j = 1 then fz (D 2) (D 1 0) (nmv t n S) else if j = 2 then fz (D 2) (D 1 0) (nmv t n (o1 t n D S)) else pV t n (l1 t n D S).1)
  else pV t n S.1
def mor (t : Nat → Int) (n : Nat) (S : zP) : Prop := S.2.1 = 0 ∧ ¬ xK t n S.1 = 0
noncomputable def cY (t : Nat → Int) (n : Nat) (D : zBk) : Nat → zP
  | 0 => (0, 0, -1)
  | k + 1 => @ite zP (mor t n (cY t n D k)) (Classical.propDecidable _) (if vct t n (cY t n D k).1 = -1 then pF t n (cY t n D k) 1 else if 30 ≤ k then pF t n (cY t n D k) 4 else cS t n (vct t n (cY t n D k).1) D (pN t n (cY t n D k))) (cY t n D k)
theorem cY_n {t : Nat → Int} {n : Nat} {D : zBk} {k : Nat} (h : mor t n (cY t n D k)) (h1 : vct t n (cY t n D k).1 = -1) : cY t n D (k + 1) = pF t n (cY t n D k) 1 := by rw [cY, if_pos h, if_pos h1]
theorem cY_l {t : Nat → Int} {n : Nat} {D : zBk} {k : Nat} (h : mor t n (cY t n D k)) (h1 : ¬ vct t n (cY t n D k).1 = -1) (h2 : 30 ≤ k) : cY t n D (k + 1) = pF t n (cY t n D k) 4 := by rw [cY, if_pos h, if_neg h1, if_pos h2]
theorem cY_c {t : Nat → Int} {n : Nat} {D : zBk} {k : Nat} (h : mor t n (cY t n D k)) (h1 : ¬ vct t n (cY t n D k).1 = -1) (h2 : ¬ 30 ≤ k) : cY t n D (k + 1) = cS t n (vct t n (cY t n D k).1) D (pN t n (cY t n D k)) := by rw [cY, if_pos h, if_neg h1, if_neg h2]
theorem cY_s {t : Nat → Int} {n : Nat} {D : zBk} {k : Nat} (h : ¬ mor t n (cY t n D k)) : ∀ j, cY t n D (k + j) = cY t n D k
  | 0 => rfl
  | j + 1 => by
    have e := cY_s h j
    rw [show k + (j + 1) = (k + j) + 1 by omega, cY, e, if_neg h]
noncomputable def cM (t : Nat → Int) (n : Nat) (D : zBk) (k : Nat) : Int := zs (fun i => zb (mor t n (cY t n D i))) k
theorem cM_all {t : Nat → Int} {n : Nat} {D : zBk} : ∀ {k : Nat}, (∀ i, i < k → mor t n (cY t n D i)) → cM t n D k = k
  | 0, _ => rfl
  | k + 1, h => by
    have := cM_all (t := t) (n := n) (D := D) (k := k) (fun i hi => h i (by omega))
    unfold cM at *
    rw [zs_s, this, zb_t (h k (Nat.lt_succ_self k))]; omega
theorem cM_st {t : Nat → Int} {n : Nat} {D : zBk} {k : Nat} (h : ¬ mor t n (cY t n D k)) : ∀ j, cM t n D (k + j) = cM t n D k
  | 0 => rfl
  | j + 1 => by
    have := cM_st h j
    unfold cM at *
    rw [show k + (j + 1) = (k + j) + 1 by omega, zs_s, this, cY_s h j, zb_f h]; omega
theorem cS_m {t : Nat → Int} {n : Nat} {v : Int} {D : zBk} {S : zP} (h : S.1 ≤ n) : S.1 ≤ (cS t n v D S).1 ∧ (cS t n v D S).1 ≤ n := by
  have A : ∀ lo hi, S.1 ≤ (a2 t n lo hi S).1 ∧ (a2 t n lo hi S).1 ≤ n := fun lo hi => by
    have a := pNum_m (t := t) (lo := lo) (hi := hi) h
    have b := pSem_m (t := t) a.2
    exact ⟨Nat.le_trans a.1 b.1, b.2⟩
  unfold cS
  split
  · have a := pNum_m (t := t) (lo := 1) (hi := 999) h
    have b := pKd_m (t := t) a.2
    have c := pNum_m (t := t) (lo := loK (kdv t n (u1 t n S).1)) (hi := hiK D (kdv t n (u1 t n S).1)) b.2
    have d := pNum_m (t := t) (lo := 1) (hi := 9) c.2
    have e := pSem_m (t := t) d.2
    exact ⟨u5_m h, e.2⟩
  · split
    · exact A 1 40
    · split
      · have a := pNum_m (t := t) (lo := 0) (hi := 39) h
        have b := pNum_m (t := t) (lo := 1) (hi := 9) a.2
        have c := pSem_m (t := t) b.2
        exact ⟨Nat.le_trans a.1 (Nat.le_trans b.1 c.1), c.2⟩
      · split
        · have a := pPrn_m (t := t) (f := D 2) (P := D 1 0) h
          have b := pPrn_m (t := t) (f := D 2) (P := D 1 0) a.2
          have c := pNum_m (t := t) (lo := 0) (hi := 31) b.2
          have d := pSem_m (t := t) c.2
          exact ⟨Nat.le_trans a.1 (Nat.le_trans b.1 (Nat.le_trans c.1 d.1)), d.2⟩
        · exact A 0 39
theorem cY_m {t : Nat → Int} {n : Nat} {D : zBk} : ∀ k : Nat, (cY t n D k).1 ≤ n
  | 0 => Nat.zero_le _
  | k + 1 => by
    have h := cY_m (t := t) (n := n) (D := D) k
    rw [cY]
    split
    · split
      · exact (pF_m h).2
      · split
        · exact (pF_m h).2
        · exact (cS_m (pN_m h).2).2
    · exact h
theorem cY_pos {t : Nat → Int} {n : Nat} {D : zBk} : ∀ k : Nat, (∀ i, i < k → mor t n (cY t n D i)) → (cY t n D k).2.1 = 0 → k ≤ (cY t n D k).1
  | 0, _, _ => Nat.zero_le _
  | k + 1, h, h0 => by
    have hm := h k (Nat.lt_succ_self k)
    have hk := cY_m (t := t) (n := n) (D := D) k
    have ih := cY_pos k (fun i hi => h i (by omega)) hm.1
    by_cases e1 : vct t n (cY t n D k).1 = -1
    · rw [cY_n hm e1] at h0; exact absurd h0 (pF_nz (by decide))
    · by_cases e2 : 30 ≤ k
      · rw [cY_l hm e1 e2] at h0; exact absurd h0 (pF_nz (by decide))
      · rw [cY_c hm e1 e2]
        have x1 := xE_lt (t := t) hk hm.2
        have x2 := xS_le (t := t) hk
        have x3 := (cS_m (t := t) (v := vct t n (cY t n D k).1) (D := D) (pN_m (t := t) hk).2).1
        have x4 : (pN t n (cY t n D k)).1 = xE t n (cY t n D k).1 := rfl
        omega
theorem cY_end {t : Nat → Int} {n : Nat} {D : zBk} (hn : n ≤ 1400) {k : Nat} (hk : k ≤ 1400) (h : ∀ i, i < k → mor t n (cY t n D i)) (he : k = 1400 ∨ ¬ mor t n (cY t n D k)) : ¬ mor t n (cY t n D k) ∧ cY t n D 1400 = cY t n D k ∧ cM t n D 1400 = k := by
  have hm : ¬ mor t n (cY t n D k) := by
    rcases he with e | e
    · intro hm
      have := cY_pos k h hm.1
      have h1 := cY_m (t := t) (n := n) (D := D) k
      have h2 := xS_le (t := t) h1
      have h3 := xK_n hm.2
      omega
    · exact e
  refine ⟨hm, ?_, ?_⟩
  · have := cY_s hm (1400 - k)
    rw [show k + (1400 - k) = 1400 by omega] at this; exact this
  · have := cM_st hm (1400 - k)
    rw [show k + (1400 - k) = 1400 by omega] at this
    rw [this, cM_all h]
theorem cY_5 {t : Nat → Int} {n : Nat} {D : zBk} {k : Nat} (h : ∀ i, i < k → mor t n (cY t n D i)) (h0 : (cY t n D k).2.1 = 0) : k ≤ 30 := by
  rcases Nat.lt_or_ge 30 k with q | q
  · exfalso
    have hm := h (k - 1) (by omega)
    have e : k = (k - 1) + 1 := by omega
    rw [e] at h0
    by_cases e1 : vct t n (cY t n D (k - 1)).1 = -1
    · rw [cY_n hm e1] at h0; exact absurd h0 (pF_nz (by decide))
    · rw [cY_l hm e1 (by omega)] at h0; exact absurd h0 (pF_nz (by decide))
  · exact q
theorem pNum_v {t : Nat → Int} {n : Nat} {S : zP} {lo hi : Int} (h : (pNum t n S lo hi).2.1 = 0) : 0 ≤ pV t n S.1 ∧ pV t n S.1 < 10000 := by
  by_cases a : S.2.1 = 0 ∧ xK t n S.1 = 2 ∧ xE t n S.1 - xS t n S.1 ≤ 4
  · have hd := tok_d a.2.1
    exact dv_4 a.2.2 (fun i hi => (hd.2 _ (by omega) (by omega)).2)
  · rw [pNum_1 a] at h; exact absurd h (pF_nz (by decide))
theorem FI_z {t : Nat → Int} {n : Nat} {S : zP} {lo hi : Int} : zr (if (pNum t n S lo hi).2.1 = 0 then pV t n S.1 else 0) := by
  split
  · rename_i z; have := pNum_v z; unfold zr; omega
  · unfold zr; omega

theorem PC_put {t : Nat → Int} {n : Nat} {S : zP} {σ : zS} {q i : Nat} {v : Int} (hq : 2 < q) (h : PC t n S σ) : PC t n S (zput σ q i v) := by
  obtain ⟨a1, a2, a3, a4, a5, a6⟩ := h
  have e : ∀ x j, x ≤ 2 → (zput σ q i v).1 x j = σ.1 x j := fun x j hx => zput_k _ _ _ _ _ (by omega)
  refine ⟨fun j => (e 2 j (by omega)).trans (a1 j), ?_, a3, ?_, fun z => ?_, fun z => ?_⟩
  · rw [e 1 1 (by omega)]; exact a2
  · rw [e 1 5 (by omega), e 1 6 (by omega)]; exact a4
  · rw [e 1 2 (by omega), e 1 3 (by omega), e 1 4 (by omega)]; exact a5 z
  · rw [e 1 2 (by omega)]; exact a6 z



