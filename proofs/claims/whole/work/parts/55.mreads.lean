abbrev mX10_readsAll : zM := (yX10_readsAll, cX10_readsAll, 1, none, [])
theorem okX10_readsAll : zMok mX10_readsAll 0 := ⟨by decide, by decide, by decide +kernel⟩
theorem dX10_readsAll_109 : decode cX10_readsAll 109 = .ok (.aload_n 0, 1) := by decide +kernel
theorem dX10_readsAll_110 : decode cX10_readsAll 110 = .ok (.getfield 243, 3) := by decide +kernel
theorem dX10_readsAll_113 : decode cX10_readsAll 113 = .ok (.ifCond .ne 18, 3) := by decide +kernel
theorem dX10_readsAll_131 : decode cX10_readsAll 131 = .ok (.return_, 1) := by decide +kernel
theorem dX10_readsAll_116 : decode cX10_readsAll 116 = .ok (.aload_n 0, 1) := by decide +kernel
theorem dX10_readsAll_117 : decode cX10_readsAll 117 = .ok (.invokevirtual 249, 3) := by decide +kernel
theorem dX10_readsAll_120 : decode cX10_readsAll 120 = .ok (.iconst (-1), 1) := by decide +kernel
theorem dX10_readsAll_121 : decode cX10_readsAll 121 = .ok (.if_icmp .eq 10, 3) := by decide +kernel
theorem dX10_readsAll_124 : decode cX10_readsAll 124 = .ok (.aload_n 0, 1) := by decide +kernel
theorem dX10_readsAll_125 : decode cX10_readsAll 125 = .ok (.invokevirtual 336, 3) := by decide +kernel
theorem cw_RX10_336 : zCwV RX10 336 mX10_clueLine := zall [1622, 1624, 45, 128, 1625] (by decide +kernel) (by decide +kernel)
theorem dX10_readsAll_128 : decode cX10_readsAll 128 = .ok (.goto (-19), 3) := by decide +kernel
theorem dX10_readsAll_92 : decode cX10_readsAll 92 = .ok (.aload_n 0, 1) := by decide +kernel
theorem dX10_readsAll_93 : decode cX10_readsAll 93 = .ok (.ldc_w 305, 3) := by decide +kernel
theorem dX10_readsAll_96 : decode cX10_readsAll 96 = .ok (.invokevirtual 278, 3) := by decide +kernel
theorem dX10_readsAll_99 : decode cX10_readsAll 99 = .ok (.ifCond .eq 10, 3) := by decide +kernel
theorem dX10_readsAll_102 : decode cX10_readsAll 102 = .ok (.aload_n 0, 1) := by decide +kernel
theorem dX10_readsAll_103 : decode cX10_readsAll 103 = .ok (.invokevirtual 333, 3) := by decide +kernel
theorem cw_RX10_333 : zCwV RX10 333 mX10_editionLine := zall [1618, 1620, 44, 128, 1621] (by decide +kernel) (by decide +kernel)
theorem dX10_readsAll_106 : decode cX10_readsAll 106 = .ok (.goto (-14), 3) := by decide +kernel
theorem dX10_readsAll_75 : decode cX10_readsAll 75 = .ok (.aload_n 0, 1) := by decide +kernel
theorem dX10_readsAll_76 : decode cX10_readsAll 76 = .ok (.ldc_w 303, 3) := by decide +kernel
theorem dX10_readsAll_79 : decode cX10_readsAll 79 = .ok (.invokevirtual 278, 3) := by decide +kernel
theorem dX10_readsAll_82 : decode cX10_readsAll 82 = .ok (.ifCond .eq 10, 3) := by decide +kernel
theorem dX10_readsAll_85 : decode cX10_readsAll 85 = .ok (.aload_n 0, 1) := by decide +kernel
theorem dX10_readsAll_86 : decode cX10_readsAll 86 = .ok (.invokevirtual 330, 3) := by decide +kernel
theorem cw_RX10_330 : zCwV RX10 330 mX10_markLine := zall [1613, 1615, 43, 128, 1616] (by decide +kernel) (by decide +kernel)
theorem dX10_readsAll_89 : decode cX10_readsAll 89 = .ok (.goto (-14), 3) := by decide +kernel
theorem dX10_readsAll_54 : decode cX10_readsAll 54 = .ok (.aload_n 0, 1) := by decide +kernel
theorem dX10_readsAll_55 : decode cX10_readsAll 55 = .ok (.ldc_w 309, 3) := by decide +kernel
theorem dX10_readsAll_58 : decode cX10_readsAll 58 = .ok (.invokevirtual 278, 3) := by decide +kernel
theorem dX10_readsAll_61 : decode cX10_readsAll 61 = .ok (.ifCond .eq 14, 3) := by decide +kernel
theorem dX10_readsAll_64 : decode cX10_readsAll 64 = .ok (.aload_n 0, 1) := by decide +kernel
theorem dX10_readsAll_65 : decode cX10_readsAll 65 = .ok (.bipush 11, 2) := by decide +kernel
theorem dX10_readsAll_67 : decode cX10_readsAll 67 = .ok (.bipush 16, 2) := by decide +kernel
theorem dX10_readsAll_69 : decode cX10_readsAll 69 = .ok (.invokevirtual 326, 3) := by decide +kernel
theorem cw_RX10_326 : zCwV RX10 326 mX10_setLine := zall [1595, 1597, 39, 128, 1598] (by decide +kernel) (by decide +kernel)
theorem dX10_readsAll_72 : decode cX10_readsAll 72 = .ok (.goto (-18), 3) := by decide +kernel
theorem dX10_readsAll_33 : decode cX10_readsAll 33 = .ok (.aload_n 0, 1) := by decide +kernel
theorem dX10_readsAll_34 : decode cX10_readsAll 34 = .ok (.ldc_w 307, 3) := by decide +kernel
theorem dX10_readsAll_37 : decode cX10_readsAll 37 = .ok (.invokevirtual 278, 3) := by decide +kernel
theorem dX10_readsAll_40 : decode cX10_readsAll 40 = .ok (.ifCond .eq 14, 3) := by decide +kernel
theorem dX10_readsAll_43 : decode cX10_readsAll 43 = .ok (.aload_n 0, 1) := by decide +kernel
theorem dX10_readsAll_44 : decode cX10_readsAll 44 = .ok (.bipush 10, 2) := by decide +kernel
theorem dX10_readsAll_46 : decode cX10_readsAll 46 = .ok (.bipush 32, 2) := by decide +kernel
theorem dX10_readsAll_48 : decode cX10_readsAll 48 = .ok (.invokevirtual 326, 3) := by decide +kernel
theorem dX10_readsAll_51 : decode cX10_readsAll 51 = .ok (.goto (-18), 3) := by decide +kernel
theorem dX10_readsAll_0 : decode cX10_readsAll 0 = .ok (.aload_n 0, 1) := by decide +kernel
theorem dX10_readsAll_1 : decode cX10_readsAll 1 = .ok (.getfield 243, 3) := by decide +kernel
theorem dX10_readsAll_4 : decode cX10_readsAll 4 = .ok (.ifCond .ne 29, 3) := by decide +kernel
theorem dX10_readsAll_7 : decode cX10_readsAll 7 = .ok (.aload_n 0, 1) := by decide +kernel
theorem dX10_readsAll_8 : decode cX10_readsAll 8 = .ok (.getfield 7, 3) := by decide +kernel
theorem dX10_readsAll_11 : decode cX10_readsAll 11 = .ok (.iconst 0, 1) := by decide +kernel
theorem dX10_readsAll_12 : decode cX10_readsAll 12 = .ok (.iaload, 1) := by decide +kernel
theorem dX10_readsAll_13 : decode cX10_readsAll 13 = .ok (.ifCond .eq 13, 3) := by decide +kernel
theorem dX10_readsAll_26 : decode cX10_readsAll 26 = .ok (.aload_n 0, 1) := by decide +kernel
theorem dX10_readsAll_27 : decode cX10_readsAll 27 = .ok (.invokevirtual 323, 3) := by decide +kernel
theorem cw_RX10_323 : zCwV RX10 323 mX10_printerLine := zall [1543, 1545, 27, 128, 1546] (by decide +kernel) (by decide +kernel)
theorem dX10_readsAll_30 : decode cX10_readsAll 30 = .ok (.goto (-30), 3) := by decide +kernel
theorem dX10_readsAll_16 : decode cX10_readsAll 16 = .ok (.aload_n 0, 1) := by decide +kernel
theorem dX10_readsAll_17 : decode cX10_readsAll 17 = .ok (.ldc_w 285, 3) := by decide +kernel
theorem dX10_readsAll_20 : decode cX10_readsAll 20 = .ok (.invokevirtual 278, 3) := by decide +kernel
theorem dX10_readsAll_23 : decode cX10_readsAll 23 = .ok (.ifCond .eq 10, 3) := by decide +kernel
/-! the run over the lines, as the other reader sees it -/
def rIV (t : Nat → Int) (n : Nat) (X : Nat → zTr) (M j : Nat) (S : zP) (r : Nat → Int) (k : Nat) : Prop :=
  (S.2.1 = 0 → k ≤ M ∧ S = (X k).2.1 ∧ Rel (X k).2.2 r ∧ (0 ≤ (X k).1 ∧ (X k).1 ≤ (j : Int)) ∧ (∀ v : Int, (X k).1 ≤ v → v < (j : Int) → ¬ sct t n S.1 = v) ∧ (j = 0 → Z0 (X k).2.2 r) ∧ (¬ j = 0 → 1 ≤ (X k).2.2 1 0)) ∧ (¬ S.2.1 = 0 → S = cFin t n X M) ∧ k ≤ M + 1
theorem rIV_r {t : Nat → Int} {n : Nat} {X : Nat → zTr} {M j : Nat} {S : zP} {r r' : Nat → Int} {k : Nat} (e : ∀ i, r' i = r i) (h : rIV t n X M j S r k) : rIV t n X M j S r' k := by
  rw [funext e]; exact h
theorem rIV_n {t : Nat → Int} {n : Nat} {X : Nat → zTr} {M j : Nat} {S : zP} {r : Nat → Int} {k : Nat} (hj : j ≤ 4) (h : rIV t n X M j S r k) (hw : ¬ (S.2.1 = 0 ∧ isW t n S.1 (7 + j))) (h1 : S.2.1 = 0 → j = 0 → 1 ≤ (X k).2.2 1 0) : rIV t n X M (j + 1) S r k := by
  obtain ⟨a, b, c⟩ := h
  refine ⟨fun z => ?_, b, c⟩
  obtain ⟨a1, a2, a3, a4, a5, a6, a7⟩ := a z
  refine ⟨a1, a2, a3, ⟨a4.1, by omega⟩, fun v v1 v2 q => ?_, fun q => by omega, fun _ => ?_⟩
  · by_cases e : v = (j : Int)
    · subst e; exact hw ⟨z, sct_i (by omega) q⟩
    · exact a5 v v1 (by omega) q
  · by_cases e : j = 0
    · exact h1 z e
    · exact a7 e
theorem lB_P {t : Nat → Int} {n j J : Nat} {A : Prop} {D : zBk} {S : zP} (h : 1 ≤ j ∧ j ≤ 5) : lB t n (j : Int) J A D S 1 0 = D 1 0 := by
  unfold lB
  split
  · unfold sBk
    split
    · unfold sStB
      rcases (by omega : j = 1 ∨ j = 2 ∨ j = 3 ∨ j = 4 ∨ j = 5) with rfl | rfl | rfl | rfl | rfl
      · rw [if_neg (by decide), if_pos (by decide)]; exact ov_k _ _ _ _ (by decide)
      · rw [if_neg (by decide), if_neg (by decide), if_pos (by decide)]; exact ov_k _ _ _ _ (by decide)
      · rw [if_neg (by decide), if_neg (by decide), if_neg (by decide), if_pos (by decide)]; unfold adM; rw [if_neg (by omega), if_neg (by omega)]
      · rw [if_neg (by decide), if_neg (by decide), if_neg (by decide), if_neg (by decide), if_pos (by decide)]; unfold adE; rw [if_neg (by omega), if_neg (by omega)]
      · rw [if_neg (by decide), if_neg (by decide), if_neg (by decide), if_neg (by decide), if_neg (by decide)]; unfold adB; rw [if_neg (by omega), if_neg (by omega)]
    · rfl
  · rfl
theorem ra_k {t : Nat → Int} {n : Nat} {X : Nat → zTr} {M k : Nat} (h : cTr t n X M) (hm : ¬ ((X M).2.1.2.1 = 0 ∧ ¬ xK t n (X M).2.1.1 = 0)) (hk : k ≤ M) (z : (X k).2.1.2.1 = 0) (hx : ¬ xK t n (X k).2.1.1 = 0) : k < M ∧ stp t n (X k) (X (k + 1)) := by
  have e : k < M := by
    rcases Nat.lt_or_ge k M with q | q
    · exact q
    · have e : k = M := by omega
      subst e; exact absurd ⟨z, hx⟩ hm
  exact ⟨e, h.1 k e⟩
theorem ra_go {t : Nat → Int} {n : Nat} {X : Nat → zTr} {M j : Nat} {S : zP} {r r' : Nat → Int} {k : Nat} {A : Prop} (h : cTr t n X M) (hm : ¬ ((X M).2.1.2.1 = 0 ∧ ¬ xK t n (X M).2.1.1 = 0)) (hj : j ≤ 5) (iv : rIV t n X M j S r k) (z : S.2.1 = 0) (hw : isW t n S.1 (7 + j)) (hA : A ↔ ¬ ful (X k).2.2 (j : Int)) (hR : Rel (lB t n (j : Int) (7 + j) A (X k).2.2 S) r') (hZ : j = 0 → Z0 (lB t n (j : Int) (7 + j) A (X k).2.2 S) r') : rIV t n X M j (lS t n (j : Int) (7 + j) A (X k).2.2 S) r' (k + 1) := by
  obtain ⟨a1, a2, a3, a4, a5, a6, a7⟩ := iv.1 z
  rw [a2] at z hw
  have hx : ¬ xK t n (X k).2.1.1 = 0 := by rw [hw.1]; decide
  obtain ⟨hk, s⟩ := ra_k h hm a1 z hx
  have hl : (j : Int) ≤ lst (X k).2.2 := by
    unfold lst
    by_cases e : j = 0
    · subst e; split <;> decide
    · rw [if_neg (by have := a7 e; omega)]; omega
  obtain ⟨e1, e2, e3⟩ := stp_l s (sct_w hj hw) hw a4.2 hl hA
  rw [a2] at hR hZ ⊢
  refine ⟨fun q => ⟨hk, e1.symm, Rel_l e2 hR, ?_, fun v v1 v2 => ?_, fun q0 => ?_, fun q0 => ?_⟩, fun q => ?_, by omega⟩
  · rw [e3 (by rw [e1]; exact q)]; omega
  · rw [e3 (by rw [e1]; exact q)] at v1; omega
  · intro p h1 h2
    rw [e2.1.1] at h1
    exact hZ q0 p h1 h2
  · rw [e2.1.1, lB_P (by omega)]; exact a7 q0
  · rw [← e1] at q ⊢
    exact (cTr_u h hk q).2
theorem ra_no {t : Nat → Int} {n : Nat} {X : Nat → zTr} {M j : Nat} {S : zP} {r r' : Nat → Int} {k : Nat} {A : Prop} (h : cTr t n X M) (hm : ¬ ((X M).2.1.2.1 = 0 ∧ ¬ xK t n (X M).2.1.1 = 0)) (iv : rIV t n X M j S r k) (z : S.2.1 = 0) (hw : ¬ isW t n S.1 (7 + j)) (hc : (j = 0 ∧ (X k).2.2 1 0 = 0) ∨ (j = 5 ∧ ¬ xK t n S.1 = 0)) : rIV t n X M j (lS t n (j : Int) (7 + j) A (X k).2.2 S) r' (k + 1) := by
  obtain ⟨a1, a2, a3, a4, a5, a6, a7⟩ := iv.1 z
  have nw : ¬ sct t n S.1 = (j : Int) := fun q => hw (sct_i (by omega) q)
  rw [a2] at z hw hc nw a5 ⊢
  have ew := pW_n (A := A) hw
  have nz : ¬ (lS t n (j : Int) (7 + j) A (X k).2.2 (X k).2.1).2.1 = 0 := by
    unfold lS
    rw [ew, if_neg (pF_nz (by decide))]; exact pF_nz (by decide)
  refine ⟨fun q => absurd q nz, fun _ => ?_, by omega⟩
  by_cases hx : xK t n (X k).2.1.1 = 0
  · have ek : k = M := by
      rcases Nat.lt_or_ge k M with q | q
      · exact absurd hx (h.1 k q).2.1
      · omega
    have c0 : (X k).2.2 1 0 = 0 := by
      rcases hc with c | c
      · exact c.2
      · exact absurd hx c.2
    subst ek
    unfold lS cFin
    rw [ew, if_neg (pF_nz (by decide)), if_pos c0]
  · obtain ⟨hk, s⟩ := ra_k h hm a1 z hx
    have nwt : ¬ wth t n (X k) := by
      rintro ⟨w1, w2⟩
      have r5 := sct_r t n (X k).2.1.1
      rcases hc with c | c
      · unfold lst at w2
        rw [if_pos c.2] at w2
        exact nw (by omega)
      · exact a5 _ w1 (by omega) rfl
    obtain ⟨e1, -⟩ := stp_o (A := A) (k := (j : Int)) s nwt hw
    rw [← e1] at nz ⊢
    exact (cTr_u h hk nz).2
theorem lS_o {t : Nat → Int} {n j : Nat} {D : zBk} {S : zP} {x : Int} (hj : j = 1 ∧ x = 32 ∨ j = 2 ∧ x = 16) (z : S.2.1 = 0) (hw : isW t n S.1 (7 + j)) : lS t n (j : Int) (7 + j) True D S = o3 t n D 0 (x - 1) (pN t n S) ∧ lB t n (j : Int) (7 + j) True D S = if (o3 t n D 0 (x - 1) (pN t n S)).2.1 = 0 then ov D (j + 5) (nmP t n D (pN t n S)) (zor (D (j + 5) (nmP t n D (pN t n S))) (zshl 1 (pV t n (o1 t n D (pN t n S)).1))) else D := by
  have ew := pW_y (A := True) hw trivial z
  have nz : (pW t n S (7 + j) True).2.1 = 0 := by rw [ew]; exact z
  have e1 : sStS t n (j : Int) D (pN t n S) = o3 t n D 0 (x - 1) (pN t n S) := by
    rcases hj with ⟨rfl, rfl⟩ | ⟨rfl, rfl⟩
    · unfold sStS; rw [if_neg (by decide), if_pos (by decide)]; rfl
    · unfold sStS; rw [if_neg (by decide), if_neg (by decide), if_pos (by decide)]; rfl
  have e2 : sStB t n (j : Int) D (pN t n S) = ov D (j + 5) (nmP t n D (pN t n S)) (zor (D (j + 5) (nmP t n D (pN t n S))) (zshl 1 (pV t n (o1 t n D (pN t n S)).1))) := by
    rcases hj with ⟨rfl, rfl⟩ | ⟨rfl, rfl⟩
    · unfold sStB; rw [if_neg (by decide), if_pos (by decide)]
    · unfold sStB; rw [if_neg (by decide), if_neg (by decide), if_pos (by decide)]
  unfold lS lB
  rw [if_pos nz, if_pos nz]
  unfold sBk
  rw [e1, e2]
  exact ⟨rfl, rfl⟩

set_option maxRecDepth 20000 in
set_option maxHeartbeats 2000000 in
theorem ra_5 {l : Launch} {w : zW} (hfl : l.stackTraces = false) {σ : zS} {t : Nat → Int} {n : Nat} {X : Nat → zTr} {M : Nat} (hX : cTr t n X M) (hm : ¬ ((X M).2.1.2.1 = 0 ∧ ¬ xK t n (X M).2.1.1 = 0)) {Q : zQ} (hQ : Q = (zqv (none) (fun τ => zOK τ ∧ ML σ τ ∧ PM t n (cFin t n X M) τ ∧ ((cFin t n X M).2.1 = 0 → Rel (X M).2.2 (τ.1 262))))) : ∀ (N : Nat) (τ : zS) (k : Nat) (S : zP), zOK τ → ML σ τ → PM t n S τ → rIV t n X M 5 S (τ.1 262) k → M + 2 - k < N → zX l w mX10_readsAll (zMQ w 7 0 Q) 109 [zf 10 261] [] 0 τ := by
  intro N
  induction N with
  | zero => intro τ k S _ _ _ _ hN; exact absurd hN (Nat.not_lt_zero _)
  | succ N ih =>
    intro τ k S hz h1 h2 iv hN
    have e20 : τ.1 261 20 = S.2.1 := h2.2.2.2.1.1
    have ivk := iv.2.2
    refine zx_aloadN dX10_readsAll_109 rfl rfl ?_
    refine zy_getI fl_RX10_243 rfl dX10_readsAll_110 rfl ?_
    refine zx_if_ne (tgt := 131) (by first | exact hz _ _ | assumption | exact zr_b _ | exact zcmp_r _ _ | exact uM_z hz _ _ | (unfold zr at *; omega)) dX10_readsAll_113 (by decide) (fun h113 => ?_) (fun h113 => ?_)
    · refine zx_vret rfl dX10_readsAll_131 ?_
      rw [hQ]
      refine ⟨rfl, ?_⟩
      first
      | (have u : ¬ S.2.1 = 0 := fun q => h113 (e20.trans q)
         have es := iv.2.1 u
         rw [← es]
         exact ⟨hz, h1, h2, fun q => absurd q u⟩)
      | (have e := (h2.2.2.2.2.2 z).2.2
         have hn := (uM_n h2.1).mp h121
         have hxk : xK t n S.1 = 0 := by unfold xK; rw [if_pos (by omega)]
         have ek : k = M := by
           rcases Nat.lt_or_ge k M with q | q
           · exact absurd (a2 ▸ hxk) (hX.1 k q).2.1
           · omega
         subst ek
         have ef : cFin t n X k = S := by
           unfold cFin
           rw [if_neg (by have := a7 (by decide); omega)]; exact a2.symm
         rw [ef]
         exact ⟨hz, ML_x h1 hr117.2.1, hr117.2.2.1, fun _ => MX_R hr117.2.1 a3⟩)
    · have z : S.2.1 = 0 := e20.symm.trans h113
      obtain ⟨a1, a2, a3, a4, a5, a6, a7⟩ := iv.1 z
      have hW := (hX.2.1 k a1).1
      refine zx_aloadN dX10_readsAll_116 rfl rfl ?_
      refine zy_cvR [] (sX10_next (S := S) hfl hz h2) dX10_readsAll_117 (by decide) rfl cw_RX10_249 okX10_next rfl (Nat.le_of_ble_eq_true rfl) ⟨Nat.le_of_ble_eq_true rfl, Nat.le_of_ble_eq_true rfl, Nat.le_of_ble_eq_true rfl, Nat.le_of_ble_eq_true rfl⟩ (fun τ117 hr117 => ?_)
      have hz117 : zOK τ117 := hr117.1
      refine zx_iconst dX10_readsAll_120 ?_
      refine zx_icmp_eq (tgt := 131) (by first | exact hz117 _ _ | assumption | exact zr_b _ | exact zcmp_r _ _ | exact uM_z hz _ _ | (unfold zr at *; omega)) (by first | exact hz117 _ _ | assumption | exact zr_b _ | exact zcmp_r _ _ | exact uM_z hz _ _ | (unfold zr at *; omega)) dX10_readsAll_121 (by decide) (fun h121 => ?_) (fun h121 => ?_)
      · refine zx_vret rfl dX10_readsAll_131 ?_
        rw [hQ]
        refine ⟨rfl, ?_⟩
        first
        | (have u : ¬ S.2.1 = 0 := fun q => h113 (e20.trans q)
           have es := iv.2.1 u
           rw [← es]
           exact ⟨hz117, h1, h2, fun q => absurd q u⟩)
        | (have e := (h2.2.2.2.2.2 z).2.2
           have hn := (uM_n h2.1).mp h121
           have hxk : xK t n S.1 = 0 := by unfold xK; rw [if_pos (by omega)]
           have ek : k = M := by
             rcases Nat.lt_or_ge k M with q | q
             · exact absurd (a2 ▸ hxk) (hX.1 k q).2.1
             · omega
           subst ek
           have ef : cFin t n X k = S := by
             unfold cFin
             rw [if_neg (by have := a7 (by decide); omega)]; exact a2.symm
           rw [ef]
           exact ⟨hz117, ML_x h1 hr117.2.1, hr117.2.2.1, fun _ => MX_R hr117.2.1 a3⟩)
      · have hxk : ¬ xK t n S.1 = 0 := fun q => h121 ((uM_n h2.1).mpr (by
          have e := (h2.2.2.2.2.2 z).2.2
          unfold xK at q
          split at q
          · omega
          · exact absurd q (by have := kb_r (t (xS t n S.1)); omega)))
        have hR' : Rel (X k).2.2 (τ117.1 262) := MX_R hr117.2.1 a3
        refine zx_aloadN dX10_readsAll_124 rfl rfl ?_
        refine zy_cvvR [] (sX10_clueLine (D := (X k).2.2) (S := S) hfl hz117 hW hR' hr117.2.2.1) dX10_readsAll_125 (by decide) rfl cw_RX10_336 okX10_clueLine rfl (Nat.le_of_ble_eq_true rfl) ⟨Nat.le_of_ble_eq_true rfl, Nat.le_of_ble_eq_true rfl, Nat.le_of_ble_eq_true rfl, Nat.le_of_ble_eq_true rfl⟩ (fun τ125 hr125 => ?_)
        have hz125 : zOK τ125 := hr125.1
        refine zx_goto (tgt := 109) dX10_readsAll_128 (by decide) ?_
        refine ih _ (k + 1) _ hr125.1 (ML_tr (ML_x h1 hr117.2.1) hr125.2.1) hr125.2.2.1 ?_ (by omega)
        by_cases hw : isW t n S.1 12
        · refine ra_go hX hm (j := 5) (by decide) iv z hw (⟨fun q => ?_, fun q => ?_⟩) hr125.2.2.2 (fun q => absurd q (by decide))
          · unfold ful; omega
          · unfold ful at q; omega
        · exact ra_no hX hm (j := 5) iv z hw (Or.inr ⟨rfl, hxk⟩)
set_option maxRecDepth 20000 in
set_option maxHeartbeats 2000000 in
theorem ra_4 {l : Launch} {w : zW} (hfl : l.stackTraces = false) {σ : zS} {t : Nat → Int} {n : Nat} {X : Nat → zTr} {M : Nat} (hX : cTr t n X M) (hm : ¬ ((X M).2.1.2.1 = 0 ∧ ¬ xK t n (X M).2.1.1 = 0)) {Q : zQ} (hQ : Q = (zqv (none) (fun τ => zOK τ ∧ ML σ τ ∧ PM t n (cFin t n X M) τ ∧ ((cFin t n X M).2.1 = 0 → Rel (X M).2.2 (τ.1 262))))) : ∀ (N : Nat) (τ : zS) (k : Nat) (S : zP), zOK τ → ML σ τ → PM t n S τ → rIV t n X M 4 S (τ.1 262) k → M + 2 - k < N → zX l w mX10_readsAll (zMQ w 7 0 Q) 92 [zf 10 261] [] 0 τ := by
  intro N
  induction N with
  | zero => intro τ k S _ _ _ _ hN; exact absurd hN (Nat.not_lt_zero _)
  | succ N ih =>
    intro τ k S hz h1 h2 iv hN
    have e20 : τ.1 261 20 = S.2.1 := h2.2.2.2.1.1
    have ivk := iv.2.2
    refine zx_aloadN dX10_readsAll_92 rfl rfl ?_
    refine zx_ldcSw (List.mem_of_getElem? (i := 43) rfl) (by decide) dX10_readsAll_93 ?_
    refine zy_cvR [zf 100 11] (sX10_sees (S := S) (j := 11) hfl hz h2 (by decide)) dX10_readsAll_96 (by decide) rfl cw_RX10_278 okX10_sees rfl (Nat.le_of_ble_eq_true rfl) ⟨Nat.le_of_ble_eq_true rfl, Nat.le_of_ble_eq_true rfl, Nat.le_of_ble_eq_true rfl, Nat.le_of_ble_eq_true rfl⟩ (fun τ96 hr96 => ?_)
    have hz96 : zOK τ96 := hr96.1
    have e262 : ∀ i, τ96.1 262 i = τ.1 262 i := fun i => hr96.2.1.1 262 (fun q => q) (by decide) i
    have ms : ML σ τ96 := ML_x h1 hr96.2.1
    refine zx_if_eq (tgt := 109) (by first | exact hz96 _ _ | assumption | exact zr_b _ | exact zcmp_r _ _ | (unfold zr at *; omega)) dX10_readsAll_99 (by decide) (fun h99 => ?_) (fun h99 => ?_)
    · have h99 := zb_0.mp h99
      exact ra_5 hfl hX hm hQ _ τ96 k S hr96.1 ms hr96.2.2.1 (rIV_n (j := 4) (by decide) (rIV_r e262 iv) h99 (fun _ q => absurd q (by decide))) (Nat.lt_succ_self _)
    · have h99 := zb_n.mp h99
      obtain ⟨z, hw⟩ := h99
      obtain ⟨a1, a2, a3, a4, a5, a6, a7⟩ := iv.1 z
      have hW := (hX.2.1 k a1).1
      have hR' : Rel (X k).2.2 (τ96.1 262) := MX_R hr96.2.1 a3
      refine zx_aloadN dX10_readsAll_102 rfl rfl ?_
      refine zy_cvvR [] (sX10_editionLine (D := (X k).2.2) (S := S) hfl hz96 hW hR' hr96.2.2.1) dX10_readsAll_103 (by decide) rfl cw_RX10_333 okX10_editionLine rfl (Nat.le_of_ble_eq_true rfl) ⟨Nat.le_of_ble_eq_true rfl, Nat.le_of_ble_eq_true rfl, Nat.le_of_ble_eq_true rfl, Nat.le_of_ble_eq_true rfl⟩ (fun τ103 hr103 => ?_)
      have hz103 : zOK τ103 := hr103.1
      refine zx_goto (tgt := 92) dX10_readsAll_106 (by decide) ?_
      refine ih _ (k + 1) _ hr103.1 (ML_tr ms hr103.2.1) hr103.2.2.1 ?_ (by omega)
      refine ra_go hX hm (j := 4) (by decide) iv z hw (⟨fun q => ?_, fun q => ?_⟩) hr103.2.2.2 (fun q => absurd q (by decide))
      · unfold ful; omega
      · unfold ful at q; omega
set_option maxRecDepth 20000 in
set_option maxHeartbeats 2000000 in
theorem ra_3 {l : Launch} {w : zW} (hfl : l.stackTraces = false) {σ : zS} {t : Nat → Int} {n : Nat} {X : Nat → zTr} {M : Nat} (hX : cTr t n X M) (hm : ¬ ((X M).2.1.2.1 = 0 ∧ ¬ xK t n (X M).2.1.1 = 0)) {Q : zQ} (hQ : Q = (zqv (none) (fun τ => zOK τ ∧ ML σ τ ∧ PM t n (cFin t n X M) τ ∧ ((cFin t n X M).2.1 = 0 → Rel (X M).2.2 (τ.1 262))))) : ∀ (N : Nat) (τ : zS) (k : Nat) (S : zP), zOK τ → ML σ τ → PM t n S τ → rIV t n X M 3 S (τ.1 262) k → M + 2 - k < N → zX l w mX10_readsAll (zMQ w 7 0 Q) 75 [zf 10 261] [] 0 τ := by
  intro N
  induction N with
  | zero => intro τ k S _ _ _ _ hN; exact absurd hN (Nat.not_lt_zero _)
  | succ N ih =>
    intro τ k S hz h1 h2 iv hN
    have e20 : τ.1 261 20 = S.2.1 := h2.2.2.2.1.1
    have ivk := iv.2.2
    refine zx_aloadN dX10_readsAll_75 rfl rfl ?_
    refine zx_ldcSw (List.mem_of_getElem? (i := 42) rfl) (by decide) dX10_readsAll_76 ?_
    refine zy_cvR [zf 100 10] (sX10_sees (S := S) (j := 10) hfl hz h2 (by decide)) dX10_readsAll_79 (by decide) rfl cw_RX10_278 okX10_sees rfl (Nat.le_of_ble_eq_true rfl) ⟨Nat.le_of_ble_eq_true rfl, Nat.le_of_ble_eq_true rfl, Nat.le_of_ble_eq_true rfl, Nat.le_of_ble_eq_true rfl⟩ (fun τ79 hr79 => ?_)
    have hz79 : zOK τ79 := hr79.1
    have e262 : ∀ i, τ79.1 262 i = τ.1 262 i := fun i => hr79.2.1.1 262 (fun q => q) (by decide) i
    have ms : ML σ τ79 := ML_x h1 hr79.2.1
    refine zx_if_eq (tgt := 92) (by first | exact hz79 _ _ | assumption | exact zr_b _ | exact zcmp_r _ _ | (unfold zr at *; omega)) dX10_readsAll_82 (by decide) (fun h82 => ?_) (fun h82 => ?_)
    · have h82 := zb_0.mp h82
      exact ra_4 hfl hX hm hQ _ τ79 k S hr79.1 ms hr79.2.2.1 (rIV_n (j := 3) (by decide) (rIV_r e262 iv) h82 (fun _ q => absurd q (by decide))) (Nat.lt_succ_self _)
    · have h82 := zb_n.mp h82
      obtain ⟨z, hw⟩ := h82
      obtain ⟨a1, a2, a3, a4, a5, a6, a7⟩ := iv.1 z
      have hW := (hX.2.1 k a1).1
      have hR' : Rel (X k).2.2 (τ79.1 262) := MX_R hr79.2.1 a3
      refine zx_aloadN dX10_readsAll_85 rfl rfl ?_
      refine zy_cvvR [] (sX10_markLine (D := (X k).2.2) (S := S) hfl hz79 hW hR' hr79.2.2.1) dX10_readsAll_86 (by decide) rfl cw_RX10_330 okX10_markLine rfl (Nat.le_of_ble_eq_true rfl) ⟨Nat.le_of_ble_eq_true rfl, Nat.le_of_ble_eq_true rfl, Nat.le_of_ble_eq_true rfl, Nat.le_of_ble_eq_true rfl⟩ (fun τ86 hr86 => ?_)
      have hz86 : zOK τ86 := hr86.1
      refine zx_goto (tgt := 75) dX10_readsAll_89 (by decide) ?_
      refine ih _ (k + 1) _ hr86.1 (ML_tr ms hr86.2.1) hr86.2.2.1 ?_ (by omega)
      refine ra_go hX hm (j := 3) (by decide) iv z hw (⟨fun q => ?_, fun q => ?_⟩) hr86.2.2.2 (fun q => absurd q (by decide))
      · unfold ful; omega
      · unfold ful at q; omega
set_option maxRecDepth 20000 in
set_option maxHeartbeats 2000000 in
theorem ra_2 {l : Launch} {w : zW} (hfl : l.stackTraces = false) {σ : zS} {t : Nat → Int} {n : Nat} {X : Nat → zTr} {M : Nat} (hX : cTr t n X M) (hm : ¬ ((X M).2.1.2.1 = 0 ∧ ¬ xK t n (X M).2.1.1 = 0)) {Q : zQ} (hQ : Q = (zqv (none) (fun τ => zOK τ ∧ ML σ τ ∧ PM t n (cFin t n X M) τ ∧ ((cFin t n X M).2.1 = 0 → Rel (X M).2.2 (τ.1 262))))) : ∀ (N : Nat) (τ : zS) (k : Nat) (S : zP), zOK τ → ML σ τ → PM t n S τ → rIV t n X M 2 S (τ.1 262) k → M + 2 - k < N → zX l w mX10_readsAll (zMQ w 7 0 Q) 54 [zf 10 261] [] 0 τ := by
  intro N
  induction N with
  | zero => intro τ k S _ _ _ _ hN; exact absurd hN (Nat.not_lt_zero _)
  | succ N ih =>
    intro τ k S hz h1 h2 iv hN
    have e20 : τ.1 261 20 = S.2.1 := h2.2.2.2.1.1
    have ivk := iv.2.2
    refine zx_aloadN dX10_readsAll_54 rfl rfl ?_
    refine zx_ldcSw (List.mem_of_getElem? (i := 41) rfl) (by decide) dX10_readsAll_55 ?_
    refine zy_cvR [zf 100 9] (sX10_sees (S := S) (j := 9) hfl hz h2 (by decide)) dX10_readsAll_58 (by decide) rfl cw_RX10_278 okX10_sees rfl (Nat.le_of_ble_eq_true rfl) ⟨Nat.le_of_ble_eq_true rfl, Nat.le_of_ble_eq_true rfl, Nat.le_of_ble_eq_true rfl, Nat.le_of_ble_eq_true rfl⟩ (fun τ58 hr58 => ?_)
    have hz58 : zOK τ58 := hr58.1
    have e262 : ∀ i, τ58.1 262 i = τ.1 262 i := fun i => hr58.2.1.1 262 (fun q => q) (by decide) i
    have ms : ML σ τ58 := ML_x h1 hr58.2.1
    refine zx_if_eq (tgt := 75) (by first | exact hz58 _ _ | assumption | exact zr_b _ | exact zcmp_r _ _ | (unfold zr at *; omega)) dX10_readsAll_61 (by decide) (fun h61 => ?_) (fun h61 => ?_)
    · have h61 := zb_0.mp h61
      exact ra_3 hfl hX hm hQ _ τ58 k S hr58.1 ms hr58.2.2.1 (rIV_n (j := 2) (by decide) (rIV_r e262 iv) h61 (fun _ q => absurd q (by decide))) (Nat.lt_succ_self _)
    · have h61 := zb_n.mp h61
      obtain ⟨z, hw⟩ := h61
      obtain ⟨a1, a2, a3, a4, a5, a6, a7⟩ := iv.1 z
      have hW := (hX.2.1 k a1).1
      have hR' : Rel (X k).2.2 (τ58.1 262) := MX_R hr58.2.1 a3
      refine zx_aloadN dX10_readsAll_64 rfl rfl ?_
      refine zx_bipush dX10_readsAll_65 rfl ?_
      refine zy_top (b := ((11 : Nat) : Int)) (rfl) ?_
      refine zx_bipush dX10_readsAll_67 rfl ?_
      refine zy_cvvR [zi ((11 : Nat) : Int), zi 16] (sX10_setLine (D := (X k).2.2) (S := S) (o := 11) (x := 16) hfl hz58 hW hR' hr58.2.2 z hw.1 (by decide)) dX10_readsAll_69 (by decide) rfl cw_RX10_326 okX10_setLine rfl (Nat.le_of_ble_eq_true rfl) ⟨Nat.le_of_ble_eq_true rfl, Nat.le_of_ble_eq_true rfl, Nat.le_of_ble_eq_true rfl, Nat.le_of_ble_eq_true rfl⟩ (fun τ69 hr69 => ?_)
      have hz69 : zOK τ69 := hr69.1
      refine zx_goto (tgt := 54) dX10_readsAll_72 (by decide) ?_
      obtain ⟨eS, eB⟩ := lS_o (t := t) (n := n) (D := (X k).2.2) (j := 2) (x := 16) (by decide) z hw
      have hP' := hr69.2.2.1
      rw [← eS] at hP'
      have hB' := hr69.2.2.2
      refine ih _ (k + 1) _ hr69.1 (ML_tr ms hr69.2.1) hP' ?_ (by omega)
      refine ra_go hX hm (j := 2) (by decide) iv z hw (⟨fun q => ?_, fun q => trivial⟩) (by rw [eB]; exact hB') (fun q => absurd q (by decide))
      unfold ful; omega
set_option maxRecDepth 20000 in
set_option maxHeartbeats 2000000 in
theorem ra_1 {l : Launch} {w : zW} (hfl : l.stackTraces = false) {σ : zS} {t : Nat → Int} {n : Nat} {X : Nat → zTr} {M : Nat} (hX : cTr t n X M) (hm : ¬ ((X M).2.1.2.1 = 0 ∧ ¬ xK t n (X M).2.1.1 = 0)) {Q : zQ} (hQ : Q = (zqv (none) (fun τ => zOK τ ∧ ML σ τ ∧ PM t n (cFin t n X M) τ ∧ ((cFin t n X M).2.1 = 0 → Rel (X M).2.2 (τ.1 262))))) : ∀ (N : Nat) (τ : zS) (k : Nat) (S : zP), zOK τ → ML σ τ → PM t n S τ → rIV t n X M 1 S (τ.1 262) k → M + 2 - k < N → zX l w mX10_readsAll (zMQ w 7 0 Q) 33 [zf 10 261] [] 0 τ := by
  intro N
  induction N with
  | zero => intro τ k S _ _ _ _ hN; exact absurd hN (Nat.not_lt_zero _)
  | succ N ih =>
    intro τ k S hz h1 h2 iv hN
    have e20 : τ.1 261 20 = S.2.1 := h2.2.2.2.1.1
    have ivk := iv.2.2
    refine zx_aloadN dX10_readsAll_33 rfl rfl ?_
    refine zx_ldcSw (List.mem_of_getElem? (i := 40) rfl) (by decide) dX10_readsAll_34 ?_
    refine zy_cvR [zf 100 8] (sX10_sees (S := S) (j := 8) hfl hz h2 (by decide)) dX10_readsAll_37 (by decide) rfl cw_RX10_278 okX10_sees rfl (Nat.le_of_ble_eq_true rfl) ⟨Nat.le_of_ble_eq_true rfl, Nat.le_of_ble_eq_true rfl, Nat.le_of_ble_eq_true rfl, Nat.le_of_ble_eq_true rfl⟩ (fun τ37 hr37 => ?_)
    have hz37 : zOK τ37 := hr37.1
    have e262 : ∀ i, τ37.1 262 i = τ.1 262 i := fun i => hr37.2.1.1 262 (fun q => q) (by decide) i
    have ms : ML σ τ37 := ML_x h1 hr37.2.1
    refine zx_if_eq (tgt := 54) (by first | exact hz37 _ _ | assumption | exact zr_b _ | exact zcmp_r _ _ | (unfold zr at *; omega)) dX10_readsAll_40 (by decide) (fun h40 => ?_) (fun h40 => ?_)
    · have h40 := zb_0.mp h40
      exact ra_2 hfl hX hm hQ _ τ37 k S hr37.1 ms hr37.2.2.1 (rIV_n (j := 1) (by decide) (rIV_r e262 iv) h40 (fun _ q => absurd q (by decide))) (Nat.lt_succ_self _)
    · have h40 := zb_n.mp h40
      obtain ⟨z, hw⟩ := h40
      obtain ⟨a1, a2, a3, a4, a5, a6, a7⟩ := iv.1 z
      have hW := (hX.2.1 k a1).1
      have hR' : Rel (X k).2.2 (τ37.1 262) := MX_R hr37.2.1 a3
      refine zx_aloadN dX10_readsAll_43 rfl rfl ?_
      refine zx_bipush dX10_readsAll_44 rfl ?_
      refine zy_top (b := ((10 : Nat) : Int)) (rfl) ?_
      refine zx_bipush dX10_readsAll_46 rfl ?_
      refine zy_cvvR [zi ((10 : Nat) : Int), zi 32] (sX10_setLine (D := (X k).2.2) (S := S) (o := 10) (x := 32) hfl hz37 hW hR' hr37.2.2 z hw.1 (by decide)) dX10_readsAll_48 (by decide) rfl cw_RX10_326 okX10_setLine rfl (Nat.le_of_ble_eq_true rfl) ⟨Nat.le_of_ble_eq_true rfl, Nat.le_of_ble_eq_true rfl, Nat.le_of_ble_eq_true rfl, Nat.le_of_ble_eq_true rfl⟩ (fun τ48 hr48 => ?_)
      have hz48 : zOK τ48 := hr48.1
      refine zx_goto (tgt := 33) dX10_readsAll_51 (by decide) ?_
      obtain ⟨eS, eB⟩ := lS_o (t := t) (n := n) (D := (X k).2.2) (j := 1) (x := 32) (by decide) z hw
      have hP' := hr48.2.2.1
      rw [← eS] at hP'
      have hB' := hr48.2.2.2
      refine ih _ (k + 1) _ hr48.1 (ML_tr ms hr48.2.1) hP' ?_ (by omega)
      refine ra_go hX hm (j := 1) (by decide) iv z hw (⟨fun q => ?_, fun q => trivial⟩) (by rw [eB]; exact hB') (fun q => absurd q (by decide))
      unfold ful; omega
set_option maxRecDepth 20000 in
set_option maxHeartbeats 2000000 in
theorem ra_0 {l : Launch} {w : zW} (hfl : l.stackTraces = false) {σ : zS} {t : Nat → Int} {n : Nat} {X : Nat → zTr} {M : Nat} (hX : cTr t n X M) (hm : ¬ ((X M).2.1.2.1 = 0 ∧ ¬ xK t n (X M).2.1.1 = 0)) {Q : zQ} (hQ : Q = (zqv (none) (fun τ => zOK τ ∧ ML σ τ ∧ PM t n (cFin t n X M) τ ∧ ((cFin t n X M).2.1 = 0 → Rel (X M).2.2 (τ.1 262))))) : ∀ (N : Nat) (τ : zS) (k : Nat) (S : zP), zOK τ → ML σ τ → PM t n S τ → rIV t n X M 0 S (τ.1 262) k → M + 2 - k < N → zX l w mX10_readsAll (zMQ w 7 0 Q) 0 [zf 10 261] [] 0 τ := by
  intro N
  induction N with
  | zero => intro τ k S _ _ _ _ hN; exact absurd hN (Nat.not_lt_zero _)
  | succ N ih =>
    intro τ k S hz h1 h2 iv hN
    have e20 : τ.1 261 20 = S.2.1 := h2.2.2.2.1.1
    have ivk := iv.2.2
    refine zx_aloadN dX10_readsAll_0 rfl rfl ?_
    refine zy_getI fl_RX10_243 rfl dX10_readsAll_1 rfl ?_
    refine zx_if_ne (tgt := 33) (by first | exact hz _ _ | assumption | exact zr_b _ | exact zcmp_r _ _ | (unfold zr at *; omega)) dX10_readsAll_4 (by decide) (fun h4 => ?_) (fun h4 => ?_)
    · first
      | exact ra_1 hfl hX hm hQ _ τ k S hz h1 h2 (rIV_n (j := 0) (by decide) iv (fun q => h4 (e20.trans q.1)) (fun q => absurd (e20.trans q) h4)) (Nat.lt_succ_self _)
      | exact ra_1 hfl hX hm hQ _ τ20 k S hr20.1 ms hr20.2.2.1 (rIV_n (j := 0) (by decide) (rIV_r e262 iv) h23 (fun _ _ => by have := a3.1.1; omega)) (Nat.lt_succ_self _)
    · have z : S.2.1 = 0 := e20.symm.trans h4
      obtain ⟨a1, a2, a3, a4, a5, a6, a7⟩ := iv.1 z
      have hW := (hX.2.1 k a1).1
      have hp8 := hW.1.1
      refine zx_aloadN dX10_readsAll_7 rfl rfl ?_
      refine zy_getR (q' := 262) fl_RX10_7 rfl dX10_readsAll_8 rfl ?_
      refine zx_iconst dX10_readsAll_11 ?_
      refine zy_iald (v := τ.1 262 0) rfl (by decide) (by decide) dX10_readsAll_12 (by omega) (by omega) rfl ?_
      refine zx_if_eq (tgt := 26) (by first | exact hz _ _ | assumption | exact zr_b _ | exact zcmp_r _ _ | (unfold zr at *; omega)) dX10_readsAll_13 (by decide) (fun h13 => ?_) (fun h13 => ?_)
      · have p26 := h2
        have m26 := h1
        have R26 := a3
        have Z26 := a6 rfl
        have hc : (X k).2.2 1 0 = 0 ∨ isW t n S.1 7 := Or.inl (a3.1.1.symm.trans h13)
        refine zx_aloadN dX10_readsAll_26 rfl rfl ?_
        refine zy_cvvR [] (sX10_printerLine (D := (X k).2.2) (S := S) hfl hz hW R26 p26 Z26) dX10_readsAll_27 (by decide) rfl cw_RX10_323 okX10_printerLine rfl (Nat.le_of_ble_eq_true rfl) ⟨Nat.le_of_ble_eq_true rfl, Nat.le_of_ble_eq_true rfl, Nat.le_of_ble_eq_true rfl, Nat.le_of_ble_eq_true rfl⟩ (fun τ27 hr27 => ?_)
        have hz27 : zOK τ27 := hr27.1
        refine zx_goto (tgt := 0) dX10_readsAll_30 (by decide) ?_
        refine ih _ (k + 1) _ hr27.1 (ML_tr m26 hr27.2.1) hr27.2.2.1 ?_ (by omega)
        by_cases hw : isW t n S.1 7
        · refine ra_go hX hm (j := 0) (by decide) iv z hw (⟨fun q => ?_, fun q => ?_⟩) hr27.2.2.2.1 (fun _ => hr27.2.2.2.2)
          · unfold ful; omega
          · unfold ful at q; omega
        · exact ra_no hX hm (j := 0) iv z hw (Or.inl ⟨rfl, hc.resolve_right hw⟩)
      · refine zx_aloadN dX10_readsAll_16 rfl rfl ?_
        refine zx_ldcSw (List.mem_of_getElem? (i := 39) rfl) (by decide) dX10_readsAll_17 ?_
        refine zy_cvR [zf 100 7] (sX10_sees (S := S) (j := 7) hfl hz h2 (by decide)) dX10_readsAll_20 (by decide) rfl cw_RX10_278 okX10_sees rfl (Nat.le_of_ble_eq_true rfl) ⟨Nat.le_of_ble_eq_true rfl, Nat.le_of_ble_eq_true rfl, Nat.le_of_ble_eq_true rfl, Nat.le_of_ble_eq_true rfl⟩ (fun τ20 hr20 => ?_)
        have hz20 : zOK τ20 := hr20.1
        have e262 : ∀ i, τ20.1 262 i = τ.1 262 i := fun i => hr20.2.1.1 262 (fun q => q) (by decide) i
        have ms : ML σ τ20 := ML_x h1 hr20.2.1
        refine zx_if_eq (tgt := 33) (by first | exact hz20 _ _ | assumption | exact zr_b _ | exact zcmp_r _ _ | (unfold zr at *; omega)) dX10_readsAll_23 (by decide) (fun h23 => ?_) (fun h23 => ?_)
        · have h23 := zb_0.mp h23
          first
          | exact ra_1 hfl hX hm hQ _ τ k S hz h1 h2 (rIV_n (j := 0) (by decide) iv (fun q => h4 (e20.trans q.1)) (fun q => absurd (e20.trans q) h4)) (Nat.lt_succ_self _)
          | exact ra_1 hfl hX hm hQ _ τ20 k S hr20.1 ms hr20.2.2.1 (rIV_n (j := 0) (by decide) (rIV_r e262 iv) h23 (fun _ _ => by have := a3.1.1; omega)) (Nat.lt_succ_self _)
        · have h23 := zb_n.mp h23
          have p26 := hr20.2.2.1
          have m26 := ms
          have R26 : Rel (X k).2.2 (τ20.1 262) := MX_R hr20.2.1 a3
          have Z26 : Z0 (X k).2.2 (τ20.1 262) := Z0_e (a6 rfl) (fun p _ => ⟨e262 _, e262 _⟩)
          have hc : (X k).2.2 1 0 = 0 ∨ isW t n S.1 7 := Or.inr h23.2
          refine zx_aloadN dX10_readsAll_26 rfl rfl ?_
          refine zy_cvvR [] (sX10_printerLine (D := (X k).2.2) (S := S) hfl hz20 hW R26 p26 Z26) dX10_readsAll_27 (by decide) rfl cw_RX10_323 okX10_printerLine rfl (Nat.le_of_ble_eq_true rfl) ⟨Nat.le_of_ble_eq_true rfl, Nat.le_of_ble_eq_true rfl, Nat.le_of_ble_eq_true rfl, Nat.le_of_ble_eq_true rfl⟩ (fun τ27 hr27 => ?_)
          have hz27 : zOK τ27 := hr27.1
          refine zx_goto (tgt := 0) dX10_readsAll_30 (by decide) ?_
          refine ih _ (k + 1) _ hr27.1 (ML_tr m26 hr27.2.1) hr27.2.2.1 ?_ (by omega)
          by_cases hw : isW t n S.1 7
          · refine ra_go hX hm (j := 0) (by decide) iv z hw (⟨fun q => ?_, fun q => ?_⟩) hr27.2.2.2.1 (fun _ => hr27.2.2.2.2)
            · unfold ful; omega
            · unfold ful at q; omega
          · exact ra_no hX hm (j := 0) iv z hw (Or.inl ⟨rfl, hc.resolve_right hw⟩)
set_option maxRecDepth 20000 in
set_option maxHeartbeats 2000000 in
theorem sX10_readsAll {l : Launch} {w : zW} (hfl : l.stackTraces = false) {σ : zS} {t : Nat → Int} {n : Nat} {X : Nat → zTr} {M : Nat} (hz : zOK σ) (hX : cTr t n X M) (hm : ¬ ((X M).2.1.2.1 = 0 ∧ ¬ xK t n (X M).2.1.1 = 0)) (hU : PM t n (0, 0, -1) σ) (hR : Rel (X 0).2.2 (σ.1 262)) (hZ : Z0 (X 0).2.2 (σ.1 262)) : Sp l w mX10_readsAll 7 0 [zf 10 261] σ (zqv (none) (fun τ => zOK τ ∧ ML σ τ ∧ PM t n (cFin t n X M) τ ∧ ((cFin t n X M).2.1 = 0 → Rel (X M).2.2 (τ.1 262)))) := by
  obtain ⟨Q, hQ⟩ : ∃ Q : zQ, Q = (zqv (none) (fun τ => zOK τ ∧ ML σ τ ∧ PM t n (cFin t n X M) τ ∧ ((cFin t n X M).2.1 = 0 → Rel (X M).2.2 (τ.1 262)))) := ⟨_, rfl⟩
  rw [← hQ]
  refine zx_enter hfl (by decide) rfl 0 rfl ?_
  show zX l w mX10_readsAll (zMQ w 7 0 Q) 0 [zf 10 261] [] 0 σ
  refine ra_0 hfl hX hm hQ _ σ 0 (0, 0, -1) hz (ML_rf _) hU ⟨fun _ => ⟨Nat.zero_le _, hX.2.2.2.1.symm, hR, by rw [hX.2.2.1]; exact ⟨by decide, by decide⟩, fun v v1 v2 => ?_, fun _ => hZ, fun q => absurd rfl q⟩, fun q => absurd rfl q, Nat.zero_le _⟩ (Nat.lt_succ_self _)
  rw [hX.2.2.1] at v1; omega

