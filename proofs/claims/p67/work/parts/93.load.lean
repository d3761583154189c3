abbrev mL_reads : zM := (yL_reads, cL_reads, 2, (some .int), [(0, 4, 5, 20)])
theorem okL_reads : zMok mL_reads 1 := ⟨by decide, by decide, by decide +kernel⟩
theorem dL_reads_0 : decode cL_reads 0 = .ok (.aload_n 0, 1) := by decide +kernel
theorem dL_reads_1 : decode cL_reads 1 = .ok (.invokevirtual 14, 3) := by decide +kernel
theorem dL_reads_4 : decode cL_reads 4 = .ok (.ireturn, 1) := by decide +kernel
theorem cw_RL_14 : zCwV RL 14 mX9_load := zall [724, 725, 726, 31, 727] (by decide +kernel) (by decide +kernel)
abbrev mL_load : zM := (yL_load, cL_load, 2, (some .int), [])
theorem okL_load : zMok mL_load 2 := ⟨by decide, by decide, by decide +kernel⟩
theorem dL_load_0 : decode cL_load 0 = .ok (.aload_n 0, 1) := by decide +kernel
theorem dL_load_1 : decode cL_load 1 = .ok (.aload_n 1, 1) := by decide +kernel
theorem dL_load_2 : decode cL_load 2 = .ok (.invokestatic 41, 3) := by decide +kernel
theorem cw_RL_41 : zCwS RL 41 mL_comes := zall [682, 683, 18, 684] (by decide +kernel) (by decide +kernel)
theorem dL_load_5 : decode cL_load 5 = .ok (.aload_n 0, 1) := by decide +kernel
theorem dL_load_6 : decode cL_load 6 = .ok (.invokestatic 47, 3) := by decide +kernel
theorem cw_RL_47 : zCwH RL 47 mL_reads := zall [720, 721, 18, 722] (by decide +kernel) (by decide +kernel)
theorem dL_load_9 : decode cL_load 9 = .ok (.ireturn, 1) := by decide +kernel

theorem sX9_load0 {l : Launch} {w : zW} (hfl : l.stackTraces = false) {σ : zS} {t : Nat → Int} {n : Nat}  (hz : zOK σ) (hA : HBA σ) (hT : ∀ i : Nat, σ.1 2 i = t i) (hn : σ.1 1 1 = (n : Int) ∧ n ≤ 1400) (hP : ∀ (X : Nat → zTr) (m : Nat), cTr t n X m → ¬ ((X m).2.1.2.1 = 0 ∧ ¬ xK t n (X m).2.1.1 = 0) → (cFin t n X m).2.1 = 0) : Sp l w mX9_load 9 0 [zf 9 0] σ (fun o τ => ∃ (X : Nat → zTr) (m : Nat), cTr t n X m ∧ ¬ ((X m).2.1.2.1 = 0 ∧ ¬ xK t n (X m).2.1.1 = 0) ∧ zOK τ ∧ HBA τ ∧ (τ.1 1 1 = 0 ∧ τ.1 1 5 = (cFin t n X m).2.1 ∧ τ.1 1 6 = (cFin t n X m).2.2) ∧
    (((cFin t n X m).2.1 = 0 ∧ o = .inl (some (zi ((X m).2.2 12 0))) ∧ zSame (fun q => q = 1 ∨ (4 ≤ q ∧ q ≤ 23) ∨ (30 ≤ q ∧ q ≤ 49) ∨ q = 70) σ τ ∧ zEq (X m).2.2 (bk τ 30) ∧ τ.1 70 1 = σ.1 70 1 ∧ τ.1 70 2 = 0) ∨
     (¬ (cFin t n X m).2.1 = 0 ∧ o = .inr "java/lang/IllegalArgumentException" ∧ zSame (fun q => q = 1 ∨ (4 ≤ q ∧ q ≤ 23)) σ τ))) := by
  obtain ⟨Q, hQ⟩ : ∃ Q : zQ, Q = (fun o τ => ∃ (X : Nat → zTr) (m : Nat), cTr t n X m ∧ ¬ ((X m).2.1.2.1 = 0 ∧ ¬ xK t n (X m).2.1.1 = 0) ∧ zOK τ ∧ HBA τ ∧ (τ.1 1 1 = 0 ∧ τ.1 1 5 = (cFin t n X m).2.1 ∧ τ.1 1 6 = (cFin t n X m).2.2) ∧
    (((cFin t n X m).2.1 = 0 ∧ o = .inl (some (zi ((X m).2.2 12 0))) ∧ zSame (fun q => q = 1 ∨ (4 ≤ q ∧ q ≤ 23) ∨ (30 ≤ q ∧ q ≤ 49) ∨ q = 70) σ τ ∧ zEq (X m).2.2 (bk τ 30) ∧ τ.1 70 1 = σ.1 70 1 ∧ τ.1 70 2 = 0) ∨
     (¬ (cFin t n X m).2.1 = 0 ∧ o = .inr "java/lang/IllegalArgumentException" ∧ zSame (fun q => q = 1 ∨ (4 ≤ q ∧ q ≤ 23)) σ τ))) := ⟨_, rfl⟩
  rw [← hQ]
  refine zx_enter hfl (by decide) rfl 1 rfl ?_
  show zX l w mX9_load (zMQ w 9 0 Q) 0 [zf 9 0, zu] [] 0 σ
  refine zx_aloadN dX9_load_0 rfl rfl ?_
  refine zy_getR (q' := 3) fl_RX9_19 rfl dX9_load_1 rfl ?_
  refine zx_aloadN dX9_load_4 rfl rfl ?_
  refine zy_getR (q' := 1) fl_RX9_12 rfl dX9_load_5 rfl ?_
  refine zy_cvq [zf 6 1] (sX4_fillFrom  hfl hz (hA 4 (Or.inl rfl)) (by first | assumption | omega) (by first | assumption | omega)) dX9_load_8 (by decide) rfl cw_RX9_83 okX4_fillFrom rfl (Nat.le_of_ble_eq_true rfl) ⟨Nat.le_of_ble_eq_true rfl, Nat.le_of_ble_eq_true rfl, Nat.le_of_ble_eq_true rfl, Nat.le_of_ble_eq_true rfl⟩ (fun r τ hq => ?_) (fun E τ hq => ?_)
  · obtain ⟨X, m, eX, hz8, hs8, hc8, ht8, he8, hk8, hb8⟩ := hq
    have eX2 := Sum.inl.inj eX
    subst eX2
    rw [show ∀ (x : zV) (s : List zV), (some x).toList ++ s = x :: s from fun _ _ => rfl]
    have i15 : τ.1 1 1 = (n : Int) := hc8.2.1.1
    have n15 := hn.2
    have p5 : τ.1 1 5 = (cFin t n X m).2.1 := hc8.2.2.2.1.1
    have p6 : τ.1 1 6 = (cFin t n X m).2.2 := hc8.2.2.2.1.2
    refine zy_istoreN [zf 9 0, zi (zb ((cFin t n X m).2.1 = 0))] dX9_load_11 rfl (Nat.le_of_ble_eq_true rfl) (Nat.le_of_ble_eq_true rfl) rfl rfl ?_
    refine zx_aloadN dX9_load_12 rfl rfl ?_
    refine zy_getR (q' := 1) fl_RX9_12 rfl dX9_load_13 rfl ?_
    refine zx_iconst dX9_load_16 ?_
    refine zy_cvv [zi 0] (sX6_cutTo  hfl hz8 (by omega) (by omega)) dX9_load_17 (by decide) rfl cw_RX9_87 okX6_cutTo rfl (Nat.le_of_ble_eq_true rfl) ⟨Nat.le_of_ble_eq_true rfl, Nat.le_of_ble_eq_true rfl, Nat.le_of_ble_eq_true rfl, Nat.le_of_ble_eq_true rfl⟩ ?_
    refine zx_iloadN dX9_load_20 rfl rfl ?_
    refine zx_if_ne (tgt := 34) (by first | exact hz8 _ _ | assumption | exact zr_b _ | exact zcmp_r _ _ | (unfold zr at *; omega)) dX9_load_21 (by decide) (fun h21 => ?_) (fun h21 => ?_)
    · have h21 := zb_n.mp h21
      refine zx_aloadN dX9_load_34 rfl rfl ?_
      refine zy_getR (q' := 30) fl_RX9_33 rfl dX9_load_35 rfl ?_
      refine zx_aloadN dX9_load_38 rfl rfl ?_
      refine zy_getR (q' := 3) fl_RX9_19 rfl dX9_load_39 rfl ?_
      refine zy_getR (q' := 4) fl_RX9_91 rfl dX9_load_42 rfl ?_
      refine zy_cvvR [zf 1 4] (sX1_copyFrom  hfl (zOK_put hz8 (by unfold zr; omega)) (by omega) (bb_pt (k := 4) (fun o ho i => zput_k _ _ _ _ _ (by omega)) hb8)) dX9_load_45 (by decide) rfl cw_RX9_94 okX1_copyFrom rfl (Nat.le_of_ble_eq_true rfl) ⟨Nat.le_of_ble_eq_true rfl, Nat.le_of_ble_eq_true rfl, Nat.le_of_ble_eq_true rfl, Nat.le_of_ble_eq_true rfl⟩ (fun τ45 hr45 => ?_)
      have hz45 : zOK τ45 := hr45.1
      refine zx_aloadN dX9_load_48 rfl rfl ?_
      refine zy_getR (q' := 70) fl_RX9_47 rfl dX9_load_49 rfl ?_
      refine zy_cvv [] (sX5_forget  hfl hz45 ) dX9_load_52 (by decide) rfl cw_RX9_122 okX5_forget rfl (Nat.le_of_ble_eq_true rfl) ⟨Nat.le_of_ble_eq_true rfl, Nat.le_of_ble_eq_true rfl, Nat.le_of_ble_eq_true rfl, Nat.le_of_ble_eq_true rfl⟩ ?_
      refine zx_aloadN dX9_load_55 rfl rfl ?_
      refine zy_getR (q' := 30) fl_RX9_33 rfl dX9_load_56 rfl ?_
      refine zy_getR (q' := 42) fl_RX9_125 rfl dX9_load_59 rfl ?_
      refine zy_getI fl_RX9_129 rfl dX9_load_62 rfl ?_
      refine zx_iret rfl rfl dX9_load_65 ?_
      rw [hQ]
      have f45 : ∀ q, ¬ (30 ≤ q ∧ q ≤ 49) → q ≠ 70 → q ≠ 1 → ∀ i, (zput τ45 70 2 0).1 q i = τ.1 q i := fun q h1 h2 h3 i => (zput_k _ _ _ _ _ (by omega)).trans ((hr45.2.1.1 q (by dsimp only; omega) i).trans (zput_k _ _ _ _ _ (by omega)))
      have z45 : zEq (X m).2.2 (bk τ45 30) := by rw [hk8]; exact zEq_tr (zEq_pt (fun p hp j => zput_k _ _ _ _ _ (by omega))) (zEq_cp (o := 4) (k := 30) hr45.2.2.1 hr45.2.2.2)
      have zf : zEq (bk τ45 30) (bk (zput τ45 70 2 0) 30) := zEq_pt (fun p hp j => zput_k _ _ _ _ _ (by omega))
      have k1 : ∀ i, (zput τ45 70 2 0).1 1 i = (zput τ 1 1 0).1 1 i := fun i => (zput_k _ _ _ _ _ (by decide)).trans (hr45.2.1.1 1 (by dsimp only; omega) i)
      refine ⟨X, m, ht8, he8, (zOK_put hz45 (by unfold zr; omega)), ?_, ⟨(k1 1).trans (zput_s _ _ _ _), (k1 5).trans ((zput_i _ _ _ _ _ (by decide)).trans p5), (k1 6).trans ((zput_i _ _ _ _ _ (by decide)).trans p6)⟩, Or.inl ⟨by assumption, congrArg (fun z : Int => (Sum.inl (some (zi z)) : Option zV ⊕ String)) ?_, ⟨fun q hq i => ?_, hr45.2.1.2.trans hs8.2⟩, zEq_tr z45 zf, (zput_i _ _ _ _ _ (by decide)).trans ((hr45.2.1.1 70 (by dsimp only; omega) 1).trans ((zput_k _ _ _ _ _ (by decide)).trans (hs8.1 70 (by dsimp only; omega) 1))), zput_s _ _ _ _⟩⟩
      · intro k hk
        by_cases e30 : k = 30
        · subst e30
          exact bb_pt (fun o ho i => zput_k _ _ _ _ _ (by omega)) (bb_cp (o := 4) hr45.2.2.2 (bb_pt (fun o ho i => zput_k _ _ _ _ _ (by omega)) hb8))
        · by_cases e4 : k = 4
          · subst e4
            exact bb_pt (fun o ho i => f45 _ (by omega) (by omega) (by omega) i) hb8
          · refine bb_pt (fun o ho i => (f45 _ ?_ ?_ ?_ i).trans (hs8.1 _ ?_ i)) (hA k hk) <;> (try dsimp only) <;> rcases hk with h | h | h | ⟨r, h1, h2⟩ <;> omega
      · first | exact (z45.1.2.2.2) | exact ((zput_k _ _ _ _ _ (by decide)).trans z45.1.2.2.2)
      · have hq2 := hq
        dsimp only at hq2
        exact (f45 q (by omega) (by omega) (by omega) i).trans (hs8.1 q (by dsimp only; omega) i)
    · have h21 := zb_0.mp h21
      exact absurd (hP X m ht8 he8) (by assumption)
  · obtain ⟨X, m, eX, -⟩ := hq
    exact absurd eX (by intro q; cases q)
set_option maxRecDepth 20000 in
theorem sL_reads0 {l : Launch} {w : zW} (hfl : l.stackTraces = false) {σ : zS} {t : Nat → Int} {n : Nat} {R : zBk → Prop} (hz : zOK σ) (hA : HBA σ) (hT : ∀ i : Nat, σ.1 2 i = t i) (hn : σ.1 1 1 = (n : Int) ∧ n ≤ 1400) (hR0 : ∀ D, R D → D 12 0 = 0) (hP : ∀ (X : Nat → zTr) (m : Nat), cTr t n X m → ¬ ((X m).2.1.2.1 = 0 ∧ ¬ xK t n (X m).2.1.1 = 0) → (cFin t n X m).2.1 = 0 ∧ R (X m).2.2) : SpH l w mL_reads 10 0 [zf 9 0] σ (zqv (some (zi 0)) (fun τ => zOK τ ∧ HBA τ ∧ τ.1 1 1 = 0 ∧ zSame (fun q => q = 1 ∨ (4 ≤ q ∧ q ≤ 23) ∨ (30 ≤ q ∧ q ≤ 49) ∨ q = 70) σ τ ∧ (∃ D : zBk, R D ∧ WF D ∧ zEq D (bk τ 30)) ∧ τ.1 70 1 = σ.1 70 1 ∧ τ.1 70 2 = 0)) := by
  obtain ⟨Q, hQ⟩ : ∃ Q : zQ, Q = (zqv (some (zi 0)) (fun τ => zOK τ ∧ HBA τ ∧ τ.1 1 1 = 0 ∧ zSame (fun q => q = 1 ∨ (4 ≤ q ∧ q ≤ 23) ∨ (30 ≤ q ∧ q ≤ 49) ∨ q = 70) σ τ ∧ (∃ D : zBk, R D ∧ WF D ∧ zEq D (bk τ 30)) ∧ τ.1 70 1 = σ.1 70 1 ∧ τ.1 70 2 = 0)) := ⟨_, rfl⟩
  rw [← hQ]
  refine zx_enterH hfl (by decide) 1 rfl ?_
  show zX l w mL_reads (zMQ w 10 0 Q) 0 [zf 9 0, zu] [] 0 σ
  refine zx_aloadN dL_reads_0 rfl rfl ?_
  refine zy_cvq [] (sX9_load0 hfl hz hA hT hn (fun X m h1 h2 => (hP X m h1 h2).1)) dL_reads_1 (by decide) rfl cw_RL_14 okX9_load rfl (Nat.le_of_ble_eq_true rfl) ⟨Nat.le_of_ble_eq_true rfl, Nat.le_of_ble_eq_true rfl, Nat.le_of_ble_eq_true rfl, Nat.le_of_ble_eq_true rfl⟩ (fun r τ hq => ?_) (fun E τ hq => ?_)
  · obtain ⟨X, m, h1, h2, h3, h4, h5, h6⟩ := hq
    rcases h6 with ⟨g1, g2, g3, g4, g5, g6⟩ | ⟨g1, -, -⟩
    · obtain rfl := Sum.inl.inj g2
      rw [show ∀ (x : zV) (s : List zV), (some x).toList ++ s = x :: s from fun _ _ => rfl, hR0 _ (hP X m h1 h2).2]
      refine zx_iret rfl rfl dL_reads_4 ?_
      rw [hQ]
      exact ⟨rfl, h3, h4, h5.1, g3, ⟨_, (hP X m h1 h2).2, (h1.2.1 m (Nat.le_refl m)).1, g4⟩, g5, g6⟩
    · exact absurd (hP X m h1 h2).1 g1
  · obtain ⟨X, m, h1, h2, h3, h4, h5, h6⟩ := hq
    rcases h6 with ⟨g1, g2, g3, g4, g5, g6⟩ | ⟨g1, -, -⟩
    · cases g2
    · exact absurd (hP X m h1 h2).1 g1
set_option maxRecDepth 20000 in
set_option maxHeartbeats 2000000 in
theorem kLoad {l : Launch} {w : zW} (hfl : l.stackTraces = false) {E1 G : List va_E} {L : List Int} {g : Nat → Int32} {σ : zS} {R : zBk → Prop} (hL : ∀ q, 0 ≤ L.getD q 0 ∧ L.getD q 0 < 128) (hl : L.length ≤ 600) (hg : ∀ j, j < L.length → g j = Int32.ofInt (L.getD j 0)) (hz : zOK σ) (hI : σ.1 1 1 = 0) (hA : HBA σ) (hR0 : ∀ D, R D → D 12 0 = 0) (hP : ∀ (t : Nat → Int), (∀ i, i < L.length → t i = L.getD i 0) → ∀ (X : Nat → zTr) (m : Nat), cTr t L.length X m → ¬ ((X m).2.1.2.1 = 0 ∧ ¬ xK t L.length (X m).2.1.1 = 0) → (cFin t L.length X m).2.1 = 0 ∧ R (X m).2.2) : kSp l w mL_load 11 ((L.length + 19) / 20) (5 * ((L.length + 19) / 20)) [zV0 (zB w + E1.length), zV0 (zB w + (E1.length + 261))] (kT w E1 L.length g σ G) (some (zi 0)) (fun E' => ∃ (τ : zS) (G' : List va_E), E' = kT w E1 L.length g τ G' ∧ zOK τ ∧ HBA τ ∧ τ.1 1 1 = 0 ∧ zSame (fun q => q = 1 ∨ q = 2 ∨ (4 ≤ q ∧ q ≤ 23) ∨ (30 ≤ q ∧ q ≤ 49) ∨ q = 70) σ τ ∧ (∃ D : zBk, R D ∧ WF D ∧ zEq D (bk τ 30)) ∧ τ.1 70 1 = σ.1 70 1 ∧ τ.1 70 2 = 0) := by
  refine kk_enter hfl (by decide) rfl false (fun q => absurd q (by decide)) 0 rfl ?_
  show zK l w mL_load _ false 0 [zV0 (zB w + E1.length), zV0 (zB w + (E1.length + 261))] [] 0 0 (kT w E1 L.length g σ G)
  refine kk_aloadN dL_load_0 rfl rfl ?_
  refine kk_aloadN dL_load_1 rfl rfl ?_
  refine kk_callS [zV0 (zB w + E1.length), zV0 (zB w + (E1.length + 261))] (kComes hfl (by first | assumption | omega) (by first | assumption | omega) (by first | assumption | omega) (by first | assumption | omega) (by first | assumption | omega)) dL_load_2 cw_RL_41 okL_comes rfl (Nat.le_of_ble_eq_true rfl) ⟨Nat.le_of_ble_eq_true rfl, Nat.le_of_ble_eq_true rfl, by show _ ≤ _; simp only [kM, kRm]; omega, by show _ ≤ _; simp only [kM, kRm]; omega⟩ (fun q_ => kT_ne q_ _) (fun x q => by cases q) (fun E2 q2 z2 => ?_)
  obtain ⟨τ, G1, e2, h1, h2, h3⟩ := q2
  subst e2
  refine kk_aloadN dL_load_5 rfl rfl ?_
  have hA2 : HBA τ := fun k hk => bb_pt (fun o ho i => h2.1.1 _ (by dsimp only; rcases hk with h | h | h | ⟨r, h4, h5⟩ <;> omega) i) (hA k hk)
  have hT2 : ∀ i, i < L.length → τ.1 2 i = L.getD i 0 := fun i hi => by rw [h3.2 i hi]; exact kb8_v (hL i).1 (hL i).2
  refine kk_callXH (v := kV w E1) rfl (E1 := E1) (E2 := _ :: _ :: G1) (σ := τ) [zf 9 0] [zV0 (zB w + E1.length)] (sL_reads0 (R := R) hfl h1 hA2 (fun _ => rfl) ⟨h3.1, by omega⟩ hR0 (hP (τ.1 2) hT2)) rfl (fun x hx => by rcases List.mem_singleton.mp hx with rfl; exact Or.inr (Or.inr ⟨by decide, by show 0 < 261; omega, rfl⟩)) ⟨rfl, Or.inr ⟨Nat.one_ne_zero, rfl⟩⟩ kV_z (Or.inl rfl) dL_load_6 cw_RL_47 okL_reads rfl (Nat.le_of_ble_eq_true rfl) ⟨Nat.le_of_ble_eq_true rfl, Nat.le_of_ble_eq_true rfl, by show _ ≤ _; simp only [kM, kRm]; omega, by show _ ≤ _; simp only [kM, kRm]; omega⟩ rfl (fun x q => by cases q; trivial) (fun υ hυ => ?_)
  show zK l w mL_load _ false 9 _ _ _ _ (kT w E1 L.length g υ G1)
  refine kk_iret rfl rfl dL_load_9 ?_ ?_ ?_ ?_
  · exact ⟨υ, G1, rfl, hυ.1, hυ.2.1, hυ.2.2.1, ⟨fun q hq i => (hυ.2.2.2.1.1 q (by dsimp only at hq ⊢; omega) i).trans (h2.1.1 q (by dsimp only at hq ⊢; omega) i), hυ.2.2.2.1.2.trans h2.1.2⟩, hυ.2.2.2.2.1, hυ.2.2.2.2.2.1.trans (h2.1.1 70 (by dsimp only; omega) 1), hυ.2.2.2.2.2.2⟩
  · rw [kT_len]; rw [kT_len] at z2; exact z2
  · omega
  · omega

