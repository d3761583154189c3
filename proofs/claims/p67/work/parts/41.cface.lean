abbrev mX9_load : zM := (yX9_load, cX9_load, 2, (some .int), [])
theorem okX9_load : zMok mX9_load 0 := ⟨by decide, by decide, by decide +kernel⟩
theorem dX9_load_0 : decode cX9_load 0 = .ok (.aload_n 0, 1) := by decide +kernel
theorem dX9_load_1 : decode cX9_load 1 = .ok (.getfield 19, 3) := by decide +kernel
theorem fl_RX9_19 : zFl RX9 19 9 1 := ⟨RX9, TX9, 9, rfl, by decide, zmem1 562 (by decide +kernel) rfl, rfl⟩
theorem dX9_load_4 : decode cX9_load 4 = .ok (.aload_n 0, 1) := by decide +kernel
theorem dX9_load_5 : decode cX9_load 5 = .ok (.getfield 12, 3) := by decide +kernel
theorem dX9_load_8 : decode cX9_load 8 = .ok (.invokevirtual 83, 3) := by decide +kernel
theorem cw_RX9_83 : zCwV RX9 83 mX4_fillFrom := zall [375, 376, 377, 33, 378] (by decide +kernel) (by decide +kernel)
theorem dX9_load_11 : decode cX9_load 11 = .ok (.istore_n 1, 1) := by decide +kernel
theorem dX9_load_12 : decode cX9_load 12 = .ok (.aload_n 0, 1) := by decide +kernel
theorem dX9_load_13 : decode cX9_load 13 = .ok (.getfield 12, 3) := by decide +kernel
theorem dX9_load_16 : decode cX9_load 16 = .ok (.iconst 0, 1) := by decide +kernel
theorem dX9_load_17 : decode cX9_load 17 = .ok (.invokevirtual 87, 3) := by decide +kernel
theorem dX9_load_20 : decode cX9_load 20 = .ok (.iload_n 1, 1) := by decide +kernel
theorem dX9_load_21 : decode cX9_load 21 = .ok (.ifCond .ne 13, 3) := by decide +kernel
theorem dX9_load_34 : decode cX9_load 34 = .ok (.aload_n 0, 1) := by decide +kernel
theorem dX9_load_35 : decode cX9_load 35 = .ok (.getfield 33, 3) := by decide +kernel
theorem dX9_load_38 : decode cX9_load 38 = .ok (.aload_n 0, 1) := by decide +kernel
theorem dX9_load_39 : decode cX9_load 39 = .ok (.getfield 19, 3) := by decide +kernel
theorem dX9_load_42 : decode cX9_load 42 = .ok (.getfield 91, 3) := by decide +kernel
theorem fl_RX9_91 : zFl RX9 91 4 0 := ⟨RX4, TX4, 1, rfl, by decide, zmem1 217 (by decide +kernel) rfl, rfl⟩
theorem dX9_load_45 : decode cX9_load 45 = .ok (.invokevirtual 94, 3) := by decide +kernel
theorem dX9_load_48 : decode cX9_load 48 = .ok (.aload_n 0, 1) := by decide +kernel
theorem dX9_load_49 : decode cX9_load 49 = .ok (.getfield 47, 3) := by decide +kernel
theorem dX9_load_52 : decode cX9_load 52 = .ok (.invokevirtual 122, 3) := by decide +kernel
theorem dX9_load_55 : decode cX9_load 55 = .ok (.aload_n 0, 1) := by decide +kernel
theorem dX9_load_56 : decode cX9_load 56 = .ok (.getfield 33, 3) := by decide +kernel
theorem dX9_load_59 : decode cX9_load 59 = .ok (.getfield 125, 3) := by decide +kernel
theorem dX9_load_62 : decode cX9_load 62 = .ok (.getfield 129, 3) := by decide +kernel
theorem dX9_load_65 : decode cX9_load 65 = .ok (.ireturn, 1) := by decide +kernel
theorem dX9_load_24 : decode cX9_load 24 = .ok (.new 115, 3) := by decide +kernel
theorem dX9_load_27 : decode cX9_load 27 = .ok (.dup, 1) := by decide +kernel
theorem dX9_load_28 : decode cX9_load 28 = .ok (.ldc 120, 2) := by decide +kernel
theorem dX9_load_30 : decode cX9_load 30 = .ok (.invokespecial 119, 3) := by decide +kernel
theorem dX9_load_33 : decode cX9_load 33 = .ok (.athrow, 1) := by decide +kernel
/-! the commands of a text, one after the other -/
def eTr (t : Nat → Int) (n : Nat) (D : zBk) (X : Nat → zBk) (m d : Nat) : Prop := (m ≤ 30 ∧ (∀ i, i < m → mor t n (cY t n D i)) ∧ ¬ mor t n (cY t n D m)) ∧ d ≤ m ∧ lEq D (X 0) ∧
  (∀ i, i < d → WF (X i) ∧ cmE (X i) (vct t n (cY t n D i).1) (cV t n (vct t n (cY t n D i).1) D (pN t n (cY t n D i))) = 0 ∧ lEq (cmB (X i) (vct t n (cY t n D i).1) (cV t n (vct t n (cY t n D i).1) D (pN t n (cY t n D i)))) (X (i + 1))) ∧
  WF (X d) ∧ (d < m → ¬ cmE (X d) (vct t n (cY t n D d).1) (cV t n (vct t n (cY t n D d).1) D (pN t n (cY t n D d))) = 0)
def xUb (X : Nat → zBk) (k : Nat) (D : zBk) : Nat → zBk := fun i => if i ≤ k then X i else D
theorem xUb_o {X : Nat → zBk} {k : Nat} {D : zBk} {i : Nat} (h : i ≤ k) : xUb X k D i = X i := if_pos h
theorem xUb_n {X : Nat → zBk} {k : Nat} {D : zBk} : xUb X k D (k + 1) = D := if_neg (by omega)
theorem cmV_e {D D' : zBk} {v : Int} {V : Nat → Int} (h0 : D' 1 0 = D 1 0) (h7 : D' 1 7 = D 1 7) (h : cmV D v V) : cmV D' v V := by
  unfold cmV hiK at *
  rw [h0, h7]; exact h
theorem cY_f {t : Nat → Int} {n : Nat} {D : zBk} {m : Nat} (hm : m ≤ 30) (h : ¬ mor t n (cY t n D m)) : cY t n D 1400 = cY t n D m := by
  have := cY_s h (1400 - m)
  rw [show m + (1400 - m) = 1400 by omega] at this; exact this
theorem cY_z {t : Nat → Int} {n : Nat} {D : zBk} {m i : Nat} (hm : m ≤ 30) (ha : ∀ i, i < m → mor t n (cY t n D i)) (h : ¬ mor t n (cY t n D m)) (h0 : (cY t n D 1400).2.1 = 0) (hi : i < m) : (cY t n D (i + 1)).2.1 = 0 := by
  by_cases e : i + 1 = m
  · rw [e, ← cY_f hm h]; exact h0
  · exact (ha (i + 1) (by omega)).1
theorem HPu_to {σ τ υ : zS} (e : ∀ q, (30 ≤ q ∧ q ≤ 49) ∨ (70 ≤ q ∧ q ≤ 251) → ∀ i, τ.1 q i = σ.1 q i) (h : HPu τ υ) : HPu σ υ := by
  have er : ∀ i, hRow τ i = hRow σ i := fun i => by unfold hRow; rw [e 70 (by omega)]
  have hl : ∀ i, 72 ≤ hRow σ i ∧ hRow σ i ≤ 232 := fun i => by unfold hRow; omega
  obtain ⟨a, b, c, d⟩ := h
  refine ⟨a, by rw [b, e 70 (by omega)], zEq_tr (zEq_pt (fun p hp j => (e _ (by omega) j))) c, fun i hi => ?_⟩
  have := d i hi
  rw [er] at this
  have h2 := hl i
  exact zEq_tr (zEq_pt (fun p hp j => (e _ (by omega) j))) this
theorem HBA_to {σ τ : zS} (e : ∀ q, 4 ≤ q → (q < 24 ∨ 29 < q) → ∀ i, τ.1 q i = σ.1 q i) (h : HBA σ) : HBA τ := fun k hk => bb_pt (fun o ho i => e _ (by rcases hk with h | h | h | ⟨r, h1, h2⟩ <;> omega) (by rcases hk with h | h | h | ⟨r, h1, h2⟩ <;> omega) i) (h k hk)
theorem cmE_r (D : zBk) (v : Int) (V : Nat → Int) : zr (cmE D v V) := by
  unfold cmE zr
  (repeat' split) <;> omega
theorem pkv_z (t : Nat → Int) (a b : Nat) : zr (pkv t a b) := by
  unfold pkv
  split
  · rename_i q
    have := pkF_b (f := fun k => t (a + k)) (n := b - a) q.1.2 (fun k hk => q.2 (a + k) (by omega) (by omega))
    have hp : 32 ^ (b - a) ≤ 32 ^ 6 := Nat.pow_le_pow_right (by omega) q.1.2
    have e : (32 : Nat) ^ 6 = 1073741824 := by decide
    unfold zr; omega
  · unfold zr; omega

set_option maxRecDepth 20000 in
set_option maxHeartbeats 2000000 in
theorem sX9_load {l : Launch} {w : zW} (hfl : l.stackTraces = false) {σ : zS} {t : Nat → Int} {n : Nat}  (hz : zOK σ) (hA : HBA σ) (hT : ∀ i : Nat, σ.1 2 i = t i) (hn : σ.1 1 1 = (n : Int) ∧ n ≤ 1400) : Sp l w mX9_load 9 1 [zf 9 0] σ (fun o τ => ∃ (X : Nat → zTr) (m : Nat), cTr t n X m ∧ ¬ ((X m).2.1.2.1 = 0 ∧ ¬ xK t n (X m).2.1.1 = 0) ∧ zOK τ ∧ HBA τ ∧ (τ.1 1 1 = 0 ∧ τ.1 1 5 = (cFin t n X m).2.1 ∧ τ.1 1 6 = (cFin t n X m).2.2) ∧
    (((cFin t n X m).2.1 = 0 ∧ o = .inl (some (zi ((X m).2.2 12 0))) ∧ zSame (fun q => q = 1 ∨ (4 ≤ q ∧ q ≤ 23) ∨ (30 ≤ q ∧ q ≤ 49) ∨ q = 70) σ τ ∧ zEq (X m).2.2 (bk τ 30) ∧ τ.1 70 1 = σ.1 70 1 ∧ τ.1 70 2 = 0) ∨
     (¬ (cFin t n X m).2.1 = 0 ∧ o = .inr "java/lang/IllegalArgumentException" ∧ zSame (fun q => q = 1 ∨ (4 ≤ q ∧ q ≤ 23)) σ τ))) := by
  obtain ⟨Q, hQ⟩ : ∃ Q : zQ, Q = (fun o τ => ∃ (X : Nat → zTr) (m : Nat), cTr t n X m ∧ ¬ ((X m).2.1.2.1 = 0 ∧ ¬ xK t n (X m).2.1.1 = 0) ∧ zOK τ ∧ HBA τ ∧ (τ.1 1 1 = 0 ∧ τ.1 1 5 = (cFin t n X m).2.1 ∧ τ.1 1 6 = (cFin t n X m).2.2) ∧
    (((cFin t n X m).2.1 = 0 ∧ o = .inl (some (zi ((X m).2.2 12 0))) ∧ zSame (fun q => q = 1 ∨ (4 ≤ q ∧ q ≤ 23) ∨ (30 ≤ q ∧ q ≤ 49) ∨ q = 70) σ τ ∧ zEq (X m).2.2 (bk τ 30) ∧ τ.1 70 1 = σ.1 70 1 ∧ τ.1 70 2 = 0) ∨
     (¬ (cFin t n X m).2.1 = 0 ∧ o = .inr "java/lang/IllegalArgumentException" ∧ zSame (fun q => q = 1 ∨ (4 ≤ q ∧ q ≤ 23)) σ τ))) := ⟨_, rfl⟩
  rw [← hQ]
  refine zx_enter hfl (by decide) rfl 1 rfl ?_
  show zX l w mX9_load (zMQ w 9 1 Q) 0 [zf 9 0, zu] [] 0 σ
  refine zx_aloadN dX9_load_0 rfl rfl ?_
  refine zy_getR (q' := 3) fl_RX9_19 rfl dX9_load_1 rfl ?_
  refine zx_aloadN dX9_load_4 rfl rfl ?_
  refine zy_getR (q' := 1) fl_RX9_12 rfl dX9_load_5 rfl ?_
  refine zy_cvq [zf 6 1] (sX4_fillFrom  hfl hz (hA 4 (Or.inl rfl)) (by first | assumption | omega) (by first | assumption | omega)) dX9_load_8 (by decide) rfl cw_RX9_83 okX4_fillFrom rfl (Nat.le_of_ble_eq_true rfl) ⟨Nat.le_of_ble_eq_true rfl, Nat.le_of_ble_eq_true rfl, Nat.le_of_ble_eq_true rfl, Nat.le_of_ble_eq_true rfl⟩ (fun r τ hq => ?_) (fun E τ hq => ?_)
  · obtain ⟨X, m, eX, hz8, hs8, hc8, ht8, he8, hk8, hb8⟩ := hq
    have eX2 := Sum.inl.inj eX
    subst eX2
    rw [show ∀ (x : zV) (s : List zV), (some x).toList ++ s = x :: s from fun _ _ => rfl]
    have i15 : τ.1 1 1 = (n : Int) := hc8.2.1.1
    have n15 := hn.2
    have p5 : τ.1 1 5 = (cFin t n X m).2.1 := hc8.2.2.2.1.1
    have p6 : τ.1 1 6 = (cFin t n X m).2.2 := hc8.2.2.2.1.2
    refine zy_istoreN [zf 9 0, zi (zb ((cFin t n X m).2.1 = 0))] dX9_load_11 rfl (Nat.le_of_ble_eq_true rfl) (Nat.le_of_ble_eq_true rfl) rfl rfl ?_
    refine zx_aloadN dX9_load_12 rfl rfl ?_
    refine zy_getR (q' := 1) fl_RX9_12 rfl dX9_load_13 rfl ?_
    refine zx_iconst dX9_load_16 ?_
    refine zy_cvv [zi 0] (sX6_cutTo  hfl hz8 (by omega) (by omega)) dX9_load_17 (by decide) rfl cw_RX9_87 okX6_cutTo rfl (Nat.le_of_ble_eq_true rfl) ⟨Nat.le_of_ble_eq_true rfl, Nat.le_of_ble_eq_true rfl, Nat.le_of_ble_eq_true rfl, Nat.le_of_ble_eq_true rfl⟩ ?_
    refine zx_iloadN dX9_load_20 rfl rfl ?_
    refine zx_if_ne (tgt := 34) (by first | exact hz8 _ _ | assumption | exact zr_b _ | exact zcmp_r _ _ | (unfold zr at *; omega)) dX9_load_21 (by decide) (fun h21 => ?_) (fun h21 => ?_)
    · have h21 := zb_n.mp h21
      refine zx_aloadN dX9_load_34 rfl rfl ?_
      refine zy_getR (q' := 30) fl_RX9_33 rfl dX9_load_35 rfl ?_
      refine zx_aloadN dX9_load_38 rfl rfl ?_
      refine zy_getR (q' := 3) fl_RX9_19 rfl dX9_load_39 rfl ?_
      refine zy_getR (q' := 4) fl_RX9_91 rfl dX9_load_42 rfl ?_
      refine zy_cvvR [zf 1 4] (sX1_copyFrom  hfl (zOK_put hz8 (by unfold zr; omega)) (by omega) (bb_pt (k := 4) (fun o ho i => zput_k _ _ _ _ _ (by omega)) hb8)) dX9_load_45 (by decide) rfl cw_RX9_94 okX1_copyFrom rfl (Nat.le_of_ble_eq_true rfl) ⟨Nat.le_of_ble_eq_true rfl, Nat.le_of_ble_eq_true rfl, Nat.le_of_ble_eq_true rfl, Nat.le_of_ble_eq_true rfl⟩ (fun τ45 hr45 => ?_)
      have hz45 : zOK τ45 := hr45.1
      refine zx_aloadN dX9_load_48 rfl rfl ?_
      refine zy_getR (q' := 70) fl_RX9_47 rfl dX9_load_49 rfl ?_
      refine zy_cvv [] (sX5_forget  hfl hz45 ) dX9_load_52 (by decide) rfl cw_RX9_122 okX5_forget rfl (Nat.le_of_ble_eq_true rfl) ⟨Nat.le_of_ble_eq_true rfl, Nat.le_of_ble_eq_true rfl, Nat.le_of_ble_eq_true rfl, Nat.le_of_ble_eq_true rfl⟩ ?_
      refine zx_aloadN dX9_load_55 rfl rfl ?_
      refine zy_getR (q' := 30) fl_RX9_33 rfl dX9_load_56 rfl ?_
      refine zy_getR (q' := 42) fl_RX9_125 rfl dX9_load_59 rfl ?_
      refine zy_getI fl_RX9_129 rfl dX9_load_62 rfl ?_
      refine zx_iret rfl rfl dX9_load_65 ?_
      rw [hQ]
      have f45 : ∀ q, ¬ (30 ≤ q ∧ q ≤ 49) → q ≠ 70 → q ≠ 1 → ∀ i, (zput τ45 70 2 0).1 q i = τ.1 q i := fun q h1 h2 h3 i => (zput_k _ _ _ _ _ (by omega)).trans ((hr45.2.1.1 q (by dsimp only; omega) i).trans (zput_k _ _ _ _ _ (by omega)))
      have z45 : zEq (X m).2.2 (bk τ45 30) := by rw [hk8]; exact zEq_tr (zEq_pt (fun p hp j => zput_k _ _ _ _ _ (by omega))) (zEq_cp (o := 4) (k := 30) hr45.2.2.1 hr45.2.2.2)
      have zf : zEq (bk τ45 30) (bk (zput τ45 70 2 0) 30) := zEq_pt (fun p hp j => zput_k _ _ _ _ _ (by omega))
      have k1 : ∀ i, (zput τ45 70 2 0).1 1 i = (zput τ 1 1 0).1 1 i := fun i => (zput_k _ _ _ _ _ (by decide)).trans (hr45.2.1.1 1 (by dsimp only; omega) i)
      refine ⟨X, m, ht8, he8, (zOK_put hz45 (by unfold zr; omega)), ?_, ⟨(k1 1).trans (zput_s _ _ _ _), (k1 5).trans ((zput_i _ _ _ _ _ (by decide)).trans p5), (k1 6).trans ((zput_i _ _ _ _ _ (by decide)).trans p6)⟩, Or.inl ⟨by assumption, congrArg (fun z : Int => (Sum.inl (some (zi z)) : Option zV ⊕ String)) ?_, ⟨fun q hq i => ?_, hr45.2.1.2.trans hs8.2⟩, zEq_tr z45 zf, (zput_i _ _ _ _ _ (by decide)).trans ((hr45.2.1.1 70 (by dsimp only; omega) 1).trans ((zput_k _ _ _ _ _ (by decide)).trans (hs8.1 70 (by dsimp only; omega) 1))), zput_s _ _ _ _⟩⟩
      · intro k hk
        by_cases e30 : k = 30
        · subst e30
          exact bb_pt (fun o ho i => zput_k _ _ _ _ _ (by omega)) (bb_cp (o := 4) hr45.2.2.2 (bb_pt (fun o ho i => zput_k _ _ _ _ _ (by omega)) hb8))
        · by_cases e4 : k = 4
          · subst e4
            exact bb_pt (fun o ho i => f45 _ (by omega) (by omega) (by omega) i) hb8
          · refine bb_pt (fun o ho i => (f45 _ ?_ ?_ ?_ i).trans (hs8.1 _ ?_ i)) (hA k hk) <;> (try dsimp only) <;> rcases hk with h | h | h | ⟨r, h1, h2⟩ <;> omega
      · first | exact (z45.1.2.2.2) | exact ((zput_k _ _ _ _ _ (by decide)).trans z45.1.2.2.2)
      · have hq2 := hq
        dsimp only at hq2
        exact (f45 q (by omega) (by omega) (by omega) i).trans (hs8.1 q (by dsimp only; omega) i)
    · have h21 := zb_0.mp h21
      refine zx_throw (names := ["java/lang/RuntimeException", "java/lang/Exception"]) rfl (by decide +kernel) (by decide +kernel) th_RX9_119_115_k ei_IllegalArgumentException (List.mem_of_getElem? (i := 21) rfl) th_RX9_119 th_RX9_119_o th_RX9_119_g dX9_load_24 dX9_load_27 dX9_load_28 dX9_load_30 dX9_load_33 (Nat.le_of_ble_eq_true rfl) (Nat.le_of_ble_eq_true rfl) (Nat.le_of_ble_eq_true rfl) (Nat.le_of_ble_eq_true rfl) ?_
      rw [hQ]
      refine ⟨X, m, ht8, he8, (zOK_put hz8 (by unfold zr; omega)), fun k hk => ?_, ⟨zput_s _ _ _ _, (zput_i _ _ _ _ _ (by decide)).trans p5, (zput_i _ _ _ _ _ (by decide)).trans p6⟩, Or.inr ⟨by assumption, rfl, ⟨fun q hq i => (zput_k _ _ _ _ _ (by dsimp only at hq; omega)).trans (hs8.1 q hq i), hs8.2⟩⟩⟩
      by_cases e4 : k = 4
      · subst e4
        exact bb_pt (fun o ho i => zput_k _ _ _ _ _ (by omega)) hb8
      · refine bb_pt (fun o ho i => (zput_k _ _ _ _ _ ?_).trans (hs8.1 _ ?_ i)) (hA k hk) <;> (try dsimp only) <;> rcases hk with h | h | h | ⟨r, h1, h2⟩ <;> omega
  · obtain ⟨X, m, eX, -⟩ := hq
    exact absurd eX (by intro q; cases q)

