abbrev mX9_executeCommands : zM := (yX9_executeCommands, cX9_executeCommands, 3, (some .int), [])
theorem okX9_executeCommands : zMok mX9_executeCommands 0 := ⟨by decide, by decide, by decide +kernel⟩
theorem dX9_executeCommands_0 : decode cX9_executeCommands 0 = .ok (.aload_n 0, 1) := by decide +kernel
theorem dX9_executeCommands_1 : decode cX9_executeCommands 1 = .ok (.getfield 26, 3) := by decide +kernel
theorem dX9_executeCommands_4 : decode cX9_executeCommands 4 = .ok (.aload_n 0, 1) := by decide +kernel
theorem dX9_executeCommands_5 : decode cX9_executeCommands 5 = .ok (.getfield 12, 3) := by decide +kernel
theorem dX9_executeCommands_8 : decode cX9_executeCommands 8 = .ok (.aload_n 0, 1) := by decide +kernel
theorem dX9_executeCommands_9 : decode cX9_executeCommands 9 = .ok (.getfield 33, 3) := by decide +kernel
theorem dX9_executeCommands_12 : decode cX9_executeCommands 12 = .ok (.getfield 134, 3) := by decide +kernel
theorem dX9_executeCommands_15 : decode cX9_executeCommands 15 = .ok (.invokevirtual 138, 3) := by decide +kernel
theorem cw_RX9_138 : zCwV RX9 138 mX3_fillFrom := zall [1133, 1134, 1135, 119, 1136] (by decide +kernel) (by decide +kernel)
theorem dX9_executeCommands_18 : decode cX9_executeCommands 18 = .ok (.istore_n 1, 1) := by decide +kernel
theorem dX9_executeCommands_19 : decode cX9_executeCommands 19 = .ok (.aload_n 0, 1) := by decide +kernel
theorem dX9_executeCommands_20 : decode cX9_executeCommands 20 = .ok (.getfield 12, 3) := by decide +kernel
theorem dX9_executeCommands_23 : decode cX9_executeCommands 23 = .ok (.iconst 0, 1) := by decide +kernel
theorem dX9_executeCommands_24 : decode cX9_executeCommands 24 = .ok (.invokevirtual 87, 3) := by decide +kernel
theorem dX9_executeCommands_27 : decode cX9_executeCommands 27 = .ok (.iload_n 1, 1) := by decide +kernel
theorem dX9_executeCommands_28 : decode cX9_executeCommands 28 = .ok (.ifCond .ne 13, 3) := by decide +kernel
theorem dX9_executeCommands_31 : decode cX9_executeCommands 31 = .ok (.new 115, 3) := by decide +kernel
theorem dX9_executeCommands_34 : decode cX9_executeCommands 34 = .ok (.dup, 1) := by decide +kernel
theorem dX9_executeCommands_35 : decode cX9_executeCommands 35 = .ok (.ldc 141, 2) := by decide +kernel
theorem dX9_executeCommands_37 : decode cX9_executeCommands 37 = .ok (.invokespecial 119, 3) := by decide +kernel
theorem dX9_executeCommands_40 : decode cX9_executeCommands 40 = .ok (.athrow, 1) := by decide +kernel
theorem dX9_executeCommands_41 : decode cX9_executeCommands 41 = .ok (.aload_n 0, 1) := by decide +kernel
theorem dX9_executeCommands_42 : decode cX9_executeCommands 42 = .ok (.getfield 47, 3) := by decide +kernel
theorem dX9_executeCommands_45 : decode cX9_executeCommands 45 = .ok (.aload_n 0, 1) := by decide +kernel
theorem dX9_executeCommands_46 : decode cX9_executeCommands 46 = .ok (.getfield 33, 3) := by decide +kernel
theorem dX9_executeCommands_49 : decode cX9_executeCommands 49 = .ok (.invokevirtual 143, 3) := by decide +kernel
theorem dX9_executeCommands_52 : decode cX9_executeCommands 52 = .ok (.iconst 0, 1) := by decide +kernel
theorem dX9_executeCommands_53 : decode cX9_executeCommands 53 = .ok (.istore_n 2, 1) := by decide +kernel
theorem dX9_executeCommands_54 : decode cX9_executeCommands 54 = .ok (.iload_n 2, 1) := by decide +kernel
theorem dX9_executeCommands_55 : decode cX9_executeCommands 55 = .ok (.aload_n 0, 1) := by decide +kernel
theorem dX9_executeCommands_56 : decode cX9_executeCommands 56 = .ok (.getfield 26, 3) := by decide +kernel
theorem dX9_executeCommands_59 : decode cX9_executeCommands 59 = .ok (.getfield 146, 3) := by decide +kernel
theorem dX9_executeCommands_62 : decode cX9_executeCommands 62 = .ok (.if_icmp .ge 17, 3) := by decide +kernel
theorem dX9_executeCommands_79 : decode cX9_executeCommands 79 = .ok (.aload_n 0, 1) := by decide +kernel
theorem dX9_executeCommands_80 : decode cX9_executeCommands 80 = .ok (.getfield 47, 3) := by decide +kernel
theorem dX9_executeCommands_83 : decode cX9_executeCommands 83 = .ok (.invokevirtual 151, 3) := by decide +kernel
theorem dX9_executeCommands_86 : decode cX9_executeCommands 86 = .ok (.iload_n 2, 1) := by decide +kernel
theorem dX9_executeCommands_87 : decode cX9_executeCommands 87 = .ok (.ireturn, 1) := by decide +kernel
theorem dX9_executeCommands_65 : decode cX9_executeCommands 65 = .ok (.aload_n 0, 1) := by decide +kernel
theorem dX9_executeCommands_66 : decode cX9_executeCommands 66 = .ok (.iload_n 2, 1) := by decide +kernel
theorem dX9_executeCommands_67 : decode cX9_executeCommands 67 = .ok (.invokevirtual 147, 3) := by decide +kernel
theorem cw_RX9_147 : zCwV RX9 147 mX9_perform := zall [1167, 1169, 17, 113, 1170] (by decide +kernel) (by decide +kernel)
theorem dX9_executeCommands_70 : decode cX9_executeCommands 70 = .ok (.ifCond .ne 9, 3) := by decide +kernel
theorem dX9_executeCommands_73 : decode cX9_executeCommands 73 = .ok (.iinc 2 1, 3) := by decide +kernel
theorem dX9_executeCommands_76 : decode cX9_executeCommands 76 = .ok (.goto (-22), 3) := by decide +kernel
abbrev mX9_findPrinter : zM := (yX9_findPrinter, cX9_findPrinter, 1, (some .int), [])
theorem okX9_findPrinter : zMok mX9_findPrinter 0 := ⟨by decide, by decide, by decide +kernel⟩
theorem dX9_findPrinter_0 : decode cX9_findPrinter 0 = .ok (.aload_n 0, 1) := by decide +kernel
theorem dX9_findPrinter_1 : decode cX9_findPrinter 1 = .ok (.getfield 33, 3) := by decide +kernel
theorem dX9_findPrinter_4 : decode cX9_findPrinter 4 = .ok (.getfield 134, 3) := by decide +kernel
theorem dX9_findPrinter_7 : decode cX9_findPrinter 7 = .ok (.aload_n 0, 1) := by decide +kernel
theorem dX9_findPrinter_8 : decode cX9_findPrinter 8 = .ok (.getfield 12, 3) := by decide +kernel
theorem dX9_findPrinter_11 : decode cX9_findPrinter 11 = .ok (.iconst 0, 1) := by decide +kernel
theorem dX9_findPrinter_12 : decode cX9_findPrinter 12 = .ok (.aload_n 0, 1) := by decide +kernel
theorem dX9_findPrinter_13 : decode cX9_findPrinter 13 = .ok (.getfield 12, 3) := by decide +kernel
theorem dX9_findPrinter_16 : decode cX9_findPrinter 16 = .ok (.getfield 111, 3) := by decide +kernel
theorem dX9_findPrinter_19 : decode cX9_findPrinter 19 = .ok (.invokevirtual 165, 3) := by decide +kernel
theorem cw_RX9_165 : zCwV RX9 165 mX6_packedName := zall [706, 549, 550, 114, 551] (by decide +kernel) (by decide +kernel)
theorem dX9_findPrinter_22 : decode cX9_findPrinter 22 = .ok (.invokevirtual 169, 3) := by decide +kernel
theorem cw_RX9_169 : zCwV RX9 169 mX0_printerNamed := zall [707, 555, 556, 117, 557] (by decide +kernel) (by decide +kernel)
theorem dX9_findPrinter_25 : decode cX9_findPrinter 25 = .ok (.ireturn, 1) := by decide +kernel
abbrev mX9_load : zM := (yX9_load, cX9_load, 2, (some .int), [])
theorem okX9_load : zMok mX9_load 0 := ⟨by decide, by decide, by decide +kernel⟩
theorem dX9_load_0 : decode cX9_load 0 = .ok (.aload_n 0, 1) := by decide +kernel
theorem dX9_load_1 : decode cX9_load 1 = .ok (.getfield 19, 3) := by decide +kernel
theorem fl_RX9_19 : zFl RX9 19 9 1 := ⟨RX9, TX9, 9, rfl, by decide, zmem1 663 (by decide +kernel) rfl, rfl⟩
theorem dX9_load_4 : decode cX9_load 4 = .ok (.aload_n 0, 1) := by decide +kernel
theorem dX9_load_5 : decode cX9_load 5 = .ok (.getfield 12, 3) := by decide +kernel
theorem dX9_load_8 : decode cX9_load 8 = .ok (.invokevirtual 83, 3) := by decide +kernel
theorem cw_RX9_83 : zCwV RX9 83 mX4_fillFrom := zall [476, 477, 478, 115, 479] (by decide +kernel) (by decide +kernel)
theorem dX9_load_11 : decode cX9_load 11 = .ok (.istore_n 1, 1) := by decide +kernel
theorem dX9_load_12 : decode cX9_load 12 = .ok (.aload_n 0, 1) := by decide +kernel
theorem dX9_load_13 : decode cX9_load 13 = .ok (.getfield 12, 3) := by decide +kernel
theorem dX9_load_16 : decode cX9_load 16 = .ok (.iconst 0, 1) := by decide +kernel
theorem dX9_load_17 : decode cX9_load 17 = .ok (.invokevirtual 87, 3) := by decide +kernel
theorem dX9_load_20 : decode cX9_load 20 = .ok (.iload_n 1, 1) := by decide +kernel
theorem dX9_load_21 : decode cX9_load 21 = .ok (.ifCond .ne 13, 3) := by decide +kernel
theorem dX9_load_34 : decode cX9_load 34 = .ok (.aload_n 0, 1) := by decide +kernel
theorem dX9_load_35 : decode cX9_load 35 = .ok (.getfield 33, 3) := by decide +kernel
theorem dX9_load_38 : decode cX9_load 38 = .ok (.aload_n 0, 1) := by decide +kernel
theorem dX9_load_39 : decode cX9_load 39 = .ok (.getfield 19, 3) := by decide +kernel
theorem dX9_load_42 : decode cX9_load 42 = .ok (.getfield 91, 3) := by decide +kernel
theorem fl_RX9_91 : zFl RX9 91 4 0 := ⟨RX4, TX4, 1, rfl, by decide, zmem1 311 (by decide +kernel) rfl, rfl⟩
theorem dX9_load_45 : decode cX9_load 45 = .ok (.invokevirtual 94, 3) := by decide +kernel
theorem dX9_load_48 : decode cX9_load 48 = .ok (.aload_n 0, 1) := by decide +kernel
theorem dX9_load_49 : decode cX9_load 49 = .ok (.getfield 47, 3) := by decide +kernel
theorem dX9_load_52 : decode cX9_load 52 = .ok (.invokevirtual 122, 3) := by decide +kernel
theorem dX9_load_55 : decode cX9_load 55 = .ok (.aload_n 0, 1) := by decide +kernel
theorem dX9_load_56 : decode cX9_load 56 = .ok (.getfield 33, 3) := by decide +kernel
theorem dX9_load_59 : decode cX9_load 59 = .ok (.getfield 125, 3) := by decide +kernel
theorem dX9_load_62 : decode cX9_load 62 = .ok (.getfield 129, 3) := by decide +kernel
theorem dX9_load_65 : decode cX9_load 65 = .ok (.ireturn, 1) := by decide +kernel
theorem dX9_load_24 : decode cX9_load 24 = .ok (.new 115, 3) := by decide +kernel
theorem dX9_load_27 : decode cX9_load 27 = .ok (.dup, 1) := by decide +kernel
theorem dX9_load_28 : decode cX9_load 28 = .ok (.ldc 120, 2) := by decide +kernel
theorem dX9_load_30 : decode cX9_load 30 = .ok (.invokespecial 119, 3) := by decide +kernel
theorem dX9_load_33 : decode cX9_load 33 = .ok (.athrow, 1) := by decide +kernel
/-! the commands of a text, one after the other -/
def eTr (t : Nat → Int) (n : Nat) (D : zBk) (X : Nat → zBk) (m d : Nat) : Prop := (m ≤ 30 ∧ (∀ i, i < m → mor t n (cY t n D i)) ∧ ¬ mor t n (cY t n D m)) ∧ d ≤ m ∧ lEq D (X 0) ∧
  (∀ i, i < d → WF (X i) ∧ cmE (X i) (vct t n (cY t n D i).1) (cV t n (vct t n (cY t n D i).1) D (pN t n (cY t n D i))) = 0 ∧ lEq (cmB (X i) (vct t n (cY t n D i).1) (cV t n (vct t n (cY t n D i).1) D (pN t n (cY t n D i)))) (X (i + 1))) ∧
  WF (X d) ∧ (d < m → ¬ cmE (X d) (vct t n (cY t n D d).1) (cV t n (vct t n (cY t n D d).1) D (pN t n (cY t n D d))) = 0)
def xUb (X : Nat → zBk) (k : Nat) (D : zBk) : Nat → zBk := fun i => if i ≤ k then X i else D
theorem xUb_o {X : Nat → zBk} {k : Nat} {D : zBk} {i : Nat} (h : i ≤ k) : xUb X k D i = X i := if_pos h
theorem xUb_n {X : Nat → zBk} {k : Nat} {D : zBk} : xUb X k D (k + 1) = D := if_neg (by omega)
theorem cmV_e {D D' : zBk} {v : Int} {V : Nat → Int} (h0 : D' 1 0 = D 1 0) (h7 : D' 1 7 = D 1 7) (h : cmV D v V) : cmV D' v V := by
  unfold cmV hiK at *
  rw [h0, h7]; exact h
theorem cY_f {t : Nat → Int} {n : Nat} {D : zBk} {m : Nat} (hm : m ≤ 30) (h : ¬ mor t n (cY t n D m)) : cY t n D 1400 = cY t n D m := by
  have := cY_s h (1400 - m)
  rw [show m + (1400 - m) = 1400 by omega] at this; exact this
theorem cY_z {t : Nat → Int} {n : Nat} {D : zBk} {m i : Nat} (hm : m ≤ 30) (ha : ∀ i, i < m → mor t n (cY t n D i)) (h : ¬ mor t n (cY t n D m)) (h0 : (cY t n D 1400).2.1 = 0) (hi : i < m) : (cY t n D (i + 1)).2.1 = 0 := by
  by_cases e : i + 1 = m
  · rw [e, ← cY_f hm h]; exact h0
  · exact (ha (i + 1) (by omega)).1
theorem HPu_to {σ τ υ : zS} (e : ∀ q, (30 ≤ q ∧ q ≤ 49) ∨ (70 ≤ q ∧ q ≤ 251) → ∀ i, τ.1 q i = σ.1 q i) (h : HPu τ υ) : HPu σ υ := by
  have er : ∀ i, hRow τ i = hRow σ i := fun i => by unfold hRow; rw [e 70 (by omega)]
  have hl : ∀ i, 72 ≤ hRow σ i ∧ hRow σ i ≤ 232 := fun i => by unfold hRow; omega
  obtain ⟨a, b, c, d⟩ := h
  refine ⟨a, by rw [b, e 70 (by omega)], zEq_tr (zEq_pt (fun p hp j => (e _ (by omega) j))) c, fun i hi => ?_⟩
  have := d i hi
  rw [er] at this
  have h2 := hl i
  exact zEq_tr (zEq_pt (fun p hp j => (e _ (by omega) j))) this
theorem HBA_to {σ τ : zS} (e : ∀ q, 4 ≤ q → (q < 24 ∨ 29 < q) → ∀ i, τ.1 q i = σ.1 q i) (h : HBA σ) : HBA τ := fun k hk => bb_pt (fun o ho i => e _ (by rcases hk with h | h | h | ⟨r, h1, h2⟩ <;> omega) (by rcases hk with h | h | h | ⟨r, h1, h2⟩ <;> omega) i) (h k hk)
theorem cmE_r (D : zBk) (v : Int) (V : Nat → Int) : zr (cmE D v V) := by
  unfold cmE zr
  (repeat' split) <;> omega
theorem pkv_z (t : Nat → Int) (a b : Nat) : zr (pkv t a b) := by
  unfold pkv
  split
  · rename_i q
    have := pkF_b (f := fun k => t (a + k)) (n := b - a) q.1.2 (fun k hk => q.2 (a + k) (by omega) (by omega))
    have hp : 32 ^ (b - a) ≤ 32 ^ 6 := Nat.pow_le_pow_right (by omega) q.1.2
    have e : (32 : Nat) ^ 6 = 1073741824 := by decide
    unfold zr; omega
  · unfold zr; omega

set_option maxRecDepth 20000 in
set_option maxHeartbeats 2000000 in
theorem sX9_executeCommands_f {l : Launch} {w : zW} (hfl : l.stackTraces = false) {σ : zS} {t : Nat → Int} {n : Nat}  (hz : zOK σ) (hW : WF (bk σ 30)) (hT : ∀ i : Nat, σ.1 2 i = t i) (hn : σ.1 1 1 = (n : Int) ∧ n ≤ 1400) (hw : ¬ (cY t n (bk σ 30) 1400).2.1 = 0) : Sp l w mX9_executeCommands 9 1 [zf 9 0] σ (zthq "java/lang/IllegalArgumentException" (fun τ => zOK τ ∧ zSame (fun q => q = 1 ∨ (24 ≤ q ∧ q ≤ 29)) σ τ ∧ (τ.1 1 1 = 0 ∧ τ.1 1 5 = (cY t n (bk σ 30) 1400).2.1 ∧ τ.1 1 6 = (cY t n (bk σ 30) 1400).2.2))) := by
  obtain ⟨Q, hQ⟩ : ∃ Q : zQ, Q = (zthq "java/lang/IllegalArgumentException" (fun τ => zOK τ ∧ zSame (fun q => q = 1 ∨ (24 ≤ q ∧ q ≤ 29)) σ τ ∧ (τ.1 1 1 = 0 ∧ τ.1 1 5 = (cY t n (bk σ 30) 1400).2.1 ∧ τ.1 1 6 = (cY t n (bk σ 30) 1400).2.2))) := ⟨_, rfl⟩
  rw [← hQ]
  refine zx_enter hfl (by decide) rfl 2 rfl ?_
  show zX l w mX9_executeCommands (zMQ w 9 1 Q) 0 [zf 9 0, zu, zu] [] 0 σ
  refine zx_aloadN dX9_executeCommands_0 rfl rfl ?_
  refine zy_getR (q' := 24) fl_RX9_26 rfl dX9_executeCommands_1 rfl ?_
  refine zx_aloadN dX9_executeCommands_4 rfl rfl ?_
  refine zy_getR (q' := 1) fl_RX9_12 rfl dX9_executeCommands_5 rfl ?_
  refine zx_aloadN dX9_executeCommands_8 rfl rfl ?_
  refine zy_getR (q' := 30) fl_RX9_33 rfl dX9_executeCommands_9 rfl ?_
  refine zy_getR (q' := 31) fl_RX9_134 rfl dX9_executeCommands_12 rfl ?_
  refine zy_cvR [zf 6 1, zf 0 31] (sX3_fillFrom  hfl hz (by first | assumption | omega) (by first | assumption | omega) hW.1.1 hW.1.2.1) dX9_executeCommands_15 (by decide) rfl cw_RX9_138 okX3_fillFrom rfl (Nat.le_of_ble_eq_true rfl) ⟨Nat.le_of_ble_eq_true rfl, Nat.le_of_ble_eq_true rfl, Nat.le_of_ble_eq_true rfl, Nat.le_of_ble_eq_true rfl⟩ (fun τ15 hr15 => ?_)
  have hz15 : zOK τ15 := hr15.1
  have i15 : τ15.1 1 1 = (n : Int) := hr15.2.2.1.2.1.1
  have n15 := hn.2
  have p5 : τ15.1 1 5 = (cY t n (bk σ 30) 1400).2.1 := hr15.2.2.1.2.2.2.1.1
  have p6 : τ15.1 1 6 = (cY t n (bk σ 30) 1400).2.2 := hr15.2.2.1.2.2.2.1.2
  refine zy_istoreN [zf 9 0, zi (zb ((cY t n (bk σ 30) 1400).2.1 = 0)), zu] dX9_executeCommands_18 rfl (Nat.le_of_ble_eq_true rfl) (Nat.le_of_ble_eq_true rfl) rfl rfl ?_
  refine zx_aloadN dX9_executeCommands_19 rfl rfl ?_
  refine zy_getR (q' := 1) fl_RX9_12 rfl dX9_executeCommands_20 rfl ?_
  refine zx_iconst dX9_executeCommands_23 ?_
  refine zy_cvv [zi 0] (sX6_cutTo  hfl hz15 (by omega) (by omega)) dX9_executeCommands_24 (by decide) rfl cw_RX9_87 okX6_cutTo rfl (Nat.le_of_ble_eq_true rfl) ⟨Nat.le_of_ble_eq_true rfl, Nat.le_of_ble_eq_true rfl, Nat.le_of_ble_eq_true rfl, Nat.le_of_ble_eq_true rfl⟩ ?_
  refine zx_iloadN dX9_executeCommands_27 rfl rfl ?_
  refine zx_if_ne (tgt := 41) (by first | exact hz15 _ _ | assumption | exact zr_b _ | exact zcmp_r _ _ | (unfold zr at *; omega)) dX9_executeCommands_28 (by decide) (fun h28 => ?_) (fun h28 => ?_)
  · have h28 := zb_n.mp h28
    exact absurd (by assumption) hw
  · have h28 := zb_0.mp h28
    refine zx_throw (names := ["java/lang/RuntimeException", "java/lang/Exception"]) rfl (by decide +kernel) (by decide +kernel) th_RX9_119_115_k ei_IllegalArgumentException (List.mem_of_getElem? (i := 27) rfl) th_RX9_119 th_RX9_119_o th_RX9_119_g dX9_executeCommands_31 dX9_executeCommands_34 dX9_executeCommands_35 dX9_executeCommands_37 dX9_executeCommands_40 (Nat.le_of_ble_eq_true rfl) (Nat.le_of_ble_eq_true rfl) (Nat.le_of_ble_eq_true rfl) (Nat.le_of_ble_eq_true rfl) ?_
    rw [hQ]
    refine ⟨rfl, ?_⟩
    exact ⟨(zOK_put hz15 (by unfold zr; omega)), ⟨fun q hq i => (zput_k _ _ _ _ _ (by dsimp only at hq; omega)).trans (hr15.2.1.1 q hq i), hr15.2.1.2⟩, zput_s _ _ _ _, (zput_i _ _ _ _ _ (by decide)).trans p5, (zput_i _ _ _ _ _ (by decide)).trans p6⟩
set_option maxRecDepth 20000 in
set_option maxHeartbeats 2000000 in
theorem sX9_executeCommands {l : Launch} {w : zW} (hfl : l.stackTraces = false) {σ : zS} {t : Nat → Int} {n : Nat}  (hz : zOK σ) (hW : WF (bk σ 30)) (hN : HN σ) (hA : HBA σ) (hT : ∀ i : Nat, σ.1 2 i = t i) (hn : σ.1 1 1 = (n : Int) ∧ n ≤ 1400) (hw : (cY t n (bk σ 30) 1400).2.1 = 0) : Sp l w mX9_executeCommands 9 0 [zf 9 0] σ (fun o τ => ∃ (X : Nat → zBk) (m d : Nat), o = .inl (some (zi ((d : Nat) : Int))) ∧ zOK τ ∧ zSame (fun q => q = 1 ∨ (24 ≤ q ∧ q ≤ 49) ∨ (70 ≤ q ∧ q ≤ 251)) σ τ ∧ (τ.1 1 1 = 0 ∧ τ.1 1 5 = (cY t n (bk σ 30) 1400).2.1 ∧ τ.1 1 6 = (cY t n (bk σ 30) 1400).2.2) ∧ HPu σ τ ∧ HBA τ ∧ WF (bk τ 30) ∧ eTr t n (bk σ 30) X m d ∧ lEq (X d) (bk τ 30)) := by
  obtain ⟨Q, hQ⟩ : ∃ Q : zQ, Q = (fun o τ => ∃ (X : Nat → zBk) (m d : Nat), o = .inl (some (zi ((d : Nat) : Int))) ∧ zOK τ ∧ zSame (fun q => q = 1 ∨ (24 ≤ q ∧ q ≤ 49) ∨ (70 ≤ q ∧ q ≤ 251)) σ τ ∧ (τ.1 1 1 = 0 ∧ τ.1 1 5 = (cY t n (bk σ 30) 1400).2.1 ∧ τ.1 1 6 = (cY t n (bk σ 30) 1400).2.2) ∧ HPu σ τ ∧ HBA τ ∧ WF (bk τ 30) ∧ eTr t n (bk σ 30) X m d ∧ lEq (X d) (bk τ 30)) := ⟨_, rfl⟩
  rw [← hQ]
  refine zx_enter hfl (by decide) rfl 2 rfl ?_
  show zX l w mX9_executeCommands (zMQ w 9 0 Q) 0 [zf 9 0, zu, zu] [] 0 σ
  have hN1 := hN.1
  refine zx_aloadN dX9_executeCommands_0 rfl rfl ?_
  refine zy_getR (q' := 24) fl_RX9_26 rfl dX9_executeCommands_1 rfl ?_
  refine zx_aloadN dX9_executeCommands_4 rfl rfl ?_
  refine zy_getR (q' := 1) fl_RX9_12 rfl dX9_executeCommands_5 rfl ?_
  refine zx_aloadN dX9_executeCommands_8 rfl rfl ?_
  refine zy_getR (q' := 30) fl_RX9_33 rfl dX9_executeCommands_9 rfl ?_
  refine zy_getR (q' := 31) fl_RX9_134 rfl dX9_executeCommands_12 rfl ?_
  refine zy_cvR [zf 6 1, zf 0 31] (sX3_fillFrom  hfl hz (by first | assumption | omega) (by first | assumption | omega) hW.1.1 hW.1.2.1) dX9_executeCommands_15 (by decide) rfl cw_RX9_138 okX3_fillFrom rfl (Nat.le_of_ble_eq_true rfl) ⟨Nat.le_of_ble_eq_true rfl, Nat.le_of_ble_eq_true rfl, Nat.le_of_ble_eq_true rfl, Nat.le_of_ble_eq_true rfl⟩ (fun τ15 hr15 => ?_)
  have hz15 : zOK τ15 := hr15.1
  have i15 : τ15.1 1 1 = (n : Int) := hr15.2.2.1.2.1.1
  have n15 := hn.2
  have p5 : τ15.1 1 5 = (cY t n (bk σ 30) 1400).2.1 := hr15.2.2.1.2.2.2.1.1
  have p6 : τ15.1 1 6 = (cY t n (bk σ 30) 1400).2.2 := hr15.2.2.1.2.2.2.1.2
  refine zy_istoreN [zf 9 0, zi (zb ((cY t n (bk σ 30) 1400).2.1 = 0)), zu] dX9_executeCommands_18 rfl (Nat.le_of_ble_eq_true rfl) (Nat.le_of_ble_eq_true rfl) rfl rfl ?_
  refine zx_aloadN dX9_executeCommands_19 rfl rfl ?_
  refine zy_getR (q' := 1) fl_RX9_12 rfl dX9_executeCommands_20 rfl ?_
  refine zx_iconst dX9_executeCommands_23 ?_
  refine zy_cvv [zi 0] (sX6_cutTo  hfl hz15 (by omega) (by omega)) dX9_executeCommands_24 (by decide) rfl cw_RX9_87 okX6_cutTo rfl (Nat.le_of_ble_eq_true rfl) ⟨Nat.le_of_ble_eq_true rfl, Nat.le_of_ble_eq_true rfl, Nat.le_of_ble_eq_true rfl, Nat.le_of_ble_eq_true rfl⟩ ?_
  refine zx_iloadN dX9_executeCommands_27 rfl rfl ?_
  refine zx_if_ne (tgt := 41) (by first | exact hz15 _ _ | assumption | exact zr_b _ | exact zcmp_r _ _ | (unfold zr at *; omega)) dX9_executeCommands_28 (by decide) (fun h28 => ?_) (fun h28 => ?_)
  · have h28 := zb_n.mp h28
    obtain ⟨m, hm30, -, hmm, hme, hmc, hmw⟩ := hr15.2.2.2 hw
    have e24 : ∀ q, (30 ≤ q ∧ q ≤ 49) ∨ (70 ≤ q ∧ q ≤ 251) → ∀ i, (zput τ15 1 1 0).1 q i = σ.1 q i := fun q hq i => (zput_k _ _ _ _ _ (by omega)).trans (hr15.2.1.1 q (by dsimp only; omega) i)
    have hN24 : HN (zput τ15 1 1 0) := by have e1 := e24 70 (by omega) 1; have e2 := e24 70 (by omega) 2; unfold HN at *; omega
    have hA24 : HBA (zput τ15 1 1 0) := HBA_to (fun q h1 h2 i => (zput_k _ _ _ _ _ (by omega)).trans (hr15.2.1.1 q (by dsimp only; omega) i)) hA
    refine zx_aloadN dX9_executeCommands_41 rfl rfl ?_
    refine zy_getR (q' := 70) fl_RX9_47 rfl dX9_executeCommands_42 rfl ?_
    refine zx_aloadN dX9_executeCommands_45 rfl rfl ?_
    refine zy_getR (q' := 30) fl_RX9_33 rfl dX9_executeCommands_46 rfl ?_
    refine zy_cvvR [zf 1 30] (sX5_prepare  hfl (zOK_put hz15 (by unfold zr; omega)) hN24.1 (hA24 30 (Or.inr (Or.inl rfl)))) dX9_executeCommands_49 (by decide) rfl cw_RX9_143 okX5_prepare rfl (Nat.le_of_ble_eq_true rfl) ⟨Nat.le_of_ble_eq_true rfl, Nat.le_of_ble_eq_true rfl, Nat.le_of_ble_eq_true rfl, Nat.le_of_ble_eq_true rfl⟩ (fun τ49 hr49 => ?_)
    have hz49 : zOK τ49 := hr49.1
    have hp := hprep hN24 hA24 hr49.2.1 hr49.2.2.2
    have hN24a := hN24.1
    have ep : ∀ q, q < 72 → ∀ i, τ49.1 q i = (zput τ15 1 1 0).1 q i := fun q h1 i => hr49.2.1.1 q (by dsimp only; omega) i
    have x49 : ∀ o, o ≤ 19 → ∀ i, bk τ49 30 o i = bk (zput τ15 1 1 0) 30 o i := fun o ho i => ep _ (by omega) i
    have w49 : WF (bk τ49 30) := WF_eq (pEq_z (fun o ho i => (x49 o ho i).trans (e24 (30 + o) (by omega) i))) hW
    have b49 : bbK τ49 30 := hp.1 30 (Or.inr (Or.inl rfl))
    have s49 : τ49.1 31 0 = σ.1 31 0 ∧ τ49.1 31 7 = σ.1 31 7 := ⟨(ep 31 (by omega) 0).trans (e24 31 (by omega) 0), (ep 31 (by omega) 7).trans (e24 31 (by omega) 7)⟩
    have hN49 : HN τ49 := by have e1 := ep 70 (by omega) 1; have e2 := ep 70 (by omega) 2; unfold HN at *; omega
    have m49 : τ49.1 24 0 = (m : Int) := (ep 24 (by omega) 0).trans ((zput_k _ _ _ _ _ (by decide)).trans hmc)
    refine zx_iconst dX9_executeCommands_52 ?_
    refine zy_istoreN [zf 9 0, zi (zb ((cY t n (bk σ 30) 1400).2.1 = 0)), zi 0] dX9_executeCommands_53 rfl (Nat.le_of_ble_eq_true rfl) (Nat.le_of_ble_eq_true rfl) rfl rfl ?_
    have L54 : ∀ (N : Nat) (τ : zS) (X : Nat → zBk) (d : Nat), (zOK τ) → (zSame (fun q => 30 ≤ q ∧ q ≤ 49) τ49 τ) → (bbK τ 30 ∧ WF (bk τ 30) ∧ X d = bk τ 30) → (∀ i, i < d → WF (X i) ∧ cmE (X i) (vct t n (cY t n (bk σ 30) i).1) (cV t n (vct t n (cY t n (bk σ 30) i).1) (bk σ 30) (pN t n (cY t n (bk σ 30) i))) = 0 ∧ lEq (cmB (X i) (vct t n (cY t n (bk σ 30) i).1) (cV t n (vct t n (cY t n (bk σ 30) i).1) (bk σ 30) (pN t n (cY t n (bk σ 30) i)))) (X (i + 1))) → (X 0 = bk τ49 30) → (τ.1 31 0 = σ.1 31 0 ∧ τ.1 31 7 = σ.1 31 7) → (d ≤ m) → (31 - d) < N → zX l w mX9_executeCommands (zMQ w 9 0 Q) 54 [zf 9 0, zu, zi ((d : Nat) : Int)] [] 0 τ := by
      intro N
      induction N with
      | zero => intro τ X d _ _ _ _ _ _ _ _; exact absurd (by assumption) (Nat.not_lt_zero _)
      | succ N ih54 =>
        intro τ X d hz h1 h2 h3 h4 h5 hd hN
        have c24 : ∀ q, q < 30 → ∀ i, τ.1 q i = τ49.1 q i := fun q hq i => h1.1 q (by dsimp only; omega) i
        have m24 : τ.1 24 0 = (m : Int) := (c24 24 (by omega) 0).trans m49
        refine zx_iloadN dX9_executeCommands_54 rfl rfl ?_
        refine zx_aloadN dX9_executeCommands_55 rfl rfl ?_
        refine zy_getR (q' := 24) fl_RX9_26 rfl dX9_executeCommands_56 rfl ?_
        refine zy_getI fl_RX9_146 rfl dX9_executeCommands_59 rfl ?_
        refine zx_icmp_ge (tgt := 79) (by first | exact hz _ _ | assumption | exact zr_b _ | exact zcmp_r _ _ | (unfold zr at *; omega)) (by first | exact hz _ _ | assumption | exact zr_b _ | exact zcmp_r _ _ | (unfold zr at *; omega)) dX9_executeCommands_62 (by decide) (fun h62 => ?_) (fun h62 => ?_)
        · have q1 : zSame (fun q => 30 ≤ q ∧ q ≤ 49) τ49 τ := h1
          have qb : bbK τ 30 := h2.1
          have qW : WF (X d) := by rw [h2.2.2]; exact h2.2.1
          have qE : lEq (X d) (bk τ 30) := by rw [h2.2.2]; exact pEq_l (fun _ _ _ => rfl)
          have qF : d < m → ¬ cmE (X d) (vct t n (cY t n (bk σ 30) d).1) (cV t n (vct t n (cY t n (bk σ 30) d).1) (bk σ 30) (pN t n (cY t n (bk σ 30) d))) = 0 := fun q => absurd q (by omega)
          have hNb : HN τ := HN_post hN49 q1 (by first | omega | (dsimp only; omega))
          have hNb1 := hNb.1
          have hNb2 := hNb.2
          have qWb : WF (bk τ 30) := h2.2.1
          refine zx_aloadN dX9_executeCommands_79 rfl rfl ?_
          refine zy_getR (q' := 70) fl_RX9_47 rfl dX9_executeCommands_80 rfl ?_
          refine zy_cvvR [] (sX5_commit  hfl hz hNb1 hNb2) dX9_executeCommands_83 (by decide) rfl cw_RX9_151 okX5_commit rfl (Nat.le_of_ble_eq_true rfl) ⟨Nat.le_of_ble_eq_true rfl, Nat.le_of_ble_eq_true rfl, Nat.le_of_ble_eq_true rfl, Nat.le_of_ble_eq_true rfl⟩ (fun τ83 hr83 => ?_)
          have hz83 : zOK τ83 := hr83.1
          refine zx_iloadN dX9_executeCommands_86 rfl rfl ?_
          refine zx_iret rfl rfl dX9_executeCommands_87 ?_
          rw [hQ]
          have hq := hpush hN24 hA24 hr49.2.1 hr49.2.2.1 hr49.2.2.2 q1 qb hr83.2.1 hr83.2.2
          have hsc : zSame (fun q => q = 1 ∨ (24 ≤ q ∧ q ≤ 49) ∨ (70 ≤ q ∧ q ≤ 251)) σ τ83 := ⟨fun q hq2 i => (hq.2.2.1.1 q (by dsimp only at hq2 ⊢; omega) i).trans ((zput_k _ _ _ _ _ (by dsimp only at hq2; omega)).trans (hr15.2.1.1 q (by dsimp only at hq2 ⊢; omega) i)), hq.2.2.1.2.trans hr15.2.1.2⟩
          have k1 : ∀ i, τ83.1 1 i = (zput τ15 1 1 0).1 1 i := fun i => hq.2.2.1.1 1 (by dsimp only; omega) i
          have lf := lEq_tr qE (pEq_l hq.2.2.2)
          refine ⟨X, m, d, rfl, hz83, hsc, ⟨(k1 1).trans (zput_s _ _ _ _), (k1 5).trans ((zput_i _ _ _ _ _ (by decide)).trans p5), (k1 6).trans ((zput_i _ _ _ _ _ (by decide)).trans p6)⟩, HPu_to e24 hq.1, hq.2.1, ?_, ⟨⟨hm30, hmm, hme⟩, hd, ?_, h3, qW, qF⟩, lf⟩
          · exact WF_eq (pEq_z hq.2.2.2) qWb
          · rw [h4]; exact pEq_l (fun o ho i => (x49 o ho i).trans (e24 (30 + o) (by omega) i))
        · have hdm : d < m := by omega
          have hcw := cWr_e (τ := τ) (fun q h1 h2 => (c24 q (by omega) d).trans ((ep q (by omega) d).trans (zput_k _ _ _ _ _ (by omega)))) (hmw d hdm)
          have hcv := cmV_e (D := bk σ 30) (D' := bk τ 30) h5.1 h5.2 (cY_v hW.1.1 (hmm d hdm) (cY_z hm30 hmm hme hw hdm))
          refine zx_aloadN dX9_executeCommands_65 rfl rfl ?_
          refine zx_iloadN dX9_executeCommands_66 rfl rfl ?_
          refine zy_cvR [zi ((d : Nat) : Int)] (sX9_perform (i := d) (v := (vct t n (cY t n (bk σ 30) d).1)) (V := (cV t n (vct t n (cY t n (bk σ 30) d).1) (bk σ 30) (pN t n (cY t n (bk σ 30) d)))) hfl hz h2.2.1 h2.1 hcw hcv (by omega)) dX9_executeCommands_67 (by decide) rfl cw_RX9_147 okX9_perform rfl (Nat.le_of_ble_eq_true rfl) ⟨Nat.le_of_ble_eq_true rfl, Nat.le_of_ble_eq_true rfl, Nat.le_of_ble_eq_true rfl, Nat.le_of_ble_eq_true rfl⟩ (fun τ67 hr67 => ?_)
          have hz67 : zOK τ67 := hr67.1
          have z67 := cmE_r (bk τ 30) (vct t n (cY t n (bk σ 30) d).1) (cV t n (vct t n (cY t n (bk σ 30) d).1) (bk σ 30) (pN t n (cY t n (bk σ 30) d)))
          refine zx_if_ne (tgt := 79) (by first | exact hz67 _ _ | assumption | exact zr_b _ | exact zcmp_r _ _ | (unfold zr at *; omega)) dX9_executeCommands_70 (by decide) (fun h70 => ?_) (fun h70 => ?_)
          · have q1 : zSame (fun q => 30 ≤ q ∧ q ≤ 49) τ49 τ67 := zSame_tr h1 hr67.2.1 (fun q hq => by first | omega | (dsimp only at hq ⊢; omega))
            have qb : bbK τ67 30 := hr67.2.2.1
            have qW : WF (X d) := by rw [h2.2.2]; exact h2.2.1
            have qE : lEq (X d) (bk τ67 30) := by
              have q := hr67.2.2.2.2
              rw [cmN_f h70] at q
              rw [h2.2.2]; exact q
            have qF : d < m → ¬ cmE (X d) (vct t n (cY t n (bk σ 30) d).1) (cV t n (vct t n (cY t n (bk σ 30) d).1) (bk σ 30) (pN t n (cY t n (bk σ 30) d))) = 0 := fun _ => by rw [h2.2.2]; exact h70
            have hNb : HN τ67 := HN_post hN49 q1 (by first | omega | (dsimp only; omega))
            have hNb1 := hNb.1
            have hNb2 := hNb.2
            have qWb : WF (bk τ67 30) := hr67.2.2.2.1
            refine zx_aloadN dX9_executeCommands_79 rfl rfl ?_
            refine zy_getR (q' := 70) fl_RX9_47 rfl dX9_executeCommands_80 rfl ?_
            refine zy_cvvR [] (sX5_commit  hfl hz67 hNb1 hNb2) dX9_executeCommands_83 (by decide) rfl cw_RX9_151 okX5_commit rfl (Nat.le_of_ble_eq_true rfl) ⟨Nat.le_of_ble_eq_true rfl, Nat.le_of_ble_eq_true rfl, Nat.le_of_ble_eq_true rfl, Nat.le_of_ble_eq_true rfl⟩ (fun τ83 hr83 => ?_)
            have hz83 : zOK τ83 := hr83.1
            refine zx_iloadN dX9_executeCommands_86 rfl rfl ?_
            refine zx_iret rfl rfl dX9_executeCommands_87 ?_
            rw [hQ]
            have hq := hpush hN24 hA24 hr49.2.1 hr49.2.2.1 hr49.2.2.2 q1 qb hr83.2.1 hr83.2.2
            have hsc : zSame (fun q => q = 1 ∨ (24 ≤ q ∧ q ≤ 49) ∨ (70 ≤ q ∧ q ≤ 251)) σ τ83 := ⟨fun q hq2 i => (hq.2.2.1.1 q (by dsimp only at hq2 ⊢; omega) i).trans ((zput_k _ _ _ _ _ (by dsimp only at hq2; omega)).trans (hr15.2.1.1 q (by dsimp only at hq2 ⊢; omega) i)), hq.2.2.1.2.trans hr15.2.1.2⟩
            have k1 : ∀ i, τ83.1 1 i = (zput τ15 1 1 0).1 1 i := fun i => hq.2.2.1.1 1 (by dsimp only; omega) i
            have lf := lEq_tr qE (pEq_l hq.2.2.2)
            refine ⟨X, m, d, rfl, hz83, hsc, ⟨(k1 1).trans (zput_s _ _ _ _), (k1 5).trans ((zput_i _ _ _ _ _ (by decide)).trans p5), (k1 6).trans ((zput_i _ _ _ _ _ (by decide)).trans p6)⟩, HPu_to e24 hq.1, hq.2.1, ?_, ⟨⟨hm30, hmm, hme⟩, hd, ?_, h3, qW, qF⟩, lf⟩
            · exact WF_eq (pEq_z hq.2.2.2) qWb
            · rw [h4]; exact pEq_l (fun o ho i => (x49 o ho i).trans (e24 (30 + o) (by omega) i))
          · have n1 : zSame (fun q => 30 ≤ q ∧ q ≤ 49) τ49 τ67 := zSame_tr h1 hr67.2.1 (fun q hq => by first | omega | (dsimp only at hq ⊢; omega))
            have l67 := hr67.2.2.2.2
            rw [cmN_t h70] at l67
            have n5 : τ67.1 31 0 = σ.1 31 0 ∧ τ67.1 31 7 = σ.1 31 7 := ⟨l67.1.1.trans ((cmB_1 _ _ _ _).trans h5.1), l67.1.2.1.trans ((cmB_1 _ _ _ _).trans h5.2)⟩
            have n3 : ∀ i, i < d + 1 → WF (xUb X d (bk τ67 30) i) ∧ cmE (xUb X d (bk τ67 30) i) (vct t n (cY t n (bk σ 30) i).1) (cV t n (vct t n (cY t n (bk σ 30) i).1) (bk σ 30) (pN t n (cY t n (bk σ 30) i))) = 0 ∧ lEq (cmB (xUb X d (bk τ67 30) i) (vct t n (cY t n (bk σ 30) i).1) (cV t n (vct t n (cY t n (bk σ 30) i).1) (bk σ 30) (pN t n (cY t n (bk σ 30) i)))) (xUb X d (bk τ67 30) (i + 1)) := fun i hi => by
              rcases Nat.lt_or_ge i d with q | q
              · rw [xUb_o (by omega), xUb_o (by omega)]; exact h3 i q
              · have ei : i = d := by omega
                subst ei
                rw [xUb_o (Nat.le_refl _), xUb_n, h2.2.2]
                exact ⟨h2.2.1, h70, l67⟩
            refine zy_iinc (b := ((d + 1 : Nat) : Int)) [zf 9 0, zu, zi ((d + 1 : Nat) : Int)] dX9_executeCommands_73 rfl (by omega) (Nat.le_of_ble_eq_true rfl) rfl rfl ?_
            refine zx_goto (tgt := 54) dX9_executeCommands_76 (by decide) ?_
            exact ih54 τ67 (xUb X d (bk τ67 30)) (d + 1) hz67 n1 ⟨hr67.2.2.1, hr67.2.2.2.1, xUb_n⟩ n3 ((xUb_o (Nat.zero_le _)).trans h4) n5 (by omega) (by omega)
    refine zy_drop 1 [zf 9 0, zu, zi 0] rfl ?_
    exact L54 _ τ49 (fun _ => bk τ49 30) 0 hz49 ⟨fun _ _ _ => rfl, rfl⟩ ⟨b49, w49, rfl⟩ (fun i hi => absurd hi (Nat.not_lt_zero i)) rfl s49 (Nat.zero_le _) (Nat.lt_succ_self _)
  · have h28 := zb_0.mp h28
    exact absurd hw (by assumption)
set_option maxRecDepth 20000 in
set_option maxHeartbeats 2000000 in
theorem sX9_findPrinter {l : Launch} {w : zW} (hfl : l.stackTraces = false) {σ : zS} {t : Nat → Int} {n : Nat}  (hz : zOK σ) (hW : WF (bk σ 30)) (hT : ∀ i : Nat, σ.1 2 i = t i) (hn : σ.1 1 1 = (n : Int) ∧ n ≤ 1400) : Sp l w mX9_findPrinter 2 0 [zf 9 0] σ (zret (zi (fz (σ.1 32) (σ.1 31 0) (pkv t 0 n))) σ) := by
  obtain ⟨Q, hQ⟩ : ∃ Q : zQ, Q = (zret (zi (fz (σ.1 32) (σ.1 31 0) (pkv t 0 n))) σ) := ⟨_, rfl⟩
  rw [← hQ]
  refine zx_enter hfl (by decide) rfl 0 rfl ?_
  show zX l w mX9_findPrinter (zMQ w 2 0 Q) 0 [zf 9 0] [] 0 σ
  refine zx_aloadN dX9_findPrinter_0 rfl rfl ?_
  refine zy_getR (q' := 30) fl_RX9_33 rfl dX9_findPrinter_1 rfl ?_
  refine zy_getR (q' := 31) fl_RX9_134 rfl dX9_findPrinter_4 rfl ?_
  refine zx_aloadN dX9_findPrinter_7 rfl rfl ?_
  refine zy_getR (q' := 1) fl_RX9_12 rfl dX9_findPrinter_8 rfl ?_
  refine zx_iconst dX9_findPrinter_11 ?_
  refine zy_top (b := ((0 : Nat) : Int)) (rfl) ?_
  refine zx_aloadN dX9_findPrinter_12 rfl rfl ?_
  refine zy_getR (q' := 1) fl_RX9_12 rfl dX9_findPrinter_13 rfl ?_
  refine zy_getI fl_RX9_111 rfl dX9_findPrinter_16 rfl ?_
  refine zy_top (b := ((n : Nat) : Int)) (hn.1) ?_
  refine zy_cv [zi ((0 : Nat) : Int), zi ((n : Nat) : Int)] (sX6_packedName (a := 0) (b := n) hfl hz (by first | assumption | omega) (by first | assumption | omega) (by first | assumption | omega)) dX9_findPrinter_19 (by decide) rfl cw_RX9_165 okX6_packedName rfl (Nat.le_of_ble_eq_true rfl) ⟨Nat.le_of_ble_eq_true rfl, Nat.le_of_ble_eq_true rfl, Nat.le_of_ble_eq_true rfl, Nat.le_of_ble_eq_true rfl⟩ ?_
  have zp := pkv_z t 0 n
  refine zy_cv [zi (pkv t 0 n)] (sX0_printerNamed  hfl hz (by first | exact hz _ _ | assumption | exact zr_b _ | exact zcmp_r _ _ | (unfold zr at *; omega)) hW.1.1) dX9_findPrinter_22 (by decide) rfl cw_RX9_169 okX0_printerNamed rfl (Nat.le_of_ble_eq_true rfl) ⟨Nat.le_of_ble_eq_true rfl, Nat.le_of_ble_eq_true rfl, Nat.le_of_ble_eq_true rfl, Nat.le_of_ble_eq_true rfl⟩ ?_
  refine zy_top (b := zfst (fun i => σ.1 32 i = (pkv t 0 n)) (σ.1 31 0).toNat) rfl ?_
  refine zx_iret rfl rfl dX9_findPrinter_25 ?_
  rw [hQ]
  refine ⟨congrArg (fun z : Int => (Sum.inl (some (zi z)) : Option zV ⊕ String)) ?_, by first | rfl | (exfalso; omega)⟩
  rfl
set_option maxRecDepth 20000 in
set_option maxHeartbeats 2000000 in
theorem sX9_load {l : Launch} {w : zW} (hfl : l.stackTraces = false) {σ : zS} {t : Nat → Int} {n : Nat}  (hz : zOK σ) (hA : HBA σ) (hT : ∀ i : Nat, σ.1 2 i = t i) (hn : σ.1 1 1 = (n : Int) ∧ n ≤ 1400) : Sp l w mX9_load 9 1 [zf 9 0] σ (fun o τ => ∃ (X : Nat → zTr) (m : Nat), cTr t n X m ∧ ¬ ((X m).2.1.2.1 = 0 ∧ ¬ xK t n (X m).2.1.1 = 0) ∧ zOK τ ∧ HBA τ ∧ (τ.1 1 1 = 0 ∧ τ.1 1 5 = (cFin t n X m).2.1 ∧ τ.1 1 6 = (cFin t n X m).2.2) ∧
    (((cFin t n X m).2.1 = 0 ∧ o = .inl (some (zi ((X m).2.2 12 0))) ∧ zSame (fun q => q = 1 ∨ (4 ≤ q ∧ q ≤ 23) ∨ (30 ≤ q ∧ q ≤ 49) ∨ q = 70) σ τ ∧ zEq (X m).2.2 (bk τ 30) ∧ τ.1 70 1 = σ.1 70 1 ∧ τ.1 70 2 = 0) ∨
     (¬ (cFin t n X m).2.1 = 0 ∧ o = .inr "java/lang/IllegalArgumentException" ∧ zSame (fun q => q = 1 ∨ (4 ≤ q ∧ q ≤ 23)) σ τ))) := by
  obtain ⟨Q, hQ⟩ : ∃ Q : zQ, Q = (fun o τ => ∃ (X : Nat → zTr) (m : Nat), cTr t n X m ∧ ¬ ((X m).2.1.2.1 = 0 ∧ ¬ xK t n (X m).2.1.1 = 0) ∧ zOK τ ∧ HBA τ ∧ (τ.1 1 1 = 0 ∧ τ.1 1 5 = (cFin t n X m).2.1 ∧ τ.1 1 6 = (cFin t n X m).2.2) ∧
    (((cFin t n X m).2.1 = 0 ∧ o = .inl (some (zi ((X m).2.2 12 0))) ∧ zSame (fun q => q = 1 ∨ (4 ≤ q ∧ q ≤ 23) ∨ (30 ≤ q ∧ q ≤ 49) ∨ q = 70) σ τ ∧ zEq (X m).2.2 (bk τ 30) ∧ τ.1 70 1 = σ.1 70 1 ∧ τ.1 70 2 = 0) ∨
     (¬ (cFin t n X m).2.1 = 0 ∧ o = .inr "java/lang/IllegalArgumentException" ∧ zSame (fun q => q = 1 ∨ (4 ≤ q ∧ q ≤ 23)) σ τ))) := ⟨_, rfl⟩
  rw [← hQ]
  refine zx_enter hfl (by decide) rfl 1 rfl ?_
  show zX l w mX9_load (zMQ w 9 1 Q) 0 [zf 9 0, zu] [] 0 σ
  refine zx_aloadN dX9_load_0 rfl rfl ?_
  refine zy_getR (q' := 3) fl_RX9_19 rfl dX9_load_1 rfl ?_
  refine zx_aloadN dX9_load_4 rfl rfl ?_
  refine zy_getR (q' := 1) fl_RX9_12 rfl dX9_load_5 rfl ?_
  refine zy_cvq [zf 6 1] (sX4_fillFrom  hfl hz (hA 4 (Or.inl rfl)) (by first | assumption | omega) (by first | assumption | omega)) dX9_load_8 (by decide) rfl cw_RX9_83 okX4_fillFrom rfl (Nat.le_of_ble_eq_true rfl) ⟨Nat.le_of_ble_eq_true rfl, Nat.le_of_ble_eq_true rfl, Nat.le_of_ble_eq_true rfl, Nat.le_of_ble_eq_true rfl⟩ (fun r τ hq => ?_) (fun E τ hq => ?_)
  · obtain ⟨X, m, eX, hz8, hs8, hc8, ht8, he8, hk8, hb8⟩ := hq
    have eX2 := Sum.inl.inj eX
    subst eX2
    rw [show ∀ (x : zV) (s : List zV), (some x).toList ++ s = x :: s from fun _ _ => rfl]
    have i15 : τ.1 1 1 = (n : Int) := hc8.2.1.1
    have n15 := hn.2
    have p5 : τ.1 1 5 = (cFin t n X m).2.1 := hc8.2.2.2.1.1
    have p6 : τ.1 1 6 = (cFin t n X m).2.2 := hc8.2.2.2.1.2
    refine zy_istoreN [zf 9 0, zi (zb ((cFin t n X m).2.1 = 0))] dX9_load_11 rfl (Nat.le_of_ble_eq_true rfl) (Nat.le_of_ble_eq_true rfl) rfl rfl ?_
    refine zx_aloadN dX9_load_12 rfl rfl ?_
    refine zy_getR (q' := 1) fl_RX9_12 rfl dX9_load_13 rfl ?_
    refine zx_iconst dX9_load_16 ?_
    refine zy_cvv [zi 0] (sX6_cutTo  hfl hz8 (by omega) (by omega)) dX9_load_17 (by decide) rfl cw_RX9_87 okX6_cutTo rfl (Nat.le_of_ble_eq_true rfl) ⟨Nat.le_of_ble_eq_true rfl, Nat.le_of_ble_eq_true rfl, Nat.le_of_ble_eq_true rfl, Nat.le_of_ble_eq_true rfl⟩ ?_
    refine zx_iloadN dX9_load_20 rfl rfl ?_
    refine zx_if_ne (tgt := 34) (by first | exact hz8 _ _ | assumption | exact zr_b _ | exact zcmp_r _ _ | (unfold zr at *; omega)) dX9_load_21 (by decide) (fun h21 => ?_) (fun h21 => ?_)
    · have h21 := zb_n.mp h21
      refine zx_aloadN dX9_load_34 rfl rfl ?_
      refine zy_getR (q' := 30) fl_RX9_33 rfl dX9_load_35 rfl ?_
      refine zx_aloadN dX9_load_38 rfl rfl ?_
      refine zy_getR (q' := 3) fl_RX9_19 rfl dX9_load_39 rfl ?_
      refine zy_getR (q' := 4) fl_RX9_91 rfl dX9_load_42 rfl ?_
      refine zy_cvvR [zf 1 4] (sX1_copyFrom  hfl (zOK_put hz8 (by unfold zr; omega)) (by omega) (bb_pt (k := 4) (fun o ho i => zput_k _ _ _ _ _ (by omega)) hb8)) dX9_load_45 (by decide) rfl cw_RX9_94 okX1_copyFrom rfl (Nat.le_of_ble_eq_true rfl) ⟨Nat.le_of_ble_eq_true rfl, Nat.le_of_ble_eq_true rfl, Nat.le_of_ble_eq_true rfl, Nat.le_of_ble_eq_true rfl⟩ (fun τ45 hr45 => ?_)
      have hz45 : zOK τ45 := hr45.1
      refine zx_aloadN dX9_load_48 rfl rfl ?_
      refine zy_getR (q' := 70) fl_RX9_47 rfl dX9_load_49 rfl ?_
      refine zy_cvv [] (sX5_forget  hfl hz45 ) dX9_load_52 (by decide) rfl cw_RX9_122 okX5_forget rfl (Nat.le_of_ble_eq_true rfl) ⟨Nat.le_of_ble_eq_true rfl, Nat.le_of_ble_eq_true rfl, Nat.le_of_ble_eq_true rfl, Nat.le_of_ble_eq_true rfl⟩ ?_
      refine zx_aloadN dX9_load_55 rfl rfl ?_
      refine zy_getR (q' := 30) fl_RX9_33 rfl dX9_load_56 rfl ?_
      refine zy_getR (q' := 42) fl_RX9_125 rfl dX9_load_59 rfl ?_
      refine zy_getI fl_RX9_129 rfl dX9_load_62 rfl ?_
      refine zx_iret rfl rfl dX9_load_65 ?_
      rw [hQ]
      have f45 : ∀ q, ¬ (30 ≤ q ∧ q ≤ 49) → q ≠ 70 → q ≠ 1 → ∀ i, (zput τ45 70 2 0).1 q i = τ.1 q i := fun q h1 h2 h3 i => (zput_k _ _ _ _ _ (by omega)).trans ((hr45.2.1.1 q (by dsimp only; omega) i).trans (zput_k _ _ _ _ _ (by omega)))
      have z45 : zEq (X m).2.2 (bk τ45 30) := by rw [hk8]; exact zEq_tr (zEq_pt (fun p hp j => zput_k _ _ _ _ _ (by omega))) (zEq_cp (o := 4) (k := 30) hr45.2.2.1 hr45.2.2.2)
      have zf : zEq (bk τ45 30) (bk (zput τ45 70 2 0) 30) := zEq_pt (fun p hp j => zput_k _ _ _ _ _ (by omega))
      have k1 : ∀ i, (zput τ45 70 2 0).1 1 i = (zput τ 1 1 0).1 1 i := fun i => (zput_k _ _ _ _ _ (by decide)).trans (hr45.2.1.1 1 (by dsimp only; omega) i)
      refine ⟨X, m, ht8, he8, (zOK_put hz45 (by unfold zr; omega)), ?_, ⟨(k1 1).trans (zput_s _ _ _ _), (k1 5).trans ((zput_i _ _ _ _ _ (by decide)).trans p5), (k1 6).trans ((zput_i _ _ _ _ _ (by decide)).trans p6)⟩, Or.inl ⟨by assumption, congrArg (fun z : Int => (Sum.inl (some (zi z)) : Option zV ⊕ String)) ?_, ⟨fun q hq i => ?_, hr45.2.1.2.trans hs8.2⟩, zEq_tr z45 zf, (zput_i _ _ _ _ _ (by decide)).trans ((hr45.2.1.1 70 (by dsimp only; omega) 1).trans ((zput_k _ _ _ _ _ (by decide)).trans (hs8.1 70 (by dsimp only; omega) 1))), zput_s _ _ _ _⟩⟩
      · intro k hk
        by_cases e30 : k = 30
        · subst e30
          exact bb_pt (fun o ho i => zput_k _ _ _ _ _ (by omega)) (bb_cp (o := 4) hr45.2.2.2 (bb_pt (fun o ho i => zput_k _ _ _ _ _ (by omega)) hb8))
        · by_cases e4 : k = 4
          · subst e4
            exact bb_pt (fun o ho i => f45 _ (by omega) (by omega) (by omega) i) hb8
          · refine bb_pt (fun o ho i => (f45 _ ?_ ?_ ?_ i).trans (hs8.1 _ ?_ i)) (hA k hk) <;> (try dsimp only) <;> rcases hk with h | h | h | ⟨r, h1, h2⟩ <;> omega
      · first | exact (z45.1.2.2.2) | exact ((zput_k _ _ _ _ _ (by decide)).trans z45.1.2.2.2)
      · have hq2 := hq
        dsimp only at hq2
        exact (f45 q (by omega) (by omega) (by omega) i).trans (hs8.1 q (by dsimp only; omega) i)
    · have h21 := zb_0.mp h21
      refine zx_throw (names := ["java/lang/RuntimeException", "java/lang/Exception"]) rfl (by decide +kernel) (by decide +kernel) th_RX9_119_115_k ei_IllegalArgumentException (List.mem_of_getElem? (i := 20) rfl) th_RX9_119 th_RX9_119_o th_RX9_119_g dX9_load_24 dX9_load_27 dX9_load_28 dX9_load_30 dX9_load_33 (Nat.le_of_ble_eq_true rfl) (Nat.le_of_ble_eq_true rfl) (Nat.le_of_ble_eq_true rfl) (Nat.le_of_ble_eq_true rfl) ?_
      rw [hQ]
      refine ⟨X, m, ht8, he8, (zOK_put hz8 (by unfold zr; omega)), fun k hk => ?_, ⟨zput_s _ _ _ _, (zput_i _ _ _ _ _ (by decide)).trans p5, (zput_i _ _ _ _ _ (by decide)).trans p6⟩, Or.inr ⟨by assumption, rfl, ⟨fun q hq i => (zput_k _ _ _ _ _ (by dsimp only at hq; omega)).trans (hs8.1 q hq i), hs8.2⟩⟩⟩
      by_cases e4 : k = 4
      · subst e4
        exact bb_pt (fun o ho i => zput_k _ _ _ _ _ (by omega)) hb8
      · refine bb_pt (fun o ho i => (zput_k _ _ _ _ _ ?_).trans (hs8.1 _ ?_ i)) (hA k hk) <;> (try dsimp only) <;> rcases hk with h | h | h | ⟨r, h1, h2⟩ <;> omega
  · obtain ⟨X, m, eX, -⟩ := hq
    exact absurd eX (by intro q; cases q)

