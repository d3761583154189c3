
/-! the calls that are not like the others -/
theorem Inv_6 {σ : zS} {v : Int} (h : Inv σ) : Inv (zput σ 261 6 v) :=
  Inv_fr h (fun q hq i => zput_k _ _ _ _ _ (by omega)) (fun q hq i => zput_k _ _ _ _ _ (by omega)) (fun i hi => zput_i _ _ _ _ _ (by omega)) (by rw [zput_i _ _ _ _ _ (by decide)]; exact h.2.2.2.1.2) (Rel_put (by decide) h.1.2.2)
theorem sim_errorCode {l : Launch} {w : zW} (hfl : l.stackTraces = false) {σ : zS} (hz : zOK σ) (h : Inv σ) : SimD l w mX9_errorCode mX10_errorCode 0 0 [] σ := by
  have m := zret_q (sX10_errorCode (l := l) (w := w) hfl hz)
  rw [← h.2.2.2.2.1.1] at m
  exact simD (zret_q (sX9_errorCode hfl hz h.1.1)) (fun τ e => by subst e; exact ⟨hz, _, m, fun υ q => ⟨by rw [← q]; exact zOK_put hz zr0, by rw [← q]; exact Inv_6 h⟩⟩)
theorem sim_errorPosition {l : Launch} {w : zW} (hfl : l.stackTraces = false) {σ : zS} (hz : zOK σ) (h : Inv σ) : SimD l w mX9_errorPosition mX10_errorPosition 0 0 [] σ := by
  have m := zret_q (sX10_errorPosition (l := l) (w := w) hfl hz)
  rw [← h.2.2.2.2.1.2] at m
  exact simD (zret_q (sX9_errorPosition hfl hz h.1.1)) (fun τ e => by subst e; exact ⟨hz, _, m, fun υ q => ⟨by rw [← q]; exact zOK_put hz zr0, by rw [← q]; exact Inv_6 h⟩⟩)
theorem sim_findPrinter {l : Launch} {w : zW} (hfl : l.stackTraces = false) {σ : zS} (hz : zOK σ) (h : Inv σ) : SimD l w mX9_findPrinter mX10_findPrinter 2 3 [] σ := by
  obtain ⟨n, h1, h2, h3⟩ := II_T h.2.2.2.1
  have m := sX10_findPrinter (l := l) (w := w) (D := bk σ 30) hfl hz h.1.1 h.1.2.2 h3 h2 h.2.2.2.1.2
  refine simD (zret_q (sX9_findPrinter (t := σ.1 2) (n := n) hfl hz h.1.1 (fun _ => rfl) h1)) (fun τ e => ?_)
  subst e
  refine ⟨hz, _, m, fun υ q => ⟨q.1, ?_⟩⟩
  have g := q.2.1
  refine Inv_fr h (fun k hk i => g.1 k (fun q => q) (by omega) i) (fun k hk i => g.1 k (fun q => q) (by omega) i) (fun i hi => g.2.1 i (by first | omega | (dsimp only; omega))) q.2.2.2 ?_
  rw [show υ.1 262 = σ.1 262 from funext (g.1 262 (fun q => q) (by decide))]
  exact h.1.2.2
theorem Inv_tx {σ τ υ : zS} {v : Int} {L : List Int} (h : Inv σ) (s : txF σ τ) (hC : InC τ L) (m : mfr (τ.1, v) υ (fun k => k = 269) (fun i => i = 6 ∨ i = 16)) (hM : InM υ L) (hl : L.length ≤ 1400) (hb : ∀ x ∈ L, 0 ≤ x ∧ x ≤ 255) : Inv υ := by
  obtain ⟨hB, hS, hH, hI, hE, hO⟩ := h
  have a : ∀ k, k ≠ 269 → k ≠ 261 → ∀ i, υ.1 k i = τ.1 k i := fun k h1 h2 i => m.1 k h1 h2 i
  have a2 : ∀ k, k ≠ 269 → k ≠ 261 → k ≠ 1 → k ≠ 2 → ∀ i, υ.1 k i = σ.1 k i := fun k h1 h2 h3 h4 i => (a k h1 h2 i).trans (s.1.1 k (by first | omega | (dsimp only; omega)) i)
  have b : ∀ i, i ≠ 6 → i ≠ 16 → υ.1 261 i = σ.1 261 i := fun i h1 h2 => (m.2.1 i (by first | omega | (dsimp only; omega))).trans (s.1.1 261 (by first | omega | (dsimp only; omega)) i)
  have hR : Rel (bk σ 30) (υ.1 262) := by
    rw [show υ.1 262 = σ.1 262 from funext (a2 262 (by omega) (by omega) (by omega) (by omega))]; exact hB.2.2
  refine ⟨IB_s (fun q h1 h2 i => a2 q (by omega) (by omega) (by omega) (by omega) i) hR hB, IS_s (a2 0 (by omega) (by omega) (by omega) (by omega) 5) (fun q h1 h2 i => a2 q (by omega) (by omega) (by omega) (by omega) i) (b 7 (by omega) (by omega)) (a2 263 (by omega) (by omega) (by omega) (by omega)) hS,
    IH_s (a2 70 (by omega) (by omega) (by omega) (by omega) 1) (a2 70 (by omega) (by omega) (by omega) (by omega) 2) (fun i _ => zEq_pt (fun o ho j => by have := hRow_b σ i; exact a2 _ (by omega) (by omega) (by omega) (by omega) j)) (fun k hk => bb_pt (fun o ho i => a2 _ (by rcases hk with h | h | h | ⟨r, h1, h2⟩ <;> omega) (by rcases hk with h | h | h | ⟨r, h1, h2⟩ <;> omega) (by rcases hk with h | h | h | ⟨r, h1, h2⟩ <;> omega) (by rcases hk with h | h | h | ⟨r, h1, h2⟩ <;> omega) i) (hH.2.1 k hk)) (b 5 (by omega) (by omega)) (a2 266 (by omega) (by omega) (by omega) (by omega)) hH,
    ⟨⟨L, ⟨(a 1 (by omega) (by omega) 1).trans hC.1, fun i hi => (a 2 (by omega) (by omega) i).trans (hC.2 i hi)⟩, hM, hl, hb⟩, by rw [b 19 (by omega) (by omega)]; exact hI.2⟩, ?_, IO_s (a2 259 (by omega) (by omega) (by omega) (by omega) 1) (a2 260 (by omega) (by omega) (by omega) (by omega)) (b 27 (by omega) (by omega)) (a2 271 (by omega) (by omega) (by omega) (by omega)) hO⟩
  exact ⟨by rw [a 1 (by omega) (by omega), s.2 5 (by omega), b 22 (by omega) (by omega)]; exact hE.1, by rw [a 1 (by omega) (by omega), s.2 6 (by omega), b 23 (by omega) (by omega)]; exact hE.2⟩
theorem b4_b {x v : Int} (h : v ∈ b4 x) : 0 ≤ v ∧ v ≤ 255 := by
  unfold b4 at h
  simp only [List.mem_cons, List.not_mem_nil, or_false] at h
  rcases h with h | h | h | h <;> rw [h, zand_255] <;> omega
theorem InM_to {σ τ : zS} {L : List Int} (e : τ.1 261 16 = σ.1 261 16) (eb : ∀ i, τ.1 269 i = σ.1 269 i) (h : InM σ L) : InM τ L := ⟨e.trans h.1, fun i hi => (eb i).trans (h.2 i hi)⟩
theorem mfr_q {σ υ : zS} {F : Nat → Prop} {D : zBk} (m : mfr σ υ (fun _ => False) (fun i => i = 6)) (hR : Rel D (σ.1 262)) : QP D σ υ := QP_m m hR (fun q => q) (fun k q => absurd q id) (fun i q => by unfold qF; omega)
theorem sim_append {l : Launch} {w : zW} (hfl : l.stackTraces = false) {σ : zS} (hz : zOK σ) (h : Inv σ) {x0 x1 x2 x3 x4 : Int} (h0 : zr x0) (h1 : zr x1) (h2 : zr x2) (h3 : zr x3) (h4 : zr x4) : SimW l w False mL_append mX10_append 1 [zi x0, zi x1, zi x2, zi x3, zi x4] σ := by
  obtain ⟨⟨L, iC, iM, hl, hb⟩, h19⟩ := id h.2.2.2.1
  by_cases g : L.length ≤ 1380
  case neg => exact simT 0 (wL_append hfl hz (Nat.le_of_ble_eq_true rfl) (Nat.le_of_ble_eq_true rfl) h0 h1 h2 h3 h4 (zthr_q (sX9_append_f1 hfl hz h0 h1 h2 h3 h4 iC hl (by omega))) (fun o τ q => Or.inr q.1)) (fun j hj => by rcases j with _ | _ | _ | j <;> first | rfl | (exfalso; revert hj; simp)) (by decide) (fun τ e => by subst e; exact ⟨hz, _, sX10_append_t1 hfl hz h0 h1 h2 h3 h4 iM hl (by omega), fun υ q => ⟨q.1, q.2.2, Inv_q (v := σ.2) h (zSame_rf _ _) (mfr_q (F := fun _ => False) q.2.1 h.1.2.2)⟩⟩)
  refine simR (wL_append hfl hz (Nat.le_of_ble_eq_true rfl) (Nat.le_of_ble_eq_true rfl) h0 h1 h2 h3 h4 (sX9_append hfl hz h0 h1 h2 h3 h4 iC hl g) (fun o τ q => Or.inl ⟨_, q.1⟩)) (fun τ e => ⟨e.1, _, sX10_append (σ := (τ.1, zt _)) hfl e.1 h0 h1 h2 h3 h4 (InM_to (e.2.1.1.1 261 (by first | omega | (dsimp only; omega)) 16) (e.2.1.1.1 269 (by first | omega | (dsimp only; omega))) iM) hl g, fun υ q => ⟨q.1, q.2.2.2, q.2.1.2.2, Inv_tx h e.2.1 e.2.2 q.2.1 q.2.2.1 ?_ ?_⟩⟩) (fun q => q.elim)
  · simp only [List.length_append, b4_l]; omega
  · intro x hx
    simp only [List.mem_append] at hx
    rcases hx with ((((hx | hx) | hx) | hx) | hx) | hx
    · exact hb x hx
    all_goals exact b4_b hx
theorem sim_truncate {l : Launch} {w : zW} (hfl : l.stackTraces = false) {σ : zS} (hz : zOK σ) (h : Inv σ) {x : Int} (hx : zr x) : SimW l w False mL_truncate mX10_truncate 1 [zi x] σ := by
  obtain ⟨⟨L, iC, iM, hl, hb⟩, h19⟩ := id h.2.2.2.1
  by_cases g : 0 ≤ x ∧ x ≤ L.length
  case neg => exact simT 0 (wL_truncate hfl hz (Nat.le_of_ble_eq_true rfl) (Nat.le_of_ble_eq_true rfl) hx (zthr_q (sX9_truncate_f1 hfl hz hx iC hl g)) (fun o τ q => Or.inr q.1)) (fun j hj => by rcases j with _ | _ | _ | j <;> first | rfl | (exfalso; revert hj; simp)) (by decide) (fun τ e => by subst e; exact ⟨hz, _, sX10_truncate_t1 hfl hz hx iM hl g, fun υ q => ⟨q.1, q.2.2, Inv_q (v := σ.2) h (zSame_rf _ _) (mfr_q (F := fun _ => False) q.2.1 h.1.2.2)⟩⟩)
  refine simR (wL_truncate hfl hz (Nat.le_of_ble_eq_true rfl) (Nat.le_of_ble_eq_true rfl) hx (sX9_truncate hfl hz hx iC hl g) (fun o τ q => Or.inl ⟨_, q.1⟩)) (fun τ e => ⟨e.1, _, sX10_truncate (σ := (τ.1, zt _)) hfl e.1 hx (InM_to (e.2.1.1.1 261 (by first | omega | (dsimp only; omega)) 16) (e.2.1.1.1 269 (by first | omega | (dsimp only; omega))) iM) hl g, fun υ q => ⟨q.1, q.2.2.2, q.2.1.2.2, Inv_tx h e.2.1 e.2.2 (mfr_mo q.2.1 (fun k q => absurd q id) (fun i q => q)) q.2.2.1 ?_ (fun y hy => hb y (List.mem_of_mem_take hy))⟩⟩) (fun q => q.elim)
  rw [List.length_take]; omega
theorem sim_undo {l : Launch} {w : zW} (hfl : l.stackTraces = false) {σ : zS} (hz : zOK σ) (h : Inv σ) : SimW l w False mL_undo mX10_undo 1 [] σ := by
  have hm5 := hm5_s h (zSame_rf (fun _ => False) σ) (fun q => q)
  have hN := h.2.2.1.1
  have e5 := h.2.2.1.2.2.1
  by_cases g : 0 < σ.1 70 2
  case neg => exact simT 0 (wL_undo hfl hz (Nat.le_of_ble_eq_true rfl) (Nat.le_of_ble_eq_true rfl) (zthr_q (sX9_undo_f1 hfl hz hN (by omega))) (fun o τ q => Or.inr q.1)) (fun j hj => by rcases j with _ | _ | _ | j <;> first | rfl | (exfalso; revert hj; simp)) (by decide) (fun τ e => by subst e; exact ⟨hz, _, sX10_undo_t1 (D := bk σ 30) hfl hz h.1.1 h.1.2.2 hm5 (by omega), fun υ q => ⟨q.1, q.2.2, Inv_q (v := σ.2) h (zSame_rf _ _) q.2.1⟩⟩)
  refine simR (wL_undo hfl hz (Nat.le_of_ble_eq_true rfl) (Nat.le_of_ble_eq_true rfl) (sX9_undo hfl hz hN h.2.2.1.2.1 g) (fun o τ q => Or.inl ⟨_, q.1⟩)) (fun τ e => ?_) (fun q => q.elim)
  obtain ⟨z, s, n1, n2, hA, z0, zi⟩ := e
  have t5 : τ.1 261 5 = σ.1 70 2 := (s.1 261 (by first | omega | (dsimp only; omega)) 5).trans e5
  have m := sX10_undo (l := l) (w := w) (σ := (τ.1, zt (σ.1 70 2 - 1))) hfl z (show 0 ≤ τ.1 261 5 ∧ τ.1 261 5 ≤ 8 by omega) (show 0 < τ.1 261 5 by omega)
  refine ⟨z, _, zSp_mono m (fun o υ q => ⟨q.1.trans (congrArg (fun a : Int => (Sum.inl (some (.inl (a - 1))) : Option zV ⊕ String)) t5), q.2⟩), fun υ q => ⟨q.1, q.2.2.2.1, q.2.1.2.2, ?_⟩⟩
  obtain ⟨zu, f, u5, u6, ur⟩ := q
  obtain ⟨hB, hS, hH, hI, hE, hO⟩ := h
  have a : ∀ k, k ≠ 262 → k ≠ 261 → ∀ i, υ.1 k i = τ.1 k i := fun k h1 h2 i => f.1 k h1 h2 i
  have a2 : ∀ k, k ≠ 262 → k ≠ 261 → ¬ (k = 70 ∨ (30 ≤ k ∧ k ≤ 49)) → ∀ i, υ.1 k i = σ.1 k i := fun k h1 h2 h3 i => (a k h1 h2 i).trans (s.1 k h3 i)
  have b : ∀ i, i ≠ 5 → i ≠ 6 → υ.1 261 i = σ.1 261 i := fun i h1 h2 => (f.2.1 i (by first | omega | (dsimp only; omega))).trans (s.1 261 (by first | omega | (dsimp only; omega)) i)
  have u5' : υ.1 261 5 = σ.1 70 2 - 1 := u5.trans (by show τ.1 261 5 - 1 = _; rw [t5])
  have e1 := a 70 (by omega) (by omega) 1
  have e2 := a 70 (by omega) (by omega) 2
  have hp : ∀ j, υ.1 266 j = σ.1 266 j := a2 266 (by omega) (by omega) (by omega)
  refine ⟨?_, IS_s (a2 0 (by omega) (by omega) (by omega) 5) (fun q h1 h2 i => a2 q (by omega) (by omega) (by omega) i) (b 7 (by omega) (by omega)) (a2 263 (by omega) (by omega) (by omega)) hS, ?_, II_s (a2 1 (by omega) (by omega) (by omega) 1) (a2 2 (by omega) (by omega) (by omega)) (b 16 (by omega) (by omega)) (a2 269 (by omega) (by omega) (by omega)) (by rw [b 19 (by omega) (by omega)]; exact hI.2) hI, ?_, IO_s (a2 259 (by omega) (by omega) (by omega) 1) (a2 260 (by omega) (by omega) (by omega)) (b 27 (by omega) (by omega)) (a2 271 (by omega) (by omega) (by omega)) hO⟩
  · refine IBk_z (r' := υ.1 262) (zEq_tr z0 (zEq_pt (fun o ho i => a _ (by omega) (by omega) i))) (fun j hj => ?_) (hH.2.2.2 0 g)
    rw [ur j hj]
    show τ.1 266 _ = _
    rw [s.1 266 (by first | omega | (dsimp only; omega))]
    unfold pst
    show σ.1 266 (380 * (τ.1 261 5 - 1).toNat + j) = _
    rw [t5, e5]
    have e : (σ.1 70 2 - 1).toNat = (σ.1 70 2 - 1 - ((0 : Nat) : Int)).toNat := by omega
    rw [e]
  · refine ⟨by unfold HN at *; rw [e1, e2]; exact n1, fun k hk => bb_pt (fun o ho i => a _ (by rcases hk with h | h | h | ⟨r, h1, h2⟩ <;> omega) (by rcases hk with h | h | h | ⟨r, h1, h2⟩ <;> omega) i) (hA k hk), by rw [u5', e2, n2], fun i hi => ?_⟩
    rw [e2, n2] at hi
    rw [hRow_e e1]
    refine IBk_z (zEq_tr (zi i hi) (zEq_pt (fun o ho j => by have := hRow_b τ i; exact a _ (by omega) (by omega) j))) (fun j hj => ?_) (hH.2.2.2 (i + 1) (by omega))
    unfold pst
    rw [hp, u5', e5]
    have e : (σ.1 70 2 - 1 - 1 - (i : Int)).toNat = (σ.1 70 2 - 1 - ((i + 1 : Nat) : Int)).toNat := by omega
    rw [e]
  · exact ⟨by rw [a2 1 (by omega) (by omega) (by omega), b 22 (by omega) (by omega)]; exact hE.1, by rw [a2 1 (by omega) (by omega) (by omega), b 23 (by omega) (by omega)]; exact hE.2⟩
theorem sim_restore {l : Launch} {w : zW} (hfl : l.stackTraces = false) {σ : zS} (hz : zOK σ) (h : Inv σ) : SimW l w False mL_restore mX10_restore 1 [] σ := by
  have e7 := h.2.1.2.1
  by_cases g : σ.1 0 5 = 1
  case neg =>
    have g0 : σ.1 0 5 = 0 := h.2.1.1.resolve_right g
    exact simT 0 (wL_restore hfl hz (Nat.le_of_ble_eq_true rfl) (Nat.le_of_ble_eq_true rfl) (zthr_q (sX9_restore_f1 hfl hz g0)) (fun o τ q => Or.inr q.1)) (fun j hj => by rcases j with _ | _ | _ | j <;> first | rfl | (exfalso; revert hj; simp)) (by decide) (fun τ e => by subst e; exact ⟨hz, _, sX10_restore_t1 (D := bk σ 30) hfl hz h.1.1 h.1.2.2 (e7.trans g0), fun υ q => ⟨q.1, q.2.2, Inv_q (v := σ.2) h (zSame_rf _ _) q.2.1⟩⟩)
  refine simR (wL_restore hfl hz (Nat.le_of_ble_eq_true rfl) (Nat.le_of_ble_eq_true rfl) (sX9_restore hfl hz h.2.2.1.2.1 g) (fun o τ q => Or.inl ⟨_, q.1⟩)) (fun τ e => ?_) (fun q => q.elim)
  obtain ⟨z, s, n1, n2, z0, hA⟩ := e
  have hb := h.2.1.2.2 g
  have t7 : τ.1 261 7 = 1 := (s.1 261 (by first | omega | (dsimp only; omega)) 7).trans (e7.trans g)
  have t3 : τ.1 263 3 = σ.1 62 0 := (s.1 263 (by first | omega | (dsimp only; omega)) 3).trans hb.2.2.1.2.2.2
  have m := sX10_restore (l := l) (w := w) (σ := (τ.1, zt (σ.1 62 0))) hfl z t7
  refine ⟨z, _, zSp_mono m (fun o υ q => ⟨q.1.trans (congrArg (fun a : Int => (Sum.inl (some (.inl a)) : Option zV ⊕ String)) t3), q.2⟩), fun υ q => ⟨q.1, q.2.2.2.1, q.2.1.2.2, ?_⟩⟩
  obtain ⟨zu, f, u5, u6, ur⟩ := q
  obtain ⟨hB, hS, hH, hI, hE, hO⟩ := h
  have a : ∀ k, k ≠ 262 → k ≠ 261 → ∀ i, υ.1 k i = τ.1 k i := fun k h1 h2 i => f.1 k h1 h2 i
  have a2 : ∀ k, k ≠ 262 → k ≠ 261 → ¬ (k = 70 ∨ (30 ≤ k ∧ k ≤ 49)) → ∀ i, υ.1 k i = σ.1 k i := fun k h1 h2 h3 i => (a k h1 h2 i).trans (s.1 k h3 i)
  have b : ∀ i, i ≠ 5 → i ≠ 6 → υ.1 261 i = σ.1 261 i := fun i h1 h2 => (f.2.1 i (by first | omega | (dsimp only; omega))).trans (s.1 261 (by first | omega | (dsimp only; omega)) i)
  have e1 := a 70 (by omega) (by omega) 1
  have e2 := a 70 (by omega) (by omega) 2
  have hN := hH.1
  refine ⟨?_, IS_s (a2 0 (by omega) (by omega) (by omega) 5) (fun q h1 h2 i => a2 q (by omega) (by omega) (by omega) i) (b 7 (by omega) (by omega)) (a2 263 (by omega) (by omega) (by omega)) hS, ?_, II_s (a2 1 (by omega) (by omega) (by omega) 1) (a2 2 (by omega) (by omega) (by omega)) (b 16 (by omega) (by omega)) (a2 269 (by omega) (by omega) (by omega)) (by rw [b 19 (by omega) (by omega)]; exact hI.2) hI, ?_, IO_s (a2 259 (by omega) (by omega) (by omega) 1) (a2 260 (by omega) (by omega) (by omega)) (b 27 (by omega) (by omega)) (a2 271 (by omega) (by omega) (by omega)) hO⟩
  · exact IBk_z (r' := υ.1 262) (zEq_tr z0 (zEq_pt (fun o ho i => a _ (by omega) (by omega) i))) (fun j hj => (ur j hj).trans (s.1 263 (by first | omega | (dsimp only; omega)) j)) hb
  · refine ⟨by unfold HN at *; rw [e1, e2, n1, n2]; omega, fun k hk => bb_pt (fun o ho i => a _ (by rcases hk with h | h | h | ⟨r, h1, h2⟩ <;> omega) (by rcases hk with h | h | h | ⟨r, h1, h2⟩ <;> omega) i) (hA k hk), by rw [u5, e2, n2], fun i hi => ?_⟩
    rw [e2, n2] at hi
    omega
  · exact ⟨by rw [a2 1 (by omega) (by omega) (by omega), b 22 (by omega) (by omega)]; exact hE.1, by rw [a2 1 (by omega) (by omega) (by omega), b 23 (by omega) (by omega)]; exact hE.2⟩
theorem sim_save {l : Launch} {w : zW} (hfl : l.stackTraces = false) {σ : zS} (hz : zOK σ) (h : Inv σ) : SimD l w mX9_save mX10_save 3 1 [] σ := by
  refine simD (sX9_save hfl hz h.1.1 h.2.2.1.2.1) (fun τ e => ?_)
  obtain ⟨z, s, n5, z0, hA⟩ := e
  have hR : Rel (bk σ 30) (τ.1 262) := Rel_sj s (by first | omega | (dsimp only; omega)) h.1.2.2
  refine ⟨z, _, sX10_save (D := bk σ 30) hfl z h.1.1 hR, fun υ q => ⟨q.1, ?_⟩⟩
  obtain ⟨zu, f, u7, u6, ur⟩ := q
  obtain ⟨hB, hS, hH, hI, hE, hO⟩ := h
  have a : ∀ k, k ≠ 263 → k ≠ 261 → ∀ i, υ.1 k i = τ.1 k i := fun k h1 h2 i => f.1 k h1 h2 i
  have a2 : ∀ k, k ≠ 263 → k ≠ 261 → ¬ (k = 0 ∨ (50 ≤ k ∧ k ≤ 69)) → ∀ i, υ.1 k i = σ.1 k i := fun k h1 h2 h3 i => (a k h1 h2 i).trans (s.1 k h3 i)
  have b : ∀ i, i ≠ 6 → i ≠ 7 → υ.1 261 i = σ.1 261 i := fun i h1 h2 => (f.2.1 i (by first | omega | (dsimp only; omega))).trans (s.1 261 (by first | omega | (dsimp only; omega)) i)
  have e0 : υ.1 0 5 = 1 := (a 0 (by omega) (by omega) 5).trans n5
  refine ⟨IB_s (fun q h1 h2 i => a2 q (by omega) (by omega) (by omega) i) (by rw [show υ.1 262 = τ.1 262 from funext (a 262 (by omega) (by omega))]; exact hR) hB, ⟨Or.inr e0, u7.trans e0.symm, fun _ => IBk_z (r' := υ.1 263) (zEq_tr z0 (zEq_pt (fun o ho i => a _ (by omega) (by omega) i))) (fun j hj => (ur j hj).trans (s.1 262 (by first | omega | (dsimp only; omega)) j)) hB⟩, IH_s (a2 70 (by omega) (by omega) (by omega) 1) (a2 70 (by omega) (by omega) (by omega) 2) (fun i _ => zEq_pt (fun o ho j => by have := hRow_b σ i; exact a2 _ (by omega) (by omega) (by omega) j)) (fun k hk => bb_pt (fun o ho i => a _ (by rcases hk with h | h | h | ⟨r, h1, h2⟩ <;> omega) (by rcases hk with h | h | h | ⟨r, h1, h2⟩ <;> omega) i) (hA k hk)) (b 5 (by omega) (by omega)) (a2 266 (by omega) (by omega) (by omega)) hH, II_s (a2 1 (by omega) (by omega) (by omega) 1) (a2 2 (by omega) (by omega) (by omega)) (b 16 (by omega) (by omega)) (a2 269 (by omega) (by omega) (by omega)) (by rw [b 19 (by omega) (by omega)]; exact hI.2) hI, ?_, IO_s (a2 259 (by omega) (by omega) (by omega) 1) (a2 260 (by omega) (by omega) (by omega)) (b 27 (by omega) (by omega)) (a2 271 (by omega) (by omega) (by omega)) hO⟩
  exact ⟨by rw [a2 1 (by omega) (by omega) (by omega), b 22 (by omega) (by omega)]; exact hE.1, by rw [a2 1 (by omega) (by omega) (by omega), b 23 (by omega) (by omega)]; exact hE.2⟩
theorem sim_formatVerdict {l : Launch} {w : zW} (hfl : l.stackTraces = false) {σ : zS} (hz : zOK σ) (h : Inv σ) : SimD l w mX9_formatVerdict mX10_formatVerdict 6 11 [] σ := by
  have hP1 : 1 ≤ σ.1 31 0 := h.1.2.1
  refine simD (sX9_formatVerdict hfl hz h.1.1 hP1) (fun τ e => ?_)
  obtain ⟨z, s, o1⟩ := e
  have hR : Rel (bk σ 30) (τ.1 262) := Rel_sj s (by first | omega | (dsimp only; omega)) h.1.2.2
  refine ⟨z, _, sX10_formatVerdict (D := bk σ 30) hfl z h.1.1 hR hP1, fun υ q => ⟨q.1, ?_⟩⟩
  obtain ⟨zu, f, o2, u6⟩ := q
  obtain ⟨hB, hS, hH, hI, hE, hO⟩ := h
  have a : ∀ k, ¬ (k = 267 ∨ k = 268 ∨ k = 271) → k ≠ 261 → ∀ i, υ.1 k i = τ.1 k i := fun k h1 h2 i => f.1 k h1 h2 i
  have a2 : ∀ k, ¬ (k = 267 ∨ k = 268 ∨ k = 271) → k ≠ 261 → ¬ (252 ≤ k ∧ k ≤ 260) → ∀ i, υ.1 k i = σ.1 k i := fun k h1 h2 h3 i => (a k h1 h2 i).trans (s.1 k h3 i)
  have b : ∀ i, ¬ (i = 6 ∨ (9 ≤ i ∧ i ≤ 11) ∨ i = 13 ∨ i = 27) → υ.1 261 i = σ.1 261 i := fun i h1 => (f.2.1 i h1).trans (s.1 261 (by first | omega | (dsimp only; omega)) i)
  have hK : 0 ≤ bk σ 30 12 0 ∧ bk σ 30 12 0 ≤ 40 := hB.1.1.2.2.2
  have e12 : bk σ 30 12 0 = σ.1 42 0 := rfl
  refine ⟨IB_s (fun q h1 h2 i => a2 q (by omega) (by omega) (by omega) i) (by rw [show υ.1 262 = τ.1 262 from funext (a 262 (by omega) (by omega))]; exact hR) hB, IS_s (a2 0 (by omega) (by omega) (by omega) 5) (fun q h1 h2 i => a2 q (by omega) (by omega) (by omega) i) (b 7 (by omega)) (a2 263 (by omega) (by omega) (by omega)) hS, IH_s (a2 70 (by omega) (by omega) (by omega) 1) (a2 70 (by omega) (by omega) (by omega) 2) (fun i _ => zEq_pt (fun o ho j => by have := hRow_b σ i; exact a2 _ (by omega) (by omega) (by omega) j)) (HBA_s (fun q hq i => a2 q (by omega) (by omega) (by omega) i) hH.2.1) (b 5 (by omega)) (a2 266 (by omega) (by omega) (by omega)) hH, II_s (a2 1 (by omega) (by omega) (by omega) 1) (a2 2 (by omega) (by omega) (by omega)) (b 16 (by omega)) (a2 269 (by omega) (by omega) (by omega)) (by rw [b 19 (by omega)]; exact hI.2) hI, ?_, ⟨_, ⟨(a 259 (by omega) (by omega) 1).trans o1.1, fun i hi => (a 260 (by omega) (by omega) i).trans (o1.2 i hi)⟩, o2, ?_⟩⟩
  · exact ⟨by rw [a2 1 (by omega) (by omega) (by omega), b 22 (by omega)]; exact hE.1, by rw [a2 1 (by omega) (by omega) (by omega), b 23 (by omega)]; exact hE.2⟩
  · have hq := fmL_l hB.1 (n := (σ.1 42 0).toNat) (by omega)
    exact Nat.le_trans hq (by omega)
theorem sim_outputByte {l : Launch} {w : zW} (hfl : l.stackTraces = false) {σ : zS} (hz : zOK σ) (h : Inv σ) {x : Int} (hx : zr x) : SimD l w mX9_outputByte mX10_outputByte 1 1 [zi x] σ := by
  obtain ⟨L, o1, o2, hl⟩ := h.2.2.2.2.2
  exact simD (zret_q (sX9_outputByte hfl hz hx o1 hl)) (fun τ e => by subst e; exact ⟨hz, _, sX10_outputByte hfl hz hx o2 hl, fun υ q => ⟨q.1, Inv_q (v := σ.2) h (zSame_rf _ _) (mfr_q (F := fun _ => False) q.2.1 h.1.2.2)⟩⟩)
def SimC (l : Launch) (w : zW) (mX mM : zM) (hx hm : Nat) (σ : zS) : Prop := ∃ (v : UInt64) (QC : zQ), Sp l w mX hx 0 [zf 9 0] σ QC ∧ ∀ o τ, QC o τ → o = .inl (some (zd v)) ∧ zOK τ ∧ ∃ QM : zQ, Sp l w mM hm 0 [zf 10 261] τ QM ∧ ∀ o' υ, QM o' υ → o' = .inl (some (zd v)) ∧ zOK υ ∧ Inv υ
theorem sim_confidence {l : Launch} {w : zW} (hfl : l.stackTraces = false) {σ : zS} (hz : zOK σ) (h : Inv σ) : SimC l w mX9_confidence mX10_confidence 6 12 σ := by
  have hP1 : 1 ≤ σ.1 31 0 := h.1.2.1
  refine ⟨cfd (bk σ 30), _, sX9_confidence hfl hz h.1.1 hP1, fun o τ e => ⟨e.1, e.2.1, _, sX10_confidence (D := bk σ 30) hfl e.2.1 h.1.1 (Rel_sj e.2.2 (by first | omega | (dsimp only; omega)) h.1.2.2) hP1, fun o' υ q => ⟨q.1, q.2.1, Inv_q (v := τ.2) h e.2.2 q.2.2.1⟩⟩⟩

set_option maxRecDepth 20000 in
set_option maxHeartbeats 2000000 in
theorem sX10_executeCommands_f2 {l : Launch} {w : zW} (hfl : l.stackTraces = false) {σ : zS} {D : zBk} {t : Nat → Int} {n : Nat}  (hz : zOK σ) (hW : WF D) (hR : Rel D (σ.1 262)) (hT : TM t n σ) (hn : σ.1 261 16 = (n : Int) ∧ n ≤ 1400) (hw19 : 0 ≤ σ.1 261 19 ∧ σ.1 261 19 ≤ 1401) (hw : ¬ (cY t n D 1400).2.1 = 0) : Sp l w mX10_executeCommands 14 0 [zf 10 261] σ (zqv (some (zi 0)) (fun τ => zOK τ ∧ mfr σ τ (fun q => q = 270) (fun i => i = 6 ∨ (16 ≤ i ∧ i ≤ 23) ∨ i = 25) ∧ Rel D (τ.1 262) ∧ τ.1 261 6 = 1 ∧ τ.1 261 16 = 0 ∧ τ.1 261 22 = (cY t n D 1400).2.1 ∧ τ.1 261 23 = (cY t n D 1400).2.2 ∧ 0 ≤ τ.1 261 19 ∧ τ.1 261 19 ≤ 1401)) := by
  obtain ⟨Q, hQ⟩ : ∃ Q : zQ, Q = (zqv (some (zi 0)) (fun τ => zOK τ ∧ mfr σ τ (fun q => q = 270) (fun i => i = 6 ∨ (16 ≤ i ∧ i ≤ 23) ∨ i = 25) ∧ Rel D (τ.1 262) ∧ τ.1 261 6 = 1 ∧ τ.1 261 16 = 0 ∧ τ.1 261 22 = (cY t n D 1400).2.1 ∧ τ.1 261 23 = (cY t n D 1400).2.2 ∧ 0 ≤ τ.1 261 19 ∧ τ.1 261 19 ≤ 1401)) := ⟨_, rfl⟩
  rw [← hQ]
  refine zx_enter hfl (by decide) rfl 1 rfl ?_
  show zX l w mX10_executeCommands (zMQ w 14 0 Q) 0 [zf 10 261, zu] [] 0 σ
  have hP : 0 ≤ D 1 0 ∧ D 1 0 ≤ 8 := hW.1.1
  have hM : 0 ≤ D 1 7 ∧ D 1 7 ≤ 8 := hW.1.2.1
  have hE : 0 ≤ D 1 10 ∧ D 1 10 ≤ 12 := hW.1.2.2.1
  have hK : 0 ≤ D 12 0 ∧ D 12 0 ≤ 40 := hW.1.2.2.2
  have r0 : σ.1 262 0 = D 1 0 := hR.1.1
  have r1 : σ.1 262 1 = D 1 7 := hR.1.2.1
  have r2 : σ.1 262 2 = D 1 10 := hR.1.2.2.1
  have r3 : σ.1 262 3 = D 12 0 := hR.1.2.2.2
  refine zx_aloadN dX10_executeCommands_0 rfl rfl ?_
  refine zy_cvvR [] (sX10_startsText  hfl hz hT hn hw19) dX10_executeCommands_1 (by decide) rfl cw_RX10_339 okX10_startsText rfl (Nat.le_of_ble_eq_true rfl) ⟨Nat.le_of_ble_eq_true rfl, Nat.le_of_ble_eq_true rfl, Nat.le_of_ble_eq_true rfl, Nat.le_of_ble_eq_true rfl⟩ (fun τ1 hr1 => ?_)
  have hz1 : zOK τ1 := hr1.1
  refine zx_aloadN dX10_executeCommands_4 rfl rfl ?_
  refine zx_iconst dX10_executeCommands_5 ?_
  refine zx_putI fl_RX10_366 rfl (Or.inl fp_10_25) dX10_executeCommands_6 ?_
  have L9 : ∀ (N : Nat) (τ : zS) (k : Nat), (zOK τ) → (MC σ τ) → (∀ i, i < k → mor t n (cY t n D i)) → (PM t n (cY t n D k) τ) → ((cY t n D k).2.1 = 0 → τ.1 261 25 = ((k : Nat) : Int) ∧ ∀ i, i < k → mWr τ i (vct t n (cY t n D i).1) (cV t n (vct t n (cY t n D i).1) D (pN t n (cY t n D i)))) → (k ≤ 31) → (32 - k) < N → zX l w mX10_executeCommands (zMQ w 14 0 Q) 9 [zf 10 261, zu] [] 0 τ := by
    intro N
    induction N with
    | zero => intro τ k _ _ _ _ _ _ _; exact absurd (by assumption) (Nat.not_lt_zero _)
    | succ N ih9 =>
      intro τ k hz h1 h2 h3k h4k hk hN
      have hRt := MC_R h1 hR
      refine zx_aloadN dX10_executeCommands_9 rfl rfl ?_
      refine zy_getI fl_RX10_243 rfl dX10_executeCommands_10 rfl ?_
      refine zx_if_ne (tgt := 31) (by first | exact hz _ _ | assumption | exact zr_b _ | exact zcmp_r _ _ | (unfold zr at *; omega)) dX10_executeCommands_13 (by decide) (fun h13 => ?_) (fun h13 => ?_)
      · have hme : ¬ mor t n (cY t n D k) := fun q => h13 (h3k.2.2.2.1.1.trans q.1)
        have pb : PM t n (cY t n D k) τ := h3k
        have mb : MC σ τ := h1
        have wb : (cY t n D k).2.1 = 0 → τ.1 261 25 = ((k : Nat) : Int) ∧ ∀ i, i < k → mWr τ i (vct t n (cY t n D i).1) (cV t n (vct t n (cY t n D i).1) D (pN t n (cY t n D i))) := h4k
        have hcf := cY_g hk hme
        refine zx_aloadN dX10_executeCommands_31 rfl rfl ?_
        refine zx_aloadN dX10_executeCommands_32 rfl rfl ?_
        refine zy_cvR [] (sX10_endsText  hfl hz ) dX10_executeCommands_33 (by decide) rfl cw_RX10_345 okX10_endsText rfl (Nat.le_of_ble_eq_true rfl) ⟨Nat.le_of_ble_eq_true rfl, Nat.le_of_ble_eq_true rfl, Nat.le_of_ble_eq_true rfl, Nat.le_of_ble_eq_true rfl⟩ (fun τ33 hr33 => ?_)
        have hz33 : zOK τ33 := hr33.1
        have me := mfr_end hr33.2.1 hr33.2.2
        have b20 := pb.2.2.2.1.1
        have b21 := pb.2.2.2.1.2
        have b19 := pb.2.2.2.2.1
        have e16 : τ33.1 261 16 = 0 := (hr33.2.1 261 16).trans (if_pos ⟨rfl, rfl⟩)
        have e22 : τ33.1 261 22 = (cY t n D 1400).2.1 := (hr33.2.1 261 22).trans (by rw [if_neg (by omega), if_pos ⟨rfl, rfl⟩, hcf]; exact b20)
        have e23 : τ33.1 261 23 = (cY t n D 1400).2.2 := (hr33.2.1 261 23).trans (by rw [if_neg (by omega), if_neg (by omega), if_pos ⟨rfl, rfl⟩, hcf]; exact b21)
        have e19 : 0 ≤ τ33.1 261 19 ∧ τ33.1 261 19 ≤ 1401 := by rw [me.2.1 19 (by decide)]; omega
        have m33 : mfr σ τ33 (fun q => q = 270) (fun i => (16 ≤ i ∧ i ≤ 23) ∨ i = 25) := mfr_tr mb me (fun k q => q.elim id (fun r => absurd r id)) (fun i q => by omega)
        have R33 : Rel D (τ33.1 262) := mfr_R m33 (by decide) hR
        refine zy_cv [zi (zb (τ.1 261 20 = 0))] (sX10_passes (A := (τ.1 261 20 = 0)) hfl hz33 ) dX10_executeCommands_36 (by decide) rfl cw_RX10_220 okX10_passes rfl (Nat.le_of_ble_eq_true rfl) ⟨Nat.le_of_ble_eq_true rfl, Nat.le_of_ble_eq_true rfl, Nat.le_of_ble_eq_true rfl, Nat.le_of_ble_eq_true rfl⟩ ?_
        refine zx_if_ne (tgt := 44) (by first | exact hz33 _ _ | assumption | exact zr_b _ | exact zcmp_r _ _ | (unfold zr at *; omega)) dX10_executeCommands_39 (by decide) (fun h39 => ?_) (fun h39 => ?_)
        · have h39 := zb_n.mp h39
          exact absurd (by rw [hcf]; exact b20.symm.trans (by assumption)) hw
        · have h39 := zb_0.mp h39
          refine zx_iconst dX10_executeCommands_42 ?_
          refine zx_iret rfl rfl dX10_executeCommands_43 ?_
          rw [hQ]
          refine ⟨congrArg (fun z : Int => (Sum.inl (some (zi z)) : Option zV ⊕ String)) ?_, ?_⟩
          · rfl
          have f6 : ∀ i v, i ≠ 6 → (zput τ33 261 6 v).1 261 i = τ33.1 261 i := fun i v hi => zput_i _ _ _ _ _ hi
          refine ⟨(zOK_put hz33 (zr_b _)), mfr_mo (mfr_put261 m33) (fun k q => q) (fun i q => by omega), Rel_put (by decide) R33, (zput_s _ _ _ _).trans (zb_t (by assumption)), ?_, ?_, ?_, ?_⟩
          · exact (f6 _ _ (by decide)).trans e16
          · exact (f6 _ _ (by decide)).trans e22
          · exact (f6 _ _ (by decide)).trans e23
          · exact ⟨by rw [f6 _ _ (by decide)]; exact e19.1, by rw [f6 _ _ (by decide)]; exact e19.2⟩
      · have z : (cY t n D k).2.1 = 0 := h3k.2.2.2.1.1.symm.trans h13
        obtain ⟨hkc, hmw⟩ := h4k z
        have hxe := (h3k.2.2.2.2.2 z).2.2
        have hTt := h3k.1
        refine zx_aloadN dX10_executeCommands_16 rfl rfl ?_
        refine zy_cvR [] (sX10_next (S := (cY t n D k)) hfl hz h3k) dX10_executeCommands_17 (by decide) rfl cw_RX10_249 okX10_next rfl (Nat.le_of_ble_eq_true rfl) ⟨Nat.le_of_ble_eq_true rfl, Nat.le_of_ble_eq_true rfl, Nat.le_of_ble_eq_true rfl, Nat.le_of_ble_eq_true rfl⟩ (fun τ17 hr17 => ?_)
        have hz17 : zOK τ17 := hr17.1
        refine zy_top (b := uM τ n (xS t n (cY t n D k).1)) (by rw [hxe]) ?_
        have huz := uM_z hz n (xS t n (cY t n D k).1)
        have hun := uM_n (k := xS t n (cY t n D k).1) hTt
        have hR17 := MX_R hr17.2.1 hRt
        have k17 : τ17.1 261 25 = ((k : Nat) : Int) := (MX_c hr17.2.1 (by decide)).trans hkc
        refine zx_iconst dX10_executeCommands_20 ?_
        refine zx_icmp_eq (tgt := 31) (by first | exact hz17 _ _ | assumption | exact zr_b _ | exact zcmp_r _ _ | (unfold zr at *; omega)) (by first | exact hz17 _ _ | assumption | exact zr_b _ | exact zcmp_r _ _ | (unfold zr at *; omega)) dX10_executeCommands_21 (by decide) (fun h21 => ?_) (fun h21 => ?_)
        · have hme : ¬ mor t n (cY t n D k) := fun q => q.2 (by unfold xK; rw [if_pos (hun.mp h21)])
          have pb : PM t n (cY t n D k) τ17 := hr17.2.2.1
          have mb : MC σ τ17 := MC_x h1 hr17.2.1
          have wb : (cY t n D k).2.1 = 0 → τ17.1 261 25 = ((k : Nat) : Int) ∧ ∀ i, i < k → mWr τ17 i (vct t n (cY t n D i).1) (cV t n (vct t n (cY t n D i).1) D (pN t n (cY t n D i))) := fun _ => ⟨k17, fun i hi => mWr_e (fun j _ => MX_270 hr17.2.1 j) (hmw i hi)⟩
          have hcf := cY_g hk hme
          refine zx_aloadN dX10_executeCommands_31 rfl rfl ?_
          refine zx_aloadN dX10_executeCommands_32 rfl rfl ?_
          refine zy_cvR [] (sX10_endsText  hfl hz17 ) dX10_executeCommands_33 (by decide) rfl cw_RX10_345 okX10_endsText rfl (Nat.le_of_ble_eq_true rfl) ⟨Nat.le_of_ble_eq_true rfl, Nat.le_of_ble_eq_true rfl, Nat.le_of_ble_eq_true rfl, Nat.le_of_ble_eq_true rfl⟩ (fun τ33 hr33 => ?_)
          have hz33 : zOK τ33 := hr33.1
          have me := mfr_end hr33.2.1 hr33.2.2
          have b20 := pb.2.2.2.1.1
          have b21 := pb.2.2.2.1.2
          have b19 := pb.2.2.2.2.1
          have e16 : τ33.1 261 16 = 0 := (hr33.2.1 261 16).trans (if_pos ⟨rfl, rfl⟩)
          have e22 : τ33.1 261 22 = (cY t n D 1400).2.1 := (hr33.2.1 261 22).trans (by rw [if_neg (by omega), if_pos ⟨rfl, rfl⟩, hcf]; exact b20)
          have e23 : τ33.1 261 23 = (cY t n D 1400).2.2 := (hr33.2.1 261 23).trans (by rw [if_neg (by omega), if_neg (by omega), if_pos ⟨rfl, rfl⟩, hcf]; exact b21)
          have e19 : 0 ≤ τ33.1 261 19 ∧ τ33.1 261 19 ≤ 1401 := by rw [me.2.1 19 (by decide)]; omega
          have m33 : mfr σ τ33 (fun q => q = 270) (fun i => (16 ≤ i ∧ i ≤ 23) ∨ i = 25) := mfr_tr mb me (fun k q => q.elim id (fun r => absurd r id)) (fun i q => by omega)
          have R33 : Rel D (τ33.1 262) := mfr_R m33 (by decide) hR
          refine zy_cv [zi (zb (τ17.1 261 20 = 0))] (sX10_passes (A := (τ17.1 261 20 = 0)) hfl hz33 ) dX10_executeCommands_36 (by decide) rfl cw_RX10_220 okX10_passes rfl (Nat.le_of_ble_eq_true rfl) ⟨Nat.le_of_ble_eq_true rfl, Nat.le_of_ble_eq_true rfl, Nat.le_of_ble_eq_true rfl, Nat.le_of_ble_eq_true rfl⟩ ?_
          refine zx_if_ne (tgt := 44) (by first | exact hz33 _ _ | assumption | exact zr_b _ | exact zcmp_r _ _ | (unfold zr at *; omega)) dX10_executeCommands_39 (by decide) (fun h39 => ?_) (fun h39 => ?_)
          · have h39 := zb_n.mp h39
            exact absurd (by rw [hcf]; exact b20.symm.trans (by assumption)) hw
          · have h39 := zb_0.mp h39
            refine zx_iconst dX10_executeCommands_42 ?_
            refine zx_iret rfl rfl dX10_executeCommands_43 ?_
            rw [hQ]
            refine ⟨congrArg (fun z : Int => (Sum.inl (some (zi z)) : Option zV ⊕ String)) ?_, ?_⟩
            · rfl
            have f6 : ∀ i v, i ≠ 6 → (zput τ33 261 6 v).1 261 i = τ33.1 261 i := fun i v hi => zput_i _ _ _ _ _ hi
            refine ⟨(zOK_put hz33 (zr_b _)), mfr_mo (mfr_put261 m33) (fun k q => q) (fun i q => by omega), Rel_put (by decide) R33, (zput_s _ _ _ _).trans (zb_t (by assumption)), ?_, ?_, ?_, ?_⟩
            · exact (f6 _ _ (by decide)).trans e16
            · exact (f6 _ _ (by decide)).trans e22
            · exact (f6 _ _ (by decide)).trans e23
            · exact ⟨by rw [f6 _ _ (by decide)]; exact e19.1, by rw [f6 _ _ (by decide)]; exact e19.2⟩
        · have hmk : mor t n (cY t n D k) := ⟨z, by have a := kb_r (t (xS t n (cY t n D k).1)); unfold xK; rw [if_neg (fun q => h21 (hun.mpr q))]; omega⟩
          have hk30 := cY_5 h2 z
          refine zx_aloadN dX10_executeCommands_24 rfl rfl ?_
          refine zy_cvvR [] (sX10_readsOne (D := D) (S := (cY t n D k)) (k := k) hfl hz17 (by first | assumption | omega) hR17 hr17.2.2.1 z ⟨k17, hk30⟩) dX10_executeCommands_25 (by decide) rfl cw_RX10_387 okX10_readsOne rfl (Nat.le_of_ble_eq_true rfl) ⟨Nat.le_of_ble_eq_true rfl, Nat.le_of_ble_eq_true rfl, Nat.le_of_ble_eq_true rfl, Nat.le_of_ble_eq_true rfl⟩ (fun τ25 hr25 => ?_)
          have hz25 : zOK τ25 := hr25.1
          have n1 : MC σ τ25 := MC_tr (MC_x h1 hr17.2.1) hr25.2.1
          have n2 : ∀ i, i < k + 1 → mor t n (cY t n D i) := fun i hi => by
            rcases Nat.lt_or_ge i k with q | q
            · exact h2 i q
            · rw [show i = k by omega]; exact hmk
          have n3 : PM t n (cY t n D (k + 1)) τ25 := by rw [cY_N hmk]; exact hr25.2.2.2.1
          have n4 : (cY t n D (k + 1)).2.1 = 0 → τ25.1 261 25 = ((k + 1 : Nat) : Int) ∧ ∀ i, i < k + 1 → mWr τ25 i (vct t n (cY t n D i).1) (cV t n (vct t n (cY t n D i).1) D (pN t n (cY t n D i))) := fun q => by
            rw [cY_N hmk] at q
            have hq := hr25.2.2.2.2 q
            refine ⟨hq.1, fun i hi => ?_⟩
            rcases Nat.lt_or_ge i k with r | r
            · exact mWr_e (fun j hj => (hr25.2.2.1 j (by omega)).trans (MX_270 hr17.2.1 j)) (hmw i r)
            · have ei : i = k := by omega
              subst ei
              exact hq.2
          refine zx_goto (tgt := 9) dX10_executeCommands_28 (by decide) ?_
          exact ih9 τ25 (k + 1) hz25 n1 n2 n3 n4 (by omega) (by omega)
  exact L9 _ (zput τ1 261 25 0) 0 (zOK_put hz1 (by unfold zr; omega)) (MC_q (MC_x (MC_rf _) hr1.2.1)) (fun i hi => absurd hi (Nat.not_lt_zero i)) (PM_25 (by decide) hr1.2.2) (fun _ => ⟨zput_s _ _ _ _, fun i hi => absurd hi (Nat.not_lt_zero i)⟩) (by omega) (Nat.lt_succ_self _)
theorem TM_to {σ τ : zS} {t : Nat → Int} {n : Nat} (e : ∀ i, τ.1 269 i = σ.1 269 i) (h : TM t n σ) : TM t n τ := TM_e e h
theorem sim_load {l : Launch} {w : zW} (hfl : l.stackTraces = false) {σ : zS} (hz : zOK σ) (h : Inv σ) : SimW l w False mL_load mX10_load 8 [] σ := by
  obtain ⟨n, h1, h2, h3⟩ := II_T h.2.2.2.1
  have h19 := h.2.2.2.1.2
  have hc := sX9_load (l := l) (w := w) (t := σ.1 2) (n := n) hfl hz h.2.2.1.2.1 (fun _ => rfl) h1
  refine ⟨_, wL_load hfl hz (Nat.le_of_ble_eq_true rfl) (Nat.le_of_ble_eq_true rfl) hc (fun o τ q => ?_), fun o τ hq => ?_⟩
  · obtain ⟨X, M, -, -, -, -, -, q | q⟩ := q
    · exact Or.inl ⟨_, q.2.1⟩
    · exact Or.inr q.2.1
  rcases hq with ⟨v, υ, q, h4, h5⟩ | ⟨E, j, q, h4, h5⟩
  · obtain ⟨X, M, c1, c2, c3, c4, c5, d | d⟩ := q
    · obtain ⟨d0, d1, s, d2, d3, d4⟩ := d
      have ev : (X M).2.2 12 0 = v := by injection d1 with d1; injection d1 with d1; injection d1 with d1; exact d1.symm
      subst ev
      refine ⟨0, h4, zr0, by rw [h5]; exact c3, ?_⟩
      rw [h5]
      have s26 : ∀ i, υ.1 261 i = σ.1 261 i := s.1 261 (by first | omega | (dsimp only; omega))
      have s69 : ∀ i, υ.1 269 i = σ.1 269 i := s.1 269 (by first | omega | (dsimp only; omega))
      have hR : Rel (bk σ 30) (υ.1 262) := Rel_sj s (by first | omega | (dsimp only; omega)) h.1.2.2
      refine ⟨_, sX10_load (D := bk σ 30) (t := σ.1 2) (n := n) (X := X) (M := M) (σ := (υ.1, zt ((X M).2.2 12 0))) hfl c3 h.1.1 hR (TM_to (σ := σ) s69 h3) (by show υ.1 261 16 = (n : Int) ∧ n ≤ 1400; rw [s26]; exact h2) (by show 0 ≤ υ.1 261 19 ∧ υ.1 261 19 ≤ 1401; rw [s26]; exact h19) c1 c2 d0, fun o' ρ q => ?_⟩
      obtain ⟨q0, zu, f, rR, r5, r6, r16, r22, r23, r19⟩ := q
      refine ⟨_, q0, zu, r6, fun _ => f.2.2, fun q => q.elim, ?_⟩
      obtain ⟨hB, hS, hH, hI, hE, hO⟩ := h
      have a : ∀ k, ¬ lA k → k ≠ 261 → ∀ i, ρ.1 k i = υ.1 k i := fun k e1 e2 i => f.1 k e1 e2 i
      have a2 : ∀ k, ¬ lA k → k ≠ 261 → ¬ (k = 1 ∨ (4 ≤ k ∧ k ≤ 23) ∨ (30 ≤ k ∧ k ≤ 49) ∨ k = 70) → ∀ i, ρ.1 k i = σ.1 k i := fun k e1 e2 e3 i => (a k e1 e2 i).trans (s.1 k e3 i)
      have b : ∀ i, ¬ lF i → ρ.1 261 i = σ.1 261 i := fun i e1 => (f.2.1 i e1).trans (s26 i)
      have wX := (c1.2.1 M (Nat.le_refl M)).1
      have p1 : 1 ≤ (X M).2.2 1 0 := by
        have hn := wX.1.1
        rcases Int.lt_or_le 0 ((X M).2.2 1 0) with g | g
        · omega
        · exfalso
          unfold cFin at d0
          rw [if_pos (by omega)] at d0
          exact pF_nz (by decide) d0
      have zz : zEq (X M).2.2 (bk ρ 30) := zEq_tr d2 (zEq_pt (fun o ho i => a _ (by unfold lA; omega) (by omega) i))
      have e1 := a 70 (by unfold lA; omega) (by omega) 1
      have e2 := a 70 (by unfold lA; omega) (by omega) 2
      have hN := hH.1
      refine ⟨IBk_l (lEq_z wX zz) (WF_eq zz wX) p1 rR, IS_s (a2 0 (by unfold lA; omega) (by omega) (by omega) 5) (fun q e1 e2 i => a2 q (by unfold lA; omega) (by omega) (by omega) i) (b 7 (by unfold lF; omega)) (a2 263 (by unfold lA; omega) (by omega) (by omega)) hS, ⟨by unfold HN at *; rw [e1, e2, d3, d4]; omega, HBA_s (fun q hq i => a q (by unfold lA; omega) (by omega) i) c4, by rw [r5, e2, d4], fun i hi => ?_⟩, II_0 ((a 1 (by unfold lA; omega) (by omega) 1).trans c5.1) r16 r19, ⟨((a 1 (by unfold lA; omega) (by omega) 5).trans c5.2.1).trans r22.symm, ((a 1 (by unfold lA; omega) (by omega) 6).trans c5.2.2).trans r23.symm⟩, IO_s (a2 259 (by unfold lA; omega) (by omega) (by omega) 1) (a2 260 (by unfold lA; omega) (by omega) (by omega)) (b 27 (by unfold lF; omega)) (a2 271 (by unfold lA; omega) (by omega) (by omega)) hO⟩
      rw [e2, d4] at hi
      omega
    · exact absurd d.2.1 (fun q => by cases q)
  · obtain ⟨X, M, c1, c2, c3, c4, c5, d | d⟩ := q
    · exact absurd d.2.1 (fun q => by cases q)
    · obtain ⟨d0, d1, s⟩ := d
      have hj : j = 0 := by rcases j with _ | j <;> first | rfl | (exfalso; revert h4; simp)
      subst hj
      have s26 : ∀ i, τ.1 261 i = σ.1 261 i := s.1 261 (by first | omega | (dsimp only; omega))
      have s69 : ∀ i, τ.1 269 i = σ.1 269 i := s.1 269 (by first | omega | (dsimp only; omega))
      have hR : Rel (bk σ 30) (τ.1 262) := Rel_sj s (by first | omega | (dsimp only; omega)) h.1.2.2
      refine ⟨_, h5, by unfold zr; omega, c3, _, sX10_load_f (D := bk σ 30) (t := σ.1 2) (n := n) (X := X) (M := M) hfl c3 h.1.1 hR (TM_to s69 h3) (by rw [s26]; exact h2) (by rw [s26]; exact h19) c1 c2 d0, fun o' ρ q => ?_⟩
      obtain ⟨q0, zu, f, rR, r6, r16, r22, r23, r19⟩ := q
      refine ⟨_, q0, zu, r6, fun e => absurd e (by decide), fun q => q.elim, ?_⟩
      obtain ⟨hB, hS, hH, hI, hE, hO⟩ := h
      have a : ∀ k, ¬ lA k → k ≠ 261 → ∀ i, ρ.1 k i = τ.1 k i := fun k e1 e2 i => f.1 k e1 e2 i
      have a2 : ∀ k, ¬ lA k → k ≠ 261 → ¬ (k = 1 ∨ (4 ≤ k ∧ k ≤ 23)) → ∀ i, ρ.1 k i = σ.1 k i := fun k e1 e2 e3 i => (a k e1 e2 i).trans (s.1 k e3 i)
      have b : ∀ i, ¬ lG i → ρ.1 261 i = σ.1 261 i := fun i e1 => (f.2.1 i e1).trans (s26 i)
      exact ⟨IB_s (fun q e1 e2 i => a2 q (by unfold lA; omega) (by omega) (by omega) i) rR hB, IS_s (a2 0 (by unfold lA; omega) (by omega) (by omega) 5) (fun q e1 e2 i => a2 q (by unfold lA; omega) (by omega) (by omega) i) (b 7 (by unfold lG; omega)) (a2 263 (by unfold lA; omega) (by omega) (by omega)) hS, IH_s (a2 70 (by unfold lA; omega) (by omega) (by omega) 1) (a2 70 (by unfold lA; omega) (by omega) (by omega) 2) (fun i _ => zEq_pt (fun o ho j => by have := hRow_b σ i; exact a2 _ (by unfold lA; omega) (by omega) (by omega) j)) (HBA_s (fun q hq i => a q (by unfold lA; omega) (by omega) i) c4) (b 5 (by unfold lG; omega)) (a2 266 (by unfold lA; omega) (by omega) (by omega)) hH, II_0 ((a 1 (by unfold lA; omega) (by omega) 1).trans c5.1) r16 r19, ⟨((a 1 (by unfold lA; omega) (by omega) 5).trans c5.2.1).trans r22.symm, ((a 1 (by unfold lA; omega) (by omega) 6).trans c5.2.2).trans r23.symm⟩, IO_s (a2 259 (by unfold lA; omega) (by omega) (by omega) 1) (a2 260 (by unfold lA; omega) (by omega) (by omega)) (b 27 (by unfold lG; omega)) (a2 271 (by unfold lA; omega) (by omega) (by omega)) hO⟩
theorem sim_executeCommands {l : Launch} {w : zW} (hfl : l.stackTraces = false) {σ : zS} (hz : zOK σ) (h : Inv σ) : SimW l w False mL_executeCommands mX10_executeCommands 14 [] σ := by
  obtain ⟨n, h1, h2, h3⟩ := II_T h.2.2.2.1
  have h19 := h.2.2.2.1.2
  have hP1 : 1 ≤ bk σ 30 1 0 := h.1.2.1
  by_cases g : (cY (σ.1 2) n (bk σ 30) 1400).2.1 = 0
  · have hc := sX9_executeCommands (l := l) (w := w) (t := σ.1 2) (n := n) hfl hz h.1.1 h.2.2.1.1 h.2.2.1.2.1 (fun _ => rfl) h1 g
    refine ⟨_, wL_executeCommands hfl hz (Nat.le_of_ble_eq_true rfl) (Nat.le_of_ble_eq_true rfl) hc (fun o τ q => ?_), fun o τ hq => ?_⟩
    · obtain ⟨X, m, d, q, -⟩ := q
      exact Or.inl ⟨_, q⟩
    rcases hq with ⟨v, υ, q, h4, h5⟩ | ⟨E, j, q, h4, h5⟩
    · obtain ⟨X, m, d, d1, c3, s, c5, hp, hA, hW, eT, lq⟩ := q
      have ev : ((d : Nat) : Int) = v := by injection d1 with d1; injection d1 with d1; injection d1 with d1; exact d1.symm
      subst ev
      refine ⟨0, h4, zr0, by rw [h5]; exact c3, ?_⟩
      rw [h5]
      have s26 : ∀ i, υ.1 261 i = σ.1 261 i := s.1 261 (by first | omega | (dsimp only; omega))
      have s69 : ∀ i, υ.1 269 i = σ.1 269 i := s.1 269 (by first | omega | (dsimp only; omega))
      have s62 : ∀ i, υ.1 262 i = σ.1 262 i := s.1 262 (by first | omega | (dsimp only; omega))
      have s66 : ∀ i, υ.1 266 i = σ.1 266 i := s.1 266 (by first | omega | (dsimp only; omega))
      have hR : Rel (bk σ 30) (υ.1 262) := Rel_sj s (by first | omega | (dsimp only; omega)) h.1.2.2
      refine ⟨_, sX10_executeCommands (D := bk σ 30) (t := σ.1 2) (n := n) (X := X) (m := m) (d := d) (σ := (υ.1, zt ((d : Nat) : Int))) hfl c3 h.1.1 hR (TM_to (σ := σ) s69 h3) (by show υ.1 261 16 = (n : Int) ∧ n ≤ 1400; rw [s26]; exact h2) (by show 0 ≤ υ.1 261 19 ∧ υ.1 261 19 ≤ 1401; rw [s26]; exact h19) hP1 (hm5_s (τ := υ) h s (by first | omega | (dsimp only; omega))) g eT, fun o' ρ q => ?_⟩
      obtain ⟨q0, zu, f, rR, mp, r6, r16, r22, r23, r19⟩ := q
      refine ⟨_, q0, zu, r6, fun _ => f.2.2, fun q => q.elim, ?_⟩
      obtain ⟨hB, hS, hH, hI, hE, hO⟩ := h
      have a : ∀ k, ¬ eA k → k ≠ 261 → ∀ i, ρ.1 k i = υ.1 k i := fun k e1 e2 i => f.1 k e1 e2 i
      have a2 : ∀ k, ¬ eA k → k ≠ 261 → ¬ (k = 1 ∨ (24 ≤ k ∧ k ≤ 49) ∨ (70 ≤ k ∧ k ≤ 251)) → ∀ i, ρ.1 k i = σ.1 k i := fun k e1 e2 e3 i => (a k e1 e2 i).trans (s.1 k e3 i)
      have b : ∀ i, ¬ eF i → ρ.1 261 i = σ.1 261 i := fun i e1 => (f.2.1 i e1).trans (s26 i)
      have gg : ∀ k, k < 252 → ∀ i, ρ.1 k i = υ.1 k i := fun k hk i => a k (by unfold eA; omega) (by omega) i
      have zz : lEq (X d) (bk ρ 30) := lEq_tr lq (pEq_l (fun o ho i => gg _ (by omega) i))
      have wX : WF (bk ρ 30) := WF_eq (zEq_pt (fun o ho i => gg _ (by omega) i)) hW
      have p1 : 1 ≤ X d 1 0 := by
        have : ∀ i, i ≤ d → 1 ≤ X i 1 0 := by
          intro i
          induction i with
          | zero => intro _; rw [eT.2.2.1.1.1]; exact hP1
          | succ i ih => intro hi; rw [(eT.2.2.2.1 i (by omega)).2.2.1.1, cmB_1]; exact ih (by omega)
        exact this d (Nat.le_refl d)
      exact ⟨IBk_l zz wX p1 rR, IS_s (a2 0 (by unfold eA; omega) (by omega) (by omega) 5) (fun q e1 e2 i => a2 q (by unfold eA; omega) (by omega) (by omega) i) (b 7 (by unfold eF; omega)) (a2 263 (by unfold eA; omega) (by omega) (by omega)) hS, IH_p hB hH hp hA gg (MPu_to mp (s26 5) s66 (fun j _ => s62 j)), II_0 ((gg 1 (by omega) 1).trans c5.1) r16 r19, ⟨((gg 1 (by omega) 5).trans c5.2.1).trans r22.symm, ((gg 1 (by omega) 6).trans c5.2.2).trans r23.symm⟩, IO_s (a2 259 (by unfold eA; omega) (by omega) (by omega) 1) (a2 260 (by unfold eA; omega) (by omega) (by omega)) (b 27 (by unfold eF; omega)) (a2 271 (by unfold eA; omega) (by omega) (by omega)) hO⟩
    · obtain ⟨X, m, d, d1, -⟩ := q
      exact absurd d1 (fun q => by cases q)
  · refine simT 0 (wL_executeCommands hfl hz (Nat.le_of_ble_eq_true rfl) (Nat.le_of_ble_eq_true rfl) (sX9_executeCommands_f (t := σ.1 2) (n := n) hfl hz h.1.1 (fun _ => rfl) h1 g) (fun o τ q => Or.inr q.1)) (fun j hj => by rcases j with _ | _ | _ | j <;> first | rfl | (exfalso; revert hj; simp)) (by decide) (fun τ e => ?_)
    obtain ⟨c3, s, c5⟩ := e
    have s26 : ∀ i, τ.1 261 i = σ.1 261 i := s.1 261 (by first | omega | (dsimp only; omega))
    have s69 : ∀ i, τ.1 269 i = σ.1 269 i := s.1 269 (by first | omega | (dsimp only; omega))
    have hR : Rel (bk σ 30) (τ.1 262) := Rel_sj s (by first | omega | (dsimp only; omega)) h.1.2.2
    refine ⟨c3, _, sX10_executeCommands_f2 (D := bk σ 30) (t := σ.1 2) (n := n) hfl c3 h.1.1 hR (TM_to s69 h3) (by rw [s26]; exact h2) (by rw [s26]; exact h19) g, fun ρ q => ?_⟩
    obtain ⟨zu, f, rR, r6, r16, r22, r23, r19⟩ := q
    refine ⟨zu, r6, ?_⟩
    obtain ⟨hB, hS, hH, hI, hE, hO⟩ := h
    have a : ∀ k, k ≠ 270 → k ≠ 261 → ∀ i, ρ.1 k i = τ.1 k i := fun k e1 e2 i => f.1 k e1 e2 i
    have a2 : ∀ k, k ≠ 270 → k ≠ 261 → ¬ (k = 1 ∨ (24 ≤ k ∧ k ≤ 29)) → ∀ i, ρ.1 k i = σ.1 k i := fun k e1 e2 e3 i => (a k e1 e2 i).trans (s.1 k e3 i)
    have b : ∀ i, ¬ (i = 6 ∨ (16 ≤ i ∧ i ≤ 23) ∨ i = 25) → ρ.1 261 i = σ.1 261 i := fun i e1 => (f.2.1 i e1).trans (s26 i)
    exact ⟨IB_s (fun q e1 e2 i => a2 q (by omega) (by omega) (by omega) i) rR hB, IS_s (a2 0 (by omega) (by omega) (by omega) 5) (fun q e1 e2 i => a2 q (by omega) (by omega) (by omega) i) (b 7 (by omega)) (a2 263 (by omega) (by omega) (by omega)) hS, IH_s (a2 70 (by omega) (by omega) (by omega) 1) (a2 70 (by omega) (by omega) (by omega) 2) (fun i _ => zEq_pt (fun o ho j => by have := hRow_b σ i; exact a2 _ (by omega) (by omega) (by omega) j)) (fun k hk => bb_pt (fun o ho i => a2 _ (by rcases hk with h | h | h | ⟨r, h1, h2⟩ <;> omega) (by rcases hk with h | h | h | ⟨r, h1, h2⟩ <;> omega) (by rcases hk with h | h | h | ⟨r, h1, h2⟩ <;> omega) i) (hH.2.1 k hk)) (b 5 (by omega)) (a2 266 (by omega) (by omega) (by omega)) hH, II_0 ((a 1 (by omega) (by omega) 1).trans c5.1) r16 r19, ⟨((a 1 (by omega) (by omega) 5).trans c5.2.1).trans r22.symm, ((a 1 (by omega) (by omega) 6).trans c5.2.2).trans r23.symm⟩, IO_s (a2 259 (by omega) (by omega) (by omega) 1) (a2 260 (by omega) (by omega) (by omega)) (b 27 (by omega)) (a2 271 (by omega) (by omega) (by omega)) hO⟩

