abbrev mX8_clear : zM := (yX8_clear, cX8_clear, 1, none, [])
theorem okX8_clear : zMok mX8_clear 0 := ⟨by decide, by decide, by decide +kernel⟩
theorem dX8_clear_0 : decode cX8_clear 0 = .ok (.aload_n 0, 1) := by decide +kernel
theorem dX8_clear_1 : decode cX8_clear 1 = .ok (.iconst 0, 1) := by decide +kernel
theorem dX8_clear_2 : decode cX8_clear 2 = .ok (.putfield 15, 3) := by decide +kernel
theorem fl_RX8_15 : zFl RX8 15 8 1 := ⟨RX8, TX8, 2, rfl, by decide, zmem1 406 (by decide +kernel) rfl, rfl⟩
theorem fp_8_1 : zFi 8 1 "I" := ⟨RX8, TX8, 2, rfl, rfl, rfl⟩
theorem dX8_clear_5 : decode cX8_clear 5 = .ok (.return_, 1) := by decide +kernel
abbrev mX8_put : zM := (yX8_put, cX8_put, 2, none, [])
theorem okX8_put : zMok mX8_put 1 := ⟨by decide, by decide, by decide +kernel⟩
theorem dX8_put_0 : decode cX8_put 0 = .ok (.aload_n 0, 1) := by decide +kernel
theorem dX8_put_1 : decode cX8_put 1 = .ok (.getfield 15, 3) := by decide +kernel
theorem dX8_put_4 : decode cX8_put 4 = .ok (.ifCond .lt 36, 3) := by decide +kernel
theorem dX8_put_40 : decode cX8_put 40 = .ok (.return_, 1) := by decide +kernel
theorem dX8_put_7 : decode cX8_put 7 = .ok (.aload_n 0, 1) := by decide +kernel
theorem dX8_put_8 : decode cX8_put 8 = .ok (.getfield 15, 3) := by decide +kernel
theorem dX8_put_11 : decode cX8_put 11 = .ok (.aload_n 0, 1) := by decide +kernel
theorem dX8_put_12 : decode cX8_put 12 = .ok (.getfield 9, 3) := by decide +kernel
theorem fl_RX8_9 : zFl RX8 9 8 0 := ⟨RX8, TX8, 2, rfl, by decide, zmem1 405 (by decide +kernel) rfl, rfl⟩
theorem dX8_put_15 : decode cX8_put 15 = .ok (.arraylength, 1) := by decide +kernel
theorem dX8_put_16 : decode cX8_put 16 = .ok (.if_icmp .ge 24, 3) := by decide +kernel
theorem dX8_put_19 : decode cX8_put 19 = .ok (.aload_n 0, 1) := by decide +kernel
theorem dX8_put_20 : decode cX8_put 20 = .ok (.getfield 9, 3) := by decide +kernel
theorem dX8_put_23 : decode cX8_put 23 = .ok (.aload_n 0, 1) := by decide +kernel
theorem dX8_put_24 : decode cX8_put 24 = .ok (.getfield 15, 3) := by decide +kernel
theorem dX8_put_27 : decode cX8_put 27 = .ok (.iload_n 1, 1) := by decide +kernel
theorem dX8_put_28 : decode cX8_put 28 = .ok (.i2b, 1) := by decide +kernel
theorem dX8_put_29 : decode cX8_put 29 = .ok (.bastore, 1) := by decide +kernel
theorem dX8_put_30 : decode cX8_put 30 = .ok (.aload_n 0, 1) := by decide +kernel
theorem dX8_put_31 : decode cX8_put 31 = .ok (.dup, 1) := by decide +kernel
theorem dX8_put_32 : decode cX8_put 32 = .ok (.getfield 15, 3) := by decide +kernel
theorem dX8_put_35 : decode cX8_put 35 = .ok (.iconst 1, 1) := by decide +kernel
theorem dX8_put_36 : decode cX8_put 36 = .ok (.iadd, 1) := by decide +kernel
theorem dX8_put_37 : decode cX8_put 37 = .ok (.putfield 15, 3) := by decide +kernel
abbrev mX8_byteAt : zM := (yX8_byteAt, cX8_byteAt, 2, (some .int), [])
theorem okX8_byteAt : zMok mX8_byteAt 1 := ⟨by decide, by decide, by decide +kernel⟩
theorem dX8_byteAt_0 : decode cX8_byteAt 0 = .ok (.iload_n 1, 1) := by decide +kernel
theorem dX8_byteAt_1 : decode cX8_byteAt 1 = .ok (.ifCond .lt 20, 3) := by decide +kernel
theorem dX8_byteAt_21 : decode cX8_byteAt 21 = .ok (.iconst (-1), 1) := by decide +kernel
theorem dX8_byteAt_22 : decode cX8_byteAt 22 = .ok (.ireturn, 1) := by decide +kernel
theorem dX8_byteAt_4 : decode cX8_byteAt 4 = .ok (.iload_n 1, 1) := by decide +kernel
theorem dX8_byteAt_5 : decode cX8_byteAt 5 = .ok (.aload_n 0, 1) := by decide +kernel
theorem dX8_byteAt_6 : decode cX8_byteAt 6 = .ok (.getfield 15, 3) := by decide +kernel
theorem dX8_byteAt_9 : decode cX8_byteAt 9 = .ok (.if_icmp .ge 12, 3) := by decide +kernel
theorem dX8_byteAt_12 : decode cX8_byteAt 12 = .ok (.aload_n 0, 1) := by decide +kernel
theorem dX8_byteAt_13 : decode cX8_byteAt 13 = .ok (.getfield 9, 3) := by decide +kernel
theorem dX8_byteAt_16 : decode cX8_byteAt 16 = .ok (.iload_n 1, 1) := by decide +kernel
theorem dX8_byteAt_17 : decode cX8_byteAt 17 = .ok (.baload, 1) := by decide +kernel
theorem dX8_byteAt_18 : decode cX8_byteAt 18 = .ok (.goto 4, 3) := by decide +kernel
abbrev mX8_putName : zM := (yX8_putName, cX8_putName, 4, none, [])
theorem okX8_putName : zMok mX8_putName 1 := ⟨by decide, by decide, by decide +kernel⟩
theorem dX8_putName_0 : decode cX8_putName 0 = .ok (.iconst 5, 1) := by decide +kernel
theorem dX8_putName_1 : decode cX8_putName 1 = .ok (.istore_n 2, 1) := by decide +kernel
theorem dX8_putName_2 : decode cX8_putName 2 = .ok (.iload_n 2, 1) := by decide +kernel
theorem dX8_putName_3 : decode cX8_putName 3 = .ok (.ifCond .lt 32, 3) := by decide +kernel
theorem dX8_putName_35 : decode cX8_putName 35 = .ok (.return_, 1) := by decide +kernel
theorem dX8_putName_6 : decode cX8_putName 6 = .ok (.iload_n 1, 1) := by decide +kernel
theorem dX8_putName_7 : decode cX8_putName 7 = .ok (.iconst 5, 1) := by decide +kernel
theorem dX8_putName_8 : decode cX8_putName 8 = .ok (.iload_n 2, 1) := by decide +kernel
theorem dX8_putName_9 : decode cX8_putName 9 = .ok (.imul, 1) := by decide +kernel
theorem dX8_putName_10 : decode cX8_putName 10 = .ok (.iushr, 1) := by decide +kernel
theorem dX8_putName_11 : decode cX8_putName 11 = .ok (.bipush 31, 2) := by decide +kernel
theorem dX8_putName_13 : decode cX8_putName 13 = .ok (.iand, 1) := by decide +kernel
theorem dX8_putName_14 : decode cX8_putName 14 = .ok (.istore_n 3, 1) := by decide +kernel
theorem dX8_putName_15 : decode cX8_putName 15 = .ok (.iload_n 3, 1) := by decide +kernel
theorem dX8_putName_16 : decode cX8_putName 16 = .ok (.ifCond .eq 13, 3) := by decide +kernel
theorem dX8_putName_29 : decode cX8_putName 29 = .ok (.iinc 2 (-1), 3) := by decide +kernel
theorem dX8_putName_32 : decode cX8_putName 32 = .ok (.goto (-30), 3) := by decide +kernel
theorem dX8_putName_19 : decode cX8_putName 19 = .ok (.aload_n 0, 1) := by decide +kernel
theorem dX8_putName_20 : decode cX8_putName 20 = .ok (.bipush 97, 2) := by decide +kernel
theorem dX8_putName_22 : decode cX8_putName 22 = .ok (.iload_n 3, 1) := by decide +kernel
theorem dX8_putName_23 : decode cX8_putName 23 = .ok (.iadd, 1) := by decide +kernel
theorem dX8_putName_24 : decode cX8_putName 24 = .ok (.iconst 1, 1) := by decide +kernel
theorem dX8_putName_25 : decode cX8_putName 25 = .ok (.isub, 1) := by decide +kernel
theorem dX8_putName_26 : decode cX8_putName 26 = .ok (.invokevirtual 19, 3) := by decide +kernel
theorem cw_RX8_19 : zCwV RX8 19 mX8_put := zall [989, 990, 991, 122, 992] (by decide +kernel) (by decide +kernel)
abbrev mX8_putNumber : zM := (yX8_putNumber, cX8_putNumber, 3, none, [])
theorem okX8_putNumber : zMok mX8_putNumber 1 := ⟨by decide, by decide, by decide +kernel⟩
theorem dX8_putNumber_0 : decode cX8_putNumber 0 = .ok (.sipush 1000, 3) := by decide +kernel
theorem dX8_putNumber_3 : decode cX8_putNumber 3 = .ok (.istore_n 2, 1) := by decide +kernel
theorem dX8_putNumber_4 : decode cX8_putNumber 4 = .ok (.iload_n 2, 1) := by decide +kernel
theorem dX8_putNumber_5 : decode cX8_putNumber 5 = .ok (.ifCond .le 34, 3) := by decide +kernel
theorem dX8_putNumber_39 : decode cX8_putNumber 39 = .ok (.return_, 1) := by decide +kernel
theorem dX8_putNumber_8 : decode cX8_putNumber 8 = .ok (.iload_n 1, 1) := by decide +kernel
theorem dX8_putNumber_9 : decode cX8_putNumber 9 = .ok (.iload_n 2, 1) := by decide +kernel
theorem dX8_putNumber_10 : decode cX8_putNumber 10 = .ok (.if_icmp .ge 8, 3) := by decide +kernel
theorem dX8_putNumber_18 : decode cX8_putNumber 18 = .ok (.aload_n 0, 1) := by decide +kernel
theorem dX8_putNumber_19 : decode cX8_putNumber 19 = .ok (.bipush 48, 2) := by decide +kernel
theorem dX8_putNumber_21 : decode cX8_putNumber 21 = .ok (.iload_n 1, 1) := by decide +kernel
theorem dX8_putNumber_22 : decode cX8_putNumber 22 = .ok (.iload_n 2, 1) := by decide +kernel
theorem dX8_putNumber_23 : decode cX8_putNumber 23 = .ok (.idiv, 1) := by decide +kernel
theorem dX8_putNumber_24 : decode cX8_putNumber 24 = .ok (.bipush 10, 2) := by decide +kernel
theorem dX8_putNumber_26 : decode cX8_putNumber 26 = .ok (.irem, 1) := by decide +kernel
theorem dX8_putNumber_27 : decode cX8_putNumber 27 = .ok (.iadd, 1) := by decide +kernel
theorem dX8_putNumber_28 : decode cX8_putNumber 28 = .ok (.invokevirtual 19, 3) := by decide +kernel
theorem dX8_putNumber_31 : decode cX8_putNumber 31 = .ok (.iload_n 2, 1) := by decide +kernel
theorem dX8_putNumber_32 : decode cX8_putNumber 32 = .ok (.bipush 10, 2) := by decide +kernel
theorem dX8_putNumber_34 : decode cX8_putNumber 34 = .ok (.idiv, 1) := by decide +kernel
theorem dX8_putNumber_35 : decode cX8_putNumber 35 = .ok (.istore_n 2, 1) := by decide +kernel
theorem dX8_putNumber_36 : decode cX8_putNumber 36 = .ok (.goto (-32), 3) := by decide +kernel
theorem dX8_putNumber_13 : decode cX8_putNumber 13 = .ok (.iload_n 2, 1) := by decide +kernel
theorem dX8_putNumber_14 : decode cX8_putNumber 14 = .ok (.iconst 1, 1) := by decide +kernel
theorem dX8_putNumber_15 : decode cX8_putNumber 15 = .ok (.if_icmp .ne 16, 3) := by decide +kernel
section ZF
variable {l : Launch} {w : zW} {m : zM} {M : zMo} {pc k : Nat} {ls st : List zV} {σ : zS}
def zthq (E : String) (R : zS → Prop) : zQ := fun o τ => o = .inr E ∧ R τ
theorem zx_throwW {h n : Nat} {Q : zQ} {E tx : String} {names : List String} {ik is ic j : Nat} (hh : m.2.2.2.2 = []) (hcls : Bundle.fit E = true) (hnames : ∀ x ∈ names, Bundle.fit x = true)
    (hwk : Cond.classLink m.1.cls ik E ∈ zgood) (hwi : Cond.initialized E ∈ zgood) (hq : (m.1.cls, is, tx, j) ∈ zstrs) (hat : ∀ x ∈ vx_atS m.1.cls ic E names, x ∈ lw_tbl) (hot : ∀ x ∈ Cond.classLink m.1.cls ik E :: Cond.initialized E :: vx_atS m.1.cls ic E names, vx_ot x = true) (hgo : ∀ x ∈ vx_atS m.1.cls ic E names, goodWord x = true ∨ (x.onTables && x.keepsFace) = true)
    (d0 : decode m.2.1 pc = .ok (.new ik, 3)) (d3 : decode m.2.1 (pc + 3) = .ok (.dup, 1)) (d4 : decode m.2.1 (pc + 4) = .ok (.ldc_w is, 3)) (d6 : decode m.2.1 (pc + 7) = .ok (.invokespecial ic, 3)) (d9 : decode m.2.1 (pc + 10) = .ok (.athrow, 1))
    (hst : (st.map zcat).sum ≤ 8) (hn1 : names.length + 3 < h) (hn2 : 8 + (13 * (names.length + 1) + 43) ≤ 34 * h) (hk : k + 1 ≤ n) (hQ : Q (.inr E) σ) : zX l w m (zMQ w h n Q) pc ls st k σ := by
  intro p e s mid args below meth c C H locs Ls hR hS hl hol hos hc hs
  obtain ⟨hx, hb, hml, hr, htab, hown, hts, hlk, hE, hfl⟩ := id C
  have hg : ∀ x ∈ vx_atS m.1.cls ic E names, x.before args s = true := fun x hx => by
    rcases hgo x hx with g | g
    · exact hts x (List.mem_filter.mpr ⟨hat x hx, g⟩)
    · exact zface_same (List.mem_filter.mpr ⟨hat x hx, g⟩) rfl (hE.2.2.2.2.2.2.2.2.2.2.2.2.1 x (List.mem_filter.mpr ⟨hat x hx, g⟩))
  have hsum : ((st.map (zc w)).map fun v => v.category).sum ≤ 8 := by
    rw [List.map_map]
    have : ((fun v : Value => v.category) ∘ zc w) = zcat := funext fun v => zcat_c w v
    rw [this]
    exact hst
  refine vx_throwSW (mc := n) (ms := 6 * n) hx hb hfl hown hcls hnames (hts _ hwk) (hts _ hwi) (hE.2.2.2.2.2.2.1 _ hq) hg hot hE.2.2.2.1 hE.2.2.2.2.1 hS (hl.1.trans hml.symm) d0 d3 d4 d6 d9 (fun x hx => ?_) hn1 ?_ (by show 0 + k + 1 ≤ n; omega) (by show 0 + 6 * k + 6 ≤ 6 * n; omega) hlk (fun t hvm hz hkp => ?_) (fun z hz => hS.2.2 z hz) (by show 0 + k + 1 ≤ n; omega) (by show 0 + 6 * k + 6 ≤ 6 * n; omega)
  · rw [htab, hh] at hx
    exact absurd hx (by unfold tableOf; simp)
  · show _ ≤ 34 * h
    omega
  · refine ⟨σ, hQ, fun i q hq => (hR i q hq).kept (hkp _ (hR i q hq).lt), Nat.le_trans hS.1 hz, fun q h1 h2 => ?_⟩
    rw [hkp q (Nat.lt_of_lt_of_le h1 hS.1)]
    exact hS.2.1 q h1 h2
theorem zy_cvtR {m' : zM} {h' n' ix t q np : Nat} (as : List zV) {E0 : String} {R : zS → Prop} (hsp : Sp l w m' h' n' (zf t q :: as) σ (zthq E0 R)) (hd : decode m.2.1 pc = .ok (.invokevirtual ix, 3)) (ht : t < 20) (hcl : (vwCl[t]?).map (fun q => q.1) = some m'.1.cls) (hw : zCwV m.1.cls ix m') (hm : zMok m' np) (hnp : as.length = np) (hst : (st.map zcat).sum ≤ 8) (hf : zfit M m' h' n' k)
    (kk : ∀ τ, R τ → zXT l w m M pc ls (k + n') τ E0) : zX l w m M pc ls (as.reverse ++ zf t q :: st) k σ :=
  zx_callV hsp hd ht hcl hw hm hnp hst hf (fun r τ hq => by cases hq.1) (fun E τ hq => by obtain ⟨h1, h2⟩ := hq; cases h1; exact kk τ h2)
end ZF
/-! the present judgement -/
def Ht (D : zBk) (c : Nat) : Prop := ¬ D 17 c = 0 ∧ D 18 c = 0
noncomputable def wP (D : zBk) (H : Nat → Prop) : Nat := (rkP D H 0).toNat
noncomputable def wY (D : zBk) (H : Nat → Prop) : Int := 1450 + ((tR D H (wP D H) : Nat) : Int)
noncomputable def wS (D : zBk) (H : Nat → Prop) : Int := tS D H (wP D H)
theorem sc_hc {D : zBk} {H H' : Nat → Prop} (h : ∀ c : Nat, (c : Int) < D 12 0 → (H c ↔ H' c)) (p r : Nat) : sc D H p r = sc D H' p r := by
  unfold sc
  exact zs_congr (fun c hc => zif_c (by rw [h c (by omega)]))
theorem tR_hc {D : zBk} {H H' : Nat → Prop} (h : ∀ c : Nat, (c : Int) < D 12 0 → (H c ↔ H' c)) (p : Nat) : tR D H p = tR D H' p := by
  unfold tR
  exact (y_congr (fun i _ _ => sc_hc h p i)).1
theorem tN_hc {D : zBk} {H H' : Nat → Prop} (h : ∀ c : Nat, (c : Int) < D 12 0 → (H c ↔ H' c)) (p : Nat) : tN D H p = tN D H' p := by
  unfold tN
  exact (y_congr (fun i _ _ => sc_hc h p i)).2
theorem tS_hc {D : zBk} {H H' : Nat → Prop} (h : ∀ c : Nat, (c : Int) < D 12 0 → (H c ↔ H' c)) (p : Nat) : tS D H p = tS D H' p := by
  unfold tS
  rw [sc_hc h, tR_hc h]
theorem rkP_hc {D : zBk} {H H' : Nat → Prop} (h : ∀ c : Nat, (c : Int) < D 12 0 → (H c ↔ H' c)) (r : Int) : rkP D H r = rkP D H' r := by
  unfold rkP
  exact atR_congr (fun a b _ _ => by unfold ahd; rw [tS_hc h, tS_hc h]) r
theorem wP_hc {D : zBk} {H H' : Nat → Prop} (h : ∀ c : Nat, (c : Int) < D 12 0 → (H c ↔ H' c)) : wP D H = wP D H' := by
  unfold wP; rw [rkP_hc h]
theorem wY_hc {D : zBk} {H H' : Nat → Prop} (h : ∀ c : Nat, (c : Int) < D 12 0 → (H c ↔ H' c)) : wY D H = wY D H' := by
  unfold wY; rw [wP_hc h, tR_hc h]
theorem wS_hc {D : zBk} {H H' : Nat → Prop} (h : ∀ c : Nat, (c : Int) < D 12 0 → (H c ↔ H' c)) : wS D H = wS D H' := by
  unfold wS; rw [wP_hc h, tS_hc h]
theorem Jd_hc {D : zBk} {H H' : Nat → Prop} {τ : zS} (h : ∀ c : Nat, (c : Int) < D 12 0 → (H c ↔ H' c)) (hJ : Jd D H τ) : Jd D H' τ := by
  obtain ⟨a, b, c, d⟩ := hJ
  refine ⟨a, fun x hx => (b x hx).trans (zb_c (h x hx)), fun p hp => ?_, ?_⟩
  · rw [← tR_hc h, ← tS_hc h, ← tN_hc h]; exact c p hp
  · rw [← funext (tS_hc h)]; exact d
theorem Hd_Ht {D : zBk} (w : WF D) {c : Nat} (hc : (c : Int) < D 12 0) : Hd D 0 (-1) c ↔ Ht D c := by
  obtain ⟨i, hi, e⟩ := WFo_sj w.2.2.2.2.2 hc
  have hu : 0 ≤ U D i := (zsb_le _ i).1
  unfold Hd Ht
  subst e
  rw [Rd_at w.2.2.2.2.2 hi]
  constructor
  · rintro ⟨h1, h2, h3⟩; exact ⟨h1.resolve_right (by omega), h2⟩
  · rintro ⟨h1, h2⟩; exact ⟨Or.inl h1, h2, by omega⟩
theorem tR_b {D : zBk} {H : Nat → Prop} (w : WF D) {p : Nat} (hp : (p : Int) < D 1 0) : D 4 p ≤ 1450 + ((tR D H p : Nat) : Int) ∧ 1450 + ((tR D H p : Nat) : Int) ≤ D 5 p := by
  have hy := (w.2.1 p hp).2
  have := yTop_r (sc D H p) (D 4 p - 1450).toNat (D 5 p - D 4 p + 1).toNat
  unfold tR
  omega
theorem tN_b {D : zBk} {H : Nat → Prop} (w : WF D) {p : Nat} (hp : (p : Int) < D 1 0) : 0 ≤ tN D H p ∧ tN D H p ≤ 550 := by
  have hy := (w.2.1 p hp).2
  have := yCnt_r (sc D H p) (D 4 p - 1450).toNat (D 5 p - D 4 p + 1).toNat
  unfold tN
  omega
theorem tS_b {D : zBk} {H : Nat → Prop} (w : WF D) (p : Nat) : 0 ≤ tS D H p ∧ tS D H p ≤ 360 := wt_b w _
/-- the winner in the cells -/
theorem Jd_win {D : zBk} {H : Nat → Prop} {τ : zS} (w : WF D) (hJ : Jd D H τ) (h1 : 1 ≤ D 1 0) : (wP D H : Int) < D 1 0 ∧ τ.1 258 0 = wP D H ∧ τ.1 255 (wP D H) = wY D H ∧ τ.1 256 (wP D H) = wS D H := by
  obtain ⟨a, b, c, d⟩ := hJ
  have e := ordOK_at d (i := 0) (by omega)
  have r := d.1 0 (by omega)
  have e2 : wP D H = (τ.1 258 0).toNat := by
    unfold wP rkP
    rw [show (0 : Int) = ((0 : Nat) : Int) from rfl]
    rw [show atR (ahd D H) (D 1 0).toNat ((0 : Nat) : Int) = _ from e]
    rfl
  have hl : (wP D H : Int) < D 1 0 := by rw [e2]; omega
  obtain ⟨c1, c2, c3⟩ := c _ hl
  exact ⟨hl, by rw [e2]; omega, c1, c2⟩
theorem Jd_rk {D : zBk} {H : Nat → Prop} {τ : zS} (hJ : Jd D H τ) (r : Int) : (if 0 ≤ r ∧ r < D 1 0 then τ.1 258 r.toNat else -1) = rkP D H r := by
  obtain ⟨a, b, c, d⟩ := hJ
  by_cases h : 0 ≤ r ∧ r < D 1 0
  · rw [if_pos h]
    have e := ordOK_at d (i := r.toNat) (by omega)
    have := d.1 r.toNat (by omega)
    rw [show ((r.toNat : Nat) : Int) = r by omega] at e
    rw [show rkP D H r = _ from e]
    omega
  · rw [if_neg h]
    exact (ordOK_no d (by omega)).symm
/-! the output -/
def Out (σ : zS) (L : List Int) : Prop := σ.1 259 1 = L.length ∧ ∀ i : Nat, i < L.length → σ.1 260 i = L.getD i 0
theorem Out_put {σ : zS} {L : List Int} {v : Int} (h : Out σ L) (hv : 0 ≤ v ∧ v < 128) : Out (zput (zput σ 260 (σ.1 259 1).toNat (zb8 v)) 259 1 (σ.1 259 1 + 1)) (L ++ [v]) := by
  obtain ⟨h1, h2⟩ := h
  have e : zb8 v = v := by rw [zb8_v ⟨hv.1, by omega⟩, if_pos hv.2]
  refine ⟨(zput_s _ _ _ _).trans (by rw [h1, List.length_append]; rfl), fun i hi => (zput_k _ _ _ _ _ (by omega)).trans ?_⟩
  rw [h1, Int.toNat_natCast, e]
  rw [List.length_append] at hi
  simp only [zput_e, true_and, List.getD_eq_getElem?_getD]
  by_cases q : i = L.length
  · rw [if_pos q, q]; simp
  · have hi2 : i < L.length := by have : i < L.length + 1 := hi; omega
    rw [if_neg q, h2 i hi2, List.getElem?_append_left hi2, List.getD_eq_getElem?_getD]
noncomputable def nmL (x : Int) : Nat → List Int
  | 0 => []
  | i + 1 => (if zand (zushr x (5 * (i : Int))) 31 = 0 then [] else [97 + zand (zushr x (5 * (i : Int))) 31 - 1]) ++ nmL x i
def dgL (x : Int) : List Int := (if 1000 ≤ x then [48 + x / 1000 % 10] else []) ++ (if 100 ≤ x then [48 + x / 100 % 10] else []) ++ (if 10 ≤ x then [48 + x / 10 % 10] else []) ++ [48 + x % 10]

set_option maxRecDepth 20000 in
set_option maxHeartbeats 2000000 in
theorem sX8_clear {l : Launch} {w : zW} (hfl : l.stackTraces = false) {σ : zS}  (hz : zOK σ)  : Sp l w mX8_clear 0 0 [zf 8 259] σ (zrtv (zput σ 259 1 0)) := by
  obtain ⟨Q, hQ⟩ : ∃ Q : zQ, Q = (zrtv (zput σ 259 1 0)) := ⟨_, rfl⟩
  rw [← hQ]
  refine zx_enter hfl (by decide) rfl 0 rfl ?_
  show zX l w mX8_clear (zMQ w 0 0 Q) 0 [zf 8 259] [] 0 σ
  refine zx_aloadN dX8_clear_0 rfl rfl ?_
  refine zx_iconst dX8_clear_1 ?_
  refine zx_putI fl_RX8_15 rfl (Or.inl fp_8_1) dX8_clear_2 ?_
  refine zx_vret rfl dX8_clear_5 ?_
  rw [hQ]
  exact ⟨rfl, by first | rfl | (exfalso; omega)⟩
set_option maxRecDepth 20000 in
set_option maxHeartbeats 2000000 in
theorem sX8_put {l : Launch} {w : zW} (hfl : l.stackTraces = false) {σ : zS} {v : Int} {L : List Int} (hz : zOK σ) (hv : 0 ≤ v ∧ v < 128) (hL : Out σ L) (hl : L.length < 131) : Sp l w mX8_put 0 0 [zf 8 259, zi v] σ (zqv (none) (fun τ => zOK τ ∧ zSame (fun q => 259 ≤ q ∧ q ≤ 260) σ τ ∧ Out τ (L ++ [v]))) := by
  obtain ⟨Q, hQ⟩ : ∃ Q : zQ, Q = (zqv (none) (fun τ => zOK τ ∧ zSame (fun q => 259 ≤ q ∧ q ≤ 260) σ τ ∧ Out τ (L ++ [v]))) := ⟨_, rfl⟩
  rw [← hQ]
  refine zx_enter hfl (by decide) rfl 0 rfl ?_
  show zX l w mX8_put (zMQ w 0 0 Q) 0 [zf 8 259, zi v] [] 0 σ
  have hv2 : zr v := by unfold zr; omega
  have hL1 := hL.1
  refine zx_aloadN dX8_put_0 rfl rfl ?_
  refine zy_getI fl_RX8_15 rfl dX8_put_1 rfl ?_
  refine zx_if_lt (tgt := 40) (by first | exact hz _ _ | assumption | exact zr_b _ | exact zcmp_r _ _ | (unfold zr at *; omega)) dX8_put_4 (by decide) (fun h4 => ?_) (fun h4 => ?_)
  · refine zx_vret rfl dX8_put_40 ?_
    rw [hQ]
    refine ⟨rfl, ?_⟩
    first
    | (exfalso; omega)
    | (refine ⟨hz, ⟨fun q hq i => by have hq2 := hq; dsimp only at hq2; exact (zput_k _ _ _ _ _ (by omega)).trans (zput_k _ _ _ _ _ (by omega)), rfl⟩, Out_put hL hv⟩)
  · refine zx_aloadN dX8_put_7 rfl rfl ?_
    refine zy_getI fl_RX8_15 rfl dX8_put_8 rfl ?_
    refine zx_aloadN dX8_put_11 rfl rfl ?_
    refine zy_getR (q' := 260) fl_RX8_9 rfl dX8_put_12 rfl ?_
    refine zx_alen (kd := 1) (n := 131) rfl (by decide) (by decide) (by decide) dX8_put_15 ?_
    refine zx_icmp_ge (tgt := 40) (by first | exact hz _ _ | assumption | exact zr_b _ | exact zcmp_r _ _ | (unfold zr at *; omega)) (by first | exact hz _ _ | assumption | exact zr_b _ | exact zcmp_r _ _ | (unfold zr at *; omega)) dX8_put_16 (by decide) (fun h16 => ?_) (fun h16 => ?_)
    · refine zx_vret rfl dX8_put_40 ?_
      rw [hQ]
      refine ⟨rfl, ?_⟩
      first
      | (exfalso; omega)
      | (refine ⟨hz, ⟨fun q hq i => by have hq2 := hq; dsimp only at hq2; exact (zput_k _ _ _ _ _ (by omega)).trans (zput_k _ _ _ _ _ (by omega)), rfl⟩, Out_put hL hv⟩)
    · refine zx_aloadN dX8_put_19 rfl rfl ?_
      refine zy_getR (q' := 260) fl_RX8_9 rfl dX8_put_20 rfl ?_
      refine zx_aloadN dX8_put_23 rfl rfl ?_
      refine zy_getI fl_RX8_15 rfl dX8_put_24 rfl ?_
      refine zx_iloadN dX8_put_27 rfl rfl ?_
      refine zx_i2b dX8_put_28 ?_
      refine zy_bast (i := (σ.1 259 1).toNat) (u := zb8 v) rfl (by decide) (by decide) dX8_put_29 (by omega) (by omega) rfl (zb8_idem _) ?_
      refine zx_aloadN dX8_put_30 rfl rfl ?_
      refine zx_dup rfl dX8_put_31 ?_
      refine zy_getI (v := σ.1 259 1) fl_RX8_15 rfl dX8_put_32 (zput_k _ _ _ _ _ (by omega)) ?_
      refine zx_iconst dX8_put_35 ?_
      refine zx_iadd dX8_put_36 ?_
      refine zx_putI fl_RX8_15 rfl (Or.inl fp_8_1) dX8_put_37 ?_
      refine zx_vret rfl dX8_put_40 ?_
      rw [hQ]
      refine ⟨rfl, ?_⟩
      first
      | (exfalso; omega)
      | (refine ⟨(zOK_put (zOK_put hz (zr_b8 _)) (by first | exact hz _ _ | assumption | exact zr_b _ | exact zcmp_r _ _ | (unfold zr at *; omega))), ⟨fun q hq i => by have hq2 := hq; dsimp only at hq2; exact (zput_k _ _ _ _ _ (by omega)).trans (zput_k _ _ _ _ _ (by omega)), rfl⟩, Out_put hL hv⟩)
set_option maxRecDepth 20000 in
set_option maxHeartbeats 2000000 in
theorem sX8_byteAt {l : Launch} {w : zW} (hfl : l.stackTraces = false) {σ : zS} {x : Int} (hz : zOK σ) (hx : zr x) (hl : 0 ≤ σ.1 259 1 ∧ σ.1 259 1 ≤ 131) : Sp l w mX8_byteAt 0 0 [zf 8 259, zi x] σ (zret (zi (if 0 ≤ x ∧ x < σ.1 259 1 then σ.1 260 x.toNat else -1)) σ) := by
  obtain ⟨Q, hQ⟩ : ∃ Q : zQ, Q = (zret (zi (if 0 ≤ x ∧ x < σ.1 259 1 then σ.1 260 x.toNat else -1)) σ) := ⟨_, rfl⟩
  rw [← hQ]
  refine zx_enter hfl (by decide) rfl 0 rfl ?_
  show zX l w mX8_byteAt (zMQ w 0 0 Q) 0 [zf 8 259, zi x] [] 0 σ
  refine zx_iloadN dX8_byteAt_0 rfl rfl ?_
  refine zx_if_lt (tgt := 21) (by first | exact hz _ _ | assumption | exact zr_b _ | exact zcmp_r _ _ | (unfold zr at *; omega)) dX8_byteAt_1 (by decide) (fun h1 => ?_) (fun h1 => ?_)
  · refine zx_iconst dX8_byteAt_21 ?_
    refine zx_iret rfl rfl dX8_byteAt_22 ?_
    rw [hQ]
    refine ⟨congrArg (fun z : Int => (Sum.inl (some (zi z)) : Option zV ⊕ String)) ?_, by first | rfl | (exfalso; omega)⟩
    first | exact (if_pos (by omega)).symm | exact (if_neg (by omega)).symm
  · refine zx_iloadN dX8_byteAt_4 rfl rfl ?_
    refine zx_aloadN dX8_byteAt_5 rfl rfl ?_
    refine zy_getI fl_RX8_15 rfl dX8_byteAt_6 rfl ?_
    refine zx_icmp_ge (tgt := 21) (by first | exact hz _ _ | assumption | exact zr_b _ | exact zcmp_r _ _ | (unfold zr at *; omega)) (by first | exact hz _ _ | assumption | exact zr_b _ | exact zcmp_r _ _ | (unfold zr at *; omega)) dX8_byteAt_9 (by decide) (fun h9 => ?_) (fun h9 => ?_)
    · refine zx_iconst dX8_byteAt_21 ?_
      refine zx_iret rfl rfl dX8_byteAt_22 ?_
      rw [hQ]
      refine ⟨congrArg (fun z : Int => (Sum.inl (some (zi z)) : Option zV ⊕ String)) ?_, by first | rfl | (exfalso; omega)⟩
      first | exact (if_pos (by omega)).symm | exact (if_neg (by omega)).symm
    · refine zx_aloadN dX8_byteAt_12 rfl rfl ?_
      refine zy_getR (q' := 260) fl_RX8_9 rfl dX8_byteAt_13 rfl ?_
      refine zx_iloadN dX8_byteAt_16 rfl rfl ?_
      refine zy_bald (v := σ.1 260 x.toNat) rfl (by decide) (by decide) dX8_byteAt_17 (by omega) (by omega) rfl ?_
      refine zx_goto (tgt := 22) dX8_byteAt_18 (by decide) ?_
      refine zx_iret rfl rfl dX8_byteAt_22 ?_
      rw [hQ]
      refine ⟨congrArg (fun z : Int => (Sum.inl (some (zi z)) : Option zV ⊕ String)) ?_, by first | rfl | (exfalso; omega)⟩
      first | exact (if_pos (by omega)).symm | exact (if_neg (by omega)).symm
set_option maxRecDepth 20000 in
set_option maxHeartbeats 2000000 in
theorem sX8_putName {l : Launch} {w : zW} (hfl : l.stackTraces = false) {σ : zS} {x : Int} {L : List Int} (hz : zOK σ) (hx : zr x) (hL : Out σ L) (hl : L.length ≤ 20) : Sp l w mX8_putName 1 0 [zf 8 259, zi x] σ (zqv (none) (fun τ => zOK τ ∧ zSame (fun q => 259 ≤ q ∧ q ≤ 260) σ τ ∧ Out τ (L ++ nmL x 6))) := by
  obtain ⟨Q, hQ⟩ : ∃ Q : zQ, Q = (zqv (none) (fun τ => zOK τ ∧ zSame (fun q => 259 ≤ q ∧ q ≤ 260) σ τ ∧ Out τ (L ++ nmL x 6))) := ⟨_, rfl⟩
  rw [← hQ]
  refine zx_enter hfl (by decide) rfl 2 rfl ?_
  show zX l w mX8_putName (zMQ w 1 0 Q) 0 [zf 8 259, zi x, zu, zu] [] 0 σ
  refine zx_iconst dX8_putName_0 ?_
  refine zy_istoreN [zf 8 259, zi x, zi 5, zu] dX8_putName_1 rfl (Nat.le_of_ble_eq_true rfl) (Nat.le_of_ble_eq_true rfl) rfl rfl ?_
  have L2 : ∀ (N : Nat) (τ : zS) (j : Int) (i : Nat) (M : List Int), (zOK τ) → (j = (i : Int) - 1 ∧ i ≤ 6) → (zSame (fun q => 259 ≤ q ∧ q ≤ 260) σ τ) → (Out τ M ∧ M ++ nmL x i = L ++ nmL x 6 ∧ M.length + i ≤ L.length + 6) → (i + 1) < N → zX l w mX8_putName (zMQ w 1 0 Q) 2 [zf 8 259, zi x, zi j, zu] [] 0 τ := by
    intro N
    induction N with
    | zero => intro τ j i M _ _ _ _ _; exact absurd (by assumption) (Nat.not_lt_zero _)
    | succ N ih2 =>
      intro τ j i M hz hj h1 hM hN
      refine zx_iloadN dX8_putName_2 rfl rfl ?_
      refine zx_if_lt (tgt := 35) (by first | exact hz _ _ | assumption | exact zr_b _ | exact zcmp_r _ _ | exact zr_t _ | (unfold zr at *; omega)) dX8_putName_3 (by decide) (fun h3 => ?_) (fun h3 => ?_)
      · refine zx_vret rfl dX8_putName_35 ?_
        rw [hQ]
        refine ⟨rfl, ?_⟩
        refine ⟨hz, h1, ?_⟩
        have e : i = 0 := by omega
        rw [← hM.2.1, e]
        simpa [nmL] using hM.1
      · refine zx_iloadN dX8_putName_6 rfl rfl ?_
        refine zx_iconst dX8_putName_7 ?_
        refine zx_iloadN dX8_putName_8 rfl rfl ?_
        refine zx_imul dX8_putName_9 ?_
        refine zx_iushr dX8_putName_10 ?_
        refine zx_bipush dX8_putName_11 rfl ?_
        refine zx_iand dX8_putName_13 ?_
        refine zy_top (b := zand (zushr x (5 * ((i - 1 : Nat) : Int))) 31) (by congr 2; omega) ?_
        refine zy_istoreN [zf 8 259, zi x, zi j, zi (zand (zushr x (5 * ((i - 1 : Nat) : Int))) 31)] dX8_putName_14 rfl (Nat.le_of_ble_eq_true rfl) (Nat.le_of_ble_eq_true rfl) rfl rfl ?_
        have hb31 := zand_31 (zushr x (5 * ((i - 1 : Nat) : Int)))
        refine zx_iloadN dX8_putName_15 rfl rfl ?_
        refine zx_if_eq (tgt := 29) (by first | exact hz _ _ | assumption | exact zr_b _ | exact zcmp_r _ _ | exact zr_t _ | (unfold zr at *; omega)) dX8_putName_16 (by decide) (fun h16 => ?_) (fun h16 => ?_)
        · refine zy_iinc (b := j - 1) [zf 8 259, zi x, zi (j - 1), zi (zand (zushr x (5 * ((i - 1 : Nat) : Int))) 31)] dX8_putName_29 rfl (by omega) (Nat.le_of_ble_eq_true rfl) rfl rfl ?_
          refine zx_goto (tgt := 2) dX8_putName_32 (by decide) ?_
          refine zy_drop 3 [zf 8 259, zi x, zi (j - 1), zu] rfl ?_
          exact ih2 τ (j - 1) (i - 1) M hz (by omega) (by first | exact h1 | exact (zSame_tr h1 hr26.2.1 (fun q hq => by first | omega | (dsimp only at hq ⊢; omega)))) (by
        have e : i = i - 1 + 1 := by omega
        have q := hM.2.1
        rw [e, nmL] at q
        first
        | (rw [if_neg h16] at q; exact ⟨hr26.2.2, by rw [← q]; simp, by rw [List.length_append, List.length_singleton]; omega⟩)
        | (rw [if_pos h16] at q; exact ⟨hM.1, by rw [← q]; simp, by omega⟩)) (by omega)
        · refine zx_aloadN dX8_putName_19 rfl rfl ?_
          refine zx_bipush dX8_putName_20 rfl ?_
          refine zx_iloadN dX8_putName_22 rfl rfl ?_
          refine zx_iadd dX8_putName_23 ?_
          refine zx_iconst dX8_putName_24 ?_
          refine zx_isub dX8_putName_25 ?_
          refine zy_cvvR [zi ((97 + (zand (zushr x (5 * ((i - 1 : Nat) : Int))) 31)) - 1)] (sX8_put (L := M) hfl hz (by first | assumption | omega) hM.1 (by first | assumption | omega)) dX8_putName_26 (by decide) rfl cw_RX8_19 okX8_put rfl (Nat.le_of_ble_eq_true rfl) ⟨Nat.le_of_ble_eq_true rfl, Nat.le_of_ble_eq_true rfl, Nat.le_of_ble_eq_true rfl, Nat.le_of_ble_eq_true rfl⟩ (fun τ26 hr26 => ?_)
          have hz26 : zOK τ26 := hr26.1
          refine zy_iinc (b := j - 1) [zf 8 259, zi x, zi (j - 1), zi (zand (zushr x (5 * ((i - 1 : Nat) : Int))) 31)] dX8_putName_29 rfl (by omega) (Nat.le_of_ble_eq_true rfl) rfl rfl ?_
          refine zx_goto (tgt := 2) dX8_putName_32 (by decide) ?_
          refine zy_drop 3 [zf 8 259, zi x, zi (j - 1), zu] rfl ?_
          exact ih2 τ26 (j - 1) (i - 1) (M ++ [97 + (zand (zushr x (5 * ((i - 1 : Nat) : Int))) 31) - 1]) hz26 (by omega) (by first | exact h1 | exact (zSame_tr h1 hr26.2.1 (fun q hq => by first | omega | (dsimp only at hq ⊢; omega)))) (by
        have e : i = i - 1 + 1 := by omega
        have q := hM.2.1
        rw [e, nmL] at q
        first
        | (rw [if_neg h16] at q; exact ⟨hr26.2.2, by rw [← q]; simp, by rw [List.length_append, List.length_singleton]; omega⟩)
        | (rw [if_pos h16] at q; exact ⟨hM.1, by rw [← q]; simp, by omega⟩)) (by omega)
  exact L2 _ σ 5 6 L hz (by omega) (zSame_rf _ _) ⟨hL, rfl, by omega⟩ (Nat.lt_succ_self _)
set_option maxRecDepth 20000 in
set_option maxHeartbeats 2000000 in
theorem sX8_putNumber {l : Launch} {w : zW} (hfl : l.stackTraces = false) {σ : zS} {x : Int} {L : List Int} (hz : zOK σ) (hx : 0 ≤ x ∧ x < 10000) (hL : Out σ L) (hl : L.length ≤ 127) : Sp l w mX8_putNumber 1 0 [zf 8 259, zi x] σ (zqv (none) (fun τ => zOK τ ∧ zSame (fun q => 259 ≤ q ∧ q ≤ 260) σ τ ∧ Out τ (L ++ dgL x))) := by
  obtain ⟨Q, hQ⟩ : ∃ Q : zQ, Q = (zqv (none) (fun τ => zOK τ ∧ zSame (fun q => 259 ≤ q ∧ q ≤ 260) σ τ ∧ Out τ (L ++ dgL x))) := ⟨_, rfl⟩
  rw [← hQ]
  refine zx_enter hfl (by decide) rfl 1 rfl ?_
  show zX l w mX8_putNumber (zMQ w 1 0 Q) 0 [zf 8 259, zi x, zu] [] 0 σ
  have hx2 : zr x := by unfold zr; omega
  refine zx_sipush dX8_putNumber_0 rfl ?_
  refine zy_istoreN [zf 8 259, zi x, zi 1000] dX8_putNumber_3 rfl (Nat.le_of_ble_eq_true rfl) (Nat.le_of_ble_eq_true rfl) rfl rfl ?_
  have L4 : ∀ (N : Nat) (τ : zS) (j : Int) (i : Nat) (M : List Int), (zOK τ) → ((i = 4 ∧ j = 1000 ∧ M = L) ∨ (i = 3 ∧ j = 100 ∧ M = L ++ (if 1000 ≤ x then [48 + x / 1000 % 10] else [])) ∨ (i = 2 ∧ j = 10 ∧ M = L ++ ((if 1000 ≤ x then [48 + x / 1000 % 10] else []) ++ (if 100 ≤ x then [48 + x / 100 % 10] else []))) ∨ (i = 1 ∧ j = 1 ∧ M = L ++ ((if 1000 ≤ x then [48 + x / 1000 % 10] else []) ++ (if 100 ≤ x then [48 + x / 100 % 10] else []) ++ (if 10 ≤ x then [48 + x / 10 % 10] else []))) ∨ (i = 0 ∧ j = 0 ∧ M = L ++ dgL x)) → (zSame (fun q => 259 ≤ q ∧ q ≤ 260) σ τ) → (Out τ M ∧ M.length + i ≤ L.length + 4) → (i + 1) < N → zX l w mX8_putNumber (zMQ w 1 0 Q) 4 [zf 8 259, zi x, zi j] [] 0 τ := by
    intro N
    induction N with
    | zero => intro τ j i M _ _ _ _ _; exact absurd (by assumption) (Nat.not_lt_zero _)
    | succ N ih4 =>
      intro τ j i M hz hj h1 hM hN
      refine zx_iloadN dX8_putNumber_4 rfl rfl ?_
      refine zx_if_le (tgt := 39) (by first | exact hz _ _ | assumption | exact zr_b _ | exact zcmp_r _ _ | (unfold zr at *; omega)) dX8_putNumber_5 (by decide) (fun h5 => ?_) (fun h5 => ?_)
      · refine zx_vret rfl dX8_putNumber_39 ?_
        rw [hQ]
        refine ⟨rfl, ?_⟩
        refine ⟨hz, h1, ?_⟩
        rcases hj with ⟨rfl, rfl, -⟩ | ⟨rfl, rfl, -⟩ | ⟨rfl, rfl, -⟩ | ⟨rfl, rfl, -⟩ | ⟨rfl, rfl, hj⟩
        · exfalso; omega
        · exfalso; omega
        · exfalso; omega
        · exfalso; omega
        · rw [← hj]; exact hM.1
      · refine zx_iloadN dX8_putNumber_8 rfl rfl ?_
        refine zx_iloadN dX8_putNumber_9 rfl rfl ?_
        refine zx_icmp_ge (tgt := 18) (by first | exact hz _ _ | assumption | exact zr_b _ | exact zcmp_r _ _ | (unfold zr at *; omega)) (by first | exact hz _ _ | assumption | exact zr_b _ | exact zcmp_r _ _ | (unfold zr at *; omega)) dX8_putNumber_10 (by decide) (fun h10 => ?_) (fun h10 => ?_)
        · refine zx_aloadN dX8_putNumber_18 rfl rfl ?_
          refine zx_bipush dX8_putNumber_19 rfl ?_
          refine zx_iloadN dX8_putNumber_21 rfl rfl ?_
          refine zx_iloadN dX8_putNumber_22 rfl rfl ?_
          refine zx_idiv (by omega) (by omega) (by omega) (by omega) dX8_putNumber_23 ?_
          refine zy_top (b := x / j) (rfl) ?_
          have hd0 : 0 ≤ x / j ∧ x / j < 10000 := by rcases hj with ⟨-, rfl, -⟩ | ⟨-, rfl, -⟩ | ⟨-, rfl, -⟩ | ⟨-, rfl, -⟩ | ⟨-, rfl, -⟩ <;> omega
          refine zx_bipush dX8_putNumber_24 rfl ?_
          refine zx_irem (by omega) (by omega) (by omega) (by omega) dX8_putNumber_26 ?_
          refine zx_iadd dX8_putNumber_27 ?_
          have hd : 0 ≤ x / j ∧ x / j < 10000 := by rcases hj with ⟨-, rfl, -⟩ | ⟨-, rfl, -⟩ | ⟨-, rfl, -⟩ | ⟨-, rfl, -⟩ | ⟨-, rfl, -⟩ <;> omega
          refine zy_cvvR [zi (48 + ((x / j) % 10))] (sX8_put (L := M) hfl hz (by first | assumption | omega) hM.1 (by first | assumption | omega)) dX8_putNumber_28 (by decide) rfl cw_RX8_19 okX8_put rfl (Nat.le_of_ble_eq_true rfl) ⟨Nat.le_of_ble_eq_true rfl, Nat.le_of_ble_eq_true rfl, Nat.le_of_ble_eq_true rfl, Nat.le_of_ble_eq_true rfl⟩ (fun τ28 hr28 => ?_)
          have hz28 : zOK τ28 := hr28.1
          refine zx_iloadN dX8_putNumber_31 rfl rfl ?_
          refine zx_bipush dX8_putNumber_32 rfl ?_
          refine zx_idiv (by omega) (by omega) (by omega) (by omega) dX8_putNumber_34 ?_
          refine zy_istoreN [zf 8 259, zi x, zi (j / 10)] dX8_putNumber_35 rfl (Nat.le_of_ble_eq_true rfl) (Nat.le_of_ble_eq_true rfl) rfl rfl ?_
          refine zx_goto (tgt := 4) dX8_putNumber_36 (by decide) ?_
          exact ih4 τ28 (j / 10) (i - 1) (M ++ [48 + x / j % 10]) hz28 (by
        rcases hj with ⟨rfl, rfl, rfl⟩ | ⟨rfl, rfl, rfl⟩ | ⟨rfl, rfl, rfl⟩ | ⟨rfl, rfl, rfl⟩ | ⟨rfl, rfl, rfl⟩
        · refine Or.inr (Or.inl ⟨rfl, by omega, ?_⟩); first | (rw [if_pos (by omega)]) | (rw [if_neg (by omega)]; simp)
        · refine Or.inr (Or.inr (Or.inl ⟨rfl, by omega, ?_⟩)); first | (rw [if_pos (by omega : 100 ≤ x)]; simp) | (rw [if_neg (by omega : ¬ 100 ≤ x)]; simp)
        · refine Or.inr (Or.inr (Or.inr (Or.inl ⟨rfl, by omega, ?_⟩))); first | (rw [if_pos (by omega : 10 ≤ x)]; simp) | (rw [if_neg (by omega : ¬ 10 ≤ x)]; simp)
        · refine Or.inr (Or.inr (Or.inr (Or.inr ⟨rfl, by omega, ?_⟩))); first | (exfalso; omega) | (unfold dgL; simp [Int.ediv_one])
        · exfalso; omega) (by first | exact h1 | exact (zSame_tr h1 hr28.2.1 (fun q hq => by first | omega | (dsimp only at hq ⊢; omega)))) (by first | exact ⟨hr28.2.2, by rw [List.length_append, List.length_singleton]; omega⟩ | exact ⟨hM.1, by omega⟩) (by omega)
        · refine zx_iloadN dX8_putNumber_13 rfl rfl ?_
          refine zx_iconst dX8_putNumber_14 ?_
          refine zx_icmp_ne (tgt := 31) (by first | exact hz _ _ | assumption | exact zr_b _ | exact zcmp_r _ _ | (unfold zr at *; omega)) (by first | exact hz _ _ | assumption | exact zr_b _ | exact zcmp_r _ _ | (unfold zr at *; omega)) dX8_putNumber_15 (by decide) (fun h15 => ?_) (fun h15 => ?_)
          · refine zx_iloadN dX8_putNumber_31 rfl rfl ?_
            refine zx_bipush dX8_putNumber_32 rfl ?_
            refine zx_idiv (by omega) (by omega) (by omega) (by omega) dX8_putNumber_34 ?_
            refine zy_istoreN [zf 8 259, zi x, zi (j / 10)] dX8_putNumber_35 rfl (Nat.le_of_ble_eq_true rfl) (Nat.le_of_ble_eq_true rfl) rfl rfl ?_
            refine zx_goto (tgt := 4) dX8_putNumber_36 (by decide) ?_
            exact ih4 τ (j / 10) (i - 1) M hz (by
        rcases hj with ⟨rfl, rfl, rfl⟩ | ⟨rfl, rfl, rfl⟩ | ⟨rfl, rfl, rfl⟩ | ⟨rfl, rfl, rfl⟩ | ⟨rfl, rfl, rfl⟩
        · refine Or.inr (Or.inl ⟨rfl, by omega, ?_⟩); first | (rw [if_pos (by omega)]) | (rw [if_neg (by omega)]; simp)
        · refine Or.inr (Or.inr (Or.inl ⟨rfl, by omega, ?_⟩)); first | (rw [if_pos (by omega : 100 ≤ x)]; simp) | (rw [if_neg (by omega : ¬ 100 ≤ x)]; simp)
        · refine Or.inr (Or.inr (Or.inr (Or.inl ⟨rfl, by omega, ?_⟩))); first | (rw [if_pos (by omega : 10 ≤ x)]; simp) | (rw [if_neg (by omega : ¬ 10 ≤ x)]; simp)
        · refine Or.inr (Or.inr (Or.inr (Or.inr ⟨rfl, by omega, ?_⟩))); first | (exfalso; omega) | (unfold dgL; simp [Int.ediv_one])
        · exfalso; omega) (by first | exact h1 | exact (zSame_tr h1 hr28.2.1 (fun q hq => by first | omega | (dsimp only at hq ⊢; omega)))) (by first | exact ⟨hr28.2.2, by rw [List.length_append, List.length_singleton]; omega⟩ | exact ⟨hM.1, by omega⟩) (by omega)
          · refine zx_aloadN dX8_putNumber_18 rfl rfl ?_
            refine zx_bipush dX8_putNumber_19 rfl ?_
            refine zx_iloadN dX8_putNumber_21 rfl rfl ?_
            refine zx_iloadN dX8_putNumber_22 rfl rfl ?_
            refine zx_idiv (by omega) (by omega) (by omega) (by omega) dX8_putNumber_23 ?_
            refine zy_top (b := x / j) (rfl) ?_
            have hd0 : 0 ≤ x / j ∧ x / j < 10000 := by rcases hj with ⟨-, rfl, -⟩ | ⟨-, rfl, -⟩ | ⟨-, rfl, -⟩ | ⟨-, rfl, -⟩ | ⟨-, rfl, -⟩ <;> omega
            refine zx_bipush dX8_putNumber_24 rfl ?_
            refine zx_irem (by omega) (by omega) (by omega) (by omega) dX8_putNumber_26 ?_
            refine zx_iadd dX8_putNumber_27 ?_
            have hd : 0 ≤ x / j ∧ x / j < 10000 := by rcases hj with ⟨-, rfl, -⟩ | ⟨-, rfl, -⟩ | ⟨-, rfl, -⟩ | ⟨-, rfl, -⟩ | ⟨-, rfl, -⟩ <;> omega
            refine zy_cvvR [zi (48 + ((x / j) % 10))] (sX8_put (L := M) hfl hz (by first | assumption | omega) hM.1 (by first | assumption | omega)) dX8_putNumber_28 (by decide) rfl cw_RX8_19 okX8_put rfl (Nat.le_of_ble_eq_true rfl) ⟨Nat.le_of_ble_eq_true rfl, Nat.le_of_ble_eq_true rfl, Nat.le_of_ble_eq_true rfl, Nat.le_of_ble_eq_true rfl⟩ (fun τ28 hr28 => ?_)
            have hz28 : zOK τ28 := hr28.1
            refine zx_iloadN dX8_putNumber_31 rfl rfl ?_
            refine zx_bipush dX8_putNumber_32 rfl ?_
            refine zx_idiv (by omega) (by omega) (by omega) (by omega) dX8_putNumber_34 ?_
            refine zy_istoreN [zf 8 259, zi x, zi (j / 10)] dX8_putNumber_35 rfl (Nat.le_of_ble_eq_true rfl) (Nat.le_of_ble_eq_true rfl) rfl rfl ?_
            refine zx_goto (tgt := 4) dX8_putNumber_36 (by decide) ?_
            exact ih4 τ28 (j / 10) (i - 1) (M ++ [48 + x / j % 10]) hz28 (by
        rcases hj with ⟨rfl, rfl, rfl⟩ | ⟨rfl, rfl, rfl⟩ | ⟨rfl, rfl, rfl⟩ | ⟨rfl, rfl, rfl⟩ | ⟨rfl, rfl, rfl⟩
        · refine Or.inr (Or.inl ⟨rfl, by omega, ?_⟩); first | (rw [if_pos (by omega)]) | (rw [if_neg (by omega)]; simp)
        · refine Or.inr (Or.inr (Or.inl ⟨rfl, by omega, ?_⟩)); first | (rw [if_pos (by omega : 100 ≤ x)]; simp) | (rw [if_neg (by omega : ¬ 100 ≤ x)]; simp)
        · refine Or.inr (Or.inr (Or.inr (Or.inl ⟨rfl, by omega, ?_⟩))); first | (rw [if_pos (by omega : 10 ≤ x)]; simp) | (rw [if_neg (by omega : ¬ 10 ≤ x)]; simp)
        · refine Or.inr (Or.inr (Or.inr (Or.inr ⟨rfl, by omega, ?_⟩))); first | (exfalso; omega) | (unfold dgL; simp [Int.ediv_one])
        · exfalso; omega) (by first | exact h1 | exact (zSame_tr h1 hr28.2.1 (fun q hq => by first | omega | (dsimp only at hq ⊢; omega)))) (by first | exact ⟨hr28.2.2, by rw [List.length_append, List.length_singleton]; omega⟩ | exact ⟨hM.1, by omega⟩) (by omega)
  exact L4 _ σ 1000 4 L hz (Or.inl ⟨rfl, rfl, rfl⟩) (zSame_rf _ _) ⟨hL, by omega⟩ (Nat.lt_succ_self _)

