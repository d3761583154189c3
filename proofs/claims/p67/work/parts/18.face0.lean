
section ZF
variable {l : Launch} {w : zW} {m : zM} {M : zMo} {pc k : Nat} {ls st : List zV} {σ : zS}
def zthq (E : String) (R : zS → Prop) : zQ := fun o τ => o = .inr E ∧ R τ
theorem zx_throwW {h n : Nat} {Q : zQ} {E tx : String} {names : List String} {ik is ic j : Nat} (hh : m.2.2.2.2 = []) (hcls : Bundle.fit E = true) (hnames : ∀ x ∈ names, Bundle.fit x = true)
    (hwk : Cond.classLink m.1.cls ik E ∈ zgood) (hwi : Cond.initialized E ∈ zgood) (hq : (m.1.cls, is, tx, j) ∈ zstrs) (hat : ∀ x ∈ vx_atS m.1.cls ic E names, x ∈ lw_tbl) (hot : ∀ x ∈ Cond.classLink m.1.cls ik E :: Cond.initialized E :: vx_atS m.1.cls ic E names, vx_ot x = true) (hgo : ∀ x ∈ vx_atS m.1.cls ic E names, goodWord x = true ∨ (x.onTables && x.keepsFace) = true)
    (d0 : decode m.2.1 pc = .ok (.new ik, 3)) (d3 : decode m.2.1 (pc + 3) = .ok (.dup, 1)) (d4 : decode m.2.1 (pc + 4) = .ok (.ldc_w is, 3)) (d6 : decode m.2.1 (pc + 7) = .ok (.invokespecial ic, 3)) (d9 : decode m.2.1 (pc + 10) = .ok (.athrow, 1))
    (hst : (st.map zcat).sum ≤ 8) (hn1 : names.length + 3 < h) (hn2 : 8 + (13 * (names.length + 1) + 43) ≤ 34 * h) (hk : k + 1 ≤ n) (hQ : Q (.inr E) σ) : zX l w m (zMQ w h n Q) pc ls st k σ := by
  intro p e s mid args below meth c C H locs Ls hR hS hl hol hos hc hs
  obtain ⟨hx, hb, hml, hr, htab, hown, hts, hlk, hE, hfl⟩ := id C
  have hg : ∀ x ∈ vx_atS m.1.cls ic E names, x.before args s = true := fun x hx => by
    rcases hgo x hx with g | g
    · exact hts x (List.mem_filter.mpr ⟨hat x hx, g⟩)
    · exact zface_same (List.mem_filter.mpr ⟨hat x hx, g⟩) rfl (hE.2.2.2.2.2.2.2.2.2.2.2.2.1 x (List.mem_filter.mpr ⟨hat x hx, g⟩))
  have hsum : ((st.map (zc w)).map fun v => v.category).sum ≤ 8 := by
    rw [List.map_map]
    have : ((fun v : Value => v.category) ∘ zc w) = zcat := funext fun v => zcat_c w v
    rw [this]
    exact hst
  refine vx_throwSW (mc := n) (ms := 6 * n) hx hb hfl hown hcls hnames (hts _ hwk) (hts _ hwi) (hE.2.2.2.2.2.2.1 _ hq) hg hot hE.2.2.2.1 hE.2.2.2.2.1 hS (hl.1.trans hml.symm) d0 d3 d4 d6 d9 (fun x hx => ?_) hn1 ?_ (by show 0 + k + 1 ≤ n; omega) (by show 0 + 6 * k + 6 ≤ 6 * n; omega) hlk (fun t hvm hz hkp => ?_) (fun z hz => hS.2.2 z hz) (by show 0 + k + 1 ≤ n; omega) (by show 0 + 6 * k + 6 ≤ 6 * n; omega)
  · rw [htab, hh] at hx
    exact absurd hx (by unfold tableOf; simp)
  · show _ ≤ 34 * h
    omega
  · refine ⟨σ, hQ, fun i q hq => (hR i q hq).kept (hkp _ (hR i q hq).lt), Nat.le_trans hS.1 hz, fun q h1 h2 => ?_⟩
    rw [hkp q (Nat.lt_of_lt_of_le h1 hS.1)]
    exact hS.2.1 q h1 h2
theorem zy_cvtR {m' : zM} {h' n' ix t q np : Nat} (as : List zV) {E0 : String} {R : zS → Prop} (hsp : Sp l w m' h' n' (zf t q :: as) σ (zthq E0 R)) (hd : decode m.2.1 pc = .ok (.invokevirtual ix, 3)) (ht : t < 20) (hcl : (vwCl[t]?).map (fun q => q.1) = some m'.1.cls) (hw : zCwV m.1.cls ix m') (hm : zMok m' np) (hnp : as.length = np) (hst : (st.map zcat).sum ≤ 8) (hf : zfit M m' h' n' k)
    (kk : ∀ τ, R τ → zXT l w m M pc ls (k + n') τ E0) : zX l w m M pc ls (as.reverse ++ zf t q :: st) k σ :=
  zx_callV hsp hd ht hcl hw hm hnp hst hf (fun r τ hq => by cases hq.1) (fun E τ hq => by obtain ⟨h1, h2⟩ := hq; cases h1; exact kk τ h2)
end ZF
/-! the present judgement -/
def Ht (D : zBk) (c : Nat) : Prop := ¬ D 17 c = 0 ∧ D 18 c = 0
noncomputable def wP (D : zBk) (H : Nat → Prop) : Nat := (rkP D H 0).toNat
noncomputable def wY (D : zBk) (H : Nat → Prop) : Int := 1450 + ((tR D H (wP D H) : Nat) : Int)
noncomputable def wS (D : zBk) (H : Nat → Prop) : Int := tS D H (wP D H)
theorem sc_hc {D : zBk} {H H' : Nat → Prop} (h : ∀ c : Nat, (c : Int) < D 12 0 → (H c ↔ H' c)) (p r : Nat) : sc D H p r = sc D H' p r := by
  unfold sc
  exact zs_congr (fun c hc => zif_c (by rw [h c (by omega)]))
theorem tR_hc {D : zBk} {H H' : Nat → Prop} (h : ∀ c : Nat, (c : Int) < D 12 0 → (H c ↔ H' c)) (p : Nat) : tR D H p = tR D H' p := by
  unfold tR
  exact (y_congr (fun i _ _ => sc_hc h p i)).1
theorem tN_hc {D : zBk} {H H' : Nat → Prop} (h : ∀ c : Nat, (c : Int) < D 12 0 → (H c ↔ H' c)) (p : Nat) : tN D H p = tN D H' p := by
  unfold tN
  exact (y_congr (fun i _ _ => sc_hc h p i)).2
theorem tS_hc {D : zBk} {H H' : Nat → Prop} (h : ∀ c : Nat, (c : Int) < D 12 0 → (H c ↔ H' c)) (p : Nat) : tS D H p = tS D H' p := by
  unfold tS
  rw [sc_hc h, tR_hc h]
theorem rkP_hc {D : zBk} {H H' : Nat → Prop} (h : ∀ c : Nat, (c : Int) < D 12 0 → (H c ↔ H' c)) (r : Int) : rkP D H r = rkP D H' r := by
  unfold rkP
  exact atR_congr (fun a b _ _ => by unfold ahd; rw [tS_hc h, tS_hc h]) r
theorem wP_hc {D : zBk} {H H' : Nat → Prop} (h : ∀ c : Nat, (c : Int) < D 12 0 → (H c ↔ H' c)) : wP D H = wP D H' := by
  unfold wP; rw [rkP_hc h]
theorem wY_hc {D : zBk} {H H' : Nat → Prop} (h : ∀ c : Nat, (c : Int) < D 12 0 → (H c ↔ H' c)) : wY D H = wY D H' := by
  unfold wY; rw [wP_hc h, tR_hc h]
theorem wS_hc {D : zBk} {H H' : Nat → Prop} (h : ∀ c : Nat, (c : Int) < D 12 0 → (H c ↔ H' c)) : wS D H = wS D H' := by
  unfold wS; rw [wP_hc h, tS_hc h]
theorem Jd_hc {D : zBk} {H H' : Nat → Prop} {τ : zS} (h : ∀ c : Nat, (c : Int) < D 12 0 → (H c ↔ H' c)) (hJ : Jd D H τ) : Jd D H' τ := by
  obtain ⟨a, b, c, d⟩ := hJ
  refine ⟨a, fun x hx => (b x hx).trans (zb_c (h x hx)), fun p hp => ?_, ?_⟩
  · rw [← tR_hc h, ← tS_hc h, ← tN_hc h]; exact c p hp
  · rw [← funext (tS_hc h)]; exact d
theorem Hd_Ht {D : zBk} (w : WF D) {c : Nat} (hc : (c : Int) < D 12 0) : Hd D 0 (-1) c ↔ Ht D c := by
  obtain ⟨i, hi, e⟩ := WFo_sj w.2.2.2.2.2 hc
  have hu : 0 ≤ U D i := (zsb_le _ i).1
  unfold Hd Ht
  subst e
  rw [Rd_at w.2.2.2.2.2 hi]
  constructor
  · rintro ⟨h1, h2, h3⟩; exact ⟨h1.resolve_right (by omega), h2⟩
  · rintro ⟨h1, h2⟩; exact ⟨Or.inl h1, h2, by omega⟩
theorem tR_b {D : zBk} {H : Nat → Prop} (w : WF D) {p : Nat} (hp : (p : Int) < D 1 0) : D 4 p ≤ 1450 + ((tR D H p : Nat) : Int) ∧ 1450 + ((tR D H p : Nat) : Int) ≤ D 5 p := by
  have hy := (w.2.1 p hp).2
  have := yTop_r (sc D H p) (D 4 p - 1450).toNat (D 5 p - D 4 p + 1).toNat
  unfold tR
  omega
theorem tN_b {D : zBk} {H : Nat → Prop} (w : WF D) {p : Nat} (hp : (p : Int) < D 1 0) : 0 ≤ tN D H p ∧ tN D H p ≤ 550 := by
  have hy := (w.2.1 p hp).2
  have := yCnt_r (sc D H p) (D 4 p - 1450).toNat (D 5 p - D 4 p + 1).toNat
  unfold tN
  omega
theorem tS_b {D : zBk} {H : Nat → Prop} (w : WF D) (p : Nat) : 0 ≤ tS D H p ∧ tS D H p ≤ 360 := wt_b w _
/-- the winner in the cells -/
theorem Jd_win {D : zBk} {H : Nat → Prop} {τ : zS} (w : WF D) (hJ : Jd D H τ) (h1 : 1 ≤ D 1 0) : (wP D H : Int) < D 1 0 ∧ τ.1 258 0 = wP D H ∧ τ.1 255 (wP D H) = wY D H ∧ τ.1 256 (wP D H) = wS D H := by
  obtain ⟨a, b, c, d⟩ := hJ
  have e := ordOK_at d (i := 0) (by omega)
  have r := d.1 0 (by omega)
  have e2 : wP D H = (τ.1 258 0).toNat := by
    unfold wP rkP
    rw [show (0 : Int) = ((0 : Nat) : Int) from rfl]
    rw [show atR (ahd D H) (D 1 0).toNat ((0 : Nat) : Int) = _ from e]
    rfl
  have hl : (wP D H : Int) < D 1 0 := by rw [e2]; omega
  obtain ⟨c1, c2, c3⟩ := c _ hl
  exact ⟨hl, by rw [e2]; omega, c1, c2⟩
theorem Jd_rk {D : zBk} {H : Nat → Prop} {τ : zS} (hJ : Jd D H τ) (r : Int) : (if 0 ≤ r ∧ r < D 1 0 then τ.1 258 r.toNat else -1) = rkP D H r := by
  obtain ⟨a, b, c, d⟩ := hJ
  by_cases h : 0 ≤ r ∧ r < D 1 0
  · rw [if_pos h]
    have e := ordOK_at d (i := r.toNat) (by omega)
    have := d.1 r.toNat (by omega)
    rw [show ((r.toNat : Nat) : Int) = r by omega] at e
    rw [show rkP D H r = _ from e]
    omega
  · rw [if_neg h]
    exact (ordOK_no d (by omega)).symm
/-! the output -/
def Out (σ : zS) (L : List Int) : Prop := σ.1 259 1 = L.length ∧ ∀ i : Nat, i < L.length → σ.1 260 i = L.getD i 0
theorem Out_put {σ : zS} {L : List Int} {v : Int} (h : Out σ L) (hv : 0 ≤ v ∧ v < 128) : Out (zput (zput σ 260 (σ.1 259 1).toNat (zb8 v)) 259 1 (σ.1 259 1 + 1)) (L ++ [v]) := by
  obtain ⟨h1, h2⟩ := h
  have e : zb8 v = v := by rw [zb8_v ⟨hv.1, by omega⟩, if_pos hv.2]
  refine ⟨(zput_s _ _ _ _).trans (by rw [h1, List.length_append]; rfl), fun i hi => (zput_k _ _ _ _ _ (by omega)).trans ?_⟩
  rw [h1, Int.toNat_natCast, e]
  rw [List.length_append] at hi
  simp only [zput_e, true_and, List.getD_eq_getElem?_getD]
  by_cases q : i = L.length
  · rw [if_pos q, q]; simp
  · have hi2 : i < L.length := by have : i < L.length + 1 := hi; omega
    rw [if_neg q, h2 i hi2, List.getElem?_append_left hi2, List.getD_eq_getElem?_getD]
noncomputable def nmL (x : Int) : Nat → List Int
  | 0 => []
  | i + 1 => (if zand (zushr x (5 * (i : Int))) 31 = 0 then [] else [97 + zand (zushr x (5 * (i : Int))) 31 - 1]) ++ nmL x i
def dgL (x : Int) : List Int := (if 1000 ≤ x then [48 + x / 1000 % 10] else []) ++ (if 100 ≤ x then [48 + x / 100 % 10] else []) ++ (if 10 ≤ x then [48 + x / 10 % 10] else []) ++ [48 + x % 10]



