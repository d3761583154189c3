/-! one cell over; books alike in what the row holds -/
def ov (D : zBk) (o i : Nat) (v : Int) : zBk := fun o' i' => if o' = o ∧ i' = i then v else D o' i'
theorem ov_s (D : zBk) (o i : Nat) (v : Int) : ov D o i v o i = v := if_pos ⟨rfl, rfl⟩
theorem ov_k (D : zBk) (o i : Nat) (v : Int) {o' i' : Nat} (h : o' ≠ o) : ov D o i v o' i' = D o' i' := if_neg (fun q => h q.1)
theorem ov_i (D : zBk) (o i : Nat) (v : Int) {o' i' : Nat} (h : i' ≠ i) : ov D o i v o' i' = D o' i' := if_neg (fun q => h q.2)
def lEq (D D' : zBk) : Prop := (D' 1 0 = D 1 0 ∧ D' 1 7 = D 1 7 ∧ D' 1 10 = D 1 10 ∧ D' 12 0 = D 12 0) ∧ (∀ p : Nat, (p : Int) < D 1 0 → ∀ o, 2 ≤ o → o ≤ 7 → D' o p = D o p) ∧ (∀ q : Nat, (q : Int) < D 1 7 → D' 8 q = D 8 q ∧ D' 9 q = D 9 q) ∧ (∀ q : Nat, (q : Int) < D 1 10 → D' 10 q = D 10 q ∧ D' 11 q = D 11 q) ∧ ∀ c : Nat, (c : Int) < D 12 0 → ∀ o, 13 ≤ o → o ≤ 18 → D' o c = D o c
theorem lEq_z {D D' : zBk} (w : WF D) (h : zEq D D') : lEq D D' := by
  have hn := w.1
  unfold WFn at hn
  exact ⟨h.1, fun p hp o h1 h2 => h.2.1 o h1 (by omega) p (by omega), fun q hq => ⟨h.2.1 8 (by omega) (by omega) q (by omega), h.2.1 9 (by omega) (by omega) q (by omega)⟩, fun q hq => ⟨h.2.2.1 10 (by omega) (by omega) q (by omega), h.2.2.1 11 (by omega) (by omega) q (by omega)⟩, fun c hc o h1 h2 => h.2.2.2 o h1 (by omega) c (by omega)⟩
theorem Rel_l {D D' : zBk} {r : Nat → Int} (e : lEq D D') (h : Rel D r) : Rel D' r := by
  obtain ⟨⟨e1, e2, e3, e4⟩, e5, e6, e7, e8⟩ := e
  obtain ⟨⟨a1, a2, a3, a4⟩, b, c, d, f⟩ := h
  refine ⟨⟨a1.trans e1.symm, a2.trans e2.symm, a3.trans e3.symm, a4.trans e4.symm⟩, fun p hp => ?_, fun q hq => ?_, fun q hq => ?_, fun k hk o ho => ?_⟩
  · rw [e1] at hp
    obtain ⟨⟨n1, n2, n3⟩, n4⟩ := b p hp
    exact ⟨⟨n1, n2, (e5 p hp 2 (by omega) (by omega)).trans n3⟩, fun o h1 h2 => (n4 o h1 h2).trans (e5 p hp (o - 4) (by omega) (by omega)).symm⟩
  · rw [e2] at hq
    exact ⟨(c q hq).1.trans (e6 q hq).1.symm, (c q hq).2.trans (e6 q hq).2.symm⟩
  · rw [e3] at hq
    exact ⟨(d q hq).1.trans (e7 q hq).1.symm, (d q hq).2.trans (e7 q hq).2.symm⟩
  · rw [e4] at hk
    exact (f k hk o ho).trans (e8 k hk (13 + o) (by omega) (by omega)).symm
theorem Rel_putK {D : zBk} {σ : zS} {c o : Nat} {v : Int} (w : WF D) (h : Rel D (σ.1 262)) (hc : (c : Int) < D 12 0) (ho : o < 6) : Rel (ov D (13 + o) c v) ((zput σ 262 (140 + 6 * c + o) v).1 262) := by
  have hn := w.1
  unfold WFn at hn
  obtain ⟨⟨a1, a2, a3, a4⟩, b, m, d, f⟩ := h
  have k1 : ∀ i, i < 140 → (zput σ 262 (140 + 6 * c + o) v).1 262 i = σ.1 262 i := fun i hi => zput_i _ _ _ _ _ (by omega)
  have g : ∀ o' i', o' < 13 → ov D (13 + o) c v o' i' = D o' i' := fun o' i' h1 => ov_k _ _ _ _ (by omega)
  refine ⟨⟨?_, ?_, ?_, ?_⟩, fun p hp => ?_, fun q hq => ?_, fun q hq => ?_, fun c2 hc2 o2 ho2 => ?_⟩
  · rw [k1 0 (by omega), g _ _ (by omega)]; exact a1
  · rw [k1 1 (by omega), g _ _ (by omega)]; exact a2
  · rw [k1 2 (by omega), g _ _ (by omega)]; exact a3
  · rw [k1 3 (by omega), g _ _ (by omega)]; exact a4
  · rw [g _ _ (by omega)] at hp
    obtain ⟨⟨n1, n2, n3⟩, n4⟩ := b p hp
    refine ⟨⟨?_, fun k hk => ?_, ?_⟩, fun o h1 h2 => ?_⟩
    · rw [k1 _ (by omega)]; exact n1
    · rw [k1 _ (by omega)] at hk
      rw [k1 _ (by omega)]; exact n2 k hk
    · rw [k1 _ (by omega), g _ _ (by omega), n3]
      have hz : ∀ (n : Nat), n ≤ 6 → pkF (fun k => σ.1 262 (4 + 12 * p + 1 + k)) n = pkF (fun k => (zput σ 262 (140 + 6 * c + o) v).1 262 (4 + 12 * p + 1 + k)) n := by
        intro n
        induction n with
        | zero => intro _; rfl
        | succ n ih => intro hn; rw [pkF, pkF, ih (by omega), k1 _ (by omega)]
      exact hz _ (by omega)
    · rw [k1 _ (by omega), g _ _ (by omega)]; exact n4 o h1 h2
  · rw [g _ _ (by omega)] at hq
    rw [k1 _ (by omega), k1 _ (by omega), g _ _ (by omega), g _ _ (by omega)]
    exact m q hq
  · rw [g _ _ (by omega)] at hq
    rw [k1 _ (by omega), k1 _ (by omega), g _ _ (by omega), g _ _ (by omega)]
    exact d q hq
  · rw [g _ _ (by omega)] at hc2
    by_cases e : c2 = c ∧ o2 = o
    · rw [e.1, e.2, zput_s, ov_s]
    · rw [zput_i _ _ _ _ _ (by omega)]
      rw [show ov D (13 + o) c v (13 + o2) c2 = D (13 + o2) c2 from if_neg (by omega)]
      exact f c2 hc2 o2 ho2
theorem WF_ovK {D : zBk} (w : WF D) {o c : Nat} {v : Int} (ho : (o = 16 ∧ 1 ≤ v ∧ v ≤ 9) ∨ ((o = 17 ∨ o = 18) ∧ (v = 0 ∨ v = 1))) : WF (ov D o c v) := by
  obtain ⟨wn, wp, wm, we, wc, wo⟩ := w
  have g : ∀ o' i', (o' < 16 ∨ o' = 19) → ov D o c v o' i' = D o' i' := fun o' i' h1 => ov_k _ _ _ _ (by omega)
  refine ⟨?_, fun p hp => ?_, fun q hq => ?_, fun q hq => ?_, fun k hk => ?_, fun i hi => ?_, fun i j hij hj => ?_, fun k hk => ?_⟩
  · unfold WFn at *; rw [g _ _ (by omega), g _ _ (by omega), g _ _ (by omega), g _ _ (by omega)]; exact wn
  · rw [g _ _ (by omega)] at hp
    rw [g _ _ (by omega), g _ _ (by omega), g _ _ (by omega)]; exact wp p hp
  · rw [g _ _ (by omega)] at hq
    rw [g _ _ (by omega), g _ _ (by omega)]; exact wm q hq
  · rw [g _ _ (by omega)] at hq
    rw [g _ _ (by omega), g _ _ (by omega), g _ _ (by omega)]; exact we q hq
  · rw [g _ _ (by omega)] at hk
    obtain ⟨h1, h2, h3, h4, h5⟩ := wc k hk
    rw [g _ _ (by omega), g _ _ (by omega), g _ _ (by omega)]
    refine ⟨h1, ?_, ?_, ?_, ?_⟩
    · unfold WFk at *; rw [g _ _ (by omega)]; exact h2
    · unfold ov; split <;> omega
    · unfold ov; split <;> omega
    · unfold ov; split <;> omega
  · rw [g _ _ (by omega)] at hi
    rw [g _ _ (by omega), g _ _ (by omega)]; exact wo.1 i hi
  · rw [g _ _ (by omega)] at hj
    have := wo.2.1 i j hij hj
    unfold bef at *
    rw [g 19 i (by omega), g 19 j (by omega), g 13 _ (by omega), g 13 _ (by omega)]; exact this
  · rw [g _ _ (by omega)] at hk
    obtain ⟨i, h1, h2⟩ := wo.2.2 k hk
    exact ⟨i, by rw [g _ _ (by omega)]; exact h1, by rw [g _ _ (by omega)]; exact h2⟩
/-! reading on -/
noncomputable def rdB (D : zBk) (n : Int) : zBk := fun o i => if o = 17 then zb (Rd D n i) else D o i
theorem rdB_k (D : zBk) (n : Int) {o : Nat} (h : o ≠ 17) (i : Nat) : rdB D n o i = D o i := if_neg h
theorem rdB_s (D : zBk) (n : Int) (i : Nat) : rdB D n 17 i = zb (Rd D n i) := if_pos rfl
theorem U_s (D : zBk) (p : Nat) : U D (p + 1) = U D p + zb (D 17 (D 19 p).toNat = 0) := rfl
theorem U_b (D : zBk) (p : Nat) : 0 ≤ U D p ∧ U D p ≤ p := zsb_le _ p
theorem U_mono (D : zBk) {p q : Nat} (h : p ≤ q) : U D p ≤ U D q := zsb_mono _ h
theorem U_ivt (D : zBk) (n : Int) (hn : 0 ≤ n) : ∀ p, n < U D p → ∃ q, q < p ∧ D 17 (D 19 q).toNat = 0 ∧ U D q = n
  | 0, h => by exact absurd h (by show ¬ n < 0; omega)
  | p + 1, h => by
    rw [U_s] at h
    by_cases e : n < U D p
    · obtain ⟨q, h1, h2⟩ := U_ivt D n hn p e
      exact ⟨q, by omega, h2⟩
    · have z := zb_01 (D 17 (D 19 p).toNat = 0)
      have z2 := @zb_n (D 17 (D 19 p).toNat = 0)
      exact ⟨p, Nat.lt_succ_self p, z2.mp (by omega), by omega⟩
theorem WF_rdB {D : zBk} (w : WF D) (n : Int) : WF (rdB D n) := by
  obtain ⟨wn, wp, wm, we, wc, wo⟩ := w
  have g : ∀ o' i', o' ≠ 17 → rdB D n o' i' = D o' i' := fun o' i' h1 => rdB_k D n h1 i'
  refine ⟨?_, fun p hp => ?_, fun q hq => ?_, fun q hq => ?_, fun k hk => ?_, fun i hi => ?_, fun i j hij hj => ?_, fun k hk => ?_⟩
  · unfold WFn at *; rw [g _ _ (by omega), g _ _ (by omega), g _ _ (by omega), g _ _ (by omega)]; exact wn
  · rw [g _ _ (by omega)] at hp
    rw [g _ _ (by omega), g _ _ (by omega), g _ _ (by omega)]; exact wp p hp
  · rw [g _ _ (by omega)] at hq
    rw [g _ _ (by omega), g _ _ (by omega)]; exact wm q hq
  · rw [g _ _ (by omega)] at hq
    rw [g _ _ (by omega), g _ _ (by omega), g _ _ (by omega)]; exact we q hq
  · rw [g _ _ (by omega)] at hk
    obtain ⟨h1, h2, h3, h4, h5⟩ := wc k hk
    rw [g 13 k (by omega), g 14 k (by omega), g 15 k (by omega), g 16 k (by omega), g 18 k (by omega)]
    refine ⟨h1, ?_, h3, ?_, h5⟩
    · unfold WFk at *; rw [g _ _ (by omega)]; exact h2
    · rw [rdB_s]; exact zb_01 _
  · rw [g _ _ (by omega)] at hi
    rw [g _ _ (by omega), g _ _ (by omega)]; exact wo.1 i hi
  · rw [g _ _ (by omega)] at hj
    have := wo.2.1 i j hij hj
    unfold bef at *
    rw [g 19 i (by omega), g 19 j (by omega), g 13 _ (by omega), g 13 _ (by omega)]; exact this
  · rw [g _ _ (by omega)] at hk
    obtain ⟨i, h1, h2⟩ := wo.2.2 k hk
    exact ⟨i, by rw [g _ _ (by omega)]; exact h1, by rw [g _ _ (by omega)]; exact h2⟩
theorem rdB_0 {D : zBk} (w : WF D) : lEq D (rdB D 0) := by
  refine ⟨⟨rfl, rfl, rfl, rfl⟩, fun p _ o _ _ => rdB_k _ _ (by omega) p, fun q _ => ⟨rfl, rfl⟩, fun q _ => ⟨rfl, rfl⟩, fun c hc o h1 h2 => ?_⟩
  by_cases e : o = 17
  · subst e
    rw [rdB_s]
    have hk := (w.2.2.2.2.1 c hc).2.2.2.1
    obtain ⟨i, hi, e2⟩ := WFo_sj w.2.2.2.2.2 hc
    have hu := U_b D i
    subst e2
    rcases hk with q | q
    · rw [q]; exact zb_f (fun z => by have := (Rd_at w.2.2.2.2.2 hi).mp z; omega)
    · rw [q]; exact zb_t ((Rd_at w.2.2.2.2.2 hi).mpr (Or.inl (by omega)))
  · exact rdB_k _ _ e c
theorem nxU_cases {D : zBk} (w : WF D) : (nxU D = -1 ∧ ∀ c : Nat, (c : Int) < D 12 0 → ¬ D 17 c = 0) ∨ ∃ p : Nat, (p : Int) < D 12 0 ∧ nxU D = D 19 p ∧ (0 ≤ D 19 p ∧ D 19 p < D 12 0) ∧ D 17 (D 19 p).toNat = 0 ∧ ∀ q, q < p → ¬ D 17 (D 19 q).toNat = 0 := by
  unfold nxU
  rcases zfst_cases (fun i => D 17 (D 19 i).toNat = 0) (D 12 0).toNat with ⟨h1, h2⟩ | ⟨i, h1, h2, h3, h4⟩
  · refine Or.inl ⟨by rw [h1, if_pos rfl], fun c hc => ?_⟩
    obtain ⟨i, hi, e⟩ := WFo_sj w.2.2.2.2.2 hc
    subst e
    exact h2 i (by omega)
  · exact Or.inr ⟨i, by omega, by rw [h2, if_neg (by omega)]; rfl, w.2.2.2.2.2.1 i (by omega), h3, h4⟩
theorem nxU_of {D : zBk} (w : WF D) {f : Nat} (hf : (f : Int) < D 12 0) (hu : D 17 f = 0) (hb : ∀ j : Nat, (j : Int) < D 12 0 → D 17 j = 0 → j = f ∨ bef D f j) : nxU D = f := by
  rcases nxU_cases w with ⟨h1, h2⟩ | ⟨p, hp, h1, h2, h3, h4⟩
  · exact absurd hu (h2 f hf)
  · rw [h1]
    rcases hb (D 19 p).toNat (by omega) h3 with e | e
    · omega
    · obtain ⟨i, hi, e2⟩ := WFo_sj w.2.2.2.2.2 hf
      rw [← e2] at hu e
      have hip : ¬ i < p := fun q => h4 i q hu
      rcases Nat.lt_or_ge p i with q | q
      · have := w.2.2.2.2.2.2.1 p i q hi
        unfold bef at *; omega
      · have : i = p := by omega
        subst this; omega
theorem nxU_no {D : zBk} (h : ∀ c : Nat, (c : Int) < D 12 0 → ¬ D 17 c = 0) (w : WF D) : nxU D = -1 := by
  rcases nxU_cases w with ⟨h1, h2⟩ | ⟨p, hp, h1, h2, h3, h4⟩
  · exact h1
  · exact absurd h3 (h _ (by omega))
theorem rd_end {D : zBk} (w : WF D) {n : Int} (hn : 0 ≤ n) (h : nxU (rdB D n) = -1) : (∀ c : Nat, (c : Int) < D 12 0 → Rd D n c) ∧ U D (D 12 0).toNat ≤ n := by
  have hall : ∀ c : Nat, (c : Int) < D 12 0 → Rd D n c := fun c hc => by
    rcases nxU_cases (WF_rdB w n) with ⟨h1, h2⟩ | ⟨p, hp, h1, h2, h3, h4⟩
    · have := h2 c hc
      rw [rdB_s] at this
      exact zb_n.mp this
    · omega
  refine ⟨hall, ?_⟩
  by_cases e : U D (D 12 0).toNat ≤ n
  · exact e
  · obtain ⟨q, h1, h2, h3⟩ := U_ivt D n hn (D 12 0).toNat (by omega)
    have hq : (q : Int) < D 12 0 := by omega
    have ho := w.2.2.2.2.2.1 q hq
    have := (Rd_at w.2.2.2.2.2 hq).mp (hall (D 19 q).toNat (by omega))
    omega
theorem rd_step {D : zBk} (w : WF D) {n : Int} (hn : 0 ≤ n) (h : ¬ nxU (rdB D n) = -1) : (0 ≤ nxU (rdB D n) ∧ nxU (rdB D n) < D 12 0) ∧ n + 1 ≤ U D (D 12 0).toNat ∧ ∀ d : Nat, (d : Int) < D 12 0 → (Rd D (n + 1) d ↔ (Rd D n d ∨ d = (nxU (rdB D n)).toNat)) := by
  rcases nxU_cases (WF_rdB w n) with ⟨h1, h2⟩ | ⟨p, hp, h1, h2, h3, h4⟩
  · exact absurd h1 h
  · rw [h1]
    have hp2 : (p : Int) < D 12 0 := hp
    have hO : 0 ≤ D 19 p ∧ D 19 p < D 12 0 := h2
    have h3' : ¬ Rd D n (D 19 p).toNat := by
      have e : zb (Rd D n (D 19 p).toNat) = 0 := h3
      exact zb_0.mp e
    have h4' : ∀ q, q < p → Rd D n (D 19 q).toNat := fun q hq => by
      have e : ¬ zb (Rd D n (D 19 q).toNat) = 0 := h4 q hq
      exact zb_n.mp e
    rw [Rd_at w.2.2.2.2.2 hp2] at h3'
    have hk0 : D 17 (D 19 p).toNat = 0 := by omega
    have hUp : U D p = n := by
      by_cases e : n < U D p
      · obtain ⟨q, q1, q2, q3⟩ := U_ivt D n hn p e
        have := h4' q q1
        rw [Rd_at w.2.2.2.2.2 (by omega)] at this
        omega
      · omega
    have hU1 : U D (p + 1) = n + 1 := by rw [U_s, zb_t hk0, hUp]
    refine ⟨hO, ?_, fun d hd => ?_⟩
    · have := U_mono D (show p + 1 ≤ (D 12 0).toNat by omega)
      omega
    · obtain ⟨q, hq, e⟩ := WFo_sj w.2.2.2.2.2 hd
      subst e
      rw [Rd_at w.2.2.2.2.2 hq, Rd_at w.2.2.2.2.2 hq]
      show _ ↔ _ ∨ (D 19 q).toNat = (D 19 p).toNat
      constructor
      · rintro (z | z)
        · exact Or.inl (Or.inl z)
        · by_cases z2 : U D q < n
          · exact Or.inl (Or.inr z2)
          · by_cases z3 : D 17 (D 19 q).toNat = 0
            · refine Or.inr ?_
              rcases Nat.lt_trichotomy q p with t | t | t
              · have t2 := U_mono D (show q + 1 ≤ p from t)
                rw [U_s, zb_t z3] at t2; omega
              · rw [t]
              · have t2 := U_mono D (show p + 1 ≤ q from t)
                omega
            · exact Or.inl (Or.inl z3)
      · rintro ((z | z) | z)
        · exact Or.inl z
        · exact Or.inr (by omega)
        · have := WFo_inj w.2.2.2.2.2 hq hp2 z
          subst this
          exact Or.inr (by omega)
theorem Rd_all {D : zBk} {n m : Int} (h : ∀ c : Nat, (c : Int) < D 12 0 → Rd D n c) (hm : n ≤ m) : ∀ c : Nat, (c : Int) < D 12 0 → Rd D m c := fun c hc => by
  obtain ⟨p, h1, h2, h3⟩ := h c hc
  exact ⟨p, h1, h2, by omega⟩
/-- sums over the places are sums over the clues -/
theorem zs_perm {o : Nat → Nat} {n : Nat} (P : Nat → Prop) (h1 : ∀ i, i < n → o i < n) (h2 : ∀ i j, i < n → j < n → o i = o j → i = j) (h3 : ∀ k, k < n → ∃ i, i < n ∧ o i = k) : zs (fun i => zb (P (o i))) n = zs (fun k => zb (P k)) n := by
  have e1 : ∀ i, i < n → zb (P (o i)) = zs (fun k => if o i = k then zb (P k) else 0) n := fun i hi => by
    rw [zs_congr (g := fun k => if o i = k then zb (P (o i)) else 0) (fun k _ => by by_cases q : o i = k; rw [if_pos q, if_pos q, q]; rw [if_neg q, if_neg q]), zs_one, if_pos (h1 i hi)]
  rw [zs_congr e1, zs_swap]
  refine zs_congr (fun k hk => ?_)
  obtain ⟨i0, hi0, e0⟩ := h3 k hk
  rw [zs_congr (g := fun i => if i0 = i then zb (P k) else 0) (fun i hi => by by_cases q : i0 = i; rw [if_pos q, if_pos (q ▸ e0)]; rw [if_neg q, if_neg (fun z => q (h2 i0 i hi0 hi (e0.trans z.symm)))]), zs_one, if_pos hi0]
theorem U_all {D : zBk} (w : WF D) : U D (D 12 0).toNat = zs (fun c => zb (D 17 c = 0)) (D 12 0).toNat := by
  have wo := w.2.2.2.2.2
  refine zs_perm (o := fun i => (D 19 i).toNat) (fun c => D 17 c = 0) (fun i hi => ?_) (fun i j hi hj e => ?_) (fun k hk => ?_)
  · have := wo.1 i (by omega); show (D 19 i).toNat < _; omega
  · exact WFo_inj wo (by omega) (by omega) e
  · obtain ⟨i, h1, h2⟩ := WFo_sj wo (c := k) (by omega)
    exact ⟨i, by omega, h2⟩
