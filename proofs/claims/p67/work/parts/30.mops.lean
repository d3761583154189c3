
/-! the other program's operations -/
def mA (k : Nat) : Prop := k = 262 ∨ k = 264 ∨ k = 266 ∨ k = 267 ∨ k = 268
def mF (i : Nat) : Prop := i = 5 ∨ i = 6 ∨ (9 ≤ i ∧ i ≤ 11) ∨ i = 13 ∨ i = 14
def MPu (σ τ : zS) (r : Nat → Int) : Prop := (0 ≤ τ.1 261 5 ∧ τ.1 261 5 ≤ 8) ∧ τ.1 261 5 = min (σ.1 261 5 + 1) 8 ∧ (∀ j, j < 380 → τ.1 266 (380 * (τ.1 261 5 - 1).toNat + j) = r j) ∧ ∀ i : Nat, ((i + 1 : Nat) : Int) < τ.1 261 5 → ∀ j, j < 380 → τ.1 266 (380 * (τ.1 261 5 - 2 - i).toNat + j) = σ.1 266 (380 * (σ.1 261 5 - 1 - i).toNat + j)
theorem mkeep {σ τ1 τ2 : zS} {q : Nat} (h5 : 0 ≤ σ.1 261 5 ∧ σ.1 261 5 ≤ 8) (m1 : mfr σ τ1 (fun k => k = 266) (fun i => i = 5)) (c : (σ.1 261 5 < 8 ∧ τ1.1 261 5 = σ.1 261 5 ∧ ∀ j, τ1.1 266 j = σ.1 266 j) ∨ (σ.1 261 5 = 8 ∧ τ1.1 261 5 = 7 ∧ ∀ j, j < 2660 → τ1.1 266 j = σ.1 266 (j + 380))) (hq : q ≠ 266) (hq2 : q ≠ 261) (cp : cpo τ1 τ2 q 0 266 (380 * (τ1.1 261 5).toNat) 380) :
    mfr σ (zput τ2 261 5 (τ2.1 261 5 + 1)) (fun k => k = 266) (fun i => i = 5) ∧ MPu σ (zput τ2 261 5 (τ2.1 261 5 + 1)) (σ.1 q) := by
  rw [cp.1 261 (by decide) 5]
  have e266 : ∀ j, (zput τ2 261 5 (τ1.1 261 5 + 1)).1 266 j = τ2.1 266 j := fun j => zput_k _ _ _ _ _ (by omega)
  have e5 : (zput τ2 261 5 (τ1.1 261 5 + 1)).1 261 5 = τ1.1 261 5 + 1 := zput_s _ _ _ _
  obtain ⟨c1, c2, c3, c4⟩ := cp
  have hb : 0 ≤ τ1.1 261 5 ∧ τ1.1 261 5 ≤ 7 := by rcases c with ⟨a, b, -⟩ | ⟨a, b, -⟩ <;> omega
  refine ⟨⟨fun k hk hk2 i => ?_, fun i hi => ?_, ?_⟩, ⟨by rw [e5]; omega, ?_, fun j hj => ?_, fun i hi j hj => ?_⟩⟩
  · rw [zput_k _ _ _ _ _ hk2, c1 k hk i]; exact m1.1 k hk hk2 i
  · rw [zput_i _ _ _ _ _ hi, c1 261 (by omega) i]; exact m1.2.1 i hi
  · exact c2.trans m1.2.2
  · rw [e5]; rcases c with ⟨a, b, -⟩ | ⟨a, b, -⟩ <;> omega
  · rw [e266, e5, show (τ1.1 261 5 + 1 - 1).toNat = (τ1.1 261 5).toNat by omega, c3 j hj, Nat.zero_add]
    exact m1.1 q (fun e => hq e) hq2 j
  · rw [e5] at hi
    rw [e266, e5, c4 _ (Or.inl (by omega))]
    rcases c with ⟨a, b, d⟩ | ⟨a, b, d⟩
    · have e : (τ1.1 261 5 + 1 - 2 - (i : Int)).toNat = (σ.1 261 5 - 1 - (i : Int)).toNat := by omega
      rw [d, e]
    · have e : 380 * (τ1.1 261 5 + 1 - 2 - (i : Int)).toNat + j + 380 = 380 * (σ.1 261 5 - 1 - (i : Int)).toNat + j := by omega
      rw [d _ (by omega), e]
theorem MPu_to {σ υ τ : zS} {r r' : Nat → Int} (h : MPu υ τ r') (e5 : υ.1 261 5 = σ.1 261 5) (e6 : ∀ j, υ.1 266 j = σ.1 266 j) (hr : ∀ j, j < 380 → r' j = r j) : MPu σ τ r := by
  obtain ⟨a, b, c, d⟩ := h
  refine ⟨a, by rw [b, e5], fun j hj => (c j hj).trans (hr j hj), fun i hi j hj => ?_⟩
  rw [d i hi j hj, e5, e6]
theorem Rel_ad {D : zBk} {r r' : Nat → Int} {pg kd vl wt : Int} (w : WF D) (h : Rel D r) (hK : D 12 0 < 40) (e : ∀ i, r' i = if i = 3 then D 12 0 + 1 else if i = 140 + 6 * (D 12 0).toNat then pg else if i = 140 + 6 * (D 12 0).toNat + 1 then kd else if i = 140 + 6 * (D 12 0).toNat + 2 then vl else if i = 140 + 6 * (D 12 0).toNat + 3 then wt else if i = 140 + 6 * (D 12 0).toNat + 4 then 0 else if i = 140 + 6 * (D 12 0).toNat + 5 then 0 else r i) : Rel (adB D pg kd vl wt) r' := by
  have hn := w.1
  unfold WFn at hn
  obtain ⟨⟨a1, a2, a3, a4⟩, b, m, d, f⟩ := h
  have g : ∀ o i, o < 12 → adB D pg kd vl wt o i = D o i := fun o i h1 => adB_a _ _ _ _ _ h1 _
  have lo : ∀ i, i ≠ 3 → i < 140 → r' i = r i := fun i h1 h2 => by
    rw [e i, if_neg h1, if_neg (by omega), if_neg (by omega), if_neg (by omega), if_neg (by omega), if_neg (by omega), if_neg (by omega)]
  refine ⟨⟨?_, ?_, ?_, ?_⟩, fun p hp => ?_, fun q hq => ?_, fun q hq => ?_, fun c hc o ho => ?_⟩
  · rw [lo 0 (by omega) (by omega), g _ _ (by omega)]; exact a1
  · rw [lo 1 (by omega) (by omega), g _ _ (by omega)]; exact a2
  · rw [lo 2 (by omega) (by omega), g _ _ (by omega)]; exact a3
  · rw [e 3, if_pos rfl, adB_k]
  · rw [g _ _ (by omega)] at hp
    obtain ⟨⟨n1, n2, n3⟩, n4⟩ := b p hp
    refine ⟨⟨?_, fun k hk => ?_, ?_⟩, fun o h1 h2 => ?_⟩
    · rw [lo _ (by omega) (by omega)]; exact n1
    · rw [lo _ (by omega) (by omega)] at hk
      rw [lo _ (by omega) (by omega)]; exact n2 k hk
    · rw [lo _ (by omega) (by omega), g _ _ (by omega), n3]
      have hz : ∀ (n : Nat), n ≤ 6 → pkF (fun k => r (4 + 12 * p + 1 + k)) n = pkF (fun k => r' (4 + 12 * p + 1 + k)) n := by
        intro n
        induction n with
        | zero => intro _; rfl
        | succ n ih => intro hn; rw [pkF, pkF, ih (by omega), lo _ (by omega) (by omega)]
      exact hz _ (by omega)
    · rw [lo _ (by omega) (by omega), g _ _ (by omega)]; exact n4 o h1 h2
  · rw [g _ _ (by omega)] at hq
    rw [lo _ (by omega) (by omega), lo _ (by omega) (by omega), g _ _ (by omega), g _ _ (by omega)]
    exact m q hq
  · rw [g _ _ (by omega)] at hq
    rw [lo _ (by omega) (by omega), lo _ (by omega) (by omega), g _ _ (by omega), g _ _ (by omega)]
    exact d q hq
  · rw [adB_k] at hc
    by_cases q : (c : Int) = D 12 0
    · have q2 : c = (D 12 0).toNat := by omega
      rw [adB_n _ _ _ _ _ ⟨by omega, by omega⟩ q, e, q2]
      rcases (by omega : o = 0 ∨ o = 1 ∨ o = 2 ∨ o = 3 ∨ o = 4 ∨ o = 5) with rfl | rfl | rfl | rfl | rfl | rfl
      · rw [if_neg (by omega), if_pos (by omega)]; rfl
      · rw [if_neg (by omega), if_neg (by omega), if_pos (by omega)]; rfl
      · rw [if_neg (by omega), if_neg (by omega), if_neg (by omega), if_pos (by omega)]; rfl
      · rw [if_neg (by omega), if_neg (by omega), if_neg (by omega), if_neg (by omega), if_pos (by omega)]; rfl
      · rw [if_neg (by omega), if_neg (by omega), if_neg (by omega), if_neg (by omega), if_neg (by omega), if_pos (by omega)]; rfl
      · rw [if_neg (by omega), if_neg (by omega), if_neg (by omega), if_neg (by omega), if_neg (by omega), if_neg (by omega), if_pos (by omega)]; rfl
    · rw [adB_o _ _ _ _ _ (by omega) q, e, if_neg (by omega), if_neg (by omega), if_neg (by omega), if_neg (by omega), if_neg (by omega), if_neg (by omega), if_neg (by omega)]
      exact f c (by omega) o ho
theorem Rel_putP {D : zBk} {σ : zS} {p o : Nat} {v : Int} (w : WF D) (h : Rel D (σ.1 262)) (hp : (p : Int) < D 1 0) (ho : 10 ≤ o ∧ o ≤ 11) : Rel (ov D (o - 4) p v) ((zput σ 262 (4 + 12 * p + o) v).1 262) := by
  have hn := w.1
  unfold WFn at hn
  obtain ⟨⟨a1, a2, a3, a4⟩, b, m, d, f⟩ := h
  have k1 : ∀ i, i ≠ 4 + 12 * p + o → (zput σ 262 (4 + 12 * p + o) v).1 262 i = σ.1 262 i := fun i hi => zput_i _ _ _ _ _ hi
  have g : ∀ o' i', o' ≠ o - 4 → ov D (o - 4) p v o' i' = D o' i' := fun o' i' h1 => ov_k _ _ _ _ h1
  refine ⟨⟨?_, ?_, ?_, ?_⟩, fun p2 hp2 => ?_, fun q hq => ?_, fun q hq => ?_, fun c hc o2 ho2 => ?_⟩
  · rw [k1 0 (by omega), g _ _ (by omega)]; exact a1
  · rw [k1 1 (by omega), g _ _ (by omega)]; exact a2
  · rw [k1 2 (by omega), g _ _ (by omega)]; exact a3
  · rw [k1 3 (by omega), g _ _ (by omega)]; exact a4
  · rw [g _ _ (by omega)] at hp2
    obtain ⟨⟨n1, n2, n3⟩, n4⟩ := b p2 hp2
    refine ⟨⟨?_, fun k hk => ?_, ?_⟩, fun o2 h1 h2 => ?_⟩
    · rw [k1 _ (by omega)]; exact n1
    · rw [k1 _ (by omega)] at hk
      rw [k1 _ (by omega)]; exact n2 k hk
    · rw [k1 _ (by omega), g _ _ (by omega), n3]
      have hz : ∀ (n : Nat), n ≤ 6 → pkF (fun k => σ.1 262 (4 + 12 * p2 + 1 + k)) n = pkF (fun k => (zput σ 262 (4 + 12 * p + o) v).1 262 (4 + 12 * p2 + 1 + k)) n := by
        intro n
        induction n with
        | zero => intro _; rfl
        | succ n ih => intro hn; rw [pkF, pkF, ih (by omega), k1 _ (by omega)]
      exact hz _ (by omega)
    · by_cases e : p2 = p ∧ o2 = o
      · rw [e.1, e.2, zput_s, ov_s]
      · rw [k1 _ (by omega), show ov D (o - 4) p v (o2 - 4) p2 = D (o2 - 4) p2 from if_neg (by omega)]; exact n4 o2 h1 h2
  · rw [g _ _ (by omega)] at hq
    rw [k1 _ (by omega), k1 _ (by omega), g _ _ (by omega), g _ _ (by omega)]
    exact m q hq
  · rw [g _ _ (by omega)] at hq
    rw [k1 _ (by omega), k1 _ (by omega), g _ _ (by omega), g _ _ (by omega)]
    exact d q hq
  · rw [g _ _ (by omega)] at hc
    rw [k1 _ (by omega), g _ _ (by omega)]
    exact f c hc o2 ho2
theorem WF_ov7 {D : zBk} (w : WF D) {o p : Nat} {v : Int} (ho : o = 6 ∨ o = 7) : WF (ov D o p v) := by
  rcases ho with rfl | rfl
  · exact WF_agree w (fun o' i h _ _ _ => ov_k _ _ _ _ h) (fun c hc => by
      rw [ov_k _ _ _ _ (by decide), ov_k _ _ _ _ (by decide), ov_k _ _ _ _ (by decide)]; exact (w.2.2.2.2.1 c hc).2.2)
  · obtain ⟨wn, wp, wm, we, wc, wo⟩ := w
    have g : ∀ o' i', o' ≠ 7 → ov D 7 p v o' i' = D o' i' := fun o' i' h1 => ov_k _ _ _ _ h1
    refine ⟨?_, fun p hp => ?_, fun q hq => ?_, fun q hq => ?_, fun k hk => ?_, fun i hi => ?_, fun i j hij hj => ?_, fun k hk => ?_⟩
    · unfold WFn at *; rw [g _ _ (by omega), g _ _ (by omega), g _ _ (by omega), g _ _ (by omega)]; exact wn
    · rw [g _ _ (by omega)] at hp
      rw [g _ _ (by omega), g _ _ (by omega), g _ _ (by omega)]; exact wp p hp
    · rw [g _ _ (by omega)] at hq
      rw [g _ _ (by omega), g _ _ (by omega)]; exact wm q hq
    · rw [g _ _ (by omega)] at hq
      rw [g _ _ (by omega), g _ _ (by omega), g _ _ (by omega)]; exact we q hq
    · rw [g _ _ (by omega)] at hk
      have := wc k hk
      rw [g 13 k (by omega), g 14 k (by omega), g 15 k (by omega), g 16 k (by omega), g 17 k (by omega), g 18 k (by omega)]
      unfold WFk at *; rw [g _ _ (by omega)]; exact this
    · rw [g _ _ (by omega)] at hi
      rw [g _ _ (by omega), g _ _ (by omega)]; exact wo.1 i hi
    · rw [g _ _ (by omega)] at hj
      have := wo.2.1 i j hij hj
      unfold bef at *
      rw [g 19 i (by omega), g 19 j (by omega), g 13 _ (by omega), g 13 _ (by omega)]; exact this
    · rw [g _ _ (by omega)] at hk
      obtain ⟨i, h1, h2⟩ := wo.2.2 k hk
      exact ⟨i, by rw [g _ _ (by omega)]; exact h1, by rw [g _ _ (by omega)]; exact h2⟩
theorem ln_lEq {D : zBk} {a b : Nat} {u : Int} (h : ¬ a = b) : lEq (ov (ov D 6 a (zand (D 6 a) (zxor (zshl 1 u) (-1)))) 6 b (zor ((ov D 6 a (zand (D 6 a) (zxor (zshl 1 u) (-1)))) 6 b) (zshl 1 u))) (lnB D a b u) := by
  refine pEq_l (fun o _ i => ?_)
  unfold lnB lnV
  by_cases e : o = 6
  · subst e
    rw [if_pos rfl]
    by_cases e2 : i = b
    · subst e2
      rw [if_pos rfl, ov_s, ov_i _ _ _ _ (fun q => h q.symm)]
    · rw [if_neg e2, ov_i _ _ _ _ e2]
      by_cases e3 : i = a
      · subst e3; rw [if_pos rfl, ov_s]
      · rw [if_neg e3, ov_i _ _ _ _ e3]
  · rw [if_neg e, ov_k _ _ _ _ e, ov_k _ _ _ _ e]
noncomputable def clP (D : zBk) (n : Nat) : zBk := fun o i => if o = 18 ∧ i < n ∧ zb (opn D i) = 1 then 1 else D o i
theorem clP_k (D : zBk) (n : Nat) {o : Nat} (h : o ≠ 18) (i : Nat) : clP D n o i = D o i := if_neg (fun q => h q.1)
theorem clP_c (D : zBk) {n i : Nat} (h : n ≤ i) (o : Nat) : clP D n o i = D o i := if_neg (by omega)
theorem WF_clP {D : zBk} (w : WF D) (n : Nat) : WF (clP D n) := WF_agree w (fun o i _ _ _ h => clP_k D n h i) (fun c hc => by
  have := w.2.2.2.2.1 c hc
  rw [clP_k _ _ (by decide), clP_k _ _ (by decide)]
  refine ⟨this.2.2.1, this.2.2.2.1, ?_⟩
  unfold clP; split
  · exact Or.inr rfl
  · exact this.2.2.2.2)
theorem clP_0 (D : zBk) : lEq D (clP D 0) := pEq_l (fun o _ i => if_neg (by omega))
theorem clP_t {D : zBk} {n : Nat} (h : opn D n) : lEq (ov (clP D n) 18 n 1) (clP D (n + 1)) := pEq_l (fun o _ i => by
  by_cases e : o = 18 ∧ i = n
  · obtain ⟨rfl, rfl⟩ := e
    rw [ov_s]; exact if_pos ⟨rfl, Nat.lt_succ_self _, zb_t h⟩
  · rw [show ov (clP D n) 18 n 1 o i = clP D n o i from if_neg e]
    unfold clP
    by_cases e2 : o = 18 ∧ i < n ∧ zb (opn D i) = 1
    · rw [if_pos e2, if_pos ⟨e2.1, by omega, e2.2.2⟩]
    · rw [if_neg e2, if_neg (by omega)])
theorem clP_f {D : zBk} {n : Nat} (h : ¬ opn D n) : lEq (clP D n) (clP D (n + 1)) := pEq_l (fun o _ i => by
  unfold clP
  by_cases e2 : o = 18 ∧ i < n ∧ zb (opn D i) = 1
  · rw [if_pos e2, if_pos ⟨e2.1, by omega, e2.2.2⟩]
  · rw [if_neg e2, if_neg (fun q => by
      by_cases e3 : i = n
      · subst e3; have := q.2.2; rw [zb_f h] at this; omega
      · exact e2 ⟨q.1, by omega, q.2.2⟩)])
theorem clP_e {D : zBk} (w : WF D) : lEq (clP D (D 12 0).toNat) (clB D) := by
  refine ⟨⟨rfl, rfl, rfl, rfl⟩, fun p _ o h1 h2 => ?_, fun q _ => ⟨rfl, rfl⟩, fun q _ => ⟨rfl, rfl⟩, fun c hc o h1 h2 => ?_⟩
  · show (if o = 18 then _ else D o p) = _
    rw [if_neg (by omega), clP_k _ _ (by omega)]
  · have hc2 : (c : Int) < D 12 0 := hc
    unfold clB clP
    by_cases e : o = 18
    · subst e
      rw [if_pos rfl]
      by_cases e2 : zb (opn D c) = 1
      · rw [if_pos e2, if_pos ⟨rfl, by omega, e2⟩]
      · rw [if_neg e2, if_neg (fun q => e2 q.2.2)]
    · rw [if_neg e, if_neg (fun q => e q.1)]
theorem opn_clP {D : zBk} (w : WF D) (h1 : 1 ≤ D 1 0) (c : Nat) : (Ht (clP D c) c ∧ ¬ (works (clP D c) (wP D (Ht D)) (wY D (Ht D)) ∧ cFit (clP D c) (wP D (Ht D)) (wY D (Ht D)) c)) ↔ opn D c := by
  rw [← opn_e w h1 c]
  have e1 : Ht (clP D c) c ↔ Ht D c := by unfold Ht; rw [clP_c D (Nat.le_refl c), clP_c D (Nat.le_refl c)]
  have e2 : works (clP D c) (wP D (Ht D)) (wY D (Ht D)) ↔ works D (wP D (Ht D)) (wY D (Ht D)) := by unfold works; rw [clP_k _ _ (by decide), clP_k _ _ (by decide)]
  rw [e1, e2, cFit_ag (fun o ho i => clP_k D c (by omega) i)]



