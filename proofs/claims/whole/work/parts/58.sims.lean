
/-! what the class and the other program have in common between two calls -/
def IBk (σ : zS) (k : Nat) (r : Nat → Int) : Prop := WF (bk σ k) ∧ 1 ≤ bk σ k 1 0 ∧ Rel (bk σ k) r
def IB (σ : zS) : Prop := IBk σ 30 (σ.1 262)
def IS (σ : zS) : Prop := (σ.1 0 5 = 0 ∨ σ.1 0 5 = 1) ∧ σ.1 261 7 = σ.1 0 5 ∧ (σ.1 0 5 = 1 → IBk σ 50 (σ.1 263))
def pst (σ : zS) (i : Nat) : Nat → Int := fun j => σ.1 266 (380 * (σ.1 261 5 - 1 - i).toNat + j)
def IH (σ : zS) : Prop := HN σ ∧ HBA σ ∧ σ.1 261 5 = σ.1 70 2 ∧ ∀ i : Nat, (i : Int) < σ.1 70 2 → IBk σ (hRow σ i) (pst σ i)
def II (σ : zS) : Prop := (∃ L : List Int, InC σ L ∧ InM σ L ∧ L.length ≤ 1400 ∧ ∀ x ∈ L, 0 ≤ x ∧ x ≤ 255) ∧ 0 ≤ σ.1 261 19 ∧ σ.1 261 19 ≤ 1401
def IE (σ : zS) : Prop := σ.1 1 5 = σ.1 261 22 ∧ σ.1 1 6 = σ.1 261 23
def IO (σ : zS) : Prop := ∃ L : List Int, Out σ L ∧ OutM σ L ∧ L.length ≤ 131
def Inv (σ : zS) : Prop := IB σ ∧ IS σ ∧ IH σ ∧ II σ ∧ IE σ ∧ IO σ
theorem IBk_z {σ τ : zS} {k k' : Nat} {r r' : Nat → Int} (e : zEq (bk σ k) (bk τ k')) (er : ∀ j, j < 380 → r' j = r j) (h : IBk σ k r) : IBk τ k' r' :=
  ⟨WF_eq e h.1, by rw [e.1.1]; exact h.2.1, Rel_same (WF_eq e h.1) (Rel_l (lEq_z h.1 e) h.2.2) er⟩
theorem IBk_l {τ : zS} {k : Nat} {D : zBk} {r : Nat → Int} (e : lEq D (bk τ k)) (hW : WF (bk τ k)) (h1 : 1 ≤ D 1 0) (hR : Rel D r) : IBk τ k r := ⟨hW, by rw [e.1.1]; exact h1, Rel_l e hR⟩
theorem hRow_b (σ : zS) (i : Nat) : 72 ≤ hRow σ i ∧ hRow σ i ≤ 232 := by unfold hRow; omega
theorem hRow_e {σ τ : zS} (e : τ.1 70 1 = σ.1 70 1) (i : Nat) : hRow τ i = hRow σ i := by unfold hRow; rw [e]
theorem IB_s {σ τ : zS} (c : ∀ q, 30 ≤ q → q ≤ 49 → ∀ i, τ.1 q i = σ.1 q i) (hR : Rel (bk σ 30) (τ.1 262)) (h : IB σ) : IB τ :=
  IBk_z (r := τ.1 262) (zEq_pt (fun o ho i => c _ (by omega) (by omega) i)) (fun _ _ => rfl) ⟨h.1, h.2.1, hR⟩
theorem IS_s {σ τ : zS} (c0 : τ.1 0 5 = σ.1 0 5) (c : ∀ q, 50 ≤ q → q ≤ 69 → ∀ i, τ.1 q i = σ.1 q i) (c7 : τ.1 261 7 = σ.1 261 7) (cr : ∀ j, τ.1 263 j = σ.1 263 j) (h : IS σ) : IS τ := by
  refine ⟨by rw [c0]; exact h.1, by rw [c0, c7]; exact h.2.1, fun q => ?_⟩
  rw [c0] at q
  exact IBk_z (zEq_pt (fun o ho i => c _ (by omega) (by omega) i)) (fun j _ => cr j) (h.2.2 q)
theorem IH_s {σ τ : zS} (c1 : τ.1 70 1 = σ.1 70 1) (c2 : τ.1 70 2 = σ.1 70 2) (c : ∀ i : Nat, (i : Int) < σ.1 70 2 → zEq (bk σ (hRow σ i)) (bk τ (hRow σ i))) (hA : HBA τ) (c5 : τ.1 261 5 = σ.1 261 5) (cp : ∀ j, τ.1 266 j = σ.1 266 j) (h : IH σ) : IH τ := by
  refine ⟨by have := h.1; unfold HN at *; rw [c1, c2]; exact this, hA, by rw [c5, c2]; exact h.2.2.1, fun i hi => ?_⟩
  rw [c2] at hi
  rw [hRow_e c1]
  exact IBk_z (c i hi) (fun j _ => by unfold pst; rw [c5, cp]) (h.2.2.2 i hi)
theorem II_s {σ τ : zS} (c1 : τ.1 1 1 = σ.1 1 1) (c2 : ∀ i, τ.1 2 i = σ.1 2 i) (c16 : τ.1 261 16 = σ.1 261 16) (cb : ∀ i, τ.1 269 i = σ.1 269 i) (c19 : 0 ≤ τ.1 261 19 ∧ τ.1 261 19 ≤ 1401) (h : II σ) : II τ := by
  obtain ⟨⟨L, a, b, c, d⟩, -⟩ := h
  exact ⟨⟨L, ⟨by rw [c1]; exact a.1, fun i hi => by rw [c2]; exact a.2 i hi⟩, ⟨by rw [c16]; exact b.1, fun i hi => by rw [cb]; exact b.2 i hi⟩, c, d⟩, c19⟩
theorem II_0 {τ : zS} (c1 : τ.1 1 1 = 0) (c16 : τ.1 261 16 = 0) (c19 : 0 ≤ τ.1 261 19 ∧ τ.1 261 19 ≤ 1401) : II τ :=
  ⟨⟨[], ⟨c1, fun i hi => absurd hi (Nat.not_lt_zero i)⟩, ⟨c16, fun i hi => absurd hi (Nat.not_lt_zero i)⟩, by decide, fun x hx => by cases hx⟩, c19⟩
theorem IO_s {σ τ : zS} (c1 : τ.1 259 1 = σ.1 259 1) (c2 : ∀ i, τ.1 260 i = σ.1 260 i) (c27 : τ.1 261 27 = σ.1 261 27) (cb : ∀ i, τ.1 271 i = σ.1 271 i) (h : IO σ) : IO τ := by
  obtain ⟨L, a, b, c⟩ := h
  exact ⟨L, ⟨by rw [c1]; exact a.1, fun i hi => by rw [c2]; exact a.2 i hi⟩, ⟨by rw [c27]; exact b.1, fun i hi => by rw [cb]; exact b.2 i hi⟩, c⟩
theorem HBA_s {σ τ : zS} (c : ∀ q, q < 252 → ∀ i, τ.1 q i = σ.1 q i) (h : HBA σ) : HBA τ := fun k hk => by
  refine bb_pt (fun o ho i => c _ ?_ i) (h k hk)
  rcases hk with h | h | h | ⟨r, h1, h2⟩ <;> omega
/-- nothing changed that is held in common -/
theorem Inv_fr {σ υ : zS} (h : Inv σ) (c : ∀ q, (q < 252 ∨ q = 259 ∨ q = 260) → ∀ i, υ.1 q i = σ.1 q i) (m : ∀ q, (q = 263 ∨ q = 266 ∨ q = 269 ∨ q = 271) → ∀ i, υ.1 q i = σ.1 q i) (f : ∀ i, (i = 5 ∨ i = 7 ∨ i = 16 ∨ i = 22 ∨ i = 23 ∨ i = 27) → υ.1 261 i = σ.1 261 i) (f19 : 0 ≤ υ.1 261 19 ∧ υ.1 261 19 ≤ 1401) (hR : Rel (bk σ 30) (υ.1 262)) : Inv υ := by
  obtain ⟨hB, hS, hH, hI, hE, hO⟩ := h
  refine ⟨IB_s (fun q h1 h2 i => c q (by omega) i) hR hB, IS_s (c 0 (by omega) 5) (fun q h1 h2 i => c q (by omega) i) (f 7 (by omega)) (m 263 (by omega)) hS, IH_s (c 70 (by omega) 1) (c 70 (by omega) 2) (fun i _ => zEq_pt (fun o ho j => c _ (by have := hRow_b σ i; omega) j)) (HBA_s (fun q hq i => c q (by omega) i) hH.2.1) (f 5 (by omega)) (m 266 (by omega)) hH, II_s (c 1 (by omega) 1) (c 2 (by omega)) (f 16 (by omega)) (m 269 (by omega)) f19 hI, ?_, IO_s (c 259 (by omega) 1) (c 260 (by omega)) (f 27 (by omega)) (m 271 (by omega)) hO⟩
  exact ⟨by rw [c 1 (by omega), f 22 (by omega)]; exact hE.1, by rw [c 1 (by omega), f 23 (by omega)]; exact hE.2⟩
theorem Rel_sj {σ τ : zS} {S : Nat → Prop} {D : zBk} (s : zSame S σ τ) (hS : ¬ S 262) (h : Rel D (σ.1 262)) : Rel D (τ.1 262) := by
  rw [show τ.1 262 = σ.1 262 from funext (s.1 262 hS)]; exact h
/-- questions -/
theorem Inv_q {σ τ υ : zS} {v : Int} (h : Inv σ) (s : zSame (fun q => 252 ≤ q ∧ q ≤ 258) σ τ) (q : QP (bk σ 30) (τ.1, v) υ) : Inv υ := by
  have a : ∀ k, ¬ qA k → k ≠ 261 → ¬ (252 ≤ k ∧ k ≤ 258) → ∀ i, υ.1 k i = σ.1 k i := fun k h1 h2 h3 i => (q.1.1 k h1 h2 i).trans (s.1 k h3 i)
  have b : ∀ i, ¬ qF i → υ.1 261 i = σ.1 261 i := fun i h1 => (q.1.2.1 i h1).trans (s.1 261 (by first | omega | (dsimp only; omega)) i)
  refine Inv_fr h (fun k hk i => a k (by unfold qA; omega) (by omega) (by omega) i) (fun k hk i => a k (by unfold qA; omega) (by omega) (by omega) i) (fun i hi => b i (by unfold qF; omega)) ?_ q.2
  rw [b 19 (by unfold qF; omega)]
  exact h.2.2.2.1.2
/-- what is refused behind a row that was prepared -/
theorem Inv_k {σ τ υ : zS} {D : zBk} (h : Inv σ) (s : zSame (fun q => 72 ≤ q ∧ q ≤ 251) σ τ) (hk : HKp σ τ) (hA : HBA τ) (e : D = bk σ 30) (q : QP D τ υ) : Inv υ := by
  subst e
  obtain ⟨hB, hS, hH, hI, hE, hO⟩ := h
  have a : ∀ k, ¬ qA k → k ≠ 261 → ∀ i, υ.1 k i = τ.1 k i := q.1.1
  have a2 : ∀ k, ¬ qA k → k ≠ 261 → ¬ (72 ≤ k ∧ k ≤ 251) → ∀ i, υ.1 k i = σ.1 k i := fun k h1 h2 h3 i => (a k h1 h2 i).trans (s.1 k h3 i)
  have b : ∀ i, ¬ qF i → υ.1 261 i = σ.1 261 i := fun i h1 => (q.1.2.1 i h1).trans (s.1 261 (by first | omega | (dsimp only; omega)) i)
  have f : ∀ k, (k < 72 ∨ (252 ≤ k ∧ k ≤ 260) ∨ k = 263 ∨ k = 266 ∨ k = 269 ∨ k = 271) → ∀ i, υ.1 k i = σ.1 k i := fun k hk i => a2 k (by unfold qA; omega) (by omega) (by omega) i
  have g : ∀ k, k < 252 → ∀ i, υ.1 k i = τ.1 k i := fun k hk i => a k (by unfold qA; omega) (by omega) i
  refine ⟨IB_s (fun q h1 h2 i => f q (by omega) i) q.2 hB, IS_s (f 0 (by omega) 5) (fun q h1 h2 i => f q (by omega) i) (b 7 (by unfold qF; omega)) (f 263 (by omega)) hS, IH_s (f 70 (by omega) 1) (f 70 (by omega) 2) (fun i hi => zEq_tr (hk.2.2 i hi) (zEq_pt (fun o ho j => g _ (by have := hRow_b σ i; omega) j))) (HBA_s g hA) (b 5 (by unfold qF; omega)) (f 266 (by omega)) hH, II_s (f 1 (by omega) 1) (f 2 (by omega)) (b 16 (by unfold qF; omega)) (f 269 (by omega)) (by rw [b 19 (by unfold qF; omega)]; exact hI.2) hI, ?_, IO_s (f 259 (by omega) 1) (f 260 (by omega)) (b 27 (by unfold qF; omega)) (f 271 (by omega)) hO⟩
  exact ⟨by rw [f 1 (by omega), b 22 (by unfold qF; omega)]; exact hE.1, by rw [f 1 (by omega), b 23 (by unfold qF; omega)]; exact hE.2⟩
/-- a row more -/
theorem IH_p {σ τ υ : zS} (hB : IB σ) (h : IH σ) (hp : HPu σ τ) (hA : HBA τ) (c : ∀ q, q < 252 → ∀ i, υ.1 q i = τ.1 q i) (hm : MPu σ υ (σ.1 262)) : IH υ := by
  obtain ⟨p1, p2, p3, p4⟩ := hp
  obtain ⟨m1, m2, m3, m4⟩ := hm
  obtain ⟨n1, n2, n3, n4⟩ := h
  have e1 := c 70 (by omega) 1
  have e2 := c 70 (by omega) 2
  have er : ∀ i, hRow υ i = hRow τ i := fun i => hRow_e e1 i
  have ez : ∀ i, zEq (bk τ (hRow τ i)) (bk υ (hRow τ i)) := fun i => zEq_pt (fun o ho j => c _ (by have := hRow_b τ i; omega) j)
  refine ⟨by unfold HN at *; rw [e1, e2]; exact p1, HBA_s c hA, by rw [m2, e2, p2, n3], fun i hi => ?_⟩
  rw [e2] at hi
  have h5 : υ.1 261 5 = τ.1 70 2 := by rw [m2, p2, n3]
  cases i with
  | zero =>
    rw [er]
    refine IBk_z (zEq_tr p3 (ez 0)) (fun j hj => ?_) hB
    unfold pst
    have e : (υ.1 261 5 - 1 - ((0 : Nat) : Int)).toNat = (υ.1 261 5 - 1).toNat := by omega
    rw [e]
    exact m3 j hj
  | succ i =>
    rw [er]
    refine IBk_z (zEq_tr (p4 i hi) (ez (i + 1))) (fun j hj => ?_) (n4 i (by omega))
    unfold pst
    have e : (υ.1 261 5 - 1 - ((i + 1 : Nat) : Int)).toNat = (υ.1 261 5 - 2 - (i : Int)).toNat := by omega
    rw [e]
    exact m4 i (by omega) j hj
/-- an operation that was done -/
theorem Inv_p {σ τ υ : zS} {v : Int} {D' : zBk} (h : Inv σ) (s : zSame (fun q => (30 ≤ q ∧ q ≤ 49) ∨ (70 ≤ q ∧ q ≤ 258)) σ τ) (hp : HPu σ τ) (hA : HBA τ) (hW : WF (bk τ 30)) (hl : lEq D' (bk τ 30)) (h1 : 1 ≤ D' 1 0) (m : mfr (τ.1, v) υ mA mF) (hR : Rel D' (υ.1 262)) (hm : MPu (τ.1, v) υ (τ.1 262)) : Inv υ := by
  obtain ⟨hB, hS, hH, hI, hE, hO⟩ := h
  have a : ∀ k, ¬ mA k → k ≠ 261 → ∀ i, υ.1 k i = τ.1 k i := m.1
  have s2 : ∀ k, (k < 30 ∨ (50 ≤ k ∧ k < 70) ∨ 258 < k) → ∀ i, τ.1 k i = σ.1 k i := fun k hk i => s.1 k (by first | omega | (dsimp only; omega)) i
  have f : ∀ k, (k < 30 ∨ (50 ≤ k ∧ k < 70) ∨ k = 259 ∨ k = 260 ∨ k = 263 ∨ k = 269 ∨ k = 271) → ∀ i, υ.1 k i = σ.1 k i := fun k hk i => (a k (by unfold mA; omega) (by omega) i).trans (s2 k (by omega) i)
  have b : ∀ i, ¬ mF i → υ.1 261 i = σ.1 261 i := fun i h1 => (m.2.1 i h1).trans (s2 261 (by omega) i)
  have g : ∀ k, k < 252 → ∀ i, υ.1 k i = τ.1 k i := fun k hk i => a k (by unfold mA; omega) (by omega) i
  have z : zEq (bk τ 30) (bk υ 30) := zEq_pt (fun o ho i => g _ (by omega) i)
  refine ⟨IBk_z (r := υ.1 262) z (fun _ _ => rfl) (IBk_l hl hW h1 hR), IS_s (f 0 (by omega) 5) (fun q h1 h2 i => f q (by omega) i) (b 7 (by unfold mF; omega)) (f 263 (by omega)) hS, IH_p hB hH hp hA g (MPu_to hm (s2 261 (by omega) 5) (s2 266 (by omega)) (fun j _ => s2 262 (by omega) j)), II_s (f 1 (by omega) 1) (f 2 (by omega)) (b 16 (by unfold mF; omega)) (f 269 (by omega)) (by rw [b 19 (by unfold mF; omega)]; exact hI.2) hI, ?_, IO_s (f 259 (by omega) 1) (f 260 (by omega)) (b 27 (by unfold mF; omega)) (f 271 (by omega)) hO⟩
  exact ⟨by rw [f 1 (by omega), b 22 (by unfold mF; omega)]; exact hE.1, by rw [f 1 (by omega), b 23 (by unfold mF; omega)]; exact hE.2⟩
/-- the text, as both readers need it -/
theorem II_T {σ : zS} (h : II σ) : ∃ n : Nat, (σ.1 1 1 = (n : Int) ∧ n ≤ 1400) ∧ (σ.1 261 16 = (n : Int) ∧ n ≤ 1400) ∧ TM (σ.1 2) n σ := by
  obtain ⟨⟨L, a, b, c, d⟩, -⟩ := h
  refine ⟨L.length, ⟨a.1, c⟩, ⟨b.1, c⟩, fun i hi => ?_⟩
  have hx : 0 ≤ L.getD i 0 ∧ L.getD i 0 ≤ 255 := by
    rw [List.getD_eq_getElem?_getD, List.getElem?_eq_getElem hi]
    exact d _ (List.getElem_mem hi)
  rw [b.2 i hi, a.2 i hi]
  have hz := zb8_v (a := L.getD i 0) (by omega)
  rw [hz]
  split <;> omega

theorem hm5_s {σ τ : zS} {S : Nat → Prop} (h : Inv σ) (s : zSame S σ τ) (hS : ¬ S 261) : 0 ≤ τ.1 261 5 ∧ τ.1 261 5 ≤ 8 := by
  rw [s.1 261 hS 5, h.2.2.1.2.2.1]
  have := h.2.2.1.1
  unfold HN at this
  omega
/-! one call of the law: the class's side, then the other program's -/
def SimW (l : Launch) (w : zW) (B : Prop) (mL mM : zM) (hm : Nat) (as : List zV) (σ : zS) : Prop := ∃ QC : zQ, SpH l w mL 10 1 (zf 9 0 :: (as ++ [zf 35 272])) σ QC ∧ ∀ o τ, QC o τ → ∃ c : Int, o = .inl (some (zi c)) ∧ zr c ∧ zOK τ ∧ ∃ QM : zQ, Sp l w mM hm 0 (zf 10 261 :: as) τ QM ∧ ∀ o' υ, QM o' υ → ∃ b : Int, o' = .inl (some (zi b)) ∧ zOK υ ∧ υ.1 261 6 = c ∧ (c = 0 → υ.2 = zt b) ∧ (B → b = 0 ∨ b = 1) ∧ Inv υ
def SimD (l : Launch) (w : zW) (mX mM : zM) (hx hm : Nat) (as : List zV) (σ : zS) : Prop := ∃ QC : zQ, Sp l w mX hx 0 (zf 9 0 :: as) σ QC ∧ ∀ o τ, QC o τ → ∃ c : Int, o = .inl (some (zi c)) ∧ zOK τ ∧ ∃ QM : zQ, Sp l w mM hm 0 (zf 10 261 :: as) τ QM ∧ ∀ o' υ, QM o' υ → o' = .inl (some (zi c)) ∧ zOK υ ∧ Inv υ
theorem zret_q {l : Launch} {w : zW} {m : zM} {h n : Nat} {as : List zV} {σ τ0 : zS} {v : zV} (hsp : Sp l w m h n as σ (zret v τ0)) : Sp l w m h n as σ (zqv (some v) (fun τ => τ0 = τ)) := zSp_mono hsp (fun _ _ q => ⟨q.1, q.2.symm⟩)
theorem zthr_q {l : Launch} {w : zW} {m : zM} {h n : Nat} {as : List zV} {σ τ0 : zS} {E : String} (hsp : Sp l w m h n as σ (zthr E τ0)) : Sp l w m h n as σ (zthq E (fun τ => τ0 = τ)) := zSp_mono hsp (fun _ _ q => ⟨q.1, q.2.symm⟩)
theorem simT {l : Launch} {w : zW} {B : Prop} {mL mM : zM} {hm : Nat} {as : List zV} {σ : zS} {E : String} {Es : List String} {R : zS → Prop} (i : Nat) (hsp : SpH l w mL 10 1 (zf 9 0 :: (as ++ [zf 35 272])) σ (LQ (zthq E R) Es)) (hE : ∀ j, Es[j]? = some E → j = i) (hi : i ≤ 5)
    (K : ∀ τ, R τ → zOK τ ∧ ∃ RM : zS → Prop, Sp l w mM hm 0 (zf 10 261 :: as) τ (zqv (some (zi 0)) RM) ∧ ∀ υ, RM υ → zOK υ ∧ υ.1 261 6 = ((i + 1 : Nat) : Int) ∧ Inv υ) : SimW l w B mL mM hm as σ := by
  refine ⟨_, hsp, fun o τ hq => ?_⟩
  rcases hq with ⟨v, υ, h1, -⟩ | ⟨E', j, ⟨h1, h2⟩, h3, h4⟩
  · exact absurd h1.1 (fun q => by cases q)
  · obtain rfl := Sum.inr.inj h1
    obtain rfl := hE j h3
    obtain ⟨k1, RM, k2, k3⟩ := K τ h2
    refine ⟨_, h4, by unfold zr; omega, k1, _, k2, fun o' υ hq => ?_⟩
    obtain ⟨g1, g2, g3⟩ := k3 υ hq.2
    exact ⟨0, hq.1, g1, g2, fun q => by omega, fun _ => Or.inl rfl, g3⟩
theorem simR {l : Launch} {w : zW} {B : Prop} {mL mM : zM} {hm : Nat} {as : List zV} {σ : zS} {Es : List String} {R : zS → Prop} {v : Int} (hsp : SpH l w mL 10 1 (zf 9 0 :: (as ++ [zf 35 272])) σ (LQ (zqv (some (zi v)) R) Es))
    (K : ∀ τ, R τ → zOK τ ∧ ∃ RM : zS → Prop, Sp l w mM hm 0 (zf 10 261 :: as) (τ.1, zt v) (zqv (some (zi v)) RM) ∧ ∀ υ, RM υ → zOK υ ∧ υ.1 261 6 = 0 ∧ υ.2 = zt v ∧ Inv υ) (hb : B → v = 0 ∨ v = 1) : SimW l w B mL mM hm as σ := by
  refine ⟨_, hsp, fun o τ hq => ?_⟩
  rcases hq with ⟨v', υ, ⟨h1, h2⟩, h3, h4⟩ | ⟨E', j, h1, -⟩
  · have e : v = v' := by injection h1 with h1; injection h1 with h1; injection h1 with h1; exact h1.symm
    subst e
    obtain ⟨k1, RM, k2, k3⟩ := K υ h2
    refine ⟨0, h3, zr0, by rw [h4]; exact k1, _, by rw [h4]; exact k2, fun o' υ' hq => ?_⟩
    obtain ⟨g1, g2, g3, g4⟩ := k3 υ' hq.2
    exact ⟨v, hq.1, g1, g2, fun _ => g3, hb, g4⟩
  · exact absurd h1.1 (fun q => by cases q)
theorem simD {l : Launch} {w : zW} {mX mM : zM} {hx hm : Nat} {as : List zV} {σ : zS} {R : zS → Prop} {v : Int} (hsp : Sp l w mX hx 0 (zf 9 0 :: as) σ (zqv (some (zi v)) R))
    (K : ∀ τ, R τ → zOK τ ∧ ∃ RM : zS → Prop, Sp l w mM hm 0 (zf 10 261 :: as) τ (zqv (some (zi v)) RM) ∧ ∀ υ, RM υ → zOK υ ∧ Inv υ) : SimD l w mX mM hx hm as σ := by
  refine ⟨_, hsp, fun o τ hq => ?_⟩
  obtain ⟨k1, RM, k2, k3⟩ := K τ hq.2
  exact ⟨v, hq.1, k1, _, k2, fun o' υ q => ⟨q.1, (k3 υ q.2).1, (k3 υ q.2).2⟩⟩
theorem bit17 {σ : zS} {x : Int} (hW : WF (bk σ 30)) (g : 0 ≤ x ∧ x < σ.1 42 0) : σ.1 47 x.toNat = 0 ∨ σ.1 47 x.toNat = 1 := by
  have e3 : bk σ 30 12 0 = σ.1 42 0 := rfl
  exact (hW.2.2.2.2.1 x.toNat (by omega)).2.2.2.1
theorem bit18 {σ : zS} {x : Int} (hW : WF (bk σ 30)) (g : 0 ≤ x ∧ x < σ.1 42 0) : σ.1 48 x.toNat = 0 ∨ σ.1 48 x.toNat = 1 := by
  have e3 : bk σ 30 12 0 = σ.1 42 0 := rfl
  exact (hW.2.2.2.2.1 x.toNat (by omega)).2.2.2.2

set_option maxHeartbeats 1000000 in
theorem sim_cityOf {l : Launch} {w : zW} (hfl : l.stackTraces = false) {σ : zS} (hz : zOK σ) (h : Inv σ) {x : Int} (hx : zr x) : SimW l w False mL_cityOf mX10_cityOf 2 [zi x] σ := by
  have hW := h.1.1
  have hR : Rel (bk σ 30) (σ.1 262) := h.1.2.2
  have hP1 : 1 ≤ σ.1 31 0 := h.1.2.1
  have hN := h.2.2.1.1
  have hA := h.2.2.1.2.1
  have hm5 := hm5_s h (zSame_rf (fun _ => False) σ) (fun q => q)
  by_cases g0 : 0 ≤ x ∧ x < σ.1 31 0
  case neg => exact simT 0 (wL_cityOf hfl hz (Nat.le_of_ble_eq_true rfl) (Nat.le_of_ble_eq_true rfl) hx (zthr_q (sX9_cityOf_t0 (hfl := hfl) (hz := hz) (hW := hW) (hx := hx) (hw0 := g0))) (fun o τ q => Or.inr (q.1))) (fun j hj => by rcases j with _ | _ | _ | j <;> first | rfl | (exfalso; revert hj; simp)) (by decide) (fun τ e => by subst e; exact ⟨hz, _, sX10_cityOf_t1 (hfl := hfl) (hz := hz) (D := bk σ 30) (hW := hW) (hR := hR) (hx := hx) (hw0 := g0), fun υ q => ⟨q.1, q.2.2, Inv_q (v := σ.2) h (zSame_rf _ _) q.2.1⟩⟩)
  exact simR (wL_cityOf hfl hz (Nat.le_of_ble_eq_true rfl) (Nat.le_of_ble_eq_true rfl) hx (zret_q (sX9_cityOf (hfl := hfl) (hz := hz) (hW := hW) (hx := hx) (hw0 := g0))) (fun o τ q => Or.inl ⟨_, q.1⟩)) (fun τ e => by subst e; exact ⟨hz, _, sX10_cityOf (hfl := hfl) (hz := hz) (D := bk σ 30) (hW := hW) (hR := hR) (hx := hx) (hw0 := g0), fun υ q => ⟨q.1, q.2.2, q.2.1.1.2.2, Inv_q (v := _) h (zSame_rf _ _) q.2.1⟩⟩) (fun q => q.elim)

set_option maxHeartbeats 1000000 in
theorem sim_isActive {l : Launch} {w : zW} (hfl : l.stackTraces = false) {σ : zS} (hz : zOK σ) (h : Inv σ) {x : Int} (hx : zr x) {y : Int} (hy : zr y) : SimW l w True mL_isActive mX10_isActive 2 [zi x, zi y] σ := by
  have hW := h.1.1
  have hR : Rel (bk σ 30) (σ.1 262) := h.1.2.2
  have hP1 : 1 ≤ σ.1 31 0 := h.1.2.1
  have hN := h.2.2.1.1
  have hA := h.2.2.1.2.1
  have hm5 := hm5_s h (zSame_rf (fun _ => False) σ) (fun q => q)
  by_cases g0 : 0 ≤ x ∧ x < σ.1 31 0
  case neg => exact simT 0 (wL_isActive hfl hz (Nat.le_of_ble_eq_true rfl) (Nat.le_of_ble_eq_true rfl) hx hy (zthr_q (sX9_isActive_t0 (hfl := hfl) (hz := hz) (hW := hW) (hx := hx) (hy := hy) (hw0 := g0))) (fun o τ q => Or.inr (Or.inl q.1))) (fun j hj => by rcases j with _ | _ | _ | j <;> first | rfl | (exfalso; revert hj; simp)) (by decide) (fun τ e => by subst e; exact ⟨hz, _, sX10_isActive_t1 (hfl := hfl) (hz := hz) (D := bk σ 30) (hW := hW) (hR := hR) (hx := hx) (hy := hy) (hw0 := g0), fun υ q => ⟨q.1, q.2.2, Inv_q (v := σ.2) h (zSame_rf _ _) q.2.1⟩⟩)
  by_cases g1 : 1450 ≤ y ∧ y ≤ 1999
  case neg => exact simT 1 (wL_isActive hfl hz (Nat.le_of_ble_eq_true rfl) (Nat.le_of_ble_eq_true rfl) hx hy (zthr_q (sX9_isActive_t1 (hfl := hfl) (hz := hz) (hW := hW) (hx := hx) (hy := hy) (hw0 := g0) (hw1 := g1))) (fun o τ q => Or.inr (Or.inr (q.1)))) (fun j hj => by rcases j with _ | _ | _ | j <;> first | rfl | (exfalso; revert hj; simp)) (by decide) (fun τ e => by subst e; exact ⟨hz, _, sX10_isActive_t2 (hfl := hfl) (hz := hz) (D := bk σ 30) (hW := hW) (hR := hR) (hx := hx) (hy := hy) (hw0 := g0) (hw1 := g1), fun υ q => ⟨q.1, q.2.2, Inv_q (v := σ.2) h (zSame_rf _ _) q.2.1⟩⟩)
  exact simR (wL_isActive hfl hz (Nat.le_of_ble_eq_true rfl) (Nat.le_of_ble_eq_true rfl) hx hy (zret_q (sX9_isActive (hfl := hfl) (hz := hz) (hW := hW) (hx := hx) (hy := hy) (hw0 := g0) (hw1 := g1))) (fun o τ q => Or.inl ⟨_, q.1, zb_01 _⟩)) (fun τ e => by subst e; exact ⟨hz, _, sX10_isActive (hfl := hfl) (hz := hz) (D := bk σ 30) (hW := hW) (hR := hR) (hx := hx) (hy := hy) (hw0 := g0) (hw1 := g1), fun υ q => ⟨q.1, q.2.2, q.2.1.1.2.2, Inv_q (v := _) h (zSame_rf _ _) q.2.1⟩⟩) (fun _ => zb_01 _)

set_option maxHeartbeats 1000000 in
theorem sim_hasDevice {l : Launch} {w : zW} (hfl : l.stackTraces = false) {σ : zS} (hz : zOK σ) (h : Inv σ) {x : Int} (hx : zr x) {y : Int} (hy : zr y) : SimW l w True mL_hasDevice mX10_hasDevice 3 [zi x, zi y] σ := by
  have hW := h.1.1
  have hR : Rel (bk σ 30) (σ.1 262) := h.1.2.2
  have hP1 : 1 ≤ σ.1 31 0 := h.1.2.1
  have hN := h.2.2.1.1
  have hA := h.2.2.1.2.1
  have hm5 := hm5_s h (zSame_rf (fun _ => False) σ) (fun q => q)
  by_cases g0 : 0 ≤ x ∧ x < σ.1 31 0
  case neg => exact simT 0 (wL_hasDevice hfl hz (Nat.le_of_ble_eq_true rfl) (Nat.le_of_ble_eq_true rfl) hx hy (zthr_q (sX9_hasDevice_t0 (hfl := hfl) (hz := hz) (hW := hW) (hx := hx) (hy := hy) (hw0 := g0))) (fun o τ q => Or.inr (q.1))) (fun j hj => by rcases j with _ | _ | _ | j <;> first | rfl | (exfalso; revert hj; simp)) (by decide) (fun τ e => by subst e; exact ⟨hz, _, sX10_hasDevice_t1 (hfl := hfl) (hz := hz) (D := bk σ 30) (hW := hW) (hR := hR) (hx := hx) (hy := hy) (hw0 := g0), fun υ q => ⟨q.1, q.2.2, Inv_q (v := σ.2) h (zSame_rf _ _) q.2.1⟩⟩)
  exact simR (wL_hasDevice hfl hz (Nat.le_of_ble_eq_true rfl) (Nat.le_of_ble_eq_true rfl) hx hy (zret_q (sX9_hasDevice (hfl := hfl) (hz := hz) (hW := hW) (hx := hx) (hy := hy) (hw0 := g0))) (fun o τ q => Or.inl ⟨_, q.1, zb_01 _⟩)) (fun τ e => by subst e; exact ⟨hz, _, sX10_hasDevice (hfl := hfl) (hz := hz) (D := bk σ 30) (hW := hW) (hR := hR) (hx := hx) (hy := hy) (hw0 := g0), fun υ q => ⟨q.1, q.2.2, q.2.1.1.2.2, Inv_q (v := _) h (zSame_rf _ _) q.2.1⟩⟩) (fun _ => zb_01 _)

set_option maxHeartbeats 1000000 in
theorem sim_hasTypeface {l : Launch} {w : zW} (hfl : l.stackTraces = false) {σ : zS} (hz : zOK σ) (h : Inv σ) {x : Int} (hx : zr x) {y : Int} (hy : zr y) : SimW l w True mL_hasTypeface mX10_hasTypeface 3 [zi x, zi y] σ := by
  have hW := h.1.1
  have hR : Rel (bk σ 30) (σ.1 262) := h.1.2.2
  have hP1 : 1 ≤ σ.1 31 0 := h.1.2.1
  have hN := h.2.2.1.1
  have hA := h.2.2.1.2.1
  have hm5 := hm5_s h (zSame_rf (fun _ => False) σ) (fun q => q)
  by_cases g0 : 0 ≤ x ∧ x < σ.1 31 0
  case neg => exact simT 0 (wL_hasTypeface hfl hz (Nat.le_of_ble_eq_true rfl) (Nat.le_of_ble_eq_true rfl) hx hy (zthr_q (sX9_hasTypeface_t0 (hfl := hfl) (hz := hz) (hW := hW) (hx := hx) (hy := hy) (hw0 := g0))) (fun o τ q => Or.inr (q.1))) (fun j hj => by rcases j with _ | _ | _ | j <;> first | rfl | (exfalso; revert hj; simp)) (by decide) (fun τ e => by subst e; exact ⟨hz, _, sX10_hasTypeface_t1 (hfl := hfl) (hz := hz) (D := bk σ 30) (hW := hW) (hR := hR) (hx := hx) (hy := hy) (hw0 := g0), fun υ q => ⟨q.1, q.2.2, Inv_q (v := σ.2) h (zSame_rf _ _) q.2.1⟩⟩)
  exact simR (wL_hasTypeface hfl hz (Nat.le_of_ble_eq_true rfl) (Nat.le_of_ble_eq_true rfl) hx hy (zret_q (sX9_hasTypeface (hfl := hfl) (hz := hz) (hW := hW) (hx := hx) (hy := hy) (hw0 := g0))) (fun o τ q => Or.inl ⟨_, q.1, zb_01 _⟩)) (fun τ e => by subst e; exact ⟨hz, _, sX10_hasTypeface (hfl := hfl) (hz := hz) (D := bk σ 30) (hW := hW) (hR := hR) (hx := hx) (hy := hy) (hw0 := g0), fun υ q => ⟨q.1, q.2.2, q.2.1.1.2.2, Inv_q (v := _) h (zSame_rf _ _) q.2.1⟩⟩) (fun _ => zb_01 _)

set_option maxHeartbeats 1000000 in
theorem sim_watermarksOf {l : Launch} {w : zW} (hfl : l.stackTraces = false) {σ : zS} (hz : zOK σ) (h : Inv σ) {y : Int} (hy : zr y) : SimW l w False mL_watermarksOf mX10_watermarksOf 2 [zi y] σ := by
  have hW := h.1.1
  have hR : Rel (bk σ 30) (σ.1 262) := h.1.2.2
  have hP1 : 1 ≤ σ.1 31 0 := h.1.2.1
  have hN := h.2.2.1.1
  have hA := h.2.2.1.2.1
  have hm5 := hm5_s h (zSame_rf (fun _ => False) σ) (fun q => q)
  by_cases g0 : 1450 ≤ y ∧ y ≤ 1999
  case neg => exact simT 0 (wL_watermarksOf hfl hz (Nat.le_of_ble_eq_true rfl) (Nat.le_of_ble_eq_true rfl) hy (zthr_q (sX9_watermarksOf_t0 (hfl := hfl) (hz := hz) (hW := hW) (hy := hy) (hw0 := g0))) (fun o τ q => Or.inr (q.1))) (fun j hj => by rcases j with _ | _ | _ | j <;> first | rfl | (exfalso; revert hj; simp)) (by decide) (fun τ e => by subst e; exact ⟨hz, _, sX10_watermarksOf_t1 (hfl := hfl) (hz := hz) (D := bk σ 30) (hW := hW) (hR := hR) (hy := hy) (hw0 := g0), fun υ q => ⟨q.1, q.2.2, Inv_q (v := σ.2) h (zSame_rf _ _) q.2.1⟩⟩)
  exact simR (wL_watermarksOf hfl hz (Nat.le_of_ble_eq_true rfl) (Nat.le_of_ble_eq_true rfl) hy (zret_q (sX9_watermarksOf (hfl := hfl) (hz := hz) (hW := hW) (hy := hy) (hw0 := g0))) (fun o τ q => Or.inl ⟨_, q.1⟩)) (fun τ e => by subst e; exact ⟨hz, _, sX10_watermarksOf (hfl := hfl) (hz := hz) (D := bk σ 30) (hW := hW) (hR := hR) (hy := hy) (hw0 := g0), fun υ q => ⟨q.1, q.2.2, q.2.1.1.2.2, Inv_q (v := _) h (zSame_rf _ _) q.2.1⟩⟩) (fun q => q.elim)

set_option maxHeartbeats 1000000 in
theorem sim_kindOf {l : Launch} {w : zW} (hfl : l.stackTraces = false) {σ : zS} (hz : zOK σ) (h : Inv σ) {x : Int} (hx : zr x) : SimW l w False mL_kindOf mX10_kindOf 3 [zi x] σ := by
  have hW := h.1.1
  have hR : Rel (bk σ 30) (σ.1 262) := h.1.2.2
  have hP1 : 1 ≤ σ.1 31 0 := h.1.2.1
  have hN := h.2.2.1.1
  have hA := h.2.2.1.2.1
  have hm5 := hm5_s h (zSame_rf (fun _ => False) σ) (fun q => q)
  by_cases g0 : 0 ≤ x ∧ x < σ.1 42 0
  case neg => exact simT 0 (wL_kindOf hfl hz (Nat.le_of_ble_eq_true rfl) (Nat.le_of_ble_eq_true rfl) hx (zthr_q (sX9_kindOf_t0 (hfl := hfl) (hz := hz) (hW := hW) (hx := hx) (hw0 := g0))) (fun o τ q => Or.inr (q.1))) (fun j hj => by rcases j with _ | _ | _ | j <;> first | rfl | (exfalso; revert hj; simp)) (by decide) (fun τ e => by subst e; exact ⟨hz, _, sX10_kindOf_t1 (hfl := hfl) (hz := hz) (D := bk σ 30) (hW := hW) (hR := hR) (hx := hx) (hw0 := g0), fun υ q => ⟨q.1, q.2.2, Inv_q (v := σ.2) h (zSame_rf _ _) q.2.1⟩⟩)
  exact simR (wL_kindOf hfl hz (Nat.le_of_ble_eq_true rfl) (Nat.le_of_ble_eq_true rfl) hx (zret_q (sX9_kindOf (hfl := hfl) (hz := hz) (hW := hW) (hx := hx) (hw0 := g0))) (fun o τ q => Or.inl ⟨_, q.1⟩)) (fun τ e => by subst e; exact ⟨hz, _, sX10_kindOf (hfl := hfl) (hz := hz) (D := bk σ 30) (hW := hW) (hR := hR) (hx := hx) (hw0 := g0), fun υ q => ⟨q.1, q.2.2, q.2.1.1.2.2, Inv_q (v := _) h (zSame_rf _ _) q.2.1⟩⟩) (fun q => q.elim)

set_option maxHeartbeats 1000000 in
theorem sim_valueOf {l : Launch} {w : zW} (hfl : l.stackTraces = false) {σ : zS} (hz : zOK σ) (h : Inv σ) {x : Int} (hx : zr x) : SimW l w False mL_valueOf mX10_valueOf 3 [zi x] σ := by
  have hW := h.1.1
  have hR : Rel (bk σ 30) (σ.1 262) := h.1.2.2
  have hP1 : 1 ≤ σ.1 31 0 := h.1.2.1
  have hN := h.2.2.1.1
  have hA := h.2.2.1.2.1
  have hm5 := hm5_s h (zSame_rf (fun _ => False) σ) (fun q => q)
  by_cases g0 : 0 ≤ x ∧ x < σ.1 42 0
  case neg => exact simT 0 (wL_valueOf hfl hz (Nat.le_of_ble_eq_true rfl) (Nat.le_of_ble_eq_true rfl) hx (zthr_q (sX9_valueOf_t0 (hfl := hfl) (hz := hz) (hW := hW) (hx := hx) (hw0 := g0))) (fun o τ q => Or.inr (q.1))) (fun j hj => by rcases j with _ | _ | _ | j <;> first | rfl | (exfalso; revert hj; simp)) (by decide) (fun τ e => by subst e; exact ⟨hz, _, sX10_valueOf_t1 (hfl := hfl) (hz := hz) (D := bk σ 30) (hW := hW) (hR := hR) (hx := hx) (hw0 := g0), fun υ q => ⟨q.1, q.2.2, Inv_q (v := σ.2) h (zSame_rf _ _) q.2.1⟩⟩)
  exact simR (wL_valueOf hfl hz (Nat.le_of_ble_eq_true rfl) (Nat.le_of_ble_eq_true rfl) hx (zret_q (sX9_valueOf (hfl := hfl) (hz := hz) (hW := hW) (hx := hx) (hw0 := g0))) (fun o τ q => Or.inl ⟨_, q.1⟩)) (fun τ e => by subst e; exact ⟨hz, _, sX10_valueOf (hfl := hfl) (hz := hz) (D := bk σ 30) (hW := hW) (hR := hR) (hx := hx) (hw0 := g0), fun υ q => ⟨q.1, q.2.2, q.2.1.1.2.2, Inv_q (v := _) h (zSame_rf _ _) q.2.1⟩⟩) (fun q => q.elim)

set_option maxHeartbeats 1000000 in
theorem sim_pageOf {l : Launch} {w : zW} (hfl : l.stackTraces = false) {σ : zS} (hz : zOK σ) (h : Inv σ) {x : Int} (hx : zr x) : SimW l w False mL_pageOf mX10_pageOf 3 [zi x] σ := by
  have hW := h.1.1
  have hR : Rel (bk σ 30) (σ.1 262) := h.1.2.2
  have hP1 : 1 ≤ σ.1 31 0 := h.1.2.1
  have hN := h.2.2.1.1
  have hA := h.2.2.1.2.1
  have hm5 := hm5_s h (zSame_rf (fun _ => False) σ) (fun q => q)
  by_cases g0 : 0 ≤ x ∧ x < σ.1 42 0
  case neg => exact simT 0 (wL_pageOf hfl hz (Nat.le_of_ble_eq_true rfl) (Nat.le_of_ble_eq_true rfl) hx (zthr_q (sX9_pageOf_t0 (hfl := hfl) (hz := hz) (hW := hW) (hx := hx) (hw0 := g0))) (fun o τ q => Or.inr (q.1))) (fun j hj => by rcases j with _ | _ | _ | j <;> first | rfl | (exfalso; revert hj; simp)) (by decide) (fun τ e => by subst e; exact ⟨hz, _, sX10_pageOf_t1 (hfl := hfl) (hz := hz) (D := bk σ 30) (hW := hW) (hR := hR) (hx := hx) (hw0 := g0), fun υ q => ⟨q.1, q.2.2, Inv_q (v := σ.2) h (zSame_rf _ _) q.2.1⟩⟩)
  exact simR (wL_pageOf hfl hz (Nat.le_of_ble_eq_true rfl) (Nat.le_of_ble_eq_true rfl) hx (zret_q (sX9_pageOf (hfl := hfl) (hz := hz) (hW := hW) (hx := hx) (hw0 := g0))) (fun o τ q => Or.inl ⟨_, q.1⟩)) (fun τ e => by subst e; exact ⟨hz, _, sX10_pageOf (hfl := hfl) (hz := hz) (D := bk σ 30) (hW := hW) (hR := hR) (hx := hx) (hw0 := g0), fun υ q => ⟨q.1, q.2.2, q.2.1.1.2.2, Inv_q (v := _) h (zSame_rf _ _) q.2.1⟩⟩) (fun q => q.elim)

set_option maxHeartbeats 1000000 in
theorem sim_weightOf {l : Launch} {w : zW} (hfl : l.stackTraces = false) {σ : zS} (hz : zOK σ) (h : Inv σ) {x : Int} (hx : zr x) : SimW l w False mL_weightOf mX10_weightOf 3 [zi x] σ := by
  have hW := h.1.1
  have hR : Rel (bk σ 30) (σ.1 262) := h.1.2.2
  have hP1 : 1 ≤ σ.1 31 0 := h.1.2.1
  have hN := h.2.2.1.1
  have hA := h.2.2.1.2.1
  have hm5 := hm5_s h (zSame_rf (fun _ => False) σ) (fun q => q)
  by_cases g0 : 0 ≤ x ∧ x < σ.1 42 0
  case neg => exact simT 0 (wL_weightOf hfl hz (Nat.le_of_ble_eq_true rfl) (Nat.le_of_ble_eq_true rfl) hx (zthr_q (sX9_weightOf_t0 (hfl := hfl) (hz := hz) (hW := hW) (hx := hx) (hw0 := g0))) (fun o τ q => Or.inr (q.1))) (fun j hj => by rcases j with _ | _ | _ | j <;> first | rfl | (exfalso; revert hj; simp)) (by decide) (fun τ e => by subst e; exact ⟨hz, _, sX10_weightOf_t1 (hfl := hfl) (hz := hz) (D := bk σ 30) (hW := hW) (hR := hR) (hx := hx) (hw0 := g0), fun υ q => ⟨q.1, q.2.2, Inv_q (v := σ.2) h (zSame_rf _ _) q.2.1⟩⟩)
  exact simR (wL_weightOf hfl hz (Nat.le_of_ble_eq_true rfl) (Nat.le_of_ble_eq_true rfl) hx (zret_q (sX9_weightOf (hfl := hfl) (hz := hz) (hW := hW) (hx := hx) (hw0 := g0))) (fun o τ q => Or.inl ⟨_, q.1⟩)) (fun τ e => by subst e; exact ⟨hz, _, sX10_weightOf (hfl := hfl) (hz := hz) (D := bk σ 30) (hW := hW) (hR := hR) (hx := hx) (hw0 := g0), fun υ q => ⟨q.1, q.2.2, q.2.1.1.2.2, Inv_q (v := _) h (zSame_rf _ _) q.2.1⟩⟩) (fun q => q.elim)

set_option maxHeartbeats 1000000 in
theorem sim_isRead {l : Launch} {w : zW} (hfl : l.stackTraces = false) {σ : zS} (hz : zOK σ) (h : Inv σ) {x : Int} (hx : zr x) : SimW l w True mL_isRead mX10_isRead 3 [zi x] σ := by
  have hW := h.1.1
  have hR : Rel (bk σ 30) (σ.1 262) := h.1.2.2
  have hP1 : 1 ≤ σ.1 31 0 := h.1.2.1
  have hN := h.2.2.1.1
  have hA := h.2.2.1.2.1
  have hm5 := hm5_s h (zSame_rf (fun _ => False) σ) (fun q => q)
  by_cases g0 : 0 ≤ x ∧ x < σ.1 42 0
  case neg => exact simT 0 (wL_isRead hfl hz (Nat.le_of_ble_eq_true rfl) (Nat.le_of_ble_eq_true rfl) hx (zthr_q (sX9_isRead_t0 (hfl := hfl) (hz := hz) (hW := hW) (hx := hx) (hw0 := g0))) (fun o τ q => Or.inr (q.1))) (fun j hj => by rcases j with _ | _ | _ | j <;> first | rfl | (exfalso; revert hj; simp)) (by decide) (fun τ e => by subst e; exact ⟨hz, _, sX10_isRead_t1 (hfl := hfl) (hz := hz) (D := bk σ 30) (hW := hW) (hR := hR) (hx := hx) (hw0 := g0), fun υ q => ⟨q.1, q.2.2, Inv_q (v := σ.2) h (zSame_rf _ _) q.2.1⟩⟩)
  exact simR (wL_isRead hfl hz (Nat.le_of_ble_eq_true rfl) (Nat.le_of_ble_eq_true rfl) hx (zret_q (sX9_isRead (hfl := hfl) (hz := hz) (hW := hW) (hx := hx) (hw0 := g0))) (fun o τ q => Or.inl ⟨_, q.1, bit17 hW g0⟩)) (fun τ e => by subst e; exact ⟨hz, _, sX10_isRead (hfl := hfl) (hz := hz) (D := bk σ 30) (hW := hW) (hR := hR) (hx := hx) (hw0 := g0), fun υ q => ⟨q.1, q.2.2, q.2.1.1.2.2, Inv_q (v := _) h (zSame_rf _ _) q.2.1⟩⟩) (fun _ => bit17 hW g0)

set_option maxHeartbeats 1000000 in
theorem sim_isAside {l : Launch} {w : zW} (hfl : l.stackTraces = false) {σ : zS} (hz : zOK σ) (h : Inv σ) {x : Int} (hx : zr x) : SimW l w True mL_isAside mX10_isAside 3 [zi x] σ := by
  have hW := h.1.1
  have hR : Rel (bk σ 30) (σ.1 262) := h.1.2.2
  have hP1 : 1 ≤ σ.1 31 0 := h.1.2.1
  have hN := h.2.2.1.1
  have hA := h.2.2.1.2.1
  have hm5 := hm5_s h (zSame_rf (fun _ => False) σ) (fun q => q)
  by_cases g0 : 0 ≤ x ∧ x < σ.1 42 0
  case neg => exact simT 0 (wL_isAside hfl hz (Nat.le_of_ble_eq_true rfl) (Nat.le_of_ble_eq_true rfl) hx (zthr_q (sX9_isAside_t0 (hfl := hfl) (hz := hz) (hW := hW) (hx := hx) (hw0 := g0))) (fun o τ q => Or.inr (q.1))) (fun j hj => by rcases j with _ | _ | _ | j <;> first | rfl | (exfalso; revert hj; simp)) (by decide) (fun τ e => by subst e; exact ⟨hz, _, sX10_isAside_t1 (hfl := hfl) (hz := hz) (D := bk σ 30) (hW := hW) (hR := hR) (hx := hx) (hw0 := g0), fun υ q => ⟨q.1, q.2.2, Inv_q (v := σ.2) h (zSame_rf _ _) q.2.1⟩⟩)
  exact simR (wL_isAside hfl hz (Nat.le_of_ble_eq_true rfl) (Nat.le_of_ble_eq_true rfl) hx (zret_q (sX9_isAside (hfl := hfl) (hz := hz) (hW := hW) (hx := hx) (hw0 := g0))) (fun o τ q => Or.inl ⟨_, q.1, bit18 hW g0⟩)) (fun τ e => by subst e; exact ⟨hz, _, sX10_isAside (hfl := hfl) (hz := hz) (D := bk σ 30) (hW := hW) (hR := hR) (hx := hx) (hw0 := g0), fun υ q => ⟨q.1, q.2.2, q.2.1.1.2.2, Inv_q (v := _) h (zSame_rf _ _) q.2.1⟩⟩) (fun _ => bit18 hW g0)

set_option maxHeartbeats 1000000 in
theorem sim_explains {l : Launch} {w : zW} (hfl : l.stackTraces = false) {σ : zS} (hz : zOK σ) (h : Inv σ) {x : Int} (hx : zr x) {y : Int} (hy : zr y) {u : Int} (hu : zr u) : SimW l w True mL_explains mX10_explains 5 [zi x, zi y, zi u] σ := by
  have hW := h.1.1
  have hR : Rel (bk σ 30) (σ.1 262) := h.1.2.2
  have hP1 : 1 ≤ σ.1 31 0 := h.1.2.1
  have hN := h.2.2.1.1
  have hA := h.2.2.1.2.1
  have hm5 := hm5_s h (zSame_rf (fun _ => False) σ) (fun q => q)
  by_cases g0 : 0 ≤ x ∧ x < σ.1 31 0
  case neg => exact simT 0 (wL_explains hfl hz (Nat.le_of_ble_eq_true rfl) (Nat.le_of_ble_eq_true rfl) hx hy hu (zthr_q (sX9_explains_t0 (hfl := hfl) (hz := hz) (hW := hW) (hx := hx) (hy := hy) (hu := hu) (hw0 := g0))) (fun o τ q => Or.inr (Or.inl q.1))) (fun j hj => by rcases j with _ | _ | _ | j <;> first | rfl | (exfalso; revert hj; simp)) (by decide) (fun τ e => by subst e; exact ⟨hz, _, sX10_explains_t1 (hfl := hfl) (hz := hz) (D := bk σ 30) (hW := hW) (hR := hR) (hx := hx) (hy := hy) (hu := hu) (hw0 := (fun q => g0 q.1)), fun υ q => ⟨q.1, q.2.2, Inv_q (v := σ.2) h (zSame_rf _ _) q.2.1⟩⟩)
  by_cases g1 : 0 ≤ u ∧ u < σ.1 42 0
  case neg => exact simT 0 (wL_explains hfl hz (Nat.le_of_ble_eq_true rfl) (Nat.le_of_ble_eq_true rfl) hx hy hu (zthr_q (sX9_explains_t1 (hfl := hfl) (hz := hz) (hW := hW) (hx := hx) (hy := hy) (hu := hu) (hw0 := g0) (hw1 := g1))) (fun o τ q => Or.inr (Or.inl q.1))) (fun j hj => by rcases j with _ | _ | _ | j <;> first | rfl | (exfalso; revert hj; simp)) (by decide) (fun τ e => by subst e; exact ⟨hz, _, sX10_explains_t1 (hfl := hfl) (hz := hz) (D := bk σ 30) (hW := hW) (hR := hR) (hx := hx) (hy := hy) (hu := hu) (hw0 := (fun q => g1 q.2)), fun υ q => ⟨q.1, q.2.2, Inv_q (v := σ.2) h (zSame_rf _ _) q.2.1⟩⟩)
  by_cases g2 : 1450 ≤ y ∧ y ≤ 1999
  case neg => exact simT 1 (wL_explains hfl hz (Nat.le_of_ble_eq_true rfl) (Nat.le_of_ble_eq_true rfl) hx hy hu (zthr_q (sX9_explains_t2 (hfl := hfl) (hz := hz) (hW := hW) (hx := hx) (hy := hy) (hu := hu) (hw0 := g0) (hw1 := g1) (hw2 := g2))) (fun o τ q => Or.inr (Or.inr (q.1)))) (fun j hj => by rcases j with _ | _ | _ | j <;> first | rfl | (exfalso; revert hj; simp)) (by decide) (fun τ e => by subst e; exact ⟨hz, _, sX10_explains_t2 (hfl := hfl) (hz := hz) (D := bk σ 30) (hW := hW) (hR := hR) (hx := hx) (hy := hy) (hu := hu) (hw0 := ⟨g0, g1⟩) (hw1 := g2), fun υ q => ⟨q.1, q.2.2, Inv_q (v := σ.2) h (zSame_rf _ _) q.2.1⟩⟩)
  exact simR (wL_explains hfl hz (Nat.le_of_ble_eq_true rfl) (Nat.le_of_ble_eq_true rfl) hx hy hu (zret_q (sX9_explains (hfl := hfl) (hz := hz) (hW := hW) (hx := hx) (hy := hy) (hu := hu) (hw0 := g0) (hw1 := g1) (hw2 := g2))) (fun o τ q => Or.inl ⟨_, q.1, zb_01 _⟩)) (fun τ e => by subst e; exact ⟨hz, _, sX10_explains (hfl := hfl) (hz := hz) (D := bk σ 30) (hW := hW) (hR := hR) (hx := hx) (hy := hy) (hu := hu) (hw0 := ⟨g0, g1⟩) (hw1 := g2), fun υ q => ⟨q.1, q.2.2, q.2.1.1.2.2, Inv_q (v := _) h (zSame_rf _ _) q.2.1⟩⟩) (fun _ => zb_01 _)

set_option maxHeartbeats 1000000 in
theorem sim_score {l : Launch} {w : zW} (hfl : l.stackTraces = false) {σ : zS} (hz : zOK σ) (h : Inv σ) {x : Int} (hx : zr x) {y : Int} (hy : zr y) : SimW l w False mL_score mX10_score 6 [zi x, zi y] σ := by
  have hW := h.1.1
  have hR : Rel (bk σ 30) (σ.1 262) := h.1.2.2
  have hP1 : 1 ≤ σ.1 31 0 := h.1.2.1
  have hN := h.2.2.1.1
  have hA := h.2.2.1.2.1
  have hm5 := hm5_s h (zSame_rf (fun _ => False) σ) (fun q => q)
  by_cases g0 : 0 ≤ x ∧ x < σ.1 31 0
  case neg => exact simT 0 (wL_score hfl hz (Nat.le_of_ble_eq_true rfl) (Nat.le_of_ble_eq_true rfl) hx hy (zthr_q (sX9_score_t0 (hfl := hfl) (hz := hz) (hW := hW) (hx := hx) (hy := hy) (hw0 := g0))) (fun o τ q => Or.inr (Or.inl q.1))) (fun j hj => by rcases j with _ | _ | _ | j <;> first | rfl | (exfalso; revert hj; simp)) (by decide) (fun τ e => by subst e; exact ⟨hz, _, sX10_score_t1 (hfl := hfl) (hz := hz) (D := bk σ 30) (hW := hW) (hR := hR) (hx := hx) (hy := hy) (hw0 := g0), fun υ q => ⟨q.1, q.2.2, Inv_q (v := σ.2) h (zSame_rf _ _) q.2.1⟩⟩)
  by_cases g1 : 1450 ≤ y ∧ y ≤ 1999
  case neg => exact simT 1 (wL_score hfl hz (Nat.le_of_ble_eq_true rfl) (Nat.le_of_ble_eq_true rfl) hx hy (zthr_q (sX9_score_t1 (hfl := hfl) (hz := hz) (hW := hW) (hx := hx) (hy := hy) (hw0 := g0) (hw1 := g1))) (fun o τ q => Or.inr (Or.inr (q.1)))) (fun j hj => by rcases j with _ | _ | _ | j <;> first | rfl | (exfalso; revert hj; simp)) (by decide) (fun τ e => by subst e; exact ⟨hz, _, sX10_score_t2 (hfl := hfl) (hz := hz) (D := bk σ 30) (hW := hW) (hR := hR) (hx := hx) (hy := hy) (hw0 := g0) (hw1 := g1), fun υ q => ⟨q.1, q.2.2, Inv_q (v := σ.2) h (zSame_rf _ _) q.2.1⟩⟩)
  exact simR (wL_score hfl hz (Nat.le_of_ble_eq_true rfl) (Nat.le_of_ble_eq_true rfl) hx hy (zret_q (sX9_score (hfl := hfl) (hz := hz) (hW := hW) (hx := hx) (hy := hy) (hw0 := g0) (hw1 := g1))) (fun o τ q => Or.inl ⟨_, q.1⟩)) (fun τ e => by subst e; exact ⟨hz, _, sX10_score (hfl := hfl) (hz := hz) (D := bk σ 30) (hW := hW) (hR := hR) (hx := hx) (hy := hy) (hw0 := g0) (hw1 := g1), fun υ q => ⟨q.1, q.2.2, q.2.1.1.2.2, Inv_q (v := _) h (zSame_rf _ _) q.2.1⟩⟩) (fun q => q.elim)

set_option maxHeartbeats 1000000 in
theorem sim_bestYear {l : Launch} {w : zW} (hfl : l.stackTraces = false) {σ : zS} (hz : zOK σ) (h : Inv σ) {x : Int} (hx : zr x) : SimW l w False mL_bestYear mX10_bestYear 6 [zi x] σ := by
  have hW := h.1.1
  have hR : Rel (bk σ 30) (σ.1 262) := h.1.2.2
  have hP1 : 1 ≤ σ.1 31 0 := h.1.2.1
  have hN := h.2.2.1.1
  have hA := h.2.2.1.2.1
  have hm5 := hm5_s h (zSame_rf (fun _ => False) σ) (fun q => q)
  by_cases g0 : 0 ≤ x ∧ x < σ.1 31 0
  case neg => exact simT 0 (wL_bestYear hfl hz (Nat.le_of_ble_eq_true rfl) (Nat.le_of_ble_eq_true rfl) hx (zthr_q (sX9_bestYear_t0 (hfl := hfl) (hz := hz) (hW := hW) (hP1 := hP1) (hx := hx) (hw0 := g0))) (fun o τ q => Or.inr (q.1))) (fun j hj => by rcases j with _ | _ | _ | j <;> first | rfl | (exfalso; revert hj; simp)) (by decide) (fun τ e => by subst e; exact ⟨hz, _, sX10_bestYear_t1 (hfl := hfl) (hz := hz) (D := bk σ 30) (hW := hW) (hR := hR) (hx := hx) (hw0 := g0), fun υ q => ⟨q.1, q.2.2, Inv_q (v := σ.2) h (zSame_rf _ _) q.2.1⟩⟩)
  exact simR (wL_bestYear hfl hz (Nat.le_of_ble_eq_true rfl) (Nat.le_of_ble_eq_true rfl) hx (sX9_bestYear (hfl := hfl) (hz := hz) (hW := hW) (hP1 := hP1) (hx := hx) (hw0 := g0)) (fun o τ q => Or.inl ⟨_, q.1⟩)) (fun τ e => ⟨e.1, _, sX10_bestYear (hfl := hfl) (hz := e.1) (D := bk σ 30) (hW := hW) (hR := (Rel_sj (τ := τ) e.2 (by first | omega | (dsimp only; omega)) hR)) (hx := hx) (hw0 := g0), fun υ q => ⟨q.1, q.2.2, q.2.1.1.2.2, Inv_q (v := _) h e.2 q.2.1⟩⟩) (fun q => q.elim)

set_option maxHeartbeats 1000000 in
theorem sim_bestScore {l : Launch} {w : zW} (hfl : l.stackTraces = false) {σ : zS} (hz : zOK σ) (h : Inv σ) {x : Int} (hx : zr x) : SimW l w False mL_bestScore mX10_bestScore 7 [zi x] σ := by
  have hW := h.1.1
  have hR : Rel (bk σ 30) (σ.1 262) := h.1.2.2
  have hP1 : 1 ≤ σ.1 31 0 := h.1.2.1
  have hN := h.2.2.1.1
  have hA := h.2.2.1.2.1
  have hm5 := hm5_s h (zSame_rf (fun _ => False) σ) (fun q => q)
  by_cases g0 : 0 ≤ x ∧ x < σ.1 31 0
  case neg => exact simT 0 (wL_bestScore hfl hz (Nat.le_of_ble_eq_true rfl) (Nat.le_of_ble_eq_true rfl) hx (zthr_q (sX9_bestScore_t0 (hfl := hfl) (hz := hz) (hW := hW) (hP1 := hP1) (hx := hx) (hw0 := g0))) (fun o τ q => Or.inr (q.1))) (fun j hj => by rcases j with _ | _ | _ | j <;> first | rfl | (exfalso; revert hj; simp)) (by decide) (fun τ e => by subst e; exact ⟨hz, _, sX10_bestScore_t1 (hfl := hfl) (hz := hz) (D := bk σ 30) (hW := hW) (hR := hR) (hx := hx) (hw0 := g0), fun υ q => ⟨q.1, q.2.2, Inv_q (v := σ.2) h (zSame_rf _ _) q.2.1⟩⟩)
  exact simR (wL_bestScore hfl hz (Nat.le_of_ble_eq_true rfl) (Nat.le_of_ble_eq_true rfl) hx (sX9_bestScore (hfl := hfl) (hz := hz) (hW := hW) (hP1 := hP1) (hx := hx) (hw0 := g0)) (fun o τ q => Or.inl ⟨_, q.1⟩)) (fun τ e => ⟨e.1, _, sX10_bestScore (hfl := hfl) (hz := e.1) (D := bk σ 30) (hW := hW) (hR := (Rel_sj (τ := τ) e.2 (by first | omega | (dsimp only; omega)) hR)) (hx := hx) (hw0 := g0), fun υ q => ⟨q.1, q.2.2, q.2.1.1.2.2, Inv_q (v := _) h e.2 q.2.1⟩⟩) (fun q => q.elim)

set_option maxHeartbeats 1000000 in
theorem sim_bestYears {l : Launch} {w : zW} (hfl : l.stackTraces = false) {σ : zS} (hz : zOK σ) (h : Inv σ) {x : Int} (hx : zr x) : SimW l w False mL_bestYears mX10_bestYears 6 [zi x] σ := by
  have hW := h.1.1
  have hR : Rel (bk σ 30) (σ.1 262) := h.1.2.2
  have hP1 : 1 ≤ σ.1 31 0 := h.1.2.1
  have hN := h.2.2.1.1
  have hA := h.2.2.1.2.1
  have hm5 := hm5_s h (zSame_rf (fun _ => False) σ) (fun q => q)
  by_cases g0 : 0 ≤ x ∧ x < σ.1 31 0
  case neg => exact simT 0 (wL_bestYears hfl hz (Nat.le_of_ble_eq_true rfl) (Nat.le_of_ble_eq_true rfl) hx (zthr_q (sX9_bestYears_t0 (hfl := hfl) (hz := hz) (hW := hW) (hP1 := hP1) (hx := hx) (hw0 := g0))) (fun o τ q => Or.inr (q.1))) (fun j hj => by rcases j with _ | _ | _ | j <;> first | rfl | (exfalso; revert hj; simp)) (by decide) (fun τ e => by subst e; exact ⟨hz, _, sX10_bestYears_t1 (hfl := hfl) (hz := hz) (D := bk σ 30) (hW := hW) (hR := hR) (hx := hx) (hw0 := g0), fun υ q => ⟨q.1, q.2.2, Inv_q (v := σ.2) h (zSame_rf _ _) q.2.1⟩⟩)
  exact simR (wL_bestYears hfl hz (Nat.le_of_ble_eq_true rfl) (Nat.le_of_ble_eq_true rfl) hx (sX9_bestYears (hfl := hfl) (hz := hz) (hW := hW) (hP1 := hP1) (hx := hx) (hw0 := g0)) (fun o τ q => Or.inl ⟨_, q.1⟩)) (fun τ e => ⟨e.1, _, sX10_bestYears (hfl := hfl) (hz := e.1) (D := bk σ 30) (hW := hW) (hR := (Rel_sj (τ := τ) e.2 (by first | omega | (dsimp only; omega)) hR)) (hx := hx) (hw0 := g0), fun υ q => ⟨q.1, q.2.2, q.2.1.1.2.2, Inv_q (v := _) h e.2 q.2.1⟩⟩) (fun q => q.elim)

set_option maxHeartbeats 1000000 in
theorem sim_contradict {l : Launch} {w : zW} (hfl : l.stackTraces = false) {σ : zS} (hz : zOK σ) (h : Inv σ) {x : Int} (hx : zr x) {y : Int} (hy : zr y) : SimW l w True mL_contradict mX10_contradict 7 [zi x, zi y] σ := by
  have hW := h.1.1
  have hR : Rel (bk σ 30) (σ.1 262) := h.1.2.2
  have hP1 : 1 ≤ σ.1 31 0 := h.1.2.1
  have hN := h.2.2.1.1
  have hA := h.2.2.1.2.1
  have hm5 := hm5_s h (zSame_rf (fun _ => False) σ) (fun q => q)
  by_cases g0 : 0 ≤ x ∧ x < σ.1 42 0
  case neg => exact simT 0 (wL_contradict hfl hz (Nat.le_of_ble_eq_true rfl) (Nat.le_of_ble_eq_true rfl) hx hy (zthr_q (sX9_contradict_t0 (hfl := hfl) (hz := hz) (hW := hW) (hx := hx) (hy := hy) (hw0 := g0))) (fun o τ q => Or.inr (q.1))) (fun j hj => by rcases j with _ | _ | _ | j <;> first | rfl | (exfalso; revert hj; simp)) (by decide) (fun τ e => by subst e; exact ⟨hz, _, sX10_contradict_t1 (hfl := hfl) (hz := hz) (D := bk σ 30) (hW := hW) (hR := hR) (hx := hx) (hy := hy) (hw0 := (fun q => g0 q.1)), fun υ q => ⟨q.1, q.2.2, Inv_q (v := σ.2) h (zSame_rf _ _) q.2.1⟩⟩)
  by_cases g1 : 0 ≤ y ∧ y < σ.1 42 0
  case neg => exact simT 0 (wL_contradict hfl hz (Nat.le_of_ble_eq_true rfl) (Nat.le_of_ble_eq_true rfl) hx hy (zthr_q (sX9_contradict_t1 (hfl := hfl) (hz := hz) (hW := hW) (hx := hx) (hy := hy) (hw0 := g0) (hw1 := g1))) (fun o τ q => Or.inr (q.1))) (fun j hj => by rcases j with _ | _ | _ | j <;> first | rfl | (exfalso; revert hj; simp)) (by decide) (fun τ e => by subst e; exact ⟨hz, _, sX10_contradict_t1 (hfl := hfl) (hz := hz) (D := bk σ 30) (hW := hW) (hR := hR) (hx := hx) (hy := hy) (hw0 := (fun q => g1 q.2)), fun υ q => ⟨q.1, q.2.2, Inv_q (v := σ.2) h (zSame_rf _ _) q.2.1⟩⟩)
  exact simR (wL_contradict hfl hz (Nat.le_of_ble_eq_true rfl) (Nat.le_of_ble_eq_true rfl) hx hy (zret_q (sX9_contradict (hfl := hfl) (hz := hz) (hW := hW) (hx := hx) (hy := hy) (hw0 := g0) (hw1 := g1))) (fun o τ q => Or.inl ⟨_, q.1, zb_01 _⟩)) (fun τ e => by subst e; exact ⟨hz, _, sX10_contradict (hfl := hfl) (hz := hz) (D := bk σ 30) (hW := hW) (hR := hR) (hx := hx) (hy := hy) (hw0 := ⟨g0, g1⟩), fun υ q => ⟨q.1, q.2.2, q.2.1.1.2.2, Inv_q (v := _) h (zSame_rf _ _) q.2.1⟩⟩) (fun _ => zb_01 _)

set_option maxHeartbeats 1000000 in
theorem sim_contradictionsOf {l : Launch} {w : zW} (hfl : l.stackTraces = false) {σ : zS} (hz : zOK σ) (h : Inv σ) {x : Int} (hx : zr x) : SimW l w False mL_contradictionsOf mX10_contradictionsOf 7 [zi x] σ := by
  have hW := h.1.1
  have hR : Rel (bk σ 30) (σ.1 262) := h.1.2.2
  have hP1 : 1 ≤ σ.1 31 0 := h.1.2.1
  have hN := h.2.2.1.1
  have hA := h.2.2.1.2.1
  have hm5 := hm5_s h (zSame_rf (fun _ => False) σ) (fun q => q)
  by_cases g0 : 0 ≤ x ∧ x < σ.1 42 0
  case neg => exact simT 0 (wL_contradictionsOf hfl hz (Nat.le_of_ble_eq_true rfl) (Nat.le_of_ble_eq_true rfl) hx (zthr_q (sX9_contradictionsOf_t0 (hfl := hfl) (hz := hz) (hW := hW) (hx := hx) (hw0 := g0))) (fun o τ q => Or.inr (q.1))) (fun j hj => by rcases j with _ | _ | _ | j <;> first | rfl | (exfalso; revert hj; simp)) (by decide) (fun τ e => by subst e; exact ⟨hz, _, sX10_contradictionsOf_t1 (hfl := hfl) (hz := hz) (D := bk σ 30) (hW := hW) (hR := hR) (hx := hx) (hw0 := g0), fun υ q => ⟨q.1, q.2.2, Inv_q (v := σ.2) h (zSame_rf _ _) q.2.1⟩⟩)
  exact simR (wL_contradictionsOf hfl hz (Nat.le_of_ble_eq_true rfl) (Nat.le_of_ble_eq_true rfl) hx (zret_q (sX9_contradictionsOf (hfl := hfl) (hz := hz) (hW := hW) (hx := hx) (hw0 := g0))) (fun o τ q => Or.inl ⟨_, q.1⟩)) (fun τ e => by subst e; exact ⟨hz, _, sX10_contradictionsOf (hfl := hfl) (hz := hz) (D := bk σ 30) (hW := hW) (hR := hR) (hx := hx) (hw0 := g0), fun υ q => ⟨q.1, q.2.2, q.2.1.1.2.2, Inv_q (v := _) h (zSame_rf _ _) q.2.1⟩⟩) (fun q => q.elim)

set_option maxHeartbeats 1000000 in
theorem sim_printerAfter {l : Launch} {w : zW} (hfl : l.stackTraces = false) {σ : zS} (hz : zOK σ) (h : Inv σ) {x : Int} (hx : zr x) : SimW l w False mL_printerAfter mX10_printerAfter 10 [zi x] σ := by
  have hW := h.1.1
  have hR : Rel (bk σ 30) (σ.1 262) := h.1.2.2
  have hP1 : 1 ≤ σ.1 31 0 := h.1.2.1
  have hN := h.2.2.1.1
  have hA := h.2.2.1.2.1
  have hm5 := hm5_s h (zSame_rf (fun _ => False) σ) (fun q => q)
  by_cases g0 : 0 ≤ x ∧ x ≤ 40
  case neg => exact simT 0 (wL_printerAfter hfl hz (Nat.le_of_ble_eq_true rfl) (Nat.le_of_ble_eq_true rfl) hx (zthr_q (sX9_printerAfter_t0 (hfl := hfl) (hz := hz) (hW := hW) (hP1 := hP1) (hx := hx) (hw0 := g0))) (fun o τ q => Or.inr (q.1))) (fun j hj => by rcases j with _ | _ | _ | j <;> first | rfl | (exfalso; revert hj; simp)) (by decide) (fun τ e => by subst e; exact ⟨hz, _, sX10_printerAfter_t1 (hfl := hfl) (hz := hz) (D := bk σ 30) (hW := hW) (hR := hR) (hP1 := hP1) (hx := hx) (hw0 := g0), fun υ q => ⟨q.1, q.2.2, Inv_q (v := σ.2) h (zSame_rf _ _) q.2.1⟩⟩)
  exact simR (wL_printerAfter hfl hz (Nat.le_of_ble_eq_true rfl) (Nat.le_of_ble_eq_true rfl) hx (sX9_printerAfter (hfl := hfl) (hz := hz) (hW := hW) (hP1 := hP1) (hx := hx) (hw0 := g0)) (fun o τ q => Or.inl ⟨_, q.1⟩)) (fun τ e => ⟨e.1, _, sX10_printerAfter (hfl := hfl) (hz := e.1) (D := bk σ 30) (hW := hW) (hR := (Rel_sj (τ := τ) e.2 (by first | omega | (dsimp only; omega)) hR)) (hP1 := hP1) (hx := hx) (hw0 := g0), fun υ q => ⟨q.1, q.2.2, q.2.1.1.2.2, Inv_q (v := _) h e.2 q.2.1⟩⟩) (fun q => q.elim)

set_option maxHeartbeats 1000000 in
theorem sim_yearAfter {l : Launch} {w : zW} (hfl : l.stackTraces = false) {σ : zS} (hz : zOK σ) (h : Inv σ) {x : Int} (hx : zr x) : SimW l w False mL_yearAfter mX10_yearAfter 11 [zi x] σ := by
  have hW := h.1.1
  have hR : Rel (bk σ 30) (σ.1 262) := h.1.2.2
  have hP1 : 1 ≤ σ.1 31 0 := h.1.2.1
  have hN := h.2.2.1.1
  have hA := h.2.2.1.2.1
  have hm5 := hm5_s h (zSame_rf (fun _ => False) σ) (fun q => q)
  by_cases g0 : 0 ≤ x ∧ x ≤ 40
  case neg => exact simT 0 (wL_yearAfter hfl hz (Nat.le_of_ble_eq_true rfl) (Nat.le_of_ble_eq_true rfl) hx (zthr_q (sX9_yearAfter_t0 (hfl := hfl) (hz := hz) (hW := hW) (hP1 := hP1) (hx := hx) (hw0 := g0))) (fun o τ q => Or.inr (q.1))) (fun j hj => by rcases j with _ | _ | _ | j <;> first | rfl | (exfalso; revert hj; simp)) (by decide) (fun τ e => by subst e; exact ⟨hz, _, sX10_yearAfter_t1 (hfl := hfl) (hz := hz) (D := bk σ 30) (hW := hW) (hR := hR) (hP1 := hP1) (hx := hx) (hw0 := g0), fun υ q => ⟨q.1, q.2.2, Inv_q (v := σ.2) h (zSame_rf _ _) q.2.1⟩⟩)
  exact simR (wL_yearAfter hfl hz (Nat.le_of_ble_eq_true rfl) (Nat.le_of_ble_eq_true rfl) hx (sX9_yearAfter (hfl := hfl) (hz := hz) (hW := hW) (hP1 := hP1) (hx := hx) (hw0 := g0)) (fun o τ q => Or.inl ⟨_, q.1⟩)) (fun τ e => ⟨e.1, _, sX10_yearAfter (hfl := hfl) (hz := e.1) (D := bk σ 30) (hW := hW) (hR := (Rel_sj (τ := τ) e.2 (by first | omega | (dsimp only; omega)) hR)) (hP1 := hP1) (hx := hx) (hw0 := g0), fun υ q => ⟨q.1, q.2.2, q.2.1.1.2.2, Inv_q (v := _) h e.2 q.2.1⟩⟩) (fun q => q.elim)

set_option maxHeartbeats 1000000 in
theorem sim_addDeviceClue {l : Launch} {w : zW} (hfl : l.stackTraces = false) {σ : zS} (hz : zOK σ) (h : Inv σ) {pg : Int} (h1 : zr pg) {vl : Int} (h3 : zr vl) {wt : Int} (h4 : zr wt) : SimW l w False mL_addDeviceClue mX10_addDeviceClue 4 [zi pg, zi vl, zi wt] σ := by
  have hW := h.1.1
  have hR : Rel (bk σ 30) (σ.1 262) := h.1.2.2
  have hP1 : 1 ≤ σ.1 31 0 := h.1.2.1
  have hN := h.2.2.1.1
  have hA := h.2.2.1.2.1
  have hm5 := hm5_s h (zSame_rf (fun _ => False) σ) (fun q => q)
  by_cases g0 : (1 ≤ pg ∧ pg ≤ 999) ∧ (0 ≤ vl ∧ vl ≤ 31) ∧ 1 ≤ wt ∧ wt ≤ 9
  case neg => exact simT 0 (wL_addDeviceClue hfl hz (Nat.le_of_ble_eq_true rfl) (Nat.le_of_ble_eq_true rfl) h1 h3 h4 (sX9_addDeviceClue_f2 (hfl := hfl) (hz := hz) (hW := hW) (hN := hN) (hA := hA) (h1 := h1) (h3 := h3) (h4 := h4) (hw := g0)) (fun o τ q => Or.inr (Or.inl q.1))) (fun j hj => by rcases j with _ | _ | _ | j <;> first | rfl | (exfalso; revert hj; simp)) (by decide) (fun τ e => ⟨e.1, _, sX10_addDeviceClue_t1 (hfl := hfl) (hz := e.1) (D := bk σ 30) (hW := hW) (hR := (Rel_sj (τ := τ) e.2.1 (by first | omega | (dsimp only; omega)) hR)) (h1 := h1) (h3 := h3) (h4 := h4) (hw := g0), fun υ q => ⟨q.1, q.2.2, Inv_k h e.2.1 e.2.2.1 e.2.2.2 rfl q.2.1⟩⟩)
  by_cases g1 : σ.1 42 0 < 40
  case neg => exact simT 1 (wL_addDeviceClue hfl hz (Nat.le_of_ble_eq_true rfl) (Nat.le_of_ble_eq_true rfl) h1 h3 h4 (sX9_addDeviceClue_f3 (hfl := hfl) (hz := hz) (hW := hW) (hN := hN) (hA := hA) (h1 := h1) (h3 := h3) (h4 := h4) (hw := g0) (hw2 := (by omega))) (fun o τ q => Or.inr (Or.inr (q.1)))) (fun j hj => by rcases j with _ | _ | _ | j <;> first | rfl | (exfalso; revert hj; simp)) (by decide) (fun τ e => ⟨e.1, _, sX10_addDeviceClue_t2 (hfl := hfl) (hz := e.1) (D := bk σ 30) (hW := hW) (hR := (Rel_sj (τ := τ) e.2.1 (by first | omega | (dsimp only; omega)) hR)) (h1 := h1) (h3 := h3) (h4 := h4) (hw := g0) (hw2 := g1), fun υ q => ⟨q.1, q.2.2, Inv_k h e.2.1 e.2.2.1 e.2.2.2 rfl q.2.1⟩⟩)
  exact simR (wL_addDeviceClue hfl hz (Nat.le_of_ble_eq_true rfl) (Nat.le_of_ble_eq_true rfl) h1 h3 h4 (sX9_addDeviceClue (hfl := hfl) (hz := hz) (hW := hW) (hN := hN) (hA := hA) (h1 := h1) (h3 := h3) (h4 := h4) (hw := g0) (hw2 := g1)) (fun o τ q => Or.inl ⟨_, q.1⟩)) (fun τ e => ⟨e.1, _, sX10_addDeviceClue (hfl := hfl) (hz := e.1) (D := bk σ 30) (hW := hW) (hR := (Rel_sj (τ := τ) e.2.1 (by first | omega | (dsimp only; omega)) hR)) (h1 := h1) (h3 := h3) (h4 := h4) (hm5 := (hm5_s (τ := τ) h e.2.1 (by first | omega | (dsimp only; omega)))) (hw := g0) (hw2 := g1), fun υ q => ⟨q.1, q.2.2.2.2, q.2.1.2.2, Inv_p (v := _) h e.2.1 e.2.2.1 e.2.2.2.1 e.2.2.2.2.1 e.2.2.2.2.2 (by first | exact hP1 | (simp only [adB, ov, rdB, clB, lnB]; first | exact hP1 | (rw [if_neg (by omega)]; first | exact hP1 | (rw [if_neg (by omega)]; exact hP1)))) q.2.1 q.2.2.1 q.2.2.2.1⟩⟩) (fun q => q.elim)

set_option maxHeartbeats 1000000 in
theorem sim_addTypefaceClue {l : Launch} {w : zW} (hfl : l.stackTraces = false) {σ : zS} (hz : zOK σ) (h : Inv σ) {pg : Int} (h1 : zr pg) {vl : Int} (h3 : zr vl) {wt : Int} (h4 : zr wt) : SimW l w False mL_addTypefaceClue mX10_addTypefaceClue 4 [zi pg, zi vl, zi wt] σ := by
  have hW := h.1.1
  have hR : Rel (bk σ 30) (σ.1 262) := h.1.2.2
  have hP1 : 1 ≤ σ.1 31 0 := h.1.2.1
  have hN := h.2.2.1.1
  have hA := h.2.2.1.2.1
  have hm5 := hm5_s h (zSame_rf (fun _ => False) σ) (fun q => q)
  by_cases g0 : (1 ≤ pg ∧ pg ≤ 999) ∧ (0 ≤ vl ∧ vl ≤ 15) ∧ 1 ≤ wt ∧ wt ≤ 9
  case neg => exact simT 0 (wL_addTypefaceClue hfl hz (Nat.le_of_ble_eq_true rfl) (Nat.le_of_ble_eq_true rfl) h1 h3 h4 (sX9_addTypefaceClue_f2 (hfl := hfl) (hz := hz) (hW := hW) (hN := hN) (hA := hA) (h1 := h1) (h3 := h3) (h4 := h4) (hw := g0)) (fun o τ q => Or.inr (Or.inl q.1))) (fun j hj => by rcases j with _ | _ | _ | j <;> first | rfl | (exfalso; revert hj; simp)) (by decide) (fun τ e => ⟨e.1, _, sX10_addTypefaceClue_t1 (hfl := hfl) (hz := e.1) (D := bk σ 30) (hW := hW) (hR := (Rel_sj (τ := τ) e.2.1 (by first | omega | (dsimp only; omega)) hR)) (h1 := h1) (h3 := h3) (h4 := h4) (hw := g0), fun υ q => ⟨q.1, q.2.2, Inv_k h e.2.1 e.2.2.1 e.2.2.2 rfl q.2.1⟩⟩)
  by_cases g1 : σ.1 42 0 < 40
  case neg => exact simT 1 (wL_addTypefaceClue hfl hz (Nat.le_of_ble_eq_true rfl) (Nat.le_of_ble_eq_true rfl) h1 h3 h4 (sX9_addTypefaceClue_f3 (hfl := hfl) (hz := hz) (hW := hW) (hN := hN) (hA := hA) (h1 := h1) (h3 := h3) (h4 := h4) (hw := g0) (hw2 := (by omega))) (fun o τ q => Or.inr (Or.inr (q.1)))) (fun j hj => by rcases j with _ | _ | _ | j <;> first | rfl | (exfalso; revert hj; simp)) (by decide) (fun τ e => ⟨e.1, _, sX10_addTypefaceClue_t2 (hfl := hfl) (hz := e.1) (D := bk σ 30) (hW := hW) (hR := (Rel_sj (τ := τ) e.2.1 (by first | omega | (dsimp only; omega)) hR)) (h1 := h1) (h3 := h3) (h4 := h4) (hw := g0) (hw2 := g1), fun υ q => ⟨q.1, q.2.2, Inv_k h e.2.1 e.2.2.1 e.2.2.2 rfl q.2.1⟩⟩)
  exact simR (wL_addTypefaceClue hfl hz (Nat.le_of_ble_eq_true rfl) (Nat.le_of_ble_eq_true rfl) h1 h3 h4 (sX9_addTypefaceClue (hfl := hfl) (hz := hz) (hW := hW) (hN := hN) (hA := hA) (h1 := h1) (h3 := h3) (h4 := h4) (hw := g0) (hw2 := g1)) (fun o τ q => Or.inl ⟨_, q.1⟩)) (fun τ e => ⟨e.1, _, sX10_addTypefaceClue (hfl := hfl) (hz := e.1) (D := bk σ 30) (hW := hW) (hR := (Rel_sj (τ := τ) e.2.1 (by first | omega | (dsimp only; omega)) hR)) (h1 := h1) (h3 := h3) (h4 := h4) (hm5 := (hm5_s (τ := τ) h e.2.1 (by first | omega | (dsimp only; omega)))) (hw := g0) (hw2 := g1), fun υ q => ⟨q.1, q.2.2.2.2, q.2.1.2.2, Inv_p (v := _) h e.2.1 e.2.2.1 e.2.2.2.1 e.2.2.2.2.1 e.2.2.2.2.2 (by first | exact hP1 | (simp only [adB, ov, rdB, clB, lnB]; first | exact hP1 | (rw [if_neg (by omega)]; first | exact hP1 | (rw [if_neg (by omega)]; exact hP1)))) q.2.1 q.2.2.1 q.2.2.2.1⟩⟩) (fun q => q.elim)

set_option maxHeartbeats 1000000 in
theorem sim_addWatermarkClue {l : Launch} {w : zW} (hfl : l.stackTraces = false) {σ : zS} (hz : zOK σ) (h : Inv σ) {pg : Int} (h1 : zr pg) {vl : Int} (h3 : zr vl) {wt : Int} (h4 : zr wt) : SimW l w False mL_addWatermarkClue mX10_addWatermarkClue 4 [zi pg, zi vl, zi wt] σ := by
  have hW := h.1.1
  have hR : Rel (bk σ 30) (σ.1 262) := h.1.2.2
  have hP1 : 1 ≤ σ.1 31 0 := h.1.2.1
  have hN := h.2.2.1.1
  have hA := h.2.2.1.2.1
  have hm5 := hm5_s h (zSame_rf (fun _ => False) σ) (fun q => q)
  by_cases g0 : (1 ≤ pg ∧ pg ≤ 999) ∧ (0 ≤ vl ∧ vl ≤ σ.1 31 7 - 1) ∧ 1 ≤ wt ∧ wt ≤ 9
  case neg => exact simT 0 (wL_addWatermarkClue hfl hz (Nat.le_of_ble_eq_true rfl) (Nat.le_of_ble_eq_true rfl) h1 h3 h4 (sX9_addWatermarkClue_f2 (hfl := hfl) (hz := hz) (hW := hW) (hN := hN) (hA := hA) (h1 := h1) (h3 := h3) (h4 := h4) (hw := g0)) (fun o τ q => Or.inr (Or.inl q.1))) (fun j hj => by rcases j with _ | _ | _ | j <;> first | rfl | (exfalso; revert hj; simp)) (by decide) (fun τ e => ⟨e.1, _, sX10_addWatermarkClue_t1 (hfl := hfl) (hz := e.1) (D := bk σ 30) (hW := hW) (hR := (Rel_sj (τ := τ) e.2.1 (by first | omega | (dsimp only; omega)) hR)) (h1 := h1) (h3 := h3) (h4 := h4) (hw := g0), fun υ q => ⟨q.1, q.2.2, Inv_k h e.2.1 e.2.2.1 e.2.2.2 rfl q.2.1⟩⟩)
  by_cases g1 : σ.1 42 0 < 40
  case neg => exact simT 1 (wL_addWatermarkClue hfl hz (Nat.le_of_ble_eq_true rfl) (Nat.le_of_ble_eq_true rfl) h1 h3 h4 (sX9_addWatermarkClue_f3 (hfl := hfl) (hz := hz) (hW := hW) (hN := hN) (hA := hA) (h1 := h1) (h3 := h3) (h4 := h4) (hw := g0) (hw2 := (by omega))) (fun o τ q => Or.inr (Or.inr (q.1)))) (fun j hj => by rcases j with _ | _ | _ | j <;> first | rfl | (exfalso; revert hj; simp)) (by decide) (fun τ e => ⟨e.1, _, sX10_addWatermarkClue_t2 (hfl := hfl) (hz := e.1) (D := bk σ 30) (hW := hW) (hR := (Rel_sj (τ := τ) e.2.1 (by first | omega | (dsimp only; omega)) hR)) (h1 := h1) (h3 := h3) (h4 := h4) (hw := g0) (hw2 := g1), fun υ q => ⟨q.1, q.2.2, Inv_k h e.2.1 e.2.2.1 e.2.2.2 rfl q.2.1⟩⟩)
  exact simR (wL_addWatermarkClue hfl hz (Nat.le_of_ble_eq_true rfl) (Nat.le_of_ble_eq_true rfl) h1 h3 h4 (sX9_addWatermarkClue (hfl := hfl) (hz := hz) (hW := hW) (hN := hN) (hA := hA) (h1 := h1) (h3 := h3) (h4 := h4) (hw := g0) (hw2 := g1)) (fun o τ q => Or.inl ⟨_, q.1⟩)) (fun τ e => ⟨e.1, _, sX10_addWatermarkClue (hfl := hfl) (hz := e.1) (D := bk σ 30) (hW := hW) (hR := (Rel_sj (τ := τ) e.2.1 (by first | omega | (dsimp only; omega)) hR)) (h1 := h1) (h3 := h3) (h4 := h4) (hm5 := (hm5_s (τ := τ) h e.2.1 (by first | omega | (dsimp only; omega)))) (hw := g0) (hw2 := g1), fun υ q => ⟨q.1, q.2.2.2.2, q.2.1.2.2, Inv_p (v := _) h e.2.1 e.2.2.1 e.2.2.2.1 e.2.2.2.2.1 e.2.2.2.2.2 (by first | exact hP1 | (simp only [adB, ov, rdB, clB, lnB]; first | exact hP1 | (rw [if_neg (by omega)]; first | exact hP1 | (rw [if_neg (by omega)]; exact hP1)))) q.2.1 q.2.2.1 q.2.2.2.1⟩⟩) (fun q => q.elim)

set_option maxHeartbeats 1000000 in
theorem sim_addCityClue {l : Launch} {w : zW} (hfl : l.stackTraces = false) {σ : zS} (hz : zOK σ) (h : Inv σ) {pg : Int} (h1 : zr pg) {vl : Int} (h3 : zr vl) {wt : Int} (h4 : zr wt) : SimW l w False mL_addCityClue mX10_addCityClue 4 [zi pg, zi vl, zi wt] σ := by
  have hW := h.1.1
  have hR : Rel (bk σ 30) (σ.1 262) := h.1.2.2
  have hP1 : 1 ≤ σ.1 31 0 := h.1.2.1
  have hN := h.2.2.1.1
  have hA := h.2.2.1.2.1
  have hm5 := hm5_s h (zSame_rf (fun _ => False) σ) (fun q => q)
  by_cases g0 : (1 ≤ pg ∧ pg ≤ 999) ∧ (0 ≤ vl ∧ vl ≤ 9) ∧ 1 ≤ wt ∧ wt ≤ 9
  case neg => exact simT 0 (wL_addCityClue hfl hz (Nat.le_of_ble_eq_true rfl) (Nat.le_of_ble_eq_true rfl) h1 h3 h4 (sX9_addCityClue_f2 (hfl := hfl) (hz := hz) (hW := hW) (hN := hN) (hA := hA) (h1 := h1) (h3 := h3) (h4 := h4) (hw := g0)) (fun o τ q => Or.inr (Or.inl q.1))) (fun j hj => by rcases j with _ | _ | _ | j <;> first | rfl | (exfalso; revert hj; simp)) (by decide) (fun τ e => ⟨e.1, _, sX10_addCityClue_t1 (hfl := hfl) (hz := e.1) (D := bk σ 30) (hW := hW) (hR := (Rel_sj (τ := τ) e.2.1 (by first | omega | (dsimp only; omega)) hR)) (h1 := h1) (h3 := h3) (h4 := h4) (hw := g0), fun υ q => ⟨q.1, q.2.2, Inv_k h e.2.1 e.2.2.1 e.2.2.2 rfl q.2.1⟩⟩)
  by_cases g1 : σ.1 42 0 < 40
  case neg => exact simT 1 (wL_addCityClue hfl hz (Nat.le_of_ble_eq_true rfl) (Nat.le_of_ble_eq_true rfl) h1 h3 h4 (sX9_addCityClue_f3 (hfl := hfl) (hz := hz) (hW := hW) (hN := hN) (hA := hA) (h1 := h1) (h3 := h3) (h4 := h4) (hw := g0) (hw2 := (by omega))) (fun o τ q => Or.inr (Or.inr (q.1)))) (fun j hj => by rcases j with _ | _ | _ | j <;> first | rfl | (exfalso; revert hj; simp)) (by decide) (fun τ e => ⟨e.1, _, sX10_addCityClue_t2 (hfl := hfl) (hz := e.1) (D := bk σ 30) (hW := hW) (hR := (Rel_sj (τ := τ) e.2.1 (by first | omega | (dsimp only; omega)) hR)) (h1 := h1) (h3 := h3) (h4 := h4) (hw := g0) (hw2 := g1), fun υ q => ⟨q.1, q.2.2, Inv_k h e.2.1 e.2.2.1 e.2.2.2 rfl q.2.1⟩⟩)
  exact simR (wL_addCityClue hfl hz (Nat.le_of_ble_eq_true rfl) (Nat.le_of_ble_eq_true rfl) h1 h3 h4 (sX9_addCityClue (hfl := hfl) (hz := hz) (hW := hW) (hN := hN) (hA := hA) (h1 := h1) (h3 := h3) (h4 := h4) (hw := g0) (hw2 := g1)) (fun o τ q => Or.inl ⟨_, q.1⟩)) (fun τ e => ⟨e.1, _, sX10_addCityClue (hfl := hfl) (hz := e.1) (D := bk σ 30) (hW := hW) (hR := (Rel_sj (τ := τ) e.2.1 (by first | omega | (dsimp only; omega)) hR)) (h1 := h1) (h3 := h3) (h4 := h4) (hm5 := (hm5_s (τ := τ) h e.2.1 (by first | omega | (dsimp only; omega)))) (hw := g0) (hw2 := g1), fun υ q => ⟨q.1, q.2.2.2.2, q.2.1.2.2, Inv_p (v := _) h e.2.1 e.2.2.1 e.2.2.2.1 e.2.2.2.2.1 e.2.2.2.2.2 (by first | exact hP1 | (simp only [adB, ov, rdB, clB, lnB]; first | exact hP1 | (rw [if_neg (by omega)]; first | exact hP1 | (rw [if_neg (by omega)]; exact hP1)))) q.2.1 q.2.2.1 q.2.2.2.1⟩⟩) (fun q => q.elim)

set_option maxHeartbeats 1000000 in
theorem sim_addDateClue {l : Launch} {w : zW} (hfl : l.stackTraces = false) {σ : zS} (hz : zOK σ) (h : Inv σ) {pg : Int} (h1 : zr pg) {vl : Int} (h3 : zr vl) {wt : Int} (h4 : zr wt) : SimW l w False mL_addDateClue mX10_addDateClue 4 [zi pg, zi vl, zi wt] σ := by
  have hW := h.1.1
  have hR : Rel (bk σ 30) (σ.1 262) := h.1.2.2
  have hP1 : 1 ≤ σ.1 31 0 := h.1.2.1
  have hN := h.2.2.1.1
  have hA := h.2.2.1.2.1
  have hm5 := hm5_s h (zSame_rf (fun _ => False) σ) (fun q => q)
  by_cases g0 : (1 ≤ pg ∧ pg ≤ 999) ∧ (1450 ≤ vl ∧ vl ≤ 1999) ∧ 1 ≤ wt ∧ wt ≤ 9
  case neg => exact simT 0 (wL_addDateClue hfl hz (Nat.le_of_ble_eq_true rfl) (Nat.le_of_ble_eq_true rfl) h1 h3 h4 (sX9_addDateClue_f2 (hfl := hfl) (hz := hz) (hW := hW) (hN := hN) (hA := hA) (h1 := h1) (h3 := h3) (h4 := h4) (hw := g0)) (fun o τ q => Or.inr (Or.inl q.1))) (fun j hj => by rcases j with _ | _ | _ | j <;> first | rfl | (exfalso; revert hj; simp)) (by decide) (fun τ e => ⟨e.1, _, sX10_addDateClue_t1 (hfl := hfl) (hz := e.1) (D := bk σ 30) (hW := hW) (hR := (Rel_sj (τ := τ) e.2.1 (by first | omega | (dsimp only; omega)) hR)) (h1 := h1) (h3 := h3) (h4 := h4) (hw := g0), fun υ q => ⟨q.1, q.2.2, Inv_k h e.2.1 e.2.2.1 e.2.2.2 rfl q.2.1⟩⟩)
  by_cases g1 : σ.1 42 0 < 40
  case neg => exact simT 1 (wL_addDateClue hfl hz (Nat.le_of_ble_eq_true rfl) (Nat.le_of_ble_eq_true rfl) h1 h3 h4 (sX9_addDateClue_f3 (hfl := hfl) (hz := hz) (hW := hW) (hN := hN) (hA := hA) (h1 := h1) (h3 := h3) (h4 := h4) (hw := g0) (hw2 := (by omega))) (fun o τ q => Or.inr (Or.inr (q.1)))) (fun j hj => by rcases j with _ | _ | _ | j <;> first | rfl | (exfalso; revert hj; simp)) (by decide) (fun τ e => ⟨e.1, _, sX10_addDateClue_t2 (hfl := hfl) (hz := e.1) (D := bk σ 30) (hW := hW) (hR := (Rel_sj (τ := τ) e.2.1 (by first | omega | (dsimp only; omega)) hR)) (h1 := h1) (h3 := h3) (h4 := h4) (hw := g0) (hw2 := g1), fun υ q => ⟨q.1, q.2.2, Inv_k h e.2.1 e.2.2.1 e.2.2.2 rfl q.2.1⟩⟩)
  exact simR (wL_addDateClue hfl hz (Nat.le_of_ble_eq_true rfl) (Nat.le_of_ble_eq_true rfl) h1 h3 h4 (sX9_addDateClue (hfl := hfl) (hz := hz) (hW := hW) (hN := hN) (hA := hA) (h1 := h1) (h3 := h3) (h4 := h4) (hw := g0) (hw2 := g1)) (fun o τ q => Or.inl ⟨_, q.1⟩)) (fun τ e => ⟨e.1, _, sX10_addDateClue (hfl := hfl) (hz := e.1) (D := bk σ 30) (hW := hW) (hR := (Rel_sj (τ := τ) e.2.1 (by first | omega | (dsimp only; omega)) hR)) (h1 := h1) (h3 := h3) (h4 := h4) (hm5 := (hm5_s (τ := τ) h e.2.1 (by first | omega | (dsimp only; omega)))) (hw := g0) (hw2 := g1), fun υ q => ⟨q.1, q.2.2.2.2, q.2.1.2.2, Inv_p (v := _) h e.2.1 e.2.2.1 e.2.2.2.1 e.2.2.2.2.1 e.2.2.2.2.2 (by first | exact hP1 | (simp only [adB, ov, rdB, clB, lnB]; first | exact hP1 | (rw [if_neg (by omega)]; first | exact hP1 | (rw [if_neg (by omega)]; exact hP1)))) q.2.1 q.2.2.1 q.2.2.2.1⟩⟩) (fun q => q.elim)

set_option maxHeartbeats 1000000 in
theorem sim_read {l : Launch} {w : zW} (hfl : l.stackTraces = false) {σ : zS} (hz : zOK σ) (h : Inv σ) {x : Int} (hx : zr x) : SimW l w False mL_read mX10_read 5 [zi x] σ := by
  have hW := h.1.1
  have hR : Rel (bk σ 30) (σ.1 262) := h.1.2.2
  have hP1 : 1 ≤ σ.1 31 0 := h.1.2.1
  have hN := h.2.2.1.1
  have hA := h.2.2.1.2.1
  have hm5 := hm5_s h (zSame_rf (fun _ => False) σ) (fun q => q)
  by_cases g0 : 1 ≤ x ∧ x ≤ 40
  case neg => exact simT 0 (wL_read hfl hz (Nat.le_of_ble_eq_true rfl) (Nat.le_of_ble_eq_true rfl) hx (sX9_read_f1 (hfl := hfl) (hz := hz) (hW := hW) (hN := hN) (hA := hA) (hx := hx) (hw := g0)) (fun o τ q => Or.inr (q.1))) (fun j hj => by rcases j with _ | _ | _ | j <;> first | rfl | (exfalso; revert hj; simp)) (by decide) (fun τ e => ⟨e.1, _, sX10_read_t1 (hfl := hfl) (hz := e.1) (D := bk σ 30) (hW := hW) (hR := (Rel_sj (τ := τ) e.2.1 (by first | omega | (dsimp only; omega)) hR)) (hx := hx) (hw := g0), fun υ q => ⟨q.1, q.2.2, Inv_k h e.2.1 e.2.2.1 e.2.2.2 rfl q.2.1⟩⟩)
  exact simR (wL_read hfl hz (Nat.le_of_ble_eq_true rfl) (Nat.le_of_ble_eq_true rfl) hx (sX9_read (hfl := hfl) (hz := hz) (hW := hW) (hN := hN) (hA := hA) (hw := g0)) (fun o τ q => Or.inl ⟨_, q.1⟩)) (fun τ e => ⟨e.1, _, sX10_read (hfl := hfl) (hz := e.1) (D := bk σ 30) (hW := hW) (hR := (Rel_sj (τ := τ) e.2.1 (by first | omega | (dsimp only; omega)) hR)) (hx := hx) (hm5 := (hm5_s (τ := τ) h e.2.1 (by first | omega | (dsimp only; omega)))) (hw := g0), fun υ q => ⟨q.1, q.2.2.2.2, q.2.1.2.2, Inv_p (v := _) h e.2.1 e.2.2.1 e.2.2.2.1 e.2.2.2.2.1 e.2.2.2.2.2 (by first | exact hP1 | (simp only [adB, ov, rdB, clB, lnB]; first | exact hP1 | (rw [if_neg (by omega)]; first | exact hP1 | (rw [if_neg (by omega)]; exact hP1)))) q.2.1 q.2.2.1 q.2.2.2.1⟩⟩) (fun q => q.elim)

set_option maxHeartbeats 1000000 in
theorem sim_setAside {l : Launch} {w : zW} (hfl : l.stackTraces = false) {σ : zS} (hz : zOK σ) (h : Inv σ) {x : Int} (hx : zr x) : SimW l w False mL_setAside mX10_setAside 13 [zi x] σ := by
  have hW := h.1.1
  have hR : Rel (bk σ 30) (σ.1 262) := h.1.2.2
  have hP1 : 1 ≤ σ.1 31 0 := h.1.2.1
  have hN := h.2.2.1.1
  have hA := h.2.2.1.2.1
  have hm5 := hm5_s h (zSame_rf (fun _ => False) σ) (fun q => q)
  by_cases g0 : 0 ≤ x ∧ x < σ.1 42 0
  case neg => exact simT 0 (wL_setAside hfl hz (Nat.le_of_ble_eq_true rfl) (Nat.le_of_ble_eq_true rfl) hx (sX9_setAside_f1 (hfl := hfl) (hz := hz) (hW := hW) (hN := hN) (hA := hA) (hx := hx) (hw := g0)) (fun o τ q => Or.inr (Or.inl q.1))) (fun j hj => by rcases j with _ | _ | _ | j <;> first | rfl | (exfalso; revert hj; simp)) (by decide) (fun τ e => ⟨e.1, _, sX10_setAside_t1 (hfl := hfl) (hz := e.1) (D := bk σ 30) (hW := hW) (hR := (Rel_sj (τ := τ) e.2.1 (by first | omega | (dsimp only; omega)) hR)) (hx := hx) (hw := g0), fun υ q => ⟨q.1, q.2.2, Inv_k h e.2.1 e.2.2.1 e.2.2.2 rfl q.2.1⟩⟩)
  by_cases g1 : σ.1 48 x.toNat = 0
  case neg => exact simT 1 (wL_setAside hfl hz (Nat.le_of_ble_eq_true rfl) (Nat.le_of_ble_eq_true rfl) hx (sX9_setAside_f2 (hfl := hfl) (hz := hz) (hW := hW) (hN := hN) (hA := hA) (hx := hx) (hw := g0) (hw2 := g1)) (fun o τ q => Or.inr (Or.inr (q.1)))) (fun j hj => by rcases j with _ | _ | _ | j <;> first | rfl | (exfalso; revert hj; simp)) (by decide) (fun τ e => ⟨e.1, _, sX10_setAside_t2 (hfl := hfl) (hz := e.1) (D := bk σ 30) (hW := hW) (hR := (Rel_sj (τ := τ) e.2.1 (by first | omega | (dsimp only; omega)) hR)) (hx := hx) (hw := g0) (hw2 := g1), fun υ q => ⟨q.1, q.2.2, Inv_k h e.2.1 e.2.2.1 e.2.2.2 rfl q.2.1⟩⟩)
  exact simR (wL_setAside hfl hz (Nat.le_of_ble_eq_true rfl) (Nat.le_of_ble_eq_true rfl) hx (sX9_setAside (hfl := hfl) (hz := hz) (hW := hW) (hP1 := hP1) (hN := hN) (hA := hA) (hx := hx) (hw := g0) (hw2 := (fun q => q g1))) (fun o τ q => Or.inl ⟨_, q.1⟩)) (fun τ e => ⟨e.1, _, sX10_setAside (hfl := hfl) (hz := e.1) (D := bk σ 30) (hW := hW) (hR := (Rel_sj (τ := τ) e.2.1 (by first | omega | (dsimp only; omega)) hR)) (hx := hx) (hP1 := hP1) (hm5 := (hm5_s (τ := τ) h e.2.1 (by first | omega | (dsimp only; omega)))) (hw := g0) (hw2 := g1), fun υ q => ⟨q.1, q.2.2.2.2, q.2.1.2.2, Inv_p (v := _) h e.2.1 e.2.2.1 e.2.2.2.1 e.2.2.2.2.1 e.2.2.2.2.2 (by first | exact hP1 | (simp only [adB, ov, rdB, clB, lnB]; first | exact hP1 | (rw [if_neg (by omega)]; first | exact hP1 | (rw [if_neg (by omega)]; exact hP1)))) q.2.1 q.2.2.1 q.2.2.2.1⟩⟩) (fun q => q.elim)

set_option maxHeartbeats 1000000 in
theorem sim_takeBack {l : Launch} {w : zW} (hfl : l.stackTraces = false) {σ : zS} (hz : zOK σ) (h : Inv σ) {x : Int} (hx : zr x) : SimW l w False mL_takeBack mX10_takeBack 13 [zi x] σ := by
  have hW := h.1.1
  have hR : Rel (bk σ 30) (σ.1 262) := h.1.2.2
  have hP1 : 1 ≤ σ.1 31 0 := h.1.2.1
  have hN := h.2.2.1.1
  have hA := h.2.2.1.2.1
  have hm5 := hm5_s h (zSame_rf (fun _ => False) σ) (fun q => q)
  by_cases g0 : 0 ≤ x ∧ x < σ.1 42 0
  case neg => exact simT 0 (wL_takeBack hfl hz (Nat.le_of_ble_eq_true rfl) (Nat.le_of_ble_eq_true rfl) hx (sX9_takeBack_f1 (hfl := hfl) (hz := hz) (hW := hW) (hN := hN) (hA := hA) (hx := hx) (hw := g0)) (fun o τ q => Or.inr (Or.inl q.1))) (fun j hj => by rcases j with _ | _ | _ | j <;> first | rfl | (exfalso; revert hj; simp)) (by decide) (fun τ e => ⟨e.1, _, sX10_takeBack_t1 (hfl := hfl) (hz := e.1) (D := bk σ 30) (hW := hW) (hR := (Rel_sj (τ := τ) e.2.1 (by first | omega | (dsimp only; omega)) hR)) (hx := hx) (hw := g0), fun υ q => ⟨q.1, q.2.2, Inv_k h e.2.1 e.2.2.1 e.2.2.2 rfl q.2.1⟩⟩)
  have hb01 := bit18 hW g0
  by_cases g1 : σ.1 48 x.toNat = 1
  case neg => exact simT 1 (wL_takeBack hfl hz (Nat.le_of_ble_eq_true rfl) (Nat.le_of_ble_eq_true rfl) hx (sX9_takeBack_f2 (hfl := hfl) (hz := hz) (hW := hW) (hN := hN) (hA := hA) (hx := hx) (hw := g0) (hw2 := (hb01.resolve_right g1))) (fun o τ q => Or.inr (Or.inr (q.1)))) (fun j hj => by rcases j with _ | _ | _ | j <;> first | rfl | (exfalso; revert hj; simp)) (by decide) (fun τ e => ⟨e.1, _, sX10_takeBack_t2 (hfl := hfl) (hz := e.1) (D := bk σ 30) (hW := hW) (hR := (Rel_sj (τ := τ) e.2.1 (by first | omega | (dsimp only; omega)) hR)) (hx := hx) (hw := g0) (hw2 := g1), fun υ q => ⟨q.1, q.2.2, Inv_k h e.2.1 e.2.2.1 e.2.2.2 rfl q.2.1⟩⟩)
  exact simR (wL_takeBack hfl hz (Nat.le_of_ble_eq_true rfl) (Nat.le_of_ble_eq_true rfl) hx (sX9_takeBack (hfl := hfl) (hz := hz) (hW := hW) (hP1 := hP1) (hN := hN) (hA := hA) (hx := hx) (hw := g0) (hw2 := (fun q => by omega))) (fun o τ q => Or.inl ⟨_, q.1⟩)) (fun τ e => ⟨e.1, _, sX10_takeBack (hfl := hfl) (hz := e.1) (D := bk σ 30) (hW := hW) (hR := (Rel_sj (τ := τ) e.2.1 (by first | omega | (dsimp only; omega)) hR)) (hx := hx) (hP1 := hP1) (hm5 := (hm5_s (τ := τ) h e.2.1 (by first | omega | (dsimp only; omega)))) (hw := g0) (hw2 := g1), fun υ q => ⟨q.1, q.2.2.2.2, q.2.1.2.2, Inv_p (v := _) h e.2.1 e.2.2.1 e.2.2.2.1 e.2.2.2.2.1 e.2.2.2.2.2 (by first | exact hP1 | (simp only [adB, ov, rdB, clB, lnB]; first | exact hP1 | (rw [if_neg (by omega)]; first | exact hP1 | (rw [if_neg (by omega)]; exact hP1)))) q.2.1 q.2.2.1 q.2.2.2.1⟩⟩) (fun q => q.elim)

set_option maxHeartbeats 1000000 in
theorem sim_setWeight {l : Launch} {w : zW} (hfl : l.stackTraces = false) {σ : zS} (hz : zOK σ) (h : Inv σ) {x : Int} (hx : zr x) {y : Int} (hy : zr y) : SimW l w False mL_setWeight mX10_setWeight 3 [zi x, zi y] σ := by
  have hW := h.1.1
  have hR : Rel (bk σ 30) (σ.1 262) := h.1.2.2
  have hP1 : 1 ≤ σ.1 31 0 := h.1.2.1
  have hN := h.2.2.1.1
  have hA := h.2.2.1.2.1
  have hm5 := hm5_s h (zSame_rf (fun _ => False) σ) (fun q => q)
  by_cases g0 : 0 ≤ x ∧ x < σ.1 42 0
  case neg => exact simT 0 (wL_setWeight hfl hz (Nat.le_of_ble_eq_true rfl) (Nat.le_of_ble_eq_true rfl) hx hy (zthr_q (sX9_setWeight_f1 (hfl := hfl) (hz := hz) (hW := hW) (hx := hx) (hy := hy) (hw := g0))) (fun o τ q => Or.inr (Or.inl q.1))) (fun j hj => by rcases j with _ | _ | _ | j <;> first | rfl | (exfalso; revert hj; simp)) (by decide) (fun τ e => by subst e; exact ⟨hz, _, sX10_setWeight_t1 (hfl := hfl) (hz := hz) (D := bk σ 30) (hW := hW) (hR := hR) (hx := hx) (hy := hy) (hw := g0), fun υ q => ⟨q.1, q.2.2, Inv_q (v := σ.2) h (zSame_rf _ _) q.2.1⟩⟩)
  by_cases g1 : 1 ≤ y ∧ y ≤ 9
  case neg => exact simT 1 (wL_setWeight hfl hz (Nat.le_of_ble_eq_true rfl) (Nat.le_of_ble_eq_true rfl) hx hy (sX9_setWeight_f2 (hfl := hfl) (hz := hz) (hW := hW) (hN := hN) (hA := hA) (hx := hx) (hy := hy) (hw := g0) (hw2 := g1)) (fun o τ q => Or.inr (Or.inr (q.1)))) (fun j hj => by rcases j with _ | _ | _ | j <;> first | rfl | (exfalso; revert hj; simp)) (by decide) (fun τ e => ⟨e.1, _, sX10_setWeight_t2 (hfl := hfl) (hz := e.1) (D := bk σ 30) (hW := hW) (hR := (Rel_sj (τ := τ) e.2.1 (by first | omega | (dsimp only; omega)) hR)) (hx := hx) (hy := hy) (hw := g0) (hw2 := g1), fun υ q => ⟨q.1, q.2.2, Inv_k h e.2.1 e.2.2.1 e.2.2.2 rfl q.2.1⟩⟩)
  exact simR (wL_setWeight hfl hz (Nat.le_of_ble_eq_true rfl) (Nat.le_of_ble_eq_true rfl) hx hy (sX9_setWeight (hfl := hfl) (hz := hz) (hW := hW) (hN := hN) (hA := hA) (hx := hx) (hy := hy) (hw := g0) (hw2 := g1)) (fun o τ q => Or.inl ⟨_, q.1⟩)) (fun τ e => ⟨e.1, _, sX10_setWeight (hfl := hfl) (hz := e.1) (D := bk σ 30) (hW := hW) (hR := (Rel_sj (τ := τ) e.2.1 (by first | omega | (dsimp only; omega)) hR)) (hx := hx) (hy := hy) (hm5 := (hm5_s (τ := τ) h e.2.1 (by first | omega | (dsimp only; omega)))) (hw := g0) (hw2 := g1), fun υ q => ⟨q.1, q.2.2.2.2, q.2.1.2.2, Inv_p (v := _) h e.2.1 e.2.2.1 e.2.2.2.1 e.2.2.2.2.1 e.2.2.2.2.2 (by first | exact hP1 | (simp only [adB, ov, rdB, clB, lnB]; first | exact hP1 | (rw [if_neg (by omega)]; first | exact hP1 | (rw [if_neg (by omega)]; exact hP1)))) q.2.1 q.2.2.1 q.2.2.2.1⟩⟩) (fun q => q.elim)

set_option maxHeartbeats 1000000 in
theorem sim_transferDevice {l : Launch} {w : zW} (hfl : l.stackTraces = false) {σ : zS} (hz : zOK σ) (h : Inv σ) {x : Int} (hx : zr x) {y : Int} (hy : zr y) {u : Int} (hu : zr u) : SimW l w False mL_transferDevice mX10_transferDevice 5 [zi x, zi y, zi u] σ := by
  have hW := h.1.1
  have hR : Rel (bk σ 30) (σ.1 262) := h.1.2.2
  have hP1 : 1 ≤ σ.1 31 0 := h.1.2.1
  have hN := h.2.2.1.1
  have hA := h.2.2.1.2.1
  have hm5 := hm5_s h (zSame_rf (fun _ => False) σ) (fun q => q)
  by_cases g0 : (0 ≤ x ∧ x < σ.1 31 0) ∧ 0 ≤ y ∧ y < σ.1 31 0
  case neg => exact simT 0 (wL_transferDevice hfl hz (Nat.le_of_ble_eq_true rfl) (Nat.le_of_ble_eq_true rfl) hx hy hu (sX9_transferDevice_f1 (hfl := hfl) (hz := hz) (hW := hW) (hN := hN) (hA := hA) (hx := hx) (hy := hy) (hu := hu) (hw := g0)) (fun o τ q => Or.inr (Or.inl q.1))) (fun j hj => by rcases j with _ | _ | _ | j <;> first | rfl | (exfalso; revert hj; simp)) (by decide) (fun τ e => ⟨e.1, _, sX10_transferDevice_t1 (hfl := hfl) (hz := e.1) (D := bk σ 30) (hW := hW) (hR := (Rel_sj (τ := τ) e.2.1 (by first | omega | (dsimp only; omega)) hR)) (hx := hx) (hy := hy) (hu := hu) (hw := g0), fun υ q => ⟨q.1, q.2.2, Inv_k h e.2.1 e.2.2.1 e.2.2.2 rfl q.2.1⟩⟩)
  by_cases g1 : ¬ x = y
  case neg => exact simT 1 (wL_transferDevice hfl hz (Nat.le_of_ble_eq_true rfl) (Nat.le_of_ble_eq_true rfl) hx hy hu (sX9_transferDevice_f2 (hfl := hfl) (hz := hz) (hW := hW) (hN := hN) (hA := hA) (hx := hx) (hy := hy) (hu := hu) (hw := g0) (hw2 := (Classical.not_not.mp g1))) (fun o τ q => Or.inr (Or.inr (Or.inl q.1)))) (fun j hj => by rcases j with _ | _ | _ | j <;> first | rfl | (exfalso; revert hj; simp)) (by decide) (fun τ e => ⟨e.1, _, sX10_transferDevice_t2 (hfl := hfl) (hz := e.1) (D := bk σ 30) (hW := hW) (hR := (Rel_sj (τ := τ) e.2.1 (by first | omega | (dsimp only; omega)) hR)) (hx := hx) (hy := hy) (hu := hu) (hw := g0) (hw2 := (Classical.not_not.mp g1)), fun υ q => ⟨q.1, q.2.2, Inv_k h e.2.1 e.2.2.1 e.2.2.2 rfl q.2.1⟩⟩)
  by_cases g2 : hasDev (bk σ 30) x.toNat u
  case neg => exact simT 2 (wL_transferDevice hfl hz (Nat.le_of_ble_eq_true rfl) (Nat.le_of_ble_eq_true rfl) hx hy hu (sX9_transferDevice_f3 (hfl := hfl) (hz := hz) (hW := hW) (hN := hN) (hA := hA) (hx := hx) (hy := hy) (hu := hu) (hw := g0) (hw2 := g1) (hw3 := g2)) (fun o τ q => Or.inr (Or.inr (Or.inr (q.1))))) (fun j hj => by rcases j with _ | _ | _ | j <;> first | rfl | (exfalso; revert hj; simp)) (by decide) (fun τ e => ⟨e.1, _, sX10_transferDevice_t3 (hfl := hfl) (hz := e.1) (D := bk σ 30) (hW := hW) (hR := (Rel_sj (τ := τ) e.2.1 (by first | omega | (dsimp only; omega)) hR)) (hx := hx) (hy := hy) (hu := hu) (hw := g0) (hw2 := g1) (hw3 := g2), fun υ q => ⟨q.1, q.2.2, Inv_k h e.2.1 e.2.2.1 e.2.2.2 rfl q.2.1⟩⟩)
  exact simR (wL_transferDevice hfl hz (Nat.le_of_ble_eq_true rfl) (Nat.le_of_ble_eq_true rfl) hx hy hu (sX9_transferDevice (hfl := hfl) (hz := hz) (hW := hW) (hN := hN) (hA := hA) (hx := hx) (hy := hy) (hu := hu) (hw := g0) (hw2 := g1) (hw3 := g2)) (fun o τ q => Or.inl ⟨_, q.1⟩)) (fun τ e => ⟨e.1, _, sX10_transferDevice (hfl := hfl) (hz := e.1) (D := bk σ 30) (hW := hW) (hR := (Rel_sj (τ := τ) e.2.1 (by first | omega | (dsimp only; omega)) hR)) (hx := hx) (hy := hy) (hu := hu) (hm5 := (hm5_s (τ := τ) h e.2.1 (by first | omega | (dsimp only; omega)))) (hw := g0) (hw2 := g1) (hw3 := g2), fun υ q => ⟨q.1, q.2.2.2.2, q.2.1.2.2, Inv_p (v := _) h e.2.1 e.2.2.1 e.2.2.2.1 e.2.2.2.2.1 e.2.2.2.2.2 (by first | exact hP1 | (simp only [adB, ov, rdB, clB, lnB]; first | exact hP1 | (rw [if_neg (by omega)]; first | exact hP1 | (rw [if_neg (by omega)]; exact hP1)))) q.2.1 q.2.2.1 q.2.2.2.1⟩⟩) (fun q => q.elim)

set_option maxHeartbeats 1000000 in
theorem sim_printerCount {l : Launch} {w : zW} (hfl : l.stackTraces = false) {σ : zS} (hz : zOK σ) (h : Inv σ)  : SimD l w mX9_printerCount mX10_printerCount 0 1 [] σ := by
  have hW := h.1.1
  have hR : Rel (bk σ 30) (σ.1 262) := h.1.2.2
  have hP1 : 1 ≤ σ.1 31 0 := h.1.2.1
  have hN := h.2.2.1.1
  have hA := h.2.2.1.2.1
  have hm5 := hm5_s h (zSame_rf (fun _ => False) σ) (fun q => q)
  exact simD (zret_q (sX9_printerCount (hfl := hfl) (hz := hz) (hW := hW))) (fun τ e => by subst e; exact ⟨hz, _, sX10_printerCount (hfl := hfl) (hz := hz) (D := bk σ 30) (hW := hW) (hR := hR), fun υ q => ⟨q.1, Inv_q (v := σ.2) h (zSame_rf _ _) q.2.1⟩⟩)

set_option maxHeartbeats 1000000 in
theorem sim_watermarkCount {l : Launch} {w : zW} (hfl : l.stackTraces = false) {σ : zS} (hz : zOK σ) (h : Inv σ)  : SimD l w mX9_watermarkCount mX10_watermarkCount 0 1 [] σ := by
  have hW := h.1.1
  have hR : Rel (bk σ 30) (σ.1 262) := h.1.2.2
  have hP1 : 1 ≤ σ.1 31 0 := h.1.2.1
  have hN := h.2.2.1.1
  have hA := h.2.2.1.2.1
  have hm5 := hm5_s h (zSame_rf (fun _ => False) σ) (fun q => q)
  exact simD (zret_q (sX9_watermarkCount (hfl := hfl) (hz := hz) (hW := hW))) (fun τ e => by subst e; exact ⟨hz, _, sX10_watermarkCount (hfl := hfl) (hz := hz) (D := bk σ 30) (hW := hW) (hR := hR), fun υ q => ⟨q.1, Inv_q (v := σ.2) h (zSame_rf _ _) q.2.1⟩⟩)

set_option maxHeartbeats 1000000 in
theorem sim_editionCount {l : Launch} {w : zW} (hfl : l.stackTraces = false) {σ : zS} (hz : zOK σ) (h : Inv σ)  : SimD l w mX9_editionCount mX10_editionCount 0 1 [] σ := by
  have hW := h.1.1
  have hR : Rel (bk σ 30) (σ.1 262) := h.1.2.2
  have hP1 : 1 ≤ σ.1 31 0 := h.1.2.1
  have hN := h.2.2.1.1
  have hA := h.2.2.1.2.1
  have hm5 := hm5_s h (zSame_rf (fun _ => False) σ) (fun q => q)
  exact simD (zret_q (sX9_editionCount (hfl := hfl) (hz := hz) (hW := hW))) (fun τ e => by subst e; exact ⟨hz, _, sX10_editionCount (hfl := hfl) (hz := hz) (D := bk σ 30) (hW := hW) (hR := hR), fun υ q => ⟨q.1, Inv_q (v := σ.2) h (zSame_rf _ _) q.2.1⟩⟩)

set_option maxHeartbeats 1000000 in
theorem sim_clueCount {l : Launch} {w : zW} (hfl : l.stackTraces = false) {σ : zS} (hz : zOK σ) (h : Inv σ)  : SimD l w mX9_clueCount mX10_clueCount 0 1 [] σ := by
  have hW := h.1.1
  have hR : Rel (bk σ 30) (σ.1 262) := h.1.2.2
  have hP1 : 1 ≤ σ.1 31 0 := h.1.2.1
  have hN := h.2.2.1.1
  have hA := h.2.2.1.2.1
  have hm5 := hm5_s h (zSame_rf (fun _ => False) σ) (fun q => q)
  exact simD (zret_q (sX9_clueCount (hfl := hfl) (hz := hz) (hW := hW))) (fun τ e => by subst e; exact ⟨hz, _, sX10_clueCount (hfl := hfl) (hz := hz) (D := bk σ 30) (hW := hW) (hR := hR), fun υ q => ⟨q.1, Inv_q (v := σ.2) h (zSame_rf _ _) q.2.1⟩⟩)

set_option maxHeartbeats 1000000 in
theorem sim_nextClue {l : Launch} {w : zW} (hfl : l.stackTraces = false) {σ : zS} (hz : zOK σ) (h : Inv σ)  : SimD l w mX9_nextClue mX10_nextClue 3 3 [] σ := by
  have hW := h.1.1
  have hR : Rel (bk σ 30) (σ.1 262) := h.1.2.2
  have hP1 : 1 ≤ σ.1 31 0 := h.1.2.1
  have hN := h.2.2.1.1
  have hA := h.2.2.1.2.1
  have hm5 := hm5_s h (zSame_rf (fun _ => False) σ) (fun q => q)
  exact simD (zret_q (sX9_nextClue (hfl := hfl) (hz := hz) (hW := hW))) (fun τ e => by subst e; exact ⟨hz, _, sX10_nextClue (hfl := hfl) (hz := hz) (D := bk σ 30) (hW := hW) (hR := hR), fun υ q => ⟨q.1, Inv_q (v := σ.2) h (zSame_rf _ _) q.2.1⟩⟩)

set_option maxHeartbeats 1000000 in
theorem sim_countingWeight {l : Launch} {w : zW} (hfl : l.stackTraces = false) {σ : zS} (hz : zOK σ) (h : Inv σ)  : SimD l w mX9_countingWeight mX10_countingWeight 2 3 [] σ := by
  have hW := h.1.1
  have hR : Rel (bk σ 30) (σ.1 262) := h.1.2.2
  have hP1 : 1 ≤ σ.1 31 0 := h.1.2.1
  have hN := h.2.2.1.1
  have hA := h.2.2.1.2.1
  have hm5 := hm5_s h (zSame_rf (fun _ => False) σ) (fun q => q)
  exact simD (zret_q (sX9_countingWeight (hfl := hfl) (hz := hz) (hW := hW))) (fun τ e => by subst e; exact ⟨hz, _, sX10_countingWeight (hfl := hfl) (hz := hz) (D := bk σ 30) (hW := hW) (hR := hR), fun υ q => ⟨q.1, Inv_q (v := σ.2) h (zSame_rf _ _) q.2.1⟩⟩)

set_option maxHeartbeats 1000000 in
theorem sim_verdictPrinter {l : Launch} {w : zW} (hfl : l.stackTraces = false) {σ : zS} (hz : zOK σ) (h : Inv σ)  : SimD l w mX9_verdictPrinter mX10_verdictPrinter 6 10 [] σ := by
  have hW := h.1.1
  have hR : Rel (bk σ 30) (σ.1 262) := h.1.2.2
  have hP1 : 1 ≤ σ.1 31 0 := h.1.2.1
  have hN := h.2.2.1.1
  have hA := h.2.2.1.2.1
  have hm5 := hm5_s h (zSame_rf (fun _ => False) σ) (fun q => q)
  exact simD (sX9_verdictPrinter (hfl := hfl) (hz := hz) (hW := hW) (hP1 := hP1)) (fun τ e => ⟨e.1, _, sX10_verdictPrinter (hfl := hfl) (hz := e.1) (D := bk σ 30) (hW := hW) (hR := (Rel_sj (τ := τ) e.2 (by first | omega | (dsimp only; omega)) hR)) (hP1 := hP1), fun υ q => ⟨q.1, Inv_q (v := τ.2) h e.2 q.2.1⟩⟩)

set_option maxHeartbeats 1000000 in
theorem sim_verdictYear {l : Launch} {w : zW} (hfl : l.stackTraces = false) {σ : zS} (hz : zOK σ) (h : Inv σ)  : SimD l w mX9_verdictYear mX10_verdictYear 6 11 [] σ := by
  have hW := h.1.1
  have hR : Rel (bk σ 30) (σ.1 262) := h.1.2.2
  have hP1 : 1 ≤ σ.1 31 0 := h.1.2.1
  have hN := h.2.2.1.1
  have hA := h.2.2.1.2.1
  have hm5 := hm5_s h (zSame_rf (fun _ => False) σ) (fun q => q)
  exact simD (sX9_verdictYear (hfl := hfl) (hz := hz) (hW := hW) (hP1 := hP1)) (fun τ e => ⟨e.1, _, sX10_verdictYear (hfl := hfl) (hz := e.1) (D := bk σ 30) (hW := hW) (hR := (Rel_sj (τ := τ) e.2 (by first | omega | (dsimp only; omega)) hR)) (hP1 := hP1), fun υ q => ⟨q.1, Inv_q (v := τ.2) h e.2 q.2.1⟩⟩)

set_option maxHeartbeats 1000000 in
theorem sim_verdictScore {l : Launch} {w : zW} (hfl : l.stackTraces = false) {σ : zS} (hz : zOK σ) (h : Inv σ)  : SimD l w mX9_verdictScore mX10_verdictScore 6 12 [] σ := by
  have hW := h.1.1
  have hR : Rel (bk σ 30) (σ.1 262) := h.1.2.2
  have hP1 : 1 ≤ σ.1 31 0 := h.1.2.1
  have hN := h.2.2.1.1
  have hA := h.2.2.1.2.1
  have hm5 := hm5_s h (zSame_rf (fun _ => False) σ) (fun q => q)
  exact simD (sX9_verdictScore (hfl := hfl) (hz := hz) (hW := hW) (hP1 := hP1)) (fun τ e => ⟨e.1, _, sX10_verdictScore (hfl := hfl) (hz := e.1) (D := bk σ 30) (hW := hW) (hR := (Rel_sj (τ := τ) e.2 (by first | omega | (dsimp only; omega)) hR)) (hP1 := hP1), fun υ q => ⟨q.1, Inv_q (v := τ.2) h e.2 q.2.1⟩⟩)

set_option maxHeartbeats 1000000 in
theorem sim_margin {l : Launch} {w : zW} (hfl : l.stackTraces = false) {σ : zS} (hz : zOK σ) (h : Inv σ)  : SimD l w mX9_margin mX10_margin 6 8 [] σ := by
  have hW := h.1.1
  have hR : Rel (bk σ 30) (σ.1 262) := h.1.2.2
  have hP1 : 1 ≤ σ.1 31 0 := h.1.2.1
  have hN := h.2.2.1.1
  have hA := h.2.2.1.2.1
  have hm5 := hm5_s h (zSame_rf (fun _ => False) σ) (fun q => q)
  exact simD (sX9_margin (hfl := hfl) (hz := hz) (hW := hW) (hP1 := hP1)) (fun τ e => ⟨e.1, _, sX10_margin (hfl := hfl) (hz := e.1) (D := bk σ 30) (hW := hW) (hR := (Rel_sj (τ := τ) e.2 (by first | omega | (dsimp only; omega)) hR)) (hP1 := hP1), fun υ q => ⟨q.1, Inv_q (v := τ.2) h e.2 q.2.1⟩⟩)

set_option maxHeartbeats 1000000 in
theorem sim_unexplainedCount {l : Launch} {w : zW} (hfl : l.stackTraces = false) {σ : zS} (hz : zOK σ) (h : Inv σ)  : SimD l w mX9_unexplainedCount mX10_unexplainedCount 6 11 [] σ := by
  have hW := h.1.1
  have hR : Rel (bk σ 30) (σ.1 262) := h.1.2.2
  have hP1 : 1 ≤ σ.1 31 0 := h.1.2.1
  have hN := h.2.2.1.1
  have hA := h.2.2.1.2.1
  have hm5 := hm5_s h (zSame_rf (fun _ => False) σ) (fun q => q)
  exact simD (sX9_unexplainedCount (hfl := hfl) (hz := hz) (hW := hW) (hP1 := hP1)) (fun τ e => ⟨e.1, _, sX10_unexplainedCount (hfl := hfl) (hz := e.1) (D := bk σ 30) (hW := hW) (hR := (Rel_sj (τ := τ) e.2 (by first | omega | (dsimp only; omega)) hR)) (hP1 := hP1), fun υ q => ⟨q.1, Inv_q (v := τ.2) h e.2 q.2.1⟩⟩)

set_option maxHeartbeats 1000000 in
theorem sim_matchingEdition {l : Launch} {w : zW} (hfl : l.stackTraces = false) {σ : zS} (hz : zOK σ) (h : Inv σ)  : SimD l w mX9_matchingEdition mX10_matchingEdition 6 11 [] σ := by
  have hW := h.1.1
  have hR : Rel (bk σ 30) (σ.1 262) := h.1.2.2
  have hP1 : 1 ≤ σ.1 31 0 := h.1.2.1
  have hN := h.2.2.1.1
  have hA := h.2.2.1.2.1
  have hm5 := hm5_s h (zSame_rf (fun _ => False) σ) (fun q => q)
  exact simD (sX9_matchingEdition (hfl := hfl) (hz := hz) (hW := hW) (hP1 := hP1)) (fun τ e => ⟨e.1, _, sX10_matchingEdition (hfl := hfl) (hz := e.1) (D := bk σ 30) (hW := hW) (hR := (Rel_sj (τ := τ) e.2 (by first | omega | (dsimp only; omega)) hR)) (hP1 := hP1), fun υ q => ⟨q.1, Inv_q (v := τ.2) h e.2 q.2.1⟩⟩)

set_option maxHeartbeats 1000000 in
theorem sim_impossibleClues {l : Launch} {w : zW} (hfl : l.stackTraces = false) {σ : zS} (hz : zOK σ) (h : Inv σ)  : SimD l w mX9_impossibleClues mX10_impossibleClues 4 6 [] σ := by
  have hW := h.1.1
  have hR : Rel (bk σ 30) (σ.1 262) := h.1.2.2
  have hP1 : 1 ≤ σ.1 31 0 := h.1.2.1
  have hN := h.2.2.1.1
  have hA := h.2.2.1.2.1
  have hm5 := hm5_s h (zSame_rf (fun _ => False) σ) (fun q => q)
  exact simD (zret_q (sX9_impossibleClues (hfl := hfl) (hz := hz) (hW := hW))) (fun τ e => by subst e; exact ⟨hz, _, sX10_impossibleClues (hfl := hfl) (hz := hz) (D := bk σ 30) (hW := hW) (hR := hR), fun υ q => ⟨q.1, Inv_q (v := σ.2) h (zSame_rf _ _) q.2.1⟩⟩)

set_option maxHeartbeats 1000000 in
theorem sim_cluesUntilChange {l : Launch} {w : zW} (hfl : l.stackTraces = false) {σ : zS} (hz : zOK σ) (h : Inv σ)  : SimD l w mX9_cluesUntilChange mX10_cluesUntilChange 6 10 [] σ := by
  have hW := h.1.1
  have hR : Rel (bk σ 30) (σ.1 262) := h.1.2.2
  have hP1 : 1 ≤ σ.1 31 0 := h.1.2.1
  have hN := h.2.2.1.1
  have hA := h.2.2.1.2.1
  have hm5 := hm5_s h (zSame_rf (fun _ => False) σ) (fun q => q)
  exact simD (sX9_cluesUntilChange (hfl := hfl) (hz := hz) (hW := hW) (hP1 := hP1)) (fun τ e => ⟨e.1, _, sX10_cluesUntilChange (hfl := hfl) (hz := e.1) (D := bk σ 30) (hW := hW) (hR := (Rel_sj (τ := τ) e.2 (by first | omega | (dsimp only; omega)) hR)) (hP1 := hP1), fun υ q => ⟨q.1, Inv_q (v := τ.2) h e.2 q.2.1⟩⟩)

set_option maxHeartbeats 1000000 in
theorem sim_decisiveClue {l : Launch} {w : zW} (hfl : l.stackTraces = false) {σ : zS} (hz : zOK σ) (h : Inv σ)  : SimD l w mX9_decisiveClue mX10_decisiveClue 6 11 [] σ := by
  have hW := h.1.1
  have hR : Rel (bk σ 30) (σ.1 262) := h.1.2.2
  have hP1 : 1 ≤ σ.1 31 0 := h.1.2.1
  have hN := h.2.2.1.1
  have hA := h.2.2.1.2.1
  have hm5 := hm5_s h (zSame_rf (fun _ => False) σ) (fun q => q)
  exact simD (sX9_decisiveClue (hfl := hfl) (hz := hz) (hW := hW) (hP1 := hP1)) (fun τ e => ⟨e.1, _, sX10_decisiveClue (hfl := hfl) (hz := e.1) (D := bk σ 30) (hW := hW) (hR := (Rel_sj (τ := τ) e.2 (by first | omega | (dsimp only; omega)) hR)) (hP1 := hP1), fun υ q => ⟨q.1, Inv_q (v := τ.2) h e.2 q.2.1⟩⟩)

set_option maxHeartbeats 1000000 in
theorem sim_rankingErrors {l : Launch} {w : zW} (hfl : l.stackTraces = false) {σ : zS} (hz : zOK σ) (h : Inv σ)  : SimD l w mX9_rankingErrors mX10_rankingErrors 6 11 [] σ := by
  have hW := h.1.1
  have hR : Rel (bk σ 30) (σ.1 262) := h.1.2.2
  have hP1 : 1 ≤ σ.1 31 0 := h.1.2.1
  have hN := h.2.2.1.1
  have hA := h.2.2.1.2.1
  have hm5 := hm5_s h (zSame_rf (fun _ => False) σ) (fun q => q)
  exact simD (sX9_rankingErrors (hfl := hfl) (hz := hz) (hW := hW) (hP1 := hP1)) (fun τ e => ⟨e.1, _, sX10_rankingErrors (hfl := hfl) (hz := e.1) (D := bk σ 30) (hW := hW) (hR := (Rel_sj (τ := τ) e.2 (by first | omega | (dsimp only; omega)) hR)) (hP1 := hP1), fun υ q => ⟨q.1, Inv_q (v := τ.2) h e.2 q.2.1⟩⟩)

set_option maxHeartbeats 1000000 in
theorem sim_setAsideUnexplained {l : Launch} {w : zW} (hfl : l.stackTraces = false) {σ : zS} (hz : zOK σ) (h : Inv σ)  : SimD l w mX9_setAsideUnexplained mX10_setAsideUnexplained 6 12 [] σ := by
  have hW := h.1.1
  have hR : Rel (bk σ 30) (σ.1 262) := h.1.2.2
  have hP1 : 1 ≤ σ.1 31 0 := h.1.2.1
  have hN := h.2.2.1.1
  have hA := h.2.2.1.2.1
  have hm5 := hm5_s h (zSame_rf (fun _ => False) σ) (fun q => q)
  exact simD (sX9_setAsideUnexplained (hfl := hfl) (hz := hz) (hW := hW) (hP1 := hP1) (hN := hN) (hA := hA)) (fun τ e => ⟨e.1, _, sX10_setAsideUnexplained (hfl := hfl) (hz := e.1) (D := bk σ 30) (hW := hW) (hR := (Rel_sj (τ := τ) e.2.1 (by first | omega | (dsimp only; omega)) hR)) (hP1 := hP1) (hm5 := (hm5_s (τ := τ) h e.2.1 (by first | omega | (dsimp only; omega)))), fun υ q => ⟨q.1, Inv_p (v := τ.2) h e.2.1 e.2.2.1 e.2.2.2.1 e.2.2.2.2.1 e.2.2.2.2.2 (by first | exact hP1 | (simp only [adB, ov, rdB, clB, lnB]; first | exact hP1 | (rw [if_neg (by omega)]; first | exact hP1 | (rw [if_neg (by omega)]; exact hP1)))) q.2.1 q.2.2.1 q.2.2.2.1⟩⟩)

set_option maxHeartbeats 1000000 in
theorem sim_deviceOwners {l : Launch} {w : zW} (hfl : l.stackTraces = false) {σ : zS} (hz : zOK σ) (h : Inv σ) {y : Int} (hy : zr y) : SimD l w mX9_deviceOwners mX10_deviceOwners 3 4 [zi y] σ := by
  have hW := h.1.1
  have hR : Rel (bk σ 30) (σ.1 262) := h.1.2.2
  have hP1 : 1 ≤ σ.1 31 0 := h.1.2.1
  have hN := h.2.2.1.1
  have hA := h.2.2.1.2.1
  have hm5 := hm5_s h (zSame_rf (fun _ => False) σ) (fun q => q)
  exact simD (zret_q (sX9_deviceOwners (hfl := hfl) (hz := hz) (hW := hW) (hy := hy))) (fun τ e => by subst e; exact ⟨hz, _, sX10_deviceOwners (hfl := hfl) (hz := hz) (D := bk σ 30) (hW := hW) (hR := hR) (hy := hy), fun υ q => ⟨q.1, Inv_q (v := σ.2) h (zSame_rf _ _) q.2.1⟩⟩)

set_option maxHeartbeats 1000000 in
theorem sim_clueInOrder {l : Launch} {w : zW} (hfl : l.stackTraces = false) {σ : zS} (hz : zOK σ) (h : Inv σ) {x : Int} (hx : zr x) : SimD l w mX9_clueInOrder mX10_clueInOrder 1 3 [zi x] σ := by
  have hW := h.1.1
  have hR : Rel (bk σ 30) (σ.1 262) := h.1.2.2
  have hP1 : 1 ≤ σ.1 31 0 := h.1.2.1
  have hN := h.2.2.1.1
  have hA := h.2.2.1.2.1
  have hm5 := hm5_s h (zSame_rf (fun _ => False) σ) (fun q => q)
  exact simD (zret_q (sX9_clueInOrder (hfl := hfl) (hz := hz) (hW := hW) (hx := hx))) (fun τ e => by subst e; exact ⟨hz, _, sX10_clueInOrder (hfl := hfl) (hz := hz) (D := bk σ 30) (hW := hW) (hR := hR) (hx := hx), fun υ q => ⟨q.1, Inv_q (v := σ.2) h (zSame_rf _ _) q.2.1⟩⟩)

set_option maxHeartbeats 1000000 in
theorem sim_printerByRank {l : Launch} {w : zW} (hfl : l.stackTraces = false) {σ : zS} (hz : zOK σ) (h : Inv σ) {x : Int} (hx : zr x) : SimD l w mX9_printerByRank mX10_printerByRank 6 9 [zi x] σ := by
  have hW := h.1.1
  have hR : Rel (bk σ 30) (σ.1 262) := h.1.2.2
  have hP1 : 1 ≤ σ.1 31 0 := h.1.2.1
  have hN := h.2.2.1.1
  have hA := h.2.2.1.2.1
  have hm5 := hm5_s h (zSame_rf (fun _ => False) σ) (fun q => q)
  exact simD (sX9_printerByRank (hfl := hfl) (hz := hz) (hW := hW) (hP1 := hP1) (hx := hx)) (fun τ e => ⟨e.1, _, sX10_printerByRank (hfl := hfl) (hz := e.1) (D := bk σ 30) (hW := hW) (hR := (Rel_sj (τ := τ) e.2 (by first | omega | (dsimp only; omega)) hR)) (hx := hx), fun υ q => ⟨q.1, Inv_q (v := τ.2) h e.2 q.2.1⟩⟩)

set_option maxHeartbeats 1000000 in
theorem sim_unexplainedClue {l : Launch} {w : zW} (hfl : l.stackTraces = false) {σ : zS} (hz : zOK σ) (h : Inv σ) {x : Int} (hx : zr x) : SimD l w mX9_unexplainedClue mX10_unexplainedClue 6 11 [zi x] σ := by
  have hW := h.1.1
  have hR : Rel (bk σ 30) (σ.1 262) := h.1.2.2
  have hP1 : 1 ≤ σ.1 31 0 := h.1.2.1
  have hN := h.2.2.1.1
  have hA := h.2.2.1.2.1
  have hm5 := hm5_s h (zSame_rf (fun _ => False) σ) (fun q => q)
  exact simD (sX9_unexplainedClue (hfl := hfl) (hz := hz) (hW := hW) (hP1 := hP1) (hx := hx)) (fun τ e => ⟨e.1, _, sX10_unexplainedClue (hfl := hfl) (hz := e.1) (D := bk σ 30) (hW := hW) (hR := (Rel_sj (τ := τ) e.2 (by first | omega | (dsimp only; omega)) hR)) (hP1 := hP1) (hx := hx), fun υ q => ⟨q.1, Inv_q (v := τ.2) h e.2 q.2.1⟩⟩)


