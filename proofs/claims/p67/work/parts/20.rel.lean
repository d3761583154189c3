/-! the row of the other program and the book -/
def pkF (f : Nat → Int) : Nat → Int
  | 0 => 0
  | n + 1 => 32 * pkF f n + (f n - 96)
def nmOK (D : zBk) (r : Nat → Int) (p : Nat) : Prop := (1 ≤ r (4 + 12 * p) ∧ r (4 + 12 * p) ≤ 6) ∧ (∀ k : Nat, (k : Int) < r (4 + 12 * p) → 97 ≤ r (4 + 12 * p + 1 + k) ∧ r (4 + 12 * p + 1 + k) ≤ 122) ∧ D 2 p = pkF (fun k => r (4 + 12 * p + 1 + k)) (r (4 + 12 * p)).toNat
def RelC (D : zBk) (r : Nat → Int) : Prop := r 0 = D 1 0 ∧ r 1 = D 1 7 ∧ r 2 = D 1 10 ∧ r 3 = D 12 0
def RelP (D : zBk) (r : Nat → Int) : Prop := ∀ p : Nat, (p : Int) < D 1 0 → nmOK D r p ∧ ∀ o, 7 ≤ o → o ≤ 11 → r (4 + 12 * p + o) = D (o - 4) p
def RelM (D : zBk) (r : Nat → Int) : Prop := ∀ q : Nat, (q : Int) < D 1 7 → r (100 + 2 * q) = D 8 q ∧ r (100 + 2 * q + 1) = D 9 q
def RelE (D : zBk) (r : Nat → Int) : Prop := ∀ q : Nat, (q : Int) < D 1 10 → r (116 + 2 * q) = D 10 q ∧ r (116 + 2 * q + 1) = D 11 q
def RelK (D : zBk) (r : Nat → Int) : Prop := ∀ c : Nat, (c : Int) < D 12 0 → ∀ o, o < 6 → r (140 + 6 * c + o) = D (13 + o) c
def Rel (D : zBk) (r : Nat → Int) : Prop := RelC D r ∧ RelP D r ∧ RelM D r ∧ RelE D r ∧ RelK D r
theorem bit_f {D : zBk} {o p : Nat} {y : Int} (hz : zr (D o p)) (h : 0 ≤ y ∧ y < 32) : zand (zshr (D o p) y) 1 = 1 ↔ ¬ zand (zushr (D o p) y) 1 = 0 := by
  rw [bit_same hz h, zand_1]
  omega
theorem Rel_same {D : zBk} {r r' : Nat → Int} (w : WF D) (h : Rel D r) (e : ∀ i, i < 380 → r' i = r i) : Rel D r' := by
  have hn := w.1
  unfold WFn at hn
  obtain ⟨a, b, c, d, f⟩ := h
  refine ⟨⟨(e 0 (by omega)).trans a.1, (e 1 (by omega)).trans a.2.1, (e 2 (by omega)).trans a.2.2.1, (e 3 (by omega)).trans a.2.2.2⟩, fun p hp => ⟨?_, fun o h1 h2 => (e _ (by omega)).trans ((b p hp).2 o h1 h2)⟩, fun q hq => ⟨(e _ (by omega)).trans (c q hq).1, (e _ (by omega)).trans (c q hq).2⟩, fun q hq => ⟨(e _ (by omega)).trans (d q hq).1, (e _ (by omega)).trans (d q hq).2⟩, fun c2 hc o ho => (e _ (by omega)).trans (f c2 hc o ho)⟩
  obtain ⟨n1, n2, n3⟩ := (b p hp).1
  have e0 := e (4 + 12 * p) (by omega)
  refine ⟨by rw [e0]; exact n1, fun k hk => ?_, ?_⟩
  · rw [e0] at hk
    rw [e _ (by omega)]
    exact n2 k hk
  · rw [n3, e0]
    have g : ∀ (n : Nat), n ≤ 6 → pkF (fun k => r (4 + 12 * p + 1 + k)) n = pkF (fun k => r' (4 + 12 * p + 1 + k)) n := by
      intro n
      induction n with
      | zero => intro _; rfl
      | succ n ih => intro hn; rw [pkF, pkF, ih (by omega), e _ (by omega)]
    exact g _ (by omega)
