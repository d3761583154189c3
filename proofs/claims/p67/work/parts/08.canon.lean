/-! a book: what a casebook's cells hold, by their places behind its own: 1 archive, 2 names, 3 cities, 4 first years, 5 last years, 6 devices, 7 typefaces, 8 starts, 9 ends, 10 printers of editions, 11 years of editions, 12 clues, 13 pages, 14 kinds, 15 values, 16 weights, 17 known, 18 dropped, 19 order -/
abbrev zBk : Type := Nat → Nat → Int
def bk (σ : zS) (k o i : Nat) : Int := σ.1 (k + o) i
def WFn (D : zBk) : Prop := (0 ≤ D 1 0 ∧ D 1 0 ≤ 8) ∧ (0 ≤ D 1 7 ∧ D 1 7 ≤ 8) ∧ (0 ≤ D 1 10 ∧ D 1 10 ≤ 12) ∧ (0 ≤ D 12 0 ∧ D 12 0 ≤ 40)
def WFp (D : zBk) : Prop := ∀ p : Nat, (p : Int) < D 1 0 → (0 ≤ D 3 p ∧ D 3 p ≤ 9) ∧ (1450 ≤ D 4 p ∧ D 4 p ≤ D 5 p ∧ D 5 p ≤ 1999)
def WFm (D : zBk) : Prop := ∀ q : Nat, (q : Int) < D 1 7 → 1450 ≤ D 8 q ∧ D 8 q ≤ D 9 q ∧ D 9 q ≤ 1999
def WFe (D : zBk) : Prop := ∀ q : Nat, (q : Int) < D 1 10 → (0 ≤ D 10 q ∧ D 10 q < D 1 0) ∧ (1450 ≤ D 11 q ∧ D 11 q ≤ 1999)
def WFk (D : zBk) (kd vl : Int) : Prop := 0 ≤ kd ∧ kd ≤ 4 ∧ 0 ≤ vl ∧ vl ≤ 1999 ∧ (kd = 0 → vl ≤ 31) ∧ (kd = 1 → vl ≤ 15) ∧ (kd = 2 → vl < D 1 7) ∧ (kd = 3 → vl ≤ 9) ∧ (kd = 4 → 1450 ≤ vl)
def WFcl (D : zBk) : Prop := ∀ c : Nat, (c : Int) < D 12 0 → (1 ≤ D 13 c ∧ D 13 c ≤ 999) ∧ WFk D (D 14 c) (D 15 c) ∧ (1 ≤ D 16 c ∧ D 16 c ≤ 9) ∧ (D 17 c = 0 ∨ D 17 c = 1) ∧ (D 18 c = 0 ∨ D 18 c = 1)
def bef (D : zBk) (c d : Nat) : Prop := D 13 d < D 13 c ∨ (D 13 c = D 13 d ∧ c < d)
def WFo (D : zBk) : Prop := (∀ i : Nat, (i : Int) < D 12 0 → 0 ≤ D 19 i ∧ D 19 i < D 12 0) ∧ (∀ i j : Nat, i < j → (j : Int) < D 12 0 → bef D (D 19 i).toNat (D 19 j).toNat) ∧ ∀ c : Nat, (c : Int) < D 12 0 → ∃ i : Nat, (i : Int) < D 12 0 ∧ D 19 i = c
def WF (D : zBk) : Prop := WFn D ∧ WFp D ∧ WFm D ∧ WFe D ∧ WFcl D ∧ WFo D
def hasDev (D : zBk) (p : Nat) (n : Int) : Prop := 0 ≤ n ∧ n ≤ 31 ∧ ¬ zand (zushr (D 6 p) n) 1 = 0
def hasTyp (D : zBk) (p : Nat) (n : Int) : Prop := 0 ≤ n ∧ n ≤ 15 ∧ ¬ zand (zushr (D 7 p) n) 1 = 0
def pFit (D : zBk) (p c : Nat) : Prop := (D 14 c = 0 → hasDev D p (D 15 c)) ∧ (D 14 c = 1 → hasTyp D p (D 15 c)) ∧ (D 14 c = 3 → D 3 p = D 15 c)
def eYr (D : zBk) (c : Nat) : Int := if D 14 c = 4 then D 15 c else if D 14 c = 2 then D 8 (D 15 c).toNat else 1450
def lYr (D : zBk) (c : Nat) : Int := if D 14 c = 4 then D 15 c else if D 14 c = 2 then D 9 (D 15 c).toNat + 3 else 1999
def cFit (D : zBk) (p : Nat) (y : Int) (c : Nat) : Prop := pFit D p c ∧ eYr D c ≤ y ∧ y ≤ lYr D c
def works (D : zBk) (p : Nat) (y : Int) : Prop := D 4 p ≤ y ∧ y ≤ D 5 p
def both (D : zBk) (c d p : Nat) : Prop := pFit D p c ∧ pFit D p d ∧ max (max (eYr D c) (eYr D d)) (D 4 p) ≤ min (min (lYr D c) (lYr D d)) (D 5 p)
def tog (D : zBk) (c d : Nat) : Prop := ∃ p : Nat, (p : Int) < D 1 0 ∧ both D c d p
theorem WF_y {D : zBk} (h : WF D) {c : Nat} (hc : (c : Int) < D 12 0) : (1450 ≤ eYr D c ∧ eYr D c ≤ 1999) ∧ (1450 ≤ lYr D c ∧ lYr D c ≤ 2002) ∧ eYr D c ≤ lYr D c := by
  obtain ⟨-, -, hm, -, hcl, -⟩ := h
  obtain ⟨-, hk, -⟩ := hcl c hc
  unfold WFk at hk
  unfold eYr lYr
  by_cases h4 : D 14 c = 4
  · rw [if_pos h4, if_pos h4]; omega
  · rw [if_neg h4, if_neg h4]
    by_cases h2 : D 14 c = 2
    · rw [if_pos h2, if_pos h2]
      have := hm (D 15 c).toNat (by omega)
      omega
    · rw [if_neg h2, if_neg h2]; omega
theorem zr_max {a b : Int} (ha : zr a) (hb : zr b) : zr (max a b) := by unfold zr at *; omega
theorem zr_min {a b : Int} (ha : zr a) (hb : zr b) : zr (min a b) := by unfold zr at *; omega
