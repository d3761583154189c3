

def cWr (σ : zS) (k : Nat) (v : Int) (V : Nat → Int) : Prop := σ.1 25 k = v ∧ σ.1 26 k = V 1 ∧ ((v = 0 ∨ v = 4 ∨ v = 5) → σ.1 27 k = V 2) ∧ ((v = 0 ∨ v = 5) → σ.1 28 k = V 3) ∧ (v = 0 → σ.1 29 k = V 4)
theorem cWr_e {σ τ : zS} {k : Nat} {v : Int} {V : Nat → Int} (h : ∀ q, 25 ≤ q → q ≤ 29 → τ.1 q k = σ.1 q k) (c : cWr σ k v V) : cWr τ k v V := by
  unfold cWr
  rw [h 25 (by omega) (by omega), h 26 (by omega) (by omega), h 27 (by omega) (by omega), h 28 (by omega) (by omega), h 29 (by omega) (by omega)]
  exact c



