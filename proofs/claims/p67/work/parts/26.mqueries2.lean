

theorem mg_ok {D : zBk} (w : WF D) (h1 : 1 ≤ D 1 0) : rkP D (Ht D) 0 = ((wP D (Ht D) : Nat) : Int) ∧ (rkP D (Ht D) 1 = -1 → scd D (Ht D) = 0) ∧ (¬ rkP D (Ht D) 1 = -1 → scd D (Ht D) = tS D (Ht D) (rkP D (Ht D) 1).toNat ∧ (((rkP D (Ht D) 1).toNat : Nat) : Int) < D 1 0 ∧ 0 ≤ rkP D (Ht D) 1) := by
  obtain ⟨o, ho⟩ := rk_ex D (Ht D)
  refine ⟨wP_e w h1, fun h => ?_, fun h => ?_⟩
  · unfold scd
    by_cases e : 2 ≤ D 1 0
    · have e1 := ordOK_at ho (i := 1) (by omega)
      have e2 : rkP D (Ht D) 1 = _ := e1
      omega
    · rw [if_neg e]
  · by_cases e : 2 ≤ D 1 0
    · have e1 := ordOK_at ho (i := 1) (by omega)
      have e2 : rkP D (Ht D) 1 = _ := e1
      have e3 := ho.1 1 (by omega)
      unfold scd
      rw [if_pos e]
      exact ⟨rfl, by omega, by omega⟩
    · exact absurd (ordOK_no ho (r := 1) (by omega)) h
theorem z_wrap (a : Int) : Int32.ofInt a = Int32.ofInt (if a < -2147483648 then a + 4294967296 else a) := by
  split
  · apply Int32.toBitVec_inj.mp
    apply BitVec.eq_of_toNat_eq
    have h1 := z_nn a
    have h2 := z_nn (a + 4294967296)
    omega
  · rfl



