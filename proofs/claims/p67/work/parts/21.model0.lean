

noncomputable def th2 (A B : Prop) : Int := zb (¬ A) + 2 * zb (A ∧ ¬ B)
theorem th2_0 {A B : Prop} (a : A) (b : B) : th2 A B = 0 := by unfold th2; rw [zb_f (fun q => q a), zb_f (fun q => q.2 b)]; rfl
theorem th2_1 {A B : Prop} (a : ¬ A) : th2 A B = 1 := by unfold th2; rw [zb_t a, zb_f (fun q => a q.1)]; rfl
theorem th2_2 {A B : Prop} (a : A) (b : ¬ B) : th2 A B = 2 := by unfold th2; rw [zb_f (fun q => q a), zb_t ⟨a, b⟩]; rfl
theorem th2_r (A B : Prop) : zr (th2 A B) := by
  unfold th2 zr
  have h1 := zb_01 (¬ A)
  have h2 := zb_01 (A ∧ ¬ B)
  omega
noncomputable def th3 (A B C : Prop) : Int := zb (¬ A) + 2 * zb (A ∧ ¬ B) + 3 * zb (A ∧ B ∧ ¬ C)
theorem th3_0 {A B C : Prop} (a : A) (b : B) (c : C) : th3 A B C = 0 := by unfold th3; rw [zb_f (fun q => q a), zb_f (fun q => q.2 b), zb_f (fun q => q.2.2 c)]; rfl
theorem th3_1 {A B C : Prop} (a : ¬ A) : th3 A B C = 1 := by unfold th3; rw [zb_t a, zb_f (fun q => a q.1), zb_f (fun q => a q.1)]; rfl
theorem th3_2 {A B C : Prop} (a : A) (b : ¬ B) : th3 A B C = 2 := by unfold th3; rw [zb_f (fun q => q a), zb_t ⟨a, b⟩, zb_f (fun q => b q.2.1)]; rfl
theorem th3_3 {A B C : Prop} (a : A) (b : B) (c : ¬ C) : th3 A B C = 3 := by unfold th3; rw [zb_f (fun q => q a), zb_f (fun q => q.2 b), zb_t ⟨a, b, c⟩]; rfl
theorem th3_r (A B C : Prop) : zr (th3 A B C) := by
  unfold th3 zr
  have h1 := zb_01 (¬ A)
  have h2 := zb_01 (A ∧ ¬ B)
  have h3 := zb_01 (A ∧ B ∧ ¬ C)
  omega
def cpo (σ τ : zS) (q a v b n : Nat) : Prop := (∀ k, ¬ k = v → ∀ i, τ.1 k i = σ.1 k i) ∧ τ.2 = σ.2 ∧ (∀ i, i < n → τ.1 v (b + i) = σ.1 q (a + i)) ∧ ∀ i, (i < b ∨ b + n ≤ i) → τ.1 v i = σ.1 v i
theorem cpo_0 {σ : zS} {q a v b : Nat} : cpo σ σ q a v b 0 := ⟨fun _ _ _ => rfl, rfl, fun i h => absurd h (Nat.not_lt_zero i), fun _ _ => rfl⟩
theorem cpo_src {σ τ : zS} {q a v b n : Nat} (hv : q ≠ v) (h : cpo σ τ q a v b n) (i : Nat) : τ.1 q i = σ.1 q i := h.1 q hv i
theorem cpo_s {σ τ : zS} {q a v b n : Nat} (hv : q ≠ v) (h : cpo σ τ q a v b n) : cpo σ (zput τ v (b + n) (τ.1 q (a + n))) q a v b (n + 1) := by
  obtain ⟨h1, h2, h3, h4⟩ := h
  refine ⟨fun k hk i => (zput_k _ _ _ _ _ hk).trans (h1 k hk i), h2, fun i hi => ?_, fun i hi => (zput_i _ _ _ _ _ (by omega)).trans (h4 i (by omega))⟩
  rcases Nat.lt_succ_iff_lt_or_eq.mp hi with q2 | rfl
  · exact (zput_i _ _ _ _ _ (by omega)).trans (h3 i q2)
  · exact (zput_s _ _ _ _).trans (h1 q hv _)



