/-! sums, first places -/
noncomputable def zif (p : Prop) (a : Int) : Int := @ite Int p (Classical.propDecidable p) a 0
theorem zif_t {p : Prop} {a : Int} (h : p) : zif p a = a := by unfold zif; rw [if_pos h]
theorem zif_f {p : Prop} {a : Int} (h : ¬ p) : zif p a = 0 := by unfold zif; rw [if_neg h]
def zs (f : Nat → Int) : Nat → Int
  | 0 => 0
  | n + 1 => zs f n + f n
theorem zs_s (f : Nat → Int) (n : Nat) : zs f (n + 1) = zs f n + f n := rfl
theorem zs_congr {f g : Nat → Int} : ∀ {n : Nat}, (∀ i, i < n → f i = g i) → zs f n = zs g n
  | 0, _ => rfl
  | n + 1, h => by rw [zs_s, zs_s, zs_congr (fun i hi => h i (Nat.lt_succ_of_lt hi)), h n (Nat.lt_succ_self n)]
theorem zsb_t {P : Nat → Prop} {i : Nat} (h : P i) : zs (fun j => zb (P j)) i + 1 = zs (fun j => zb (P j)) (i + 1) := by rw [zs_s, zb_t h]
theorem zsb_f {P : Nat → Prop} {i : Nat} (h : ¬ P i) : zs (fun j => zb (P j)) i = zs (fun j => zb (P j)) (i + 1) := by rw [zs_s, zb_f h, Int.add_zero]
theorem zsw_t {P : Nat → Prop} {v : Nat → Int} {i : Nat} (h : P i) : zs (fun j => zif (P j) (v j)) i + v i = zs (fun j => zif (P j) (v j)) (i + 1) := by rw [zs_s, zif_t h]
theorem zsw_f {P : Nat → Prop} {v : Nat → Int} {i : Nat} (h : ¬ P i) : zs (fun j => zif (P j) (v j)) i = zs (fun j => zif (P j) (v j)) (i + 1) := by rw [zs_s, zif_f h, Int.add_zero]
theorem zsb_le (P : Nat → Prop) : ∀ n, 0 ≤ zs (fun j => zb (P j)) n ∧ zs (fun j => zb (P j)) n ≤ n
  | 0 => ⟨Int.le_refl _, Int.le_refl _⟩
  | n + 1 => by
    have h := zsb_le P n
    rw [zs_s]
    rcases zb_01 (P n) with e | e <;> rw [e] <;> omega
theorem zs_bnd {f : Nat → Int} {b : Int} (hb : 0 ≤ b) : ∀ {n : Nat}, (∀ i, i < n → 0 ≤ f i ∧ f i ≤ b) → 0 ≤ zs f n ∧ zs f n ≤ n * b
  | 0, _ => by simp [zs]
  | n + 1, h => by
    have h1 := zs_bnd hb (n := n) (fun i hi => h i (Nat.lt_succ_of_lt hi))
    have h2 := h n (Nat.lt_succ_self n)
    rw [zs_s]
    have e : ((n + 1 : Nat) : Int) * b = n * b + b := by
      rw [Int.natCast_add, Int.add_mul]; simp
    rw [e]
    omega
noncomputable def zfst (P : Nat → Prop) : Nat → Int
  | 0 => -1
  | n + 1 => if zfst P n = -1 then (@ite Int (P n) (Classical.propDecidable _) (n : Int) (-1)) else zfst P n
theorem zfst_no {P : Nat → Prop} : ∀ {n : Nat}, (∀ j, j < n → ¬ P j) → zfst P n = -1
  | 0, _ => rfl
  | n + 1, h => by
    unfold zfst
    rw [zfst_no (fun j hj => h j (Nat.lt_succ_of_lt hj)), if_pos rfl, if_neg (h n (Nat.lt_succ_self n))]
theorem zfst_at {P : Nat → Prop} {i : Nat} : ∀ {n : Nat}, i < n → (∀ j, j < i → ¬ P j) → P i → zfst P n = i
  | 0, h, _, _ => absurd h (Nat.not_lt_zero i)
  | n + 1, h, hj, hi => by
    unfold zfst
    rcases Nat.lt_or_ge i n with q | q
    · rw [zfst_at q hj hi, if_neg (by omega)]
    · have e : i = n := by omega
      subst e
      rw [zfst_no hj, if_pos rfl, if_pos hi]
theorem zfst_cases (P : Nat → Prop) (n : Nat) : (zfst P n = -1 ∧ ∀ j, j < n → ¬ P j) ∨ ∃ i, i < n ∧ zfst P n = i ∧ P i ∧ ∀ j, j < i → ¬ P j := by
  induction n with
  | zero => exact Or.inl ⟨rfl, fun j hj => absurd hj (Nat.not_lt_zero j)⟩
  | succ n ih =>
    rcases ih with ⟨h1, h2⟩ | ⟨i, h1, h2, h3, h4⟩
    · by_cases hp : P n
      · exact Or.inr ⟨n, Nat.lt_succ_self n, zfst_at (Nat.lt_succ_self n) h2 hp, hp, h2⟩
      · refine Or.inl ⟨zfst_no ?_, ?_⟩ <;> exact fun j hj => (by rcases Nat.lt_succ_iff_lt_or_eq.mp hj with q | rfl; exact h2 j q; exact hp)
    · exact Or.inr ⟨i, Nat.lt_succ_of_lt h1, zfst_at (Nat.lt_succ_of_lt h1) h4 h3, h3, h4⟩
theorem zfst_congr {P Q : Nat → Prop} {n : Nat} (h : ∀ j, j < n → (P j ↔ Q j)) : zfst P n = zfst Q n := by
  rcases zfst_cases P n with ⟨h1, h2⟩ | ⟨i, h1, h2, h3, h4⟩
  · rw [h1, zfst_no (fun j hj hq => h2 j hj ((h j hj).mpr hq))]
  · rw [h2, zfst_at h1 (fun j hj hq => h4 j hj ((h j (Nat.lt_trans hj h1)).mpr hq)) ((h i h1).mp h3)]
theorem zr_b8 (a : Int) : zr (zb8 a) := zr_t _
theorem zb8_idem (a : Int) : zb8 (zb8 a) = zb8 a := by
  unfold zb8
  rw [z_of]
  congr 1
  rw [Int8.toInt8_toInt32]
