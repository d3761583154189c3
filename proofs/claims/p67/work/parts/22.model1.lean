

theorem Rel_put {D : zBk} {σ : zS} {q i : Nat} {v : Int} (hq : q ≠ 262) (h : Rel D (σ.1 262)) : Rel D ((zput σ q i v).1 262) := by
  have e : (zput σ q i v).1 262 = σ.1 262 := funext (fun j => zput_k _ _ _ _ _ (fun z => hq z.symm))
  rw [e]; exact h
def mfr (σ τ : zS) (A F : Nat → Prop) : Prop := (∀ k, ¬ A k → k ≠ 261 → ∀ i, τ.1 k i = σ.1 k i) ∧ (∀ i, ¬ F i → τ.1 261 i = σ.1 261 i) ∧ τ.2 = σ.2
theorem mfr_tr {σ τ υ : zS} {A A' A'' F F' F'' : Nat → Prop} (h : mfr σ τ A F) (h' : mfr τ υ A' F') (ha : ∀ k, A k ∨ A' k → A'' k) (hf : ∀ k, F k ∨ F' k → F'' k) : mfr σ υ A'' F'' :=
  ⟨fun k hk h2 i => (h'.1 k (fun q => hk (ha k (Or.inr q))) h2 i).trans (h.1 k (fun q => hk (ha k (Or.inl q))) h2 i), fun i hi => (h'.2.1 i (fun q => hi (hf i (Or.inr q)))).trans (h.2.1 i (fun q => hi (hf i (Or.inl q)))), h'.2.2.trans h.2.2⟩
theorem mfr_mo {σ τ : zS} {A A' F F' : Nat → Prop} (h : mfr σ τ A F) (ha : ∀ k, A k → A' k) (hf : ∀ k, F k → F' k) : mfr σ τ A' F' := ⟨fun k hk => h.1 k (fun q => hk (ha k q)), fun i hi => h.2.1 i (fun q => hi (hf i q)), h.2.2⟩
theorem mfr_rf (σ : zS) (A F : Nat → Prop) : mfr σ σ A F := ⟨fun _ _ _ _ => rfl, fun _ _ => rfl, rfl⟩
theorem mfr_R {D : zBk} {σ τ : zS} {A F : Nat → Prop} (h : mfr σ τ A F) (h0 : ¬ A 262) (hR : Rel D (σ.1 262)) : Rel D (τ.1 262) := by
  rw [show τ.1 262 = σ.1 262 from funext (h.1 262 h0 (by decide))]; exact hR
noncomputable def mL (D : zBk) (c : Nat) : Nat := (lYr D c + 1 - 1450).toNat
theorem mw_ok {D : zBk} {c : Nat} (h : (1450 ≤ eYr D c ∧ eYr D c ≤ 1999) ∧ (1450 ≤ lYr D c ∧ lYr D c ≤ 2002) ∧ eYr D c ≤ lYr D c) : rE D c < 550 ∧ mL D c < 560 ∧ rE D c < mL D c := by
  unfold rE mL; omega
theorem ms_sc {D : zBk} (w : WF D) (p j : Nat) (hj : j < 550) : zs (fun r => zs (fun d => zif (Ht D d ∧ pFit D p d) (dlt (rE D) (mL D) (D 16) d r)) (D 12 0).toNat) (j + 1) = sc D (Ht D) p j := by
  rw [zs_diff _ _ _ _ _ _ (fun d hd _ => by have := mw_ok (WF_y w (c := d) (by omega)); omega)]
  unfold sc cFit
  refine zs_congr (fun d hd => zif_c ?_)
  have hY := WF_y w (c := d) (by omega)
  unfold rE mL
  constructor
  · rintro ⟨⟨q1, q2⟩, q3⟩; exact ⟨q1, q2, by omega⟩
  · rintro ⟨q1, q2, q3⟩; exact ⟨⟨q1, q2⟩, by omega⟩
theorem fb0 (f : Nat → Int) (a : Nat) : yTop f a 1 = a ∧ yCnt f a 1 = 1 := by
  rw [yTop_s, yCnt_s]
  show (if f a < f (a + 0) then a + 0 else a) = a ∧ (if f a < f (a + 0) then 1 else if f (a + 0) = f a then yCnt f a 0 + 1 else yCnt f a 0) = 1
  rw [Nat.add_zero, if_neg (by omega), if_neg (by omega), if_pos rfl]
  exact ⟨rfl, rfl⟩
theorem fb_up {f : Nat → Int} {a n : Nat} (h : f (yTop f a n) < f (a + n)) : yTop f a (n + 1) = a + n ∧ yCnt f a (n + 1) = 1 := by
  rw [yTop_s, yCnt_s, if_pos h, if_pos h]; exact ⟨rfl, rfl⟩
theorem fb_eq {f : Nat → Int} {a n : Nat} (h : ¬ f (yTop f a n) < f (a + n)) (h2 : f (a + n) = f (yTop f a n)) : yTop f a (n + 1) = yTop f a n ∧ yCnt f a (n + 1) = yCnt f a n + 1 := by
  rw [yTop_s, yCnt_s, if_neg h, if_neg h, if_pos h2]; exact ⟨rfl, rfl⟩
theorem fb_no {f : Nat → Int} {a n : Nat} (h : ¬ f (yTop f a n) < f (a + n)) (h2 : ¬ f (a + n) = f (yTop f a n)) : yTop f a (n + 1) = yTop f a n ∧ yCnt f a (n + 1) = yCnt f a n := by
  rw [yTop_s, yCnt_s, if_neg h, if_neg h, if_neg h2]; exact ⟨rfl, rfl⟩
theorem mfr_put {σ τ : zS} {A F : Nat → Prop} {q i : Nat} {v : Int} (h : mfr σ τ A F) (hq : A q) (h2 : q ≠ 261) : mfr σ (zput τ q i v) A F :=
  ⟨fun k hk hk2 j => (zput_k _ _ _ _ _ (fun e => hk (by rw [e]; exact hq))).trans (h.1 k hk hk2 j), fun j hj => (zput_k _ _ _ _ _ (fun e => h2 e.symm)).trans (h.2.1 j hj), h.2.2⟩
theorem mfr_put261 {σ τ : zS} {A F : Nat → Prop} {i : Nat} {v : Int} (h : mfr σ τ A F) : mfr σ (zput τ 261 i v) A (fun j => F j ∨ j = i) :=
  ⟨fun k hk hk2 j => (zput_k _ _ _ _ _ hk2).trans (h.1 k hk hk2 j), fun j hj => (zput_i _ _ _ _ _ (fun e => hj (Or.inr e))).trans (h.2.1 j (fun q => hj (Or.inl q))), h.2.2⟩
theorem ordWF {D : zBk} (h : WFo D) (r : Int) : (if 0 ≤ r ∧ r < D 12 0 then D 19 r.toNat else -1) = atR (bef D) (D 12 0).toNat r := by
  have hk : ordOK (D 13) (D 19) (D 12 0).toNat := ⟨fun i hi => by have := h.1 i (by omega); omega, fun i j hij hj => h.2.1 i j hij (by omega), fun c hc => by
    obtain ⟨i, h1, h2⟩ := h.2.2 c (by omega)
    exact ⟨i, by omega, by omega⟩⟩
  by_cases e : 0 ≤ r ∧ r < D 12 0
  · rw [if_pos e]
    have e1 := ordOK_at hk (i := r.toNat) (by omega)
    have e2 := hk.1 r.toNat (by omega)
    rw [show ((r.toNat : Nat) : Int) = r by omega] at e1
    rw [show atR (bef D) (D 12 0).toNat r = _ from e1]
    omega
  · rw [if_neg e]
    exact (ordOK_no hk (by omega)).symm
/-- a row of printers is in order somehow: by inserting one after the other -/
theorem ord_ex (S : Nat → Int) : ∀ k, ∃ o, ordOK S o k
  | 0 => ⟨fun _ => 0, ordOK_0⟩
  | k + 1 => by
    obtain ⟨o, h⟩ := ord_ex S k
    obtain ⟨j, hj, h1, h2⟩ : ∃ j, j ≤ k ∧ (∀ i, j ≤ i → i < k → S (o i).toNat < S k) ∧ (0 < j → S k ≤ S (o (j - 1)).toNat) := by
      have key : ∀ m, m ≤ k → ∃ j, j ≤ k ∧ (∀ i, j ≤ i → i < k → S (o i).toNat < S k) ∧ (0 < j → S k ≤ S (o (j - 1)).toNat) ∨ ∀ i, k - m ≤ i → i < k → S (o i).toNat < S k := by
        intro m
        induction m with
        | zero => intro _; exact ⟨0, Or.inr (fun i h1 h2 => by omega)⟩
        | succ m ih =>
          intro hm
          obtain ⟨j, hh⟩ := ih (by omega)
          rcases hh with hh | hh
          · exact ⟨j, Or.inl hh⟩
          · by_cases e : S (o (k - (m + 1))).toNat < S k
            · refine ⟨0, Or.inr (fun i h1 h2 => ?_)⟩
              by_cases e2 : i = k - (m + 1)
              · rw [e2]; exact e
              · exact hh i (by omega) h2
            · exact ⟨k - m, Or.inl ⟨by omega, fun i h1 h2 => hh i h1 h2, fun _ => by rw [show k - m - 1 = k - (m + 1) by omega]; omega⟩⟩
      obtain ⟨j, hh⟩ := key k (Nat.le_refl k)
      rcases hh with hh | hh
      · exact ⟨j, hh⟩
      · exact ⟨0, Nat.zero_le _, fun i h1 h2 => hh i (by omega) h2, fun h => absurd h (Nat.lt_irrefl 0)⟩
    refine ⟨fun i => if i < j then o i else if i = j then (k : Int) else o (i - 1), ins_ok h hj (by simp) (fun i hi => by simp [hi]) (fun i hi hi2 => ⟨?_, h1 i hi hi2⟩) h2⟩
    rw [if_neg (by omega), if_neg (by omega)]
    rfl
theorem rk_ex (D : zBk) (H : Nat → Prop) : ∃ o, ordOK (tS D H) o (D 1 0).toNat := ord_ex _ _
theorem wP_b {D : zBk} {H : Nat → Prop} (w : WF D) (h1 : 1 ≤ D 1 0) : rkP D H 0 = wP D H ∧ (wP D H : Int) < D 1 0 := by
  obtain ⟨o, ho⟩ := rk_ex D H
  have e := ordOK_at ho (i := 0) (by omega)
  have r := ho.1 0 (by omega)
  have e2 : rkP D H 0 = ((o 0).toNat : Nat) := e
  unfold wP
  rw [e2]
  omega
theorem wP_e {D : zBk} {H : Nat → Prop} (w : WF D) (h1 : 1 ≤ D 1 0) : rkP D H 0 = wP D H := (wP_b w h1).1
theorem wP_l {D : zBk} {H : Nat → Prop} (w : WF D) (h1 : 1 ≤ D 1 0) : (wP D H : Int) < D 1 0 := (wP_b w h1).2



