
/-! the other program's predictions -/
theorem mfr_cpo {σ τ : zS} {q a v b n : Nat} (h : cpo σ τ q a v b n) (hv : v ≠ 261) : mfr σ τ (fun k => k = v) (fun _ => False) :=
  ⟨fun k hk _ i => h.1 k hk i, fun i _ => h.1 261 (fun e => hv e.symm) i, h.2.1⟩
theorem tb_ok {D : zBk} (w : WF D) {σ τ1 τ2 τ3 : zS} {A F : Nat → Prop} (hR : Rel D (σ.1 262)) (h0 : cpo σ τ1 262 0 265 0 380) (h1 : mfr τ1 τ2 A F) (hA : ∀ k, A k → k = 262 ∨ k = 267 ∨ k = 268) (hF : ∀ i, F i → qF i ∧ i ≠ 6) (h2 : cpo τ2 τ3 265 0 262 0 380) : QP D σ τ3 ∧ τ3.1 261 6 = σ.1 261 6 := by
  have e265 : ∀ i, τ2.1 265 i = τ1.1 265 i := fun i => h1.1 265 (fun q => by have := hA _ q; omega) (by omega) i
  have row : ∀ i, i < 380 → τ3.1 262 i = σ.1 262 i := fun i hi => by
    have a := h2.2.2.1 i hi
    have b := h0.2.2.1 i hi
    rw [Nat.zero_add] at a b
    rw [a, e265, b]
  refine ⟨⟨⟨fun k hk hk2 i => ?_, fun i hi => ?_, ?_⟩, Rel_same w hR row⟩, ?_⟩
  · unfold qA at hk
    rw [h2.1 k (by omega) i, h1.1 k (fun q => by have := hA _ q; omega) hk2 i, h0.1 k (by omega) i]
  · rw [h2.1 261 (by omega) i, h1.2.1 i (fun q => hi (hF i q).1), h0.1 261 (by omega) i]
  · exact h2.2.1.trans (h1.2.2.trans h0.2.1)
  · rw [h2.1 261 (by omega) 6, h1.2.1 6 (fun q => (hF 6 q).2 rfl), h0.1 261 (by omega) 6]
theorem U_cons {D : zBk} {p : Nat} (h : ∀ q, q < p → ¬ D 17 (D 19 q).toNat = 0) : U D p = 0 := by
  unfold U
  rw [zs_congr (g := fun _ => 0) (fun i hi => zb_f (h i hi)), zs_zero]
theorem rd_one {D : zBk} (w : WF D) {n : Int} (hn : 0 ≤ n) : (U (rdB D n) (D 12 0).toNat = 0 ∧ U D (D 12 0).toNat ≤ n) ∨ (1 ≤ U (rdB D n) (D 12 0).toNat ∧ n + 1 ≤ U D (D 12 0).toNat ∧ lEq (rdB (rdB D n) 1) (rdB D (n + 1))) := by
  have wn := WF_rdB w n
  have hk : (rdB D n) 12 0 = D 12 0 := rfl
  by_cases h : nxU (rdB D n) = -1
  · obtain ⟨h1, h2⟩ := rd_end w hn h
    refine Or.inl ⟨U_cons (fun q hq => ?_), h2⟩
    have ho := w.2.2.2.2.2.1 q (by omega)
    rw [rdB_s, rdB_k D n (by decide : (19 : Nat) ≠ 17)]
    rw [zb_0]
    exact fun z => z (h1 _ (by omega))
  · obtain ⟨h1, h2, h3⟩ := rd_step w hn h
    rcases nxU_cases wn with ⟨q1, q2⟩ | ⟨p, hp, q1, q2, q3, q4⟩
    · exact absurd q1 h
    · have hp2 : (p : Int) < D 12 0 := hp
      refine Or.inr ⟨?_, h2, ⟨⟨rfl, rfl, rfl, rfl⟩, fun a _ o o1 o2 => ?_, fun q _ => ⟨rfl, rfl⟩, fun q _ => ⟨rfl, rfl⟩, fun c hc o o1 o2 => ?_⟩⟩
      · have e := U_mono (rdB D n) (show p + 1 ≤ (D 12 0).toNat by omega)
        rw [U_s, zb_t q3] at e
        have := (U_b (rdB D n) p).1
        omega
      · rw [rdB_k _ _ (by omega), rdB_k _ _ (by omega), rdB_k _ _ (by omega)]
      · by_cases e : o = 17
        · subst e
          rw [rdB_s, rdB_s]
          have hc2 : (c : Int) < D 12 0 := hc
          refine (zb_c ?_).symm
          rw [h3 c hc2, q1]
          obtain ⟨q, hq, e⟩ := WFo_sj w.2.2.2.2.2 hc2
          subst e
          have hR := Rd_at wn.2.2.2.2.2 (x := 1) (p := q) hq
          have e19 : ∀ i, (rdB D n) 19 i = D 19 i := fun i => rdB_k D n (by decide) i
          rw [e19, rdB_s, zb_0] at hR
          rw [hR, e19]
          constructor
          · intro z
            rcases Nat.lt_trichotomy q p with t | t | t
            · have z2 := q4 q t
              rw [e19, rdB_s] at z2
              exact Or.inl (zb_n.mp z2)
            · subst t; exact Or.inr rfl
            · have z2 := U_mono (rdB D n) (show p + 1 ≤ q from t)
              rw [U_s, zb_t q3] at z2
              have := (U_b (rdB D n) p).1
              rcases z with z | z
              · exact Or.inl (Classical.not_not.mp z)
              · omega
          · rintro (z | z)
            · exact Or.inl (fun y => y z)
            · have := WFo_inj w.2.2.2.2.2 hq hp2 z
              subst this
              refine Or.inr ?_
              rw [U_cons q4]; omega
        · rw [rdB_k _ _ e, rdB_k _ _ e, rdB_k _ _ e]
theorem rk_ah {D : zBk} {r : Nat} (h : (r : Int) + 1 < D 1 0) : ∃ a b : Nat, rkP D (Ht D) (r : Int) = (a : Int) ∧ rkP D (Ht D) ((r : Int) + 1) = (b : Int) ∧ (a : Int) < D 1 0 ∧ (b : Int) < D 1 0 ∧ ahd D (Ht D) a b := by
  obtain ⟨o, ho⟩ := rk_ex D (Ht D)
  have e1 : rkP D (Ht D) ((r : Nat) : Int) = _ := ordOK_at ho (i := r) (by omega)
  have e2 : rkP D (Ht D) ((r + 1 : Nat) : Int) = _ := ordOK_at ho (i := r + 1) (by omega)
  have b1 := ho.1 r (by omega)
  have b2 := ho.1 (r + 1) (by omega)
  exact ⟨_, _, e1, e2, by omega, by omega, ho.2.1 r (r + 1) (by omega) (by omega)⟩
theorem ov_back {D : zBk} {o c : Nat} {v u : Int} (h : D o c = u) : lEq (ov (ov D o c v) o c u) D := by
  have e : ov (ov D o c v) o c u = D := by
    funext o' i'
    unfold ov
    by_cases q : o' = o ∧ i' = c
    · rw [if_pos q, q.1, q.2, h]
    · rw [if_neg q, if_neg q]
  rw [e]
  exact ⟨⟨rfl, rfl, rfl, rfl⟩, fun _ _ _ _ _ => rfl, fun _ _ => ⟨rfl, rfl⟩, fun _ _ => ⟨rfl, rfl⟩, fun _ _ _ _ _ => rfl⟩



