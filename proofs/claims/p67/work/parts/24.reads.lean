
section ZG
variable {l : Launch} {w : zW} {m : zM} {M : zMo} {pc k : Nat} {ls st : List zV} {σ : zS}
/-- a number in a local under another name of the same int -/
theorem zps_re {w : zW} : ∀ (ls ls' : List zV) (i : Nat), ls.length = ls'.length → (∀ (j : Nat) (v : zV), ls[j]? = some v → ∃ v' : zV, ls'[j]? = some v' ∧ zc w v = zc w v' ∧ zlive v = zlive v') → zps w i ls = zps w i ls'
  | [], [], _, _, _ => rfl
  | v :: r, v' :: r', i, h1, h2 => by
    obtain ⟨x, e1, e2, e3⟩ := h2 0 v rfl
    cases e1
    have ih := zps_re r r' (i + 1) (by simpa using h1) (fun j x hx => h2 (j + 1) x hx)
    simp only [zps]
    rw [e2, e3, ih]
theorem zy_re {j : Nat} {a b : Int} (ls' : List zV) (hj : ls[j]? = some (zi a)) (hab : Int32.ofInt a = Int32.ofInt b) (hs : ls.set j (zi b) = ls') (kk : zX l w m M pc ls' st k σ) : zX l w m M pc ls st k σ := by
  subst hs
  intro p e s mid args below meth c C H locs Ls hR hS hl hol hos hc hs
  have e1 : zps w 0 ls = zps w 0 (ls.set j (zi b)) := by
    refine zps_re _ _ 0 (by simp) (fun i v hv => ?_)
    by_cases q : i = j
    · subst q
      rw [hj] at hv
      cases hv
      exact ⟨zi b, List.getElem?_set_self (List.getElem?_eq_some_iff.mp hj).1, congrArg Value.int hab, rfl⟩
    · exact ⟨v, by rw [List.getElem?_set_ne (fun z => q z.symm)]; exact hv, rfl, rfl⟩
  rw [e1] at hl
  exact kk p e s mid args below meth c C H locs Ls hR hS hl (zok_set trivial hol) hos hc hs
end ZG
def qA (k : Nat) : Prop := k = 262 ∨ k = 265 ∨ k = 267 ∨ k = 268
def qF (i : Nat) : Prop := i = 6 ∨ (9 ≤ i ∧ i ≤ 11) ∨ i = 13 ∨ i = 14
def QP (D : zBk) (σ τ : zS) : Prop := mfr σ τ qA qF ∧ Rel D (τ.1 262)
theorem QP_tr {D D' : zBk} {σ τ υ : zS} (h : QP D σ τ) (h' : QP D' τ υ) : QP D' σ υ := ⟨mfr_tr h.1 h'.1 (fun _ q => q.elim id id) (fun _ q => q.elim id id), h'.2⟩
theorem QP_th {D : zBk} {σ : zS} {v : Int} (h : Rel D (σ.1 262)) : QP D σ (zput σ 261 6 v) := ⟨mfr_mo (mfr_put261 (mfr_rf σ qA qF)) (fun _ q => q) (fun i q => q.elim id (fun e => Or.inl e)), Rel_put (by decide) h⟩
theorem QP_m {D : zBk} {σ τ : zS} {A F : Nat → Prop} (h : mfr σ τ A F) (hR : Rel D (σ.1 262)) (h0 : ¬ A 262) (ha : ∀ k, A k → qA k) (hf : ∀ k, F k → qF k) : QP D σ τ := ⟨mfr_mo h ha hf, mfr_R h h0 hR⟩
theorem QP_a {D : zBk} {σ τ υ : zS} {A F : Nat → Prop} (h : QP D σ τ) (h' : mfr τ υ A F) (h0 : ¬ A 262) (ha : ∀ k, A k → qA k) (hf : ∀ k, F k → qF k) : QP D σ υ := QP_tr h (QP_m h' h.2 h0 ha hf)
/-! judgements of other books -/
theorem Ht_rd {D : zBk} {n : Int} {c : Nat} (_ : (c : Int) < (rdB D n) 12 0) : Ht (rdB D n) c ↔ Hd D n (-1) c := by
  unfold Ht Hd
  rw [rdB_s, rdB_k D n (by decide : (18 : Nat) ≠ 17)]
  exact ⟨fun q => ⟨zb_n.mp q.1, q.2, by omega⟩, fun q => ⟨zb_n.mpr q.1, q.2.1⟩⟩
theorem wP_rd (D : zBk) (n : Int) : wP (rdB D n) (Ht (rdB D n)) = wP D (Hd D n (-1)) := (wP_hc (D := rdB D n) (fun c hc => Ht_rd hc)).trans rfl
theorem wY_rd (D : zBk) (n : Int) : wY (rdB D n) (Ht (rdB D n)) = wY D (Hd D n (-1)) := (wY_hc (D := rdB D n) (fun c hc => Ht_rd hc)).trans rfl
theorem Ht_as {D : zBk} (w : WF D) {a c : Nat} (hc : (c : Int) < (ov D 18 a 1) 12 0) : Ht (ov D 18 a 1) c ↔ Hd D 0 a c := by
  have h0 := Hd_Ht w (c := c) hc
  unfold Ht Hd at *
  rw [ov_k D 18 a 1 (by decide : (17 : Nat) ≠ 18)]
  by_cases e : c = a
  · subst e
    rw [ov_s]
    exact ⟨fun q => absurd q.2 (by decide), fun q => absurd rfl q.2.2⟩
  · rw [ov_i D 18 a 1 e]
    constructor
    · intro q; exact ⟨(h0.mpr q).1, q.2, by omega⟩
    · intro q; exact h0.mp ⟨q.1, q.2.1, by omega⟩
theorem wP_as {D : zBk} (w : WF D) (a : Nat) : wP (ov D 18 a 1) (Ht (ov D 18 a 1)) = wP D (Hd D 0 a) := (wP_hc (D := ov D 18 a 1) (fun c hc => Ht_as w hc)).trans rfl
noncomputable def cfd (D : zBk) : UInt64 := if cW D = 0 then FP.dconst0 else FP.ddiv (FP.i2d (Int32.ofInt (wS D (Ht D)))) (FP.i2d (Int32.ofInt (cW D)))
theorem dec_b {D : zBk} (w : WF D) (h1 : 1 ≤ D 1 0) {c : Nat} : works D (wP D (Ht D)) (wY D (Ht D)) := by
  have := tR_b (H := Ht D) w (wP_l (H := Ht D) w h1)
  unfold works wY
  exact this
theorem opn_e {D : zBk} (w : WF D) (h1 : 1 ≤ D 1 0) (c : Nat) : (Ht D c ∧ ¬ (works D (wP D (Ht D)) (wY D (Ht D)) ∧ cFit D (wP D (Ht D)) (wY D (Ht D)) c)) ↔ opn D c := by
  have := dec_b w h1 (c := 0)
  unfold opn
  exact ⟨fun q => ⟨q.1, fun z => q.2 ⟨this, z⟩⟩, fun q => ⟨q.1, fun z => q.2 z.2⟩⟩
theorem opn_ef {D : zBk} (w : WF D) (h1 : 1 ≤ D 1 0) : (fun c => Ht D c ∧ ¬ (works D (wP D (Ht D)) (wY D (Ht D)) ∧ cFit D (wP D (Ht D)) (wY D (Ht D)) c)) = opn D := funext (fun c => propext (opn_e w h1 c))
/-- the counting weight is what the verdict explains and what stays open -/
theorem cW_e {D : zBk} (w : WF D) (h1 : 1 ≤ D 1 0) : cW D = wS D (Ht D) + zs (fun c => zif (opn D c) (D 16 c)) (D 12 0).toNat := by
  unfold cW wS tS sc
  rw [← zs_add]
  refine zs_congr (fun c _ => ?_)
  have hy : wY D (Ht D) = 1450 + ((tR D (Ht D) (wP D (Ht D)) : Nat) : Int) := rfl
  rw [← hy]
  by_cases a : Ht D c
  · by_cases b : cFit D (wP D (Ht D)) (wY D (Ht D)) c
    · rw [zif_t a, zif_t ⟨a, b⟩, zif_f (fun q => q.2 b), Int.add_zero]
    · rw [zif_t a, zif_f (fun q => b q.2), zif_t ⟨a, b⟩, Int.zero_add]
  · rw [zif_f a, zif_f (fun q => a q.1), zif_f (fun q => a q.1)]; rfl
theorem cW_b {D : zBk} (w : WF D) : 0 ≤ cW D ∧ cW D ≤ 360 := wt_b w _
theorem wS_b {D : zBk} (w : WF D) : 0 ≤ wS D (Ht D) ∧ wS D (Ht D) ≤ 360 := wt_b w _

theorem nx_a {D : zBk} {c : Nat} {f : Int} (h : (f = -1 ∧ ∀ j : Nat, j < c → ¬ D 17 j = 0) ∨ (0 ≤ f ∧ f < c ∧ D 17 f.toNat = 0 ∧ ∀ j : Nat, j < c → D 17 j = 0 → j = f.toNat ∨ bef D f.toNat j)) (h1 : ¬ D 17 c = 0) :
    (f = -1 ∧ ∀ j : Nat, j < c + 1 → ¬ D 17 j = 0) ∨ (0 ≤ f ∧ f < ((c + 1 : Nat) : Int) ∧ D 17 f.toNat = 0 ∧ ∀ j : Nat, j < c + 1 → D 17 j = 0 → j = f.toNat ∨ bef D f.toNat j) := by
  rcases h with ⟨a, b⟩ | ⟨a, b, d, e⟩
  · exact Or.inl ⟨a, lt_s b h1⟩
  · refine Or.inr ⟨a, by omega, d, fun j hj hu => ?_⟩
    rcases Nat.lt_succ_iff_lt_or_eq.mp hj with q | rfl
    · exact e j q hu
    · exact absurd hu h1
theorem nx_b {D : zBk} {c : Nat} {f : Int} (h : (f = -1 ∧ ∀ j : Nat, j < c → ¬ D 17 j = 0) ∨ (0 ≤ f ∧ f < c ∧ D 17 f.toNat = 0 ∧ ∀ j : Nat, j < c → D 17 j = 0 → j = f.toNat ∨ bef D f.toNat j)) (h1 : D 17 c = 0) (h2 : f = -1) :
    ((c : Int) = -1 ∧ ∀ j : Nat, j < c + 1 → ¬ D 17 j = 0) ∨ (0 ≤ (c : Int) ∧ (c : Int) < ((c + 1 : Nat) : Int) ∧ D 17 (c : Int).toNat = 0 ∧ ∀ j : Nat, j < c + 1 → D 17 j = 0 → j = (c : Int).toNat ∨ bef D (c : Int).toNat j) := by
  rcases h with ⟨a, b⟩ | ⟨a, b, d, e⟩
  · refine Or.inr ⟨by omega, by omega, h1, fun j hj hu => ?_⟩
    rcases Nat.lt_succ_iff_lt_or_eq.mp hj with q | rfl
    · exact absurd hu (b j q)
    · exact Or.inl rfl
  · omega
theorem nx_c {D : zBk} {c : Nat} {f : Int} (h : (f = -1 ∧ ∀ j : Nat, j < c → ¬ D 17 j = 0) ∨ (0 ≤ f ∧ f < c ∧ D 17 f.toNat = 0 ∧ ∀ j : Nat, j < c → D 17 j = 0 → j = f.toNat ∨ bef D f.toNat j)) (h1 : D 17 c = 0) (h2 : ¬ f = -1) (h3 : bef D c f.toNat) :
    ((c : Int) = -1 ∧ ∀ j : Nat, j < c + 1 → ¬ D 17 j = 0) ∨ (0 ≤ (c : Int) ∧ (c : Int) < ((c + 1 : Nat) : Int) ∧ D 17 (c : Int).toNat = 0 ∧ ∀ j : Nat, j < c + 1 → D 17 j = 0 → j = (c : Int).toNat ∨ bef D (c : Int).toNat j) := by
  rcases h with ⟨a, b⟩ | ⟨a, b, d, e⟩
  · exact absurd a h2
  · refine Or.inr ⟨by omega, by omega, h1, fun j hj hu => ?_⟩
    rcases Nat.lt_succ_iff_lt_or_eq.mp hj with q | rfl
    · refine Or.inr ?_
      rcases e j q hu with rfl | z
      · exact h3
      · show bef D c j
        unfold bef at *; omega
    · exact Or.inl rfl
theorem nx_d {D : zBk} {c : Nat} {f : Int} (h : (f = -1 ∧ ∀ j : Nat, j < c → ¬ D 17 j = 0) ∨ (0 ≤ f ∧ f < c ∧ D 17 f.toNat = 0 ∧ ∀ j : Nat, j < c → D 17 j = 0 → j = f.toNat ∨ bef D f.toNat j)) (h1 : D 17 c = 0) (h2 : ¬ f = -1) (h3 : ¬ bef D c f.toNat) :
    (f = -1 ∧ ∀ j : Nat, j < c + 1 → ¬ D 17 j = 0) ∨ (0 ≤ f ∧ f < ((c + 1 : Nat) : Int) ∧ D 17 f.toNat = 0 ∧ ∀ j : Nat, j < c + 1 → D 17 j = 0 → j = f.toNat ∨ bef D f.toNat j) := by
  rcases h with ⟨a, b⟩ | ⟨a, b, d, e⟩
  · exact absurd a h2
  · refine Or.inr ⟨a, by omega, d, fun j hj hu => ?_⟩
    rcases Nat.lt_succ_iff_lt_or_eq.mp hj with q | rfl
    · exact e j q hu
    · refine Or.inr ?_
      unfold bef at *; omega
theorem rd_lEq {D : zBk} {n : Int} {m : Int} {u : Nat} (hm : m = n + 1) (h : ∀ d : Nat, (d : Int) < D 12 0 → (Rd D (n + 1) d ↔ (Rd D n d ∨ d = u))) : lEq (ov (rdB D n) (13 + 4) u 1) (rdB D m) := by
  subst hm
  refine ⟨⟨rfl, rfl, rfl, rfl⟩, fun p _ o h1 h2 => ?_, fun q _ => ⟨rfl, rfl⟩, fun q _ => ⟨rfl, rfl⟩, fun c hc o h1 h2 => ?_⟩
  · rw [rdB_k _ _ (by omega), ov_k _ _ _ _ (by omega), rdB_k _ _ (by omega)]
  · by_cases e : o = 17
    · subst e
      rw [rdB_s]
      have hc2 : (c : Int) < D 12 0 := hc
      by_cases e2 : c = u
      · rw [e2, show ov (rdB D n) (13 + 4) u 1 17 u = 1 from ov_s _ _ _ _]
        exact zb_t ((h u (by omega)).mpr (Or.inr rfl))
      · rw [ov_i _ _ _ _ e2, rdB_s]
        exact zb_c ⟨fun q => ((h c hc2).mp q).resolve_right e2, fun q => (h c hc2).mpr (Or.inl q)⟩
    · rw [rdB_k _ _ e, ov_k _ _ _ _ (by omega), rdB_k _ _ e]
theorem rd_sat {D : zBk} {n m : Int} (h : ∀ c : Nat, (c : Int) < D 12 0 → Rd D n c) (hm : n ≤ m) : lEq (rdB D n) (rdB D m) := by
  refine ⟨⟨rfl, rfl, rfl, rfl⟩, fun p _ o h1 h2 => ?_, fun q _ => ⟨rfl, rfl⟩, fun q _ => ⟨rfl, rfl⟩, fun c hc o h1 h2 => ?_⟩
  · rw [rdB_k _ _ (by omega), rdB_k _ _ (by omega)]
  · by_cases e : o = 17
    · subst e
      rw [rdB_s, rdB_s, zb_t (Rd_all h hm c hc), zb_t (h c hc)]
    · rw [rdB_k _ _ e, rdB_k _ _ e]



