abbrev mX10_nextUnread : zM := (yX10_nextUnread, cX10_nextUnread, 3, (some .int), [])
theorem okX10_nextUnread : zMok mX10_nextUnread 0 := ⟨by decide, by decide, by decide +kernel⟩
theorem dX10_nextUnread_0 : decode cX10_nextUnread 0 = .ok (.iconst (-1), 1) := by decide +kernel
theorem dX10_nextUnread_1 : decode cX10_nextUnread 1 = .ok (.istore_n 1, 1) := by decide +kernel
theorem dX10_nextUnread_2 : decode cX10_nextUnread 2 = .ok (.iconst 0, 1) := by decide +kernel
theorem dX10_nextUnread_3 : decode cX10_nextUnread 3 = .ok (.istore_n 2, 1) := by decide +kernel
theorem dX10_nextUnread_4 : decode cX10_nextUnread 4 = .ok (.iload_n 2, 1) := by decide +kernel
theorem dX10_nextUnread_5 : decode cX10_nextUnread 5 = .ok (.aload_n 0, 1) := by decide +kernel
theorem dX10_nextUnread_6 : decode cX10_nextUnread 6 = .ok (.getfield 7, 3) := by decide +kernel
theorem dX10_nextUnread_9 : decode cX10_nextUnread 9 = .ok (.iconst 3, 1) := by decide +kernel
theorem dX10_nextUnread_10 : decode cX10_nextUnread 10 = .ok (.iaload, 1) := by decide +kernel
theorem dX10_nextUnread_11 : decode cX10_nextUnread 11 = .ok (.if_icmp .ge 34, 3) := by decide +kernel
theorem dX10_nextUnread_45 : decode cX10_nextUnread 45 = .ok (.iload_n 1, 1) := by decide +kernel
theorem dX10_nextUnread_46 : decode cX10_nextUnread 46 = .ok (.ireturn, 1) := by decide +kernel
theorem dX10_nextUnread_14 : decode cX10_nextUnread 14 = .ok (.aload_n 0, 1) := by decide +kernel
theorem dX10_nextUnread_15 : decode cX10_nextUnread 15 = .ok (.iload_n 2, 1) := by decide +kernel
theorem dX10_nextUnread_16 : decode cX10_nextUnread 16 = .ok (.iconst 4, 1) := by decide +kernel
theorem dX10_nextUnread_17 : decode cX10_nextUnread 17 = .ok (.invokevirtual 102, 3) := by decide +kernel
theorem dX10_nextUnread_20 : decode cX10_nextUnread 20 = .ok (.ifCond .ne 19, 3) := by decide +kernel
theorem dX10_nextUnread_39 : decode cX10_nextUnread 39 = .ok (.iinc 2 1, 3) := by decide +kernel
theorem dX10_nextUnread_42 : decode cX10_nextUnread 42 = .ok (.goto (-38), 3) := by decide +kernel
theorem dX10_nextUnread_23 : decode cX10_nextUnread 23 = .ok (.iload_n 1, 1) := by decide +kernel
theorem dX10_nextUnread_24 : decode cX10_nextUnread 24 = .ok (.iconst (-1), 1) := by decide +kernel
theorem dX10_nextUnread_25 : decode cX10_nextUnread 25 = .ok (.if_icmp .eq 12, 3) := by decide +kernel
theorem dX10_nextUnread_37 : decode cX10_nextUnread 37 = .ok (.iload_n 2, 1) := by decide +kernel
theorem dX10_nextUnread_38 : decode cX10_nextUnread 38 = .ok (.istore_n 1, 1) := by decide +kernel
theorem dX10_nextUnread_28 : decode cX10_nextUnread 28 = .ok (.aload_n 0, 1) := by decide +kernel
theorem dX10_nextUnread_29 : decode cX10_nextUnread 29 = .ok (.iload_n 2, 1) := by decide +kernel
theorem dX10_nextUnread_30 : decode cX10_nextUnread 30 = .ok (.iload_n 1, 1) := by decide +kernel
theorem dX10_nextUnread_31 : decode cX10_nextUnread 31 = .ok (.invokevirtual 169, 3) := by decide +kernel
theorem dX10_nextUnread_34 : decode cX10_nextUnread 34 = .ok (.ifCond .eq 5, 3) := by decide +kernel
abbrev mX10_reads : zM := (yX10_reads, cX10_reads, 3, (some .int), [])
theorem okX10_reads : zMok mX10_reads 1 := ⟨by decide, by decide, by decide +kernel⟩
theorem dX10_reads_0 : decode cX10_reads 0 = .ok (.iconst 0, 1) := by decide +kernel
theorem dX10_reads_1 : decode cX10_reads 1 = .ok (.istore_n 2, 1) := by decide +kernel
theorem dX10_reads_2 : decode cX10_reads 2 = .ok (.iload_n 2, 1) := by decide +kernel
theorem dX10_reads_3 : decode cX10_reads 3 = .ok (.iload_n 1, 1) := by decide +kernel
theorem dX10_reads_4 : decode cX10_reads 4 = .ok (.if_icmp .ge 27, 3) := by decide +kernel
theorem dX10_reads_31 : decode cX10_reads 31 = .ok (.iload_n 2, 1) := by decide +kernel
theorem dX10_reads_32 : decode cX10_reads 32 = .ok (.ireturn, 1) := by decide +kernel
theorem dX10_reads_7 : decode cX10_reads 7 = .ok (.aload_n 0, 1) := by decide +kernel
theorem dX10_reads_8 : decode cX10_reads 8 = .ok (.invokevirtual 172, 3) := by decide +kernel
theorem cw_RX10_172 : zCwV RX10 172 mX10_nextUnread := zall [1808, 1810, 62, 128, 1811] (by decide +kernel) (by decide +kernel)
theorem dX10_reads_11 : decode cX10_reads 11 = .ok (.iconst (-1), 1) := by decide +kernel
theorem dX10_reads_12 : decode cX10_reads 12 = .ok (.if_icmp .eq 19, 3) := by decide +kernel
theorem dX10_reads_15 : decode cX10_reads 15 = .ok (.aload_n 0, 1) := by decide +kernel
theorem dX10_reads_16 : decode cX10_reads 16 = .ok (.aload_n 0, 1) := by decide +kernel
theorem dX10_reads_17 : decode cX10_reads 17 = .ok (.invokevirtual 172, 3) := by decide +kernel
theorem dX10_reads_20 : decode cX10_reads 20 = .ok (.iconst 4, 1) := by decide +kernel
theorem dX10_reads_21 : decode cX10_reads 21 = .ok (.iconst 1, 1) := by decide +kernel
theorem dX10_reads_22 : decode cX10_reads 22 = .ok (.invokevirtual 175, 3) := by decide +kernel
theorem cw_RX10_175 : zCwV RX10 175 mX10_puts := zall [1641, 1643, 49, 128, 1644] (by decide +kernel) (by decide +kernel)
theorem dX10_reads_25 : decode cX10_reads 25 = .ok (.iinc 2 1, 3) := by decide +kernel
theorem dX10_reads_28 : decode cX10_reads 28 = .ok (.goto (-26), 3) := by decide +kernel
section ZG
variable {l : Launch} {w : zW} {m : zM} {M : zMo} {pc k : Nat} {ls st : List zV} {σ : zS}
/-- a number in a local under another name of the same int -/
theorem zps_re {w : zW} : ∀ (ls ls' : List zV) (i : Nat), ls.length = ls'.length → (∀ (j : Nat) (v : zV), ls[j]? = some v → ∃ v' : zV, ls'[j]? = some v' ∧ zc w v = zc w v' ∧ zlive v = zlive v') → zps w i ls = zps w i ls'
  | [], [], _, _, _ => rfl
  | v :: r, v' :: r', i, h1, h2 => by
    obtain ⟨x, e1, e2, e3⟩ := h2 0 v rfl
    cases e1
    have ih := zps_re r r' (i + 1) (by simpa using h1) (fun j x hx => h2 (j + 1) x hx)
    simp only [zps]
    rw [e2, e3, ih]
theorem zy_re {j : Nat} {a b : Int} (ls' : List zV) (hj : ls[j]? = some (zi a)) (hab : Int32.ofInt a = Int32.ofInt b) (hs : ls.set j (zi b) = ls') (kk : zX l w m M pc ls' st k σ) : zX l w m M pc ls st k σ := by
  subst hs
  intro p e s mid args below meth c C H locs Ls hR hS hl hol hos hc hs
  have e1 : zps w 0 ls = zps w 0 (ls.set j (zi b)) := by
    refine zps_re _ _ 0 (by simp) (fun i v hv => ?_)
    by_cases q : i = j
    · subst q
      rw [hj] at hv
      cases hv
      exact ⟨zi b, List.getElem?_set_self (List.getElem?_eq_some_iff.mp hj).1, congrArg Value.int hab, rfl⟩
    · exact ⟨v, by rw [List.getElem?_set_ne (fun z => q z.symm)]; exact hv, rfl, rfl⟩
  rw [e1] at hl
  exact kk p e s mid args below meth c C H locs Ls hR hS hl (zok_set trivial hol) hos hc hs
end ZG
def qA (k : Nat) : Prop := k = 262 ∨ k = 265 ∨ k = 267 ∨ k = 268
def qF (i : Nat) : Prop := i = 6 ∨ (9 ≤ i ∧ i ≤ 11) ∨ i = 13 ∨ i = 14
def QP (D : zBk) (σ τ : zS) : Prop := mfr σ τ qA qF ∧ Rel D (τ.1 262)
theorem QP_tr {D D' : zBk} {σ τ υ : zS} (h : QP D σ τ) (h' : QP D' τ υ) : QP D' σ υ := ⟨mfr_tr h.1 h'.1 (fun _ q => q.elim id id) (fun _ q => q.elim id id), h'.2⟩
theorem QP_th {D : zBk} {σ : zS} {v : Int} (h : Rel D (σ.1 262)) : QP D σ (zput σ 261 6 v) := ⟨mfr_mo (mfr_put261 (mfr_rf σ qA qF)) (fun _ q => q) (fun i q => q.elim id (fun e => Or.inl e)), Rel_put (by decide) h⟩
theorem QP_m {D : zBk} {σ τ : zS} {A F : Nat → Prop} (h : mfr σ τ A F) (hR : Rel D (σ.1 262)) (h0 : ¬ A 262) (ha : ∀ k, A k → qA k) (hf : ∀ k, F k → qF k) : QP D σ τ := ⟨mfr_mo h ha hf, mfr_R h h0 hR⟩
theorem QP_a {D : zBk} {σ τ υ : zS} {A F : Nat → Prop} (h : QP D σ τ) (h' : mfr τ υ A F) (h0 : ¬ A 262) (ha : ∀ k, A k → qA k) (hf : ∀ k, F k → qF k) : QP D σ υ := QP_tr h (QP_m h' h.2 h0 ha hf)
/-! judgements of other books -/
theorem Ht_rd {D : zBk} {n : Int} {c : Nat} (_ : (c : Int) < (rdB D n) 12 0) : Ht (rdB D n) c ↔ Hd D n (-1) c := by
  unfold Ht Hd
  rw [rdB_s, rdB_k D n (by decide : (18 : Nat) ≠ 17)]
  exact ⟨fun q => ⟨zb_n.mp q.1, q.2, by omega⟩, fun q => ⟨zb_n.mpr q.1, q.2.1⟩⟩
theorem wP_rd (D : zBk) (n : Int) : wP (rdB D n) (Ht (rdB D n)) = wP D (Hd D n (-1)) := (wP_hc (D := rdB D n) (fun c hc => Ht_rd hc)).trans rfl
theorem wY_rd (D : zBk) (n : Int) : wY (rdB D n) (Ht (rdB D n)) = wY D (Hd D n (-1)) := (wY_hc (D := rdB D n) (fun c hc => Ht_rd hc)).trans rfl
theorem Ht_as {D : zBk} (w : WF D) {a c : Nat} (hc : (c : Int) < (ov D 18 a 1) 12 0) : Ht (ov D 18 a 1) c ↔ Hd D 0 a c := by
  have h0 := Hd_Ht w (c := c) hc
  unfold Ht Hd at *
  rw [ov_k D 18 a 1 (by decide : (17 : Nat) ≠ 18)]
  by_cases e : c = a
  · subst e
    rw [ov_s]
    exact ⟨fun q => absurd q.2 (by decide), fun q => absurd rfl q.2.2⟩
  · rw [ov_i D 18 a 1 e]
    constructor
    · intro q; exact ⟨(h0.mpr q).1, q.2, by omega⟩
    · intro q; exact h0.mp ⟨q.1, q.2.1, by omega⟩
theorem wP_as {D : zBk} (w : WF D) (a : Nat) : wP (ov D 18 a 1) (Ht (ov D 18 a 1)) = wP D (Hd D 0 a) := (wP_hc (D := ov D 18 a 1) (fun c hc => Ht_as w hc)).trans rfl
noncomputable def cfd (D : zBk) : UInt64 := if cW D = 0 then FP.dconst0 else FP.ddiv (FP.i2d (Int32.ofInt (wS D (Ht D)))) (FP.i2d (Int32.ofInt (cW D)))
theorem dec_b {D : zBk} (w : WF D) (h1 : 1 ≤ D 1 0) {c : Nat} : works D (wP D (Ht D)) (wY D (Ht D)) := by
  have := tR_b (H := Ht D) w (wP_l (H := Ht D) w h1)
  unfold works wY
  exact this
theorem opn_e {D : zBk} (w : WF D) (h1 : 1 ≤ D 1 0) (c : Nat) : (Ht D c ∧ ¬ (works D (wP D (Ht D)) (wY D (Ht D)) ∧ cFit D (wP D (Ht D)) (wY D (Ht D)) c)) ↔ opn D c := by
  have := dec_b w h1 (c := 0)
  unfold opn
  exact ⟨fun q => ⟨q.1, fun z => q.2 ⟨this, z⟩⟩, fun q => ⟨q.1, fun z => q.2 z.2⟩⟩
theorem opn_ef {D : zBk} (w : WF D) (h1 : 1 ≤ D 1 0) : (fun c => Ht D c ∧ ¬ (works D (wP D (Ht D)) (wY D (Ht D)) ∧ cFit D (wP D (Ht D)) (wY D (Ht D)) c)) = opn D := funext (fun c => propext (opn_e w h1 c))
/-- the counting weight is what the verdict explains and what stays open -/
theorem cW_e {D : zBk} (w : WF D) (h1 : 1 ≤ D 1 0) : cW D = wS D (Ht D) + zs (fun c => zif (opn D c) (D 16 c)) (D 12 0).toNat := by
  unfold cW wS tS sc
  rw [← zs_add]
  refine zs_congr (fun c _ => ?_)
  have hy : wY D (Ht D) = 1450 + ((tR D (Ht D) (wP D (Ht D)) : Nat) : Int) := rfl
  rw [← hy]
  by_cases a : Ht D c
  · by_cases b : cFit D (wP D (Ht D)) (wY D (Ht D)) c
    · rw [zif_t a, zif_t ⟨a, b⟩, zif_f (fun q => q.2 b), Int.add_zero]
    · rw [zif_t a, zif_f (fun q => b q.2), zif_t ⟨a, b⟩, Int.zero_add]
  · rw [zif_f a, zif_f (fun q => a q.1), zif_f (fun q => a q.1)]; rfl
theorem cW_b {D : zBk} (w : WF D) : 0 ≤ cW D ∧ cW D ≤ 360 := wt_b w _
theorem wS_b {D : zBk} (w : WF D) : 0 ≤ wS D (Ht D) ∧ wS D (Ht D) ≤ 360 := wt_b w _

theorem nx_a {D : zBk} {c : Nat} {f : Int} (h : (f = -1 ∧ ∀ j : Nat, j < c → ¬ D 17 j = 0) ∨ (0 ≤ f ∧ f < c ∧ D 17 f.toNat = 0 ∧ ∀ j : Nat, j < c → D 17 j = 0 → j = f.toNat ∨ bef D f.toNat j)) (h1 : ¬ D 17 c = 0) :
    (f = -1 ∧ ∀ j : Nat, j < c + 1 → ¬ D 17 j = 0) ∨ (0 ≤ f ∧ f < ((c + 1 : Nat) : Int) ∧ D 17 f.toNat = 0 ∧ ∀ j : Nat, j < c + 1 → D 17 j = 0 → j = f.toNat ∨ bef D f.toNat j) := by
  rcases h with ⟨a, b⟩ | ⟨a, b, d, e⟩
  · exact Or.inl ⟨a, lt_s b h1⟩
  · refine Or.inr ⟨a, by omega, d, fun j hj hu => ?_⟩
    rcases Nat.lt_succ_iff_lt_or_eq.mp hj with q | rfl
    · exact e j q hu
    · exact absurd hu h1
theorem nx_b {D : zBk} {c : Nat} {f : Int} (h : (f = -1 ∧ ∀ j : Nat, j < c → ¬ D 17 j = 0) ∨ (0 ≤ f ∧ f < c ∧ D 17 f.toNat = 0 ∧ ∀ j : Nat, j < c → D 17 j = 0 → j = f.toNat ∨ bef D f.toNat j)) (h1 : D 17 c = 0) (h2 : f = -1) :
    ((c : Int) = -1 ∧ ∀ j : Nat, j < c + 1 → ¬ D 17 j = 0) ∨ (0 ≤ (c : Int) ∧ (c : Int) < ((c + 1 : Nat) : Int) ∧ D 17 (c : Int).toNat = 0 ∧ ∀ j : Nat, j < c + 1 → D 17 j = 0 → j = (c : Int).toNat ∨ bef D (c : Int).toNat j) := by
  rcases h with ⟨a, b⟩ | ⟨a, b, d, e⟩
  · refine Or.inr ⟨by omega, by omega, h1, fun j hj hu => ?_⟩
    rcases Nat.lt_succ_iff_lt_or_eq.mp hj with q | rfl
    · exact absurd hu (b j q)
    · exact Or.inl rfl
  · omega
theorem nx_c {D : zBk} {c : Nat} {f : Int} (h : (f = -1 ∧ ∀ j : Nat, j < c → ¬ D 17 j = 0) ∨ (0 ≤ f ∧ f < c ∧ D 17 f.toNat = 0 ∧ ∀ j : Nat, j < c → D 17 j = 0 → j = f.toNat ∨ bef D f.toNat j)) (h1 : D 17 c = 0) (h2 : ¬ f = -1) (h3 : bef D c f.toNat) :
    ((c : Int) = -1 ∧ ∀ j : Nat, j < c + 1 → ¬ D 17 j = 0) ∨ (0 ≤ (c : Int) ∧ (c : Int) < ((c + 1 : Nat) : Int) ∧ D 17 (c : Int).toNat = 0 ∧ ∀ j : Nat, j < c + 1 → D 17 j = 0 → j = (c : Int).toNat ∨ bef D (c : Int).toNat j) := by
  rcases h with ⟨a, b⟩ | ⟨a, b, d, e⟩
  · exact absurd a h2
  · refine Or.inr ⟨by omega, by omega, h1, fun j hj hu => ?_⟩
    rcases Nat.lt_succ_iff_lt_or_eq.mp hj with q | rfl
    · refine Or.inr ?_
      rcases e j q hu with rfl | z
      · exact h3
      · show bef D c j
        unfold bef at *; omega
    · exact Or.inl rfl
theorem nx_d {D : zBk} {c : Nat} {f : Int} (h : (f = -1 ∧ ∀ j : Nat, j < c → ¬ D 17 j = 0) ∨ (0 ≤ f ∧ f < c ∧ D 17 f.toNat = 0 ∧ ∀ j : Nat, j < c → D 17 j = 0 → j = f.toNat ∨ bef D f.toNat j)) (h1 : D 17 c = 0) (h2 : ¬ f = -1) (h3 : ¬ bef D c f.toNat) :
    (f = -1 ∧ ∀ j : Nat, j < c + 1 → ¬ D 17 j = 0) ∨ (0 ≤ f ∧ f < ((c + 1 : Nat) : Int) ∧ D 17 f.toNat = 0 ∧ ∀ j : Nat, j < c + 1 → D 17 j = 0 → j = f.toNat ∨ bef D f.toNat j) := by
  rcases h with ⟨a, b⟩ | ⟨a, b, d, e⟩
  · exact absurd a h2
  · refine Or.inr ⟨a, by omega, d, fun j hj hu => ?_⟩
    rcases Nat.lt_succ_iff_lt_or_eq.mp hj with q | rfl
    · exact e j q hu
    · refine Or.inr ?_
      unfold bef at *; omega
theorem rd_lEq {D : zBk} {n : Int} {m : Int} {u : Nat} (hm : m = n + 1) (h : ∀ d : Nat, (d : Int) < D 12 0 → (Rd D (n + 1) d ↔ (Rd D n d ∨ d = u))) : lEq (ov (rdB D n) (13 + 4) u 1) (rdB D m) := by
  subst hm
  refine ⟨⟨rfl, rfl, rfl, rfl⟩, fun p _ o h1 h2 => ?_, fun q _ => ⟨rfl, rfl⟩, fun q _ => ⟨rfl, rfl⟩, fun c hc o h1 h2 => ?_⟩
  · rw [rdB_k _ _ (by omega), ov_k _ _ _ _ (by omega), rdB_k _ _ (by omega)]
  · by_cases e : o = 17
    · subst e
      rw [rdB_s]
      have hc2 : (c : Int) < D 12 0 := hc
      by_cases e2 : c = u
      · rw [e2, show ov (rdB D n) (13 + 4) u 1 17 u = 1 from ov_s _ _ _ _]
        exact zb_t ((h u (by omega)).mpr (Or.inr rfl))
      · rw [ov_i _ _ _ _ e2, rdB_s]
        exact zb_c ⟨fun q => ((h c hc2).mp q).resolve_right e2, fun q => (h c hc2).mpr (Or.inl q)⟩
    · rw [rdB_k _ _ e, ov_k _ _ _ _ (by omega), rdB_k _ _ e]
theorem rd_sat {D : zBk} {n m : Int} (h : ∀ c : Nat, (c : Int) < D 12 0 → Rd D n c) (hm : n ≤ m) : lEq (rdB D n) (rdB D m) := by
  refine ⟨⟨rfl, rfl, rfl, rfl⟩, fun p _ o h1 h2 => ?_, fun q _ => ⟨rfl, rfl⟩, fun q _ => ⟨rfl, rfl⟩, fun c hc o h1 h2 => ?_⟩
  · rw [rdB_k _ _ (by omega), rdB_k _ _ (by omega)]
  · by_cases e : o = 17
    · subst e
      rw [rdB_s, rdB_s, zb_t (Rd_all h hm c hc), zb_t (h c hc)]
    · rw [rdB_k _ _ e, rdB_k _ _ e]

set_option maxRecDepth 20000 in
set_option maxHeartbeats 2000000 in
theorem sX10_nextUnread {l : Launch} {w : zW} (hfl : l.stackTraces = false) {σ : zS} {D : zBk}  (hz : zOK σ) (hW : WF D) (hR : Rel D (σ.1 262)) : Sp l w mX10_nextUnread 2 0 [zf 10 261] σ (zret (zi (nxU D)) σ) := by
  obtain ⟨Q, hQ⟩ : ∃ Q : zQ, Q = (zret (zi (nxU D)) σ) := ⟨_, rfl⟩
  rw [← hQ]
  refine zx_enter hfl (by decide) rfl 2 rfl ?_
  show zX l w mX10_nextUnread (zMQ w 2 0 Q) 0 [zf 10 261, zu, zu] [] 0 σ
  have hP : 0 ≤ D 1 0 ∧ D 1 0 ≤ 8 := hW.1.1
  have hM : 0 ≤ D 1 7 ∧ D 1 7 ≤ 8 := hW.1.2.1
  have hE : 0 ≤ D 1 10 ∧ D 1 10 ≤ 12 := hW.1.2.2.1
  have hK : 0 ≤ D 12 0 ∧ D 12 0 ≤ 40 := hW.1.2.2.2
  have r0 : σ.1 262 0 = D 1 0 := hR.1.1
  have r1 : σ.1 262 1 = D 1 7 := hR.1.2.1
  have r2 : σ.1 262 2 = D 1 10 := hR.1.2.2.1
  have r3 : σ.1 262 3 = D 12 0 := hR.1.2.2.2
  have hb17 : ∀ c : Nat, (c : Int) < D 12 0 → D 17 c = 0 ∨ D 17 c = 1 := fun c hc => (hW.2.2.2.2.1 c hc).2.2.2.1
  refine zx_iconst dX10_nextUnread_0 ?_
  refine zy_istoreN [zf 10 261, zi (-1), zu] dX10_nextUnread_1 rfl (Nat.le_of_ble_eq_true rfl) (Nat.le_of_ble_eq_true rfl) rfl rfl ?_
  refine zx_iconst dX10_nextUnread_2 ?_
  refine zy_istoreN [zf 10 261, zi (-1), zi 0] dX10_nextUnread_3 rfl (Nat.le_of_ble_eq_true rfl) (Nat.le_of_ble_eq_true rfl) rfl rfl ?_
  have L4 : ∀ (N : Nat) (c : Nat) (f : Int), ((c : Int) ≤ D 12 0) → ((f = -1 ∧ ∀ j : Nat, j < c → ¬ D 17 j = 0) ∨ (0 ≤ f ∧ f < c ∧ D 17 f.toNat = 0 ∧ ∀ j : Nat, j < c → D 17 j = 0 → j = f.toNat ∨ bef D f.toNat j)) → (41 - c) < N → zX l w mX10_nextUnread (zMQ w 2 0 Q) 4 [zf 10 261, zi f, zi ((c : Nat) : Int)] [] 0 σ := by
    intro N
    induction N with
    | zero => intro c f _ _ _; exact absurd (by assumption) (Nat.not_lt_zero _)
    | succ N ih4 =>
      intro c f hc_ hf hN
      refine zx_iloadN dX10_nextUnread_4 rfl rfl ?_
      refine zx_aloadN dX10_nextUnread_5 rfl rfl ?_
      refine zy_getR (q' := 262) fl_RX10_7 rfl dX10_nextUnread_6 rfl ?_
      refine zx_iconst dX10_nextUnread_9 ?_
      refine zy_iald (v := σ.1 262 3) rfl (by decide) (by decide) dX10_nextUnread_10 (by omega) (by omega) rfl ?_
      refine zx_icmp_ge (tgt := 45) (by first | exact hz _ _ | assumption | exact zr_b _ | exact zcmp_r _ _ | (unfold zr at *; omega)) (by first | exact hz _ _ | assumption | exact zr_b _ | exact zcmp_r _ _ | (unfold zr at *; omega)) dX10_nextUnread_11 (by decide) (fun h11 => ?_) (fun h11 => ?_)
      · refine zx_iloadN dX10_nextUnread_45 rfl rfl ?_
        refine zx_iret rfl rfl dX10_nextUnread_46 ?_
        rw [hQ]
        refine ⟨congrArg (fun z : Int => (Sum.inl (some (zi z)) : Option zV ⊕ String)) ?_, by first | rfl | (exfalso; omega)⟩
        rcases hf with ⟨q1, q2⟩ | ⟨q1, q2, q3, q4⟩
        · rw [q1]; exact (nxU_no (fun j hj => q2 j (by omega)) hW).symm
        · rw [nxU_of hW (f := f.toNat) (by omega) q3 (fun j hj hu => q4 j (by omega) hu)]; omega
      · have hc : (c : Int) < D 12 0 := by omega
        have hz17 : zr (D 17 c) := by have := hb17 c hc; unfold zr; omega
        have hfr : -1 ≤ f ∧ f < 40 := by omega
        have hzf : zr f := by unfold zr; omega
        refine zx_aloadN dX10_nextUnread_14 rfl rfl ?_
        refine zx_iloadN dX10_nextUnread_15 rfl rfl ?_
        refine zx_iconst dX10_nextUnread_16 ?_
        refine zy_cv [zi ((c : Nat) : Int), zi 4] (sX10_of (D := D) (c := c) (o := 4) hfl hz (by first | assumption | omega) (by first | assumption | (refine Rel_put (by decide) ?_; assumption) | (refine Rel_put (by decide) (Rel_put (by decide) ?_); assumption) | (refine Rel_put (by decide) (Rel_put (by decide) (Rel_put (by decide) ?_)); assumption)) (by first | assumption | omega) (by first | assumption | omega)) dX10_nextUnread_17 (by decide) rfl cw_RX10_102 okX10_of rfl (Nat.le_of_ble_eq_true rfl) ⟨Nat.le_of_ble_eq_true rfl, Nat.le_of_ble_eq_true rfl, Nat.le_of_ble_eq_true rfl, Nat.le_of_ble_eq_true rfl⟩ ?_
        refine zy_top (b := D 17 c) rfl ?_
        refine zx_if_ne (tgt := 39) (by first | exact hz _ _ | assumption | exact zr_b _ | exact zcmp_r _ _ | (unfold zr at *; omega)) dX10_nextUnread_20 (by decide) (fun h20 => ?_) (fun h20 => ?_)
        · refine zy_iinc (b := ((c + 1 : Nat) : Int)) [zf 10 261, zi f, zi ((c + 1 : Nat) : Int)] dX10_nextUnread_39 rfl (by omega) (Nat.le_of_ble_eq_true rfl) rfl rfl ?_
          refine zx_goto (tgt := 4) dX10_nextUnread_42 (by decide) ?_
          exact ih4 (c + 1) f (by first | assumption | omega) (by
        have hq0 := hb17 c hc
        first | exact nx_a hf (by omega) | exact nx_b hf (by omega) (by omega) | exact nx_c hf (by omega) (by omega) h34 | exact nx_d hf (by omega) (by omega) h34) (by omega)
        · refine zx_iloadN dX10_nextUnread_23 rfl rfl ?_
          refine zx_iconst dX10_nextUnread_24 ?_
          refine zx_icmp_eq (tgt := 37) (by first | exact hz _ _ | assumption | exact zr_b _ | exact zcmp_r _ _ | (unfold zr at *; omega)) (by first | exact hz _ _ | assumption | exact zr_b _ | exact zcmp_r _ _ | (unfold zr at *; omega)) dX10_nextUnread_25 (by decide) (fun h25 => ?_) (fun h25 => ?_)
          · refine zx_iloadN dX10_nextUnread_37 rfl rfl ?_
            refine zy_istoreN [zf 10 261, zi ((c : Nat) : Int), zi ((c : Nat) : Int)] dX10_nextUnread_38 rfl (Nat.le_of_ble_eq_true rfl) (Nat.le_of_ble_eq_true rfl) rfl rfl ?_
            refine zy_iinc (b := ((c + 1 : Nat) : Int)) [zf 10 261, zi ((c : Nat) : Int), zi ((c + 1 : Nat) : Int)] dX10_nextUnread_39 rfl (by omega) (Nat.le_of_ble_eq_true rfl) rfl rfl ?_
            refine zx_goto (tgt := 4) dX10_nextUnread_42 (by decide) ?_
            exact ih4 (c + 1) ((c : Nat) : Int) (by first | assumption | omega) (by
        have hq0 := hb17 c hc
        first | exact nx_a hf (by omega) | exact nx_b hf (by omega) (by omega) | exact nx_c hf (by omega) (by omega) h34 | exact nx_d hf (by omega) (by omega) h34) (by omega)
          · refine zx_aloadN dX10_nextUnread_28 rfl rfl ?_
            refine zx_iloadN dX10_nextUnread_29 rfl rfl ?_
            refine zx_iloadN dX10_nextUnread_30 rfl rfl ?_
            refine zy_top (b := ((f.toNat : Nat) : Int)) (by omega) ?_
            refine zy_cv [zi ((c : Nat) : Int), zi ((f.toNat : Nat) : Int)] (sX10_isBefore (D := D) (c := c) (d := f.toNat) hfl hz (by first | assumption | omega) (by first | assumption | (refine Rel_put (by decide) ?_; assumption) | (refine Rel_put (by decide) (Rel_put (by decide) ?_); assumption) | (refine Rel_put (by decide) (Rel_put (by decide) (Rel_put (by decide) ?_)); assumption)) (by first | assumption | omega) (by first | assumption | omega)) dX10_nextUnread_31 (by decide) rfl cw_RX10_169 okX10_isBefore rfl (Nat.le_of_ble_eq_true rfl) ⟨Nat.le_of_ble_eq_true rfl, Nat.le_of_ble_eq_true rfl, Nat.le_of_ble_eq_true rfl, Nat.le_of_ble_eq_true rfl⟩ ?_
            refine zx_if_eq (tgt := 39) (by first | exact hz _ _ | assumption | exact zr_b _ | exact zcmp_r _ _ | (unfold zr at *; omega)) dX10_nextUnread_34 (by decide) (fun h34 => ?_) (fun h34 => ?_)
            · have h34 := zb_0.mp h34
              refine zy_iinc (b := ((c + 1 : Nat) : Int)) [zf 10 261, zi f, zi ((c + 1 : Nat) : Int)] dX10_nextUnread_39 rfl (by omega) (Nat.le_of_ble_eq_true rfl) rfl rfl ?_
              refine zx_goto (tgt := 4) dX10_nextUnread_42 (by decide) ?_
              exact ih4 (c + 1) f (by first | assumption | omega) (by
        have hq0 := hb17 c hc
        first | exact nx_a hf (by omega) | exact nx_b hf (by omega) (by omega) | exact nx_c hf (by omega) (by omega) h34 | exact nx_d hf (by omega) (by omega) h34) (by omega)
            · have h34 := zb_n.mp h34
              refine zx_iloadN dX10_nextUnread_37 rfl rfl ?_
              refine zy_istoreN [zf 10 261, zi ((c : Nat) : Int), zi ((c : Nat) : Int)] dX10_nextUnread_38 rfl (Nat.le_of_ble_eq_true rfl) (Nat.le_of_ble_eq_true rfl) rfl rfl ?_
              refine zy_iinc (b := ((c + 1 : Nat) : Int)) [zf 10 261, zi ((c : Nat) : Int), zi ((c + 1 : Nat) : Int)] dX10_nextUnread_39 rfl (by omega) (Nat.le_of_ble_eq_true rfl) rfl rfl ?_
              refine zx_goto (tgt := 4) dX10_nextUnread_42 (by decide) ?_
              exact ih4 (c + 1) ((c : Nat) : Int) (by first | assumption | omega) (by
        have hq0 := hb17 c hc
        first | exact nx_a hf (by omega) | exact nx_b hf (by omega) (by omega) | exact nx_c hf (by omega) (by omega) h34 | exact nx_d hf (by omega) (by omega) h34) (by omega)
  exact L4 _ 0 (-1) (by first | assumption | omega) (Or.inl ⟨rfl, fun j hj => absurd hj (Nat.not_lt_zero j)⟩) (Nat.lt_succ_self _)
set_option maxRecDepth 20000 in
set_option maxHeartbeats 2000000 in
theorem sX10_reads {l : Launch} {w : zW} (hfl : l.stackTraces = false) {σ : zS} {D : zBk} {x : Int} (hz : zOK σ) (hW : WF D) (hR : Rel D (σ.1 262)) (hx : 0 ≤ x ∧ x ≤ 40) : Sp l w mX10_reads 3 0 [zf 10 261, zi x] σ (zqv (some (zi (min x (U D (D 12 0).toNat)))) (fun τ => zOK τ ∧ mfr σ τ (fun k => k = 262) (fun _ => False) ∧ Rel (rdB D x) (τ.1 262))) := by
  obtain ⟨Q, hQ⟩ : ∃ Q : zQ, Q = (zqv (some (zi (min x (U D (D 12 0).toNat)))) (fun τ => zOK τ ∧ mfr σ τ (fun k => k = 262) (fun _ => False) ∧ Rel (rdB D x) (τ.1 262))) := ⟨_, rfl⟩
  rw [← hQ]
  refine zx_enter hfl (by decide) rfl 1 rfl ?_
  show zX l w mX10_reads (zMQ w 3 0 Q) 0 [zf 10 261, zi x, zu] [] 0 σ
  have hP : 0 ≤ D 1 0 ∧ D 1 0 ≤ 8 := hW.1.1
  have hM : 0 ≤ D 1 7 ∧ D 1 7 ≤ 8 := hW.1.2.1
  have hE : 0 ≤ D 1 10 ∧ D 1 10 ≤ 12 := hW.1.2.2.1
  have hK : 0 ≤ D 12 0 ∧ D 12 0 ≤ 40 := hW.1.2.2.2
  have r0 : σ.1 262 0 = D 1 0 := hR.1.1
  have r1 : σ.1 262 1 = D 1 7 := hR.1.2.1
  have r2 : σ.1 262 2 = D 1 10 := hR.1.2.2.1
  have r3 : σ.1 262 3 = D 12 0 := hR.1.2.2.2
  have hUb := U_b D (D 12 0).toNat
  have hzx : zr x := by unfold zr; omega
  refine zx_iconst dX10_reads_0 ?_
  refine zy_istoreN [zf 10 261, zi x, zi 0] dX10_reads_1 rfl (Nat.le_of_ble_eq_true rfl) (Nat.le_of_ble_eq_true rfl) rfl rfl ?_
  have L2 : ∀ (N : Nat) (τ : zS) (n : Nat), (zOK τ) → ((n : Int) ≤ x) → ((n : Int) ≤ U D (D 12 0).toNat) → (mfr σ τ (fun k => k = 262) (fun _ => False)) → (Rel (rdB D n) (τ.1 262)) → (41 - n) < N → zX l w mX10_reads (zMQ w 3 0 Q) 2 [zf 10 261, zi x, zi ((n : Nat) : Int)] [] 0 τ := by
    intro N
    induction N with
    | zero => intro τ n _ _ _ _ _ _; exact absurd (by assumption) (Nat.not_lt_zero _)
    | succ N ih2 =>
      intro τ n hz hn_ hnu h1 h2 hN
      have hWn := WF_rdB hW n
      have hn0 : (0 : Int) ≤ n := by omega
      have hrs := rd_step hW (n := n) hn0
      have hre := rd_end hW (n := n) hn0
      refine zx_iloadN dX10_reads_2 rfl rfl ?_
      refine zx_iloadN dX10_reads_3 rfl rfl ?_
      refine zx_icmp_ge (tgt := 31) (by first | exact hz _ _ | assumption | exact zr_b _ | exact zcmp_r _ _ | (unfold zr at *; omega)) (by first | exact hz _ _ | assumption | exact zr_b _ | exact zcmp_r _ _ | (unfold zr at *; omega)) dX10_reads_4 (by decide) (fun h4 => ?_) (fun h4 => ?_)
      · refine zx_iloadN dX10_reads_31 rfl rfl ?_
        refine zx_iret rfl rfl dX10_reads_32 ?_
        rw [hQ]
        refine ⟨congrArg (fun z : Int => (Sum.inl (some (zi z)) : Option zV ⊕ String)) ?_, ?_⟩
        · first | omega | (have := (hre (by omega)).2; omega)
        refine ⟨hz, h1, ?_⟩
        by_cases e : (n : Int) = x
        · rw [← e]; exact h2
        · have hall := (hre (by omega)).1
          exact Rel_l (rd_sat hall (by omega)) h2
      · refine zx_aloadN dX10_reads_7 rfl rfl ?_
        refine zy_cv [] (sX10_nextUnread (D := (rdB D n)) hfl hz hWn h2) dX10_reads_8 (by decide) rfl cw_RX10_172 okX10_nextUnread rfl (Nat.le_of_ble_eq_true rfl) ⟨Nat.le_of_ble_eq_true rfl, Nat.le_of_ble_eq_true rfl, Nat.le_of_ble_eq_true rfl, Nat.le_of_ble_eq_true rfl⟩ ?_
        have hzn : zr (nxU (rdB D n)) := by
          by_cases q : nxU (rdB D n) = -1
          · rw [q]; unfold zr; omega
          · have := hrs q; unfold zr; omega
        refine zx_iconst dX10_reads_11 ?_
        refine zx_icmp_eq (tgt := 31) (by first | exact hz _ _ | assumption | exact zr_b _ | exact zcmp_r _ _ | (unfold zr at *; omega)) (by first | exact hz _ _ | assumption | exact zr_b _ | exact zcmp_r _ _ | (unfold zr at *; omega)) dX10_reads_12 (by decide) (fun h12 => ?_) (fun h12 => ?_)
        · refine zx_iloadN dX10_reads_31 rfl rfl ?_
          refine zx_iret rfl rfl dX10_reads_32 ?_
          rw [hQ]
          refine ⟨congrArg (fun z : Int => (Sum.inl (some (zi z)) : Option zV ⊕ String)) ?_, ?_⟩
          · first | omega | (have := (hre (by omega)).2; omega)
          refine ⟨hz, h1, ?_⟩
          by_cases e : (n : Int) = x
          · rw [← e]; exact h2
          · have hall := (hre (by omega)).1
            exact Rel_l (rd_sat hall (by omega)) h2
        · refine zx_aloadN dX10_reads_15 rfl rfl ?_
          refine zx_aloadN dX10_reads_16 rfl rfl ?_
          refine zy_cv [] (sX10_nextUnread (D := (rdB D n)) hfl hz hWn h2) dX10_reads_17 (by decide) rfl cw_RX10_172 okX10_nextUnread rfl (Nat.le_of_ble_eq_true rfl) ⟨Nat.le_of_ble_eq_true rfl, Nat.le_of_ble_eq_true rfl, Nat.le_of_ble_eq_true rfl, Nat.le_of_ble_eq_true rfl⟩ ?_
          obtain ⟨hs1, hs2, hs3⟩ := hrs (by omega)
          refine zy_top (b := (((nxU (rdB D n)).toNat : Nat) : Int)) (by omega) ?_
          have hRn : Rel (rdB D ((n + 1 : Nat) : Int)) ((zput τ 262 (140 + 6 * (nxU (rdB D n)).toNat + 4) 1).1 262) := by
            refine Rel_l ?_ (Rel_putK (o := 4) (v := 1) (c := (nxU (rdB D n)).toNat) hWn h2 (by show (((nxU (rdB D n)).toNat : Nat) : Int) < D 12 0; omega) (by omega))
            exact rd_lEq (by omega) hs3
          refine zx_iconst dX10_reads_20 ?_
          refine zy_top (b := 4) (rfl) ?_
          refine zx_iconst dX10_reads_21 ?_
          refine zy_cvv [zi (((nxU (rdB D n)).toNat : Nat) : Int), zi 4, zi 1] (sX10_puts (c := ((nxU (rdB D n)).toNat)) (o := 4) hfl hz (by first | assumption | omega) (by first | assumption | omega) (by first | exact hz _ _ | assumption | exact zr_b _ | exact zcmp_r _ _ | (unfold zr at *; omega))) dX10_reads_22 (by decide) rfl cw_RX10_175 okX10_puts rfl (Nat.le_of_ble_eq_true rfl) ⟨Nat.le_of_ble_eq_true rfl, Nat.le_of_ble_eq_true rfl, Nat.le_of_ble_eq_true rfl, Nat.le_of_ble_eq_true rfl⟩ ?_
          refine zy_iinc (b := ((n + 1 : Nat) : Int)) [zf 10 261, zi x, zi ((n + 1 : Nat) : Int)] dX10_reads_25 rfl (by omega) (Nat.le_of_ble_eq_true rfl) rfl rfl ?_
          refine zx_goto (tgt := 2) dX10_reads_28 (by decide) ?_
          exact ih2 (zput τ 262 (140 + 6 * ((nxU (rdB D n)).toNat) + 4) 1) (n + 1) (zOK_put hz (by first | assumption | exact zr_t _ | (unfold zr; omega))) (by first | assumption | omega) (by omega) (mfr_put h1 rfl (by decide)) hRn (by omega)
  exact L2 _ σ 0 hz (by first | assumption | omega) (by omega) (mfr_rf _ _ _) (Rel_l (rdB_0 hW) hR) (Nat.lt_succ_self _)

