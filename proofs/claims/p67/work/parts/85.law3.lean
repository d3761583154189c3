
/-! what the law's operations do to a book -/
def zSO (σ τ : zS) : Prop := zSame (fun q => (30 ≤ q ∧ q ≤ 49) ∨ (70 ≤ q ∧ q ≤ 258)) σ τ
theorem zSO_j {σ τ : zS} (h : zSame (fun q => 252 ≤ q ∧ q ≤ 258) σ τ) : zSO σ τ := zSame_tr (zSame_rf (fun _ => False) σ) h (fun k q => q.elim False.elim (fun q => by omega))
theorem zSO_h {σ τ : zS} (h : zSame (fun q => 72 ≤ q ∧ q ≤ 251) σ τ) : zSO σ τ := zSame_tr (zSame_rf (fun _ => False) σ) h (fun k q => q.elim False.elim (fun q => by omega))
theorem zSO_tr {σ τ υ : zS} (h : zSO σ τ) (h' : zSO τ υ) : zSO σ υ := zSame_tr h h' (fun _ q => q.elim id id)
theorem HN_j {σ τ : zS} (h : HN σ) (s : zSame (fun q => 252 ≤ q ∧ q ≤ 258) σ τ) : HN τ := HN_post h s (by omega)
theorem HBA_j {σ τ : zS} (h : HBA σ) (s : zSame (fun q => 252 ≤ q ∧ q ≤ 258) σ τ) : HBA τ := HBA_post h s (fun q hq => by omega)
/-- an operation that was done: the book is F, the one before lies on the pile -/
def OPd (σ τ : zS) (F : zBk) : Prop := zOK τ ∧ zSO σ τ ∧ HN τ ∧ HBA τ ∧ HPu σ τ ∧ WF (bK τ) ∧ lEq F (bK τ)
/-- one that was refused: nothing has changed -/
def OPf (σ τ : zS) (D : zBk) : Prop := zOK τ ∧ zSO σ τ ∧ HN τ ∧ HBA τ ∧ bK τ = D
theorem HKp_N {σ τ : zS} (hN : HN σ) (h : HKp σ τ) : HN τ := by
  unfold HN at *
  rw [h.1, h.2.1]
  exact hN
theorem OPf_of {σ τ : zS} (hN : HN σ) (h : zOK τ ∧ zSame (fun q => 72 ≤ q ∧ q ≤ 251) σ τ ∧ HKp σ τ ∧ HBA τ) : OPf σ τ (bK σ) :=
  ⟨h.1, zSO_h h.2.1, HKp_N hN h.2.2.1, h.2.2.2, bK_same h.2.1 (fun o ho => by show ¬ (72 ≤ 30 + o ∧ 30 + o ≤ 251); omega)⟩
theorem OPd_of {σ τ : zS} {F G : zBk} (hE : pEq G F) (h : zOK τ ∧ zSame (fun q => (30 ≤ q ∧ q ≤ 49) ∨ (70 ≤ q ∧ q ≤ 258)) σ τ ∧ HPu σ τ ∧ HBA τ ∧ WF (bk τ 30) ∧ lEq F (bk τ 30)) : OPd σ τ G :=
  ⟨h.1, h.2.1, h.2.2.1.1, h.2.2.2.1, h.2.2.1, tr_WF h.2.2.2.2.1, lEq_tr2 h.2.2.2.2.2 hE⟩
/-- what an action of the law leaves behind -/
def AP (σ τ : zS) (D F : zBk) : Prop := zOK τ ∧ zSO σ τ ∧ HN τ ∧ HBA τ ∧ WF (bK τ) ∧ lEq F (bK τ) ∧ (HPu σ τ ∨ bK τ = D)
theorem AP_d {σ τ υ ψ : zS} {D F : zBk} (a : zSame (fun q => 252 ≤ q ∧ q ≤ 258) σ τ) (h : OPd τ υ F) (b : zSame (fun q => 252 ≤ q ∧ q ≤ 258) υ ψ) (hz : zOK ψ) : AP σ ψ D F := by
  obtain ⟨-, h2, h3, h4, h5, h6, h7⟩ := h
  refine ⟨hz, zSO_tr (zSO_tr (zSO_j a) h2) (zSO_j b), HN_j h3 b, HBA_j h4 b, ?_, ?_, Or.inl (HPu_pre a (HPu_post h5 b))⟩
  · rw [bK_jd b]; exact h6
  · rw [bK_jd b]; exact h7
theorem AP_f {σ τ υ ψ : zS} {D F : zBk} (w : WF D) (a : zSame (fun q => 252 ≤ q ∧ q ≤ 258) σ τ) (h : OPf τ υ D) (b : zSame (fun q => 252 ≤ q ∧ q ≤ 258) υ ψ) (hz : zOK ψ) (hF : F = D) : AP σ ψ D F := by
  obtain ⟨-, h2, h3, h4, h5⟩ := h
  have e : bK ψ = D := (bK_jd b).trans h5
  refine ⟨hz, zSO_tr (zSO_tr (zSO_j a) h2) (zSO_j b), HN_j h3 b, HBA_j h4 b, ?_, ?_, Or.inr e⟩
  · rw [e]; exact w
  · rw [e, hF]; exact lEq_rf D
theorem pEq_clb {D : zBk} (w : WF (tr D)) (h1 : 1 ≤ D 1 0) : lEq (clB (tr D)) (clB D) := pEq_cl (tr_q D) w h1
theorem OPd_cl {σ τ : zS} (w : WF (bK σ)) (h1 : 1 ≤ (bK σ) 1 0) (h : zOK τ ∧ zSame (fun q => (30 ≤ q ∧ q ≤ 49) ∨ (70 ≤ q ∧ q ≤ 258)) σ τ ∧ HPu σ τ ∧ HBA τ ∧ WF (bk τ 30) ∧ lEq (clB (bk σ 30)) (bk τ 30)) : OPd σ τ (clB (bK σ)) :=
  ⟨h.1, h.2.1, h.2.2.1.1, h.2.2.2.1, h.2.2.1, tr_WF h.2.2.2.2.1, lEq_tr (pEq_cl (tr_q (bk σ 30)) w h1) (lEq_tr h.2.2.2.2.2 (pEq_l (tr_p (bk τ 30))))⟩
theorem pEq_lK (σ : zS) : lEq (bk σ 30) (bK σ) := pEq_l (tr_p (bk σ 30))
theorem bK_WF {σ : zS} (w : WF (bk σ 30)) : WF (bK σ) := tr_WF w
theorem wS_ovK {σ τ : zS} {x : Nat} {v : Int} (h1 : 1 ≤ bk σ 30 1 0) (w : WF (bk τ 30)) (h : lEq (ov (bk σ 30) 18 x v) (bk τ 30)) : wS (ov (bk σ 30) 18 x v) (Ht (ov (bk σ 30) 18 x v)) = wS (ov (bK σ) 18 x v) (Ht (ov (bK σ) 18 x v)) := by
  have hτ : 1 ≤ bk τ 30 1 0 := by
    rw [h.1.1]; exact h1
  have a := wS_t (lEq_sy h) w hτ
  have h2 : lEq (ov (bK σ) 18 x v) (bk τ 30) := lEq_tr (pEq_l (pEq_ov (tr_q (bk σ 30)))) h
  have b := wS_t (lEq_sy h2) w hτ
  rw [a, b]
/-! bits of a printer's devices -/
theorem zbit {a d : Int} (h : 0 ≤ d ∧ d < 32) : zand (zushr a d) 1 = 0 ↔ (Int32.ofInt a).toBitVec.toNat.testBit d.toNat = false := by
  have e0 : zand (zushr a d) 1 = (a % 4294967296) / ((2 ^ d.toNat : Nat) : Int) % 2 := by
    have e := zushr_i (a := a) h
    have e2 : zand (zushr a d) 1 = zand ((a % 4294967296) / ((2 ^ d.toNat : Nat) : Int)) 1 := by
      unfold zand
      rw [e]
    rw [e2, zand_1]
  rw [e0, ← z_nn a, ← Int.natCast_ediv, Nat.testBit_eq_decide_div_mod_eq]
  generalize (Int32.ofInt a).toBitVec.toNat / 2 ^ d.toNat = X
  rw [decide_eq_false_iff_not]
  omega
theorem zmk_1 {d : Int} (h : 0 ≤ d ∧ d ≤ 4) : (Int32.ofInt (zshl 1 d)).toBitVec.toNat.testBit d.toNat = true := by
  rcases (by omega : d = 0 ∨ d = 1 ∨ d = 2 ∨ d = 3 ∨ d = 4) with rfl | rfl | rfl | rfl | rfl <;> decide +kernel
theorem zmk_0 {d : Int} (h : 0 ≤ d ∧ d ≤ 4) : (Int32.ofInt (zxor (zshl 1 d) (-1))).toBitVec.toNat.testBit d.toNat = false := by
  rcases (by omega : d = 0 ∨ d = 1 ∨ d = 2 ∨ d = 3 ∨ d = 4) with rfl | rfl | rfl | rfl | rfl <;> decide +kernel
theorem bit_or {a d : Int} (h : 0 ≤ d ∧ d ≤ 4) : ¬ zand (zushr (zor a (zshl 1 d)) d) 1 = 0 := by
  rw [zbit ⟨h.1, by omega⟩]
  have e : (Int32.ofInt (zor a (zshl 1 d))).toBitVec.toNat = (Int32.ofInt a).toBitVec.toNat ||| (Int32.ofInt (zshl 1 d)).toBitVec.toNat := by
    unfold zor
    rw [z_of, Int32.toBitVec_or, BitVec.toNat_or]
  rw [e, Nat.testBit_or, zmk_1 h, Bool.or_true]
  decide
theorem bit_an {a d : Int} (h : 0 ≤ d ∧ d ≤ 4) : zand (zushr (zand a (zxor (zshl 1 d) (-1))) d) 1 = 0 := by
  rw [zbit ⟨h.1, by omega⟩]
  have e : (Int32.ofInt (zand a (zxor (zshl 1 d) (-1)))).toBitVec.toNat = (Int32.ofInt a).toBitVec.toNat &&& (Int32.ofInt (zxor (zshl 1 d) (-1))).toBitVec.toNat := by
    unfold zand
    rw [z_of, Int32.toBitVec_and, BitVec.toNat_and]
  rw [e, Nat.testBit_and, zmk_0 h, Bool.and_false]
theorem hd_b {D : zBk} {a b : Nat} {d : Int} (h : 0 ≤ d ∧ d ≤ 4) : hasDev (lnB D a b d) b d := by
  refine ⟨h.1, by omega, ?_⟩
  have e : lnB D a b d 6 b = zor (D 6 b) (zshl 1 d) := by
    show lnV (D 6) a b d b = _
    unfold lnV
    rw [if_pos rfl]
  rw [e]
  exact bit_or h
theorem hd_a {D : zBk} {a b : Nat} {d : Int} (h : 0 ≤ d ∧ d ≤ 4) (n : ¬ a = b) : ¬ hasDev (lnB D a b d) a d := by
  rintro ⟨-, -, q⟩
  have e : lnB D a b d 6 a = zand (D 6 a) (zxor (zshl 1 d) (-1)) := by
    show lnV (D 6) a b d a = _
    unfold lnV
    rw [if_neg n, if_pos rfl]
  rw [e] at q
  exact q (bit_an h)
theorem hd_o {D : zBk} {a b p : Nat} {d n : Int} (ha : ¬ p = a) (hb : ¬ p = b) : hasDev (lnB D a b d) p n ↔ hasDev D p n := by
  have e : lnB D a b d 6 p = D 6 p := by
    show lnV (D 6) a b d p = _
    unfold lnV
    rw [if_neg hb, if_neg ha]
  unfold hasDev
  rw [e]
theorem own_ln {D : zBk} {a b : Nat} {d : Int} (h : 0 ≤ d ∧ d ≤ 4) (n : ¬ a = b) (hd : hasDev D a d) {m : Nat} (ha : a < m) (hb : b < m) : zs (fun p => zb (hasDev (lnB D a b d) p d)) m = zs (fun p => zb (hasDev D p d)) m - zb (hasDev D b d) := by
  have e : ∀ p, p < m → zb (hasDev (lnB D a b d) p d) = (zb (hasDev D p d) - (if a = p then 1 else 0)) + (if b = p then 1 - zb (hasDev D b d) else 0) := fun p _ => by
    by_cases e1 : b = p
    · subst e1
      rw [if_pos rfl, if_neg n, zb_t (hd_b h)]
      omega
    · by_cases e2 : a = p
      · subst e2
        rw [if_pos rfl, if_neg e1, zb_f (hd_a h n), zb_t hd]
        rfl
      · rw [if_neg e1, if_neg e2, zb_c (hd_o (fun q => e2 q.symm) (fun q => e1 q.symm))]
        omega
  rw [zs_congr e, zs_add, zs_sub, zs_one, zs_one, if_pos ha, if_pos hb]
  omega
/-! what a reading says beforehand -/
theorem nx_U {D : zBk} (w : WF D) : (0 ≤ nxU D ↔ 0 < U D (D 12 0).toNat) ∧ (0 ≤ nxU D → nxU D < D 12 0 ∧ ∀ n : Int, 1 ≤ n → Rd D n (nxU D).toNat) := by
  rcases nxU_cases w with ⟨h1, h2⟩ | ⟨p, hp, h1, h2, h3, h4⟩
  · have e : U D (D 12 0).toNat = 0 := by
      rw [U_all w, zs_congr (g := fun _ => 0) (fun c hc => zb_f (h2 c (by omega))), zs_zero]
    exact ⟨⟨fun q => by omega, fun q => by omega⟩, fun q => by omega⟩
  · have e0 : U D p = 0 := U_cons h4
    have e1 : U D (p + 1) = 1 := by rw [U_s, zb_t h3, e0]; rfl
    have e2 := U_mono D (show p + 1 ≤ (D 12 0).toNat by omega)
    refine ⟨⟨fun _ => by omega, fun _ => by omega⟩, fun _ => ⟨by omega, fun n hn => ?_⟩⟩
    rw [h1]
    exact (Rd_at w.2.2.2.2.2 hp).mpr (Or.inr (by omega))
theorem Rd_top {D : zBk} (w : WF D) {n : Int} (hn : U D (D 12 0).toNat ≤ n) {c : Nat} (hc : (c : Int) < D 12 0) : Rd D n c := by
  obtain ⟨p, hp, e⟩ := WFo_sj w.2.2.2.2.2 hc
  subst e
  rw [Rd_at w.2.2.2.2.2 hp]
  by_cases h : D 17 (D 19 p).toNat = 0
  · refine Or.inr ?_
    have e1 : U D (p + 1) = U D p + 1 := by rw [U_s, zb_t h]
    have e2 := U_mono D (show p + 1 ≤ (D 12 0).toNat by omega)
    omega
  · exact Or.inl h
theorem wP_top {D : zBk} (w : WF D) {n m : Int} (hn : U D (D 12 0).toNat ≤ n) (hm : U D (D 12 0).toNat ≤ m) : wP D (Hd D n (-1)) = wP D (Hd D m (-1)) := wP_hc (fun c hc => by
  unfold Hd
  have a := Rd_top w hn hc
  have b := Rd_top w hm hc
  exact ⟨fun q => ⟨b, q.2⟩, fun q => ⟨a, q.2⟩⟩)
theorem cuc_says {D : zBk} (w : WF D) {n : Int} (hn : 1 ≤ n) : (cuc D < 0 → wP D (Hd D n (-1)) = wP D (Ht D)) ∧ (0 ≤ cuc D → n < cuc D → wP D (Hd D n (-1)) = wP D (Ht D)) ∧ (0 ≤ cuc D → n = cuc D → ¬ wP D (Hd D n (-1)) = wP D (Ht D)) := by
  have hU := U_b D (D 12 0).toNat
  rcases zfst_cases (fun i => ¬ wP D (Hd D ((i + 1 : Nat) : Int) (-1)) = wP D (Ht D)) (U D (D 12 0).toNat).toNat with ⟨h1, h2⟩ | ⟨i, hi, h1, h2, h3⟩
  · have e := cuc_no (D := D) h2
    refine ⟨fun _ => ?_, fun q => by omega, fun q => by omega⟩
    by_cases c : n ≤ U D (D 12 0).toNat
    · have q := Classical.not_not.mp (h2 (n - 1).toNat (by omega))
      rw [show (((n - 1).toNat + 1 : Nat) : Int) = n by omega] at q
      exact q
    · by_cases c0 : U D (D 12 0).toNat = 0
      · rw [wP_top w (m := 0) (by omega) (by omega)]
        exact wP_hc (fun c hc => Hd_Ht w hc)
      · rw [wP_top w (m := U D (D 12 0).toNat) (by omega) (by omega)]
        have q := Classical.not_not.mp (h2 (U D (D 12 0).toNat - 1).toNat (by omega))
        rw [show (((U D (D 12 0).toNat - 1).toNat + 1 : Nat) : Int) = U D (D 12 0).toNat by omega] at q
        exact q
  · have e := cuc_at (D := D) hi h3 h2
    refine ⟨fun q => by omega, fun _ q => ?_, fun _ q => ?_⟩
    · have q := Classical.not_not.mp (h3 (n - 1).toNat (by omega))
      rw [show (((n - 1).toNat + 1 : Nat) : Int) = n by omega] at q
      exact q
    · rw [show n = ((i + 1 : Nat) : Int) by omega]
      exact h2
/-! what an action of the law makes of a book -/
def aV (mk k z : Int) : Int := if k = 0 then z % 5 else if k = 1 then z % 4 else if k = 2 then z % mk else if k = 3 then z % 4 else 1500 + z % 40
noncomputable def zit {α : Type} (p : Prop) (a b : α) : α := @ite α p (Classical.propDecidable p) a b
theorem zit_t {α : Type} {p : Prop} {a b : α} (h : p) : zit p a b = a := by
  unfold zit
  exact if_pos h
theorem zit_f {α : Type} {p : Prop} {a b : α} (h : ¬ p) : zit p a b = b := by
  unfold zit
  exact if_neg h
noncomputable def aB (mk what x y z : Int) (D : zBk) : zBk :=
  if what ≤ 2 then zit ((y % 5 = 2 ∧ mk = 0) ∨ D 12 0 = 40) D (adB D (1 + x % 30) (y % 5) (aV mk (y % 5) z) (1 + (x + z) % 9))
  else if what ≤ 4 then rdB D (1 + z % 4)
  else if what ≤ 6 then zit (D 12 0 = 0 ∨ ¬ D 18 (x % D 12 0).toNat = y % 2) D (ov D 18 (x % D 12 0).toNat (1 - y % 2))
  else if what = 7 then zit (D 12 0 = 0) D (ov D 16 (x % D 12 0).toNat (1 + z % 9))
  else if what = 8 then zit (x % D 1 0 = y % D 1 0 ∨ ¬ hasDev D (x % D 1 0).toNat (z % 5)) D (lnB D (x % D 1 0).toNat (y % D 1 0).toNat (z % 5))
  else clB D
theorem aB_0 {mk u x y z : Int} {D : zBk} (h : u ≤ 2) (c : (y % 5 = 2 ∧ mk = 0) ∨ D 12 0 = 40) : aB mk u x y z D = D := by
  unfold aB; rw [if_pos h, zit_t c]
theorem aB_1 {mk u x y z : Int} {D : zBk} (h : u ≤ 2) (c : ¬ ((y % 5 = 2 ∧ mk = 0) ∨ D 12 0 = 40)) : aB mk u x y z D = adB D (1 + x % 30) (y % 5) (aV mk (y % 5) z) (1 + (x + z) % 9) := by
  unfold aB; rw [if_pos h, zit_f c]
theorem aB_2 {mk u x y z : Int} {D : zBk} (h : 3 ≤ u) (h2 : u ≤ 4) : aB mk u x y z D = rdB D (1 + z % 4) := by
  unfold aB; rw [if_neg (by omega), if_pos h2]
theorem aB_3 {mk u x y z : Int} {D : zBk} (h : 5 ≤ u) (h2 : u ≤ 6) (c : D 12 0 = 0 ∨ ¬ D 18 (x % D 12 0).toNat = y % 2) : aB mk u x y z D = D := by
  unfold aB; rw [if_neg (by omega), if_neg (by omega), if_pos h2, zit_t c]
theorem aB_4 {mk u x y z v : Int} {D : zBk} (h : 5 ≤ u) (h2 : u ≤ 6) (c : ¬ (D 12 0 = 0 ∨ ¬ D 18 (x % D 12 0).toNat = y % 2)) (hv : 1 - y % 2 = v) : aB mk u x y z D = ov D 18 (x % D 12 0).toNat v := by
  subst hv
  unfold aB; rw [if_neg (by omega), if_neg (by omega), if_pos h2, zit_f c]
theorem aB_5 {mk x y z : Int} {D : zBk} (c : D 12 0 = 0) : aB mk 7 x y z D = D := by
  unfold aB; rw [if_neg (by omega), if_neg (by omega), if_neg (by omega), if_pos rfl, zit_t c]
theorem aB_6 {mk x y z : Int} {D : zBk} (c : ¬ D 12 0 = 0) : aB mk 7 x y z D = ov D 16 (x % D 12 0).toNat (1 + z % 9) := by
  unfold aB; rw [if_neg (by omega), if_neg (by omega), if_neg (by omega), if_pos rfl, zit_f c]
theorem aB_7 {mk x y z : Int} {D : zBk} (c : x % D 1 0 = y % D 1 0 ∨ ¬ hasDev D (x % D 1 0).toNat (z % 5)) : aB mk 8 x y z D = D := by
  unfold aB; rw [if_neg (by omega), if_neg (by omega), if_neg (by omega), if_neg (by omega), if_pos rfl, zit_t c]
theorem aB_8 {mk x y z : Int} {D : zBk} (c : ¬ (x % D 1 0 = y % D 1 0 ∨ ¬ hasDev D (x % D 1 0).toNat (z % 5))) : aB mk 8 x y z D = lnB D (x % D 1 0).toNat (y % D 1 0).toNat (z % 5) := by
  unfold aB; rw [if_neg (by omega), if_neg (by omega), if_neg (by omega), if_neg (by omega), if_pos rfl, zit_f c]
theorem aB_9 {mk x y z : Int} {D : zBk} : aB mk 9 x y z D = clB D := by
  unfold aB; rw [if_neg (by omega), if_neg (by omega), if_neg (by omega), if_neg (by omega), if_neg (by omega)]
theorem AP_e {σ τ : zS} {D F G : zBk} (e : F = G) (h : AP σ τ D G) : AP σ τ D F := e ▸ h
theorem aV_k {D : zBk} {mk k z : Int} (hm : D 1 7 = mk) (hmb : 0 ≤ mk ∧ mk ≤ 2) (hk : 0 ≤ k ∧ k ≤ 4) (hz : 0 ≤ z) (h : ¬ (k = 2 ∧ mk = 0)) : WFk D k (aV mk k z) := by
  have q : k = 2 → 0 ≤ z % mk ∧ z % mk < mk := fun e => ⟨Int.emod_nonneg _ (fun m => h ⟨e, m⟩), Int.emod_lt_of_pos _ (by have := h; omega)⟩
  have q0 := Int.emod_nonneg z (show (5 : Int) ≠ 0 by decide)
  unfold WFk aV
  rcases (by omega : k = 0 ∨ k = 1 ∨ k = 2 ∨ k = 3 ∨ k = 4) with rfl | rfl | rfl | rfl | rfl
  · rw [if_pos rfl]; omega
  · rw [if_neg (by decide), if_pos rfl]; omega
  · have := q rfl
    rw [if_neg (by decide), if_neg (by decide), if_pos rfl]; omega
  · rw [if_neg (by decide), if_neg (by decide), if_neg (by decide), if_pos rfl]; omega
  · rw [if_neg (by decide), if_neg (by decide), if_neg (by decide), if_neg (by decide)]; omega
theorem cuc_b {D : zBk} (w : WF D) : -1 ≤ cuc D ∧ cuc D ≤ 40 := by
  have hU := U_b D (D 12 0).toNat
  have hn := w.1.2.2.2
  rcases zfst_cases (fun i => ¬ wP D (Hd D ((i + 1 : Nat) : Int) (-1)) = wP D (Ht D)) (U D (D 12 0).toNat).toNat with ⟨h1, h2⟩ | ⟨i, hi, h1, h2, h3⟩
  · rw [cuc_no h2]; omega
  · rw [cuc_at hi h3 h2]; omega
theorem nx_b2 {D : zBk} (w : WF D) : -1 ≤ nxU D ∧ nxU D < 40 := by
  have hn := w.1.2.2.2
  rcases nxU_cases w with ⟨h1, h2⟩ | ⟨p, hp, h1, h2, h3, h4⟩ <;> omega
theorem wY_b2 {D : zBk} {H : Nat → Prop} (w : WF D) (h1 : 1 ≤ D 1 0) : 1450 ≤ wY D H ∧ wY D H ≤ 1999 := by
  have hp := wP_l (H := H) w h1
  have hb := tR_b (H := H) w hp
  have hy := (w.2.1 _ hp).2
  unfold works at hb
  unfold wY
  omega
theorem lEq_ad {D D' : zBk} {pg kd vl wt : Int} (h : lEq D D') (h0 : 0 ≤ D 12 0) : lEq (adB D pg kd vl wt) (adB D' pg kd vl wt) := by
  have e : D' 12 0 = D 12 0 := h.1.2.2.2
  refine ⟨⟨?_, ?_, ?_, by rw [adB_k, adB_k, e]⟩, fun p hp o h1 h2 => ?_, fun q hq => ?_, fun q hq => ?_, fun c hc o h1 h2 => ?_⟩
  · rw [adB_a _ _ _ _ _ (by omega), adB_a _ _ _ _ _ (by omega)]; exact h.1.1
  · rw [adB_a _ _ _ _ _ (by omega), adB_a _ _ _ _ _ (by omega)]; exact h.1.2.1
  · rw [adB_a _ _ _ _ _ (by omega), adB_a _ _ _ _ _ (by omega)]; exact h.1.2.2.1
  · rw [adB_a _ _ _ _ _ (by omega)] at hp
    rw [adB_a _ _ _ _ _ (by omega), adB_a _ _ _ _ _ (by omega)]; exact h.2.1 p hp o h1 h2
  · rw [adB_a _ _ _ _ _ (by omega)] at hq
    rw [adB_a _ _ _ _ _ (by omega), adB_a _ _ _ _ _ (by omega), adB_a _ _ _ _ _ (by omega), adB_a _ _ _ _ _ (by omega)]; exact h.2.2.1 q hq
  · rw [adB_a _ _ _ _ _ (by omega)] at hq
    rw [adB_a _ _ _ _ _ (by omega), adB_a _ _ _ _ _ (by omega), adB_a _ _ _ _ _ (by omega), adB_a _ _ _ _ _ (by omega)]; exact h.2.2.2.1 q hq
  · rw [adB_k] at hc
    by_cases q : (c : Int) = D 12 0
    · rw [adB_n _ _ _ _ _ ⟨h1, h2⟩ q, adB_n _ _ _ _ _ ⟨h1, h2⟩ (by rw [e]; exact q)]
    · rw [adB_o _ _ _ _ _ h1 q, adB_o _ _ _ _ _ h1 (by rw [e]; exact q)]
      exact h.2.2.2.2 c (by omega) o h1 h2
theorem lEq_ov {D D' : zBk} {o a : Nat} {v : Int} (h : lEq D D') (ho : 13 ≤ o) : lEq (ov D o a v) (ov D' o a v) := by
  refine ⟨?_, fun p hp o' h1 h2 => ?_, fun q hq => ?_, fun q hq => ?_, fun c hc o' h1 h2 => ?_⟩
  · rw [ov_k _ _ _ _ (by omega), ov_k _ _ _ _ (by omega), ov_k _ _ _ _ (by omega), ov_k _ _ _ _ (by omega), ov_k _ _ _ _ (by omega), ov_k _ _ _ _ (by omega), ov_k _ _ _ _ (by omega), ov_k _ _ _ _ (by omega)]; exact h.1
  · rw [ov_k _ _ _ _ (by omega)] at hp
    rw [ov_k _ _ _ _ (by omega), ov_k _ _ _ _ (by omega)]; exact h.2.1 p hp o' h1 h2
  · rw [ov_k _ _ _ _ (by omega)] at hq
    rw [ov_k _ _ _ _ (by omega), ov_k _ _ _ _ (by omega), ov_k _ _ _ _ (by omega), ov_k _ _ _ _ (by omega)]; exact h.2.2.1 q hq
  · rw [ov_k _ _ _ _ (by omega)] at hq
    rw [ov_k _ _ _ _ (by omega), ov_k _ _ _ _ (by omega), ov_k _ _ _ _ (by omega), ov_k _ _ _ _ (by omega)]; exact h.2.2.2.1 q hq
  · have hc2 : (c : Int) < D 12 0 := by
      by_cases q : (12 : Nat) = o ∧ (0 : Nat) = a
      · omega
      · have : ov D o a v 12 0 = D 12 0 := if_neg q
        rw [this] at hc; exact hc
    unfold ov
    split
    · rfl
    · exact h.2.2.2.2 c hc2 o' h1 h2
theorem lEq_ln {D D' : zBk} {a b : Nat} {d : Int} (h : lEq D D') (ha : (a : Int) < D 1 0) (hb : (b : Int) < D 1 0) : lEq (lnB D a b d) (lnB D' a b d) := by
  have k : ∀ (E : zBk) (o i : Nat), o ≠ 6 → lnB E a b d o i = E o i := fun E o i q => if_neg q
  have s : ∀ (E : zBk) (i : Nat), lnB E a b d 6 i = lnV (E 6) a b d i := fun E i => if_pos rfl
  refine ⟨?_, fun p hp o h1 h2 => ?_, fun q hq => ?_, fun q hq => ?_, fun c hc o h1 h2 => ?_⟩
  · rw [k _ _ _ (by omega), k _ _ _ (by omega), k _ _ _ (by omega), k _ _ _ (by omega), k _ _ _ (by omega), k _ _ _ (by omega), k _ _ _ (by omega), k _ _ _ (by omega)]; exact h.1
  · rw [k _ _ _ (by omega)] at hp
    by_cases e : o = 6
    · subst e
      rw [s, s]
      unfold lnV
      rw [h.2.1 p hp 6 (by omega) (by omega), h.2.1 a ha 6 (by omega) (by omega), h.2.1 b hb 6 (by omega) (by omega)]
    · rw [k _ _ _ e, k _ _ _ e]; exact h.2.1 p hp o h1 h2
  · rw [k _ _ _ (by omega)] at hq
    rw [k _ _ _ (by omega), k _ _ _ (by omega), k _ _ _ (by omega), k _ _ _ (by omega)]; exact h.2.2.1 q hq
  · rw [k _ _ _ (by omega)] at hq
    rw [k _ _ _ (by omega), k _ _ _ (by omega), k _ _ _ (by omega), k _ _ _ (by omega)]; exact h.2.2.2.1 q hq
  · rw [k _ _ _ (by omega)] at hc
    rw [k _ _ _ (by omega), k _ _ _ (by omega)]; exact h.2.2.2.2 c hc o h1 h2
theorem lEq_clb {D D' : zBk} (h : lEq D D') (w : WF D) (h1 : 1 ≤ D 1 0) : lEq (clB D) (clB D') := by
  refine ⟨h.1, fun p hp o a b => by rw [clB_c (by omega), clB_c (by omega)]; exact h.2.1 p hp o a b, fun q hq => by rw [clB_c (by omega), clB_c (by omega), clB_c (by omega), clB_c (by omega)]; exact h.2.2.1 q hq, fun q hq => by rw [clB_c (by omega), clB_c (by omega), clB_c (by omega), clB_c (by omega)]; exact h.2.2.2.1 q hq, fun c hc o h2 h3 => ?_⟩
  have hc : (c : Int) < D 12 0 := hc
  by_cases e : o = 18
  · subst e
    have e1 : clB D' 18 c = if zb (opn D' c) = 1 then 1 else D' 18 c := if_pos rfl
    have e2 : clB D 18 c = if zb (opn D c) = 1 then 1 else D 18 c := if_pos rfl
    rw [e1, e2, zb_c (opn_l h w h1 hc), lE_c h hc (by omega) (by omega)]
  · rw [clB_c e, clB_c e]
    exact lE_c h hc h2 h3
theorem lEq_rdz {D D' : zBk} {n : Int} (h : zEq D D') (w : WF D) : lEq (rdB D n) (rdB D' n) := by
  have hl := lEq_z w h
  refine ⟨?_, fun p hp o h1 h2 => ?_, fun q hq => ?_, fun q hq => ?_, fun c hc o h1 h2 => ?_⟩
  · rw [rdB_k _ _ (by omega), rdB_k _ _ (by omega), rdB_k _ _ (by omega), rdB_k _ _ (by omega), rdB_k _ _ (by omega), rdB_k _ _ (by omega), rdB_k _ _ (by omega), rdB_k _ _ (by omega)]; exact hl.1
  · rw [rdB_k _ _ (by omega)] at hp
    rw [rdB_k _ _ (by omega), rdB_k _ _ (by omega)]; exact hl.2.1 p hp o h1 h2
  · rw [rdB_k _ _ (by omega)] at hq
    rw [rdB_k _ _ (by omega), rdB_k _ _ (by omega), rdB_k _ _ (by omega), rdB_k _ _ (by omega)]; exact hl.2.2.1 q hq
  · rw [rdB_k _ _ (by omega)] at hq
    rw [rdB_k _ _ (by omega), rdB_k _ _ (by omega), rdB_k _ _ (by omega), rdB_k _ _ (by omega)]; exact hl.2.2.2.1 q hq
  · rw [rdB_k _ _ (by omega)] at hc
    by_cases e : o = 17
    · subst e
      rw [rdB_s, rdB_s]
      exact zb_c (Rd_eq h w n c)
    · rw [rdB_k _ _ e, rdB_k _ _ e]; exact hl.2.2.2.2 c hc o h1 h2
theorem aB_c {mk what x y z : Int} {D D' : zBk} (h : zEq D D') (w : WF D) (h1 : 1 ≤ D 1 0) : lEq (aB mk what x y z D) (aB mk what x y z D') := by
  have hl := lEq_z w h
  have hn := w.1.2.2.2
  have e12 : D' 12 0 = D 12 0 := hl.1.2.2.2
  have e1 : D' 1 0 = D 1 0 := hl.1.1
  have m0 : 0 ≤ x % D 1 0 := Int.emod_nonneg _ (by omega)
  have m1 : x % D 1 0 < D 1 0 := Int.emod_lt_of_pos _ (by omega)
  have m2 : 0 ≤ y % D 1 0 := Int.emod_nonneg _ (by omega)
  have m3 : y % D 1 0 < D 1 0 := Int.emod_lt_of_pos _ (by omega)
  unfold aB
  rw [e12, e1]
  by_cases c1 : what ≤ 2
  · rw [if_pos c1, if_pos c1]
    by_cases c : (y % 5 = 2 ∧ mk = 0) ∨ D 12 0 = 40
    · rw [zit_t c, zit_t c]; exact hl
    · rw [zit_f c, zit_f c]; exact lEq_ad hl (by omega)
  rw [if_neg c1, if_neg c1]
  by_cases c2 : what ≤ 4
  · rw [if_pos c2, if_pos c2]
    exact lEq_rdz h w
  rw [if_neg c2, if_neg c2]
  by_cases c3 : what ≤ 6
  · rw [if_pos c3, if_pos c3]
    by_cases c0 : D 12 0 = 0
    · rw [zit_t (Or.inl c0), zit_t (Or.inl c0)]; exact hl
    · have q0 : 0 ≤ x % D 12 0 := Int.emod_nonneg _ (by omega)
      have q1 : x % D 12 0 < D 12 0 := Int.emod_lt_of_pos _ (by omega)
      have q2 : D' 18 (x % D 12 0).toNat = D 18 (x % D 12 0).toNat := lE_c hl (by omega) (by omega) (by omega)
      rw [q2]
      by_cases c : D 12 0 = 0 ∨ ¬ D 18 (x % D 12 0).toNat = y % 2
      · rw [zit_t c, zit_t c]; exact hl
      · rw [zit_f c, zit_f c]; exact lEq_ov hl (by omega)
  rw [if_neg c3, if_neg c3]
  by_cases c4 : what = 7
  · rw [if_pos c4, if_pos c4]
    by_cases c : D 12 0 = 0
    · rw [zit_t c, zit_t c]; exact hl
    · rw [zit_f c, zit_f c]; exact lEq_ov hl (by omega)
  rw [if_neg c4, if_neg c4]
  by_cases c5 : what = 8
  · rw [if_pos c5, if_pos c5]
    have q := hasDev_l hl (p := (x % D 1 0).toNat) (by omega) (z % 5)
    by_cases c : x % D 1 0 = y % D 1 0 ∨ ¬ hasDev D (x % D 1 0).toNat (z % 5)
    · rw [zit_t c, zit_t (c.imp id (fun u v => u (q.mp v)))]; exact hl
    · rw [zit_f c, zit_f (fun z => c (z.imp id (fun u v => u (q.mpr v))))]
      exact lEq_ln hl (by omega) (by omega)
  rw [if_neg c5, if_neg c5]
  exact lEq_clb hl w h1
theorem ad_post {D E : zBk} {pg kd vl wt : Int} (h : lEq (adB D pg kd vl wt) E) (h0 : 0 ≤ D 12 0) : E 12 0 = D 12 0 + 1 ∧ E 14 (D 12 0).toNat = kd ∧ E 15 (D 12 0).toNat = vl ∧ E 17 (D 12 0).toNat = 0 ∧ E 18 (D 12 0).toNat = 0 := by
  have e : E 12 0 = adB D pg kd vl wt 12 0 := h.1.2.2.2
  rw [adB_k] at e
  have key : ∀ o, 13 ≤ o → o ≤ 18 → E o (D 12 0).toNat = if o = 13 then pg else if o = 14 then kd else if o = 15 then vl else if o = 16 then wt else 0 := fun o a b => by
    rw [h.2.2.2.2 (D 12 0).toNat (by rw [adB_k]; omega) o a b, adB_n _ _ _ _ _ ⟨a, b⟩ (by omega)]
  exact ⟨e, key 14 (by omega) (by omega), key 15 (by omega) (by omega), key 17 (by omega) (by omega), key 18 (by omega) (by omega)⟩
theorem ov_post {D E : zBk} {o a : Nat} {v : Int} (h : lEq (ov D o a v) E) (h1 : 13 ≤ o) (h2 : o ≤ 18) (ha : (a : Int) < D 12 0) : E 12 0 = D 12 0 ∧ E 1 0 = D 1 0 ∧ E o a = v := by
  have k12 : ov D o a v 12 0 = D 12 0 := ov_k _ _ _ _ (by omega)
  have k1 : ov D o a v 1 0 = D 1 0 := ov_k _ _ _ _ (by omega)
  have e : E 12 0 = ov D o a v 12 0 := h.1.2.2.2
  have e1 : E 1 0 = ov D o a v 1 0 := h.1.1
  refine ⟨e.trans k12, e1.trans k1, ?_⟩
  rw [h.2.2.2.2 a (by rw [k12]; exact ha) o h1 h2]
  exact ov_s _ _ _ _

set_option maxRecDepth 20000 in
theorem sL_does_add {l : Launch} {w : zW} (hfl : l.stackTraces = false) {σ : zS} {D : zBk} {kd pg vl wt : Int} (hz : zOK σ) (hB : bK σ = D) (hW : WF D) (hN : HN σ) (hA : HBA σ) (hk : WFk D kd vl) (hp : 1 ≤ pg ∧ pg ≤ 999) (ht : 1 ≤ wt ∧ wt ≤ 9) (hc : D 12 0 < 40) : SpH l w mL_does 10 1 [zf 9 0, zi kd, zi pg, zi vl, zi wt] σ (zqv (some (zi (D 12 0))) (fun τ => OPd σ τ (adB D pg kd vl wt))) := by
  subst hB
  obtain ⟨k0, k1, v0, v1, q0, q1, q2, q3, q4⟩ := hk
  rcases (by omega : kd = 0 ∨ kd = 1 ∨ kd = 2 ∨ kd = 3 ∨ kd = 4) with rfl | rfl | rfl | rfl | rfl
  · exact zSpH_mono (dL_0 hfl hz (by decide) (by decide) (sX9_addDeviceClue hfl hz (WF_tr hW) hN hA (by unfold zr; omega) (by unfold zr; omega) (by unfold zr; omega) ⟨hp, ⟨v0, q0 rfl⟩, ht⟩ hc) (dO_ret _ _)) (fun o τ h => ⟨(dQ_ret o τ h).1, OPd_of (pEq_ad (tr_q _)) (dQ_ret o τ h).2⟩)
  · exact zSpH_mono (dL_1 hfl hz (by decide) (by decide) (sX9_addTypefaceClue hfl hz (WF_tr hW) hN hA (by unfold zr; omega) (by unfold zr; omega) (by unfold zr; omega) ⟨hp, ⟨v0, q1 rfl⟩, ht⟩ hc) (dO_ret _ _)) (fun o τ h => ⟨(dQ_ret o τ h).1, OPd_of (pEq_ad (tr_q _)) (dQ_ret o τ h).2⟩)
  · exact zSpH_mono (dL_2 hfl hz (by decide) (by decide) (sX9_addWatermarkClue hfl hz (WF_tr hW) hN hA (by unfold zr; omega) (by unfold zr; omega) (by unfold zr; omega) ⟨hp, ⟨v0, (by have := q2 rfl; exact Int.le_sub_one_of_lt this)⟩, ht⟩ hc) (dO_ret _ _)) (fun o τ h => ⟨(dQ_ret o τ h).1, OPd_of (pEq_ad (tr_q _)) (dQ_ret o τ h).2⟩)
  · exact zSpH_mono (dL_3 hfl hz (by decide) (by decide) (sX9_addCityClue hfl hz (WF_tr hW) hN hA (by unfold zr; omega) (by unfold zr; omega) (by unfold zr; omega) ⟨hp, ⟨v0, q3 rfl⟩, ht⟩ hc) (dO_ret _ _)) (fun o τ h => ⟨(dQ_ret o τ h).1, OPd_of (pEq_ad (tr_q _)) (dQ_ret o τ h).2⟩)
  · exact zSpH_mono (dL_4 hfl hz (by decide) (by decide) (sX9_addDateClue hfl hz (WF_tr hW) hN hA (by unfold zr; omega) (by unfold zr; omega) (by unfold zr; omega) ⟨hp, ⟨q4 rfl, v1⟩, ht⟩ hc) (dO_ret _ _)) (fun o τ h => ⟨(dQ_ret o τ h).1, OPd_of (pEq_ad (tr_q _)) (dQ_ret o τ h).2⟩)

set_option maxRecDepth 20000 in
theorem sL_does_addF {l : Launch} {w : zW} (hfl : l.stackTraces = false) {σ : zS} {D : zBk} {kd pg vl wt : Int} (hz : zOK σ) (hB : bK σ = D) (hW : WF D) (hN : HN σ) (hA : HBA σ) (hk : WFk D kd vl) (hp : 1 ≤ pg ∧ pg ≤ 999) (ht : 1 ≤ wt ∧ wt ≤ 9) (hc : D 12 0 = 40) : SpH l w mL_does 10 1 [zf 9 0, zi kd, zi pg, zi vl, zi wt] σ (zqv (some (zi (-103))) (fun τ => OPf σ τ D)) := by
  subst hB
  obtain ⟨k0, k1, v0, v1, q0, q1, q2, q3, q4⟩ := hk
  rcases (by omega : kd = 0 ∨ kd = 1 ∨ kd = 2 ∨ kd = 3 ∨ kd = 4) with rfl | rfl | rfl | rfl | rfl
  · exact zSpH_mono (dL_0 hfl hz (by decide) (by decide) (sX9_addDeviceClue_f3 hfl hz (WF_tr hW) hN hA (by unfold zr; omega) (by unfold zr; omega) (by unfold zr; omega) ⟨hp, ⟨v0, q0 rfl⟩, ht⟩ (Int.le_of_eq hc.symm)) (dO_thq zex_1 _)) (fun o τ h => ⟨(dQ_thq rfl o τ h).1, OPf_of hN (dQ_thq rfl o τ h).2⟩)
  · exact zSpH_mono (dL_1 hfl hz (by decide) (by decide) (sX9_addTypefaceClue_f3 hfl hz (WF_tr hW) hN hA (by unfold zr; omega) (by unfold zr; omega) (by unfold zr; omega) ⟨hp, ⟨v0, q1 rfl⟩, ht⟩ (Int.le_of_eq hc.symm)) (dO_thq zex_1 _)) (fun o τ h => ⟨(dQ_thq rfl o τ h).1, OPf_of hN (dQ_thq rfl o τ h).2⟩)
  · exact zSpH_mono (dL_2 hfl hz (by decide) (by decide) (sX9_addWatermarkClue_f3 hfl hz (WF_tr hW) hN hA (by unfold zr; omega) (by unfold zr; omega) (by unfold zr; omega) ⟨hp, ⟨v0, (by have := q2 rfl; exact Int.le_sub_one_of_lt this)⟩, ht⟩ (Int.le_of_eq hc.symm)) (dO_thq zex_1 _)) (fun o τ h => ⟨(dQ_thq rfl o τ h).1, OPf_of hN (dQ_thq rfl o τ h).2⟩)
  · exact zSpH_mono (dL_3 hfl hz (by decide) (by decide) (sX9_addCityClue_f3 hfl hz (WF_tr hW) hN hA (by unfold zr; omega) (by unfold zr; omega) (by unfold zr; omega) ⟨hp, ⟨v0, q3 rfl⟩, ht⟩ (Int.le_of_eq hc.symm)) (dO_thq zex_1 _)) (fun o τ h => ⟨(dQ_thq rfl o τ h).1, OPf_of hN (dQ_thq rfl o τ h).2⟩)
  · exact zSpH_mono (dL_4 hfl hz (by decide) (by decide) (sX9_addDateClue_f3 hfl hz (WF_tr hW) hN hA (by unfold zr; omega) (by unfold zr; omega) (by unfold zr; omega) ⟨hp, ⟨q4 rfl, v1⟩, ht⟩ (Int.le_of_eq hc.symm)) (dO_thq zex_1 _)) (fun o τ h => ⟨(dQ_thq rfl o τ h).1, OPf_of hN (dQ_thq rfl o τ h).2⟩)

set_option maxRecDepth 20000 in
theorem sL_does_addM {l : Launch} {w : zW} (hfl : l.stackTraces = false) {σ : zS} {D : zBk}  (hz : zOK σ) (hB : bK σ = D) (hW : WF D) (hN : HN σ) (hA : HBA σ) (hm : D 1 7 = 0) : SpH l w mL_does 10 1 [zf 9 0, zi 2, zi 5, zi 0, zi 1] σ (zqv (some (zi (-102))) (fun τ => OPf σ τ D)) := by
  subst hB
  exact zSpH_mono (dL_2 hfl hz (by decide) (by decide) (sX9_addWatermarkClue_f2 hfl hz (WF_tr hW) hN hA (by unfold zr; omega) (by unfold zr; omega) (by unfold zr; omega) (fun q => absurd (Int.le_trans q.2.1.1 q.2.1.2) (by rw [show σ.1 31 7 = 0 from hm]; decide))) (dO_thq zex_2 _)) (fun o τ h => ⟨(dQ_thq rfl o τ h).1, OPf_of hN (dQ_thq rfl o τ h).2⟩)
set_option maxRecDepth 20000 in
theorem sL_does_read {l : Launch} {w : zW} (hfl : l.stackTraces = false) {σ : zS} {D : zBk} {x a b : Int} (hz : zOK σ) (hB : bK σ = D) (hW : WF D) (hN : HN σ) (hA : HBA σ) (hx : 1 ≤ x ∧ x ≤ 40) : SpH l w mL_does 10 1 [zf 9 0, zi 5, zi x, zi a, zi b] σ (zqv (some (zi (min x (U D (D 12 0).toNat)))) (fun τ => OPd σ τ (rdB D x))) := by
  subst hB
  exact zSpH_mono (dL_5 hfl hz (by decide) (by decide) (sX9_read hfl hz (WF_tr hW) hN hA hx) (dO_ret _ _)) (fun o τ h => ⟨(dQ_ret o τ h).1, OPd_of (pEq_rd hW (tr_q _)) (dQ_ret o τ h).2⟩)
set_option maxRecDepth 20000 in
theorem sL_does_setAside {l : Launch} {w : zW} (hfl : l.stackTraces = false) {σ : zS} {D : zBk} {x a b : Int} (hz : zOK σ) (hB : bK σ = D) (hW : WF D) (hP1 : 1 ≤ D 1 0) (hN : HN σ) (hA : HBA σ) (hx : 0 ≤ x ∧ x < D 12 0) (hg : D 18 x.toNat = 0) : SpH l w mL_does 10 1 [zf 9 0, zi 6, zi x, zi a, zi b] σ (zqv (some (zi (wS (ov D 18 x.toNat 1) (Ht (ov D 18 x.toNat 1))))) (fun τ => OPd σ τ (ov D 18 x.toNat 1))) := by
  subst hB
  have hzx : zr x := by have q := hW.1.2.2.2; unfold zr; omega
  exact zSpH_mono (dL_6 hfl hz (by decide) (by decide) (sX9_setAside hfl hz (WF_tr hW) hP1 hN hA hzx hx (fun q => q hg)) (dO_ret _ _)) (fun o τ h => ⟨by rw [(dQ_ret o τ h).1, wS_ovK hP1 (dQ_ret o τ h).2.2.2.2.2.1 (dQ_ret o τ h).2.2.2.2.2.2], OPd_of (pEq_ov (tr_q _)) (dQ_ret o τ h).2⟩)
set_option maxRecDepth 20000 in
theorem sL_does_setAside_f2 {l : Launch} {w : zW} (hfl : l.stackTraces = false) {σ : zS} {D : zBk} {x a b : Int} (hz : zOK σ) (hB : bK σ = D) (hW : WF D) (hN : HN σ) (hA : HBA σ) (hx : 0 ≤ x ∧ x < D 12 0) (hg : ¬ D 18 x.toNat = 0) : SpH l w mL_does 10 1 [zf 9 0, zi 6, zi x, zi a, zi b] σ (zqv (some (zi (-103))) (fun τ => OPf σ τ D)) := by
  subst hB
  have hzx : zr x := by have q := hW.1.2.2.2; unfold zr; omega
  exact zSpH_mono (dL_6 hfl hz (by decide) (by decide) (sX9_setAside_f2 hfl hz (WF_tr hW) hN hA hzx hx hg) (dO_thq zex_1 _)) (fun o τ h => ⟨(dQ_thq rfl o τ h).1, OPf_of hN (dQ_thq rfl o τ h).2⟩)
set_option maxRecDepth 20000 in
theorem sL_does_setAside_f1 {l : Launch} {w : zW} (hfl : l.stackTraces = false) {σ : zS} {D : zBk}  (hz : zOK σ) (hB : bK σ = D) (hW : WF D) (hN : HN σ) (hA : HBA σ) (hc : D 12 0 = 0) : SpH l w mL_does 10 1 [zf 9 0, zi 6, zi 0, zi 0, zi 0] σ (zqv (some (zi (-101))) (fun τ => OPf σ τ D)) := by
  subst hB
  exact zSpH_mono (dL_6 hfl hz (by decide) (by decide) (sX9_setAside_f1 hfl hz (WF_tr hW) hN hA (by unfold zr; omega) (fun q => absurd (show (0 : Int) < bK σ 12 0 from q.2) (by rw [hc]; decide))) (dO_thq zex_3 _)) (fun o τ h => ⟨(dQ_thq rfl o τ h).1, OPf_of hN (dQ_thq rfl o τ h).2⟩)
set_option maxRecDepth 20000 in
theorem sL_does_takeBack {l : Launch} {w : zW} (hfl : l.stackTraces = false) {σ : zS} {D : zBk} {x a b : Int} (hz : zOK σ) (hB : bK σ = D) (hW : WF D) (hP1 : 1 ≤ D 1 0) (hN : HN σ) (hA : HBA σ) (hx : 0 ≤ x ∧ x < D 12 0) (hg : ¬ D 18 x.toNat = 0) : SpH l w mL_does 10 1 [zf 9 0, zi 7, zi x, zi a, zi b] σ (zqv (some (zi (wS (ov D 18 x.toNat 0) (Ht (ov D 18 x.toNat 0))))) (fun τ => OPd σ τ (ov D 18 x.toNat 0))) := by
  subst hB
  have hzx : zr x := by have q := hW.1.2.2.2; unfold zr; omega
  exact zSpH_mono (dL_7 hfl hz (by decide) (by decide) (sX9_takeBack hfl hz (WF_tr hW) hP1 hN hA hzx hx hg) (dO_ret _ _)) (fun o τ h => ⟨by rw [(dQ_ret o τ h).1, wS_ovK hP1 (dQ_ret o τ h).2.2.2.2.2.1 (dQ_ret o τ h).2.2.2.2.2.2], OPd_of (pEq_ov (tr_q _)) (dQ_ret o τ h).2⟩)
set_option maxRecDepth 20000 in
theorem sL_does_takeBack_f2 {l : Launch} {w : zW} (hfl : l.stackTraces = false) {σ : zS} {D : zBk} {x a b : Int} (hz : zOK σ) (hB : bK σ = D) (hW : WF D) (hN : HN σ) (hA : HBA σ) (hx : 0 ≤ x ∧ x < D 12 0) (hg : D 18 x.toNat = 0) : SpH l w mL_does 10 1 [zf 9 0, zi 7, zi x, zi a, zi b] σ (zqv (some (zi (-103))) (fun τ => OPf σ τ D)) := by
  subst hB
  have hzx : zr x := by have q := hW.1.2.2.2; unfold zr; omega
  exact zSpH_mono (dL_7 hfl hz (by decide) (by decide) (sX9_takeBack_f2 hfl hz (WF_tr hW) hN hA hzx hx hg) (dO_thq zex_1 _)) (fun o τ h => ⟨(dQ_thq rfl o τ h).1, OPf_of hN (dQ_thq rfl o τ h).2⟩)
set_option maxRecDepth 20000 in
theorem sL_does_takeBack_f1 {l : Launch} {w : zW} (hfl : l.stackTraces = false) {σ : zS} {D : zBk}  (hz : zOK σ) (hB : bK σ = D) (hW : WF D) (hN : HN σ) (hA : HBA σ) (hc : D 12 0 = 0) : SpH l w mL_does 10 1 [zf 9 0, zi 7, zi 0, zi 0, zi 0] σ (zqv (some (zi (-101))) (fun τ => OPf σ τ D)) := by
  subst hB
  exact zSpH_mono (dL_7 hfl hz (by decide) (by decide) (sX9_takeBack_f1 hfl hz (WF_tr hW) hN hA (by unfold zr; omega) (fun q => absurd (show (0 : Int) < bK σ 12 0 from q.2) (by rw [hc]; decide))) (dO_thq zex_3 _)) (fun o τ h => ⟨(dQ_thq rfl o τ h).1, OPf_of hN (dQ_thq rfl o τ h).2⟩)
set_option maxRecDepth 20000 in
theorem sL_does_clear {l : Launch} {w : zW} (hfl : l.stackTraces = false) {σ : zS} {D : zBk} {a b c : Int} (hz : zOK σ) (hB : bK σ = D) (hW : WF D) (hP1 : 1 ≤ D 1 0) (hN : HN σ) (hA : HBA σ) : SpH l w mL_does 10 1 [zf 9 0, zi 8, zi a, zi b, zi c] σ (zqv (some (zi (zs (fun c => zb (opn D c)) (D 12 0).toNat))) (fun τ => OPd σ τ (clB D))) := by
  subst hB
  exact zSpH_mono (dL_8 hfl hz (by decide) (by decide) (sX9_setAsideUnexplained hfl hz (WF_tr hW) hP1 hN hA) (dO_ret _ _)) (fun o τ h => ⟨by rw [(dQ_ret o τ h).1, ← opnN_l (lEq_sy (pEq_lK σ)) hW hP1]; rfl, OPd_cl hW hP1 (dQ_ret o τ h).2⟩)
set_option maxRecDepth 20000 in
theorem sL_does_weight {l : Launch} {w : zW} (hfl : l.stackTraces = false) {σ : zS} {D : zBk} {x y b : Int} (hz : zOK σ) (hB : bK σ = D) (hW : WF D) (hN : HN σ) (hA : HBA σ) (hx : 0 ≤ x ∧ x < D 12 0) (hy : 1 ≤ y ∧ y ≤ 9) : SpH l w mL_does 10 1 [zf 9 0, zi 9, zi x, zi y, zi b] σ (zqv (some (zi (D 16 x.toNat))) (fun τ => OPd σ τ (ov D 16 x.toNat y))) := by
  subst hB
  have hzx : zr x := by have q := hW.1.2.2.2; unfold zr; omega
  exact zSpH_mono (dL_9 hfl hz (by decide) (by decide) (sX9_setWeight hfl hz (WF_tr hW) hN hA hzx (by unfold zr; omega) hx hy) (dO_ret _ _)) (fun o τ h => ⟨(dQ_ret o τ h).1, OPd_of (pEq_ov (tr_q _)) (dQ_ret o τ h).2⟩)
set_option maxRecDepth 20000 in
theorem sL_does_weight_f1 {l : Launch} {w : zW} (hfl : l.stackTraces = false) {σ : zS} {D : zBk}  (hz : zOK σ) (hB : bK σ = D) (hW : WF D) (hN : HN σ) (hA : HBA σ) (hc : D 12 0 = 0) : SpH l w mL_does 10 1 [zf 9 0, zi 9, zi 0, zi 1, zi 0] σ (zqv (some (zi (-101))) (fun τ => OPf σ τ D)) := by
  subst hB
  refine zSpH_mono (dL_9 hfl hz (by decide) (by decide) (sX9_setWeight_f1 hfl hz (WF_tr hW) (by unfold zr; omega) (by unfold zr; omega) (fun q => absurd (show (0 : Int) < bK σ 12 0 from q.2) (by rw [hc]; decide))) (dO_thr zex_3 _)) (fun o τ h => ?_)
  have h2 := dQ_thr rfl o τ h
  refine ⟨h2.1, ?_⟩
  rw [h2.2]
  exact ⟨hz, zSO_j (zSame_rf _ _), hN, hA, rfl⟩
set_option maxRecDepth 20000 in
theorem sL_does_lend {l : Launch} {w : zW} (hfl : l.stackTraces = false) {σ : zS} {D : zBk} {x y u : Int} (hz : zOK σ) (hB : bK σ = D) (hW : WF D) (hN : HN σ) (hA : HBA σ) (hx : 0 ≤ x ∧ x < D 1 0) (hy : 0 ≤ y ∧ y < D 1 0) (hne : ¬ x = y) (hu : 0 ≤ u ∧ u ≤ 4) (hdv : hasDev D x.toNat u) : SpH l w mL_does 10 1 [zf 9 0, zi 10, zi x, zi y, zi u] σ (zqv (some (zi (zs (fun p => zb (hasDev (lnB D x.toNat y.toNat u) p u)) (D 1 0).toNat))) (fun τ => OPd σ τ (lnB D x.toNat y.toNat u))) := by
  subst hB
  have hzx : zr x := by have q := hW.1.1; unfold zr; omega
  have hzy : zr y := by have q := hW.1.1; unfold zr; omega
  have hzu : zr u := by unfold zr; omega
  exact zSpH_mono (dL_10 hfl hz (by decide) (by decide) (sX9_transferDevice hfl hz (WF_tr hW) hN hA hzx hzy hzu ⟨hx, hy⟩ hne hdv) (dO_ret _ _)) (fun o τ h => ⟨(dQ_ret o τ h).1, OPd_of (lnB_p (tr_q _)) (dQ_ret o τ h).2⟩)
set_option maxRecDepth 20000 in
theorem sL_does_lend_f2 {l : Launch} {w : zW} (hfl : l.stackTraces = false) {σ : zS} {D : zBk} {x y u : Int} (hz : zOK σ) (hB : bK σ = D) (hW : WF D) (hN : HN σ) (hA : HBA σ) (hx : 0 ≤ x ∧ x < D 1 0) (hy : 0 ≤ y ∧ y < D 1 0) (he : x = y) (hu : 0 ≤ u ∧ u ≤ 4) : SpH l w mL_does 10 1 [zf 9 0, zi 10, zi x, zi y, zi u] σ (zqv (some (zi (-102))) (fun τ => OPf σ τ D)) := by
  subst hB
  have hzx : zr x := by have q := hW.1.1; unfold zr; omega
  have hzy : zr y := by have q := hW.1.1; unfold zr; omega
  have hzu : zr u := by unfold zr; omega
  exact zSpH_mono (dL_10 hfl hz (by decide) (by decide) (sX9_transferDevice_f2 hfl hz (WF_tr hW) hN hA hzx hzy hzu ⟨hx, hy⟩ he) (dO_thq zex_2 _)) (fun o τ h => ⟨(dQ_thq rfl o τ h).1, OPf_of hN (dQ_thq rfl o τ h).2⟩)
set_option maxRecDepth 20000 in
theorem sL_does_lend_f3 {l : Launch} {w : zW} (hfl : l.stackTraces = false) {σ : zS} {D : zBk} {x y u : Int} (hz : zOK σ) (hB : bK σ = D) (hW : WF D) (hN : HN σ) (hA : HBA σ) (hx : 0 ≤ x ∧ x < D 1 0) (hy : 0 ≤ y ∧ y < D 1 0) (hne : ¬ x = y) (hu : 0 ≤ u ∧ u ≤ 4) (hd : ¬ hasDev D x.toNat u) : SpH l w mL_does 10 1 [zf 9 0, zi 10, zi x, zi y, zi u] σ (zqv (some (zi (-103))) (fun τ => OPf σ τ D)) := by
  subst hB
  have hzx : zr x := by have q := hW.1.1; unfold zr; omega
  have hzy : zr y := by have q := hW.1.1; unfold zr; omega
  have hzu : zr u := by unfold zr; omega
  exact zSpH_mono (dL_10 hfl hz (by decide) (by decide) (sX9_transferDevice_f3 hfl hz (WF_tr hW) hN hA hzx hzy hzu ⟨hx, hy⟩ hne hd) (dO_thq zex_1 _)) (fun o τ h => ⟨(dQ_thq rfl o τ h).1, OPf_of hN (dQ_thq rfl o τ h).2⟩)
set_option maxRecDepth 20000 in
theorem sL_does_undo {l : Launch} {w : zW} (hfl : l.stackTraces = false) {σ : zS} {D : zBk} {a b c : Int} (hz : zOK σ) (hB : bK σ = D) (hW : WF D) (hN : HN σ) (hA : HBA σ) (hw : 0 < σ.1 70 2) : SpH l w mL_does 10 1 [zf 9 0, zi 11, zi a, zi b, zi c] σ (zqv (some (zi (σ.1 70 2 - 1))) (fun τ => zOK τ ∧ zSame (fun q => q = 70 ∨ (30 ≤ q ∧ q ≤ 49)) σ τ ∧ HN τ ∧ HBA τ ∧ zEq (bk σ (hRow σ 0)) (bK τ))) := by
  subst hB
  exact zSpH_mono (dL_11 hfl hz (by decide) (by decide) (sX9_undo hfl hz hN hA hw) (dO_ret _ _)) (fun o τ h => ⟨(dQ_ret o τ h).1, (dQ_ret o τ h).2.1, (dQ_ret o τ h).2.2.1, (dQ_ret o τ h).2.2.2.1, (dQ_ret o τ h).2.2.2.2.2.1, zEq_tr (dQ_ret o τ h).2.2.2.2.2.2.1 (pEq_z (tr_p _))⟩)
set_option maxRecDepth 20000 in
theorem sL_does_undo_f1 {l : Launch} {w : zW} (hfl : l.stackTraces = false) {σ : zS} {D : zBk} {a b c : Int} (hz : zOK σ) (hB : bK σ = D) (hW : WF D) (hN : HN σ) (hA : HBA σ) (hw : σ.1 70 2 ≤ 0) : SpH l w mL_does 10 1 [zf 9 0, zi 11, zi a, zi b, zi c] σ (zqv (some (zi (-103))) (fun τ => OPf σ τ D)) := by
  subst hB
  refine zSpH_mono (dL_11 hfl hz (by decide) (by decide) (sX9_undo_f1 hfl hz hN hw) (dO_thr zex_1 _)) (fun o τ h => ?_)
  have h2 := dQ_thr rfl o τ h
  refine ⟨h2.1, ?_⟩
  rw [h2.2]
  exact ⟨hz, zSO_j (zSame_rf _ _), hN, hA, rfl⟩

