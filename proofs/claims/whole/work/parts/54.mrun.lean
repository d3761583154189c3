
/-! the statements of a text, one after the other: what a step of the run says to the other reader -/
theorem isW_x {t : Nat → Int} {n p i j : Nat} (hi : 7 ≤ i ∧ i ≤ 12) (hj : 7 ≤ j ∧ j ≤ 12) (a : isW t n p i) (b : isW t n p j) : i = j := by
  have hl := a.2.1.symm.trans b.2.1
  have h0 : 0 < zslen.getD i 0 → 0 < zslen.getD j 0 → ((zsbyt.getD i []).getD 0 0).toInt = ((zsbyt.getD j []).getD 0 0).toInt := fun x y => (a.2.2 0 x).symm.trans (b.2.2 0 y)
  rcases (by omega : i = 7 ∨ i = 8 ∨ i = 9 ∨ i = 10 ∨ i = 11 ∨ i = 12) with rfl | rfl | rfl | rfl | rfl | rfl <;>
  rcases (by omega : j = 7 ∨ j = 8 ∨ j = 9 ∨ j = 10 ∨ j = 11 ∨ j = 12) with rfl | rfl | rfl | rfl | rfl | rfl <;>
  first
  | rfl
  | exact absurd hl (by decide)
  | exact absurd (h0 (by decide) (by decide)) (by decide)
theorem sct_w {t : Nat → Int} {n p k : Nat} (hk : k ≤ 5) (a : isW t n p (7 + k)) : sct t n p = (k : Int) := by
  have no : ∀ j, 7 ≤ j → j ≤ 12 → j ≠ 7 + k → ¬ isW t n p j := fun j h1 h2 h3 b => h3 (isW_x ⟨h1, h2⟩ ⟨by omega, by omega⟩ b a)
  unfold sct
  rcases (by omega : k = 0 ∨ k = 1 ∨ k = 2 ∨ k = 3 ∨ k = 4 ∨ k = 5) with rfl | rfl | rfl | rfl | rfl | rfl
  · rw [if_pos a]; rfl
  · rw [if_neg (no 7 (by omega) (by omega) (by omega)), if_pos a]; rfl
  · rw [if_neg (no 7 (by omega) (by omega) (by omega)), if_neg (no 8 (by omega) (by omega) (by omega)), if_pos a]; rfl
  · rw [if_neg (no 7 (by omega) (by omega) (by omega)), if_neg (no 8 (by omega) (by omega) (by omega)), if_neg (no 9 (by omega) (by omega) (by omega)), if_pos a]; rfl
  · rw [if_neg (no 7 (by omega) (by omega) (by omega)), if_neg (no 8 (by omega) (by omega) (by omega)), if_neg (no 9 (by omega) (by omega) (by omega)), if_neg (no 10 (by omega) (by omega) (by omega)), if_pos a]; rfl
  · rw [if_neg (no 7 (by omega) (by omega) (by omega)), if_neg (no 8 (by omega) (by omega) (by omega)), if_neg (no 9 (by omega) (by omega) (by omega)), if_neg (no 10 (by omega) (by omega) (by omega)), if_neg (no 11 (by omega) (by omega) (by omega)), if_pos a]; rfl
theorem sct_i {t : Nat → Int} {n p k : Nat} (hk : k ≤ 5) (h : sct t n p = (k : Int)) : isW t n p (7 + k) := by
  unfold sct at h
  by_cases a0 : isW t n p 7
  · rw [if_pos a0] at h; have e : k = 0 := by omega
    subst e; exact a0
  rw [if_neg a0] at h
  by_cases a1 : isW t n p 8
  · rw [if_pos a1] at h; have e : k = 1 := by omega
    subst e; exact a1
  rw [if_neg a1] at h
  by_cases a2 : isW t n p 9
  · rw [if_pos a2] at h; have e : k = 2 := by omega
    subst e; exact a2
  rw [if_neg a2] at h
  by_cases a3 : isW t n p 10
  · rw [if_pos a3] at h; have e : k = 3 := by omega
    subst e; exact a3
  rw [if_neg a3] at h
  by_cases a4 : isW t n p 11
  · rw [if_pos a4] at h; have e : k = 4 := by omega
    subst e; exact a4
  rw [if_neg a4] at h
  by_cases a5 : isW t n p 12
  · rw [if_pos a5] at h; have e : k = 5 := by omega
    subst e; exact a5
  rw [if_neg a5] at h; omega
theorem pW_n {t : Nat → Int} {n j : Nat} {S : zP} {A : Prop} (h : ¬ isW t n S.1 j) : pW t n S j A = pF t n S 1 := if_neg h
theorem pW_f {t : Nat → Int} {n j : Nat} {S : zP} {A : Prop} (h : isW t n S.1 j) (a : ¬ A) : pW t n S j A = pF t n S 4 := (if_pos h).trans (if_neg a)
theorem pW_y {t : Nat → Int} {n j : Nat} {S : zP} {A : Prop} (h : isW t n S.1 j) (a : A) (z : S.2.1 = 0) : pW t n S j A = pN t n S := (if_pos h).trans ((if_pos a).trans (if_pos z))
theorem stp_l {t : Nat → Int} {n j : Nat} {a b : zTr} {k : Int} {A : Prop} (s : stp t n a b) (hk : sct t n a.2.1.1 = k) (w : isW t n a.2.1.1 j) (h1 : a.1 ≤ k) (h2 : k ≤ lst a.2.2) (hA : A ↔ ¬ ful a.2.2 k) :
    b.2.1 = lS t n k j A a.2.2 a.2.1 ∧ lEq (lB t n k j A a.2.2 a.2.1) b.2.2 ∧ (b.2.1.2.1 = 0 → b.1 = k) := by
  obtain ⟨z, -, s3⟩ := s
  rw [hk] at s3
  have hw : wth t n a := ⟨by rw [hk]; exact h1, by rw [hk]; exact h2⟩
  rcases s3 with ⟨c, -⟩ | ⟨-, c, -, e, l⟩ | ⟨-, c, e1, e, l⟩
  · exact absurd hw c
  · have ew := pW_f (A := A) w (fun q => hA.mp q c)
    have nz : ¬ (pW t n a.2.1 j A).2.1 = 0 := by rw [ew]; exact pF_nz (by decide)
    unfold lS lB
    rw [if_neg nz, if_neg nz, ew]
    exact ⟨e, l, fun q => by rw [e] at q; exact absurd q (pF_nz (by decide))⟩
  · have ew := pW_y (A := A) w (hA.mpr c) z
    have nz : (pW t n a.2.1 j A).2.1 = 0 := by rw [ew]; exact z
    unfold lS lB
    rw [if_pos nz, if_pos nz]
    exact ⟨e, l, fun _ => e1⟩
theorem stp_o {t : Nat → Int} {n j : Nat} {a b : zTr} {k : Int} {A : Prop} (s : stp t n a b) (c : ¬ wth t n a) (w : ¬ isW t n a.2.1.1 j) : b.2.1 = lS t n k j A a.2.2 a.2.1 ∧ ¬ b.2.1.2.1 = 0 := by
  obtain ⟨z, -, s3⟩ := s
  rcases s3 with ⟨-, -, e, -⟩ | ⟨d, -⟩ | ⟨d, -⟩
  · have ew := pW_n (A := A) w
    have nz : ¬ (pW t n a.2.1 j A).2.1 = 0 := by rw [ew]; exact pF_nz (by decide)
    unfold lS
    rw [if_neg nz, ew]
    exact ⟨e, by rw [e]; exact pF_nz (by decide)⟩
  · exact absurd d c
  · exact absurd d c
theorem cTr_u {t : Nat → Int} {n : Nat} {X : Nat → zTr} {M k : Nat} (h : cTr t n X M) (hk : k ≤ M) (u : ¬ (X k).2.1.2.1 = 0) : k = M ∧ (X k).2.1 = cFin t n X M := by
  have e : k = M := by
    rcases Nat.lt_or_ge k M with q | q
    · exact absurd (h.1 k q).1 u
    · omega
  subst e
  refine ⟨rfl, ?_⟩
  unfold cFin
  by_cases c : (X k).2.2 1 0 = 0
  · rw [if_pos c, pF_n u]
  · rw [if_neg c]



