/-! ===== the text that the law writes is read without a fault ===== -/
def Sx (t : Nat → Int) (n p : Nat) (s : List Int) : Prop := n = p + s.length ∧ ∀ i, i < s.length → t (p + i) = s.getD i 0
section SX
variable {t : Nat → Int} {n p : Nat} {s w r : List Int} {c d : Int}
theorem Sx_d (h : Sx t n p (w ++ s)) : Sx t n (p + w.length) s := by
  refine ⟨by rw [h.1, List.length_append]; omega, fun i hi => ?_⟩
  have e := h.2 (w.length + i) (by rw [List.length_append]; omega)
  rw [← Nat.add_assoc] at e
  rw [e, List.getD_eq_getElem?_getD, List.getElem?_append_right (by omega), show w.length + i - w.length = i by omega, List.getD_eq_getElem?_getD]
theorem Sx_w (h : Sx t n p (w ++ s)) {i : Nat} (hi : i < w.length) : p + i < n ∧ t (p + i) = w.getD i 0 := by
  refine ⟨by rw [h.1, List.length_append]; omega, ?_⟩
  rw [h.2 i (by rw [List.length_append]; omega), List.getD_eq_getElem?_getD, List.getElem?_append_left hi, List.getD_eq_getElem?_getD]
theorem Sx_h (h : Sx t n p (c :: s)) : p < n ∧ t p = c := by
  have := Sx_w (w := [c]) (s := s) h (i := 0) (Nat.le_of_ble_eq_true rfl)
  exact this
theorem Sx_t (h : Sx t n p (c :: s)) : Sx t n (p + 1) s := Sx_d (w := [c]) h
theorem rnE_k {Q : Nat → Prop} : ∀ (k p : Nat), (∀ i, i < k → p + i < n ∧ Q (p + i)) → ¬ (p + k < n ∧ Q (p + k)) → rnE Q n p = p + k
  | 0, p, _, h => rnE_n h
  | k + 1, p, h1, h2 => by
    have h0 := h1 0 (by omega)
    rw [show rnE Q n p = rnE Q n (p + 1) from rnE_y h0.1 h0.2, rnE_k k (p + 1) (fun i hi => by rw [show p + 1 + i = p + (i + 1) by omega]; exact h1 (i + 1) (by omega)) (by rw [show p + 1 + k = p + (k + 1) by omega]; exact h2)]
    omega
theorem getD_mem {i : Nat} (h : i < w.length) : w.getD i 0 ∈ w := by
  rw [List.getD_eq_getElem?_getD, List.getElem?_eq_getElem h]
  exact List.getElem_mem h
theorem tkW (h : Sx t n p (w ++ d :: s)) (h0 : 0 < w.length) (hw : ∀ x ∈ w, 97 ≤ x ∧ x ≤ 122) (hd : ¬ (97 ≤ d ∧ d ≤ 122)) : xK t n p = 1 ∧ xS t n p = p ∧ xE t n p = p + w.length := by
  have a := Sx_w h h0
  have a2 := hw _ (getD_mem h0)
  have b := Sx_h (Sx_d h)
  have e1 : xS t n p = p := rnE_n (fun q => by have q2 : t p = 32 := q.2; rw [← a.2] at a2; rw [show p + 0 = p from rfl] at a2; omega)
  have e2 : xK t n p = 1 := by
    unfold xK
    rw [e1, if_neg (by have := a.1; omega), kb_1]
    rw [← a.2] at a2
    exact a2
  refine ⟨e2, e1, ?_⟩
  unfold xE
  rw [if_neg (by omega), if_pos e2, e1]
  exact rnE_k _ _ (fun i hi => ⟨(Sx_w h hi).1, by have := hw _ (getD_mem hi); rw [← (Sx_w h hi).2] at this; exact this⟩) (fun q => by have q2 := q.2; unfold isWd at q2; rw [b.2] at q2; exact hd q2)
theorem tkN (h : Sx t n p (w ++ d :: s)) (h0 : 0 < w.length) (hw : ∀ x ∈ w, 48 ≤ x ∧ x ≤ 57) (hd : ¬ (48 ≤ d ∧ d ≤ 57)) : xK t n p = 2 ∧ xS t n p = p ∧ xE t n p = p + w.length := by
  have a := Sx_w h h0
  have a2 := hw _ (getD_mem h0)
  have b := Sx_h (Sx_d h)
  have e1 : xS t n p = p := rnE_n (fun q => by have q2 : t p = 32 := q.2; rw [← a.2] at a2; rw [show p + 0 = p from rfl] at a2; omega)
  have e2 : xK t n p = 2 := by
    unfold xK
    rw [e1, if_neg (by have := a.1; omega), kb_2]
    rw [← a.2] at a2
    exact a2
  refine ⟨e2, e1, ?_⟩
  unfold xE
  rw [if_neg (by omega), if_neg (by omega), if_pos e2, e1]
  exact rnE_k _ _ (fun i hi => ⟨(Sx_w h hi).1, by have := hw _ (getD_mem hi); rw [← (Sx_w h hi).2] at this; exact this⟩) (fun q => by have q2 := q.2; unfold isDg at q2; rw [b.2] at q2; exact hd q2)
theorem tkS (h : Sx t n p (59 :: s)) : xK t n p = 3 ∧ xS t n p = p ∧ xE t n p = p + 1 := by
  have a := Sx_h h
  have e1 : xS t n p = p := rnE_n (fun q => by have q2 : t p = 32 := q.2; omega)
  have e2 : xK t n p = 3 := by
    unfold xK
    rw [e1, if_neg (by omega), kb_3]
    exact a.2
  refine ⟨e2, e1, ?_⟩
  unfold xE
  rw [if_neg (by omega), if_neg (by omega), if_neg (by omega), e1]
theorem tk0 (h : Sx t n p []) : xK t n p = 0 := by
  have a : n = p := h.1
  have := (rnE_le (isSp t) n p).1
  unfold xK
  exact if_pos (by unfold xS; omega)
theorem tkB (h : Sx t n p (32 :: s)) : xS t n p = xS t n (p + 1) := rnE_y (Sx_h h).1 (Sx_h h).2
/-! numbers, names, semicolons -/
theorem stN {lo hi : Int} (h : Sx t n p (32 :: (w ++ d :: s))) (h0 : 0 < w.length) (h4 : w.length ≤ 4) (hw : ∀ x ∈ w, 48 ≤ x ∧ x ≤ 57) (hd : ¬ (48 ≤ d ∧ d ≤ 57)) {v : Int} (hv : dv t (p + 1) w.length = v) : pV t n p = v ∧ (lo ≤ v ∧ v ≤ hi → pNum t n (p, 0, -1) lo hi = (p + 1 + w.length, 0, -1)) := by
  obtain ⟨a1, a2, a3⟩ := tkN (Sx_t h) h0 hw hd
  have b1 := tkB h
  have e1 : xS t n p = p + 1 := b1.trans a2
  have e2 : xK t n p = 2 := (xK_at b1).trans a1
  have e3 : xE t n p = p + 1 + w.length := (xE_at b1).trans a3
  have e4 : pV t n p = v := by
    unfold pV
    rw [e1, e3, show p + 1 + w.length - (p + 1) = w.length by omega]
    exact hv
  refine ⟨e4, fun q => ?_⟩
  unfold pNum
  rw [if_neg (fun z => z rfl), if_neg (fun z => z ⟨e2, by show xE t n p - xS t n p ≤ 4; rw [e1, e3]; omega⟩)]
  show (if ¬ (lo ≤ pV t n p ∧ pV t n p ≤ hi) then _ else _) = _
  rw [if_neg (fun z => z (by rw [e4]; exact q))]
  show (xE t n p, ((0 : Int), (-1 : Int))) = _
  rw [e3]
def d4 (v : Int) : List Int := [48 + v / 100 / 10, 48 + v / 100 % 10, 48 + v % 100 / 10, 48 + v % 100 % 10]
theorem stN1 {v lo hi : Int} (h : Sx t n p (32 :: (48 + v) :: d :: s)) (hv : 0 ≤ v ∧ v ≤ 9) (hd : ¬ (48 ≤ d ∧ d ≤ 57)) : pV t n p = v ∧ (lo ≤ v ∧ v ≤ hi → pNum t n (p, 0, -1) lo hi = (p + 2, 0, -1)) := by
  have a := (Sx_h (Sx_t h)).2
  refine stN (w := [48 + v]) (s := s) h (Nat.le_of_ble_eq_true rfl) (by show (1 : Nat) ≤ 4; omega) (fun x hx => by rcases List.mem_singleton.mp hx with rfl; omega) hd ?_
  show 10 * (0 : Int) + t (p + 1 + 0) - 48 = v
  rw [show p + 1 + 0 = p + 1 from rfl, a]
  omega
theorem stN4 {v lo hi : Int} (h : Sx t n p (32 :: (d4 v ++ d :: s))) (hv : 1000 ≤ v ∧ v < 10000) (hd : ¬ (48 ≤ d ∧ d ≤ 57)) : pV t n p = v ∧ (lo ≤ v ∧ v ≤ hi → pNum t n (p, 0, -1) lo hi = (p + 5, 0, -1)) := by
  have a0 := (Sx_w (Sx_t h) (i := 0) (Nat.le_of_ble_eq_true rfl)).2
  have a1 := (Sx_w (Sx_t h) (i := 1) (Nat.le_of_ble_eq_true rfl)).2
  have a2 := (Sx_w (Sx_t h) (i := 2) (Nat.le_of_ble_eq_true rfl)).2
  have a3 := (Sx_w (Sx_t h) (i := 3) (Nat.le_of_ble_eq_true rfl)).2
  refine stN (w := d4 v) (s := s) h (Nat.le_of_ble_eq_true rfl) (by show (4 : Nat) ≤ 4; omega) (fun x hx => by
    simp only [d4, List.mem_cons, List.not_mem_nil, or_false] at hx
    rcases hx with rfl | rfl | rfl | rfl <;> omega) hd ?_
  show 10 * (10 * (10 * (10 * (0 : Int) + t (p + 1 + 0) - 48) + t (p + 1 + 1) - 48) + t (p + 1 + 2) - 48) + t (p + 1 + 3) - 48 = v
  rw [a0, a1, a2, a3]
  show 10 * (10 * (10 * (10 * (0 : Int) + (48 + v / 100 / 10) - 48) + (48 + v / 100 % 10) - 48) + (48 + v % 100 / 10) - 48) + (48 + v % 100 % 10) - 48 = v
  omega
theorem stNm {k : Int} (h : Sx t n p (32 :: 112 :: (97 + k) :: d :: s)) (hk : 0 ≤ k ∧ k ≤ 25) (hd : ¬ (97 ≤ d ∧ d ≤ 122)) : nmv t n (p, 0, -1) = 513 + k ∧ xE t n p = p + 3 := by
  obtain ⟨a1, a2, a3⟩ := tkW (w := [112, 97 + k]) (s := s) (Sx_t h) (Nat.le_of_ble_eq_true rfl) (fun x hx => by
    simp only [List.mem_cons, List.not_mem_nil, or_false] at hx
    rcases hx with rfl | rfl <;> omega) hd
  have b1 := tkB h
  have e1 : xS t n p = p + 1 := b1.trans a2
  have e2 : xK t n p = 1 := (xK_at b1).trans a1
  have e3 : xE t n p = p + 1 + 2 := (xE_at b1).trans a3
  have c0 := (Sx_h (Sx_t h)).2
  have c1 := (Sx_h (Sx_t (Sx_t h))).2
  refine ⟨?_, e3⟩
  unfold nmv
  rw [if_pos ⟨rfl, e2, by show xE t n p - xS t n p ≤ 6; rw [e1, e3]; omega⟩]
  show pkF (fun k => t (xS t n p + k)) (xE t n p - xS t n p) = _
  rw [e1, e3, show p + 1 + 2 - (p + 1) = 2 by omega]
  show 32 * (32 * (0 : Int) + (t (p + 1 + 0) - 96)) + (t (p + 1 + 1) - 96) = _
  rw [show p + 1 + 0 = p + 1 from rfl, c0, c1]
  omega
theorem stSm (h : Sx t n p (59 :: s)) : pSem t n (p, 0, -1) = (p + 1, 0, -1) := by
  obtain ⟨a1, a2, a3⟩ := tkS h
  unfold pSem
  rw [if_neg (fun z => z rfl), if_pos a1]
  show (xE t n p, ((0 : Int), (-1 : Int))) = _
  rw [a3]
theorem isW_y (h : Sx t n p (w ++ d :: s)) (h0 : 0 < w.length) (hw : ∀ x ∈ w, 97 ≤ x ∧ x ≤ 122) (hd : ¬ (97 ≤ d ∧ d ≤ 122)) (j : Nat) (hj : w.length = zslen.getD j 0) (hb : ∀ i, i < w.length → w.getD i 0 = ((zsbyt.getD j []).getD i 0).toInt) : isW t n p j := by
  obtain ⟨a1, a2, a3⟩ := tkW h h0 hw hd
  refine ⟨a1, by rw [a2, a3, ← hj]; omega, fun i hi => ?_⟩
  rw [a2, (Sx_w h (by rw [hj]; exact hi)).2]
  exact hb i (by rw [hj]; exact hi)
theorem isW_l (h : Sx t n p (w ++ d :: s)) (h0 : 0 < w.length) (hw : ∀ x ∈ w, 97 ≤ x ∧ x ≤ 122) (hd : ¬ (97 ≤ d ∧ d ≤ 122)) (j : Nat) (hj : ¬ w.length = zslen.getD j 0) : ¬ isW t n p j := fun q => by
  obtain ⟨a1, a2, a3⟩ := tkW h h0 hw hd
  have := q.2.1
  rw [a2, a3] at this
  omega
theorem isW_b (h : Sx t n p (w ++ d :: s)) (h0 : 0 < w.length) (hw : ∀ x ∈ w, 97 ≤ x ∧ x ≤ 122) (hd : ¬ (97 ≤ d ∧ d ≤ 122)) (j i : Nat) (hi : i < w.length) (hj : i < zslen.getD j 0) (hb : ¬ w.getD i 0 = ((zsbyt.getD j []).getD i 0).toInt) : ¬ isW t n p j := fun q => by
  obtain ⟨a1, a2, a3⟩ := tkW h h0 hw hd
  have := q.2.2 i hj
  rw [a2, (Sx_w h hi).2] at this
  exact hb this
end SX
def woP : List Int := [112, 114, 105, 110, 116, 101, 114]
def woD : List Int := [100, 101, 118, 105, 99, 101]
def woT : List Int := [116, 121, 112, 101]
def woM : List Int := [109, 97, 114, 107]
theorem woP_l : ∀ x ∈ woP, 97 ≤ x ∧ x ≤ 122 := by decide
theorem woD_l : ∀ x ∈ woD, 97 ≤ x ∧ x ≤ 122 := by decide
theorem woT_l : ∀ x ∈ woT, 97 ≤ x ∧ x ≤ 122 := by decide
theorem woM_l : ∀ x ∈ woM, 97 ≤ x ∧ x ≤ 122 := by decide
section SCT
variable {t : Nat → Int} {n p : Nat} {s : List Int}
theorem sct_P (h : Sx t n p (woP ++ 32 :: s)) : sct t n p = 0 := by
  unfold sct
  rw [if_pos (isW_y h (by decide) woP_l (by decide) 7 (by decide) (by decide +kernel))]
theorem sct_D (h : Sx t n p (woD ++ 32 :: s)) : sct t n p = 1 := by
  unfold sct
  rw [if_neg (isW_l h (by decide) woD_l (by decide) 7 (by decide)), if_pos (isW_y h (by decide) woD_l (by decide) 8 (by decide) (by decide +kernel))]
theorem sct_T (h : Sx t n p (woT ++ 32 :: s)) : sct t n p = 2 := by
  unfold sct
  rw [if_neg (isW_l h (by decide) woT_l (by decide) 7 (by decide)), if_neg (isW_l h (by decide) woT_l (by decide) 8 (by decide)), if_pos (isW_y h (by decide) woT_l (by decide) 9 (by decide) (by decide +kernel))]
theorem sct_M (h : Sx t n p (woM ++ 32 :: s)) : sct t n p = 3 := by
  unfold sct
  rw [if_neg (isW_l h (by decide) woM_l (by decide) 7 (by decide)), if_neg (isW_l h (by decide) woM_l (by decide) 8 (by decide)), if_neg (isW_b h (by decide) woM_l (by decide) 9 0 (by decide) (by decide) (by decide +kernel)), if_pos (isW_y h (by decide) woM_l (by decide) 10 (by decide) (by decide +kernel))]
end SCT
/-! the four statements -/
def txP (k : Nat) (c a b : Int) : List Int := woP ++ 32 :: 112 :: (97 + (k : Int)) :: 32 :: (48 + c) :: 32 :: (d4 a ++ 32 :: (d4 b ++ [59]))
def txO (ws : List Int) (x v : Int) : List Int := ws ++ 32 :: 112 :: (97 + x) :: 32 :: (48 + v) :: [59]
def txM (a b : Int) : List Int := woM ++ 32 :: (d4 a ++ 32 :: (d4 b ++ [59]))
def FB (P M : Nat) (D : zBk) : Prop := D 1 0 = P ∧ D 1 7 = M ∧ D 1 10 = 0 ∧ D 12 0 = 0 ∧ ∀ j : Nat, j < P → D 2 j = 513 + (j : Int) ∧ 1500 ≤ D 4 j ∧ D 5 j ≤ 1549
theorem FB_l {P M : Nat} {D D' : zBk} (h : lEq D D') (f : FB P M D) : FB P M D' := by
  obtain ⟨⟨a1, a2, a3, a4⟩, b, -⟩ := h
  obtain ⟨f1, f2, f3, f4, f5⟩ := f
  refine ⟨a1.trans f1, a2.trans f2, a3.trans f3, a4.trans f4, fun j hj => ?_⟩
  have hb := b j (by omega)
  rw [hb 2 (by omega) (by omega), hb 4 (by omega) (by omega), hb 5 (by omega) (by omega)]
  exact f5 j hj
theorem fz_y {P M : Nat} {D : zBk} (f : FB P M D) {x : Int} (hx : 0 ≤ x ∧ x < P) : fz (D 2) (D 1 0) (513 + x) = x := by
  unfold fz
  rw [f.1, Int.toNat_natCast, zfst_at (i := x.toNat) (by omega) (fun j hj q => by have := (f.2.2.2.2 j (by omega)).1; omega) (by have := (f.2.2.2.2 x.toNat (by omega)).1; omega)]
  omega
theorem fz_n {P M : Nat} {D : zBk} (f : FB P M D) : fz (D 2) (D 1 0) (513 + (P : Int)) = -1 := by
  unfold fz
  rw [f.1, Int.toNat_natCast]
  exact zfst_no (fun j hj q => by have := (f.2.2.2.2 j hj).1; omega)
section STM
variable {t : Nat → Int} {n p : Nat} {r : List Int}
theorem tkP {ws s : List Int} {d : Int} (h : Sx t n p (ws ++ d :: s)) (h0 : 0 < ws.length) (hw : ∀ x ∈ ws, 97 ≤ x ∧ x ≤ 122) (hd : ¬ (97 ≤ d ∧ d ≤ 122)) : pN t n (p, 0, -1) = (p + ws.length, 0, -1) := by
  show (xE t n p, ((0 : Int), (-1 : Int))) = _
  rw [(tkW h h0 hw hd).2.2]
theorem q5_ok {P M : Nat} {D : zBk} {c a b : Int} (h : Sx t n p (txP P c a b ++ r)) (f : FB P M D) (hP : P ≤ 25) (hc : 0 ≤ c ∧ c ≤ 9) (ha : 1500 ≤ a ∧ a ≤ b ∧ b ≤ 1549) : q5 t n D (p + 7, 0, -1) = (p + 23, 0, -1) ∧ FB (P + 1) M (sStB t n 0 D (p + 7, 0, -1)) := by
  have h1 : Sx t n (p + 7) (32 :: 112 :: (97 + (P : Int)) :: 32 :: (48 + c) :: 32 :: (d4 a ++ 32 :: (d4 b ++ 59 :: r))) := by
    have := Sx_d (w := woP) (s := 32 :: 112 :: (97 + (P : Int)) :: 32 :: (48 + c) :: 32 :: (d4 a ++ 32 :: (d4 b ++ 59 :: r))) (t := t) (n := n) (p := p) (by rw [show woP ++ 32 :: 112 :: (97 + (P : Int)) :: 32 :: (48 + c) :: 32 :: (d4 a ++ 32 :: (d4 b ++ 59 :: r)) = txP P c a b ++ r by simp [txP]]; exact h)
    exact this
  have h2 : Sx t n (p + 10) (32 :: (48 + c) :: 32 :: (d4 a ++ 32 :: (d4 b ++ 59 :: r))) := Sx_t (Sx_t (Sx_t h1))
  have h3 : Sx t n (p + 12) (32 :: (d4 a ++ 32 :: (d4 b ++ 59 :: r))) := Sx_t (Sx_t h2)
  have h4 : Sx t n (p + 17) (32 :: (d4 b ++ 59 :: r)) := Sx_d (w := d4 a) (Sx_t h3)
  have h5 : Sx t n (p + 22) (59 :: r) := Sx_d (w := d4 b) (Sx_t h4)
  obtain ⟨a1, a2⟩ := stNm h1 (by omega) (by decide)
  have e1 : q1 t n D (p + 7, 0, -1) = (p + 10, 0, -1) := by
    unfold q1 pNew
    rw [if_neg (fun z => z rfl), a1, if_neg (by omega), if_neg (fun z => z (fz_n f))]
    show (xE t n (p + 7), ((0 : Int), (-1 : Int))) = _
    rw [a2]
  obtain ⟨b1, b2⟩ := stN1 (lo := 0) (hi := 9) h2 hc (by decide)
  have e2 : q2 t n D (p + 7, 0, -1) = (p + 12, 0, -1) := by
    unfold q2
    rw [e1]
    exact b2 hc
  obtain ⟨c1, c2⟩ := stN4 (lo := 1450) (hi := 1999) h3 (by omega) (by decide)
  have e3 : q3 t n D (p + 7, 0, -1) = (p + 17, 0, -1) := by
    unfold q3
    rw [e2]
    exact c2 (by omega)
  obtain ⟨g1, g2⟩ := stN4 (lo := a) (hi := 1999) h4 (by omega) (by decide)
  have e4 : q4 t n D (p + 7, 0, -1) = (p + 22, 0, -1) := by
    unfold q4
    rw [e3, e2]
    show pNum t n (p + 17, 0, -1) (pV t n (p + 12)) 1999 = _
    rw [c1]
    exact g2 (by omega)
  refine ⟨by unfold q5; rw [e4]; exact stSm h5, ?_⟩
  unfold sStB
  rw [if_pos rfl, e1, e2, e3, a1]
  show FB (P + 1) M (adP D (513 + (P : Int)) (pV t n (p + 10)) (pV t n (p + 12)) (pV t n (p + 17)))
  rw [b1, c1, g1]
  obtain ⟨f1, f2, f3, f4, f5⟩ := f
  refine ⟨?_, ?_, ?_, ?_, fun j hj => ?_⟩
  · unfold adP; rw [if_pos ⟨rfl, rfl⟩, f1]; omega
  · unfold adP; rw [if_neg (by omega), if_neg (by omega), f2]
  · unfold adP; rw [if_neg (by omega), if_neg (by omega), f3]
  · unfold adP; rw [if_neg (by omega), if_neg (by omega), f4]
  · by_cases e : j = P
    · subst e
      have k : ∀ o, 2 ≤ o → o ≤ 7 → adP D (513 + (j : Int)) c a b o j = (if o = 2 then 513 + (j : Int) else if o = 3 then c else if o = 4 then a else if o = 5 then b else 0) := fun o h1 h2 => by
        unfold adP
        rw [if_neg (by omega), if_pos ⟨f1.symm, h1, h2⟩]
      rw [k 2 (by omega) (by omega), k 4 (by omega) (by omega), k 5 (by omega) (by omega)]
      exact ⟨rfl, ha.1, ha.2.2⟩
    · have k : ∀ o, 2 ≤ o → o ≤ 7 → adP D (513 + (P : Int)) c a b o j = D o j := fun o h1 h2 => by
        unfold adP
        rw [if_neg (by omega), if_neg (by omega)]
      rw [k 2 (by omega) (by omega), k 4 (by omega) (by omega), k 5 (by omega) (by omega)]
      exact f5 j (by omega)
theorem o3_ok {P M L : Nat} {D : zBk} {x v hi : Int} {ws : List Int} (h : Sx t n p (txO ws x v ++ r)) (hL : ws.length = L) (f : FB P M D) (hP : P ≤ 25) (hx : 0 ≤ x ∧ x < P) (hv : 0 ≤ v ∧ v ≤ 9) (hh : v ≤ hi) : o3 t n D 0 hi (p + L, 0, -1) = (p + L + 6, 0, -1) := by
  subst hL
  have h1 : Sx t n (p + ws.length) (32 :: 112 :: (97 + x) :: 32 :: (48 + v) :: 59 :: r) := Sx_d (w := ws) (by rw [show ws ++ 32 :: 112 :: (97 + x) :: 32 :: (48 + v) :: 59 :: r = txO ws x v ++ r by simp [txO]]; exact h)
  have h2 : Sx t n (p + ws.length + 3) (32 :: (48 + v) :: 59 :: r) := Sx_t (Sx_t (Sx_t h1))
  have h3 : Sx t n (p + ws.length + 5) (59 :: r) := Sx_t (Sx_t h2)
  obtain ⟨a1, a2⟩ := stNm h1 (by omega) (by decide)
  have e1 : o1 t n D (p + ws.length, 0, -1) = (p + ws.length + 3, 0, -1) := by
    unfold o1 pPrn
    rw [if_neg (fun z => z rfl), a1, if_neg (by omega), fz_y f hx, if_neg (by omega)]
    show (xE t n (p + ws.length), ((0 : Int), (-1 : Int))) = _
    rw [a2]
  obtain ⟨b1, b2⟩ := stN1 (lo := 0) (hi := hi) h2 hv (by decide)
  unfold o3 o2
  rw [e1, b2 ⟨hv.1, hh⟩]
  exact stSm h3
theorem w3_ok {M P : Nat} {D : zBk} {a b : Int} (h : Sx t n p (txM a b ++ r)) (f : FB P M D) (ha : 1500 ≤ a ∧ a ≤ b ∧ b ≤ 1549) : w3 t n (p + 4, 0, -1) = (p + 15, 0, -1) ∧ FB P (M + 1) (sStB t n 3 D (p + 4, 0, -1)) := by
  have h3 : Sx t n (p + 4) (32 :: (d4 a ++ 32 :: (d4 b ++ 59 :: r))) := Sx_d (w := woM) (by rw [show woM ++ 32 :: (d4 a ++ 32 :: (d4 b ++ 59 :: r)) = txM a b ++ r by simp [txM]]; exact h)
  have h4 : Sx t n (p + 9) (32 :: (d4 b ++ 59 :: r)) := Sx_d (w := d4 a) (Sx_t h3)
  have h5 : Sx t n (p + 14) (59 :: r) := Sx_d (w := d4 b) (Sx_t h4)
  obtain ⟨c1, c2⟩ := stN4 (lo := 1450) (hi := 1999) h3 (by omega) (by decide)
  have e1 : w1 t n (p + 4, 0, -1) = (p + 9, 0, -1) := c2 (by omega)
  obtain ⟨g1, g2⟩ := stN4 (lo := a) (hi := 1999) h4 (by omega) (by decide)
  have e2 : w2 t n (p + 4, 0, -1) = (p + 14, 0, -1) := by
    unfold w2
    rw [e1]
    show pNum t n (p + 9, 0, -1) (pV t n (p + 4)) 1999 = _
    rw [c1]
    exact g2 (by omega)
  refine ⟨by unfold w3; rw [e2]; exact stSm h5, ?_⟩
  unfold sStB
  rw [if_neg (by decide), if_neg (by decide), if_neg (by decide), if_pos rfl, e1]
  generalize pV t n (p + 4, ((0 : Int), (-1 : Int))).1 = u
  generalize pV t n (p + 9, ((0 : Int), (-1 : Int))).1 = v
  obtain ⟨f1, f2, f3, f4, f5⟩ := f
  refine ⟨?_, ?_, ?_, ?_, fun j hj => ?_⟩
  · unfold adM; rw [if_neg (by omega), if_neg (by omega), f1]
  · unfold adM; rw [if_pos ⟨rfl, rfl⟩, f2]; omega
  · unfold adM; rw [if_neg (by omega), if_neg (by omega), f3]
  · unfold adM; rw [if_neg (by omega), if_neg (by omega), f4]
  · unfold adM; rw [if_neg (by omega), if_neg (by omega), if_neg (by omega), if_neg (by omega), if_neg (by omega), if_neg (by omega)]
    exact f5 j hj
end STM
/-! the trace over such a text -/
def Pg (sc P M : Nat) (r : List Int) (R : zBk → Prop) : Prop := ∀ (t : Nat → Int) (n : Nat) (X : Nat → zTr) (m i p : Nat), cTr t n X m → ¬ ((X m).2.1.2.1 = 0 ∧ ¬ xK t n (X m).2.1.1 = 0) → i ≤ m → (X i).2.1 = (p, 0, -1) → (X i).1 ≤ (sc : Int) → FB P M (X i).2.2 → Sx t n p r → (cFin t n X m).2.1 = 0 ∧ R (X m).2.2
theorem Pg_nil {sc P M : Nat} {R : zBk → Prop} (hP : 1 ≤ P) (hR : ∀ D, FB P M D → R D) : Pg sc P M [] R := by
  intro t n X m i p h hm hi e1 e2 f hs
  have e : i = m := by
    by_cases c : i < m
    · have := (h.1 i c).2.1
      rw [e1] at this
      exact absurd (tk0 hs) this
    · omega
  subst e
  refine ⟨?_, hR _ f⟩
  unfold cFin
  rw [if_neg (by rw [f.1]; omega), e1]
/-- one statement more -/
theorem Pg_go {sc P M P' M' len : Nat} {k : Nat} {s r : List Int} {R : zBk → Prop} (hk : ∀ (t : Nat → Int) (n p : Nat), Sx t n p (s ++ r) → xK t n p = 1 ∧ sct t n p = (k : Int)) (hsc : sc ≤ k) (hk5 : k ≤ 5) (hP : k = 0 ∨ 1 ≤ P) (hf : ∀ D, FB P M D → ¬ ful D (k : Int)) (hl : s.length = len) (hs : ∀ (t : Nat → Int) (n p : Nat) (D : zBk), Sx t n p (s ++ r) → FB P M D → sStS t n (k : Int) D (pN t n (p, 0, -1)) = (p + len, 0, -1) ∧ FB P' M' (sStB t n (k : Int) D (pN t n (p, 0, -1)))) (kk : Pg k P' M' r R) : Pg sc P M (s ++ r) R := by
  intro t n X m i p h hm hi e1 e2 f hx
  obtain ⟨k1, k2⟩ := hk t n p hx
  have hlt : i < m := by
    by_cases c : i < m
    · exact c
    · exfalso
      have e : i = m := by omega
      subst e
      refine hm ⟨by rw [e1], ?_⟩
      rw [e1]
      show ¬ xK t n p = 0
      omega
  have st := h.1 i hlt
  obtain ⟨-, -, st⟩ := st
  rw [e1] at st
  have k2' : sct t n ((p, (0 : Int), (-1 : Int)) : zP).1 = (k : Int) := k2
  rw [k2'] at st
  have hw : wth t n (X i) := by
    unfold wth
    rw [e1, k2']
    refine ⟨by omega, ?_⟩
    unfold lst
    split
    · rename_i q
      rw [f.1] at q
      omega
    · omega
  obtain ⟨g1, g2⟩ := hs t n p (X i).2.2 hx f
  rcases st with ⟨q, -⟩ | ⟨-, q, -⟩ | ⟨-, -, b1, b2, b3⟩
  · exact absurd hw q
  · exact absurd q (hf _ f)
  · rw [g1] at b2
    have e4 : sBk t n (k : Int) (X i).2.2 (pN t n (p, 0, -1)) = sStB t n (k : Int) (X i).2.2 (pN t n (p, 0, -1)) := by
      unfold sBk
      rw [if_pos (by rw [g1])]
    rw [e4] at b3
    exact kk t n X m (i + 1) (p + len) h hm hlt b2 (by rw [b1]; omega) (FB_l b3 g2) (by rw [← hl]; exact Sx_d hx)
theorem Pg_P {P M : Nat} {c a b : Int} {r : List Int} {R : zBk → Prop} (hP : P < 8) (hc : 0 ≤ c ∧ c ≤ 9) (ha : 1500 ≤ a ∧ a ≤ b ∧ b ≤ 1549) (kk : Pg 0 (P + 1) M r R) : Pg 0 P M (txP P c a b ++ r) R := by
  have hw : ∀ (t : Nat → Int) (n p : Nat), Sx t n p (txP P c a b ++ r) → Sx t n p (woP ++ 32 :: (112 :: (97 + (P : Int)) :: 32 :: (48 + c) :: 32 :: (d4 a ++ 32 :: (d4 b ++ [59])) ++ r)) := fun t n p h => by rw [show woP ++ 32 :: (112 :: (97 + (P : Int)) :: 32 :: (48 + c) :: 32 :: (d4 a ++ 32 :: (d4 b ++ [59])) ++ r) = txP P c a b ++ r by simp [txP]]; exact h
  refine Pg_go (k := 0) (len := 23) (fun t n p h => ⟨(tkW (hw t n p h) (by decide) woP_l (by decide)).1, sct_P (hw t n p h)⟩) (Nat.le_refl _) (by omega) (Or.inl rfl) (fun D f q => ?_) rfl (fun t n p D h f => ?_) kk
  · unfold ful at q
    rw [f.1] at q
    omega
  · rw [tkP (hw t n p h) (by decide) woP_l (by decide)]
    obtain ⟨x1, x2⟩ := q5_ok h f (by omega) hc ha
    exact ⟨by show sStS t n 0 D (p + 7, 0, -1) = _; unfold sStS; rw [if_pos rfl]; exact x1, x2⟩
theorem Pg_D {sc P M : Nat} {x v : Int} {r : List Int} {R : zBk → Prop} (hs : sc ≤ 1) (hP : P ≤ 8) (hx : 0 ≤ x ∧ x < P) (hv : 0 ≤ v ∧ v ≤ 9) (kk : Pg 1 P M r R) : Pg sc P M (txO woD x v ++ r) R := by
  have hw : ∀ (t : Nat → Int) (n p : Nat), Sx t n p (txO woD x v ++ r) → Sx t n p (woD ++ 32 :: (112 :: (97 + x) :: 32 :: (48 + v) :: [59] ++ r)) := fun t n p h => by rw [show woD ++ 32 :: (112 :: (97 + x) :: 32 :: (48 + v) :: [59] ++ r) = txO woD x v ++ r by simp [txO]]; exact h
  refine Pg_go (k := 1) (len := 12) (fun t n p h => ⟨(tkW (hw t n p h) (by decide) woD_l (by decide)).1, sct_D (hw t n p h)⟩) hs (by omega) (Or.inr (by omega)) (fun D f q => ?_) rfl (fun t n p D h f => ?_) kk
  · unfold ful at q
    omega
  · rw [tkP (hw t n p h) (by decide) woD_l (by decide)]
    refine ⟨by show sStS t n 1 D (p + 6, 0, -1) = _; unfold sStS; rw [if_neg (by decide), if_pos rfl]; exact o3_ok (L := 6) h rfl f (by omega) hx hv (by omega), ?_⟩
    show FB P M (sStB t n 1 D (p + 6, 0, -1))
    unfold sStB
    rw [if_neg (by decide), if_pos rfl]
    obtain ⟨f1, f2, f3, f4, f5⟩ := f
    exact ⟨(ov_k _ _ _ _ (by decide)).trans f1, (ov_k _ _ _ _ (by decide)).trans f2, (ov_k _ _ _ _ (by decide)).trans f3, (ov_k _ _ _ _ (by decide)).trans f4, fun j hj => by rw [ov_k _ _ _ _ (by decide), ov_k _ _ _ _ (by decide), ov_k _ _ _ _ (by decide)]; exact f5 j hj⟩
theorem Pg_T {sc P M : Nat} {x v : Int} {r : List Int} {R : zBk → Prop} (hs : sc ≤ 2) (hP : P ≤ 8) (hx : 0 ≤ x ∧ x < P) (hv : 0 ≤ v ∧ v ≤ 9) (kk : Pg 2 P M r R) : Pg sc P M (txO woT x v ++ r) R := by
  have hw : ∀ (t : Nat → Int) (n p : Nat), Sx t n p (txO woT x v ++ r) → Sx t n p (woT ++ 32 :: (112 :: (97 + x) :: 32 :: (48 + v) :: [59] ++ r)) := fun t n p h => by rw [show woT ++ 32 :: (112 :: (97 + x) :: 32 :: (48 + v) :: [59] ++ r) = txO woT x v ++ r by simp [txO]]; exact h
  refine Pg_go (k := 2) (len := 10) (fun t n p h => ⟨(tkW (hw t n p h) (by decide) woT_l (by decide)).1, sct_T (hw t n p h)⟩) hs (by omega) (Or.inr (by omega)) (fun D f q => ?_) rfl (fun t n p D h f => ?_) kk
  · unfold ful at q
    omega
  · rw [tkP (hw t n p h) (by decide) woT_l (by decide)]
    refine ⟨by show sStS t n 2 D (p + 4, 0, -1) = _; unfold sStS; rw [if_neg (by decide), if_neg (by decide), if_pos rfl]; exact o3_ok (L := 4) h rfl f (by omega) hx hv (by omega), ?_⟩
    show FB P M (sStB t n 2 D (p + 4, 0, -1))
    unfold sStB
    rw [if_neg (by decide), if_neg (by decide), if_pos rfl]
    obtain ⟨f1, f2, f3, f4, f5⟩ := f
    exact ⟨(ov_k _ _ _ _ (by decide)).trans f1, (ov_k _ _ _ _ (by decide)).trans f2, (ov_k _ _ _ _ (by decide)).trans f3, (ov_k _ _ _ _ (by decide)).trans f4, fun j hj => by rw [ov_k _ _ _ _ (by decide), ov_k _ _ _ _ (by decide), ov_k _ _ _ _ (by decide)]; exact f5 j hj⟩
theorem Pg_M {sc P M : Nat} {a b : Int} {r : List Int} {R : zBk → Prop} (hs : sc ≤ 3) (hP : 1 ≤ P) (hM : M < 8) (ha : 1500 ≤ a ∧ a ≤ b ∧ b ≤ 1549) (kk : Pg 3 P (M + 1) r R) : Pg sc P M (txM a b ++ r) R := by
  have hw : ∀ (t : Nat → Int) (n p : Nat), Sx t n p (txM a b ++ r) → Sx t n p (woM ++ 32 :: (d4 a ++ 32 :: (d4 b ++ [59]) ++ r)) := fun t n p h => by rw [show woM ++ 32 :: (d4 a ++ 32 :: (d4 b ++ [59]) ++ r) = txM a b ++ r by simp [txM]]; exact h
  refine Pg_go (k := 3) (len := 15) (fun t n p h => ⟨(tkW (hw t n p h) (by decide) woM_l (by decide)).1, sct_M (hw t n p h)⟩) hs (by omega) (Or.inr hP) (fun D f q => ?_) rfl (fun t n p D h f => ?_) kk
  · unfold ful at q
    rw [f.2.1] at q
    omega
  · rw [tkP (hw t n p h) (by decide) woM_l (by decide)]
    obtain ⟨x1, x2⟩ := w3_ok h f ha
    exact ⟨by show sStS t n 3 D (p + 4, 0, -1) = _; unfold sStS; rw [if_neg (by decide), if_neg (by decide), if_neg (by decide), if_pos rfl]; exact x1, x2⟩
/-- what has been written so far leads to here -/
def GL (sc P M : Nat) (L : List Int) : Prop := ∀ (r : List Int) (R : zBk → Prop), Pg sc P M r R → Pg 0 0 0 (L ++ r) R
theorem GL_0 : GL 0 0 0 [] := fun r R h => h
theorem GL_P {P M : Nat} {L : List Int} {c a b : Int} (h : GL 0 P M L) (hP : P < 8) (hc : 0 ≤ c ∧ c ≤ 9) (ha : 1500 ≤ a ∧ a ≤ b ∧ b ≤ 1549) : GL 0 (P + 1) M (L ++ txP P c a b) := fun r R k => by
  rw [List.append_assoc]
  exact h _ _ (Pg_P hP hc ha k)
theorem GL_D {sc P M : Nat} {L : List Int} {x v : Int} (h : GL sc P M L) (hs : sc ≤ 1) (hP : P ≤ 8) (hx : 0 ≤ x ∧ x < P) (hv : 0 ≤ v ∧ v ≤ 9) : GL 1 P M (L ++ txO woD x v) := fun r R k => by
  rw [List.append_assoc]
  exact h _ _ (Pg_D hs hP hx hv k)
theorem GL_T {sc P M : Nat} {L : List Int} {x v : Int} (h : GL sc P M L) (hs : sc ≤ 2) (hP : P ≤ 8) (hx : 0 ≤ x ∧ x < P) (hv : 0 ≤ v ∧ v ≤ 9) : GL 2 P M (L ++ txO woT x v) := fun r R k => by
  rw [List.append_assoc]
  exact h _ _ (Pg_T hs hP hx hv k)
theorem GL_M {sc P M : Nat} {L : List Int} {a b : Int} (h : GL sc P M L) (hs : sc ≤ 3) (hP : 1 ≤ P) (hM : M < 8) (ha : 1500 ≤ a ∧ a ≤ b ∧ b ≤ 1549) : GL 3 P (M + 1) (L ++ txM a b) := fun r R k => by
  rw [List.append_assoc]
  exact h _ _ (Pg_M hs hP hM ha k)
theorem GL_up {sc sc' P M : Nat} {L : List Int} (h : GL sc P M L) (hs : sc ≤ sc') : GL sc' P M L := fun r R k => h r R (fun t n X m i p a b c d e f g => k t n X m i p a b c d (by omega) f g)
/-- at the end -/
theorem GL_end {sc P M : Nat} {L : List Int} (h : GL sc P M L) (hP : 1 ≤ P) {t : Nat → Int} (ht : ∀ i, i < L.length → t i = L.getD i 0) {X : Nat → zTr} {m : Nat} (h1 : cTr t L.length X m) (h2 : ¬ ((X m).2.1.2.1 = 0 ∧ ¬ xK t L.length (X m).2.1.1 = 0)) : (cFin t L.length X m).2.1 = 0 ∧ FB P M (X m).2.2 := by
  have k := h [] (FB P M) (Pg_nil hP (fun _ f => f))
  rw [List.append_nil] at k
  refine k t L.length X m 0 0 h1 h2 (Nat.zero_le _) h1.2.2.2.1 (by rw [h1.2.2.1]; exact Int.le_refl _) ⟨h1.2.2.2.2.1, h1.2.2.2.2.2.1, h1.2.2.2.2.2.2.1, h1.2.2.2.2.2.2.2, fun j hj => absurd hj (Nat.not_lt_zero j)⟩ ⟨(Nat.zero_add _).symm, fun i hi => by rw [Nat.zero_add]; exact ht i hi⟩
