/-! sums: exchanged, and of steps -/
theorem zs_add (f g : Nat → Int) : ∀ n, zs (fun i => f i + g i) n = zs f n + zs g n
  | 0 => rfl
  | n + 1 => by rw [zs_s, zs_s, zs_s, zs_add f g n]; omega
theorem zs_sub (f g : Nat → Int) : ∀ n, zs (fun i => f i - g i) n = zs f n - zs g n
  | 0 => rfl
  | n + 1 => by rw [zs_s, zs_s, zs_s, zs_sub f g n]; omega
theorem zs_zero : ∀ n, zs (fun _ => 0) n = 0
  | 0 => rfl
  | n + 1 => by rw [zs_s, zs_zero n]; rfl
theorem zs_swap (f : Nat → Nat → Int) (m : Nat) : ∀ n, zs (fun i => zs (fun j => f i j) m) n = zs (fun j => zs (fun i => f i j) n) m
  | 0 => (zs_zero m).symm
  | n + 1 => by
    rw [zs_s, zs_swap f m n, ← zs_add]
    rfl
theorem zs_abs {f : Nat → Int} {b : Int} (hb : 0 ≤ b) : ∀ {n : Nat}, (∀ i, i < n → -b ≤ f i ∧ f i ≤ b) → -(n * b) ≤ zs f n ∧ zs f n ≤ n * b
  | 0, _ => by simp [zs]
  | n + 1, h => by
    have h1 := zs_abs hb (n := n) (fun i hi => h i (Nat.lt_succ_of_lt hi))
    have h2 := h n (Nat.lt_succ_self n)
    rw [zs_s]
    have e : ((n + 1 : Nat) : Int) * b = n * b + b := by
      rw [Int.natCast_add, Int.add_mul]; simp
    rw [e]
    omega
theorem zs_one (a : Nat) (v : Int) : ∀ n, zs (fun r => if a = r then v else 0) n = if a < n then v else 0
  | 0 => rfl
  | n + 1 => by
    rw [zs_s, zs_one a v n]
    split <;> split <;> split <;> omega
def dlt (a b : Nat → Nat) (v : Nat → Int) (d r : Nat) : Int := (if a d = r then v d else 0) - (if b d = r then v d else 0)
theorem dlt_abs {a b : Nat → Nat} {v : Nat → Int} {d r : Nat} {x : Int} (h : 0 ≤ v d ∧ v d ≤ x) : -x ≤ dlt a b v d r ∧ dlt a b v d r ≤ x := by
  unfold dlt
  split <;> split <;> omega
theorem zs_diff (P : Nat → Prop) (a b : Nat → Nat) (v : Nat → Int) (n j : Nat) (h : ∀ d, d < n → P d → a d ≤ b d) :
    zs (fun r => zs (fun d => zif (P d) (dlt a b v d r)) n) (j + 1) = zs (fun d => zif (P d ∧ a d ≤ j ∧ j < b d) (v d)) n := by
  rw [zs_swap]
  refine zs_congr (fun d hd => ?_)
  by_cases hp : P d
  · have e : ∀ r, zif (P d) (dlt a b v d r) = (if a d = r then v d else 0) - (if b d = r then v d else 0) := fun r => zif_t hp
    rw [zs_congr (fun r _ => e r), zs_sub, zs_one, zs_one]
    have := h d hd hp
    by_cases h2 : a d ≤ j ∧ j < b d
    · rw [zif_t ⟨hp, h2⟩, if_pos (by omega), if_neg (by omega)]; omega
    · rw [zif_f (fun q => h2 q.2)]
      split <;> split <;> omega
  · have e : ∀ r, zif (P d) (dlt a b v d r) = 0 := fun r => zif_f hp
    rw [zs_congr (fun r _ => e r), zs_zero, zif_f (fun q => hp q.1)]
theorem zif_c {p q : Prop} {a : Int} (h : p ↔ q) : zif p a = zif q a := by rw [propext h]
/-! the first highest place of a row and how often its height comes -/
def yTop (f : Nat → Int) (a : Nat) : Nat → Nat
  | 0 => a
  | n + 1 => if f (yTop f a n) < f (a + n) then a + n else yTop f a n
def yCnt (f : Nat → Int) (a : Nat) : Nat → Int
  | 0 => 0
  | n + 1 => if f (yTop f a n) < f (a + n) then 1 else if f (a + n) = f (yTop f a n) then yCnt f a n + 1 else yCnt f a n
theorem yTop_s (f : Nat → Int) (a n : Nat) : yTop f a (n + 1) = if f (yTop f a n) < f (a + n) then a + n else yTop f a n := rfl
theorem yCnt_s (f : Nat → Int) (a n : Nat) : yCnt f a (n + 1) = if f (yTop f a n) < f (a + n) then 1 else if f (a + n) = f (yTop f a n) then yCnt f a n + 1 else yCnt f a n := rfl
theorem yTop_r (f : Nat → Int) (a : Nat) : ∀ n, a ≤ yTop f a n ∧ (yTop f a n < a + n ∨ n = 0)
  | 0 => ⟨Nat.le_refl _, Or.inr rfl⟩
  | n + 1 => by
    have := yTop_r f a n
    rw [yTop_s]
    split
    · omega
    · rcases this with ⟨h1, h2 | rfl⟩
      · omega
      · exact ⟨h1, Or.inl (Nat.lt_succ_self _)⟩
theorem yCnt_r (f : Nat → Int) (a : Nat) : ∀ n : Nat, 0 ≤ yCnt f a n ∧ yCnt f a n ≤ n
  | 0 => ⟨Int.le_refl _, Int.le_refl _⟩
  | n + 1 => by
    have := yCnt_r f a n
    rw [yCnt_s]
    split
    · omega
    · split <;> omega
theorem y_shift {f g : Nat → Int} {a : Nat} {c : Int} : ∀ {n : Nat}, (∀ i, a ≤ i → i < a + n → g i = f i + c) → yTop g a n = yTop f a n ∧ yCnt g a n = yCnt f a n
  | 0, _ => ⟨rfl, rfl⟩
  | n + 1, h => by
    obtain ⟨h1, h2⟩ := y_shift (n := n) (fun i hi hj => h i hi (by omega))
    rw [yTop_s, yTop_s, yCnt_s, yCnt_s, h1, h2, h (a + n) (by omega) (by omega)]
    have e : n = 0 ∨ g (yTop f a n) = f (yTop f a n) + c := by
      rcases yTop_r f a n with ⟨q1, q2 | q2⟩
      · exact Or.inr (h _ q1 (by omega))
      · exact Or.inl q2
    rcases e with rfl | e
    · have e2 := h a (by omega) (by omega)
      show (if g a < f (a + 0) + c then _ else _) = _ ∧ _
      rw [show yTop f a 0 = a from rfl, e2]
      simp only [Nat.add_zero]
      constructor
      · split <;> split <;> first | rfl | omega
      · split <;> split <;> first | rfl | omega | (split <;> split <;> first | rfl | omega)
    · rw [e]
      constructor
      · split <;> split <;> first | rfl | omega
      · split <;> split <;> first | rfl | omega | (split <;> split <;> first | rfl | omega)
theorem y_congr {f g : Nat → Int} {a n : Nat} (h : ∀ i, a ≤ i → i < a + n → g i = f i) : yTop g a n = yTop f a n ∧ yCnt g a n = yCnt f a n := y_shift (c := 0) (fun i h1 h2 => by rw [h i h1 h2, Int.add_zero])
/-! a row in order: the place of each is the number of those before it -/
theorem zs_ins {P : Nat → Prop} {a : Nat} (ha : ¬ P a) : ∀ n, a < n → zs (fun k => zb (P k ∨ k = a)) n = zs (fun k => zb (P k)) n + 1
  | 0, h => absurd h (Nat.not_lt_zero a)
  | n + 1, h => by
    rw [zs_s, zs_s]
    rcases Nat.lt_or_ge a n with q | q
    · have e : zb (P n ∨ n = a) = zb (P n) := zb_c ⟨fun h => h.resolve_right (by omega), Or.inl⟩
      rw [zs_ins ha n q, e]; omega
    · have e : a = n := by omega
      subst e
      have e1 : zs (fun k => zb (P k ∨ k = a)) a = zs (fun k => zb (P k)) a := zs_congr (fun i hi => zb_c ⟨fun h => h.resolve_right (by omega), Or.inl⟩)
      rw [e1, zb_t (Or.inr rfl), zb_f ha]; omega
theorem zs_img {o : Nat → Nat} {n : Nat} : ∀ m, (∀ i, i < m → o i < n) → (∀ i j, i < j → j < m → o i ≠ o j) → zs (fun k => zb (∃ j, j < m ∧ o j = k)) n = m
  | 0, _, _ => by
    rw [zs_congr (g := fun _ => 0) (fun i _ => zb_f (fun ⟨j, h, _⟩ => absurd h (Nat.not_lt_zero j))), zs_zero]; rfl
  | m + 1, h1, h2 => by
    have e : ∀ k, zb (∃ j, j < m + 1 ∧ o j = k) = zb ((∃ j, j < m ∧ o j = k) ∨ k = o m) := fun k => zb_c ⟨fun ⟨j, hj, hk⟩ => by
      rcases Nat.lt_succ_iff_lt_or_eq.mp hj with q | rfl
      · exact Or.inl ⟨j, q, hk⟩
      · exact Or.inr hk.symm, fun hh => by
      rcases hh with ⟨j, hj, hk⟩ | rfl
      · exact ⟨j, Nat.lt_succ_of_lt hj, hk⟩
      · exact ⟨m, Nat.lt_succ_self m, rfl⟩⟩
    rw [zs_congr (fun k _ => e k), zs_ins (fun ⟨j, hj, hk⟩ => h2 j m hj (Nat.lt_succ_self m) hk) n (h1 m (Nat.lt_succ_self m)), zs_img m (fun i hi => h1 i (Nat.lt_succ_of_lt hi)) (fun i j hij hj => h2 i j hij (Nat.lt_succ_of_lt hj))]
    omega
noncomputable def rkn (R : Nat → Nat → Prop) (n k : Nat) : Int := zs (fun i => zb (R i k)) n
noncomputable def atR (R : Nat → Nat → Prop) (n : Nat) (r : Int) : Int := zfst (fun k => rkn R n k = r) n
theorem rkn_at {R : Nat → Nat → Prop} {n : Nat} {o : Nat → Nat} (hR : ∀ a, a < n → ¬ R a a) (hT : ∀ a b, a < n → b < n → R a b → ¬ R b a) (h1 : ∀ i, i < n → o i < n) (h2 : ∀ i j, i < j → j < n → R (o i) (o j)) (h3 : ∀ k, k < n → ∃ i, i < n ∧ o i = k) {i : Nat} (hi : i < n) : rkn R n (o i) = i := by
  have e : ∀ k, k < n → zb (R k (o i)) = zb (∃ j, j < i ∧ o j = k) := fun k hk => zb_c ⟨fun h => by
    obtain ⟨j, hj, rfl⟩ := h3 k hk
    refine ⟨j, ?_, rfl⟩
    rcases Nat.lt_trichotomy j i with q | rfl | q
    · exact q
    · exact absurd h (hR _ hk)
    · exact absurd h (hT _ _ (h1 i hi) hk (h2 i j q hj)), fun ⟨j, hj, hk⟩ => hk ▸ h2 j i hj hi⟩
  unfold rkn
  rw [zs_congr e]
  exact zs_img i (fun j hj => h1 j (by omega)) (fun a b hab hb q => hR _ (h1 b (by omega)) (by have := h2 a b hab (by omega); rw [q] at this; exact this))
theorem atR_at {R : Nat → Nat → Prop} {n : Nat} {o : Nat → Nat} (hR : ∀ a, a < n → ¬ R a a) (hT : ∀ a b, a < n → b < n → R a b → ¬ R b a) (h1 : ∀ i, i < n → o i < n) (h2 : ∀ i j, i < j → j < n → R (o i) (o j)) (h3 : ∀ k, k < n → ∃ i, i < n ∧ o i = k) {i : Nat} (hi : i < n) : atR R n i = o i := by
  refine zfst_at (h1 i hi) (fun j hj => ?_) (rkn_at hR hT h1 h2 h3 hi)
  have hjn : j < n := by have := h1 i hi; omega
  obtain ⟨i', hi', rfl⟩ := h3 j hjn
  rw [rkn_at hR hT h1 h2 h3 hi']
  intro q
  have : i' = i := by omega
  subst this
  omega
theorem atR_no {R : Nat → Nat → Prop} {n : Nat} {o : Nat → Nat} (hR : ∀ a, a < n → ¬ R a a) (hT : ∀ a b, a < n → b < n → R a b → ¬ R b a) (h1 : ∀ i, i < n → o i < n) (h2 : ∀ i j, i < j → j < n → R (o i) (o j)) (h3 : ∀ k, k < n → ∃ i, i < n ∧ o i = k) {r : Int} (hr : ¬ (0 ≤ r ∧ r < n)) : atR R n r = -1 := by
  refine zfst_no (fun j hj => ?_)
  obtain ⟨i', hi', rfl⟩ := h3 j hj
  rw [rkn_at hR hT h1 h2 h3 hi']
  omega
theorem rkn_congr {R R' : Nat → Nat → Prop} {n : Nat} (h : ∀ a b, a < n → b < n → (R a b ↔ R' a b)) {k : Nat} (hk : k < n) : rkn R n k = rkn R' n k := zs_congr (fun i hi => zb_c (h i k hi hk))
theorem atR_congr {R R' : Nat → Nat → Prop} {n : Nat} (h : ∀ a b, a < n → b < n → (R a b ↔ R' a b)) (r : Int) : atR R n r = atR R' n r := zfst_congr (fun j hj => by rw [rkn_congr h hj])
/-! books that agree on what lives -/
def zEq (D D' : zBk) : Prop := (D' 1 0 = D 1 0 ∧ D' 1 7 = D 1 7 ∧ D' 1 10 = D 1 10 ∧ D' 12 0 = D 12 0) ∧ (∀ o, 2 ≤ o → o ≤ 9 → ∀ i, i < 8 → D' o i = D o i) ∧ (∀ o, 10 ≤ o → o ≤ 11 → ∀ i, i < 12 → D' o i = D o i) ∧ ∀ o, 13 ≤ o → o ≤ 19 → ∀ i, i < 40 → D' o i = D o i
theorem zEq_rf (D : zBk) : zEq D D := ⟨⟨rfl, rfl, rfl, rfl⟩, fun _ _ _ _ _ => rfl, fun _ _ _ _ _ => rfl, fun _ _ _ _ _ => rfl⟩
theorem zEq_sy {D D' : zBk} (h : zEq D D') : zEq D' D := ⟨⟨h.1.1.symm, h.1.2.1.symm, h.1.2.2.1.symm, h.1.2.2.2.symm⟩, fun o h1 h2 i hi => (h.2.1 o h1 h2 i hi).symm, fun o h1 h2 i hi => (h.2.2.1 o h1 h2 i hi).symm, fun o h1 h2 i hi => (h.2.2.2 o h1 h2 i hi).symm⟩
theorem zEq_tr {D D' D'' : zBk} (h : zEq D D') (h' : zEq D' D'') : zEq D D'' := ⟨⟨h'.1.1.trans h.1.1, h'.1.2.1.trans h.1.2.1, h'.1.2.2.1.trans h.1.2.2.1, h'.1.2.2.2.trans h.1.2.2.2⟩, fun o h1 h2 i hi => (h'.2.1 o h1 h2 i hi).trans (h.2.1 o h1 h2 i hi), fun o h1 h2 i hi => (h'.2.2.1 o h1 h2 i hi).trans (h.2.2.1 o h1 h2 i hi), fun o h1 h2 i hi => (h'.2.2.2 o h1 h2 i hi).trans (h.2.2.2 o h1 h2 i hi)⟩
theorem zEq_same {S : Nat → Prop} {σ τ : zS} (h : zSame S σ τ) {k : Nat} (hk : ∀ o, o ≤ 19 → ¬ S (k + o)) : zEq (bk σ k) (bk τ k) :=
  ⟨⟨h.1 _ (hk 1 (by omega)) _, h.1 _ (hk 1 (by omega)) _, h.1 _ (hk 1 (by omega)) _, h.1 _ (hk 12 (by omega)) _⟩, fun o _ _ i _ => h.1 _ (hk o (by omega)) i, fun o _ _ i _ => h.1 _ (hk o (by omega)) i, fun o _ _ i _ => h.1 _ (hk o (by omega)) i⟩
theorem zEq_cp {σ τ : zS} {o k : Nat} (ha : cpA σ τ (o + 1) (k + 1)) (hc : cpC σ τ (o + 12) (k + 12)) : zEq (bk σ o) (bk τ k) :=
  ⟨⟨ha.1.1, ha.1.2.1, ha.1.2.2, hc.1⟩, fun j h1 h2 i hi => by have := ha.2.1 (j - 1) (by omega) (by omega) i hi; rw [show k + 1 + (j - 1) = k + j by omega, show o + 1 + (j - 1) = o + j by omega] at this; exact this, fun j h1 h2 i hi => by have := ha.2.2 (j - 1) (by omega) (by omega) i hi; rw [show k + 1 + (j - 1) = k + j by omega, show o + 1 + (j - 1) = o + j by omega] at this; exact this, fun j h1 h2 i hi => by have := hc.2 (j - 12) (by omega) (by omega) i hi; rw [show k + 12 + (j - 12) = k + j by omega, show o + 12 + (j - 12) = o + j by omega] at this; exact this⟩
theorem pr_eq {D D' : zBk} (h : zEq D D') {o i : Nat} (h1 : 2 ≤ o) (h2 : o ≤ 9) (hi : i < 8) : D' o i = D o i := h.2.1 o h1 h2 i hi
theorem ed_eq {D D' : zBk} (h : zEq D D') {o i : Nat} (h1 : 10 ≤ o) (h2 : o ≤ 11) (hi : i < 12) : D' o i = D o i := h.2.2.1 o h1 h2 i hi
theorem cl_eq {D D' : zBk} (h : zEq D D') {o i : Nat} (h1 : 13 ≤ o) (h2 : o ≤ 19) (hi : i < 40) : D' o i = D o i := h.2.2.2 o h1 h2 i hi
theorem WF_eq {D D' : zBk} (h : zEq D D') (w : WF D) : WF D' := by
  obtain ⟨wn, wp, wm, we, wc, wo⟩ := w
  obtain ⟨e1, e2, e3, e4⟩ := h.1
  unfold WFn at wn
  refine ⟨?_, fun p hp => ?_, fun q hq => ?_, fun q hq => ?_, fun c hc => ?_, fun i hi => ?_, fun i j hij hj => ?_, fun c hc => ?_⟩
  · unfold WFn; rw [e1, e2, e3, e4]; exact wn
  · rw [e1] at hp
    have := wp p hp
    rw [pr_eq h (by omega) (by omega) (by omega : p < 8), pr_eq h (by omega) (by omega) (by omega : p < 8), pr_eq h (by omega) (by omega) (by omega : p < 8)]
    exact this
  · rw [e2] at hq
    have := wm q hq
    rw [pr_eq h (by omega) (by omega) (by omega : q < 8), pr_eq h (by omega) (by omega) (by omega : q < 8)]
    exact this
  · rw [e3] at hq
    have := we q hq
    rw [ed_eq h (by omega) (by omega) (by omega : q < 12), ed_eq h (by omega) (by omega) (by omega : q < 12), e1]
    exact this
  · rw [e4] at hc
    have := wc c hc
    have hc40 : c < 40 := by omega
    rw [cl_eq h (by omega) (by omega) hc40, cl_eq h (by omega) (by omega) hc40, cl_eq h (by omega) (by omega) hc40, cl_eq h (by omega) (by omega) hc40, cl_eq h (by omega) (by omega) hc40, cl_eq h (by omega) (by omega) hc40]
    unfold WFk at this ⊢
    rw [e2]
    exact this
  · rw [e4] at hi ⊢
    rw [cl_eq h (by omega) (by omega) (by omega : i < 40)]
    exact wo.1 i hi
  · rw [e4] at hj
    have a1 := wo.1 i (by omega)
    have a2 := wo.1 j (by omega)
    have := wo.2.1 i j hij hj
    unfold bef at this ⊢
    rw [cl_eq h (by omega) (by omega) (by omega : i < 40), cl_eq h (by omega) (by omega) (by omega : j < 40), cl_eq h (by omega) (by omega) (by omega : (D 19 i).toNat < 40), cl_eq h (by omega) (by omega) (by omega : (D 19 j).toNat < 40)]
    exact this
  · rw [e4] at hc
    obtain ⟨i, hi, q⟩ := wo.2.2 c hc
    exact ⟨i, by rw [e4]; exact hi, by rw [cl_eq h (by omega) (by omega) (by omega : i < 40)]; exact q⟩
theorem eYr_eq {D D' : zBk} (h : zEq D D') (w : WF D) {c : Nat} (hc : (c : Int) < D 12 0) : eYr D' c = eYr D c := by
  have hn := w.1
  unfold WFn at hn
  have hk := (w.2.2.2.2.1 c hc).2.1
  unfold WFk at hk
  unfold eYr
  rw [cl_eq h (by omega) (by omega) (by omega : c < 40), cl_eq h (by omega) (by omega) (by omega : c < 40)]
  split
  · rfl
  · split
    · exact pr_eq h (by omega) (by omega) (by omega)
    · rfl
theorem lYr_eq {D D' : zBk} (h : zEq D D') (w : WF D) {c : Nat} (hc : (c : Int) < D 12 0) : lYr D' c = lYr D c := by
  have hn := w.1
  unfold WFn at hn
  have hk := (w.2.2.2.2.1 c hc).2.1
  unfold WFk at hk
  unfold lYr
  rw [cl_eq h (by omega) (by omega) (by omega : c < 40), cl_eq h (by omega) (by omega) (by omega : c < 40)]
  split
  · rfl
  · split
    · rw [pr_eq h (by omega) (by omega) (by omega : (D 15 c).toNat < 8)]
    · rfl
theorem pFit_eq {D D' : zBk} (h : zEq D D') (w : WF D) {p c : Nat} (hp : (p : Int) < D 1 0) (hc : (c : Int) < D 12 0) : pFit D' p c ↔ pFit D p c := by
  have hn := w.1
  unfold WFn at hn
  have hc40 : c < 40 := by omega
  have hp8 : p < 8 := by omega
  unfold pFit hasDev hasTyp
  rw [cl_eq h (by omega) (by omega) hc40, cl_eq h (by omega) (by omega) hc40, pr_eq h (by omega) (by omega) hp8, pr_eq h (by omega) (by omega) hp8, pr_eq h (by omega) (by omega) hp8]
theorem cFit_eq {D D' : zBk} (h : zEq D D') (w : WF D) {p c : Nat} {y : Int} (hp : (p : Int) < D 1 0) (hc : (c : Int) < D 12 0) : cFit D' p y c ↔ cFit D p y c := by
  unfold cFit
  rw [pFit_eq h w hp hc, eYr_eq h w hc, lYr_eq h w hc]
/-! what a judge finds: the clues that are heeded, scores, the first best year, the order of the printers -/
noncomputable def U (D : zBk) (p : Nat) : Int := zs (fun i => zb (D 17 (D 19 i).toNat = 0)) p
def Rd (D : zBk) (x : Int) (c : Nat) : Prop := ∃ p : Nat, (p : Int) < D 12 0 ∧ (D 19 p).toNat = c ∧ (¬ D 17 c = 0 ∨ U D p < x)
def Hd (D : zBk) (x y : Int) (c : Nat) : Prop := Rd D x c ∧ D 18 c = 0 ∧ ¬ (c : Int) = y
def isY (D : zBk) (c : Nat) : Prop := D 14 c = 2 ∨ D 14 c = 4
noncomputable def sc (D : zBk) (H : Nat → Prop) (p : Nat) (r : Nat) : Int := zs (fun c => zif (H c ∧ cFit D p (1450 + r) c) (D 16 c)) (D 12 0).toNat
noncomputable def scY (D : zBk) (H : Nat → Prop) (r : Nat) : Int := zs (fun c => zif ((H c ∧ isY D c) ∧ eYr D c ≤ 1450 + r ∧ 1450 + r ≤ lYr D c) (D 16 c)) (D 12 0).toNat
noncomputable def scN (D : zBk) (H : Nat → Prop) (p : Nat) : Int := zs (fun c => zif ((H c ∧ ¬ isY D c) ∧ pFit D p c) (D 16 c)) (D 12 0).toNat
noncomputable def tR (D : zBk) (H : Nat → Prop) (p : Nat) : Nat := yTop (sc D H p) (D 4 p - 1450).toNat (D 5 p - D 4 p + 1).toNat
noncomputable def tS (D : zBk) (H : Nat → Prop) (p : Nat) : Int := sc D H p (tR D H p)
noncomputable def tN (D : zBk) (H : Nat → Prop) (p : Nat) : Int := yCnt (sc D H p) (D 4 p - 1450).toNat (D 5 p - D 4 p + 1).toNat
def ahd (D : zBk) (H : Nat → Prop) (p q : Nat) : Prop := tS D H q < tS D H p ∨ (tS D H p = tS D H q ∧ p < q)
noncomputable def rkP (D : zBk) (H : Nat → Prop) (r : Int) : Int := atR (ahd D H) (D 1 0).toNat r
theorem WFo_inj {D : zBk} (h : WFo D) {i j : Nat} (hi : (i : Int) < D 12 0) (hj : (j : Int) < D 12 0) (e : (D 19 i).toNat = (D 19 j).toNat) : i = j := by
  rcases Nat.lt_trichotomy i j with q | q | q
  · have := h.2.1 i j q hj; unfold bef at this; rw [e] at this; omega
  · exact q
  · have := h.2.1 j i q hi; unfold bef at this; rw [e] at this; omega
theorem Rd_at {D : zBk} (h : WFo D) {x : Int} {p : Nat} (hp : (p : Int) < D 12 0) : Rd D x (D 19 p).toNat ↔ ¬ D 17 (D 19 p).toNat = 0 ∨ U D p < x := by
  constructor
  · rintro ⟨q, h1, h2, h3⟩
    have := WFo_inj h h1 hp h2
    subst this
    exact h3
  · exact fun q => ⟨p, hp, rfl, q⟩
theorem WFo_sj {D : zBk} (h : WFo D) {c : Nat} (hc : (c : Int) < D 12 0) : ∃ i : Nat, (i : Int) < D 12 0 ∧ (D 19 i).toNat = c := by
  obtain ⟨i, h1, h2⟩ := h.2.2 c hc
  exact ⟨i, h1, by omega⟩
theorem sc_split {D : zBk} {H : Nat → Prop} (w : WF D) (p r : Nat) (hr : r < 550) : sc D H p r = scY D H r + scN D H p := by
  unfold sc scY scN
  rw [← zs_add]
  refine zs_congr (fun c hc => ?_)
  have hn := w.1
  unfold WFn at hn
  have hk := (w.2.2.2.2.1 c (by omega)).2.1
  unfold WFk at hk
  by_cases hH : H c
  · by_cases hy : isY D c
    · rw [zif_f (p := (H c ∧ ¬ isY D c) ∧ pFit D p c) (fun q => q.1.2 hy), Int.add_zero]
      refine zif_c ?_
      have hp : pFit D p c := by
        unfold isY at hy
        refine ⟨?_, ?_, ?_⟩ <;> intro q <;> omega
      exact ⟨fun q => ⟨⟨hH, hy⟩, q.2.2⟩, fun q => ⟨hH, hp, q.2⟩⟩
    · rw [zif_f (p := (H c ∧ isY D c) ∧ _) (fun q => hy q.1.2), Int.zero_add]
      refine zif_c ?_
      have e1 : eYr D c = 1450 := by unfold isY at hy; unfold eYr; rw [if_neg (by omega), if_neg (by omega)]
      have e2 : lYr D c = 1999 := by unfold isY at hy; unfold lYr; rw [if_neg (by omega), if_neg (by omega)]
      unfold cFit
      rw [e1, e2]
      exact ⟨fun q => ⟨⟨hH, hy⟩, q.2.1⟩, fun q => ⟨hH, q.2, by omega, by omega⟩⟩
  · rw [zif_f (fun q => hH q.1), zif_f (fun q => hH q.1.1), zif_f (fun q => hH q.1.1)]; rfl
theorem ahd_ir {D : zBk} {H : Nat → Prop} (a : Nat) : ¬ ahd D H a a := by unfold ahd; omega
theorem ahd_as {D : zBk} {H : Nat → Prop} {a b : Nat} (h : ahd D H a b) : ¬ ahd D H b a := by unfold ahd at *; omega
