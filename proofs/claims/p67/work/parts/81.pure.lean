/-! pure facts about a book: what depends on its words alone (lEq) -/
section LQ
variable {D D' : zBk}
theorem lE_n (h : lEq D D') : (D' 12 0).toNat = (D 12 0).toNat := by rw [h.1.2.2.2]
theorem lE_n1 (h : lEq D D') : (D' 1 0).toNat = (D 1 0).toNat := by rw [h.1.1]
theorem lE_p (h : lEq D D') {p o : Nat} (hp : (p : Int) < D 1 0) (h1 : 2 ≤ o) (h2 : o ≤ 7) : D' o p = D o p := h.2.1 p hp o h1 h2
theorem lE_c (h : lEq D D') {c o : Nat} (hc : (c : Int) < D 12 0) (h1 : 13 ≤ o) (h2 : o ≤ 18) : D' o c = D o c := h.2.2.2.2 c hc o h1 h2
theorem lEq_rf (D : zBk) : lEq D D := ⟨⟨rfl, rfl, rfl, rfl⟩, fun _ _ _ _ _ => rfl, fun _ _ => ⟨rfl, rfl⟩, fun _ _ => ⟨rfl, rfl⟩, fun _ _ _ _ _ => rfl⟩
theorem eYr_l (h : lEq D D') (w : WF D) {c : Nat} (hc : (c : Int) < D 12 0) : eYr D' c = eYr D c := by
  have hk := (w.2.2.2.2.1 c hc).2.1
  unfold WFk at hk
  unfold eYr
  rw [lE_c h hc (by omega) (by omega), lE_c h hc (by omega) (by omega)]
  split
  · rfl
  · split
    · exact (h.2.2.1 _ (by omega)).1
    · rfl
theorem lYr_l (h : lEq D D') (w : WF D) {c : Nat} (hc : (c : Int) < D 12 0) : lYr D' c = lYr D c := by
  have hk := (w.2.2.2.2.1 c hc).2.1
  unfold WFk at hk
  unfold lYr
  rw [lE_c h hc (by omega) (by omega), lE_c h hc (by omega) (by omega)]
  split
  · rfl
  · split
    · rw [(h.2.2.1 _ (by omega)).2]
    · rfl
theorem hasDev_l (h : lEq D D') {p : Nat} (hp : (p : Int) < D 1 0) (n : Int) : hasDev D' p n ↔ hasDev D p n := by
  unfold hasDev
  rw [lE_p h hp (by omega) (by omega)]
theorem pFit_l (h : lEq D D') {p c : Nat} (hp : (p : Int) < D 1 0) (hc : (c : Int) < D 12 0) : pFit D' p c ↔ pFit D p c := by
  unfold pFit hasDev hasTyp
  rw [lE_c h hc (by omega) (by omega), lE_c h hc (by omega) (by omega), lE_p h hp (by omega) (by omega), lE_p h hp (by omega) (by omega), lE_p h hp (by omega) (by omega)]
theorem cFit_l (h : lEq D D') (w : WF D) {p c : Nat} {y : Int} (hp : (p : Int) < D 1 0) (hc : (c : Int) < D 12 0) : cFit D' p y c ↔ cFit D p y c := by
  unfold cFit
  rw [pFit_l h hp hc, eYr_l h w hc, lYr_l h w hc]
theorem Ht_l (h : lEq D D') {c : Nat} (hc : (c : Int) < D 12 0) : Ht D' c ↔ Ht D c := by
  unfold Ht
  rw [lE_c h hc (by omega) (by omega), lE_c h hc (by omega) (by omega)]
theorem sc_l (h : lEq D D') (w : WF D) {H H' : Nat → Prop} (hH : ∀ c : Nat, (c : Int) < D 12 0 → (H' c ↔ H c)) {p : Nat} (hp : (p : Int) < D 1 0) (r : Nat) : sc D' H' p r = sc D H p r := by
  unfold sc
  rw [lE_n h]
  refine zs_congr (fun c hc => ?_)
  rw [lE_c h (by omega) (by omega) (by omega)]
  exact zif_c (by rw [hH c (by omega), cFit_l h w hp (by omega)])
theorem tR_l (h : lEq D D') (w : WF D) {H H' : Nat → Prop} (hH : ∀ c : Nat, (c : Int) < D 12 0 → (H' c ↔ H c)) {p : Nat} (hp : (p : Int) < D 1 0) : tR D' H' p = tR D H p := by
  unfold tR
  rw [lE_p h hp (by omega) (by omega), lE_p h hp (by omega) (by omega)]
  exact (y_congr (fun i _ _ => sc_l h w hH hp i)).1
theorem tS_l (h : lEq D D') (w : WF D) {H H' : Nat → Prop} (hH : ∀ c : Nat, (c : Int) < D 12 0 → (H' c ↔ H c)) {p : Nat} (hp : (p : Int) < D 1 0) : tS D' H' p = tS D H p := by
  unfold tS
  rw [tR_l h w hH hp, sc_l h w hH hp]
theorem rkP_l (h : lEq D D') (w : WF D) {H H' : Nat → Prop} (hH : ∀ c : Nat, (c : Int) < D 12 0 → (H' c ↔ H c)) (r : Int) : rkP D' H' r = rkP D H r := by
  unfold rkP
  rw [lE_n1 h]
  refine atR_congr (fun a b ha hb => ?_) r
  unfold ahd
  rw [tS_l h w hH (by omega), tS_l h w hH (by omega)]
theorem wP_l2 (h : lEq D D') (w : WF D) {H H' : Nat → Prop} (hH : ∀ c : Nat, (c : Int) < D 12 0 → (H' c ↔ H c)) : wP D' H' = wP D H := by
  unfold wP
  rw [rkP_l h w hH]
theorem wY_l2 (h : lEq D D') (w : WF D) (h1 : 1 ≤ D 1 0) {H H' : Nat → Prop} (hH : ∀ c : Nat, (c : Int) < D 12 0 → (H' c ↔ H c)) : wY D' H' = wY D H := by
  unfold wY
  rw [wP_l2 h w hH, tR_l h w hH (wP_l w h1)]
theorem wS_l2 (h : lEq D D') (w : WF D) (h1 : 1 ≤ D 1 0) {H H' : Nat → Prop} (hH : ∀ c : Nat, (c : Int) < D 12 0 → (H' c ↔ H c)) : wS D' H' = wS D H := by
  unfold wS
  rw [wP_l2 h w hH, tS_l h w hH (wP_l w h1)]
theorem wP_t (h : lEq D D') (w : WF D) : wP D' (Ht D') = wP D (Ht D) := wP_l2 h w (fun _ hc => Ht_l h hc)
theorem wY_t (h : lEq D D') (w : WF D) (h1 : 1 ≤ D 1 0) : wY D' (Ht D') = wY D (Ht D) := wY_l2 h w h1 (fun _ hc => Ht_l h hc)
theorem wS_t (h : lEq D D') (w : WF D) (h1 : 1 ≤ D 1 0) : wS D' (Ht D') = wS D (Ht D) := wS_l2 h w h1 (fun _ hc => Ht_l h hc)
theorem opn_l (h : lEq D D') (w : WF D) (h1 : 1 ≤ D 1 0) {c : Nat} (hc : (c : Int) < D 12 0) : opn D' c ↔ opn D c := by
  unfold opn
  rw [Ht_l h hc, wP_t h w, wY_t h w h1, cFit_l h w (wP_l w h1) hc]
theorem cW_l2 (h : lEq D D') : cW D' = cW D := by
  unfold cW
  rw [lE_n h]
  refine zs_congr (fun c hc => ?_)
  rw [lE_c h (by omega) (by omega) (by omega)]
  exact zif_c (Ht_l h (by omega))
theorem opnN_l (h : lEq D D') (w : WF D) (h1 : 1 ≤ D 1 0) : zs (fun c => zb (opn D' c)) (D' 12 0).toNat = zs (fun c => zb (opn D c)) (D 12 0).toNat := by
  rw [lE_n h]
  exact zs_congr (fun c hc => zb_c (opn_l h w h1 (by omega)))
theorem own_l (h : lEq D D') (n : Int) : zs (fun p => zb (hasDev D' p n)) (D' 1 0).toNat = zs (fun p => zb (hasDev D p n)) (D 1 0).toNat := by
  rw [lE_n1 h]
  exact zs_congr (fun p hp => zb_c (hasDev_l h (by omega) n))
end LQ
/-! sums over the reading order, first places, first maxima -/
theorem zs_permf {o : Nat → Nat} {n : Nat} (f : Nat → Int) (h1 : ∀ i, i < n → o i < n) (h2 : ∀ i j, i < n → j < n → o i = o j → i = j) (h3 : ∀ k, k < n → ∃ i, i < n ∧ o i = k) : zs (fun i => f (o i)) n = zs f n := by
  have e1 : ∀ i, i < n → f (o i) = zs (fun k => if o i = k then f k else 0) n := fun i hi => by
    rw [zs_congr (g := fun k => if o i = k then f (o i) else 0) (fun k _ => by by_cases q : o i = k; rw [if_pos q, if_pos q, q]; rw [if_neg q, if_neg q]), zs_one, if_pos (h1 i hi)]
  rw [zs_congr e1, zs_swap]
  refine zs_congr (fun k hk => ?_)
  obtain ⟨i0, hi0, e0⟩ := h3 k hk
  rw [zs_congr (g := fun i => if i0 = i then f k else 0) (fun i hi => by by_cases q : i0 = i; rw [if_pos q, if_pos (q ▸ e0)]; rw [if_neg q, if_neg (fun z => q (h2 i0 i hi0 hi (e0.trans z.symm)))]), zs_one, if_pos hi0]
theorem zs_ord {D : zBk} (w : WF D) (f : Nat → Int) : zs (fun i => f (D 19 i).toNat) (D 12 0).toNat = zs f (D 12 0).toNat := by
  have wo := w.2.2.2.2.2
  refine zs_permf (o := fun i => (D 19 i).toNat) f (fun i hi => ?_) (fun i j hi hj e => ?_) (fun k hk => ?_)
  · have := wo.1 i (by omega); show (D 19 i).toNat < _; omega
  · exact WFo_inj wo (by omega) (by omega) e
  · obtain ⟨i, h1, h2⟩ := WFo_sj wo (c := k) (by omega)
    exact ⟨i, by omega, h2⟩
/-- the first greatest place, and how many there are -/
theorem yTop_max {f : Nat → Int} {a : Nat} : ∀ {n : Nat}, ∀ i, a ≤ i → i < a + n → f i ≤ f (yTop f a n) ∧ (f i = f (yTop f a n) → yTop f a n ≤ i)
  | 0, i, h1, h2 => by omega
  | n + 1, i, h1, h2 => by
    have ih := yTop_max (f := f) (a := a) (n := n)
    have hr := yTop_r f a n
    rw [yTop_s]
    by_cases c : f (yTop f a n) < f (a + n)
    · rw [if_pos c]
      by_cases e : i = a + n
      · subst e; exact ⟨Int.le_refl _, fun _ => Nat.le_refl _⟩
      · have := ih i h1 (by omega)
        exact ⟨by omega, fun q => by omega⟩
    · rw [if_neg c]
      by_cases e : i = a + n
      · subst e
        refine ⟨by omega, fun _ => ?_⟩
        rcases hr.2 with q | q
        · omega
        · subst q; exact Nat.le_refl _
      · exact ih i h1 (by omega)
theorem yTop_at {f : Nat → Int} {a n r : Nat} (h1 : a ≤ r) (h2 : r < a + n) (hm : ∀ i, a ≤ i → i < a + n → f i ≤ f r) (hl : ∀ i, a ≤ i → i < r → f i < f r) : yTop f a n = r := by
  have hr := yTop_r f a n
  have q1 := yTop_max (f := f) (a := a) (n := n) r h1 h2
  have q2 := hm (yTop f a n) hr.1 (by omega)
  have q3 := q1.2 (by omega)
  rcases Nat.lt_or_ge (yTop f a n) r with q | q
  · have := hl _ hr.1 q; omega
  · omega
theorem yCnt_e (f : Nat → Int) (a : Nat) : ∀ n : Nat, yCnt f a n = zs (fun i => zb (f (a + i) = f (yTop f a n))) n
  | 0 => rfl
  | n + 1 => by
    have ih := yCnt_e f a n
    rw [yCnt_s, yTop_s, zs_s]
    by_cases c : f (yTop f a n) < f (a + n)
    · rw [if_pos c, if_pos c, zb_t rfl, zs_congr (g := fun _ => 0) (fun i hi => zb_f (fun q => by
        have := (yTop_max (f := f) (a := a) (n := n) (a + i) (by omega) (by omega)).1
        omega)), zs_zero]
      rfl
    · rw [if_neg c, if_neg c]
      by_cases e : f (a + n) = f (yTop f a n)
      · rw [if_pos e, zb_t e, ih]
      · rw [if_neg e, zb_f e, ih, Int.add_zero]
/-- who stands at the head of the ranking -/
theorem rkP_0 {D : zBk} {H : Nat → Prop} {p : Nat} (hp : (p : Int) < D 1 0) (h : ∀ q : Nat, (q : Int) < D 1 0 → q ≠ p → ahd D H p q) : rkP D H 0 = p := by
  unfold rkP atR
  refine zfst_at (by omega) (fun j hj q => ?_) ?_
  · have h1 : 1 ≤ rkn (ahd D H) (D 1 0).toNat j := by
      unfold rkn
      have key : ∀ n : Nat, p < n → 1 ≤ zs (fun i => zb (ahd D H i j)) n := by
        intro n
        induction n with
        | zero => intro q; omega
        | succ n ih =>
          intro q
          rw [zs_s]
          have h0 := (zsb_le (fun i => ahd D H i j) n).1
          rcases zb_01 (ahd D H n j) with e | e
          · by_cases q2 : p = n
            · subst q2
              rw [zb_t (h j (by omega) (by omega))] at e
              omega
            · have := ih (by omega); omega
          · omega
      exact key _ (by omega)
    omega
  · unfold rkn
    rw [zs_congr (g := fun _ => 0) (fun i hi => zb_f (fun q => ?_)), zs_zero]
    by_cases e : i = p
    · subst e; exact ahd_ir _ q
    · exact ahd_as (h i (by omega) e) q
theorem wP_ah {D : zBk} (w : WF D) (h1 : 1 ≤ D 1 0) {H : Nat → Prop} {q : Nat} (hq : (q : Int) < D 1 0) (hne : q ≠ wP D H) : ahd D H (wP D H) q := by
  obtain ⟨o, ho⟩ := rk_ex D H
  have e := ordOK_at ho (i := 0) (by omega)
  have e2 : rkP D H 0 = ((o 0).toNat : Nat) := e
  have e3 : wP D H = (o 0).toNat := by unfold wP; rw [e2]; rfl
  obtain ⟨i, hi, ei⟩ := ho.2.2 q (by omega)
  have hi0 : 0 < i := by
    rcases Nat.eq_zero_or_pos i with z | z
    · subst z; omega
    · exact z
  have := ho.2.1 0 i hi0 hi
  rw [ei, ← e3] at this
  exact this
/-! what is set aside because it is left open -/
theorem clB_c {D : zBk} {o : Nat} (h : o ≠ 18) (i : Nat) : clB D o i = D o i := if_neg h
theorem Ht_cl {D : zBk} (c : Nat) : Ht (clB D) c ↔ Ht D c ∧ ¬ opn D c := by
  unfold Ht
  rw [clB_c (by decide : (17 : Nat) ≠ 18)]
  have e : clB D 18 c = if zb (opn D c) = 1 then 1 else D 18 c := if_pos rfl
  rw [e]
  by_cases h : opn D c
  · rw [zb_t h, if_pos rfl]
    exact ⟨fun q => absurd q.2 (by decide), fun q => absurd h q.2⟩
  · rw [zb_f h, if_neg (by decide)]
    exact ⟨fun q => ⟨q, h⟩, fun q => q.1⟩
theorem sc_cl_le {D : zBk} (w : WF D) (p r : Nat) : sc (clB D) (Ht (clB D)) p r ≤ sc D (Ht D) p r := by
  unfold sc
  have key : ∀ n : Nat, (n : Int) ≤ D 12 0 → zs (fun c => zif (Ht (clB D) c ∧ cFit (clB D) p (1450 + r) c) (clB D 16 c)) n ≤ zs (fun c => zif (Ht D c ∧ cFit D p (1450 + r) c) (D 16 c)) n := by
    intro n
    induction n with
    | zero => intro _; exact Int.le_refl _
    | succ n ih =>
      intro hn
      rw [zs_s, zs_s]
      have := ih (by omega)
      have hw := (w.2.2.2.2.1 n (by omega)).2.2.1
      have hle : zif (Ht (clB D) n ∧ cFit (clB D) p (1450 + r) n) (clB D 16 n) ≤ zif (Ht D n ∧ cFit D p (1450 + r) n) (D 16 n) := by
        by_cases a : Ht (clB D) n ∧ cFit (clB D) p (1450 + r) n
        · have b : Ht D n ∧ cFit D p (1450 + r) n := ⟨((Ht_cl n).mp a.1).1, a.2⟩
          rw [zif_t a, zif_t b]; exact Int.le_refl _
        · rw [zif_f a]
          by_cases b : Ht D n ∧ cFit D p (1450 + r) n
          · rw [zif_t b]; omega
          · rw [zif_f b]; exact Int.le_refl _
      omega
  refine key _ ?_
  have := w.1.2.2.2
  show ((D 12 0).toNat : Int) ≤ D 12 0
  omega
theorem sc_cl_top {D : zBk} : sc (clB D) (Ht (clB D)) (wP D (Ht D)) (tR D (Ht D) (wP D (Ht D))) = sc D (Ht D) (wP D (Ht D)) (tR D (Ht D) (wP D (Ht D))) := by
  unfold sc
  refine zs_congr (fun c _ => ?_)
  show zif _ (D 16 c) = _
  refine zif_c ?_
  rw [Ht_cl]
  have hy : wY D (Ht D) = 1450 + ((tR D (Ht D) (wP D (Ht D)) : Nat) : Int) := rfl
  constructor
  · exact fun q => ⟨q.1.1, q.2⟩
  · refine fun q => ⟨⟨q.1, fun z => z.2 ?_⟩, q.2⟩
    rw [hy]; exact q.2
theorem tR_top {D : zBk} {H : Nat → Prop} (w : WF D) {p : Nat} (hp : (p : Int) < D 1 0) : (D 4 p - 1450).toNat ≤ tR D H p ∧ tR D H p < (D 4 p - 1450).toNat + (D 5 p - D 4 p + 1).toNat := by
  have hy := (w.2.1 p hp).2
  have := yTop_r (sc D H p) (D 4 p - 1450).toNat (D 5 p - D 4 p + 1).toNat
  unfold tR
  omega
theorem tR_max {D : zBk} {H : Nat → Prop} {p r : Nat} (h1 : (D 4 p - 1450).toNat ≤ r) (h2 : r < (D 4 p - 1450).toNat + (D 5 p - D 4 p + 1).toNat) : sc D H p r ≤ tS D H p ∧ (sc D H p r = tS D H p → tR D H p ≤ r) := yTop_max r h1 h2
theorem tR_cl {D : zBk} (w : WF D) (h1 : 1 ≤ D 1 0) : tR (clB D) (Ht (clB D)) (wP D (Ht D)) = tR D (Ht D) (wP D (Ht D)) := by
  have hp := wP_l (H := Ht D) w h1
  have hr := tR_top (H := Ht D) w hp
  have e := sc_cl_top (D := D)
  show yTop (sc (clB D) (Ht (clB D)) (wP D (Ht D))) (D 4 (wP D (Ht D)) - 1450).toNat (D 5 (wP D (Ht D)) - D 4 (wP D (Ht D)) + 1).toNat = tR D (Ht D) (wP D (Ht D))
  refine yTop_at hr.1 hr.2 (fun i a b => ?_) (fun i a b => ?_)
  · have q1 := sc_cl_le w (wP D (Ht D)) i
    have q2 := (tR_max (D := D) (H := Ht D) (p := wP D (Ht D)) (r := i) a b).1
    unfold tS at q2
    omega
  · have q1 := sc_cl_le w (wP D (Ht D)) i
    have q2 := tR_max (D := D) (H := Ht D) (p := wP D (Ht D)) (r := i) a (by omega)
    have q3 : ¬ sc D (Ht D) (wP D (Ht D)) i = tS D (Ht D) (wP D (Ht D)) := fun z => by
      have := q2.2 z
      omega
    have q4 := q2.1
    unfold tS at q3 q4
    omega
theorem tS_cl {D : zBk} (w : WF D) (h1 : 1 ≤ D 1 0) : tS (clB D) (Ht (clB D)) (wP D (Ht D)) = tS D (Ht D) (wP D (Ht D)) := by
  unfold tS
  rw [tR_cl w h1]
  exact sc_cl_top
theorem tS_cl_le {D : zBk} (w : WF D) {q : Nat} (hq : (q : Int) < D 1 0) : tS (clB D) (Ht (clB D)) q ≤ tS D (Ht D) q := by
  have hw' : (D 4 q - 1450).toNat ≤ tR (clB D) (Ht (clB D)) q ∧ tR (clB D) (Ht (clB D)) q < (D 4 q - 1450).toNat + (D 5 q - D 4 q + 1).toNat := by
    have hy := (w.2.1 q hq).2
    have := yTop_r (sc (clB D) (Ht (clB D)) q) (D 4 q - 1450).toNat (D 5 q - D 4 q + 1).toNat
    show _ ≤ yTop _ (D 4 q - 1450).toNat (D 5 q - D 4 q + 1).toNat ∧ yTop _ (D 4 q - 1450).toNat (D 5 q - D 4 q + 1).toNat < _
    omega
  have q1 := sc_cl_le w q (tR (clB D) (Ht (clB D)) q)
  have q2 := (tR_max (H := Ht D) (p := q) hw'.1 hw'.2).1
  unfold tS at q2 ⊢
  omega
theorem wP_cl {D : zBk} (w : WF D) (h1 : 1 ≤ D 1 0) : wP (clB D) (Ht (clB D)) = wP D (Ht D) := by
  have hp := wP_l (H := Ht D) w h1
  have e : rkP (clB D) (Ht (clB D)) 0 = wP D (Ht D) := rkP_0 hp (fun q hq hne => by
    have a := wP_ah w h1 (H := Ht D) (q := q) hq hne
    have b := tS_cl_le w (q := q) hq
    have c := tS_cl w h1
    unfold ahd at a ⊢
    omega)
  show (rkP (clB D) (Ht (clB D)) 0).toNat = _
  rw [e]
  rfl
theorem wY_cl {D : zBk} (w : WF D) (h1 : 1 ≤ D 1 0) : wY (clB D) (Ht (clB D)) = wY D (Ht D) := by
  unfold wY
  rw [wP_cl w h1, tR_cl w h1]
theorem wS_cl {D : zBk} (w : WF D) (h1 : 1 ≤ D 1 0) : wS (clB D) (Ht (clB D)) = wS D (Ht D) := by
  unfold wS
  rw [wP_cl w h1, tS_cl w h1]
theorem opn_cl {D : zBk} (w : WF D) (h1 : 1 ≤ D 1 0) (c : Nat) : ¬ opn (clB D) c := by
  unfold opn
  rw [wP_cl w h1, wY_cl w h1]
  rintro ⟨a, b⟩
  have a := (Ht_cl c).mp a
  refine a.2 ⟨a.1, fun z => b z⟩
theorem cW_cl {D : zBk} (w : WF D) (h1 : 1 ≤ D 1 0) : cW (clB D) = wS D (Ht D) := by
  have e := cW_e w h1
  unfold cW wS tS sc
  show zs (fun c => zif (Ht (clB D) c) (D 16 c)) (D 12 0).toNat = _
  refine zs_congr (fun c _ => zif_c ?_)
  have hy : wY D (Ht D) = 1450 + ((tR D (Ht D) (wP D (Ht D)) : Nat) : Int) := rfl
  rw [Ht_cl, ← hy]
  unfold opn
  by_cases z : cFit D (wP D (Ht D)) (wY D (Ht D)) c
  · exact ⟨fun q => ⟨q.1, z⟩, fun q => ⟨q.1, fun x => x.2 z⟩⟩
  · exact ⟨fun q => absurd ⟨q.1, z⟩ q.2, fun q => absurd q.2 z⟩
