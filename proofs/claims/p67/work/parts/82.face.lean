
/-! the book at 30, cut to its own cells: two memories that agree there have one book -/
def tr (D : zBk) : zBk := fun o i => if o ≤ 19 then D o i else 0
theorem tr_p (D : zBk) : pEq D (tr D) := fun _ ho _ => if_pos ho
theorem tr_q (D : zBk) : pEq (tr D) D := fun _ ho _ => (if_pos ho).symm
theorem tr_e {D D' : zBk} (h : pEq D D') : tr D' = tr D := funext fun o => funext fun i => by
  unfold tr
  by_cases ho : o ≤ 19
  · rw [if_pos ho, if_pos ho, h o ho i]
  · rw [if_neg ho, if_neg ho]
def bK (σ : zS) : zBk := tr (bk σ 30)
theorem WF_tr {D : zBk} (h : WF (tr D)) : WF D := WF_eq (pEq_z (tr_q D)) h
theorem tr_WF {D : zBk} (h : WF D) : WF (tr D) := WF_eq (pEq_z (tr_p D)) h
theorem bK_same {S : Nat → Prop} {σ τ : zS} (h : zSame S σ τ) (hs : ∀ o, o ≤ 19 → ¬ S (30 + o)) : bK τ = bK σ := tr_e (fun o ho i => h.1 (30 + o) (hs o ho) i)
theorem bK_jd {σ τ : zS} (h : zSame (fun q => 252 ≤ q ∧ q ≤ 258) σ τ) : bK τ = bK σ := bK_same h (fun o ho => by show ¬ (252 ≤ 30 + o ∧ 30 + o ≤ 258); omega)
theorem lEq_tr2 {D D' E : zBk} (h : lEq D D') (hE : pEq E D) : lEq E (tr D') := lEq_tr (pEq_l hE) (lEq_tr h (pEq_l (tr_p D')))
theorem pEq_cl {D D' : zBk} (h : pEq D D') (w : WF D) (h1 : 1 ≤ D 1 0) : lEq (clB D) (clB D') := by
  have hl := pEq_l h
  refine ⟨hl.1, fun p hp o a b => by rw [clB_c (by omega), clB_c (by omega)]; exact hl.2.1 p hp o a b, fun q hq => by rw [clB_c (by omega), clB_c (by omega), clB_c (by omega), clB_c (by omega)]; exact hl.2.2.1 q hq, fun q hq => by rw [clB_c (by omega), clB_c (by omega), clB_c (by omega), clB_c (by omega)]; exact hl.2.2.2.1 q hq, fun c hc o h2 h3 => ?_⟩
  have hc : (c : Int) < D 12 0 := hc
  by_cases e : o = 18
  · subst e
    have e1 : clB D' 18 c = if zb (opn D' c) = 1 then 1 else D' 18 c := if_pos rfl
    have e2 : clB D 18 c = if zb (opn D c) = 1 then 1 else D 18 c := if_pos rfl
    rw [e1, e2, zb_c (opn_l hl w h1 hc), h 18 (by decide) c]
  · rw [clB_c e, clB_c e]
    exact h o (by omega) c
/-- what the law asks of a book: its years lie from 1500 to 1549 -/
def LB (mk : Int) (D : zBk) : Prop := WF D ∧ 1 ≤ D 1 0 ∧ D 1 7 = mk ∧ ∀ p : Nat, (p : Int) < D 1 0 → 1500 ≤ D 4 p ∧ D 5 p ≤ 1549
theorem LB_l {mk : Int} {D D' : zBk} (h : lEq D D') (w : WF D') (hB : 1 ≤ D 1 0 ∧ D 1 7 = mk ∧ ∀ p : Nat, (p : Int) < D 1 0 → 1500 ≤ D 4 p ∧ D 5 p ≤ 1549) : LB mk D' := by
  refine ⟨w, by rw [h.1.1]; exact hB.1, by rw [h.1.2.1]; exact hB.2.1, fun p hp => ?_⟩
  rw [h.1.1] at hp
  rw [lE_p h hp (by omega) (by omega), lE_p h hp (by omega) (by omega)]
  exact hB.2.2 p hp

set_option maxRecDepth 20000 in
theorem fX9_clueCount {l : Launch} {w : zW} (hfl : l.stackTraces = false) {σ : zS} {D : zBk}  (hz : zOK σ) (hB : bK σ = D) (hW : WF D) : Sp l w mX9_clueCount 0 0 [zf 9 0] σ (zret (zi (D 12 0)) σ) := by
  subst hB
  exact (sX9_clueCount hfl hz (WF_tr hW))
set_option maxRecDepth 20000 in
theorem fX9_countingWeight {l : Launch} {w : zW} (hfl : l.stackTraces = false) {σ : zS} {D : zBk}  (hz : zOK σ) (hB : bK σ = D) (hW : WF D) : Sp l w mX9_countingWeight 2 0 [zf 9 0] σ (zret (zi (cW D)) σ) := by
  subst hB
  exact (sX9_countingWeight hfl hz (WF_tr hW))
set_option maxRecDepth 20000 in
theorem fX9_pageOf {l : Launch} {w : zW} (hfl : l.stackTraces = false) {σ : zS} {D : zBk} {x : Int} (hz : zOK σ) (hB : bK σ = D) (hW : WF D) (hx : zr x) (hw0 : 0 ≤ x ∧ x < D 12 0) : Sp l w mX9_pageOf 7 0 [zf 9 0, zi x] σ (zret (zi (D 13 x.toNat)) σ) := by
  subst hB
  exact (sX9_pageOf hfl hz (WF_tr hW) hx hw0)
set_option maxRecDepth 20000 in
theorem fX9_kindOf {l : Launch} {w : zW} (hfl : l.stackTraces = false) {σ : zS} {D : zBk} {x : Int} (hz : zOK σ) (hB : bK σ = D) (hW : WF D) (hx : zr x) (hw0 : 0 ≤ x ∧ x < D 12 0) : Sp l w mX9_kindOf 7 0 [zf 9 0, zi x] σ (zret (zi (D 14 x.toNat)) σ) := by
  subst hB
  exact (sX9_kindOf hfl hz (WF_tr hW) hx hw0)
set_option maxRecDepth 20000 in
theorem fX9_valueOf {l : Launch} {w : zW} (hfl : l.stackTraces = false) {σ : zS} {D : zBk} {x : Int} (hz : zOK σ) (hB : bK σ = D) (hW : WF D) (hx : zr x) (hw0 : 0 ≤ x ∧ x < D 12 0) : Sp l w mX9_valueOf 7 0 [zf 9 0, zi x] σ (zret (zi (D 15 x.toNat)) σ) := by
  subst hB
  exact (sX9_valueOf hfl hz (WF_tr hW) hx hw0)
set_option maxRecDepth 20000 in
theorem fX9_weightOf {l : Launch} {w : zW} (hfl : l.stackTraces = false) {σ : zS} {D : zBk} {x : Int} (hz : zOK σ) (hB : bK σ = D) (hW : WF D) (hx : zr x) (hw0 : 0 ≤ x ∧ x < D 12 0) : Sp l w mX9_weightOf 7 0 [zf 9 0, zi x] σ (zret (zi (D 16 x.toNat)) σ) := by
  subst hB
  exact (sX9_weightOf hfl hz (WF_tr hW) hx hw0)
set_option maxRecDepth 20000 in
theorem fX9_isRead {l : Launch} {w : zW} (hfl : l.stackTraces = false) {σ : zS} {D : zBk} {x : Int} (hz : zOK σ) (hB : bK σ = D) (hW : WF D) (hx : zr x) (hw0 : 0 ≤ x ∧ x < D 12 0) : Sp l w mX9_isRead 7 0 [zf 9 0, zi x] σ (zret (zi (D 17 x.toNat)) σ) := by
  subst hB
  exact (sX9_isRead hfl hz (WF_tr hW) hx hw0)
set_option maxRecDepth 20000 in
theorem fX9_isAside {l : Launch} {w : zW} (hfl : l.stackTraces = false) {σ : zS} {D : zBk} {x : Int} (hz : zOK σ) (hB : bK σ = D) (hW : WF D) (hx : zr x) (hw0 : 0 ≤ x ∧ x < D 12 0) : Sp l w mX9_isAside 7 0 [zf 9 0, zi x] σ (zret (zi (D 18 x.toNat)) σ) := by
  subst hB
  exact (sX9_isAside hfl hz (WF_tr hW) hx hw0)
set_option maxRecDepth 20000 in
theorem fX9_hasDevice {l : Launch} {w : zW} (hfl : l.stackTraces = false) {σ : zS} {D : zBk} {x y : Int} (hz : zOK σ) (hB : bK σ = D) (hW : WF D) (hx : zr x) (hy : zr y) (hw0 : 0 ≤ x ∧ x < D 1 0) : Sp l w mX9_hasDevice 7 0 [zf 9 0, zi x, zi y] σ (zret (zi (zb (hasDev D x.toNat y))) σ) := by
  subst hB
  exact (sX9_hasDevice hfl hz (WF_tr hW) hx hy hw0)
set_option maxRecDepth 20000 in
theorem fX9_hasTypeface {l : Launch} {w : zW} (hfl : l.stackTraces = false) {σ : zS} {D : zBk} {x y : Int} (hz : zOK σ) (hB : bK σ = D) (hW : WF D) (hx : zr x) (hy : zr y) (hw0 : 0 ≤ x ∧ x < D 1 0) : Sp l w mX9_hasTypeface 7 0 [zf 9 0, zi x, zi y] σ (zret (zi (zb (hasTyp D x.toNat y))) σ) := by
  subst hB
  exact (sX9_hasTypeface hfl hz (WF_tr hW) hx hy hw0)
set_option maxRecDepth 20000 in
theorem fX9_cityOf {l : Launch} {w : zW} (hfl : l.stackTraces = false) {σ : zS} {D : zBk} {x : Int} (hz : zOK σ) (hB : bK σ = D) (hW : WF D) (hx : zr x) (hw0 : 0 ≤ x ∧ x < D 1 0) : Sp l w mX9_cityOf 7 0 [zf 9 0, zi x] σ (zret (zi (D 3 x.toNat)) σ) := by
  subst hB
  exact (sX9_cityOf hfl hz (WF_tr hW) hx hw0)
set_option maxRecDepth 20000 in
theorem fX9_printerCount {l : Launch} {w : zW} (hfl : l.stackTraces = false) {σ : zS} {D : zBk}  (hz : zOK σ) (hB : bK σ = D) (hW : WF D) : Sp l w mX9_printerCount 0 0 [zf 9 0] σ (zret (zi (D 1 0)) σ) := by
  subst hB
  exact (sX9_printerCount hfl hz (WF_tr hW))
set_option maxRecDepth 20000 in
theorem fX9_isActive {l : Launch} {w : zW} (hfl : l.stackTraces = false) {σ : zS} {D : zBk} {x y : Int} (hz : zOK σ) (hB : bK σ = D) (hW : WF D) (hx : zr x) (hy : zr y) (hw0 : 0 ≤ x ∧ x < D 1 0) (hw1 : 1450 ≤ y ∧ y ≤ 1999) : Sp l w mX9_isActive 7 0 [zf 9 0, zi x, zi y] σ (zret (zi (zb (works D x.toNat y))) σ) := by
  subst hB
  exact (sX9_isActive hfl hz (WF_tr hW) hx hy hw0 hw1)
set_option maxRecDepth 20000 in
theorem fX9_explains {l : Launch} {w : zW} (hfl : l.stackTraces = false) {σ : zS} {D : zBk} {x y u : Int} (hz : zOK σ) (hB : bK σ = D) (hW : WF D) (hx : zr x) (hy : zr y) (hu : zr u) (hw0 : 0 ≤ x ∧ x < D 1 0) (hw1 : 0 ≤ u ∧ u < D 12 0) (hw2 : 1450 ≤ y ∧ y ≤ 1999) : Sp l w mX9_explains 7 0 [zf 9 0, zi x, zi y, zi u] σ (zret (zi (zb (works D x.toNat y ∧ cFit D x.toNat y u.toNat))) σ) := by
  subst hB
  exact (sX9_explains hfl hz (WF_tr hW) hx hy hu hw0 hw1 hw2)
set_option maxRecDepth 20000 in
theorem fX9_score {l : Launch} {w : zW} (hfl : l.stackTraces = false) {σ : zS} {D : zBk} {x y : Int} (hz : zOK σ) (hB : bK σ = D) (hW : WF D) (hx : zr x) (hy : zr y) (hw0 : 0 ≤ x ∧ x < D 1 0) (hw1 : 1450 ≤ y ∧ y ≤ 1999) : Sp l w mX9_score 7 0 [zf 9 0, zi x, zi y] σ (zret (zi (scA D x.toNat y)) σ) := by
  subst hB
  exact (sX9_score hfl hz (WF_tr hW) hx hy hw0 hw1)
set_option maxRecDepth 20000 in
theorem fX9_contradict {l : Launch} {w : zW} (hfl : l.stackTraces = false) {σ : zS} {D : zBk} {x y : Int} (hz : zOK σ) (hB : bK σ = D) (hW : WF D) (hx : zr x) (hy : zr y) (hw0 : 0 ≤ x ∧ x < D 12 0) (hw1 : 0 ≤ y ∧ y < D 12 0) : Sp l w mX9_contradict 7 0 [zf 9 0, zi x, zi y] σ (zret (zi (zb (¬ x = y ∧ ¬ tog D x.toNat y.toNat))) σ) := by
  subst hB
  exact (sX9_contradict hfl hz (WF_tr hW) hx hy hw0 hw1)
set_option maxRecDepth 20000 in
theorem fX9_contradictionsOf {l : Launch} {w : zW} (hfl : l.stackTraces = false) {σ : zS} {D : zBk} {x : Int} (hz : zOK σ) (hB : bK σ = D) (hW : WF D) (hx : zr x) (hw0 : 0 ≤ x ∧ x < D 12 0) : Sp l w mX9_contradictionsOf 7 0 [zf 9 0, zi x] σ (zret (zi (zs (fun c => zb (¬ (c : Int) = x ∧ ¬ tog D x.toNat c)) (D 12 0).toNat)) σ) := by
  subst hB
  exact (sX9_contradictionsOf hfl hz (WF_tr hW) hx hw0)
set_option maxRecDepth 20000 in
theorem fX9_clueInOrder {l : Launch} {w : zW} (hfl : l.stackTraces = false) {σ : zS} {D : zBk} {x : Int} (hz : zOK σ) (hB : bK σ = D) (hW : WF D) (hx : zr x) : Sp l w mX9_clueInOrder 1 0 [zf 9 0, zi x] σ (zret (zi (if 0 ≤ x ∧ x < D 12 0 then D 19 x.toNat else -1)) σ) := by
  subst hB
  exact (sX9_clueInOrder hfl hz (WF_tr hW) hx)
set_option maxRecDepth 20000 in
theorem fX9_nextClue {l : Launch} {w : zW} (hfl : l.stackTraces = false) {σ : zS} {D : zBk}  (hz : zOK σ) (hB : bK σ = D) (hW : WF D) : Sp l w mX9_nextClue 3 0 [zf 9 0] σ (zret (zi (nxU D)) σ) := by
  subst hB
  exact (sX9_nextClue hfl hz (WF_tr hW))
set_option maxRecDepth 20000 in
theorem fX9_deviceOwners {l : Launch} {w : zW} (hfl : l.stackTraces = false) {σ : zS} {D : zBk} {y : Int} (hz : zOK σ) (hB : bK σ = D) (hW : WF D) (hy : zr y) : Sp l w mX9_deviceOwners 3 0 [zf 9 0, zi y] σ (zret (zi (zs (fun p => zb (hasDev D p y)) (D 1 0).toNat)) σ) := by
  subst hB
  exact (sX9_deviceOwners hfl hz (WF_tr hW) hy)
set_option maxRecDepth 20000 in
theorem fX9_bestYear {l : Launch} {w : zW} (hfl : l.stackTraces = false) {σ : zS} {D : zBk} {x : Int} (hz : zOK σ) (hB : bK σ = D) (hW : WF D) (hP1 : 1 ≤ D 1 0) (hx : zr x) (hw0 : 0 ≤ x ∧ x < D 1 0) : Sp l w mX9_bestYear 7 0 [zf 9 0, zi x] σ (zqv (some (zi (1450 + ((tR D (Ht D) x.toNat : Nat) : Int)))) (fun τ => zOK τ ∧ zSame (fun q => 252 ≤ q ∧ q ≤ 258) σ τ ∧ bK τ = D)) := by
  subst hB
  exact zSp_mono (sX9_bestYear hfl hz (WF_tr hW) hP1 hx hw0) (fun o τ h => ⟨h.1, h.2.1, h.2.2, bK_jd h.2.2⟩)
set_option maxRecDepth 20000 in
theorem fX9_bestScore {l : Launch} {w : zW} (hfl : l.stackTraces = false) {σ : zS} {D : zBk} {x : Int} (hz : zOK σ) (hB : bK σ = D) (hW : WF D) (hP1 : 1 ≤ D 1 0) (hx : zr x) (hw0 : 0 ≤ x ∧ x < D 1 0) : Sp l w mX9_bestScore 7 0 [zf 9 0, zi x] σ (zqv (some (zi (tS D (Ht D) x.toNat))) (fun τ => zOK τ ∧ zSame (fun q => 252 ≤ q ∧ q ≤ 258) σ τ ∧ bK τ = D)) := by
  subst hB
  exact zSp_mono (sX9_bestScore hfl hz (WF_tr hW) hP1 hx hw0) (fun o τ h => ⟨h.1, h.2.1, h.2.2, bK_jd h.2.2⟩)
set_option maxRecDepth 20000 in
theorem fX9_bestYears {l : Launch} {w : zW} (hfl : l.stackTraces = false) {σ : zS} {D : zBk} {x : Int} (hz : zOK σ) (hB : bK σ = D) (hW : WF D) (hP1 : 1 ≤ D 1 0) (hx : zr x) (hw0 : 0 ≤ x ∧ x < D 1 0) : Sp l w mX9_bestYears 7 0 [zf 9 0, zi x] σ (zqv (some (zi (tN D (Ht D) x.toNat))) (fun τ => zOK τ ∧ zSame (fun q => 252 ≤ q ∧ q ≤ 258) σ τ ∧ bK τ = D)) := by
  subst hB
  exact zSp_mono (sX9_bestYears hfl hz (WF_tr hW) hP1 hx hw0) (fun o τ h => ⟨h.1, h.2.1, h.2.2, bK_jd h.2.2⟩)
set_option maxRecDepth 20000 in
theorem fX9_printerByRank {l : Launch} {w : zW} (hfl : l.stackTraces = false) {σ : zS} {D : zBk} {x : Int} (hz : zOK σ) (hB : bK σ = D) (hW : WF D) (hP1 : 1 ≤ D 1 0) (hx : zr x) : Sp l w mX9_printerByRank 6 0 [zf 9 0, zi x] σ (zqv (some (zi (rkP D (Ht D) x))) (fun τ => zOK τ ∧ zSame (fun q => 252 ≤ q ∧ q ≤ 258) σ τ ∧ bK τ = D)) := by
  subst hB
  exact zSp_mono (sX9_printerByRank hfl hz (WF_tr hW) hP1 hx) (fun o τ h => ⟨h.1, h.2.1, h.2.2, bK_jd h.2.2⟩)
set_option maxRecDepth 20000 in
theorem fX9_verdictPrinter {l : Launch} {w : zW} (hfl : l.stackTraces = false) {σ : zS} {D : zBk}  (hz : zOK σ) (hB : bK σ = D) (hW : WF D) (hP1 : 1 ≤ D 1 0) : Sp l w mX9_verdictPrinter 6 0 [zf 9 0] σ (zqv (some (zi ((wP D (Ht D) : Nat) : Int))) (fun τ => zOK τ ∧ zSame (fun q => 252 ≤ q ∧ q ≤ 258) σ τ ∧ bK τ = D)) := by
  subst hB
  exact zSp_mono (sX9_verdictPrinter hfl hz (WF_tr hW) hP1) (fun o τ h => ⟨h.1, h.2.1, h.2.2, bK_jd h.2.2⟩)
set_option maxRecDepth 20000 in
theorem fX9_verdictYear {l : Launch} {w : zW} (hfl : l.stackTraces = false) {σ : zS} {D : zBk}  (hz : zOK σ) (hB : bK σ = D) (hW : WF D) (hP1 : 1 ≤ D 1 0) : Sp l w mX9_verdictYear 6 0 [zf 9 0] σ (zqv (some (zi (wY D (Ht D)))) (fun τ => zOK τ ∧ zSame (fun q => 252 ≤ q ∧ q ≤ 258) σ τ ∧ bK τ = D)) := by
  subst hB
  exact zSp_mono (sX9_verdictYear hfl hz (WF_tr hW) hP1) (fun o τ h => ⟨h.1, h.2.1, h.2.2, bK_jd h.2.2⟩)
set_option maxRecDepth 20000 in
theorem fX9_verdictScore {l : Launch} {w : zW} (hfl : l.stackTraces = false) {σ : zS} {D : zBk}  (hz : zOK σ) (hB : bK σ = D) (hW : WF D) (hP1 : 1 ≤ D 1 0) : Sp l w mX9_verdictScore 6 0 [zf 9 0] σ (zqv (some (zi (wS D (Ht D)))) (fun τ => zOK τ ∧ zSame (fun q => 252 ≤ q ∧ q ≤ 258) σ τ ∧ bK τ = D)) := by
  subst hB
  exact zSp_mono (sX9_verdictScore hfl hz (WF_tr hW) hP1) (fun o τ h => ⟨h.1, h.2.1, h.2.2, bK_jd h.2.2⟩)
set_option maxRecDepth 20000 in
theorem fX9_margin {l : Launch} {w : zW} (hfl : l.stackTraces = false) {σ : zS} {D : zBk}  (hz : zOK σ) (hB : bK σ = D) (hW : WF D) (hP1 : 1 ≤ D 1 0) : Sp l w mX9_margin 6 0 [zf 9 0] σ (zqv (some (zi (wS D (Ht D) - scd D (Ht D)))) (fun τ => zOK τ ∧ zSame (fun q => 252 ≤ q ∧ q ≤ 258) σ τ ∧ bK τ = D)) := by
  subst hB
  exact zSp_mono (sX9_margin hfl hz (WF_tr hW) hP1) (fun o τ h => ⟨h.1, h.2.1, h.2.2, bK_jd h.2.2⟩)
set_option maxRecDepth 20000 in
theorem fX9_unexplainedCount {l : Launch} {w : zW} (hfl : l.stackTraces = false) {σ : zS} {D : zBk}  (hz : zOK σ) (hB : bK σ = D) (hW : WF D) (hP1 : 1 ≤ D 1 0) : Sp l w mX9_unexplainedCount 6 0 [zf 9 0] σ (zqv (some (zi (zs (fun c => zb (opn D c)) (D 12 0).toNat))) (fun τ => zOK τ ∧ zSame (fun q => 252 ≤ q ∧ q ≤ 258) σ τ ∧ bK τ = D)) := by
  subst hB
  exact zSp_mono (sX9_unexplainedCount hfl hz (WF_tr hW) hP1) (fun o τ h => ⟨h.1, h.2.1, h.2.2, bK_jd h.2.2⟩)
set_option maxRecDepth 20000 in
theorem fX9_unexplainedClue {l : Launch} {w : zW} (hfl : l.stackTraces = false) {σ : zS} {D : zBk} {x : Int} (hz : zOK σ) (hB : bK σ = D) (hW : WF D) (hP1 : 1 ≤ D 1 0) (hx : zr x) : Sp l w mX9_unexplainedClue 6 0 [zf 9 0, zi x] σ (zqv (some (zi (unx D x))) (fun τ => zOK τ ∧ zSame (fun q => 252 ≤ q ∧ q ≤ 258) σ τ ∧ bK τ = D)) := by
  subst hB
  exact zSp_mono (sX9_unexplainedClue hfl hz (WF_tr hW) hP1 hx) (fun o τ h => ⟨h.1, h.2.1, h.2.2, bK_jd h.2.2⟩)
set_option maxRecDepth 20000 in
theorem fX9_printerAfter {l : Launch} {w : zW} (hfl : l.stackTraces = false) {σ : zS} {D : zBk} {x : Int} (hz : zOK σ) (hB : bK σ = D) (hW : WF D) (hP1 : 1 ≤ D 1 0) (hx : zr x) (hw0 : 0 ≤ x ∧ x ≤ 40) : Sp l w mX9_printerAfter 7 0 [zf 9 0, zi x] σ (zqv (some (zi ((wP D (Hd D x (-1)) : Nat) : Int))) (fun τ => zOK τ ∧ zSame (fun q => 252 ≤ q ∧ q ≤ 258) σ τ ∧ bK τ = D)) := by
  subst hB
  exact zSp_mono (sX9_printerAfter hfl hz (WF_tr hW) hP1 hx hw0) (fun o τ h => ⟨h.1, h.2.1, h.2.2, bK_jd h.2.2⟩)
set_option maxRecDepth 20000 in
theorem fX9_yearAfter {l : Launch} {w : zW} (hfl : l.stackTraces = false) {σ : zS} {D : zBk} {x : Int} (hz : zOK σ) (hB : bK σ = D) (hW : WF D) (hP1 : 1 ≤ D 1 0) (hx : zr x) (hw0 : 0 ≤ x ∧ x ≤ 40) : Sp l w mX9_yearAfter 7 0 [zf 9 0, zi x] σ (zqv (some (zi (wY D (Hd D x (-1))))) (fun τ => zOK τ ∧ zSame (fun q => 252 ≤ q ∧ q ≤ 258) σ τ ∧ bK τ = D)) := by
  subst hB
  exact zSp_mono (sX9_yearAfter hfl hz (WF_tr hW) hP1 hx hw0) (fun o τ h => ⟨h.1, h.2.1, h.2.2, bK_jd h.2.2⟩)
set_option maxRecDepth 20000 in
theorem fX9_cluesUntilChange {l : Launch} {w : zW} (hfl : l.stackTraces = false) {σ : zS} {D : zBk}  (hz : zOK σ) (hB : bK σ = D) (hW : WF D) (hP1 : 1 ≤ D 1 0) : Sp l w mX9_cluesUntilChange 6 0 [zf 9 0] σ (zqv (some (zi (cuc D))) (fun τ => zOK τ ∧ zSame (fun q => 252 ≤ q ∧ q ≤ 258) σ τ ∧ bK τ = D)) := by
  subst hB
  exact zSp_mono (sX9_cluesUntilChange hfl hz (WF_tr hW) hP1) (fun o τ h => ⟨h.1, h.2.1, h.2.2, bK_jd h.2.2⟩)
set_option maxRecDepth 20000 in
theorem fX9_decisiveClue {l : Launch} {w : zW} (hfl : l.stackTraces = false) {σ : zS} {D : zBk}  (hz : zOK σ) (hB : bK σ = D) (hW : WF D) (hP1 : 1 ≤ D 1 0) : Sp l w mX9_decisiveClue 6 0 [zf 9 0] σ (zqv (some (zi (dcs D))) (fun τ => zOK τ ∧ zSame (fun q => 252 ≤ q ∧ q ≤ 258) σ τ ∧ bK τ = D)) := by
  subst hB
  exact zSp_mono (sX9_decisiveClue hfl hz (WF_tr hW) hP1) (fun o τ h => ⟨h.1, h.2.1, h.2.2, bK_jd h.2.2⟩)
set_option maxRecDepth 20000 in
theorem fX9_rankingErrors {l : Launch} {w : zW} (hfl : l.stackTraces = false) {σ : zS} {D : zBk}  (hz : zOK σ) (hB : bK σ = D) (hW : WF D) (hP1 : 1 ≤ D 1 0) : Sp l w mX9_rankingErrors 6 0 [zf 9 0] σ (zqv (some (zi 0)) (fun τ => zOK τ ∧ zSame (fun q => 252 ≤ q ∧ q ≤ 258) σ τ ∧ bK τ = D)) := by
  subst hB
  exact zSp_mono (sX9_rankingErrors hfl hz (WF_tr hW) hP1) (fun o τ h => ⟨h.1, h.2.1, h.2.2, bK_jd h.2.2⟩)
set_option maxRecDepth 20000 in
theorem fX9_confidence {l : Launch} {w : zW} (hfl : l.stackTraces = false) {σ : zS} {D : zBk}  (hz : zOK σ) (hB : bK σ = D) (hW : WF D) (hP1 : 1 ≤ D 1 0) : Sp l w mX9_confidence 6 0 [zf 9 0] σ (zqv (some (zd (cfd D))) (fun τ => zOK τ ∧ zSame (fun q => 252 ≤ q ∧ q ≤ 258) σ τ ∧ bK τ = D)) := by
  subst hB
  exact zSp_mono (sX9_confidence hfl hz (WF_tr hW) hP1) (fun o τ h => ⟨h.1, h.2.1, h.2.2, bK_jd h.2.2⟩)

