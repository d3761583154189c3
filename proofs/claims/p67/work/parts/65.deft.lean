/-! the readers' words with tests that can be run -/
def rD (Q : Nat → Bool) (n : Nat) : Nat → Nat → Nat
  | 0, p => p
  | f + 1, p => if p < n ∧ Q p = true then rD Q n f (p + 1) else p
theorem rD_e {Q : Nat → Prop} {B : Nat → Bool} (h : ∀ i, B i = true ↔ Q i) (n : Nat) : ∀ f p, rn Q n f p = rD B n f p
  | 0, p => rfl
  | f + 1, p => by
    rw [rn, rD, rD_e h n f (p + 1)]
    by_cases q : p < n ∧ Q p
    · rw [if_pos q, if_pos ⟨q.1, (h p).mpr q.2⟩]
    · rw [if_neg q, if_neg (fun r => q ⟨r.1, (h p).mp r.2⟩)]
section DT
variable (t : Nat → Int) (n : Nat)
def dS (p : Nat) : Nat := rD (fun i => decide (t i = 32)) n (n - p) p
theorem xS_d (p : Nat) : xS t n p = dS t n p := rD_e (fun i => by unfold isSp; exact decide_eq_true_iff) n _ _
def dK (p : Nat) : Int := if n ≤ dS t n p then 0 else kb (t (dS t n p))
theorem xK_d (p : Nat) : xK t n p = dK t n p := by unfold xK dK; rw [xS_d]
def dE (p : Nat) : Nat := if dK t n p = 0 then dS t n p else if dK t n p = 1 then rD (fun i => decide (97 ≤ t i ∧ t i ≤ 122)) n (n - dS t n p) (dS t n p) else if dK t n p = 2 then rD (fun i => decide (48 ≤ t i ∧ t i ≤ 57)) n (n - dS t n p) (dS t n p) else dS t n p + 1
theorem xE_d (p : Nat) : xE t n p = dE t n p := by
  unfold xE dE rnE
  rw [xK_d, xS_d, rD_e (B := fun i => decide (97 ≤ t i ∧ t i ≤ 122)) (fun i => by unfold isWd; exact decide_eq_true_iff) n, rD_e (B := fun i => decide (48 ≤ t i ∧ t i ≤ 57)) (fun i => by unfold isDg; exact decide_eq_true_iff) n]
def dF (S : zP) (c : Int) : zP := if S.2.1 = 0 then (S.1, c, (dS t n S.1 : Int)) else S
theorem pF_d (S : zP) (c : Int) : pF t n S c = dF t n S c := by unfold pF dF; rw [xS_d]
def dN (S : zP) : zP := (dE t n S.1, S.2)
theorem pN_d (S : zP) : pN t n S = dN t n S := by unfold pN dN; rw [xE_d]
def dV (p : Nat) : Int := dv t (dS t n p) (dE t n p - dS t n p)
theorem pV_d (p : Nat) : pV t n p = dV t n p := by unfold pV dV; rw [xE_d, xS_d]
def dNum (S : zP) (lo hi : Int) : zP :=
  if ¬ S.2.1 = 0 then S else if ¬ (dK t n S.1 = 2 ∧ dE t n S.1 - dS t n S.1 ≤ 4) then dF t n S 1 else if ¬ (lo ≤ dV t n S.1 ∧ dV t n S.1 ≤ hi) then dF t n S 2 else dN t n S
theorem pNum_d (S : zP) (lo hi : Int) : pNum t n S lo hi = dNum t n S lo hi := by unfold pNum dNum; rw [xK_d, xE_d, xS_d, pF_d, pF_d, pV_d, pN_d]
def dSem (S : zP) : zP := if ¬ S.2.1 = 0 then S else if dK t n S.1 = 3 then dN t n S else dF t n S 1
theorem pSem_d (S : zP) : pSem t n S = dSem t n S := by unfold pSem dSem; rw [xK_d, pF_d, pN_d]
def dW (p j : Nat) : Bool := decide (dK t n p = 1) && (decide (dE t n p - dS t n p = zslen.getD j 0) && (List.range (zslen.getD j 0)).all fun i => decide (t (dS t n p + i) = ((zsbyt.getD j []).getD i 0).toInt))
theorem isW_d (p j : Nat) : dW t n p j = true ↔ isW t n p j := by
  unfold dW isW
  rw [xK_d, xE_d, xS_d]
  simp only [Bool.and_eq_true, decide_eq_true_iff, List.all_eq_true, List.mem_range]
def dkd (p : Nat) : Int := if dW t n p 8 = true then 0 else if dW t n p 9 = true then 1 else if dW t n p 10 = true then 2 else if dW t n p 13 = true then 3 else if dW t n p 14 = true then 4 else -1
theorem ite_d {A : Prop} {b : Bool} (h : b = true ↔ A) (x y : Int) : @ite Int A (Classical.propDecidable _) x y = if b = true then x else y := by
  by_cases q : A
  · rw [if_pos q, if_pos (h.mpr q)]
  · rw [if_neg q, if_neg (fun r => q (h.mp r))]
theorem kdv_d (p : Nat) : kdv t n p = dkd t n p := by
  unfold kdv dkd
  rw [ite_d (isW_d t n p 8), ite_d (isW_d t n p 9), ite_d (isW_d t n p 10), ite_d (isW_d t n p 13), ite_d (isW_d t n p 14)]
def dKd (S : zP) : zP := if ¬ S.2.1 = 0 then S else if dkd t n S.1 = -1 then dF t n S 1 else dN t n S
theorem pKd_d (S : zP) : pKd t n S = dKd t n S := by unfold pKd dKd; rw [kdv_d, pF_d, pN_d]
def dNm (S : zP) : Int := if S.2.1 = 0 ∧ dK t n S.1 = 1 ∧ dE t n S.1 - dS t n S.1 ≤ 6 then pkF (fun k => t (dS t n S.1 + k)) (dE t n S.1 - dS t n S.1) else 0
theorem nmv_d (S : zP) : nmv t n S = dNm t n S := by unfold nmv dNm; rw [xK_d, xE_d, xS_d]
def dz (f : Nat → Int) (x : Int) : Nat → Int
  | 0 => -1
  | m + 1 => if dz f x m = -1 then (if f m = x then (m : Int) else -1) else dz f x m
theorem zfst_d {f g : Nat → Int} {x : Int} : ∀ {m : Nat}, (∀ i, i < m → f i = g i) → zfst (fun i => f i = x) m = dz g x m
  | 0, _ => rfl
  | m + 1, h => by
    rw [zfst, dz, zfst_d (fun i hi => h i (Nat.lt_succ_of_lt hi))]
    rw [h m (Nat.lt_succ_self m)]
    by_cases q : g m = x
    · rw [if_pos q, if_pos q]
    · rw [if_neg q, if_neg q]
def dfz (nm : List Int) (x : Int) : Int := dz (fun i => nm.getD i 0) x nm.length
def nmI (D : zBk) (nm : List Int) : Prop := D 1 0 = nm.length ∧ ∀ p, p < nm.length → D 2 p = nm.getD p 0
theorem fz_d {D : zBk} {nm : List Int} (h : nmI D nm) (x : Int) : fz (D 2) (D 1 0) x = dfz nm x := by
  unfold fz dfz
  rw [h.1, Int.toNat_natCast]
  exact zfst_d h.2
def dNew (nm : List Int) (S : zP) : zP := if ¬ S.2.1 = 0 then S else if dNm t n S = 0 then dF t n S 1 else if ¬ dfz nm (dNm t n S) = -1 then dF t n S 3 else dN t n S
theorem pNew_d {D : zBk} {nm : List Int} (h : nmI D nm) (S : zP) : pNew t n (D 2) (D 1 0) S = dNew t n nm S := by unfold pNew dNew; rw [nmv_d, fz_d h, pF_d, pF_d, pN_d]
def dPrn (nm : List Int) (S : zP) : zP := if ¬ S.2.1 = 0 then S else if dNm t n S = 0 then dF t n S 1 else if dfz nm (dNm t n S) = -1 then dF t n S 3 else dN t n S
theorem pPrn_d {D : zBk} {nm : List Int} (h : nmI D nm) (S : zP) : pPrn t n (D 2) (D 1 0) S = dPrn t n nm S := by unfold pPrn dPrn; rw [nmv_d, fz_d h, pF_d, pF_d, pN_d]
def dHi (mk k : Int) : Int := if k = 0 then 31 else if k = 1 then 15 else if k = 2 then mk - 1 else if k = 3 then 9 else 1999
def dLo (k : Int) : Int := if k = 4 then 1450 else 0
def dSt (k : Int) (nm : List Int) (mk : Int) (S : zP) : zP :=
  if k = 0 then dSem t n (dNum t n (dNum t n (dNum t n (dNew t n nm S) 0 9) 1450 1999) (dV t n (dNum t n (dNew t n nm S) 0 9).1) 1999)
  else if k = 1 then dSem t n (dNum t n (dPrn t n nm S) 0 31) else if k = 2 then dSem t n (dNum t n (dPrn t n nm S) 0 15)
  else if k = 3 then dSem t n (dNum t n (dNum t n S 1450 1999) (dV t n S.1) 1999) else if k = 4 then dSem t n (dNum t n (dPrn t n nm S) 1450 1999)
  else dSem t n (dNum t n (dNum t n (dKd t n (dNum t n S 1 999)) (dLo (dkd t n (dNum t n S 1 999).1)) (dHi mk (dkd t n (dNum t n S 1 999).1))) 1 9)
theorem sStS_d {D : zBk} {nm : List Int} {mk : Int} (h : nmI D nm) (h7 : D 1 7 = mk) (k : Int) (S : zP) : sStS t n k D S = dSt t n k nm mk S := by
  subst h7
  unfold sStS dSt q5 q4 q3 q2 q1 o3 o2 o1 w3 w2 w1 u5 u4 u3 u2 u1 hiK loK dHi dLo
  simp only [pSem_d, pNum_d, pV_d, pKd_d, kdv_d, pNew_d t n h, pPrn_d t n h]
def dsc (p : Nat) : Int := if dW t n p 7 = true then 0 else if dW t n p 8 = true then 1 else if dW t n p 9 = true then 2 else if dW t n p 10 = true then 3 else if dW t n p 11 = true then 4 else if dW t n p 12 = true then 5 else -1
theorem sct_d (p : Nat) : sct t n p = dsc t n p := by
  unfold sct dsc
  rw [ite_d (isW_d t n p 7), ite_d (isW_d t n p 8), ite_d (isW_d t n p 9), ite_d (isW_d t n p 10), ite_d (isW_d t n p 11), ite_d (isW_d t n p 12)]
/-- where a run over a sound text stands -/
def dI (a : zTr) (sec : Int) (pos : Nat) (nm : List Int) (mk ed cl : Int) : Prop := a.1 = sec ∧ a.2.1 = (pos, 0, -1) ∧ nmI a.2.2 nm ∧ a.2.2 1 7 = mk ∧ a.2.2 1 10 = ed ∧ a.2.2 12 0 = cl
theorem dI_c {b : zTr} {B : zBk} {k : Int} {pos' : Nat} {nm : List Int} {mk ed cl : Int} (c1 : b.1 = k) (c2 : b.2.1 = (pos', 0, -1)) (c3 : lEq B b.2.2) (e0 : B 1 0 = nm.length) (en : ∀ p, p < nm.length → B 2 p = nm.getD p 0) (e7 : B 1 7 = mk) (e10 : B 1 10 = ed) (e12 : B 12 0 = cl) : dI b k pos' nm mk ed cl :=
  ⟨c1, c2, ⟨c3.1.1.trans e0, fun p hp => (c3.2.1 p (by rw [e0]; omega) 2 (by omega) (by omega)).trans (en p hp)⟩, c3.1.2.1.trans e7, c3.1.2.2.1.trans e10, c3.1.2.2.2.trans e12⟩
theorem dstep {a b : zTr} {sec k : Int} {pos pos' : Nat} {nm nm' : List Int} {mk ed cl : Int} (hs : stp t n a b) (h : dI a sec pos nm mk ed cl) (hk : dsc t n pos = k) (h1 : sec ≤ k) (h2 : k ≤ if nm.length = 0 then 0 else 5) (h3 : nm.length < 8 ∧ mk < 8 ∧ ed < 12 ∧ cl < 40) (hS : dSt t n k nm mk (dN t n (pos, 0, -1)) = (pos', 0, -1)) (hn : nm' = if k = 0 then nm ++ [dNm t n (dN t n (pos, 0, -1))] else nm) (hk6 : k = 0 ∨ k = 1 ∨ k = 2 ∨ k = 3 ∨ k = 4 ∨ k = 5) :
    dI b k pos' nm' (if k = 3 then mk + 1 else mk) (if k = 4 then ed + 1 else ed) (if k = 5 then cl + 1 else cl) := by
  obtain ⟨a1, a2, a3, a7, a10, a12⟩ := h
  have ek : sct t n a.2.1.1 = k := by rw [a2, sct_d]; exact hk
  have ewt : wth t n a := by
    unfold wth lst
    rw [ek, a1, a3.1]
    refine ⟨h1, ?_⟩
    split at h2
    · rw [if_pos (by omega)]; exact h2
    · rw [if_neg (by omega)]; exact h2
  have enf : ¬ ful a.2.2 (sct t n a.2.1.1) := by
    unfold ful
    rw [ek, a3.1, a7, a10, a12]
    omega
  obtain ⟨-, -, c | c | c⟩ := hs
  · exact absurd ewt c.1
  · exact absurd c.2.1 enf
  · obtain ⟨-, -, c1, c2, c3⟩ := c
    rw [ek] at c1 c2 c3
    have eS : sStS t n k a.2.2 (pN t n a.2.1) = (pos', 0, -1) := by rw [sStS_d t n a3 a7, pN_d, a2]; exact hS
    unfold sBk at c3
    rw [eS] at c3 c2
    rw [if_pos rfl] at c3
    unfold sStB at c3
    rcases hk6 with rfl | rfl | rfl | rfl | rfl | rfl
    · rw [if_pos rfl] at c3
      rw [if_pos rfl] at hn
      subst hn
      rw [if_neg (by decide), if_neg (by decide), if_neg (by decide)]
      refine dI_c c1 c2 c3 (by unfold adP; rw [if_pos ⟨rfl, rfl⟩, a3.1, List.length_append]; rfl) (fun p hp => ?_) (by unfold adP; rw [if_neg (by omega), if_neg (by omega)]; exact a7) (by unfold adP; rw [if_neg (by omega), if_neg (by omega)]; exact a10) (by unfold adP; rw [if_neg (by omega), if_neg (by omega)]; exact a12)
      rw [List.length_append] at hp
      have hp2 : p < nm.length + 1 := hp
      unfold adP
      rw [if_neg (by omega)]
      by_cases q : p = nm.length
      · subst q
        rw [if_pos ⟨a3.1.symm, by omega, by omega⟩, if_pos rfl, nmv_d, pN_d, a2]
        simp [List.getD_eq_getElem?_getD]
      · rw [if_neg (fun r => q (by have := r.1; rw [a3.1] at this; omega)), a3.2 p (by omega)]
        rw [List.getD_eq_getElem?_getD, List.getD_eq_getElem?_getD, List.getElem?_append_left (by omega)]
    · rw [if_neg (by decide), if_pos rfl] at c3
      rw [if_neg (by decide)] at hn
      subst hn
      rw [if_neg (by decide), if_neg (by decide), if_neg (by decide)]
      exact dI_c c1 c2 c3 ((ov_k _ _ _ _ (by decide)).trans a3.1) (fun p hp => (ov_k _ _ _ _ (by decide)).trans (a3.2 p hp)) ((ov_k _ _ _ _ (by decide)).trans a7) ((ov_k _ _ _ _ (by decide)).trans a10) ((ov_k _ _ _ _ (by decide)).trans a12)
    · rw [if_neg (by decide), if_neg (by decide), if_pos rfl] at c3
      rw [if_neg (by decide)] at hn
      subst hn
      rw [if_neg (by decide), if_neg (by decide), if_neg (by decide)]
      exact dI_c c1 c2 c3 ((ov_k _ _ _ _ (by decide)).trans a3.1) (fun p hp => (ov_k _ _ _ _ (by decide)).trans (a3.2 p hp)) ((ov_k _ _ _ _ (by decide)).trans a7) ((ov_k _ _ _ _ (by decide)).trans a10) ((ov_k _ _ _ _ (by decide)).trans a12)
    · rw [if_neg (by decide), if_neg (by decide), if_neg (by decide), if_pos rfl] at c3
      rw [if_neg (by decide)] at hn
      subst hn
      rw [if_pos rfl, if_neg (by decide), if_neg (by decide)]
      exact dI_c c1 c2 c3 (by unfold adM; rw [if_neg (by omega), if_neg (by omega)]; exact a3.1) (fun p hp => by unfold adM; rw [if_neg (by omega), if_neg (by omega)]; exact a3.2 p hp) (by unfold adM; rw [if_pos ⟨rfl, rfl⟩, a7]) (by unfold adM; rw [if_neg (by omega), if_neg (by omega)]; exact a10) (by unfold adM; rw [if_neg (by omega), if_neg (by omega)]; exact a12)
    · rw [if_neg (by decide), if_neg (by decide), if_neg (by decide), if_neg (by decide), if_pos rfl] at c3
      rw [if_neg (by decide)] at hn
      subst hn
      rw [if_neg (by decide), if_pos rfl, if_neg (by decide)]
      exact dI_c c1 c2 c3 (by unfold adE; rw [if_neg (by omega), if_neg (by omega)]; exact a3.1) (fun p hp => by unfold adE; rw [if_neg (by omega), if_neg (by omega)]; exact a3.2 p hp) (by unfold adE; rw [if_neg (by omega), if_neg (by omega)]; exact a7) (by unfold adE; rw [if_pos ⟨rfl, rfl⟩, a10]) (by unfold adE; rw [if_neg (by omega), if_neg (by omega)]; exact a12)
    · rw [if_neg (by decide), if_neg (by decide), if_neg (by decide), if_neg (by decide), if_neg (by decide)] at c3
      rw [if_neg (by decide)] at hn
      subst hn
      rw [if_neg (by decide), if_neg (by decide), if_pos rfl]
      exact dI_c c1 c2 c3 (by unfold adB; rw [if_neg (by omega), if_neg (by omega)]; exact a3.1) (fun p hp => by unfold adB; rw [if_neg (by omega), if_neg (by omega)]; exact a3.2 p hp) (by unfold adB; rw [if_neg (by omega), if_neg (by omega)]; exact a7) (by unfold adB; rw [if_neg (by omega), if_neg (by omega)]; exact a10) (by unfold adB; rw [if_pos ⟨rfl, rfl⟩, a12])
end DT

def dtL : List Int := [112, 114, 105, 110, 116, 101, 114, 32, 97, 108, 100, 117, 115, 32, 49, 32, 49, 52, 57, 52, 32, 49, 53, 49, 53, 59, 112, 114, 105, 110, 116, 101, 114, 32, 101, 115, 116, 105, 101, 110, 32, 50, 32, 49, 53, 48, 50, 32, 49, 53, 53, 57, 59, 112, 114, 105, 110, 116, 101, 114, 32, 112, 108, 97, 110, 116, 110, 32, 51, 32, 49, 53, 53, 53, 32, 49, 53, 56, 57, 59, 100, 101, 118, 105, 99, 101, 32, 97, 108, 100, 117, 115, 32, 52, 59, 100, 101, 118, 105, 99, 101, 32, 101, 115, 116, 105, 101, 110, 32, 55, 59, 100, 101, 118, 105, 99, 101, 32, 112, 108, 97, 110, 116, 110, 32, 52, 59, 116, 121, 112, 101, 32, 97, 108, 100, 117, 115, 32, 49, 59, 116, 121, 112, 101, 32, 101, 115, 116, 105, 101, 110, 32, 49, 59, 116, 121, 112, 101, 32, 112, 108, 97, 110, 116, 110, 32, 50, 59, 109, 97, 114, 107, 32, 49, 53, 48, 48, 32, 49, 53, 48, 54, 59, 109, 97, 114, 107, 32, 49, 53, 53, 54, 32, 49, 53, 54, 48, 59, 101, 100, 105, 116, 105, 111, 110, 32, 97, 108, 100, 117, 115, 32, 49, 53, 48, 49, 59, 101, 100, 105, 116, 105, 111, 110, 32, 112, 108, 97, 110, 116, 110, 32, 49, 53, 53, 55, 59, 99, 108, 117, 101, 32, 50, 48, 48, 32, 100, 101, 118, 105, 99, 101, 32, 52, 32, 53, 59, 99, 108, 117, 101, 32, 49, 56, 48, 32, 109, 97, 114, 107, 32, 48, 32, 51, 59, 99, 108, 117, 101, 32, 49, 56, 48, 32, 121, 101, 97, 114, 32, 49, 53, 48, 52, 32, 50, 59, 99, 108, 117, 101, 32, 57, 48, 32, 99, 105, 116, 121, 32, 51, 32, 52, 59, 99, 108, 117, 101, 32, 52, 48, 32, 116, 121, 112, 101, 32, 50, 32, 54, 59, 99, 108, 117, 101, 32, 49, 50, 32, 109, 97, 114, 107, 32, 49, 32, 55, 59]
def dtx : Nat → Int := fun i => dtL.getD i 0
set_option maxRecDepth 20000 in
theorem dt_run {X : Nat → zTr} {M : Nat} (h : cTr dtx 347 X M) (hm : ¬ ((X M).2.1.2.1 = 0 ∧ ¬ xK dtx 347 (X M).2.1.1 = 0)) : (cFin dtx 347 X M).2.1 = 0 ∧ (X M).2.2 1 0 = 3 := by
  have go : ∀ (i pos : Nat), i ≤ M → (X i).2.1 = (pos, 0, -1) → dK dtx 347 pos ≠ 0 → i + 1 ≤ M ∧ stp dtx 347 (X i) (X (i + 1)) := fun i pos hi e1 e2 => by
    have hlt : i < M := by
      rcases Nat.lt_or_ge i M with q | q
      · exact q
      · have : i = M := by omega
        subst this
        exact absurd ⟨by rw [e1], by rw [e1, xK_d]; exact e2⟩ hm
    exact ⟨hlt, h.1 i hlt⟩
  have s0 : dI (X 0) 0 0 [] 0 0 0 := ⟨h.2.2.1, h.2.2.2.1, ⟨h.2.2.2.2.1, fun p hp => absurd hp (Nat.not_lt_zero _)⟩, h.2.2.2.2.2.1, h.2.2.2.2.2.2.1, h.2.2.2.2.2.2.2⟩
  have g0 := go 0 0 (Nat.zero_le _) s0.2.1 (by decide +kernel)
  have s1 : dI (X 1) 0 26 [1446579] 0 0 0 := dstep dtx 347 (k := 0) (pos' := 26) (nm' := [1446579]) g0.2 s0 (by decide +kernel) (by decide) (by decide) (by decide) (by decide +kernel) (by decide +kernel) (by decide)
  have g1 := go 1 26 g0.1 s1.2.1 (by decide +kernel)
  have s2 : dI (X 2) 0 53 [1446579, 188359854] 0 0 0 := dstep dtx 347 (k := 0) (pos' := 53) (nm' := [1446579, 188359854]) g1.2 s1 (by decide +kernel) (by decide) (by decide) (by decide) (by decide +kernel) (by decide +kernel) (by decide)
  have g2 := go 2 53 g1.1 s2.2.1 (by decide +kernel)
  have s3 : dI (X 3) 0 80 [1446579, 188359854, 549501582] 0 0 0 := dstep dtx 347 (k := 0) (pos' := 80) (nm' := [1446579, 188359854, 549501582]) g2.2 s2 (by decide +kernel) (by decide) (by decide) (by decide) (by decide +kernel) (by decide +kernel) (by decide)
  have g3 := go 3 80 g2.1 s3.2.1 (by decide +kernel)
  have s4 : dI (X 4) 1 95 [1446579, 188359854, 549501582] 0 0 0 := dstep dtx 347 (k := 1) (pos' := 95) (nm' := [1446579, 188359854, 549501582]) g3.2 s3 (by decide +kernel) (by decide) (by decide) (by decide) (by decide +kernel) (by decide +kernel) (by decide)
  have g4 := go 4 95 g3.1 s4.2.1 (by decide +kernel)
  have s5 : dI (X 5) 1 111 [1446579, 188359854, 549501582] 0 0 0 := dstep dtx 347 (k := 1) (pos' := 111) (nm' := [1446579, 188359854, 549501582]) g4.2 s4 (by decide +kernel) (by decide) (by decide) (by decide) (by decide +kernel) (by decide +kernel) (by decide)
  have g5 := go 5 111 g4.1 s5.2.1 (by decide +kernel)
  have s6 : dI (X 6) 1 127 [1446579, 188359854, 549501582] 0 0 0 := dstep dtx 347 (k := 1) (pos' := 127) (nm' := [1446579, 188359854, 549501582]) g5.2 s5 (by decide +kernel) (by decide) (by decide) (by decide) (by decide +kernel) (by decide +kernel) (by decide)
  have g6 := go 6 127 g5.1 s6.2.1 (by decide +kernel)
  have s7 : dI (X 7) 2 140 [1446579, 188359854, 549501582] 0 0 0 := dstep dtx 347 (k := 2) (pos' := 140) (nm' := [1446579, 188359854, 549501582]) g6.2 s6 (by decide +kernel) (by decide) (by decide) (by decide) (by decide +kernel) (by decide +kernel) (by decide)
  have g7 := go 7 140 g6.1 s7.2.1 (by decide +kernel)
  have s8 : dI (X 8) 2 154 [1446579, 188359854, 549501582] 0 0 0 := dstep dtx 347 (k := 2) (pos' := 154) (nm' := [1446579, 188359854, 549501582]) g7.2 s7 (by decide +kernel) (by decide) (by decide) (by decide) (by decide +kernel) (by decide +kernel) (by decide)
  have g8 := go 8 154 g7.1 s8.2.1 (by decide +kernel)
  have s9 : dI (X 9) 2 168 [1446579, 188359854, 549501582] 0 0 0 := dstep dtx 347 (k := 2) (pos' := 168) (nm' := [1446579, 188359854, 549501582]) g8.2 s8 (by decide +kernel) (by decide) (by decide) (by decide) (by decide +kernel) (by decide +kernel) (by decide)
  have g9 := go 9 168 g8.1 s9.2.1 (by decide +kernel)
  have s10 : dI (X 10) 3 183 [1446579, 188359854, 549501582] 1 0 0 := dstep dtx 347 (k := 3) (pos' := 183) (nm' := [1446579, 188359854, 549501582]) g9.2 s9 (by decide +kernel) (by decide) (by decide) (by decide) (by decide +kernel) (by decide +kernel) (by decide)
  have g10 := go 10 183 g9.1 s10.2.1 (by decide +kernel)
  have s11 : dI (X 11) 3 198 [1446579, 188359854, 549501582] 2 0 0 := dstep dtx 347 (k := 3) (pos' := 198) (nm' := [1446579, 188359854, 549501582]) g10.2 s10 (by decide +kernel) (by decide) (by decide) (by decide) (by decide +kernel) (by decide +kernel) (by decide)
  have g11 := go 11 198 g10.1 s11.2.1 (by decide +kernel)
  have s12 : dI (X 12) 4 217 [1446579, 188359854, 549501582] 2 1 0 := dstep dtx 347 (k := 4) (pos' := 217) (nm' := [1446579, 188359854, 549501582]) g11.2 s11 (by decide +kernel) (by decide) (by decide) (by decide) (by decide +kernel) (by decide +kernel) (by decide)
  have g12 := go 12 217 g11.1 s12.2.1 (by decide +kernel)
  have s13 : dI (X 13) 4 237 [1446579, 188359854, 549501582] 2 2 0 := dstep dtx 347 (k := 4) (pos' := 237) (nm' := [1446579, 188359854, 549501582]) g12.2 s12 (by decide +kernel) (by decide) (by decide) (by decide) (by decide +kernel) (by decide +kernel) (by decide)
  have g13 := go 13 237 g12.1 s13.2.1 (by decide +kernel)
  have s14 : dI (X 14) 5 257 [1446579, 188359854, 549501582] 2 2 1 := dstep dtx 347 (k := 5) (pos' := 257) (nm' := [1446579, 188359854, 549501582]) g13.2 s13 (by decide +kernel) (by decide) (by decide) (by decide) (by decide +kernel) (by decide +kernel) (by decide)
  have g14 := go 14 257 g13.1 s14.2.1 (by decide +kernel)
  have s15 : dI (X 15) 5 275 [1446579, 188359854, 549501582] 2 2 2 := dstep dtx 347 (k := 5) (pos' := 275) (nm' := [1446579, 188359854, 549501582]) g14.2 s14 (by decide +kernel) (by decide) (by decide) (by decide) (by decide +kernel) (by decide +kernel) (by decide)
  have g15 := go 15 275 g14.1 s15.2.1 (by decide +kernel)
  have s16 : dI (X 16) 5 296 [1446579, 188359854, 549501582] 2 2 3 := dstep dtx 347 (k := 5) (pos' := 296) (nm' := [1446579, 188359854, 549501582]) g15.2 s15 (by decide +kernel) (by decide) (by decide) (by decide) (by decide +kernel) (by decide +kernel) (by decide)
  have g16 := go 16 296 g15.1 s16.2.1 (by decide +kernel)
  have s17 : dI (X 17) 5 313 [1446579, 188359854, 549501582] 2 2 4 := dstep dtx 347 (k := 5) (pos' := 313) (nm' := [1446579, 188359854, 549501582]) g16.2 s16 (by decide +kernel) (by decide) (by decide) (by decide) (by decide +kernel) (by decide +kernel) (by decide)
  have g17 := go 17 313 g16.1 s17.2.1 (by decide +kernel)
  have s18 : dI (X 18) 5 330 [1446579, 188359854, 549501582] 2 2 5 := dstep dtx 347 (k := 5) (pos' := 330) (nm' := [1446579, 188359854, 549501582]) g17.2 s17 (by decide +kernel) (by decide) (by decide) (by decide) (by decide +kernel) (by decide +kernel) (by decide)
  have g18 := go 18 330 g17.1 s18.2.1 (by decide +kernel)
  have s19 : dI (X 19) 5 347 [1446579, 188359854, 549501582] 2 2 6 := dstep dtx 347 (k := 5) (pos' := 347) (nm' := [1446579, 188359854, 549501582]) g18.2 s18 (by decide +kernel) (by decide) (by decide) (by decide) (by decide +kernel) (by decide +kernel) (by decide)
  have hM : M = 19 := by
    rcases Nat.lt_or_ge 19 M with q | q
    · have := (h.1 19 q).2.1
      rw [s19.2.1, xK_d] at this
      exact absurd (by decide +kernel) this
    · have := g18.1
      omega
  subst hM
  have e3 : (X 19).2.2 1 0 = 3 := s19.2.2.1.1
  refine ⟨?_, e3⟩
  unfold cFin
  rw [if_neg (by rw [e3]; decide), s19.2.1]
theorem dt_s : dtL = sbn 0 80 ++ sbn 1 47 ++ sbn 2 41 ++ sbn 3 30 ++ sbn 4 39 ++ sbn 5 59 ++ sbn 6 51 := by decide +kernel
theorem dt_b : ∀ x ∈ dtL, 0 ≤ x ∧ x < 128 := by decide +kernel
theorem dt_l : dtL.length = 347 := by decide +kernel
theorem dt_x (i : Nat) : zb8 (dtL.getD i 0) = dtx i := by
  unfold dtx
  have h : 0 ≤ dtL.getD i 0 ∧ dtL.getD i 0 < 128 := by
    rw [List.getD_eq_getElem?_getD]
    cases hq : dtL[i]? with
    | none => exact ⟨by decide, by decide⟩
    | some x => exact dt_b x (List.mem_of_getElem? hq)
  rw [zb8_v (by omega), if_pos h.2]
