/-! ===== the logic: cells by number, ints as Int ===== -/
theorem zg_mem {x : Cond} {i : Nat} (h : tables_1[i]? = some x) (g : goodWord x = true) : x ∈ lw_tbl.filter goodWord := List.mem_filter.mpr ⟨List.mem_append_right _ (List.mem_of_getElem? h), g⟩
def zgood : List Cond := lw_tbl.filter goodWord
abbrev zV : Type := Int ⊕ ((Nat × Nat) ⊕ Value)
abbrev zS : Type := (Nat → Nat → Int) × Int
abbrev zW : Type := Nat × va_G × (Nat → ClassId) × (Nat → Nat) × (Nat → Nat) × (Nat × Nat × (Nat → Int32)) × Nat × Nat × (Nat × Nat × Nat × (Nat → Int32) × Nat × Nat)
abbrev zM : Type := MethodName × ByteArray × Nat × Option FieldType × List (Nat × Nat × Nat × Nat)
abbrev zMo : Type := Room × (List Frame → Array Value → State → State → Prop) × Nat × Nat
abbrev zi (a : Int) : zV := .inl a
abbrev zf (t k : Nat) : zV := .inr (.inl (t, k))
abbrev zl (a : Int) : zV := .inr (.inr (.long (Int64.ofInt a)))
abbrev zd (x : UInt64) : zV := .inr (.inr (.double x))
abbrev zu : zV := .inr (.inr .null)
def zr (a : Int) : Prop := -2147483648 ≤ a ∧ a ≤ 2147483647
abbrev zB (w : zW) : Nat := w.1
abbrev zD (w : zW) : va_G := w.2.1
abbrev zA (w : zW) : Nat → ClassId := w.2.2.1
abbrev zT (w : zW) : Nat → Nat := w.2.2.2.1
abbrev zTV (w : zW) : Nat → Nat := w.2.2.2.2.1
abbrev zSb (w : zW) : Nat := w.2.2.2.2.2.1.1
abbrev zSL (w : zW) : Nat := w.2.2.2.2.2.1.2.1
abbrev zSx (w : zW) : Nat → Int32 := w.2.2.2.2.2.1.2.2
abbrev zN (w : zW) : Nat := w.2.2.2.2.2.2.1
abbrev zU (w : zW) : Nat := w.2.2.2.2.2.2.2.1
abbrev zDL (w : zW) : Nat := w.2.2.2.2.2.2.2.2.1
abbrev zDK (w : zW) : Nat := w.2.2.2.2.2.2.2.2.2.1
abbrev zDV (w : zW) : Nat := w.2.2.2.2.2.2.2.2.2.2.1
abbrev zDb (w : zW) : Nat → Int32 := w.2.2.2.2.2.2.2.2.2.2.2.1
abbrev zI1 (w : zW) : Nat := w.2.2.2.2.2.2.2.2.2.2.2.2.1
abbrev zI2 (w : zW) : Nat := w.2.2.2.2.2.2.2.2.2.2.2.2.2

def zshL : List Nat := [9, 6, 20, 4, 1, 0, 21, 21, 21, 21, 21, 21, 21, 21, 22, 22, 2, 23, 23, 23, 23, 24, 24, 23, 3, 25, 25, 25, 25, 25, 1, 0, 21, 21, 21, 21, 21, 21, 21, 21, 22, 22, 2, 23, 23, 23, 23, 24, 24, 23, 1, 0, 21, 21, 21, 21, 21, 21, 21, 21, 22, 22, 2, 23, 23, 23, 23, 24, 24, 23, 5, 26, 1, 0, 21, 21, 21, 21, 21, 21, 21, 21, 22, 22, 2, 23, 23, 23, 23, 24, 24, 23, 1, 0, 21, 21, 21, 21, 21, 21, 21, 21, 22, 22, 2, 23, 23, 23, 23, 24, 24, 23, 1, 0, 21, 21, 21, 21, 21, 21, 21, 21, 22, 22, 2, 23, 23, 23, 23, 24, 24, 23, 1, 0, 21, 21, 21, 21, 21, 21, 21, 21, 22, 22, 2, 23, 23, 23, 23, 24, 24, 23, 1, 0, 21, 21, 21, 21, 21, 21, 21, 21, 22, 22, 2, 23, 23, 23, 23, 24, 24, 23, 1, 0, 21, 21, 21, 21, 21, 21, 21, 21, 22, 22, 2, 23, 23, 23, 23, 24, 24, 23, 1, 0, 21, 21, 21, 21, 21, 21, 21, 21, 22, 22, 2, 23, 23, 23, 23, 24, 24, 23, 1, 0, 21, 21, 21, 21, 21, 21, 21, 21, 22, 22, 2, 23, 23, 23, 23, 24, 24, 23, 1, 0, 21, 21, 21, 21, 21, 21, 21, 21, 22, 22, 2, 23, 23, 23, 23, 24, 24, 23, 7, 24, 27, 21, 21, 21, 21, 8, 28]
def zsh (k : Nat) : Nat := zshL.getD k 200
def zfkL : List (List (Option (Nat × Nat))) := [[none, some (21, 1), some (21, 2), some (21, 3), some (21, 4), some (21, 5), some (21, 6), none, some (21, 7), some (21, 8), none, some (22, 9), some (22, 10)], [some (0, 1), some (2, 12)], [none, some (23, 1), some (23, 2), some (23, 3), some (23, 4), some (24, 5), some (24, 6), some (23, 7)], [none, some (25, 1), some (25, 2), some (25, 3), some (25, 4), some (25, 5)], [some (1, 1)], [some (26, 1), none, none], [some (20, 1), none, none, none, none, none, none], [some (24, 1), some (27, 2), some (21, 3), some (21, 4), some (21, 5), none, some (21, 6)], [some (28, 1), none], [some (6, 1), some (4, 3), some (3, 24), some (1, 30), some (1, 50), none, some (5, 70), some (7, 252), some (8, 259)]]
def zfk (t i : Nat) : Option (Nat × Nat) := (zfkL.getD t []).getD i none
def zarL : List (Nat × Nat) := [(1, 1400), (0, 8), (0, 12), (0, 40), (2, 40), (0, 30), (4, 9), (0, 551), (1, 131)]
def zar (t : Nat) : Nat × Nat := zarL.getD (t - 20) (9, 0)
def znf (t : Nat) : Nat := ((vwCl[t]?).map (fun q => q.2.2)).getD 0
def zad (w : zW) (t k : Nat) : Nat := if t = 100 then zT w k else if t = 102 then zTV w k else if t = 101 then zSb w else if t = 104 then zDK w else if t = 105 then zDV w else if t = 106 then zI1 w else if t = 107 then zI2 w else zB w + k
def zc (w : zW) : zV → Value
  | .inl a => .int (Int32.ofInt a)
  | .inr (.inl (t, k)) => .ref (zad w t k)
  | .inr (.inr v) => v
def zNS : Nat := 32
def zok (w : zW) : zV → Prop
  | .inl _ => True
  | .inr (.inl (t, k)) => ((t = 100 ∨ t = 102) ∧ k < zNS) ∨ (t = 101 ∨ t = 104 ∨ t = 105 ∨ t = 106 ∨ t = 107) ∨ (t < 100 ∧ k < zN w ∧ zsh k = t)
  | .inr (.inr _) => True
def zlive : zV → Bool
  | .inr (.inr .null) => false
  | _ => true
def zcat : zV → Nat
  | .inr (.inr v) => v.category
  | _ => 1
theorem zcat_c (w : zW) (v : zV) : (zc w v).category = zcat v := by
  rcases v with a | ⟨t, k⟩ | v <;> rfl
def zfv (w : zW) (σ : zS) (t k i : Nat) : Value := match zfk t i with
  | none => .int (Int32.ofInt (σ.1 k i))
  | some (_, o) => .ref (zB w + (k + o))
def zfs (w : zW) (σ : zS) (t k : Nat) : List Value := (List.range (znf t)).map (zfv w σ t k)
def zent (w : zW) (σ : zS) (k : Nat) : va_E :=
  if zsh k < 20 then .inr (zsh k, zfs w σ (zsh k) k)
  else if (zar (zsh k)).1 = 3 then .inl (zA w 3, (zar (zsh k)).2, .inr (.inl fun j => if j = 0 then Int64.ofInt σ.2 else 0))
  else if (zar (zsh k)).1 = 4 then .inl (zA w 4, (zar (zsh k)).2, .inr (.inr (.inr (.inr (fun i => some (zB w + (k + 1 + 20 * i)))))))
  else .inl (zA w (zar (zsh k)).1, (zar (zsh k)).2, .inl (fun i => Int32.ofInt (σ.1 k i)))
def zws (w : zW) (σ : zS) : va_W := (List.range (zN w)).map (fun k => (zB w + k, zent w σ k))
def ztys (w : zW) : List (ClassId × FieldType) := [(zA w 0, .int), (zA w 1, .byte), (zA w 2, .boolean), (zA w 3, .int), (zA w 4, .object "ColophonDetective$Casebook")]
def zRep (w : zW) (σ : zS) (H : Heap) : Prop := va_P (zD w) vwCl (zws w σ) H
def zAd (w : zW) : Nat → Prop := fun q => zB w ≤ q ∧ (zU w = 0 ∨ q < zB w + 261)
theorem zws_at {w : zW} {σ : zS} {k : Nat} (h : k < zN w) : (zws w σ)[k]? = some (zB w + k, zent w σ k) := by
  simp [zws, List.getElem?_map, List.getElem?_range h]
/-- one cell changed -/
theorem zws_set {w : zW} {σ τ : zS} {k : Nat} {e : va_E} (h : k < zN w) (ho : ∀ j, j ≠ k → zent w τ j = zent w σ j) (he : zent w τ k = e) : (zws w σ).set k (zB w + k, e) = zws w τ := by
  apply List.ext_getElem?
  intro j
  by_cases hj : j = k
  · subst hj
    rw [zws_at h, List.getElem?_set_self (by simpa [zws] using h), he]
  · rw [List.getElem?_set_ne (fun q => hj q.symm)]
    by_cases hn : j < zN w
    · rw [zws_at hn, zws_at hn, ho j hj]
    · have h1 : ∀ ρ : zS, (zws w ρ)[j]? = none := fun ρ => List.getElem?_eq_none (by simp [zws]; omega)
      rw [h1, h1]
def zput (σ : zS) (k i : Nat) (v : Int) : zS := (fun k' i' => if k' = k ∧ i' = i then v else σ.1 k' i', σ.2)
theorem zput_s (σ : zS) (k i : Nat) (v : Int) : (zput σ k i v).1 k i = v := by simp [zput]
theorem zput_k (σ : zS) (k i : Nat) (v : Int) {k' : Nat} (i' : Nat) (h : k' ≠ k) : (zput σ k i v).1 k' i' = σ.1 k' i' := by simp [zput, h]
theorem zput_i (σ : zS) (k i : Nat) (v : Int) (k' : Nat) {i' : Nat} (h : i' ≠ i) : (zput σ k i v).1 k' i' = σ.1 k' i' := by simp [zput, h]
theorem zput_2 (σ : zS) (k i : Nat) (v : Int) : (zput σ k i v).2 = σ.2 := rfl
theorem zent_other {w : zW} {σ : zS} {k i : Nat} {v : Int} (j : Nat) (h : j ≠ k) : zent w (zput σ k i v) j = zent w σ j := by
  have e : ∀ x, (zput σ k i v).1 j x = σ.1 j x := fun x => zput_k σ k i v x h
  have e1 : zfs w (zput σ k i v) (zsh j) j = zfs w σ (zsh j) j := by
    unfold zfs
    apply List.map_congr_left
    intro x _
    unfold zfv
    rw [e]
  unfold zent
  rw [e1]
  simp only [e]
  rfl
theorem zent_obj {w : zW} {σ : zS} {t k : Nat} (h : zsh k = t) (ht : t < 20) : zent w σ k = .inr (t, zfs w σ t k) := by
  unfold zent
  rw [h, if_pos ht]
theorem zfs_at {w : zW} {σ : zS} {t k i : Nat} (h : i < znf t) : (zfs w σ t k)[i]? = some (zfv w σ t k i) := by
  simp [zfs, List.getElem?_map, List.getElem?_range h]
theorem zfs_set {w : zW} {σ : zS} {t k i : Nat} {v : Int} (h : i < znf t) (hf : zfk t i = none) : (zfs w σ t k).set i (.int (Int32.ofInt v)) = zfs w (zput σ k i v) t k := by
  apply List.ext_getElem?
  intro j
  by_cases hj : j = i
  · subst hj
    rw [zfs_at h, List.getElem?_set_self (by simpa [zfs] using h)]
    unfold zfv
    rw [hf]
    simp [zput]
  · rw [List.getElem?_set_ne (fun q => hj q.symm)]
    by_cases hn : j < znf t
    · rw [zfs_at hn, zfs_at hn]
      unfold zfv
      rw [zput_i σ k i v k hj]
    · have h1 : ∀ ρ : zS, (zfs w ρ t k)[j]? = none := fun ρ => List.getElem?_eq_none (by simp [zfs]; omega)
      rw [h1, h1]
theorem zent_arr {w : zW} {σ : zS} {t k q n : Nat} (h : zsh k = t) (ht : ¬ t < 20) (ha : zar t = (q, n)) (h3 : q ≠ 3) (h4 : q ≠ 4) : zent w σ k = .inl (zA w q, n, .inl (fun i => Int32.ofInt (σ.1 k i))) := by
  unfold zent
  rw [h, if_neg ht, ha, if_neg h3, if_neg h4]
theorem zent_arrL {w : zW} {σ : zS} {t k n : Nat} (h : zsh k = t) (ht : ¬ t < 20) (ha : zar t = (3, n)) : zent w σ k = .inl (zA w 3, n, .inr (.inl fun j => if j = 0 then Int64.ofInt σ.2 else 0)) := by
  unfold zent
  rw [h, if_neg ht, ha, if_pos rfl]
theorem zent_arrQ {w : zW} {σ : zS} {t k n : Nat} (h : zsh k = t) (ht : ¬ t < 20) (ha : zar t = (4, n)) : zent w σ k = .inl (zA w 4, n, .inr (.inr (.inr (.inr (fun i => some (zB w + (k + 1 + 20 * i))))))) := by
  unfold zent
  rw [h, if_neg ht, ha, if_neg (by decide : ¬ (4 : Nat) = 3), if_pos rfl]
/-- the references stay within the first N cells -/
def zclb (N : Nat) : Bool := decide (N ≤ 261) && (List.range N).all fun k =>
  if zsh k < 20 then (List.range 30).all fun i => match zfk (zsh k) i with
    | none => true
    | some (t, o) => decide (k + o < N) && decide (zsh (k + o) = t) && decide (t < 100)
  else if zsh k = 26 then (List.range 9).all fun i => decide (k + 1 + 20 * i < N) && decide (zsh (k + 1 + 20 * i) = 1) else true
theorem zfk_big {t i : Nat} (h : 30 ≤ i) : zfk t i = none := by
  have hl : ∀ l ∈ zfkL, l.length ≤ 30 := by decide +kernel
  unfold zfk
  have h2 : (zfkL.getD t []).length ≤ 30 := by
    rw [List.getD_eq_getElem?_getD]
    cases hx : zfkL[t]? with
    | none => simp
    | some l => exact hl l (List.mem_of_getElem? hx)
  rw [List.getD_eq_getElem?_getD, List.getElem?_eq_none (by omega)]
  rfl
theorem zclb_a {N : Nat} (h : zclb N = true) : ((List.range N).all fun k =>
  if zsh k < 20 then (List.range 30).all fun i => match zfk (zsh k) i with
    | none => true
    | some (t, o) => decide (k + o < N) && decide (zsh (k + o) = t) && decide (t < 100)
  else if zsh k = 26 then (List.range 9).all fun i => decide (k + 1 + 20 * i < N) && decide (zsh (k + 1 + 20 * i) = 1) else true) = true := by
  unfold zclb at h
  rw [Bool.and_eq_true] at h
  exact h.2
theorem zD_ok {w : zW} (hcl : zclb (zN w) = true) (σ : zS) : va_D (zAd w) (zws w σ) := by
  have key : ∀ (i : Nat) (p : Nat × va_E), (zws w σ)[i]? = some p → p.1 = zB w + i := by
    intro i p h
    have hi : i < zN w := by
      have h1 := (List.getElem?_eq_some_iff.mp h).1
      simpa [zws] using h1
    rw [zws_at hi] at h
    cases h
    rfl
  refine ⟨fun i j p q hp hq e => ?_, fun k q hq => ?_⟩
  · have h1 := key i p hp
    have h2 := key j q hq
    omega
  · have h1 := key k q hq
    have hi : k < zN w := by
      have h2 := (List.getElem?_eq_some_iff.mp hq).1
      simpa [zws] using h2
    have h9 : zN w ≤ 261 := by
      unfold zclb at hcl
      rw [Bool.and_eq_true] at hcl
      exact of_decide_eq_true hcl.1
    show zB w ≤ q.1 ∧ (zU w = 0 ∨ q.1 < zB w + 261)
    omega
theorem zcl_f {N k t t' i o : Nat} (h : zclb N = true) (hk : k < N) (hs : zsh k = t) (ht : t < 20) (hf : zfk t i = some (t', o)) : t' < 100 ∧ k + o < N ∧ zsh (k + o) = t' := by
  have h1 := List.all_eq_true.mp (zclb_a h) k (List.mem_range.mpr hk)
  rw [hs, if_pos ht] at h1
  by_cases hi : i < 30
  · have h2 := List.all_eq_true.mp h1 i (List.mem_range.mpr hi)
    rw [hf] at h2
    simp only [Bool.and_eq_true, decide_eq_true_eq] at h2
    exact ⟨h2.2, h2.1.1, h2.1.2⟩
  · rw [zfk_big (by omega)] at hf
    cases hf
theorem zcl_q {N k i : Nat} (h : zclb N = true) (hk : k < N) (hs : zsh k = 26) (hi : i < 9) : k + 1 + 20 * i < N ∧ zsh (k + 1 + 20 * i) = 1 := by
  have h1 := List.all_eq_true.mp (zclb_a h) k (List.mem_range.mpr hk)
  rw [hs, if_neg (by decide), if_pos rfl] at h1
  have h2 := List.all_eq_true.mp h1 i (List.mem_range.mpr hi)
  simpa only [Bool.and_eq_true, decide_eq_true_eq] using h2

def zstrs : List (String × Nat × String × Nat) := [("ColophonDetective", 65, "printer aldus 1 1494 1515;printer estien 2 1502 1559;printer plantn 3 1555 1589;", 0), ("ColophonDetective", 71, "device aldus 4;device estien 7;device plantn 4;", 1), ("ColophonDetective", 73, "type aldus 1;type estien 1;type plantn 2;", 2), ("ColophonDetective", 75, "mark 1500 1506;mark 1556 1560;", 3), ("ColophonDetective", 77, "edition aldus 1501;edition plantn 1557;", 4), ("ColophonDetective", 79, "clue 200 device 4 5;clue 180 mark 0 3;clue 180 year 1504 2;", 5), ("ColophonDetective", 81, "clue 90 city 3 4;clue 40 type 2 6;clue 12 mark 1 7;", 6), ("ColophonDetective$ConfigurationReader", 66, "printer", 7), ("ColophonDetective$ConfigurationReader", 72, "device", 8), ("ColophonDetective$ConfigurationReader", 74, "type", 9), ("ColophonDetective$ConfigurationReader", 76, "mark", 10), ("ColophonDetective$ConfigurationReader", 78, "edition", 11), ("ColophonDetective$ConfigurationReader", 80, "clue", 12), ("ColophonDetective$InputText", 65, "device", 8), ("ColophonDetective$InputText", 71, "type", 9), ("ColophonDetective$InputText", 73, "mark", 10), ("ColophonDetective$InputText", 75, "city", 13), ("ColophonDetective$InputText", 77, "year", 14), ("ColophonDetective", 327, "there is no saved state", 15), ("ColophonDetective", 104, "the input buffer is full", 16), ("ColophonDetective", 117, "no such length", 17), ("ColophonDetective", 120, "the configuration has an error", 18), ("ColophonDetective", 371, "there is no such printer or clue", 19), ("ColophonDetective", 374, "an argument is out of range", 20), ("ColophonDetective", 376, "the operation is not possible now", 21), ("ColophonDetective", 386, "there is no such clue", 22), ("ColophonDetective", 322, "there is no operation to undo", 23), ("ColophonDetective", 381, "there is no such printer", 24), ("ColophonDetective", 391, "the year is out of range", 25), ("ColophonDetective", 393, "the count is out of range", 26), ("java/util/Arrays", 337, " > ", 27), ("ColophonDetectiveLaw", 248, "printer p", 28), ("ColophonDetectiveLaw", 259, "device p", 29), ("ColophonDetectiveLaw", 261, "type p", 30), ("ColophonDetectiveLaw", 263, "mark ", 31)]
def zslen : List Nat := [80, 47, 41, 30, 39, 59, 51, 7, 6, 4, 4, 7, 4, 4, 4, 23, 24, 14, 30, 32, 27, 33, 21, 29, 24, 24, 25, 3, 9, 8, 6, 5]
def zsbyt : List (List Int32) := [[112, 114, 105, 110, 116, 101, 114, 32, 97, 108, 100, 117, 115, 32, 49, 32, 49, 52, 57, 52, 32, 49, 53, 49, 53, 59, 112, 114, 105, 110, 116, 101, 114, 32, 101, 115, 116, 105, 101, 110, 32, 50, 32, 49, 53, 48, 50, 32, 49, 53, 53, 57, 59, 112, 114, 105, 110, 116, 101, 114, 32, 112, 108, 97, 110, 116, 110, 32, 51, 32, 49, 53, 53, 53, 32, 49, 53, 56, 57, 59], [100, 101, 118, 105, 99, 101, 32, 97, 108, 100, 117, 115, 32, 52, 59, 100, 101, 118, 105, 99, 101, 32, 101, 115, 116, 105, 101, 110, 32, 55, 59, 100, 101, 118, 105, 99, 101, 32, 112, 108, 97, 110, 116, 110, 32, 52, 59], [116, 121, 112, 101, 32, 97, 108, 100, 117, 115, 32, 49, 59, 116, 121, 112, 101, 32, 101, 115, 116, 105, 101, 110, 32, 49, 59, 116, 121, 112, 101, 32, 112, 108, 97, 110, 116, 110, 32, 50, 59], [109, 97, 114, 107, 32, 49, 53, 48, 48, 32, 49, 53, 48, 54, 59, 109, 97, 114, 107, 32, 49, 53, 53, 54, 32, 49, 53, 54, 48, 59], [101, 100, 105, 116, 105, 111, 110, 32, 97, 108, 100, 117, 115, 32, 49, 53, 48, 49, 59, 101, 100, 105, 116, 105, 111, 110, 32, 112, 108, 97, 110, 116, 110, 32, 49, 53, 53, 55, 59], [99, 108, 117, 101, 32, 50, 48, 48, 32, 100, 101, 118, 105, 99, 101, 32, 52, 32, 53, 59, 99, 108, 117, 101, 32, 49, 56, 48, 32, 109, 97, 114, 107, 32, 48, 32, 51, 59, 99, 108, 117, 101, 32, 49, 56, 48, 32, 121, 101, 97, 114, 32, 49, 53, 48, 52, 32, 50, 59], [99, 108, 117, 101, 32, 57, 48, 32, 99, 105, 116, 121, 32, 51, 32, 52, 59, 99, 108, 117, 101, 32, 52, 48, 32, 116, 121, 112, 101, 32, 50, 32, 54, 59, 99, 108, 117, 101, 32, 49, 50, 32, 109, 97, 114, 107, 32, 49, 32, 55, 59], [112, 114, 105, 110, 116, 101, 114], [100, 101, 118, 105, 99, 101], [116, 121, 112, 101], [109, 97, 114, 107], [101, 100, 105, 116, 105, 111, 110], [99, 108, 117, 101], [99, 105, 116, 121], [121, 101, 97, 114], [116, 104, 101, 114, 101, 32, 105, 115, 32, 110, 111, 32, 115, 97, 118, 101, 100, 32, 115, 116, 97, 116, 101], [116, 104, 101, 32, 105, 110, 112, 117, 116, 32, 98, 117, 102, 102, 101, 114, 32, 105, 115, 32, 102, 117, 108, 108], [110, 111, 32, 115, 117, 99, 104, 32, 108, 101, 110, 103, 116, 104], [116, 104, 101, 32, 99, 111, 110, 102, 105, 103, 117, 114, 97, 116, 105, 111, 110, 32, 104, 97, 115, 32, 97, 110, 32, 101, 114, 114, 111, 114], [116, 104, 101, 114, 101, 32, 105, 115, 32, 110, 111, 32, 115, 117, 99, 104, 32, 112, 114, 105, 110, 116, 101, 114, 32, 111, 114, 32, 99, 108, 117, 101], [97, 110, 32, 97, 114, 103, 117, 109, 101, 110, 116, 32, 105, 115, 32, 111, 117, 116, 32, 111, 102, 32, 114, 97, 110, 103, 101], [116, 104, 101, 32, 111, 112, 101, 114, 97, 116, 105, 111, 110, 32, 105, 115, 32, 110, 111, 116, 32, 112, 111, 115, 115, 105, 98, 108, 101, 32, 110, 111, 119], [116, 104, 101, 114, 101, 32, 105, 115, 32, 110, 111, 32, 115, 117, 99, 104, 32, 99, 108, 117, 101], [116, 104, 101, 114, 101, 32, 105, 115, 32, 110, 111, 32, 111, 112, 101, 114, 97, 116, 105, 111, 110, 32, 116, 111, 32, 117, 110, 100, 111], [116, 104, 101, 114, 101, 32, 105, 115, 32, 110, 111, 32, 115, 117, 99, 104, 32, 112, 114, 105, 110, 116, 101, 114], [116, 104, 101, 32, 121, 101, 97, 114, 32, 105, 115, 32, 111, 117, 116, 32, 111, 102, 32, 114, 97, 110, 103, 101], [116, 104, 101, 32, 99, 111, 117, 110, 116, 32, 105, 115, 32, 111, 117, 116, 32, 111, 102, 32, 114, 97, 110, 103, 101], [32, 62, 32], [112, 114, 105, 110, 116, 101, 114, 32, 112], [100, 101, 118, 105, 99, 101, 32, 112], [116, 121, 112, 101, 32, 112], [109, 97, 114, 107, 32]]
def znest : List (String × Nat × MethodName × String) := [("ColophonDetective", 11, ⟨"ColophonDetective$InputText", "<init>", "()V"⟩, "ColophonDetective"), ("ColophonDetective", 18, ⟨"ColophonDetective$ConfigurationReader", "<init>", "()V"⟩, "ColophonDetective"), ("ColophonDetective$ConfigurationReader", 11, ⟨"ColophonDetective$Casebook", "<init>", "()V"⟩, "ColophonDetective"), ("ColophonDetective$Casebook", 11, ⟨"ColophonDetective$Archive", "<init>", "()V"⟩, "ColophonDetective"), ("ColophonDetective$Casebook", 20, ⟨"ColophonDetective$Clues", "<init>", "()V"⟩, "ColophonDetective"), ("ColophonDetective", 25, ⟨"ColophonDetective$CommandList", "<init>", "()V"⟩, "ColophonDetective"), ("ColophonDetective", 32, ⟨"ColophonDetective$Casebook", "<init>", "()V"⟩, "ColophonDetective"), ("ColophonDetective$History", 24, ⟨"ColophonDetective$Casebook", "<init>", "()V"⟩, "ColophonDetective"), ("ColophonDetective", 53, ⟨"ColophonDetective$Judge", "<init>", "()V"⟩, "ColophonDetective"), ("ColophonDetective", 60, ⟨"ColophonDetective$OutputText", "<init>", "()V"⟩, "ColophonDetective"), ("ColophonDetective$ConfigurationReader", 44, ⟨"ColophonDetective", "isWithin", "(III)Z"⟩, "ColophonDetective"), ("ColophonDetective$InputText", 61, ⟨"ColophonDetective", "isWithin", "(III)Z"⟩, "ColophonDetective"), ("ColophonDetective$Archive", 62, ⟨"ColophonDetective", "isWithin", "(III)Z"⟩, "ColophonDetective"), ("ColophonDetective$Casebook", 39, ⟨"ColophonDetective", "isWithin", "(III)Z"⟩, "ColophonDetective"), ("ColophonDetective$Judge", 133, ⟨"ColophonDetective", "isWithin", "(III)Z"⟩, "ColophonDetective")]
/-! the surroundings of every method: the tables, the statics, the strings, the script; which thrown classes catch which -/
def zexs : List String := ["java/lang/IllegalStateException", "java/lang/IllegalArgumentException", "java/lang/IndexOutOfBoundsException"]
def zface : List Cond := lw_tbl.filter (fun x => x.onTables && x.keepsFace)
theorem zface_warm {x : Cond} {s U : State} (hx : x ∈ zface) (hW : s.WarmedH U.vm) (h : x.before #[] s = true) : x.before #[] U = true := by
  have h1 := (List.mem_filter.mp hx).2
  simp only [Bool.and_eq_true] at h1
  have h2 : x.before #[] (s.setVm U.vm) = true := Cond.before_shiftedFace (State.Shifted.of_warmed hW) x h1.2 h
  rw [Cond.onTables_vm (A' := #[]) (U' := U) U.vm x h1.1] at h2
  rwa [State.setVm_self] at h2
theorem zface_same {x : Cond} {U V : State} {a : Array Value} (hx : x ∈ zface) (hv : V.vm = U.vm) (h : x.before #[] U = true) : x.before a V = true := by
  have h1 := (List.mem_filter.mp hx).2
  simp only [Bool.and_eq_true] at h1
  exact va_tabs h1.1 hv.symm h
/-- the text that the law made -/
def zDy (w : zW) (s : State) (H : Heap) : Prop := zDL w = 0 ∨ (va_O "java/lang/String" (zDK w) (zAd w) s H ∧ va_OF "java/lang/String" "coder" "B" (.int 0) (zDK w) (zAd w) s H ∧ va_OF "java/lang/String" "value" "[B" (.ref (zDV w)) (zDK w) (zAd w) s H ∧ va_T .byte (zDV w) (zDL w) (fun j => .int (zDb w j)) (zAd w) s H)
theorem zDy.moved {w : zW} {u U : State} {H : Heap} (ha : u.vm.Alike U.vm) (h : zDy w u H) : zDy w U H := h.imp id fun q => ⟨va_O.moved ha q.1, va_OF.moved ha q.2.1, va_OF.moved ha q.2.2.1, va_T.moved ha q.2.2.2⟩
theorem zDy.kept {w : zW} {U : State} {H H1 : Heap} (h : zDy w U H) (hq : ∀ a : Nat, a < H.size → ¬ zAd w a → H1[a]? = H[a]?) : zDy w U H1 := h.imp id fun q => ⟨q.1.kept hq, q.2.1.kept hq, q.2.2.1.kept hq, q.2.2.2.kept hq⟩
def zEnv (w : zW) (s : State) : Prop :=
  zDy w s s.heap ∧ zclb (zN w) = true ∧ va_K (zD w) vwCl (ztys w) s ∧
  vx_Zq Bundle.tN "UNASSIGNED_STACK" Bundle.steD (zAd w) s s.heap ∧ vx_Zq Bundle.tN "SUPPRESSED_SENTINEL" Bundle.listD (zAd w) s s.heap ∧
  va_Z "java/lang/String" "COMPACT_STRINGS" "Z" (.int 1) (zAd w) s s.heap ∧
  (∀ q ∈ zstrs, vk_R q.1 q.2.1 q.2.2.1 (zT w q.2.2.2) s) ∧
  vk_S zNS zslen zsbyt (zT w) (zTV w) (zAd w) s s.heap ∧
  (∀ q ∈ znest, va_Nw (.methodLinkNest q.1 q.2.1 q.2.2.1 q.2.2.2) s) ∧
  va_X (zSb w) (zSL w) (zSx w) s s.heap ∧ zSb w < zB w ∧ va_Zq "jdk/internal/util/Preconditions" "SIOOBE_FORMATTER" "Ljava/util/function/BiFunction;" (zAd w) s s.heap ∧
  (∀ x ∈ zface, x.before #[] s = true) ∧ ∀ E ∈ zexs, ∀ T ∈ zexs, E ≠ T → va_Nc E T s
theorem zEnv_go {w : zW} {s U : State} {H : Heap} {locs : List Loc} (h : zEnv w s) (hW : s.WarmedH U.vm) (hS : va_S (zAd w) s.heap H locs) (hU : U.heap = H) : zEnv w U := by
  obtain ⟨h1, h2, h3, h4, h5, h6, h7, h8, h9, h10, h11, h12, h13, h14⟩ := h
  subst hU
  refine ⟨zDy.moved hW.alike (h1.kept hS.2.1), h2, va_K.moved hW.alike h3, vx_Zq.moved hW.alike (h4.kept hS.2.1), vx_Zq.moved hW.alike (h5.kept hS.2.1), va_Z.moved hW.alike (h6.kept hS.2.1), fun q hq => vk_R.warm hW (h7 q hq), vk_S.moved hW.alike (h8.kept hS.2.1), fun q hq => va_Nw.warmM hW (h9 q hq), va_X.moved hW.alike (h10.kept (hS.2.1 _ (Array.getElem?_eq_some_iff.mp h10.choose_spec.1).1 (fun q => by have := q.1; omega))), h11, va_Zq.moved hW.alike (h12.kept hS.2.1), fun x hx => zface_warm hx hW (h13 x hx), fun E hE T hT hn => va_Nc.moved hW.alike (h14 E hE T hT hn)⟩
theorem zEnv_same {w : zW} {U V : State} (hv : V.vm = U.vm) (hh : V.heap = U.heap) (h : zEnv w U) : zEnv w V := by
  have ha : U.vm.Alike V.vm := by rw [hv]; exact Vm.Alike.refl _
  obtain ⟨h1, h2, h3, h4, h5, h6, h7, h8, h9, h10, h11, h12, h13, h14⟩ := h
  unfold zEnv
  rw [hh]
  exact ⟨zDy.moved ha h1, h2, va_K.moved ha h3, vx_Zq.moved ha h4, vx_Zq.moved ha h5, va_Z.moved ha h6, fun q hq => vk_R.same hv (h7 q hq), vk_S.moved ha h8, fun q hq => va_Nw.same rfl hv.symm (h9 q hq), va_X.moved ha h10, h11, va_Zq.moved ha h12, fun x hx => zface_same hx hv (h13 x hx), fun E hE T hT hn => va_Nc.moved ha (h14 E hE T hT hn)⟩
def zCtx (l : Launch) (w : zW) (m : zM) (p : Program) (s : State) (mid : MethodId) (args : Array Value) (meth : Method) (c : Code) : Prop :=
  p.tables.exec = Jvm.exec ∧ c.code = m.2.1 ∧ c.maxLocals = m.2.2.1 ∧ meth.sig.returnType = m.2.2.2.1 ∧ c.exceptionTable.toList = tableOf m.2.2.2.2 ∧ s.vm.findClass m.1.cls = some mid.cls ∧ (∀ x ∈ zgood, x.before args s = true) ∧ meth.locks = false ∧ zEnv w s ∧ l.stackTraces = false
def zps (w : zW) : Nat → List zV → List (Nat × Value)
  | _, [] => []
  | i, v :: r => if zlive v = true then (i, zc w v) :: zps w (i + 1) r else zps w (i + 1) r
theorem zps_mem {w : zW} : ∀ {ls : List zV} {i : Nat} {q : Nat × Value}, q ∈ zps w i ls ↔ ∃ (j : Nat) (v : zV), ls[j]? = some v ∧ zlive v = true ∧ q = (i + j, zc w v) := by
  intro ls
  induction ls with
  | nil => intro i q; simp [zps]
  | cons v r ih =>
    intro i q
    have step : (∃ (j : Nat) (x : zV), (v :: r)[j]? = some x ∧ zlive x = true ∧ q = (i + j, zc w x)) ↔ (zlive v = true ∧ q = (i, zc w v)) ∨ ∃ (j : Nat) (x : zV), r[j]? = some x ∧ zlive x = true ∧ q = (i + 1 + j, zc w x) := by
      constructor
      · rintro ⟨j, x, h1, h2, h3⟩
        cases j with
        | zero =>
          have h1 : v = x := by simpa using h1
          subst h1
          exact Or.inl ⟨h2, h3⟩
        | succ j => exact Or.inr ⟨j, x, by simpa using h1, h2, by rw [h3]; congr 1; omega⟩
      · rintro (⟨h2, h3⟩ | ⟨j, x, h1, h2, h3⟩)
        · exact ⟨0, v, rfl, h2, h3⟩
        · exact ⟨j + 1, x, by simpa using h1, h2, by rw [h3]; congr 1; omega⟩
    rw [step]
    by_cases hv : zlive v = true
    · rw [zps, if_pos hv, List.mem_cons, ih]
      simp [hv]
    · rw [zps, if_neg hv, ih]
      simp [hv]
theorem zps_at {w : zW} {Ls : Array Slot} {n j : Nat} {ls : List zV} {v : zV} (h : lv_has Ls n (zps w 0 ls)) (hj : ls[j]? = some v) (hv : zlive v = true) : Ls[j]? = some (.val (zc w v)) := by
  have h1 : (0 + j, zc w v) ∈ zps w 0 ls := zps_mem.mpr ⟨j, v, hj, hv, rfl⟩
  have h2 := h.2.2 _ h1
  simpa using h2
def zprev (ls : List zV) : Nat → Bool
  | 0 => true
  | j + 1 => match ls[j]? with
    | some v => zcat v == 1
    | none => true
theorem zps_store {w : zW} {Ls : Array Slot} {n j : Nat} {ls : List zV} {v : zV} (hj : j < ls.length) (hp : zprev ls j = true) (h : lv_has Ls n ((j, zc w v) :: (zps w 0 ls).filter (fun q => !(q.1 == j) && !(q.1 + 1 == j && q.2.category == 2)))) : lv_has Ls n (zps w 0 (ls.set j v)) := by
  refine ⟨h.1, h.2.1, fun q hq => h.2.2 q ?_⟩
  obtain ⟨i, x, h1, h2, h3⟩ := zps_mem.mp hq
  by_cases hi : i = j
  · subst hi
    rw [List.getElem?_set_self hj] at h1
    cases h1
    rw [h3]
    simp
  · rw [List.getElem?_set_ne (fun q => hi q.symm)] at h1
    refine List.mem_cons_of_mem _ (List.mem_filter.mpr ⟨zps_mem.mpr ⟨i, x, h1, h2, h3⟩, ?_⟩)
    rw [h3]
    simp only [Nat.zero_add, zcat_c]
    cases hb : (i + 1 == j) with
    | false => simp [hi]
    | true =>
      have hb : i + 1 = j := by simpa using hb
      subst hb
      have hp : zcat x = 1 := by simpa [zprev, h1] using hp
      simp [hp]
def zX (l : Launch) (w : zW) (m : zM) (M : zMo) (pc : Nat) (ls st : List zV) (k : Nat) (σ : zS) : Prop :=
  ∀ (p : Program) (e : Env) (s : State) (mid : MethodId) (args : Array Value) (below : List Frame) (meth : Method) (c : Code), zCtx l w m p s mid args meth c →
  ∀ (H : Heap) (locs : List Loc) (Ls : Array Slot), zRep w σ H → va_S (zAd w) s.heap H locs → lv_has Ls m.2.2.1 (zps w 0 ls) → (∀ v ∈ ls, zok w v) → (∀ v ∈ st, zok w v) → M.2.2.1 + k ≤ M.1.cells → M.2.2.2 + 6 * k ≤ M.1.slots →
  W p l e M.1 s mid args below meth c H locs (M.2.2.1 + k) (M.2.2.2 + 6 * k) (M.2.1 below args s) (F0 mid pc Ls (st.map (zc w)))
def zXT (l : Launch) (w : zW) (m : zM) (M : zMo) (pc : Nat) (ls : List zV) (k : Nat) (σ : zS) (E : String) : Prop :=
  ∀ (p : Program) (e : Env) (s : State) (mid : MethodId) (args : Array Value) (below : List Frame) (meth : Method) (c : Code), zCtx l w m p s mid args meth c →
  ∀ (H : Heap) (locs : List Loc) (Ls : Array Slot) (rest : List Value) (q : Addr) (ce : Cell), zRep w σ H → va_S (zAd w) s.heap H locs → lv_has Ls m.2.2.1 (zps w 0 ls) → (∀ v ∈ ls, zok w v) → H[q]? = some ce → ce.vm = .none → s.vm.findClass E = some ce.cls → M.2.2.1 + k ≤ M.1.cells → M.2.2.2 + 6 * k ≤ M.1.slots →
  vx_W p l e M.1 s mid args below meth c H locs (M.2.2.1 + k) (M.2.2.2 + 6 * k) (M.2.1 below args s) (F0 mid pc Ls rest) q
def zroom (h n : Nat) : Room := { frames := h, cells := n, slots := 6 * n, locals := 34 * h }
def zwds (m : zM) : List Cond := .code m.1 m.2.1 m.2.2.1 m.2.2.2.1 :: zgood
def zwdsH (m : zM) : List Cond := .codeWith m.1 m.2.1 m.2.2.1 m.2.2.2.1 m.2.2.2.2 :: zgood
abbrev zQ : Type := (Option zV ⊕ String) → zS → Prop
def zPc (w : zW) (σ : zS) (as : List zV) : Array Value → State → Prop := fun v U => v = (as.map (zc w)).toArray ∧ zRep w σ U.heap ∧ zEnv w U ∧ ∀ x ∈ as, zok w x
def zQc (w : zW) (Q : zQ) : Array Value → State → Outcome → State → Prop := fun _ st o t => ∃ (r : Option zV) (τ : zS), o = .returned (r.map (zc w)) ∧ Q (.inl r) τ ∧ zRep w τ t.heap ∧ va_F (zAd w) st t ∧ ∀ x ∈ r, zok w x
def zXC (w : zW) (Q : zQ) : String → State → State → Prop := fun E st t => ∃ τ : zS, Q (.inr E) τ ∧ zRep w τ t.heap ∧ va_F (zAd w) st t
def Sp (l : Launch) (w : zW) (m : zM) (h n : Nat) (as : List zV) (σ : zS) (Q : zQ) : Prop := vx_Met l m.1 (zwds m) (zroom h n) (zPc w σ as) (zQc w Q) (zXC w Q) n (6 * n) (zAd w)
def SpH (l : Launch) (w : zW) (m : zM) (h n : Nat) (as : List zV) (σ : zS) (Q : zQ) : Prop := vx_Met l m.1 (zwdsH m) (zroom h n) (zPc w σ as) (zQc w Q) (zXC w Q) n (6 * n) (zAd w)
def zMQ (w : zW) (h n : Nat) (Q : zQ) : zMo := (zroom h n, fun below args s => vx_MQ below (zQc w Q) (zXC w Q) args s n (6 * n) (zAd w), 0, 0)
theorem zPc_blind (w : zW) (σ : zS) (as : List zV) : FrameBlind (zPc w σ as) := fun _ U _ _ h => ⟨h.1, h.2.1, zEnv_same (U := U) rfl rfl h.2.2.1, h.2.2.2⟩
theorem zgood_in : GoodIn zgood zgood := fun x h => ⟨h, good_of_word (List.mem_filter.mp h).2⟩
theorem zgood_sub {ws : List Cond} (h : ∀ x ∈ ws, x ∈ zgood) : GoodIn zgood ws := fun x hx => zgood_in x (h x hx)
/-! numbers -/
theorem z_toInt {a : Int} (h : zr a) : (Int32.ofInt a).toInt = a := Int32.toInt_ofInt_of_le (by have := h.1; simpa using this) (by have := h.2; omega)
theorem z_eq {a b : Int} (ha : zr a) (hb : zr b) : Int32.ofInt a = Int32.ofInt b ↔ a = b := ⟨fun h => by rw [← z_toInt ha, ← z_toInt hb, h], fun h => by rw [h]⟩
theorem z_le {a b : Int} (ha : zr a) (hb : zr b) : Int32.ofInt a ≤ Int32.ofInt b ↔ a ≤ b := by rw [Int32.le_iff_toInt_le, z_toInt ha, z_toInt hb]
theorem z_lt {a b : Int} (ha : zr a) (hb : zr b) : Int32.ofInt a < Int32.ofInt b ↔ a < b := by rw [Int32.lt_iff_toInt_lt, z_toInt ha, z_toInt hb]
theorem zr0 : zr 0 := ⟨by decide, by decide⟩
theorem z_0 : Int32.ofInt 0 = 0 := rfl
theorem zr_t (x : Int32) : zr x.toInt := ⟨x.le_toInt, by have := x.toInt_lt; omega⟩
theorem z_of (x : Int32) : Int32.ofInt x.toInt = x := Int32.ofInt_toInt x
def zand (a b : Int) : Int := (Int32.ofInt a &&& Int32.ofInt b).toInt
def zor (a b : Int) : Int := (Int32.ofInt a ||| Int32.ofInt b).toInt
def zxor (a b : Int) : Int := (Int32.ofInt a ^^^ Int32.ofInt b).toInt
def zshl (a b : Int) : Int := (Int32.ofInt a <<< (Int32.ofInt b &&& 31)).toInt
def zshr (a b : Int) : Int := (Int32.ofInt a >>> (Int32.ofInt b &&& 31)).toInt
def zushr (a b : Int) : Int := ((Int32.ofInt a).toUInt32 >>> ((Int32.ofInt b).toUInt32 &&& Int32.toUInt32 31)).toInt32.toInt
def zb8 (a : Int) : Int := (Int32.ofInt a).toInt8.toInt32.toInt
def zc16 (a : Int) : Int := ((Int32.ofInt a).toUInt32 % 65536).toInt32.toInt
def zcmp (a b : Int) : Int := if b < a then 1 else if a = b then 0 else -1
theorem zcmp_lt {a b : Int} : zcmp a b < 0 ↔ a < b := by unfold zcmp; split <;> (try split) <;> omega
theorem zcmp_le {a b : Int} : zcmp a b ≤ 0 ↔ a ≤ b := by unfold zcmp; split <;> (try split) <;> omega
theorem zcmp_gt {a b : Int} : 0 < zcmp a b ↔ b < a := by unfold zcmp; split <;> (try split) <;> omega
theorem zcmp_ge {a b : Int} : 0 ≤ zcmp a b ↔ b ≤ a := by unfold zcmp; split <;> (try split) <;> omega
theorem zcmp_eq {a b : Int} : zcmp a b = 0 ↔ a = b := by unfold zcmp; split <;> (try split) <;> omega
theorem zcmp_r (a b : Int) : zr (zcmp a b) := by unfold zcmp zr; split <;> (try split) <;> omega
theorem z_cl {a : Int} {n : Nat} (h0 : 0 ≤ a) (h1 : a < (n : Int)) (hn : n < 2147483648) : vp_in (Int32.ofInt a) n ∧ (Int32.ofInt a).toNatClampNeg = a.toNat := by
  have hz : zr a := ⟨by omega, by omega⟩
  have e : (Int32.ofInt a).toNatClampNeg = a.toNat := by
    show (Int32.ofInt a).toInt.toNat = a.toNat
    rw [z_toInt hz]
  refine ⟨?_, e⟩
  unfold vp_in
  rw [e, Int32.lt_iff_toInt_lt, z_toInt hz]
  rintro (h | h)
  · have : a < 0 := by simpa using h
    omega
  · omega
/-! the rules -/
section ZR
variable {l : Launch} {w : zW} {m : zM} {M : zMo} {pc k : Nat} {ls st : List zV} {σ : zS}
theorem zok_c {v : zV} (hv : zok w v) (h : ∀ x ∈ st, zok w x) : ∀ x ∈ v :: st, zok w x := List.forall_mem_cons.mpr ⟨hv, h⟩
theorem zok_t {v : zV} (h : ∀ x ∈ v :: st, zok w x) : ∀ x ∈ st, zok w x := (List.forall_mem_cons.mp h).2
theorem zok_h {v : zV} (h : ∀ x ∈ v :: st, zok w x) : zok w v := (List.forall_mem_cons.mp h).1
theorem zx_iconst {n : Int} (hd : decode m.2.1 pc = .ok (.iconst n, 1)) (kk : zX l w m M (pc + 1) ls (zi n :: st) k σ) : zX l w m M pc ls st k σ := by
  intro p e s mid args below meth c C H locs Ls hR hS hl hol hos hc hs
  exact lv_iconst C.1 C.2.1 hd rfl (kk p e s mid args below meth c C H locs Ls hR hS hl hol (zok_c trivial hos) hc hs)
theorem zx_bipush {n : Int} (hd : decode m.2.1 pc = .ok (.bipush n, 2)) (hn : (Int8.ofInt n).toInt32 = Int32.ofInt n) (kk : zX l w m M (pc + 2) ls (zi n :: st) k σ) : zX l w m M pc ls st k σ := by
  intro p e s mid args below meth c C H locs Ls hR hS hl hol hos hc hs
  exact lv_bipush C.1 C.2.1 hd hn (kk p e s mid args below meth c C H locs Ls hR hS hl hol (zok_c trivial hos) hc hs)
theorem zx_sipush {n : Int} (hd : decode m.2.1 pc = .ok (.sipush n, 3)) (hn : (Int16.ofInt n).toInt32 = Int32.ofInt n) (kk : zX l w m M (pc + 3) ls (zi n :: st) k σ) : zX l w m M pc ls st k σ := by
  intro p e s mid args below meth c C H locs Ls hR hS hl hol hos hc hs
  exact lv_sipush C.1 C.2.1 hd hn (kk p e s mid args below meth c C H locs Ls hR hS hl hol (zok_c trivial hos) hc hs)
theorem zx_lconst {n : Fin 2} {a : Int} (hd : decode m.2.1 pc = .ok (.lconst n, 1)) (hn : Int64.ofNat (n : Nat) = Int64.ofInt a) (kk : zX l w m M (pc + 1) ls (zl a :: st) k σ) : zX l w m M pc ls st k σ := by
  intro p e s mid args below meth c C H locs Ls hR hS hl hol hos hc hs
  exact lv_lconst C.1 C.2.1 hd hn (kk p e s mid args below meth c C H locs Ls hR hS hl hol (zok_c trivial hos) hc hs)
theorem zx_ldc2 {ix : Nat} {a : Int} (hd : decode m.2.1 pc = .ok (.ldc2_w ix, 3)) (hw : Cond.constantLong m.1.cls ix (Int64.ofInt a) ∈ zgood) (kk : zX l w m M (pc + 3) ls (zl a :: st) k σ) : zX l w m M pc ls st k σ := by
  intro p e s mid args below meth c C H locs Ls hR hS hl hol hos hc hs
  exact lv_ldc2 C.1 C.2.1 C.2.2.2.2.2.1 (C.2.2.2.2.2.2.1 _ hw) hd (kk p e s mid args below meth c C H locs Ls hR hS hl hol (zok_c trivial hos) hc hs)
theorem zx_dconst0 (hd : decode m.2.1 pc = .ok (.dconst 0, 1)) (kk : zX l w m M (pc + 1) ls (zd FP.dconst0 :: st) k σ) : zX l w m M pc ls st k σ := by
  intro p e s mid args below meth c C H locs Ls hR hS hl hol hos hc hs
  exact lv_dconst0 C.1 C.2.1 hd (kk p e s mid args below meth c C H locs Ls hR hS hl hol (zok_c trivial hos) hc hs)
theorem zx_iloadN {j : Nat} {f : Fin 4} {a : Int} (hd : decode m.2.1 pc = .ok (.iload_n f, 1)) (hf : (f : Nat) = j) (hj : ls[j]? = some (zi a)) (kk : zX l w m M (pc + 1) ls (zi a :: st) k σ) : zX l w m M pc ls st k σ := by
  intro p e s mid args below meth c C H locs Ls hR hS hl hol hos hc hs
  exact lv_iload_n C.1 C.2.1 hd hf (zps_at hl hj rfl) (kk p e s mid args below meth c C H locs Ls hR hS hl hol (zok_c trivial hos) hc hs)
theorem zx_iload {j : Nat} {a : Int} (hd : decode m.2.1 pc = .ok (.iload j, 2)) (hj : ls[j]? = some (zi a)) (kk : zX l w m M (pc + 2) ls (zi a :: st) k σ) : zX l w m M pc ls st k σ := by
  intro p e s mid args below meth c C H locs Ls hR hS hl hol hos hc hs
  exact lv_iload C.1 C.2.1 hd (zps_at hl hj rfl) (kk p e s mid args below meth c C H locs Ls hR hS hl hol (zok_c trivial hos) hc hs)
theorem zx_aloadN {j t i : Nat} {f : Fin 4} (hd : decode m.2.1 pc = .ok (.aload_n f, 1)) (hf : (f : Nat) = j) (hj : ls[j]? = some (zf t i)) (kk : zX l w m M (pc + 1) ls (zf t i :: st) k σ) : zX l w m M pc ls st k σ := by
  intro p e s mid args below meth c C H locs Ls hR hS hl hol hos hc hs
  exact lv_aload_n C.1 C.2.1 hd hf (zps_at hl hj rfl) (kk p e s mid args below meth c C H locs Ls hR hS hl hol (zok_c (hol _ (List.mem_of_getElem? hj)) hos) hc hs)
theorem zx_aload {j t i : Nat} (hd : decode m.2.1 pc = .ok (.aload j, 2)) (hj : ls[j]? = some (zf t i)) (kk : zX l w m M (pc + 2) ls (zf t i :: st) k σ) : zX l w m M pc ls st k σ := by
  intro p e s mid args below meth c C H locs Ls hR hS hl hol hos hc hs
  exact lv_aload C.1 C.2.1 hd (zps_at hl hj rfl) (kk p e s mid args below meth c C H locs Ls hR hS hl hol (zok_c (hol _ (List.mem_of_getElem? hj)) hos) hc hs)
theorem zx_lloadN {j : Nat} {f : Fin 4} {a : Int} (hd : decode m.2.1 pc = .ok (.lload_n f, 1)) (hf : (f : Nat) = j) (hj : ls[j]? = some (zl a)) (kk : zX l w m M (pc + 1) ls (zl a :: st) k σ) : zX l w m M pc ls st k σ := by
  intro p e s mid args below meth c C H locs Ls hR hS hl hol hos hc hs
  exact lv_lload_n C.1 C.2.1 hd hf (zps_at hl hj rfl) (kk p e s mid args below meth c C H locs Ls hR hS hl hol (zok_c trivial hos) hc hs)
theorem zx_lload {j : Nat} {a : Int} (hd : decode m.2.1 pc = .ok (.lload j, 2)) (hj : ls[j]? = some (zl a)) (kk : zX l w m M (pc + 2) ls (zl a :: st) k σ) : zX l w m M pc ls st k σ := by
  intro p e s mid args below meth c C H locs Ls hR hS hl hol hos hc hs
  exact lv_lload C.1 C.2.1 hd (zps_at hl hj rfl) (kk p e s mid args below meth c C H locs Ls hR hS hl hol (zok_c trivial hos) hc hs)
theorem zx_dload {j : Nat} {a : UInt64} (hd : decode m.2.1 pc = .ok (.dload j, 2)) (hj : ls[j]? = some (zd a)) (kk : zX l w m M (pc + 2) ls (zd a :: st) k σ) : zX l w m M pc ls st k σ := by
  intro p e s mid args below meth c C H locs Ls hR hS hl hol hos hc hs
  exact lv_dload C.1 C.2.1 hd (zps_at hl hj rfl) (kk p e s mid args below meth c C H locs Ls hR hS hl hol (zok_c trivial hos) hc hs)
theorem zok_set {j : Nat} {v : zV} (hv : zok w v) (h : ∀ x ∈ ls, zok w x) : ∀ x ∈ ls.set j v, zok w x := by
  intro x hx
  rcases List.mem_or_eq_of_mem_set hx with h1 | h1
  · exact h x h1
  · rw [h1]; exact hv
theorem zx_istoreN {j : Nat} {f : Fin 4} {a : Int} (hd : decode m.2.1 pc = .ok (.istore_n f, 1)) (hf : (f : Nat) = j) (hj : j < ls.length) (hn : j < m.2.2.1) (hp : zprev ls j = true) (kk : zX l w m M (pc + 1) (ls.set j (zi a)) st k σ) : zX l w m M pc ls (zi a :: st) k σ := by
  intro p e s mid args below meth c C H locs Ls hR hS hl hol hos hc hs
  exact lv_istore_n C.1 C.2.1 hd hf hl hn rfl (fun Ls' hl' => kk p e s mid args below meth c C H locs Ls' hR hS (zps_store (v := zi a) hj hp hl') (zok_set trivial hol) (zok_t hos) hc hs)
theorem zx_istore {j : Nat} {a : Int} (hd : decode m.2.1 pc = .ok (.istore j, 2)) (hj : j < ls.length) (hn : j < m.2.2.1) (hp : zprev ls j = true) (kk : zX l w m M (pc + 2) (ls.set j (zi a)) st k σ) : zX l w m M pc ls (zi a :: st) k σ := by
  intro p e s mid args below meth c C H locs Ls hR hS hl hol hos hc hs
  exact lv_istore C.1 C.2.1 hd hl hn rfl (fun Ls' hl' => kk p e s mid args below meth c C H locs Ls' hR hS (zps_store (v := zi a) hj hp hl') (zok_set trivial hol) (zok_t hos) hc hs)
theorem zx_astoreN {j t i : Nat} {f : Fin 4} (hd : decode m.2.1 pc = .ok (.astore_n f, 1)) (hf : (f : Nat) = j) (hj : j < ls.length) (hn : j < m.2.2.1) (hp : zprev ls j = true) (kk : zX l w m M (pc + 1) (ls.set j (zf t i)) st k σ) : zX l w m M pc ls (zf t i :: st) k σ := by
  intro p e s mid args below meth c C H locs Ls hR hS hl hol hos hc hs
  exact lv_astore_n C.1 C.2.1 hd hf hl hn rfl (fun Ls' hl' => kk p e s mid args below meth c C H locs Ls' hR hS (zps_store (v := zf t i) hj hp hl') (zok_set (zok_h hos) hol) (zok_t hos) hc hs)
theorem zx_astore {j t i : Nat} (hd : decode m.2.1 pc = .ok (.astore j, 2)) (hj : j < ls.length) (hn : j < m.2.2.1) (hp : zprev ls j = true) (kk : zX l w m M (pc + 2) (ls.set j (zf t i)) st k σ) : zX l w m M pc ls (zf t i :: st) k σ := by
  intro p e s mid args below meth c C H locs Ls hR hS hl hol hos hc hs
  exact lv_astore C.1 C.2.1 hd hl hn rfl (fun Ls' hl' => kk p e s mid args below meth c C H locs Ls' hR hS (zps_store (v := zf t i) hj hp hl') (zok_set (zok_h hos) hol) (zok_t hos) hc hs)
theorem zx_iinc {j : Nat} {n a b : Int} (hd : decode m.2.1 pc = .ok (.iinc j n, 3)) (hj : ls[j]? = some (zi a)) (hb : a + n = b) (hn : j < m.2.2.1) (hp : zprev ls j = true) (kk : zX l w m M (pc + 3) (ls.set j (zi b)) st k σ) : zX l w m M pc ls st k σ := by
  intro p e s mid args below meth c C H locs Ls hR hS hl hol hos hc hs
  obtain ⟨q, hq⟩ := List.getElem?_of_mem (zps_mem.mpr ⟨j, zi a, hj, rfl, rfl⟩ : (0 + j, zc w (zi a)) ∈ zps w 0 ls)
  rw [Nat.zero_add] at hq
  refine lv_iinc C.1 C.2.1 hd hl hq (v := Int32.ofInt b) (by rw [← hb, Int32.ofInt_add]) hn rfl (fun Ls' hl' => ?_)
  exact kk p e s mid args below meth c C H locs Ls' hR hS (zps_store (v := zi b) (List.getElem?_eq_some_iff.mp hj).1 hp hl') (zok_set trivial hol) hos hc hs
theorem zx_forget (ls' : List zV) (h : ∀ q ∈ zps w 0 ls', q ∈ zps w 0 ls) (ho : ∀ x ∈ ls', x = zu ∨ x ∈ ls) (kk : zX l w m M pc ls' st k σ) : zX l w m M pc ls st k σ := by
  intro p e s mid args below meth c C H locs Ls hR hS hl hol hos hc hs
  refine kk p e s mid args below meth c C H locs Ls hR hS ⟨hl.1, hl.2.1, fun q hq => hl.2.2 q (h q hq)⟩ (fun x hx => ?_) hos hc hs
  rcases ho x hx with rfl | h1
  · exact trivial
  · exact hol x h1
theorem zx_iadd {a b : Int} (hd : decode m.2.1 pc = .ok (.iadd, 1)) (kk : zX l w m M (pc + 1) ls (zi (a + b) :: st) k σ) : zX l w m M pc ls (zi b :: zi a :: st) k σ := by
  intro p e s mid args below meth c C H locs Ls hR hS hl hol hos hc hs
  refine lv_iadd C.1 C.2.1 hd ?_
  rw [← Int32.ofInt_add]
  exact kk p e s mid args below meth c C H locs Ls hR hS hl hol (zok_c trivial (zok_t (zok_t hos))) hc hs
theorem zx_isub {a b : Int} (hd : decode m.2.1 pc = .ok (.isub, 1)) (kk : zX l w m M (pc + 1) ls (zi (a - b) :: st) k σ) : zX l w m M pc ls (zi b :: zi a :: st) k σ := by
  intro p e s mid args below meth c C H locs Ls hR hS hl hol hos hc hs
  refine lv_isub C.1 C.2.1 hd ?_
  rw [← Int32.ofInt_sub]
  exact kk p e s mid args below meth c C H locs Ls hR hS hl hol (zok_c trivial (zok_t (zok_t hos))) hc hs
theorem zx_imul {a b : Int} (hd : decode m.2.1 pc = .ok (.imul, 1)) (kk : zX l w m M (pc + 1) ls (zi (a * b) :: st) k σ) : zX l w m M pc ls (zi b :: zi a :: st) k σ := by
  intro p e s mid args below meth c C H locs Ls hR hS hl hol hos hc hs
  refine lv_imul C.1 C.2.1 hd ?_
  rw [← Int32.ofInt_mul]
  exact kk p e s mid args below meth c C H locs Ls hR hS hl hol (zok_c trivial (zok_t (zok_t hos))) hc hs
theorem zx_iand {a b : Int} (hd : decode m.2.1 pc = .ok (.iand, 1)) (kk : zX l w m M (pc + 1) ls (zi (zand a b) :: st) k σ) : zX l w m M pc ls (zi b :: zi a :: st) k σ := by
  intro p e s mid args below meth c C H locs Ls hR hS hl hol hos hc hs
  refine lv_iand C.1 C.2.1 hd ?_
  have h := kk p e s mid args below meth c C H locs Ls hR hS hl hol (zok_c trivial (zok_t (zok_t hos))) hc hs
  have e1 : zc w (zi (zand a b)) = .int (Int32.ofInt (zand a b)) := rfl
  rw [List.map_cons, e1] at h
  unfold zand at h
  rw [z_of] at h
  exact h
theorem zx_ior {a b : Int} (hd : decode m.2.1 pc = .ok (.ior, 1)) (kk : zX l w m M (pc + 1) ls (zi (zor a b) :: st) k σ) : zX l w m M pc ls (zi b :: zi a :: st) k σ := by
  intro p e s mid args below meth c C H locs Ls hR hS hl hol hos hc hs
  refine lv_ior C.1 C.2.1 hd ?_
  have h := kk p e s mid args below meth c C H locs Ls hR hS hl hol (zok_c trivial (zok_t (zok_t hos))) hc hs
  have e1 : zc w (zi (zor a b)) = .int (Int32.ofInt (zor a b)) := rfl
  rw [List.map_cons, e1] at h
  unfold zor at h
  rw [z_of] at h
  exact h
theorem zx_ixor {a b : Int} (hd : decode m.2.1 pc = .ok (.ixor, 1)) (kk : zX l w m M (pc + 1) ls (zi (zxor a b) :: st) k σ) : zX l w m M pc ls (zi b :: zi a :: st) k σ := by
  intro p e s mid args below meth c C H locs Ls hR hS hl hol hos hc hs
  refine lv_ixor C.1 C.2.1 hd ?_
  have h := kk p e s mid args below meth c C H locs Ls hR hS hl hol (zok_c trivial (zok_t (zok_t hos))) hc hs
  have e1 : zc w (zi (zxor a b)) = .int (Int32.ofInt (zxor a b)) := rfl
  rw [List.map_cons, e1] at h
  unfold zxor at h
  rw [z_of] at h
  exact h
theorem zx_ishl {a b : Int} (hd : decode m.2.1 pc = .ok (.ishl, 1)) (kk : zX l w m M (pc + 1) ls (zi (zshl a b) :: st) k σ) : zX l w m M pc ls (zi b :: zi a :: st) k σ := by
  intro p e s mid args below meth c C H locs Ls hR hS hl hol hos hc hs
  refine lv_ishl C.1 C.2.1 hd ?_
  have h := kk p e s mid args below meth c C H locs Ls hR hS hl hol (zok_c trivial (zok_t (zok_t hos))) hc hs
  have e1 : zc w (zi (zshl a b)) = .int (Int32.ofInt (zshl a b)) := rfl
  rw [List.map_cons, e1] at h
  unfold zshl at h
  rw [z_of] at h
  exact h
theorem zx_ishr {a b : Int} (hd : decode m.2.1 pc = .ok (.ishr, 1)) (kk : zX l w m M (pc + 1) ls (zi (zshr a b) :: st) k σ) : zX l w m M pc ls (zi b :: zi a :: st) k σ := by
  intro p e s mid args below meth c C H locs Ls hR hS hl hol hos hc hs
  refine lv_ishr C.1 C.2.1 hd ?_
  have h := kk p e s mid args below meth c C H locs Ls hR hS hl hol (zok_c trivial (zok_t (zok_t hos))) hc hs
  have e1 : zc w (zi (zshr a b)) = .int (Int32.ofInt (zshr a b)) := rfl
  rw [List.map_cons, e1] at h
  unfold zshr at h
  rw [z_of] at h
  exact h
theorem zx_iushr {a b : Int} (hd : decode m.2.1 pc = .ok (.iushr, 1)) (kk : zX l w m M (pc + 1) ls (zi (zushr a b) :: st) k σ) : zX l w m M pc ls (zi b :: zi a :: st) k σ := by
  intro p e s mid args below meth c C H locs Ls hR hS hl hol hos hc hs
  exact lv_iushr C.1 C.2.1 hd (v := Int32.ofInt (zushr a b)) (z_of _).symm (kk p e s mid args below meth c C H locs Ls hR hS hl hol (zok_c trivial (zok_t (zok_t hos))) hc hs)
theorem zx_i2b {a : Int} (hd : decode m.2.1 pc = .ok (.i2b, 1)) (kk : zX l w m M (pc + 1) ls (zi (zb8 a) :: st) k σ) : zX l w m M pc ls (zi a :: st) k σ := by
  intro p e s mid args below meth c C H locs Ls hR hS hl hol hos hc hs
  exact lv_i2b C.1 C.2.1 hd (v := Int32.ofInt (zb8 a)) (z_of _).symm (kk p e s mid args below meth c C H locs Ls hR hS hl hol (zok_c trivial (zok_t hos)) hc hs)
theorem zx_i2c {a : Int} (hd : decode m.2.1 pc = .ok (.i2c, 1)) (kk : zX l w m M (pc + 1) ls (zi (zc16 a) :: st) k σ) : zX l w m M pc ls (zi a :: st) k σ := by
  intro p e s mid args below meth c C H locs Ls hR hS hl hol hos hc hs
  exact lv_i2c C.1 C.2.1 hd (v := Int32.ofInt (zc16 a)) (z_of _).symm (kk p e s mid args below meth c C H locs Ls hR hS hl hol (zok_c trivial (zok_t hos)) hc hs)
theorem z_i2l {a : Int} (h : zr a) : (Int32.ofInt a).toInt64 = Int64.ofInt a := by
  rw [← Int64.ofInt_toInt (Int32.ofInt a).toInt64, Int32.toInt_toInt64, z_toInt h]
theorem zx_i2l {a : Int} (hz : zr a) (hd : decode m.2.1 pc = .ok (.i2l, 1)) (kk : zX l w m M (pc + 1) ls (zl a :: st) k σ) : zX l w m M pc ls (zi a :: st) k σ := by
  intro p e s mid args below meth c C H locs Ls hR hS hl hol hos hc hs
  exact lv_i2l C.1 C.2.1 hd (v := Int64.ofInt a) (z_i2l hz) (kk p e s mid args below meth c C H locs Ls hR hS hl hol (zok_c trivial (zok_t hos)) hc hs)
theorem z_l {a : Int} (h : zr a) : (Int64.ofInt a).toInt = a := Int64.toInt_ofInt_of_le (by have := h.1; simp; omega) (by have := h.2; omega)
theorem z_lcmp {a b : Int} (ha : zr a) (hb : zr b) : lg_cmp (Int64.ofInt a) (Int64.ofInt b) = Int32.ofInt (zcmp a b) := by
  unfold lg_cmp zcmp
  have h1 : (Int64.ofInt a > Int64.ofInt b) ↔ b < a := by rw [gt_iff_lt, Int64.lt_iff_toInt_lt, z_l ha, z_l hb]
  have h2 : (Int64.ofInt a = Int64.ofInt b) ↔ a = b := ⟨fun h => by rw [← z_l ha, ← z_l hb, h], fun h => by rw [h]⟩
  simp only [h1, h2]
  split
  · rfl
  · split <;> rfl
theorem zx_lcmp {a b : Int} (ha : zr a) (hb : zr b) (hd : decode m.2.1 pc = .ok (.lcmp, 1)) (kk : zX l w m M (pc + 1) ls (zi (zcmp a b) :: st) k σ) : zX l w m M pc ls (zl b :: zl a :: st) k σ := by
  intro p e s mid args below meth c C H locs Ls hR hS hl hol hos hc hs
  refine W.lcmp C.1 C.2.1 hd ?_
  rw [z_lcmp ha hb]
  exact kk p e s mid args below meth c C H locs Ls hR hS hl hol (zok_c trivial (zok_t (zok_t hos))) hc hs
theorem z_nat {a : Int} (h : 0 ≤ a) : Int32.ofInt a = nI a.toNat := by
  show Int32.ofInt a = Int32.ofNat a.toNat
  rw [← Int32.ofInt_eq_ofNat, Int.toNat_of_nonneg h]
theorem zx_idiv {a b : Int} (h0 : 0 ≤ a) (h1 : a ≤ 2147483647) (h2 : 0 < b) (h3 : b ≤ 2147483647) (hd : decode m.2.1 pc = .ok (.idiv, 1)) (kk : zX l w m M (pc + 1) ls (zi (a / b) :: st) k σ) : zX l w m M pc ls (zi b :: zi a :: st) k σ := by
  intro p e s mid args below meth c C H locs Ls hR hS hl hol hos hc hs
  refine lv_idiv C.1 C.2.1 hd (fun h => ?_) ?_
  · have := (z_eq ⟨by omega, h3⟩ zr0).mp h
    omega
  · have e1 : Int32.ofInt a / Int32.ofInt b = Int32.ofInt (a / b) := by
      rw [z_nat h0, z_nat (a := b) (by omega), z_nat (a := a / b) (Int.ediv_nonneg h0 (by omega)), pk_div (by omega) (by omega) (by omega)]
      congr 1
      have e2 : a / b = ((a.toNat / b.toNat : Nat) : Int) := by rw [Int.natCast_ediv, Int.toNat_of_nonneg h0, Int.toNat_of_nonneg (by omega : 0 ≤ b)]
      rw [e2]; rfl
    rw [e1]
    exact kk p e s mid args below meth c C H locs Ls hR hS hl hol (zok_c trivial (zok_t (zok_t hos))) hc hs
theorem zx_irem {a b : Int} (h0 : 0 ≤ a) (h1 : a ≤ 2147483647) (h2 : 0 < b) (h3 : b ≤ 2147483647) (hd : decode m.2.1 pc = .ok (.irem, 1)) (kk : zX l w m M (pc + 1) ls (zi (a % b) :: st) k σ) : zX l w m M pc ls (zi b :: zi a :: st) k σ := by
  intro p e s mid args below meth c C H locs Ls hR hS hl hol hos hc hs
  refine lv_irem C.1 C.2.1 hd (fun h => ?_) ?_
  · have := (z_eq ⟨by omega, h3⟩ zr0).mp h
    omega
  · have e1 : Int32.ofInt a - Int32.ofInt a / Int32.ofInt b * Int32.ofInt b = Int32.ofInt (a % b) := by
      rw [z_nat h0, z_nat (a := b) (by omega), z_nat (a := a % b) (Int.emod_nonneg a (by omega)), pk_rem (by omega) (by omega) (by omega)]
      congr 1
      have e2 : a % b = ((a.toNat % b.toNat : Nat) : Int) := by rw [Int.natCast_emod, Int.toNat_of_nonneg h0, Int.toNat_of_nonneg (by omega : 0 ≤ b)]
      rw [e2]; rfl
    rw [e1]
    exact kk p e s mid args below meth c C H locs Ls hR hS hl hol (zok_c trivial (zok_t (zok_t hos))) hc hs
theorem zx_dup {v : zV} (hv : zcat v = 1) (hd : decode m.2.1 pc = .ok (.dup, 1)) (kk : zX l w m M (pc + 1) ls (v :: v :: st) k σ) : zX l w m M pc ls (v :: st) k σ := by
  intro p e s mid args below meth c C H locs Ls hR hS hl hol hos hc hs
  exact lv_dup C.1 C.2.1 hd (by rw [zcat_c]; exact hv) (kk p e s mid args below meth c C H locs Ls hR hS hl hol (zok_c (zok_h hos) hos) hc hs)
theorem zx_dup2 {v u : zV} (hv : zcat v = 1) (hu : zcat u = 1) (hd : decode m.2.1 pc = .ok (.dup2, 1)) (kk : zX l w m M (pc + 1) ls (v :: u :: v :: u :: st) k σ) : zX l w m M pc ls (v :: u :: st) k σ := by
  intro p e s mid args below meth c C H locs Ls hR hS hl hol hos hc hs
  exact lv_dup2_11 C.1 C.2.1 hd (by rw [zcat_c]; exact hv) (by rw [zcat_c]; exact hu) (kk p e s mid args below meth c C H locs Ls hR hS hl hol (zok_c (zok_h hos) (zok_c (zok_h (zok_t hos)) hos)) hc hs)
theorem zx_pop {v : zV} (hv : zcat v = 1) (hd : decode m.2.1 pc = .ok (.pop, 1)) (kk : zX l w m M (pc + 1) ls st k σ) : zX l w m M pc ls (v :: st) k σ := by
  intro p e s mid args below meth c C H locs Ls hR hS hl hol hos hc hs
  exact lv_pop C.1 C.2.1 hd (by rw [zcat_c]; exact hv) (kk p e s mid args below meth c C H locs Ls hR hS hl hol (zok_t hos) hc hs)
theorem zx_goto {off : Int} {tgt : Nat} (hd : decode m.2.1 pc = .ok (.goto off, 3)) (ht : (pc : Int) + off = (tgt : Int)) (kk : zX l w m M tgt ls st k σ) : zX l w m M pc ls st k σ := by
  intro p e s mid args below meth c C H locs Ls hR hS hl hol hos hc hs
  exact lv_goto C.1 C.2.1 hd ht (kk p e s mid args below meth c C H locs Ls hR hS hl hol hos hc hs)
theorem zx_if_eq {a : Int} {off : Int} {tgt : Nat} (hz : zr a) (hd : decode m.2.1 pc = .ok (.ifCond .eq off, 3)) (ht : (pc : Int) + off = (tgt : Int)) (kt : a = 0 → zX l w m M tgt ls st k σ) (kf : ¬ a = 0 → zX l w m M (pc + 3) ls st k σ) : zX l w m M pc ls (zi a :: st) k σ := by
  intro p e s mid args below meth c C H locs Ls hR hS hl hol hos hc hs
  exact lv_if_eq C.1 C.2.1 hd ht (fun h => kt ((z_eq hz zr0).mp h) p e s mid args below meth c C H locs Ls hR hS hl hol (zok_t hos) hc hs) (fun h => kf (fun q => h ((z_eq hz zr0).mpr q)) p e s mid args below meth c C H locs Ls hR hS hl hol (zok_t hos) hc hs)
theorem zx_icmp_eq {a b : Int} {off : Int} {tgt : Nat} (hz : zr a) (hb : zr b) (hd : decode m.2.1 pc = .ok (.if_icmp .eq off, 3)) (ht : (pc : Int) + off = (tgt : Int)) (kt : a = b → zX l w m M tgt ls st k σ) (kf : ¬ a = b → zX l w m M (pc + 3) ls st k σ) : zX l w m M pc ls (zi b :: zi a :: st) k σ := by
  intro p e s mid args below meth c C H locs Ls hR hS hl hol hos hc hs
  exact lv_icmp_eq C.1 C.2.1 hd ht (fun h => kt ((z_eq hz hb).mp h) p e s mid args below meth c C H locs Ls hR hS hl hol (zok_t (zok_t hos)) hc hs) (fun h => kf (fun q => h ((z_eq hz hb).mpr q)) p e s mid args below meth c C H locs Ls hR hS hl hol (zok_t (zok_t hos)) hc hs)
theorem zx_if_ne {a : Int} {off : Int} {tgt : Nat} (hz : zr a) (hd : decode m.2.1 pc = .ok (.ifCond .ne off, 3)) (ht : (pc : Int) + off = (tgt : Int)) (kt : ¬ a = 0 → zX l w m M tgt ls st k σ) (kf : a = 0 → zX l w m M (pc + 3) ls st k σ) : zX l w m M pc ls (zi a :: st) k σ := by
  intro p e s mid args below meth c C H locs Ls hR hS hl hol hos hc hs
  exact lv_if_ne C.1 C.2.1 hd ht (fun h => kt (fun q => h ((z_eq hz zr0).mpr q)) p e s mid args below meth c C H locs Ls hR hS hl hol (zok_t hos) hc hs) (fun h => kf ((z_eq hz zr0).mp h) p e s mid args below meth c C H locs Ls hR hS hl hol (zok_t hos) hc hs)
theorem zx_icmp_ne {a b : Int} {off : Int} {tgt : Nat} (hz : zr a) (hb : zr b) (hd : decode m.2.1 pc = .ok (.if_icmp .ne off, 3)) (ht : (pc : Int) + off = (tgt : Int)) (kt : ¬ a = b → zX l w m M tgt ls st k σ) (kf : a = b → zX l w m M (pc + 3) ls st k σ) : zX l w m M pc ls (zi b :: zi a :: st) k σ := by
  intro p e s mid args below meth c C H locs Ls hR hS hl hol hos hc hs
  exact lv_icmp_ne C.1 C.2.1 hd ht (fun h => kt (fun q => h ((z_eq hz hb).mpr q)) p e s mid args below meth c C H locs Ls hR hS hl hol (zok_t (zok_t hos)) hc hs) (fun h => kf ((z_eq hz hb).mp h) p e s mid args below meth c C H locs Ls hR hS hl hol (zok_t (zok_t hos)) hc hs)
theorem zx_if_lt {a : Int} {off : Int} {tgt : Nat} (hz : zr a) (hd : decode m.2.1 pc = .ok (.ifCond .lt off, 3)) (ht : (pc : Int) + off = (tgt : Int)) (kt : a < 0 → zX l w m M tgt ls st k σ) (kf : 0 ≤ a → zX l w m M (pc + 3) ls st k σ) : zX l w m M pc ls (zi a :: st) k σ := by
  intro p e s mid args below meth c C H locs Ls hR hS hl hol hos hc hs
  exact lv_if_lt C.1 C.2.1 hd ht (fun h => kt ((z_lt hz zr0).mp h) p e s mid args below meth c C H locs Ls hR hS hl hol (zok_t hos) hc hs) (fun h => kf (Int.not_lt.mp (fun z => h ((z_lt hz zr0).mpr z))) p e s mid args below meth c C H locs Ls hR hS hl hol (zok_t hos) hc hs)
theorem zx_icmp_lt {a b : Int} {off : Int} {tgt : Nat} (hz : zr a) (hb : zr b) (hd : decode m.2.1 pc = .ok (.if_icmp .lt off, 3)) (ht : (pc : Int) + off = (tgt : Int)) (kt : a < b → zX l w m M tgt ls st k σ) (kf : b ≤ a → zX l w m M (pc + 3) ls st k σ) : zX l w m M pc ls (zi b :: zi a :: st) k σ := by
  intro p e s mid args below meth c C H locs Ls hR hS hl hol hos hc hs
  exact lv_icmp_lt C.1 C.2.1 hd ht (fun h => kt ((z_lt hz hb).mp h) p e s mid args below meth c C H locs Ls hR hS hl hol (zok_t (zok_t hos)) hc hs) (fun h => kf (Int.not_lt.mp (fun z => h ((z_lt hz hb).mpr z))) p e s mid args below meth c C H locs Ls hR hS hl hol (zok_t (zok_t hos)) hc hs)
theorem zx_if_ge {a : Int} {off : Int} {tgt : Nat} (hz : zr a) (hd : decode m.2.1 pc = .ok (.ifCond .ge off, 3)) (ht : (pc : Int) + off = (tgt : Int)) (kt : 0 ≤ a → zX l w m M tgt ls st k σ) (kf : a < 0 → zX l w m M (pc + 3) ls st k σ) : zX l w m M pc ls (zi a :: st) k σ := by
  intro p e s mid args below meth c C H locs Ls hR hS hl hol hos hc hs
  exact lv_if_ge C.1 C.2.1 hd ht (fun h => kt ((z_le zr0 hz).mp h) p e s mid args below meth c C H locs Ls hR hS hl hol (zok_t hos) hc hs) (fun h => kf (Int.not_le.mp (fun z => h ((z_le zr0 hz).mpr z))) p e s mid args below meth c C H locs Ls hR hS hl hol (zok_t hos) hc hs)
theorem zx_icmp_ge {a b : Int} {off : Int} {tgt : Nat} (hz : zr a) (hb : zr b) (hd : decode m.2.1 pc = .ok (.if_icmp .ge off, 3)) (ht : (pc : Int) + off = (tgt : Int)) (kt : b ≤ a → zX l w m M tgt ls st k σ) (kf : a < b → zX l w m M (pc + 3) ls st k σ) : zX l w m M pc ls (zi b :: zi a :: st) k σ := by
  intro p e s mid args below meth c C H locs Ls hR hS hl hol hos hc hs
  exact lv_icmp_ge C.1 C.2.1 hd ht (fun h => kt ((z_le hb hz).mp h) p e s mid args below meth c C H locs Ls hR hS hl hol (zok_t (zok_t hos)) hc hs) (fun h => kf (Int.not_le.mp (fun z => h ((z_le hb hz).mpr z))) p e s mid args below meth c C H locs Ls hR hS hl hol (zok_t (zok_t hos)) hc hs)
theorem zx_if_gt {a : Int} {off : Int} {tgt : Nat} (hz : zr a) (hd : decode m.2.1 pc = .ok (.ifCond .gt off, 3)) (ht : (pc : Int) + off = (tgt : Int)) (kt : 0 < a → zX l w m M tgt ls st k σ) (kf : a ≤ 0 → zX l w m M (pc + 3) ls st k σ) : zX l w m M pc ls (zi a :: st) k σ := by
  intro p e s mid args below meth c C H locs Ls hR hS hl hol hos hc hs
  exact lv_if_gt C.1 C.2.1 hd ht (fun h => kt ((z_lt zr0 hz).mp h) p e s mid args below meth c C H locs Ls hR hS hl hol (zok_t hos) hc hs) (fun h => kf (Int.not_lt.mp (fun z => h ((z_lt zr0 hz).mpr z))) p e s mid args below meth c C H locs Ls hR hS hl hol (zok_t hos) hc hs)
theorem zx_icmp_gt {a b : Int} {off : Int} {tgt : Nat} (hz : zr a) (hb : zr b) (hd : decode m.2.1 pc = .ok (.if_icmp .gt off, 3)) (ht : (pc : Int) + off = (tgt : Int)) (kt : b < a → zX l w m M tgt ls st k σ) (kf : a ≤ b → zX l w m M (pc + 3) ls st k σ) : zX l w m M pc ls (zi b :: zi a :: st) k σ := by
  intro p e s mid args below meth c C H locs Ls hR hS hl hol hos hc hs
  exact lv_icmp_gt C.1 C.2.1 hd ht (fun h => kt ((z_lt hb hz).mp h) p e s mid args below meth c C H locs Ls hR hS hl hol (zok_t (zok_t hos)) hc hs) (fun h => kf (Int.not_lt.mp (fun z => h ((z_lt hb hz).mpr z))) p e s mid args below meth c C H locs Ls hR hS hl hol (zok_t (zok_t hos)) hc hs)
theorem zx_if_le {a : Int} {off : Int} {tgt : Nat} (hz : zr a) (hd : decode m.2.1 pc = .ok (.ifCond .le off, 3)) (ht : (pc : Int) + off = (tgt : Int)) (kt : a ≤ 0 → zX l w m M tgt ls st k σ) (kf : 0 < a → zX l w m M (pc + 3) ls st k σ) : zX l w m M pc ls (zi a :: st) k σ := by
  intro p e s mid args below meth c C H locs Ls hR hS hl hol hos hc hs
  exact lv_if_le C.1 C.2.1 hd ht (fun h => kt ((z_le hz zr0).mp h) p e s mid args below meth c C H locs Ls hR hS hl hol (zok_t hos) hc hs) (fun h => kf (Int.not_le.mp (fun z => h ((z_le hz zr0).mpr z))) p e s mid args below meth c C H locs Ls hR hS hl hol (zok_t hos) hc hs)
theorem zx_icmp_le {a b : Int} {off : Int} {tgt : Nat} (hz : zr a) (hb : zr b) (hd : decode m.2.1 pc = .ok (.if_icmp .le off, 3)) (ht : (pc : Int) + off = (tgt : Int)) (kt : a ≤ b → zX l w m M tgt ls st k σ) (kf : b < a → zX l w m M (pc + 3) ls st k σ) : zX l w m M pc ls (zi b :: zi a :: st) k σ := by
  intro p e s mid args below meth c C H locs Ls hR hS hl hol hos hc hs
  exact lv_icmp_le C.1 C.2.1 hd ht (fun h => kt ((z_le hz hb).mp h) p e s mid args below meth c C H locs Ls hR hS hl hol (zok_t (zok_t hos)) hc hs) (fun h => kf (Int.not_le.mp (fun z => h ((z_le hz hb).mpr z))) p e s mid args below meth c C H locs Ls hR hS hl hol (zok_t (zok_t hos)) hc hs)
end ZR

