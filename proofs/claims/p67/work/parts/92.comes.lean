abbrev mL_comes : zM := (yL_comes, cL_comes, 5, none, [])
theorem okL_comes : zMok mL_comes 2 := ⟨by decide, by decide, by decide +kernel⟩
theorem dL_comes_17 : decode cL_comes 17 = .ok (.iload 4, 2) := by decide +kernel
theorem dL_comes_19 : decode cL_comes 19 = .ok (.bipush 20, 2) := by decide +kernel
theorem dL_comes_21 : decode cL_comes 21 = .ok (.if_icmp .ge 48, 3) := by decide +kernel
theorem dL_comes_24 : decode cL_comes 24 = .ok (.aload_n 3, 1) := by decide +kernel
theorem dL_comes_25 : decode cL_comes 25 = .ok (.iload 4, 2) := by decide +kernel
theorem dL_comes_27 : decode cL_comes 27 = .ok (.iconst 4, 1) := by decide +kernel
theorem dL_comes_28 : decode cL_comes 28 = .ok (.idiv, 1) := by decide +kernel
theorem dL_comes_29 : decode cL_comes 29 = .ok (.aload_n 3, 1) := by decide +kernel
theorem dL_comes_30 : decode cL_comes 30 = .ok (.iload 4, 2) := by decide +kernel
theorem dL_comes_32 : decode cL_comes 32 = .ok (.iconst 4, 1) := by decide +kernel
theorem dL_comes_33 : decode cL_comes 33 = .ok (.idiv, 1) := by decide +kernel
theorem dL_comes_34 : decode cL_comes 34 = .ok (.iaload, 1) := by decide +kernel
theorem dL_comes_35 : decode cL_comes 35 = .ok (.bipush 8, 2) := by decide +kernel
theorem dL_comes_37 : decode cL_comes 37 = .ok (.ishl, 1) := by decide +kernel
theorem dL_comes_38 : decode cL_comes 38 = .ok (.iload_n 2, 1) := by decide +kernel
theorem dL_comes_39 : decode cL_comes 39 = .ok (.iload 4, 2) := by decide +kernel
theorem dL_comes_41 : decode cL_comes 41 = .ok (.iadd, 1) := by decide +kernel
theorem dL_comes_42 : decode cL_comes 42 = .ok (.aload_n 1, 1) := by decide +kernel
theorem dL_comes_43 : decode cL_comes 43 = .ok (.invokevirtual 25, 3) := by decide +kernel
theorem cw_RL_25 : zCwV RL 25 mJ0_length_8abf5 := zall [685, 318, 319, 22, 320] (by decide +kernel) (by decide +kernel)
theorem dL_comes_46 : decode cL_comes 46 = .ok (.if_icmp .ge 14, 3) := by decide +kernel
theorem dL_comes_60 : decode cL_comes 60 = .ok (.iconst 0, 1) := by decide +kernel
theorem dL_comes_61 : decode cL_comes 61 = .ok (.ior, 1) := by decide +kernel
theorem dL_comes_62 : decode cL_comes 62 = .ok (.iastore, 1) := by decide +kernel
theorem dL_comes_63 : decode cL_comes 63 = .ok (.iinc 4 1, 3) := by decide +kernel
theorem dL_comes_66 : decode cL_comes 66 = .ok (.goto (-49), 3) := by decide +kernel
theorem dL_comes_49 : decode cL_comes 49 = .ok (.aload_n 1, 1) := by decide +kernel
theorem dL_comes_50 : decode cL_comes 50 = .ok (.iload_n 2, 1) := by decide +kernel
theorem dL_comes_51 : decode cL_comes 51 = .ok (.iload 4, 2) := by decide +kernel
theorem dL_comes_53 : decode cL_comes 53 = .ok (.iadd, 1) := by decide +kernel
theorem dL_comes_54 : decode cL_comes 54 = .ok (.invokevirtual 30, 3) := by decide +kernel
theorem cw_RL_30 : zCwV RL 30 mJ0_charAt_5068e := zall [686, 328, 329, 22, 330] (by decide +kernel) (by decide +kernel)
theorem dL_comes_57 : decode cL_comes 57 = .ok (.goto 4, 3) := by decide +kernel
theorem dL_comes_2 : decode cL_comes 2 = .ok (.iload_n 2, 1) := by decide +kernel
theorem dL_comes_3 : decode cL_comes 3 = .ok (.aload_n 1, 1) := by decide +kernel
theorem dL_comes_4 : decode cL_comes 4 = .ok (.invokevirtual 25, 3) := by decide +kernel
theorem dL_comes_7 : decode cL_comes 7 = .ok (.if_icmp .ge 89, 3) := by decide +kernel
theorem dL_comes_96 : decode cL_comes 96 = .ok (.aload_n 0, 1) := by decide +kernel
theorem dL_comes_97 : decode cL_comes 97 = .ok (.aload_n 1, 1) := by decide +kernel
theorem dL_comes_98 : decode cL_comes 98 = .ok (.invokevirtual 25, 3) := by decide +kernel
theorem dL_comes_101 : decode cL_comes 101 = .ok (.invokevirtual 38, 3) := by decide +kernel
theorem cw_RL_38 : zCwV RL 38 mX9_truncate := zall [700, 701, 702, 31, 703] (by decide +kernel) (by decide +kernel)
theorem dL_comes_104 : decode cL_comes 104 = .ok (.istore_n 2, 1) := by decide +kernel
theorem dL_comes_105 : decode cL_comes 105 = .ok (.return_, 1) := by decide +kernel
theorem dL_comes_10 : decode cL_comes 10 = .ok (.iconst 5, 1) := by decide +kernel
theorem dL_comes_11 : decode cL_comes 11 = .ok (.newarray .int, 2) := by decide +kernel
theorem kac_i : Cond.arrayClass .int ∈ zgood := zmem1 155 (by decide +kernel) rfl
theorem dL_comes_13 : decode cL_comes 13 = .ok (.astore_n 3, 1) := by decide +kernel
theorem dL_comes_14 : decode cL_comes 14 = .ok (.iconst 0, 1) := by decide +kernel
theorem dL_comes_15 : decode cL_comes 15 = .ok (.istore 4, 2) := by decide +kernel
theorem dL_comes_69 : decode cL_comes 69 = .ok (.aload_n 0, 1) := by decide +kernel
theorem dL_comes_70 : decode cL_comes 70 = .ok (.aload_n 3, 1) := by decide +kernel
theorem dL_comes_71 : decode cL_comes 71 = .ok (.iconst 0, 1) := by decide +kernel
theorem dL_comes_72 : decode cL_comes 72 = .ok (.iaload, 1) := by decide +kernel
theorem dL_comes_73 : decode cL_comes 73 = .ok (.aload_n 3, 1) := by decide +kernel
theorem dL_comes_74 : decode cL_comes 74 = .ok (.iconst 1, 1) := by decide +kernel
theorem dL_comes_75 : decode cL_comes 75 = .ok (.iaload, 1) := by decide +kernel
theorem dL_comes_76 : decode cL_comes 76 = .ok (.aload_n 3, 1) := by decide +kernel
theorem dL_comes_77 : decode cL_comes 77 = .ok (.iconst 2, 1) := by decide +kernel
theorem dL_comes_78 : decode cL_comes 78 = .ok (.iaload, 1) := by decide +kernel
theorem dL_comes_79 : decode cL_comes 79 = .ok (.aload_n 3, 1) := by decide +kernel
theorem dL_comes_80 : decode cL_comes 80 = .ok (.iconst 3, 1) := by decide +kernel
theorem dL_comes_81 : decode cL_comes 81 = .ok (.iaload, 1) := by decide +kernel
theorem dL_comes_82 : decode cL_comes 82 = .ok (.aload_n 3, 1) := by decide +kernel
theorem dL_comes_83 : decode cL_comes 83 = .ok (.iconst 4, 1) := by decide +kernel
theorem dL_comes_84 : decode cL_comes 84 = .ok (.iaload, 1) := by decide +kernel
theorem dL_comes_85 : decode cL_comes 85 = .ok (.invokevirtual 34, 3) := by decide +kernel
theorem cw_RL_34 : zCwV RL 34 mX9_append := zall [687, 688, 689, 31, 690] (by decide +kernel) (by decide +kernel)
theorem dL_comes_88 : decode cL_comes 88 = .ok (.istore 4, 2) := by decide +kernel
theorem dL_comes_90 : decode cL_comes 90 = .ok (.iinc 2 20, 3) := by decide +kernel
theorem dL_comes_93 : decode cL_comes 93 = .ok (.goto (-91), 3) := by decide +kernel
theorem dL_comes_0 : decode cL_comes 0 = .ok (.iconst 0, 1) := by decide +kernel
theorem dL_comes_1 : decode cL_comes 1 = .ok (.istore_n 2, 1) := by decide +kernel
/-! ===== comes ===== -/
def kV (w : zW) (E1 : List va_E) : zW := zWv w (zB w + E1.length) 261 1 0 0 0 (fun _ => 0)
def kT (w : zW) (E1 : List va_E) (n : Nat) (g : Nat → Int32) (σ : zS) (G : List va_E) : List va_E := E1 ++ (kC (kV w E1) σ ++ (.inr (11, [.ref (zB w + (E1.length + 262)), .int (Int32.ofInt 0), .int (Int32.ofInt 0), .int (Int32.ofInt 0)]) :: .inl (zA w 1, n, .inl g) :: G))
section KH
variable {w : zW} {E1 : List va_E} {n : Nat} {g : Nat → Int32} {σ : zS} {G X : List va_E}
theorem kT_app : kT w E1 n g σ G ++ X = kT w E1 n g σ (G ++ X) := by unfold kT; simp [List.append_assoc]
theorem kT_len : (kT w E1 n g σ G).length = E1.length + 263 + G.length := by
  unfold kT
  rw [List.length_append, List.length_append, kC_len]
  show E1.length + (261 + (G.length + 2)) = _
  omega
theorem kT_at {j : Nat} : (kT w E1 n g σ G)[E1.length + (261 + j)]? = (.inr (11, [.ref (zB w + (E1.length + 262)), .int (Int32.ofInt 0), .int (Int32.ofInt 0), .int (Int32.ofInt 0)]) :: .inl (zA w 1, n, .inl g) :: G : List va_E)[j]? := by
  unfold kT
  have e : (kC (kV w E1) σ).length = 261 := kC_len _ _
  rw [List.getElem?_append_right (by omega), show E1.length + (261 + j) - E1.length = 261 + j by omega, List.getElem?_append_right (by omega), e, show 261 + j - 261 = j by omega]
theorem kT_s : (kT w E1 n g σ G)[E1.length + 261]? = some (.inr (11, [.ref (zB w + (E1.length + 262)), .int (Int32.ofInt 0), .int (Int32.ofInt 0), .int (Int32.ofInt 0)])) := kT_at (j := 0)
theorem kT_b : (kT w E1 n g σ G)[E1.length + 262]? = some (.inl (zA w 1, n, .inl g)) := kT_at (j := 1)
theorem kT_sx : (kT w E1 n g σ G ++ X)[E1.length + 261]? = some (.inr (11, [.ref (zB w + (E1.length + 262)), .int (Int32.ofInt 0), .int (Int32.ofInt 0), .int (Int32.ofInt 0)])) := by rw [kT_app]; exact kT_s
theorem kT_bx : (kT w E1 n g σ G ++ X)[E1.length + 262]? = some (.inl (zA w 1, n, .inl g)) := by rw [kT_app]; exact kT_b
theorem kT_ne : kT w E1 n g σ G = [] → (q : Prop) → q := fun h q => by
  have := kT_len (w := w) (E1 := E1) (n := n) (g := g) (σ := σ) (G := G)
  rw [h] at this
  exact absurd this (by show ¬ (0 = _); omega)
theorem kT_nx : kT w E1 n g σ G ++ X = [] → (q : Prop) → q := fun h q => by rw [kT_app] at h; exact kT_ne h q
end KH
theorem kV_z : zclb 261 = true := by decide +kernel
/-- the word that i letters have come into -/
def kpw (c : Nat → Int) (i j : Nat) : Int := if i ≤ 4 * j then 0 else if i = 4 * j + 1 then c (4 * j) else if i = 4 * j + 2 then c (4 * j) * 256 + c (4 * j + 1) else if i = 4 * j + 3 then (c (4 * j) * 256 + c (4 * j + 1)) * 256 + c (4 * j + 2) else ((c (4 * j) * 256 + c (4 * j + 1)) * 256 + c (4 * j + 2)) * 256 + c (4 * j + 3)
theorem kpw_b {c : Nat → Int} (hc : ∀ q, 0 ≤ c q ∧ c q < 128) (i j : Nat) : 0 ≤ kpw c i j ∧ kpw c i j < 2147483648 ∧ (i ≤ 4 * j + 3 → kpw c i j < 8388608) := by
  have h0 := hc (4 * j)
  have h1 := hc (4 * j + 1)
  have h2 := hc (4 * j + 2)
  have h3 := hc (4 * j + 3)
  unfold kpw
  split
  · omega
  · split
    · omega
    · split
      · omega
      · split
        · omega
        · omega
theorem kpw_s {c : Nat → Int} {f : Nat → Int} {i : Nat} (hf : ∀ j, j < 5 → f j = kpw c i j) : ∀ j, j < 5 → (if j = i / 4 then f (i / 4) * 256 + c i else f j) = kpw c (i + 1) j := fun j hj => by
  have e := hf j hj
  split
  · rename_i q
    rw [← q, e]
    rcases (by omega : i = 4 * j ∨ i = 4 * j + 1 ∨ i = 4 * j + 2 ∨ i = 4 * j + 3) with r | r | r | r <;> subst r <;> unfold kpw <;> repeat' split <;> first | omega
    all_goals omega
  · rename_i q
    rw [e]
    unfold kpw
    repeat' split
    all_goals omega
theorem kb4 {a b c d : Int} (ha : 0 ≤ a ∧ a < 128) (hb : 0 ≤ b ∧ b < 128) (hc : 0 ≤ c ∧ c < 128) (hd : 0 ≤ d ∧ d < 128) : b4 (((a * 256 + b) * 256 + c) * 256 + d) = [a, b, c, d] := by
  have hz : zr (((a * 256 + b) * 256 + c) * 256 + d) := by unfold zr; omega
  unfold b4
  rw [zshr_i hz (b := 24) (by omega), zshr_i hz (b := 16) (by omega), zshr_i hz (b := 8) (by omega), zshr_i hz (b := 0) (by omega), zand_255, zand_255, zand_255, zand_255]
  show [_ / (16777216 : Int) % 256, _ / (65536 : Int) % 256, _ / (256 : Int) % 256, _ / (1 : Int) % 256] = _
  rw [show (((a * 256 + b) * 256 + c) * 256 + d) / (16777216 : Int) % 256 = a by omega, show (((a * 256 + b) * 256 + c) * 256 + d) / (65536 : Int) % 256 = b by omega, show (((a * 256 + b) * 256 + c) * 256 + d) / (256 : Int) % 256 = c by omega, show (((a * 256 + b) * 256 + c) * 256 + d) / (1 : Int) % 256 = d by omega]
/-- the letters, with nothing behind them, k in all -/
def kPad (L : List Int) (k : Nat) : List Int := (List.range k).map (fun q => L.getD q 0)
theorem kPad_l (L : List Int) (k : Nat) : (kPad L k).length = k := by simp [kPad]
theorem kPad_t {L : List Int} {k : Nat} (h : L.length ≤ k) : (kPad L k).take L.length = L := by
  apply List.ext_getElem?
  intro j
  by_cases hj : j < L.length
  · rw [List.getElem?_take_of_lt hj, kPad, List.getElem?_map, List.getElem?_range (by omega)]
    simp [List.getD_eq_getElem?_getD, List.getElem?_eq_getElem hj]
  · rw [List.getElem?_eq_none (by rw [List.length_take]; omega), List.getElem?_eq_none (by omega)]
theorem kPad_4 (L : List Int) (k : Nat) : kPad L (k + 4) = kPad L k ++ [L.getD k 0, L.getD (k + 1) 0, L.getD (k + 2) 0, L.getD (k + 3) 0] := by
  unfold kPad
  rw [show k + 4 = (((k + 1) + 1) + 1) + 1 from rfl, List.range_succ, List.range_succ, List.range_succ, List.range_succ]
  simp
theorem kb4w {L : List Int} {k : Nat} {f : Nat → Int} (hL : ∀ q, 0 ≤ L.getD q 0 ∧ L.getD q 0 < 128) (hf : ∀ j, j < 5 → f j = kpw (fun q => L.getD (k + q) 0) 20 j) {j : Nat} (hj : j < 5) {K : List Int} (hK : K = kPad L (k + 4 * j)) : K ++ b4 (f j) = kPad L (k + 4 * (j + 1)) := by
  have e : f j = ((L.getD (k + 4 * j) 0 * 256 + L.getD (k + (4 * j + 1)) 0) * 256 + L.getD (k + (4 * j + 2)) 0) * 256 + L.getD (k + (4 * j + 3)) 0 := by
    rw [hf j hj]
    unfold kpw
    rw [if_neg (by omega), if_neg (by omega), if_neg (by omega), if_neg (by omega)]
  rw [e, kb4 (hL _) (hL _) (hL _) (hL _), hK, show k + 4 * (j + 1) = k + 4 * j + 4 by omega, kPad_4]
  rfl
theorem kgd {L : List Int} {i : Nat} (h : L.length ≤ i) : L.getD i 0 = 0 := by simp [List.getD_eq_getElem?_getD, List.getElem?_eq_none h]

set_option maxRecDepth 20000 in
set_option maxHeartbeats 2000000 in
theorem kcm_in {l : Launch} {w : zW} (hfl : l.stackTraces = false) {E1 E0 : List va_E} {L : List Int} {g : Nat → Int32} {P : List va_E → Prop} (hL : ∀ q, 0 ≤ L.getD q 0 ∧ L.getD q 0 < 128) (hl : L.length ≤ 600) (hg : ∀ j, j < L.length → g j = Int32.ofInt (L.getD j 0)) {σ : zS} {G : List va_E} {n k kc ks : Nat} (hk : k < L.length) (hkc : kc ≤ n) (hks : ks ≤ 5 * n) (K : ∀ f : Nat → Int, (∀ j, j < 5 → f j = kpw (fun q => L.getD (k + q) 0) 20 j) → zK l w mL_comes (kM w 7 n (5 * n) none E0 P) false 69 [zV0 (zB w + E1.length), zV0 (zB w + (E1.length + 261)), zi ((k : Nat) : Int), zV0 (zB w + (kT w E1 L.length g σ G).length), zi ((20 : Nat) : Int)] [] kc ks (kT w E1 L.length g σ G ++ [kIA w 5 f])) : ∀ (N i : Nat) (f : Nat → Int), i ≤ 20 → (∀ j, j < 5 → f j = kpw (fun q => L.getD (k + q) 0) i j) → 21 - i < N → zK l w mL_comes (kM w 7 n (5 * n) none E0 P) false 17 [zV0 (zB w + E1.length), zV0 (zB w + (E1.length + 261)), zi ((k : Nat) : Int), zV0 (zB w + (kT w E1 L.length g σ G).length), zi ((i : Nat) : Int)] [] kc ks (kT w E1 L.length g σ G ++ [kIA w 5 f]) := by
  intro N
  induction N with
  | zero => intro i f _ _ h; exact absurd h (Nat.not_lt_zero _)
  | succ N ih =>
    intro i f hi hf hN
    have hb := kpw_b (c := (fun q => L.getD (k + q) 0)) (fun q => hL _) i (i / 4)
    refine kk_iload dL_comes_17 rfl ?_
    refine kk_bipush dL_comes_19 rfl ?_
    refine kk_icmp_ge (tgt := 69) (by first | assumption | (unfold zr at *; omega)) (by first | assumption | (unfold zr at *; omega)) dL_comes_21 (by decide) (fun h21 => ?_) (fun h21 => ?_)
    · obtain rfl : i = 20 := by omega
      exact K f hf
    · refine kk_aloadN dL_comes_24 rfl rfl ?_
      refine kk_iload dL_comes_25 rfl ?_
      refine kk_iconst dL_comes_27 ?_
      refine kk_idiv (by omega) (by omega) (by omega) (by omega) dL_comes_28 ?_
      refine kk_aloadN dL_comes_29 rfl rfl ?_
      refine kk_iload dL_comes_30 rfl ?_
      refine kk_iconst dL_comes_32 ?_
      refine kk_idiv (by omega) (by omega) (by omega) (by omega) dL_comes_33 ?_
      refine kk_iald (i := (i / 4)) rfl (kIA_at _ _ _ _) (by omega) (by omega) (by omega) dL_comes_34 ?_
      refine kk_bipush dL_comes_35 rfl ?_
      refine kk_ishl dL_comes_37 ?_
      refine kk_iloadN dL_comes_38 rfl rfl ?_
      refine kk_iload dL_comes_39 rfl ?_
      refine kk_iadd dL_comes_41 ?_
      refine kj_top (b := ((k + i : Nat) : Int)) (by omega) ?_
      refine kk_aloadN dL_comes_42 rfl rfl ?_
      refine kk_callV [] (kStL hfl kT_sx kT_bx (by omega)) rfl kT_sx rfl dL_comes_43 cw_RL_25 okJ0_length_8abf5 rfl (Nat.le_of_ble_eq_true rfl) ⟨Nat.le_of_ble_eq_true rfl, Nat.le_of_ble_eq_true rfl, by show _ ≤ _; simp only [kM, kRm]; omega, by show _ ≤ _; simp only [kM, kRm]; omega⟩ (fun q => kT_nx q _) (fun x q => by cases q; trivial) (fun E43 q43 _ => ?_)
      rw [q43]
      refine kk_icmp_ge (tgt := 60) (by first | assumption | (unfold zr at *; omega)) (by first | assumption | (unfold zr at *; omega)) dL_comes_46 (by decide) (fun h46 => ?_) (fun h46 => ?_)
      · refine kk_iconst dL_comes_60 ?_
        have hfi := hf (i / 4) (by omega)
        refine kk_ior dL_comes_61 ?_
        refine kj_top (b := (f (i / 4)) * 256 + L.getD (k + i) 0) (by rw [kgd (by omega), hfi]; exact zor_add8 hb.1 (by have := hb.2.2 (by omega); omega) (by omega)) ?_
        refine kk_iast (F := kT w E1 L.length g σ G) (i := (i / 4)) rfl (by omega) (by omega) (by omega) dL_comes_62 ?_
        refine kj_iinc (b := ((i + 1 : Nat) : Int)) [zV0 (zB w + E1.length), zV0 (zB w + (E1.length + 261)), zi ((k : Nat) : Int), zV0 (zB w + (kT w E1 L.length g σ G).length), zi ((i + 1 : Nat) : Int)] dL_comes_63 rfl (by omega) (Nat.le_of_ble_eq_true rfl) rfl rfl ?_
        refine kk_goto (tgt := 17) dL_comes_66 (by decide) ?_
        exact ih (i + 1) _ (by omega) (kpw_s (c := (fun q => L.getD (k + q) 0)) hf) (by omega)
      · refine kk_aloadN dL_comes_49 rfl rfl ?_
        refine kk_iloadN dL_comes_50 rfl rfl ?_
        refine kk_iload dL_comes_51 rfl ?_
        refine kk_iadd dL_comes_53 ?_
        refine kj_top (b := ((k + i : Nat) : Int)) (by omega) ?_
        refine kk_callV [zi ((k + i : Nat) : Int)] (kStA hfl kT_sx kT_bx (by omega) (by omega) (hg _ (by omega)) (hL _)) rfl kT_sx rfl dL_comes_54 cw_RL_30 okJ0_charAt_5068e rfl (Nat.le_of_ble_eq_true rfl) ⟨Nat.le_of_ble_eq_true rfl, Nat.le_of_ble_eq_true rfl, by show _ ≤ _; simp only [kM, kRm]; omega, by show _ ≤ _; simp only [kM, kRm]; omega⟩ (fun q => kT_nx q _) (fun x q => by cases q; trivial) (fun E54 q54 _ => ?_)
        rw [q54]
        refine kk_goto (tgt := 61) dL_comes_57 (by decide) ?_
        have hfi := hf (i / 4) (by omega)
        refine kk_ior dL_comes_61 ?_
        refine kj_top (b := (f (i / 4)) * 256 + L.getD (k + i) 0) (by rw [hfi]; exact zor_add8 hb.1 (by have := hb.2.2 (by omega); omega) ⟨(hL _).1, by have := (hL (k + i)).2; omega⟩) ?_
        refine kk_iast (F := kT w E1 L.length g σ G) (i := (i / 4)) rfl (by omega) (by omega) (by omega) dL_comes_62 ?_
        refine kj_iinc (b := ((i + 1 : Nat) : Int)) [zV0 (zB w + E1.length), zV0 (zB w + (E1.length + 261)), zi ((k : Nat) : Int), zV0 (zB w + (kT w E1 L.length g σ G).length), zi ((i + 1 : Nat) : Int)] dL_comes_63 rfl (by omega) (Nat.le_of_ble_eq_true rfl) rfl rfl ?_
        refine kk_goto (tgt := 17) dL_comes_66 (by decide) ?_
        exact ih (i + 1) _ (by omega) (kpw_s (c := (fun q => L.getD (k + q) 0)) hf) (by omega)
set_option maxRecDepth 20000 in
set_option maxHeartbeats 2000000 in
theorem kcm_out {l : Launch} {w : zW} (hfl : l.stackTraces = false) {E1 E0 : List va_E} {L : List Int} {g : Nat → Int32} {P : List va_E → Prop} (hL : ∀ q, 0 ≤ L.getD q 0 ∧ L.getD q 0 < 128) (hl : L.length ≤ 600) (hg : ∀ j, j < L.length → g j = Int32.ofInt (L.getD j 0)) {σ0 : zS} {n d : Nat} (hn : n = (L.length + 19) / 20) (hE0 : E0.length = E1.length + 263 + d) (K : ∀ (τ : zS) (G : List va_E), zOK τ → txF σ0 τ → InC τ L → P (kT w E1 L.length g τ G)) : ∀ (N q : Nat) (σ : zS) (G : List va_E), q ≤ n → zOK σ → txF σ0 σ → InC σ (kPad L (20 * q)) → G.length = d + q → n + 1 - q < N → zK l w mL_comes (kM w 7 n (5 * n) none E0 P) false 2 [zV0 (zB w + E1.length), zV0 (zB w + (E1.length + 261)), zi ((20 * q : Nat) : Int), zu, zu] [] q (5 * q) (kT w E1 L.length g σ G) := by
  intro N
  induction N with
  | zero => intro q σ G _ _ _ _ _ h; exact absurd h (Nat.not_lt_zero _)
  | succ N ih =>
    intro q σ G hq hz hF hI hG hN
    refine kk_iloadN dL_comes_2 rfl rfl ?_
    refine kk_aloadN dL_comes_3 rfl rfl ?_
    refine kk_callV [] (kStL hfl kT_s kT_b (by omega)) rfl kT_s rfl dL_comes_4 cw_RL_25 okJ0_length_8abf5 rfl (Nat.le_of_ble_eq_true rfl) ⟨Nat.le_of_ble_eq_true rfl, Nat.le_of_ble_eq_true rfl, by show _ ≤ _; simp only [kM, kRm]; omega, by show _ ≤ _; simp only [kM, kRm]; omega⟩ (fun q_ => kT_ne q_ _) (fun x q => by cases q; trivial) (fun E4 q4 _ => ?_)
    rw [q4]
    refine kk_icmp_ge (tgt := 96) (by first | assumption | (unfold zr at *; omega)) (by first | assumption | (unfold zr at *; omega)) dL_comes_7 (by decide) (fun h7 => ?_) (fun h7 => ?_)
    · refine kk_aloadN dL_comes_96 rfl rfl ?_
      refine kk_aloadN dL_comes_97 rfl rfl ?_
      refine kk_callV [] (kStL hfl kT_s kT_b (by omega)) rfl kT_s rfl dL_comes_98 cw_RL_25 okJ0_length_8abf5 rfl (Nat.le_of_ble_eq_true rfl) ⟨Nat.le_of_ble_eq_true rfl, Nat.le_of_ble_eq_true rfl, by show _ ≤ _; simp only [kM, kRm]; omega, by show _ ≤ _; simp only [kM, kRm]; omega⟩ (fun q_ => kT_ne q_ _) (fun x q => by cases q; trivial) (fun E98 q98 _ => ?_)
      rw [q98]
      refine kk_callXV (v := kV w E1) rfl (E1 := E1) (E2 := _ :: _ :: G) (σ := σ) [zi ((L.length : Nat) : Int)] [zi ((L.length : Nat) : Int)] (sX9_truncate (L := kPad L (20 * q)) (x := ((L.length : Nat) : Int)) hfl hz (by unfold zr; omega) hI (by rw [kPad_l]; omega) (by rw [kPad_l]; omega)) rfl (kzi_ok _ [_]) rfl (by show 0 < 261; omega) rfl (by decide) rfl ⟨rfl, Or.inr ⟨Nat.one_ne_zero, rfl⟩⟩ kV_z (Or.inl rfl) dL_comes_101 cw_RL_38 okX9_truncate rfl (Nat.le_of_ble_eq_true rfl) ⟨Nat.le_of_ble_eq_true rfl, Nat.le_of_ble_eq_true rfl, by show _ ≤ _; simp only [kM, kRm]; omega, by show _ ≤ _; simp only [kM, kRm]; omega⟩ rfl (fun x q => by cases q; trivial) (fun τ hτ => ?_)
      show zK l w mL_comes _ false 104 _ _ _ _ (kT w E1 L.length g τ G)
      refine kj_istoreN [zV0 (zB w + E1.length), zV0 (zB w + (E1.length + 261)), zi ((L.length : Nat) : Int), zu, zu] dL_comes_104 rfl (Nat.le_of_ble_eq_true rfl) (Nat.le_of_ble_eq_true rfl) rfl rfl ?_
      refine kk_vret rfl dL_comes_105 ?_ ?_ ?_ ?_
      · exact K τ G hτ.1 (txF_tr hF hτ.2.1) (by have h := hτ.2.2; rw [Int.toNat_natCast, kPad_t (by omega)] at h; exact h)
      · rw [kT_len, hE0]; omega
      · omega
      · omega
    · refine kk_iconst dL_comes_10 ?_
      refine kk_newi (n := 5) (by omega) (by omega) rfl (fun q_ => kT_ne q_ _) kac_i (by show _ ≤ _; simp only [kM, kRm]; omega) (by show _ ≤ _; simp only [kM, kRm]; omega) dL_comes_11 ?_
      refine kk_astoreN dL_comes_13 rfl (Nat.le_of_ble_eq_true rfl) (Nat.le_of_ble_eq_true rfl) rfl ?_
      refine kk_iconst dL_comes_14 ?_
      refine kj_istore [zV0 (zB w + E1.length), zV0 (zB w + (E1.length + 261)), zi ((20 * q : Nat) : Int), zV0 (zB w + (kT w E1 L.length g σ G).length), zi 0] dL_comes_15 (Nat.le_of_ble_eq_true rfl) (Nat.le_of_ble_eq_true rfl) rfl rfl ?_
      refine kcm_in hfl hL hl hg (k := 20 * q) (kc := q + 1) (ks := 5 * q + 5) (by omega) (by omega) (by omega) (fun f hf => ?_) 22 0 _ (by omega) (fun j hj => by unfold kpw; rw [if_pos (by omega)]) (by omega)
      refine kk_aloadN dL_comes_69 rfl rfl ?_
      refine kk_aloadN dL_comes_70 rfl rfl ?_
      refine kk_iconst dL_comes_71 ?_
      refine kk_iald (i := 0) rfl (kIA_at _ _ _ _) (by omega) (by omega) (by omega) dL_comes_72 ?_
      refine kk_aloadN dL_comes_73 rfl rfl ?_
      refine kk_iconst dL_comes_74 ?_
      refine kk_iald (i := 1) rfl (kIA_at _ _ _ _) (by omega) (by omega) (by omega) dL_comes_75 ?_
      refine kk_aloadN dL_comes_76 rfl rfl ?_
      refine kk_iconst dL_comes_77 ?_
      refine kk_iald (i := 2) rfl (kIA_at _ _ _ _) (by omega) (by omega) (by omega) dL_comes_78 ?_
      refine kk_aloadN dL_comes_79 rfl rfl ?_
      refine kk_iconst dL_comes_80 ?_
      refine kk_iald (i := 3) rfl (kIA_at _ _ _ _) (by omega) (by omega) (by omega) dL_comes_81 ?_
      refine kk_aloadN dL_comes_82 rfl rfl ?_
      refine kk_iconst dL_comes_83 ?_
      refine kk_iald (i := 4) rfl (kIA_at _ _ _ _) (by omega) (by omega) (by omega) dL_comes_84 ?_
      rw [kT_app]
      refine kk_callXV (v := kV w E1) rfl (E1 := E1) (E2 := _ :: _ :: (G ++ [kIA w 5 f])) (σ := σ) [zi (f 0), zi (f 1), zi (f 2), zi (f 3), zi (f 4)] [zi (f 0), zi (f 1), zi (f 2), zi (f 3), zi (f 4)] (sX9_append (L := kPad L (20 * q)) hfl hz (by have := kpw_b (c := fun q_ => L.getD (20 * q + q_) 0) (fun q_ => hL _) 20 0; have := hf 0 (by omega); unfold zr; omega) (by have := kpw_b (c := fun q_ => L.getD (20 * q + q_) 0) (fun q_ => hL _) 20 1; have := hf 1 (by omega); unfold zr; omega) (by have := kpw_b (c := fun q_ => L.getD (20 * q + q_) 0) (fun q_ => hL _) 20 2; have := hf 2 (by omega); unfold zr; omega) (by have := kpw_b (c := fun q_ => L.getD (20 * q + q_) 0) (fun q_ => hL _) 20 3; have := hf 3 (by omega); unfold zr; omega) (by have := kpw_b (c := fun q_ => L.getD (20 * q + q_) 0) (fun q_ => hL _) 20 4; have := hf 4 (by omega); unfold zr; omega) hI (by rw [kPad_l]; omega) (by rw [kPad_l]; omega)) rfl (kzi_ok _ [_, _, _, _, _]) rfl (by show 0 < 261; omega) rfl (by decide) rfl ⟨rfl, Or.inr ⟨Nat.one_ne_zero, rfl⟩⟩ kV_z (Or.inl rfl) dL_comes_85 cw_RL_34 okX9_append rfl (Nat.le_of_ble_eq_true rfl) ⟨Nat.le_of_ble_eq_true rfl, Nat.le_of_ble_eq_true rfl, by show _ ≤ _; simp only [kM, kRm]; omega, by show _ ≤ _; simp only [kM, kRm]; omega⟩ rfl (fun x q => by cases q; trivial) (fun τ hτ => ?_)
      show zK l w mL_comes _ false 88 _ _ _ _ (kT w E1 L.length g τ (G ++ [kIA w 5 f]))
      refine kj_istore [zV0 (zB w + E1.length), zV0 (zB w + (E1.length + 261)), zi ((20 * q : Nat) : Int), zV0 (zB w + (kT w E1 L.length g σ G).length), zi (((kPad L (20 * q)).length + 20 : Nat) : Int)] dL_comes_88 (Nat.le_of_ble_eq_true rfl) (Nat.le_of_ble_eq_true rfl) rfl rfl ?_
      refine kj_iinc (b := ((20 * (q + 1) : Nat) : Int)) [zV0 (zB w + E1.length), zV0 (zB w + (E1.length + 261)), zi ((20 * (q + 1) : Nat) : Int), zV0 (zB w + (kT w E1 L.length g σ G).length), zi (((kPad L (20 * q)).length + 20 : Nat) : Int)] dL_comes_90 rfl (by omega) (Nat.le_of_ble_eq_true rfl) rfl rfl ?_
      refine kk_goto (tgt := 2) dL_comes_93 (by decide) ?_
      refine kj_drop 3 [zV0 (zB w + E1.length), zV0 (zB w + (E1.length + 261)), zi ((20 * (q + 1) : Nat) : Int), zu, zi (((kPad L (20 * q)).length + 20 : Nat) : Int)] rfl ?_
      refine kj_drop 4 [zV0 (zB w + E1.length), zV0 (zB w + (E1.length + 261)), zi ((20 * (q + 1) : Nat) : Int), zu, zu] rfl ?_
      have e := kb4w hL hf (j := 4) (by omega) (kb4w hL hf (j := 3) (by omega) (kb4w hL hf (j := 2) (by omega) (kb4w hL hf (j := 1) (by omega) (kb4w hL hf (j := 0) (by omega) rfl))))
      exact ih (q + 1) τ _ (by omega) hτ.1 (txF_tr hF hτ.2.1) (by rw [show 20 * (q + 1) = 20 * q + 4 * (4 + 1) by omega, ← e]; exact hτ.2.2) (by rw [List.length_append, hG]; rfl) (by omega)
set_option maxRecDepth 20000 in
set_option maxHeartbeats 2000000 in
theorem kComes {l : Launch} {w : zW} (hfl : l.stackTraces = false) {E1 G : List va_E} {L : List Int} {g : Nat → Int32} {σ : zS} (hL : ∀ q, 0 ≤ L.getD q 0 ∧ L.getD q 0 < 128) (hl : L.length ≤ 600) (hg : ∀ j, j < L.length → g j = Int32.ofInt (L.getD j 0)) (hz : zOK σ) (hI : σ.1 1 1 = 0) : kSp l w mL_comes 7 ((L.length + 19) / 20) (5 * ((L.length + 19) / 20)) [zV0 (zB w + E1.length), zV0 (zB w + (E1.length + 261))] (kT w E1 L.length g σ G) (none) (fun E' => ∃ (τ : zS) (G' : List va_E), E' = kT w E1 L.length g τ G' ∧ zOK τ ∧ txF σ τ ∧ InC τ L) := by
  refine kk_enter hfl (by decide) rfl false (fun q => absurd q (by decide)) 3 rfl ?_
  show zK l w mL_comes _ false 0 [zV0 (zB w + E1.length), zV0 (zB w + (E1.length + 261)), zu, zu, zu] [] 0 0 (kT w E1 L.length g σ G)
  refine kk_iconst dL_comes_0 ?_
  refine kj_istoreN [zV0 (zB w + E1.length), zV0 (zB w + (E1.length + 261)), zi 0, zu, zu] dL_comes_1 rfl (Nat.le_of_ble_eq_true rfl) (Nat.le_of_ble_eq_true rfl) rfl rfl ?_
  exact kcm_out hfl hL hl hg (d := G.length) rfl kT_len (fun τ G' h1 h2 h3 => ⟨τ, G', rfl, h1, h2, h3⟩) ((L.length + 19) / 20 + 2) 0 σ G (Nat.zero_le _) hz (txF_rf σ) ⟨hI, fun i hi => absurd hi (Nat.not_lt_zero i)⟩ rfl (by omega)

