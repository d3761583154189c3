theorem it_X10 : Cond.instantiable RJ4 4 ∈ zgood := zmem1 1216 (by decide +kernel) rfl
theorem it_X11 : Cond.instantiable RJ0 4 ∈ zgood := zmem1 1383 (by decide +kernel) rfl


/-! what holds at the law's entry, as the surroundings of every method -/
def zpre : List Cond := flatC (Jvm.Cond.and given_1 narrow_1)
def zFs : List (String × Nat) := [("ColophonDetective", 65), ("ColophonDetective", 71), ("ColophonDetective", 73), ("ColophonDetective", 75), ("ColophonDetective", 77), ("ColophonDetective", 79), ("ColophonDetective", 81), ("ColophonDetective$ConfigurationReader", 66), ("ColophonDetective$ConfigurationReader", 72), ("ColophonDetective$ConfigurationReader", 74), ("ColophonDetective$ConfigurationReader", 76), ("ColophonDetective$ConfigurationReader", 78), ("ColophonDetective$ConfigurationReader", 80), ("ColophonDetective$InputText", 75), ("ColophonDetective$InputText", 77), ("ColophonDetective", 327), ("ColophonDetective", 104), ("ColophonDetective", 117), ("ColophonDetective", 120), ("ColophonDetective", 371), ("ColophonDetective", 374), ("ColophonDetective", 376), ("ColophonDetective", 386), ("ColophonDetective", 322), ("ColophonDetective", 381), ("ColophonDetective", 391), ("ColophonDetective", 393), ("java/util/Arrays", 337), ("ColophonDetectiveLaw", 248), ("ColophonDetectiveLaw", 259), ("ColophonDetectiveLaw", 261), ("ColophonDetectiveLaw", 263)]
def zpos : List Nat := [259, 343, 394, 439, 473, 516, 579, 634, 645, 655, 663, 671, 682, 719, 727, 735, 762, 790, 808, 842, 878, 909, 946, 971, 1004, 1032, 1060, 1089, 1096, 1109, 1121, 1131]
def zeqp : List Nat := [0, 0, 0, 0, 0, 0, 0, 0, 0, 0, 0, 0, 0, 700, 709, 718, 0, 0, 0, 0, 0, 0, 0, 0, 0, 0, 0, 0, 0, 0, 0, 0, 0, 0, 0]
def zsrf : List Nat := [312, 369, 370, 371, 372, 373, 374, 409, 414, 415, 416, 417, 418, 485, 487, 488, 489, 490, 642, 695, 713, 728, 768, 775, 776, 966, 993, 1053, 1077, 1196, 1418, 1443, 1444, 1445, 1446]
def znsp : List Nat := [57, 87, 93, 99, 158, 223, 247, 256, 270, 301, 419, 451, 531, 751, 917]
def ztm (i : Nat) : Term := .string (zFs.getD i ("", 0)).1 (zFs.getD i ("", 0)).2
def zsw (i : Nat) : List Cond := [.exactly (ztm i) "java/lang/String", .eq (.field (ztm i) "java/lang/String" "coder" "B") (.int 0), .arrayOf (.field (ztm i) "java/lang/String" "value" "[B") .byte, .eq (.length (.field (ztm i) "java/lang/String" "value" "[B")) (.int (Int32.ofNat (zslen.getD i 0)))] ++ (List.range (zslen.getD i 0)).map (fun j => .eq (.elem (.field (ztm i) "java/lang/String" "value" "[B") (.int (Int32.ofNat j))) (.int ((zsbyt.getD i []).getD j 0)))
theorem zsw_ok : ∀ i, i < 32 → (zpre.drop (zpos.getD i 0)).take (4 + zslen.getD i 0) = zsw i := by decide +kernel
theorem zsw_in {i : Nat} (hi : i < 32) {x : Cond} (hx : x ∈ zsw i) : x ∈ zpre := by
  rw [← zsw_ok i hi] at hx
  exact List.mem_of_mem_drop (List.mem_of_mem_take hx)
theorem zsl_b : ∀ i, i < 32 → zslen.getD i 0 < 2 ^ 31 := by decide +kernel
def zdif (i j : Nat) : Bool := (zslen.getD i 0 != zslen.getD j 0) || (List.range (zslen.getD i 0)).any fun k => (zsbyt.getD i []).getD k 0 != (zsbyt.getD j []).getD k 0
theorem zdif_ok : ∀ i, i < 32 → ∀ j, j < 32 → i = j ∨ zdif i j = true := by decide +kernel
theorem zeqs_ok : ∀ k, k < 35 → (let q := zstrs.getD k ("", 0, "", 0); (zFs.getD q.2.2.2 ("", 0) = (q.1, q.2.1) ∨ zpre[zeqp.getD k 0]? = some (.eq (ztm q.2.2.2) (.string q.1 q.2.1))) ∧ lw_tbl[zsrf.getD k 0]? = some (.stringRef q.1 q.2.1 q.2.2.1) ∧ q.2.2.2 < 32) := by decide +kernel
theorem znsp_ok : ∀ k, k < 15 → (let q := znest.getD k ("", 0, ⟨"", "", ""⟩, ""); lw_tbl[znsp.getD k 0]? = some (.methodLinkNest q.1 q.2.1 q.2.2.1 q.2.2.2)) := by decide +kernel
theorem zstrs_l : zstrs.length = 35 := by decide +kernel
theorem znest_l : znest.length = 15 := by decide +kernel
theorem zt_eq {args : Array Value} {s : State} {t u : Term} {a : Nat} (h : (Cond.eq t u).before args s = true) (ht : t.eval args s none [] s = some (.ref a)) : u.eval args s none [] s = some (.ref a) := by
  cases hv : u.eval args s none [] s with
  | none => simp [Cond.before, Cond.holds, Cond.value, ht, hv] at h
  | some w =>
    simp only [Cond.before, Cond.holds, Cond.value, ht, hv] at h
    cases w <;> simp_all
theorem z_str1 {args : Array Value} {s : State} {A : Nat → Prop} (hq : ∀ x ∈ zpre, x.before args s = true) (hA : ∀ a : Nat, a < s.heap.size → ¬ A a) {i : Nat} (hi : i < 32) : ∃ k v : Nat, (va_O "java/lang/String" k A s s.heap ∧ va_OF "java/lang/String" "coder" "B" (.int 0) k A s s.heap ∧ va_OF "java/lang/String" "value" "[B" (.ref v) k A s s.heap ∧ va_T .byte v (zslen.getD i 0) (fun j => .int ((zsbyt.getD i []).getD j 0)) A s s.heap) ∧ (ztm i).eval args s none [] s = some (.ref k) := by
  have g : ∀ x ∈ zsw i, x.before args s = true := fun x hx => hq x (zsw_in hi hx)
  obtain ⟨aK, aV, h1, h2⟩ := vk_Sof (N := 1) (tm := fun _ => ztm i) (len := [zslen.getD i 0]) (byt := [zsbyt.getD i []]) (args := args) (s := s) (A := A) (fun j hj => by
      rw [show j = 0 by omega]; exact zsl_b i hi) (fun j hj => g _ (by unfold zsw; simp)) (fun j hj => g _ (by unfold zsw; simp)) (fun j hj => g _ (by unfold zsw; simp)) (fun j hj => by
      rw [show j = 0 by omega]; exact g _ (by unfold zsw; simp)) (fun j hj k hk => by
      rw [show j = 0 by omega] at hk ⊢
      refine g _ (List.mem_append_right _ (List.mem_map.mpr ⟨k, List.mem_range.mpr hk, rfl⟩))) (fun a c ha hc hn => by omega) hA
  exact ⟨aK 0, aV 0, h1.1 0 (by decide), h2 0 (by decide)⟩
theorem z_strs {args : Array Value} {s : State} {A : Nat → Prop} (hq : ∀ x ∈ zpre, x.before args s = true) (hA : ∀ a : Nat, a < s.heap.size → ¬ A a) : ∃ aK aV : Nat → Nat, vk_S zNS zslen zsbyt aK aV A s s.heap ∧ ∀ i, i < 32 → (ztm i).eval args s none [] s = some (.ref (aK i)) := by
  have h0 : ∀ i : Nat, ∃ q : Nat × Nat, i < 32 → (va_O "java/lang/String" q.1 A s s.heap ∧ va_OF "java/lang/String" "coder" "B" (.int 0) q.1 A s s.heap ∧ va_OF "java/lang/String" "value" "[B" (.ref q.2) q.1 A s s.heap ∧ va_T .byte q.2 (zslen.getD i 0) (fun j => .int ((zsbyt.getD i []).getD j 0)) A s s.heap) ∧ (ztm i).eval args s none [] s = some (.ref q.1) := fun i => by
    by_cases hi : i < 32
    · obtain ⟨k, v, h⟩ := z_str1 hq hA hi
      exact ⟨(k, v), fun _ => h⟩
    · exact ⟨(0, 0), fun h => absurd h hi⟩
  obtain ⟨ad, had⟩ := Classical.axiomOfChoice h0
  refine ⟨fun i => (ad i).1, fun i => (ad i).2, ⟨fun i hi => (had i hi).1, fun i j hi hj e => ?_⟩, fun i hi => (had i hi).2⟩
  rcases zdif_ok i hi j hj with h | h
  · exact h
  · exfalso
    obtain ⟨-, -, ⟨cf, k, fi, f, cell, a1, a2, a3, a4, a5, a6⟩, ⟨ci, b1, b2, b3, b4, b5, b6, b7⟩⟩ := (had i hi).1
    obtain ⟨-, -, ⟨cf', k', fi', f', cell', a1', a2', a3', a4', a5', a6'⟩, ⟨cj, c1, c2, c3, c4, c5, c6, c7⟩⟩ := (had j hj).1
    have e : (ad i).1 = (ad j).1 := e
    rw [a1'] at a1
    cases a1
    rw [e, a3'] at a3
    cases a3
    rw [a5'] at a5
    have ev : (ad j).2 = (ad i).2 := by
      have := Option.some.inj a5
      injection this
    rw [ev, b1] at c1
    cases c1
    rw [b5] at c5
    have en : zslen.getD i 0 = zslen.getD j 0 := by
      have h1 := congrArg Int32.toInt c5
      rw [Int32.toInt_ofNat_of_lt (zsl_b i hi), Int32.toInt_ofNat_of_lt (zsl_b j hj)] at h1
      omega
    unfold zdif at h
    rw [Bool.or_eq_true] at h
    rcases h with h | h
    · rw [en] at h; simp at h
    · obtain ⟨q, hq1, hq2⟩ := List.any_eq_true.mp h
      have hq1 := List.mem_range.mp hq1
      have g1 := b6 q hq1
      have g2 := c6 q (by rw [← en]; exact hq1)
      rw [g1] at g2
      have g3 := Option.some.inj g2
      injection g3 with g4
      rw [g4] at hq2
      simp at hq2
theorem z_arr {args : Array Value} {s : State} {ty : FieldType} (h : (Cond.arrayClass ty).before args s = true) (hty : ty = .int ∨ ty = .byte ∨ ty = .boolean ∨ ty = .long) : ∃ cA : ClassId, ArrOfT s cA ty ∧ va_RA s cA ty := by
  obtain ⟨c, k, comp, h1, h2, h3⟩ := Cond.arrayClass_spec h
  refine ⟨c, fun n z => ⟨fun k h => (by cases h), k, h2, comp, h3⟩, ?_⟩
  rcases hty with rfl | rfl | rfl | rfl <;> exact h1
theorem z_arrO {s : State} (h : (Cond.arrayOver (.object "ColophonDetective$Casebook")).before #[] s = true) : ∃ cA : ClassId, ArrOfT s cA (.object "ColophonDetective$Casebook") ∧ va_RA s cA (.object "ColophonDetective$Casebook") := by
  obtain ⟨comp, c, k, hc, hi, hk, hkind, hn⟩ := Cond.arrayOver_spec h
  exact ⟨c, fun n z => ⟨fun k h => (by cases h), k, hk, comp, hkind⟩, k, comp, hk, hkind, hc, hn⟩
theorem z_inst {k : Nat} {C : String} {T : u_T} {N : Nat} (h : vwCl[k]? = some (C, T, N)) : Cond.instantiable C N ∈ zgood := by
  have hk := (z_ucl h).2.2.2.2
  match k, h with
  | 0, h => cases h; exact it_X0
  | 1, h => cases h; exact it_X1
  | 2, h => cases h; exact it_X2
  | 3, h => cases h; exact it_X3
  | 4, h => cases h; exact it_X4
  | 5, h => cases h; exact it_X5
  | 6, h => cases h; exact it_X6
  | 7, h => cases h; exact it_X7
  | 8, h => cases h; exact it_X8
  | 9, h => cases h; exact it_X9
  | 10, h => cases h; exact it_X10
  | 11, h => cases h; exact it_X11
  | k + 12, h => omega
theorem z_ao {args : Array Value} {s : State} (hts : ∀ x ∈ lw_tbl, x.before args s = true) : (Cond.arrayOver (.object "ColophonDetective$Casebook")).before #[] s = true := (show (Cond.arrayOver (.object "ColophonDetective$Casebook")).before args s = true from hts _ (List.mem_of_getElem? (i := 255) (by decide +kernel)))
theorem zac_int : Cond.arrayClass .int ∈ lw_tbl := List.mem_of_getElem? (i := 155) (by decide +kernel)
theorem zac_byte : Cond.arrayClass .byte ∈ lw_tbl := List.mem_of_getElem? (i := 84) (by decide +kernel)
theorem zac_boolean : Cond.arrayClass .boolean ∈ lw_tbl := List.mem_of_getElem? (i := 202) (by decide +kernel)
def zncl : List (List Nat) := [[0, 229, 244], [257, 0, 243], [258, 230, 0]]
theorem znc_ok : ∀ i, i < 3 → ∀ j, j < 3 → i = j ∨ zpre[(zncl.getD i []).getD j 0]? = some (.not (.castable (zexs.getD i "") (zexs.getD j ""))) := by decide +kernel
def zdgt (n : String) : Term := .static "java/lang/Integer" n "[B"
theorem zdg1_ok : ∀ j, j < 100 → zpre[14 + j]? = some (.eq (.elem (zdgt "DigitOnes") (.int (Int32.ofNat j))) (.int (Int32.ofInt ((48 + j % 10 : Nat) : Int)))) := by decide +kernel
theorem zdg2_ok : ∀ j, j < 100 → zpre[117 + j]? = some (.eq (.elem (zdgt "DigitTens") (.int (Int32.ofNat j))) (.int (Int32.ofInt ((48 + j / 10 : Nat) : Int)))) := by decide +kernel
theorem z_dig {args : Array Value} {s : State} {A : Nat → Prop} {n : String} {f : Nat → Int32} (hl : (Cond.laysStatic "java/lang/Integer" n "[B").before args s = true) (hi : (Cond.initialized "java/lang/Integer").before args s = true) (ha : (Cond.arrayOf (zdgt n) .byte).before args s = true) (hn : (Cond.eq (.length (zdgt n)) (.int 100)).before args s = true) (he : ∀ j, j < 100 → (Cond.eq (.elem (zdgt n) (.int (Int32.ofNat j))) (.int (f j))).before args s = true) (hA : ∀ a : Nat, a < s.heap.size → ¬ A a) : ∃ i : Nat, va_Z "java/lang/Integer" n "[B" (.ref i) A s s.heap ∧ va_T .byte i 100 (fun j => .int (f j)) A s s.heap := by
  obtain ⟨t, h1, h2⟩ := va_Tof (tm := zdgt n) (N := 100) (f := fun j => .int (f j)) (by decide) ha (va_eqt hn) (fun j hj => va_eqt (he j hj)) hA
  exact ⟨t, va_Zof hl hi h1 hA, h2⟩
theorem z_ent {s : State} {b L : Nat} {xs : Nat → Int32} (hts : ∀ x ∈ lw_tbl, x.before #[Value.ref b] s = true) (hX : va_X b L xs s s.heap) (hbl : b < s.heap.size) (hgv : (Jvm.Cond.and given_1 narrow_1).before #[Value.ref b] s = true) : ∃ w : zW, zB w = s.heap.size ∧ zSb w = b ∧ zSL w = L ∧ zEnv w s ∧ zAO w s := by
  have hq : ∀ x ∈ zpre, x.before #[Value.ref b] s = true := flat_of_before _ hgv
  have hA : ∀ a : Nat, a < s.heap.size → ¬ (fun q : Nat => s.heap.size ≤ q ∧ ((0 : Nat) = 0 ∨ q < s.heap.size + 261)) a := fun a ha h => Nat.not_le.mpr ha h.1
  have hcl : ∀ k : Nat, ∃ x : ClassId × (Nat → Nat), ∀ q : vw_C, vwCl[k]? = some q → u_Kn s q.1 q.2.1 q.2.2 x.1 x.2 := fun k => by
    cases e : vwCl[k]? with
    | none => exact ⟨((0 : Nat), fun _ => 0), fun q h => by cases h⟩
    | some q =>
      obtain ⟨C, T, N⟩ := q
      obtain ⟨c, i, h⟩ := u_known (C := C) (T := T) (N := N) (n := N) (ws := lw_tbl) hts (fun x hx => (List.mem_filter.mp ((z_ucl e).1 x hx)).1) (hts _ (List.mem_filter.mp (z_inst e)).1)
      exact ⟨(c, i), fun q h => by cases h; exact h⟩
  obtain ⟨dD, hD⟩ := Classical.axiomOfChoice hcl
  have hao := z_ao hts
  obtain ⟨a0, p0⟩ := z_arr (hts _ zac_int) (Or.inl rfl)
  obtain ⟨a1, p1⟩ := z_arr (hts _ zac_byte) (Or.inr (Or.inl rfl))
  obtain ⟨a2, p2⟩ := z_arr (hts _ zac_boolean) (Or.inr (Or.inr (Or.inl rfl)))
  obtain ⟨a4, p4⟩ := z_arrO hao
  obtain ⟨aK, aV, hS, hev⟩ := z_strs hq hA
  obtain ⟨i1, d1, d2⟩ := z_dig (n := "DigitOnes") (hts _ (List.mem_of_getElem? (i := 1367) (by decide +kernel))) (hts _ (List.mem_of_getElem? (i := 30) (by decide +kernel))) (hq _ (List.mem_of_getElem? (i := 12) (by decide +kernel))) (hq _ (List.mem_of_getElem? (i := 13) (by decide +kernel))) (fun j hj => hq _ (List.mem_of_getElem? (zdg1_ok j hj))) hA
  obtain ⟨i2, d3, d4⟩ := z_dig (n := "DigitTens") (hts _ (List.mem_of_getElem? (i := 1369) (by decide +kernel))) (hts _ (List.mem_of_getElem? (i := 30) (by decide +kernel))) (hq _ (List.mem_of_getElem? (i := 115) (by decide +kernel))) (hq _ (List.mem_of_getElem? (i := 116) (by decide +kernel))) (fun j hj => hq _ (List.mem_of_getElem? (zdg2_ok j hj))) hA
  refine ⟨(s.heap.size, (fun k => (dD k).1, fun k => (dD k).2), (fun q => if q = 0 then a0 else if q = 1 then a1 else if q = 2 then a2 else if q = 3 then a0 else a4), aK, aV, (b, L, xs), 0, 0, (0, 0, 0, fun _ => 0, i1, i2)), rfl, rfl, rfl, ⟨Or.inl rfl, rfl, ⟨hD, ?_⟩, ?_, ?_, ?_, ?_, hS, ?_, hX, hbl, ?_, ?_, ?_⟩, rfl, hao, ⟨⟨d1, d2⟩, d3, d4⟩⟩
  · intro k q h
    match k, h with
    | 0, h => cases h; exact p0
    | 1, h => cases h; exact p1
    | 2, h => cases h; exact p2
    | 3, h => cases h; exact p0
    | 4, h => cases h; exact p4
    | k + 5, h => simp [ztys] at h
  · exact vx_Zqof (hts _ (List.mem_of_getElem? (i := 628) (by decide +kernel))) (hts _ (List.mem_of_getElem? (i := 41) (by decide +kernel))) (hq _ (List.mem_of_getElem? (i := 9) (by decide +kernel))) hA
  · exact vx_Zqof (hts _ (List.mem_of_getElem? (i := 630) (by decide +kernel))) (hts _ (List.mem_of_getElem? (i := 41) (by decide +kernel))) (hq _ (List.mem_of_getElem? (i := 10) (by decide +kernel))) hA
  · exact va_Zof (hts _ (List.mem_of_getElem? (i := 326) (by decide +kernel))) (hts _ (List.mem_of_getElem? (i := 22) (by decide +kernel))) (va_eqt (hq _ (List.mem_of_getElem? (i := 4) (by decide +kernel)))) hA
  · intro q h
    obtain ⟨k, hk, e⟩ := List.getElem_of_mem h
    have hk2 : k < 35 := by rw [← zstrs_l]; exact hk
    have h1 := zeqs_ok k hk2
    have h2 : zstrs.getD k ("", 0, "", 0) = q := by rw [List.getD_eq_getElem?_getD, List.getElem?_eq_getElem hk, e]; rfl
    rw [h2] at h1
    obtain ⟨h3, h4, h5⟩ := h1
    refine vk_R.of (hts _ (List.mem_of_getElem? h4)) ?_
    have h6 := hev _ h5
    rcases h3 with h3 | h3
    · have h7 : ztm q.2.2.2 = .string q.1 q.2.1 := by unfold ztm; rw [h3]
      rw [h7] at h6; exact h6
    · exact zt_eq (hq _ (List.mem_of_getElem? h3)) h6
  · intro q h
    obtain ⟨k, hk, e⟩ := List.getElem_of_mem h
    have hk2 : k < 15 := by rw [← znest_l]; exact hk
    have h1 := znsp_ok k hk2
    have h2 : znest.getD k ("", 0, ⟨"", "", ""⟩, "") = q := by rw [List.getD_eq_getElem?_getD, List.getElem?_eq_getElem hk, e]; rfl
    rw [h2] at h1
    exact va_Nw.of rfl (hts _ (List.mem_of_getElem? h1))
  · exact va_Zqof (hts _ (List.mem_of_getElem? (i := 342) (by decide +kernel))) (hts _ (List.mem_of_getElem? (i := 27) (by decide +kernel))) (hq _ (List.mem_of_getElem? (i := 5) (by decide +kernel))) hA
  · intro x hx
    have h1 := List.mem_filter.mp hx
    have h2 := h1.2
    simp only [Bool.and_eq_true] at h2
    exact va_Nw.of h2.1 (hts x h1.1)
  · intro E hE T hT hn
    obtain ⟨i, hi, rfl⟩ := List.getElem_of_mem hE
    obtain ⟨j, hj, rfl⟩ := List.getElem_of_mem hT
    have e1 : ∀ k (h : k < zexs.length), zexs.getD k "" = zexs[k] := fun k h => by rw [List.getD_eq_getElem?_getD, List.getElem?_eq_getElem h]; rfl
    rcases znc_ok i hi j hj with h | h
    · exact absurd (by simp [h]) hn
    · rw [e1 i hi, e1 j hj] at h
      exact va_Nc.of (hq _ (List.mem_of_getElem? h))

