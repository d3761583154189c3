
/-! ===== from the text's letters to the words of append ===== -/
theorem zor_add8 {a b : Int} (ha : 0 ≤ a) (ha2 : a < 8388608) (hb : 0 ≤ b ∧ b < 256) : zor (zshl a 8) b = a * 256 + b := by
  have e0 : zshl a 8 = a * 256 := zshl_nn ha (by omega) (by show a * 256 < 2147483648; omega)
  rw [e0]
  unfold zor
  rw [z_ti, Int32.toBitVec_or, BitVec.toNat_or]
  have h1 := z_nn (a * 256)
  have h2 := z_nn b
  have e1 : (Int32.ofInt (a * 256)).toBitVec.toNat = a.toNat <<< 8 := by rw [Nat.shiftLeft_eq]; omega
  have e2 : (Int32.ofInt b).toBitVec.toNat = b.toNat := by omega
  rw [e1, e2, ← Nat.shiftLeft_add_eq_or_of_lt (by show b.toNat < 256; omega), Nat.shiftLeft_eq]
  rw [if_pos (by omega)]
  omega
theorem kch_n : ∀ n : Nat, n < 128 → zc16 (n : Int) = (n : Int) ∧ narrow .char (.int (Int32.ofInt (n : Int))) = .int (Int32.ofInt (n : Int)) := by decide +kernel
theorem kch_v {v : Int} (h : 0 ≤ v ∧ v < 128) : zc16 v = v ∧ narrow .char (.int (Int32.ofInt v)) = .int (Int32.ofInt v) := by
  have h := kch_n v.toNat (by omega)
  rw [show ((v.toNat : Nat) : Int) = v by omega] at h
  exact h
def kIA (w : zW) (n : Nat) (g : Nat → Int) : va_E := .inl (zA w 0, n, .inl (fun j => Int32.ofInt (g j)))
def k0 (w : zW) (E : List va_E) : zW := zWv w (zB w + E.length) 0 0 0 0 0 (fun _ => 0)
section K91
variable {l : Launch} {w : zW} {m : zM} {M : zMo} {ini : Bool} {pc kc ks : Nat} {ls st : List zV} {E : List va_E}
theorem kk_newi {n : Nat} {a : Addr} {nn : Int} (hnn : nn = (n : Int)) (hn : n ≤ 65536) (ha : a = zB w + E.length) (hE0 : E = [] → kc = 0) (hw : Cond.arrayClass .int ∈ zgood) (hcells : kc + 1 ≤ M.1.cells) (hslots : ks + n ≤ M.1.slots) (hd : decode m.2.1 pc = .ok (.newarray .int, 2)) (kk : zK l w m M ini (pc + 2) ls (zV0 a :: st) (kc + 1) (ks + n) (E ++ [kIA w n (fun _ => 0)])) : zK l w m M ini pc ls (zi nn :: st) kc ks E := by
  subst hnn
  refine zk_newa (ty := .int) (q := 0) (a0 := (n, .inl (fun _ => 0))) ha hE0 hw rfl rfl (fun _ _ h => h) (fun _ => rfl) (fun h => ?_) ?_ (by show n * 4 ≤ 536870912; omega) hcells hslots hd kk
  · have := (z_lt (a := (n : Int)) (b := 0) (by unfold zr; omega) zr0).mp h; omega
  · show (Int32.ofInt (n : Int)).toInt.toNat = n
    rw [z_toInt (by unfold zr; omega)]; rfl
theorem kk_iald {k n i : Nat} {g : Nat → Int} {x : Int} {a : Addr} (ha : a = zB w + k) (he : E[k]? = some (kIA w n g)) (hx : x = (i : Int)) (hi : i < n) (hn : n ≤ 65536) (hd : decode m.2.1 pc = .ok (.iaload, 1)) (kk : zK l w m M ini (pc + 1) ls (zi (g i) :: st) kc ks E) : zK l w m M ini pc ls (zi x :: zV0 a :: st) kc ks E := by
  subst ha hx
  intro p e s mid args below meth c C hnK H locs Ls hR hS hl hol hos hsz
  obtain ⟨hin, e1⟩ := z_cl (a := (i : Int)) (n := n) (by omega) (by omega) (by omega)
  rw [Int.toNat_natCast] at e1
  have h := kk p e s mid args below meth c C hnK H locs Ls hR hS hl hol (zok_c trivial (zok_t (zok_t hos))) hsz
  refine va_iald C.1 C.2.1 C.2.2.2.2.2.2.2.2.1.2.2.1 hR k 0 (zLs_at he) (show (ztys w)[0]? = some (zA w 0, .int) from rfl) hin hd ?_
  rw [e1]
  exact h
theorem kk_bald {k n i : Nat} {f : Nat → Int32} {x v : Int} {a : Addr} (ha : a = zB w + k) (he : E[k]? = some (.inl (zA w 1, n, .inl f))) (hx : x = (i : Int)) (hi : i < n) (hn : n ≤ 65536) (hv : f i = Int32.ofInt v) (hd : decode m.2.1 pc = .ok (.baload, 1)) (kk : zK l w m M ini (pc + 1) ls (zi v :: st) kc ks E) : zK l w m M ini pc ls (zi x :: zV0 a :: st) kc ks E := by
  subst ha hx
  intro p e s mid args below meth c C hnK H locs Ls hR hS hl hol hos hsz
  obtain ⟨hin, e1⟩ := z_cl (a := (i : Int)) (n := n) (by omega) (by omega) (by omega)
  rw [Int.toNat_natCast] at e1
  have h := kk p e s mid args below meth c C hnK H locs Ls hR hS hl hol (zok_c trivial (zok_t (zok_t hos))) hsz
  refine va_bald C.1 C.2.1 C.2.2.2.2.2.2.2.2.1.2.2.1 hR k 1 (zLs_at he) (show (ztys w)[1]? = some (zA w 1, .byte) from rfl) hin hd ?_
  rw [e1, hv]
  exact h
theorem kk_iast {n i : Nat} {F : List va_E} {g : Nat → Int} {x v : Int} {a : Addr} (ha : a = zB w + F.length) (hx : x = (i : Int)) (hi : i < n) (hn : n ≤ 65536) (hd : decode m.2.1 pc = .ok (.iastore, 1)) (kk : zK l w m M ini (pc + 1) ls st kc ks (F ++ [kIA w n (fun j => if j = i then v else g j)])) : zK l w m M ini pc ls (zi v :: zi x :: zV0 a :: st) kc ks (F ++ [kIA w n g]) := by
  subst ha hx
  intro p e s mid args below meth c C hnK H locs Ls hR hS hl hol hos hsz
  obtain ⟨hin, e1⟩ := z_cl (a := (i : Int)) (n := n) (by omega) (by omega) (by omega)
  rw [Int.toNat_natCast] at e1
  have he : (F ++ [kIA w n g])[F.length]? = some (kIA w n g) := by simp
  refine va_iast C.1 C.2.1 C.2.2.2.2.2.2.2.2.1.2.2.1 hR (zLs_D hnK.2.1 _) hS F.length 0 (zLs_at he) (show (ztys w)[0]? = some (zA w 0, .int) from rfl) hin hd (fun H1 locs1 hP1 _ hS1 => ?_)
  have e2 : upd (fun j => Int32.ofInt (g j)) i (Int32.ofInt v) = fun j => Int32.ofInt (if j = i then v else g j) := by
    funext j
    unfold upd
    split <;> rfl
  rw [e1, e2, zLs_set] at hP1
  have e3 : (F ++ [kIA w n g]).set F.length (kIA w n (fun j => if j = i then v else g j)) = F ++ [kIA w n (fun j => if j = i then v else g j)] := by simp
  have hP1 : zR w ((F ++ [kIA w n g]).set F.length (kIA w n (fun j => if j = i then v else g j))) H1 := hP1
  rw [e3] at hP1
  exact kk p e s mid args below meth c C hnK H1 locs1 Ls hP1 hS1 hl hol (zok_t (zok_t (zok_t hos))) (by rw [hsz]; simp)
/-- a static method that needs no cells -/
theorem kk_callX0 {m' : zM} {h' ix np : Nat} (as as' : List zV) {σ : zS} {r : Option zV} {R : zS → Prop} (hsp : Sp l (k0 w E) m' h' 0 as σ (zqv r R)) (has : as'.map (zc w) = as.map (zc (k0 w E))) (hoka : ∀ x ∈ as, zok (k0 w E) x) (hd : decode m.2.1 pc = .ok (.invokestatic ix, 3)) (hw : zCwS m.1.cls ix m') (hm : zMok m' np) (hnp : as.length = np) (hst : (st.map zcat).sum ≤ 8) (hf : kfit M m' h' 0 0 kc ks) (hrv : r.map (zc (k0 w E)) = r.map (zc w)) (hrk : ∀ x ∈ r, zok w x) (kk : zK l w m M ini (pc + 3) ls (r.toList ++ st) kc ks E) : zK l w m M ini pc ls (as'.reverse ++ st) kc ks E := by
  have e : ∀ σ : zS, E ++ (kC (k0 w E) σ ++ []) = E := fun σ => by
    show E ++ ([] ++ []) = E
    simp
  have := kk_callXS (v := k0 w E) rfl (E1 := E) (E2 := []) (σ := σ) as as' hsp has hoka ⟨rfl, Or.inl rfl⟩ (by decide) (Or.inl rfl) hd hw hm hnp hst hf hrv hrk (fun τ _ => by rw [e]; exact kk)
  rw [e] at this
  exact this
end K91
theorem kzi_ok (v : zW) (as : List Int) : ∀ x ∈ as.map (fun a => zi a), zok v x := fun x hx => by
  obtain ⟨a, -, rfl⟩ := List.mem_map.mp hx
  exact trivial
theorem kIA_at (w : zW) (n : Nat) (g : Nat → Int) (F : List va_E) : (F ++ [kIA w n g])[F.length]? = some (kIA w n g) := by simp

set_option maxRecDepth 20000 in
set_option maxHeartbeats 2000000 in
theorem kStC {l : Launch} {w : zW} (hfl : l.stackTraces = false) {E : List va_E} {s b n : Nat} {g : Nat → Int32} (hS : E[s]? = some (.inr (11, [.ref (zB w + b), .int (Int32.ofInt 0), .int (Int32.ofInt 0), .int (Int32.ofInt 0)]))) (hF : E[b]? = some (.inl (zA w 1, n, .inl g))) (hn : n ≤ 60000) : kSp l w mJ0_coder_7d493 0 0 0 [zV0 (zB w + s)] E (some (zi 0)) (fun E' => E' = E) := by
  refine kk_enter hfl (by decide) rfl false (fun q => absurd q (by decide)) 0 rfl ?_
  show zK l w mJ0_coder_7d493 _ false 0 [zV0 (zB w + s)] [] 0 0 E
  refine kk_compact fs_RJ0_38 dJ0_coder_7d493_0 ?_
  refine kk_if_eq (tgt := 13) (by first | assumption | (unfold zr at *; omega)) dJ0_coder_7d493_3 (by decide) (fun h3 => ?_) (fun h3 => ?_)
  · exact absurd h3 (by decide)
  · refine kk_aloadN dJ0_coder_7d493_6 rfl rfl ?_
    refine kk_getf (v := zi 0) rfl kf_RJ0_15 hS rfl trivial dJ0_coder_7d493_7 ?_
    refine kk_goto (tgt := 14) dJ0_coder_7d493_10 (by decide) ?_
    refine kk_iret rfl rfl dJ0_coder_7d493_14 ?_ ?_ ?_ ?_
    · rfl
    · omega
    · omega
    · omega
set_option maxRecDepth 20000 in
set_option maxHeartbeats 2000000 in
theorem kStI {l : Launch} {w : zW} (hfl : l.stackTraces = false) {E : List va_E} {s b n : Nat} {g : Nat → Int32} (hS : E[s]? = some (.inr (11, [.ref (zB w + b), .int (Int32.ofInt 0), .int (Int32.ofInt 0), .int (Int32.ofInt 0)]))) (hF : E[b]? = some (.inl (zA w 1, n, .inl g))) (hn : n ≤ 60000) : kSp l w mJ0_isLatin1_aae02 0 0 0 [zV0 (zB w + s)] E (some (zi 1)) (fun E' => E' = E) := by
  refine kk_enter hfl (by decide) rfl false (fun q => absurd q (by decide)) 0 rfl ?_
  show zK l w mJ0_isLatin1_aae02 _ false 0 [zV0 (zB w + s)] [] 0 0 E
  refine kk_compact fs_RJ0_38 dJ0_isLatin1_aae02_0 ?_
  refine kk_if_eq (tgt := 17) (by first | assumption | (unfold zr at *; omega)) dJ0_isLatin1_aae02_3 (by decide) (fun h3 => ?_) (fun h3 => ?_)
  · exact absurd h3 (by decide)
  · refine kk_aloadN dJ0_isLatin1_aae02_6 rfl rfl ?_
    refine kk_getf (v := zi 0) rfl kf_RJ0_15 hS rfl trivial dJ0_isLatin1_aae02_7 ?_
    refine kk_if_ne (tgt := 17) (by first | assumption | (unfold zr at *; omega)) dJ0_isLatin1_aae02_10 (by decide) (fun h10 => ?_) (fun h10 => ?_)
    · exact absurd h10 (by decide)
    · refine kk_iconst dJ0_isLatin1_aae02_13 ?_
      refine kk_goto (tgt := 18) dJ0_isLatin1_aae02_14 (by decide) ?_
      refine kk_iret rfl rfl dJ0_isLatin1_aae02_18 ?_ ?_ ?_ ?_
      · rfl
      · omega
      · omega
      · omega
set_option maxRecDepth 20000 in
set_option maxHeartbeats 2000000 in
theorem kStL {l : Launch} {w : zW} (hfl : l.stackTraces = false) {E : List va_E} {s b n : Nat} {g : Nat → Int32} (hS : E[s]? = some (.inr (11, [.ref (zB w + b), .int (Int32.ofInt 0), .int (Int32.ofInt 0), .int (Int32.ofInt 0)]))) (hF : E[b]? = some (.inl (zA w 1, n, .inl g))) (hn : n ≤ 60000) : kSp l w mJ0_length_8abf5 1 0 0 [zV0 (zB w + s)] E (some (zi ((n : Nat) : Int))) (fun E' => E' = E) := by
  refine kk_enter hfl (by decide) rfl false (fun q => absurd q (by decide)) 0 rfl ?_
  show zK l w mJ0_length_8abf5 _ false 0 [zV0 (zB w + s)] [] 0 0 E
  refine kk_aloadN dJ0_length_8abf5_0 rfl rfl ?_
  refine kk_getf (v := zV0 (zB w + b)) rfl kf_RJ0_9 hS rfl trivial dJ0_length_8abf5_1 ?_
  refine kk_alen (q := 1) rfl hF rfl dJ0_length_8abf5_4 ?_
  refine kk_aloadN dJ0_length_8abf5_5 rfl rfl ?_
  refine kk_callV [] (kStC hfl (by first | assumption | omega) (by first | assumption | omega) (by first | assumption | omega)) rfl hS rfl dJ0_length_8abf5_6 cw_RJ0_335 okJ0_coder_7d493 rfl (Nat.le_of_ble_eq_true rfl) ⟨Nat.le_of_ble_eq_true rfl, Nat.le_of_ble_eq_true rfl, by show _ ≤ _; simp only [kM, kRm]; omega, by show _ ≤ _; simp only [kM, kRm]; omega⟩ (fun _ => rfl) (fun x q => by cases q; trivial) (fun E6 q6 _ => ?_)
  rw [q6]
  refine kk_ishr dJ0_length_8abf5_9 ?_
  refine kj_top (b := ((n : Nat) : Int)) (zshr_0 (by first | assumption | (unfold zr at *; omega))) ?_
  refine kk_iret rfl rfl dJ0_length_8abf5_10 ?_ ?_ ?_ ?_
  · rfl
  · omega
  · omega
  · omega
set_option maxRecDepth 20000 in
set_option maxHeartbeats 2000000 in
theorem kLaC {l : Launch} {w : zW} (hfl : l.stackTraces = false) {E : List va_E} {b n i : Nat} {g : Nat → Int32} {v : Int} (hF : E[b]? = some (.inl (zA w 1, n, .inl g))) (hn : n ≤ 60000) (hi : i < n) (hv : g i = Int32.ofInt v) (hv2 : 0 ≤ v ∧ v < 128) : kSp l w mJ1_charAt_3b067 2 0 0 [zV0 (zB w + b), zi ((i : Nat) : Int)] E (some (zi v)) (fun E' => E' = E) := by
  refine kk_enter hfl (by decide) rfl false (fun q => absurd q (by decide)) 0 rfl ?_
  show zK l w mJ1_charAt_3b067 _ false 0 [zV0 (zB w + b), zi ((i : Nat) : Int)] [] 0 0 E
  refine kk_iloadN dJ1_charAt_3b067_0 rfl rfl ?_
  refine kk_aloadN dJ1_charAt_3b067_1 rfl rfl ?_
  refine kk_alen (q := 1) rfl hF rfl dJ1_charAt_3b067_2 ?_
  refine kk_callX0 [zi ((i : Nat) : Int), zi ((n : Nat) : Int)] [zi ((i : Nat) : Int), zi ((n : Nat) : Int)] (sJ0_checkIndex_df160 (σ := zσ0) hfl zs_z (by unfold zr; omega) (by unfold zr; omega) (by omega)) rfl (kzi_ok _ [_, _]) dJ1_charAt_3b067_3 cw_RJ1_9 okJ0_checkIndex_df160 rfl (Nat.le_of_ble_eq_true rfl) ⟨Nat.le_of_ble_eq_true rfl, Nat.le_of_ble_eq_true rfl, by show _ ≤ _; simp only [kM, kRm]; omega, by show _ ≤ _; simp only [kM, kRm]; omega⟩ rfl (fun x q => by cases q) ?_
  refine kk_aloadN dJ1_charAt_3b067_6 rfl rfl ?_
  refine kk_iloadN dJ1_charAt_3b067_7 rfl rfl ?_
  refine kk_bald (i := i) (v := v) rfl hF (by omega) (by omega) (by omega) hv dJ1_charAt_3b067_8 ?_
  refine kk_sipush dJ1_charAt_3b067_9 rfl ?_
  refine kk_iand dJ1_charAt_3b067_12 ?_
  refine kj_top (b := v) (by rw [zand_255]; omega) ?_
  refine kk_i2c dJ1_charAt_3b067_13 ?_
  refine kj_top (b := v) ((kch_v hv2).1) ?_
  refine kk_iret rfl (kch_v hv2).2 dJ1_charAt_3b067_14 ?_ ?_ ?_ ?_
  · rfl
  · omega
  · omega
  · omega
set_option maxRecDepth 20000 in
set_option maxHeartbeats 2000000 in
theorem kStA {l : Launch} {w : zW} (hfl : l.stackTraces = false) {E : List va_E} {s b n : Nat} {g : Nat → Int32} {i : Nat} {v : Int} (hS : E[s]? = some (.inr (11, [.ref (zB w + b), .int (Int32.ofInt 0), .int (Int32.ofInt 0), .int (Int32.ofInt 0)]))) (hF : E[b]? = some (.inl (zA w 1, n, .inl g))) (hn : n ≤ 60000) (hi : i < n) (hv : g i = Int32.ofInt v) (hv2 : 0 ≤ v ∧ v < 128) : kSp l w mJ0_charAt_5068e 3 0 0 [zV0 (zB w + s), zi ((i : Nat) : Int)] E (some (zi v)) (fun E' => E' = E) := by
  refine kk_enter hfl (by decide) rfl false (fun q => absurd q (by decide)) 0 rfl ?_
  show zK l w mJ0_charAt_5068e _ false 0 [zV0 (zB w + s), zi ((i : Nat) : Int)] [] 0 0 E
  refine kk_aloadN dJ0_charAt_5068e_0 rfl rfl ?_
  refine kk_callV [] (kStI hfl (by first | assumption | omega) (by first | assumption | omega) (by first | assumption | omega)) rfl hS rfl dJ0_charAt_5068e_1 cw_RJ0_492 okJ0_isLatin1_aae02 rfl (Nat.le_of_ble_eq_true rfl) ⟨Nat.le_of_ble_eq_true rfl, Nat.le_of_ble_eq_true rfl, by show _ ≤ _; simp only [kM, kRm]; omega, by show _ ≤ _; simp only [kM, kRm]; omega⟩ (fun _ => rfl) (fun x q => by cases q; trivial) (fun E1 q1 _ => ?_)
  rw [q1]
  refine kk_if_eq (tgt := 16) (by first | assumption | (unfold zr at *; omega)) dJ0_charAt_5068e_4 (by decide) (fun h4 => ?_) (fun h4 => ?_)
  · exact absurd h4 (by decide)
  · refine kk_aloadN dJ0_charAt_5068e_7 rfl rfl ?_
    refine kk_getf (v := zV0 (zB w + b)) rfl kf_RJ0_9 hS rfl trivial dJ0_charAt_5068e_8 ?_
    refine kk_iloadN dJ0_charAt_5068e_11 rfl rfl ?_
    refine kk_callS [zV0 (zB w + b), zi ((i : Nat) : Int)] (kLaC hfl (by first | assumption | omega) (by first | assumption | omega) (by first | assumption | omega) (by first | assumption | omega) (by first | assumption | omega)) dJ0_charAt_5068e_12 cw_RJ0_495 okJ1_charAt_3b067 rfl (Nat.le_of_ble_eq_true rfl) ⟨Nat.le_of_ble_eq_true rfl, Nat.le_of_ble_eq_true rfl, by show _ ≤ _; simp only [kM, kRm]; omega, by show _ ≤ _; simp only [kM, kRm]; omega⟩ (fun _ => rfl) (fun x q => by cases q; trivial) (fun E12 q12 _ => ?_)
    rw [q12]
    refine kk_iret rfl (kch_v hv2).2 dJ0_charAt_5068e_15 ?_ ?_ ?_ ?_
    · rfl
    · omega
    · omega
    · omega

