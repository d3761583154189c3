section ZR2
variable {l : Launch} {w : zW} {m : zM} {M : zMo} {pc k : Nat} {ls st : List zV} {σ : zS}
theorem zall {ws : List Cond} (ps : List Nat) (h1 : ws.map some = ps.map (fun i => lw_tbl[i]?)) (h2 : ws.all goodWord = true) : ∀ x ∈ ws, x ∈ zgood := by
  intro x hx
  have h3 : some x ∈ ps.map (fun i => lw_tbl[i]?) := by rw [← h1]; exact List.mem_map.mpr ⟨x, hx, rfl⟩
  obtain ⟨i, -, hi⟩ := List.mem_map.mp h3
  exact List.mem_filter.mpr ⟨List.mem_of_getElem? hi, List.all_eq_true.mp h2 x hx⟩
theorem inzX0 : ∀ x ∈ u_ws RX0 TX0 13, x ∈ zgood := zall [128, 130, 132, 134, 136, 138, 140, 142, 144, 146, 148, 150, 152] (by decide +kernel) (by decide +kernel)
theorem inzX1 : ∀ x ∈ u_ws RX1 TX1 2, x ∈ zgood := zall [211, 213] (by decide +kernel) (by decide +kernel)
theorem inzX2 : ∀ x ∈ u_ws RX2 TX2 8, x ∈ zgood := zall [185, 187, 189, 191, 193, 195, 197, 199] (by decide +kernel) (by decide +kernel)
theorem inzX3 : ∀ x ∈ u_ws RX3 TX3 6, x ∈ zgood := zall [233, 235, 237, 239, 241, 243] (by decide +kernel) (by decide +kernel)
theorem inzX4 : ∀ x ∈ u_ws RX4 TX4 1, x ∈ zgood := zall [218] (by decide +kernel) (by decide +kernel)
theorem inzX5 : ∀ x ∈ u_ws RX5 TX5 3, x ∈ zgood := zall [261, 263, 265] (by decide +kernel) (by decide +kernel)
theorem inzX6 : ∀ x ∈ u_ws RX6 TX6 7, x ∈ zgood := zall [69, 71, 73, 75, 77, 79, 81] (by decide +kernel) (by decide +kernel)
theorem inzX7 : ∀ x ∈ u_ws RX7 TX7 7, x ∈ zgood := zall [284, 286, 288, 290, 292, 294, 296] (by decide +kernel) (by decide +kernel)
theorem inzX8 : ∀ x ∈ u_ws RX8 TX8 2, x ∈ zgood := zall [307, 309] (by decide +kernel) (by decide +kernel)
theorem inzX9 : ∀ x ∈ u_ws RX9 TX9 9, x ∈ zgood := zall [570, 572, 574, 576, 578, 580, 582, 584, 586] (by decide +kernel) (by decide +kernel)
theorem inzJ4 : ∀ x ∈ u_ws RJ4 TJ4 4, x ∈ zgood := zall [1236, 1238, 1240, 1242] (by decide +kernel) (by decide +kernel)
theorem inzJ0 : ∀ x ∈ u_ws RJ0 TJ0 4, x ∈ zgood := zall [1434, 1436, 1438, 1440] (by decide +kernel) (by decide +kernel)
theorem z_ucl {t : Nat} {C : String} {T : u_T} {N : Nat} (h : vwCl[t]? = some (C, T, N)) : (∀ x ∈ u_ws C T N, x ∈ zgood) ∧ (∃ ty0 : Nat → FieldType, ∀ k, k < N → parseFieldDescriptor (T k).2.2.1 = some (ty0 k)) ∧ (∀ a, a < N → ∀ b, b < N → a ≠ b → (T a).2.1 ≠ (T b).2.1) ∧ N = znf t ∧ t < 12 := by
  match t, h with
  | 0, h => cases h; exact ⟨inzX0, ⟨tyX0, tyX0_ok⟩, nmX0, by decide +kernel, by decide⟩
  | 1, h => cases h; exact ⟨inzX1, ⟨tyX1, tyX1_ok⟩, nmX1, by decide +kernel, by decide⟩
  | 2, h => cases h; exact ⟨inzX2, ⟨tyX2, tyX2_ok⟩, nmX2, by decide +kernel, by decide⟩
  | 3, h => cases h; exact ⟨inzX3, ⟨tyX3, tyX3_ok⟩, nmX3, by decide +kernel, by decide⟩
  | 4, h => cases h; exact ⟨inzX4, ⟨tyX4, tyX4_ok⟩, nmX4, by decide +kernel, by decide⟩
  | 5, h => cases h; exact ⟨inzX5, ⟨tyX5, tyX5_ok⟩, nmX5, by decide +kernel, by decide⟩
  | 6, h => cases h; exact ⟨inzX6, ⟨tyX6, tyX6_ok⟩, nmX6, by decide +kernel, by decide⟩
  | 7, h => cases h; exact ⟨inzX7, ⟨tyX7, tyX7_ok⟩, nmX7, by decide +kernel, by decide⟩
  | 8, h => cases h; exact ⟨inzX8, ⟨tyX8, tyX8_ok⟩, nmX8, by decide +kernel, by decide⟩
  | 9, h => cases h; exact ⟨inzX9, ⟨tyX9, tyX9_ok⟩, nmX9, by decide +kernel, by decide⟩
  | 10, h => cases h; exact ⟨inzJ4, ⟨tyJ4, tyJ4_ok⟩, nmJ4, by decide +kernel, by decide⟩
  | 11, h => cases h; exact ⟨inzJ0, ⟨tyJ0, tyJ0_ok⟩, nmJ0, by decide +kernel, by decide⟩
  | t + 12, h => simp [vwCl] at h
theorem zok_obj {t q : Nat} (ht : t < 100) (h : zok w (zf t q)) : q < zN w ∧ zsh q = t := by
  rcases h with ⟨h, -⟩ | h | h
  · omega
  · omega
  · exact h.2
theorem zc_f {t q : Nat} (ht : t < 100) : zc w (zf t q) = .ref (zB w + q) := by
  show Value.ref (zad w t q) = _
  unfold zad
  rw [if_neg (by omega), if_neg (by omega), if_neg (by omega), if_neg (by omega), if_neg (by omega), if_neg (by omega), if_neg (by omega)]
/-- a field's link in a class: the table's class t, its field i -/
def zFl (own : String) (ix t i : Nat) : Prop := ∃ (C : String) (T : u_T) (N : Nat), vwCl[t]? = some (C, T, N) ∧ i < N ∧ Cond.fieldLink own ix C (T i).2.1 (T i).2.2.1 ∈ zgood ∧ (T i).1 = C
def zFi (t i : Nat) (d : String) : Prop := ∃ (C : String) (T : u_T) (N : Nat), vwCl[t]? = some (C, T, N) ∧ (T i).2.2.2 = false ∧ (T i).2.2.1 = d
theorem zx_getI {t q i ix : Nat} (hf : zFl m.1.cls ix t i) (hk : zfk t i = none) (hd : decode m.2.1 pc = .ok (.getfield ix, 3)) (kk : zX l w m M (pc + 3) ls (zi (σ.1 q i) :: st) k σ) : zX l w m M pc ls (zf t q :: st) k σ := by
  intro p e s mid args below meth c C H locs Ls hR hS hl hol hos hc hs
  obtain ⟨Cn, T, N, hc1, hi, hlink, hC⟩ := hf
  obtain ⟨hin, -, -, hN, ht⟩ := z_ucl hc1
  obtain ⟨hq, hsq⟩ := zok_obj (by omega) (zok_h hos)
  have hat := zws_at (σ := σ) hq
  rw [zent_obj hsq (by omega)] at hat
  have hv : (zfs w σ t q)[i]? = some (.int (Int32.ofInt (σ.1 q i))) := by
    rw [zfs_at (by omega)]
    unfold zfv
    rw [hk]
  rw [List.map_cons, zc_f (by omega)]
  exact va_get C.1 C.2.1 C.2.2.2.2.2.2.1 hin C.2.2.2.2.2.1 C.2.2.2.2.2.2.2.2.1.2.2.1 hR q hat hc1 i hi (C.2.2.2.2.2.2.1 _ hlink) (fun x hx => by rw [← hC]; exact hx) hv hd (kk p e s mid args below meth c C H locs Ls hR hS hl hol (zok_c trivial (zok_t hos)) hc hs)
theorem zx_getR {t q i ix t' o : Nat} (hf : zFl m.1.cls ix t i) (hk : zfk t i = some (t', o)) (hd : decode m.2.1 pc = .ok (.getfield ix, 3)) (kk : zX l w m M (pc + 3) ls (zf t' (q + o) :: st) k σ) : zX l w m M pc ls (zf t q :: st) k σ := by
  intro p e s mid args below meth c C H locs Ls hR hS hl hol hos hc hs
  obtain ⟨Cn, T, N, hc1, hi, hlink, hC⟩ := hf
  obtain ⟨hin, -, -, hN, ht⟩ := z_ucl hc1
  obtain ⟨hq, hsq⟩ := zok_obj (by omega) (zok_h hos)
  have hcl := C.2.2.2.2.2.2.2.2.1.2.1
  obtain ⟨g1, g2, g3⟩ := zcl_f hcl hq hsq (by omega) hk
  have hat := zws_at (σ := σ) hq
  rw [zent_obj hsq (by omega)] at hat
  have hv : (zfs w σ t q)[i]? = some (zc w (zf t' (q + o))) := by
    rw [zfs_at (by omega), zc_f g1]
    unfold zfv
    rw [hk]
  rw [List.map_cons, zc_f (by omega)]
  exact va_get C.1 C.2.1 C.2.2.2.2.2.2.1 hin C.2.2.2.2.2.1 C.2.2.2.2.2.2.2.2.1.2.2.1 hR q hat hc1 i hi (C.2.2.2.2.2.2.1 _ hlink) (fun x hx => by rw [← hC]; exact hx) hv hd (kk p e s mid args below meth c C H locs Ls hR hS hl hol (zok_c (Or.inr (Or.inr ⟨g1, g2, g3⟩)) (zok_t hos)) hc hs)
theorem zx_putI {t q i ix : Nat} {v : Int} (hf : zFl m.1.cls ix t i) (hk : zfk t i = none) (hi2 : zFi t i "I" ∨ (zFi t i "Z" ∧ (v = 0 ∨ v = 1))) (hd : decode m.2.1 pc = .ok (.putfield ix, 3)) (kk : zX l w m M (pc + 3) ls st k (zput σ q i v)) : zX l w m M pc ls (zi v :: zf t q :: st) k σ := by
  intro p e s mid args below meth c C H locs Ls hR hS hl hol hos hc hs
  obtain ⟨Cn, T, N, hc1, hi, hlink, hC⟩ := hf
  obtain ⟨hin, ⟨ty0, hty⟩, hnm, hN, ht⟩ := z_ucl hc1
  obtain ⟨hq, hsq⟩ := zok_obj (by omega) (zok_h (zok_t hos))
  have hat := zws_at (σ := σ) hq
  rw [zent_obj hsq (by omega)] at hat
  obtain ⟨hfin, ty, hd1, hd2, hd3⟩ : (T i).2.2.2 = false ∧ ∃ ty : FieldType, parseFieldDescriptor (T i).2.2.1 = some ty ∧ narrow ty (.int (Int32.ofInt v)) = .int (Int32.ofInt v) ∧ fits ty (.int (Int32.ofInt v)) = true := by
    rcases hi2 with ⟨C2, T2, N2, h1, h2, h3⟩ | ⟨⟨C2, T2, N2, h1, h2, h3⟩, hv⟩
    · cases Option.some.inj (h1.symm.trans hc1)
      exact ⟨h2, .int, by rw [h3]; decide +kernel, rfl, rfl⟩
    · cases Option.some.inj (h1.symm.trans hc1)
      refine ⟨h2, .boolean, by rw [h3]; decide +kernel, ?_, ?_⟩
      · rcases hv with rfl | rfl <;> rfl
      · rcases hv with rfl | rfl <;> rfl
  have e1 := zfs_set (w := w) (σ := σ) (t := t) (k := q) (i := i) (v := v) (by omega) hk
  have e2 : (zws w σ).set q (zB w + q, .inr (t, (zfs w σ t q).set i (zc w (zi v)))) = zws w (zput σ q i v) := zws_set hq (fun j hj => zent_other j hj) (by rw [zent_obj hsq (by omega), ← e1]; rfl)
  rw [List.map_cons, List.map_cons, zc_f (by omega)]
  refine va_put C.1 C.2.1 C.2.2.2.2.2.2.1 hin ty0 hty hnm C.2.2.2.2.2.1 C.2.2.2.2.2.2.2.2.1.2.2.1 hR (zD_ok C.2.2.2.2.2.2.2.2.1.2.1 σ) hS q hat hc1 i hi (C.2.2.2.2.2.2.1 _ hlink) (fun x hx => by rw [← hC]; exact hx) hfin hd1 hd2 hd3 (by simp [zfs]; omega) hd (fun H1 locs1 hP1 _ hS1 => ?_)
  rw [e2] at hP1
  exact kk p e s mid args below meth c C H1 locs1 Ls hP1 hS1 hl hol (zok_t (zok_t hos)) hc hs
theorem zar_lt {t q n : Nat} (ha : zar t = (q, n)) (hn : q ≠ 9) (h : ¬ t < 20) : t < 29 := by
  unfold zar at ha
  rw [List.getD_eq_getElem?_getD] at ha
  by_cases h1 : t < 29
  · exact h1
  · rw [List.getElem?_eq_none (by simp [zarL]; omega)] at ha
    cases ha
    exact absurd rfl hn
theorem z_ty (q : Nat) (ty : FieldType) (h : (q = 0 ∧ ty = .int) ∨ (q = 1 ∧ ty = .byte) ∨ (q = 2 ∧ ty = .boolean)) : (ztys w)[q]? = some (zA w q, ty) := by
  rcases h with ⟨rfl, rfl⟩ | ⟨rfl, rfl⟩ | ⟨rfl, rfl⟩ <;> rfl
theorem zx_iald {t q n : Nat} {a : Int} (ha : zar t = (0, n)) (ht : ¬ t < 20) (h0 : 0 ≤ a) (h1 : a < (n : Int)) (hn : n < 2147483648) (hd : decode m.2.1 pc = .ok (.iaload, 1)) (kk : zX l w m M (pc + 1) ls (zi (σ.1 q a.toNat) :: st) k σ) : zX l w m M pc ls (zi a :: zf t q :: st) k σ := by
  intro p e s mid args below meth c C H locs Ls hR hS hl hol hos hc hs
  have ht2 := zar_lt ha (by decide) ht
  obtain ⟨hq, hsq⟩ := zok_obj (by omega) (zok_h (zok_t hos))
  have hat := zws_at (σ := σ) hq
  rw [zent_arr hsq ht ha (by decide) (by decide)] at hat
  obtain ⟨hin, e1⟩ := z_cl h0 h1 hn
  have h := kk p e s mid args below meth c C H locs Ls hR hS hl hol (zok_c trivial (zok_t (zok_t hos))) hc hs
  rw [← e1] at h
  rw [List.map_cons, List.map_cons, zc_f (by omega)]
  exact va_iald C.1 C.2.1 C.2.2.2.2.2.2.2.2.1.2.2.1 hR q 0 hat (z_ty 0 .int (Or.inl ⟨rfl, rfl⟩)) hin hd h
theorem zx_bald {t q n : Nat} {a : Int} (ha : zar t = (1, n)) (ht : ¬ t < 20) (h0 : 0 ≤ a) (h1 : a < (n : Int)) (hn : n < 2147483648) (hd : decode m.2.1 pc = .ok (.baload, 1)) (kk : zX l w m M (pc + 1) ls (zi (σ.1 q a.toNat) :: st) k σ) : zX l w m M pc ls (zi a :: zf t q :: st) k σ := by
  intro p e s mid args below meth c C H locs Ls hR hS hl hol hos hc hs
  have ht2 := zar_lt ha (by decide) ht
  obtain ⟨hq, hsq⟩ := zok_obj (by omega) (zok_h (zok_t hos))
  have hat := zws_at (σ := σ) hq
  rw [zent_arr hsq ht ha (by decide) (by decide)] at hat
  obtain ⟨hin, e1⟩ := z_cl h0 h1 hn
  have h := kk p e s mid args below meth c C H locs Ls hR hS hl hol (zok_c trivial (zok_t (zok_t hos))) hc hs
  rw [← e1] at h
  rw [List.map_cons, List.map_cons, zc_f (by omega)]
  exact va_bald C.1 C.2.1 C.2.2.2.2.2.2.2.2.1.2.2.1 hR q 1 hat (z_ty 1 .byte (Or.inr (Or.inl ⟨rfl, rfl⟩))) hin hd h
theorem zx_zald {t q n : Nat} {a : Int} (ha : zar t = (2, n)) (ht : ¬ t < 20) (h0 : 0 ≤ a) (h1 : a < (n : Int)) (hn : n < 2147483648) (hd : decode m.2.1 pc = .ok (.baload, 1)) (kk : zX l w m M (pc + 1) ls (zi (σ.1 q a.toNat) :: st) k σ) : zX l w m M pc ls (zi a :: zf t q :: st) k σ := by
  intro p e s mid args below meth c C H locs Ls hR hS hl hol hos hc hs
  have ht2 := zar_lt ha (by decide) ht
  obtain ⟨hq, hsq⟩ := zok_obj (by omega) (zok_h (zok_t hos))
  have hat := zws_at (σ := σ) hq
  rw [zent_arr hsq ht ha (by decide) (by decide)] at hat
  obtain ⟨hin, e1⟩ := z_cl h0 h1 hn
  have h := kk p e s mid args below meth c C H locs Ls hR hS hl hol (zok_c trivial (zok_t (zok_t hos))) hc hs
  rw [← e1] at h
  rw [List.map_cons, List.map_cons, zc_f (by omega)]
  exact va_zald C.1 C.2.1 C.2.2.2.2.2.2.2.2.1.2.2.1 hR q 2 hat (z_ty 2 .boolean (Or.inr (Or.inr ⟨rfl, rfl⟩))) hin hd h
/-- an array's place written -/
theorem zws_arr {t q kd n : Nat} {a v : Int} {x : Int32} (hq : q < zN w) (hsq : zsh q = t) (ht : ¬ t < 20) (ha : zar t = (kd, n)) (h3 : kd ≠ 3) (h4 : kd ≠ 4) (e1 : (Int32.ofInt a).toNatClampNeg = a.toNat) (hx : x = Int32.ofInt v) : (zws w σ).set q (zB w + q, .inl (zA w kd, n, .inl (upd (fun i => Int32.ofInt (σ.1 q i)) (Int32.ofInt a).toNatClampNeg x))) = zws w (zput σ q a.toNat v) := by
  refine zws_set hq (fun j hj => zent_other j hj) ?_
  rw [zent_arr hsq ht ha h3 h4]
  congr 4
  funext j
  rw [e1, hx]
  unfold upd zput
  by_cases hj : j = a.toNat
  · simp [hj]
  · simp [hj]
theorem zx_iast {t q n : Nat} {a v : Int} (ha : zar t = (0, n)) (ht : ¬ t < 20) (h0 : 0 ≤ a) (h1 : a < (n : Int)) (hn : n < 2147483648) (hd : decode m.2.1 pc = .ok (.iastore, 1)) (kk : zX l w m M (pc + 1) ls st k (zput σ q a.toNat v)) : zX l w m M pc ls (zi v :: zi a :: zf t q :: st) k σ := by
  intro p e s mid args below meth c C H locs Ls hR hS hl hol hos hc hs
  have ht2 := zar_lt ha (by decide) ht
  obtain ⟨hq, hsq⟩ := zok_obj (by omega) (zok_h (zok_t (zok_t hos)))
  have hat := zws_at (σ := σ) hq
  rw [zent_arr hsq ht ha (by decide) (by decide)] at hat
  obtain ⟨hin, e1⟩ := z_cl h0 h1 hn
  rw [List.map_cons, List.map_cons, List.map_cons, zc_f (by omega)]
  refine va_iast C.1 C.2.1 C.2.2.2.2.2.2.2.2.1.2.2.1 hR (zD_ok C.2.2.2.2.2.2.2.2.1.2.1 σ) hS q 0 hat (z_ty 0 .int (Or.inl ⟨rfl, rfl⟩)) hin hd (fun H1 locs1 hP1 _ hS1 => ?_)
  rw [zws_arr hq hsq ht ha (by decide) (by decide) e1 rfl] at hP1
  exact kk p e s mid args below meth c C H1 locs1 Ls hP1 hS1 hl hol (zok_t (zok_t (zok_t hos))) hc hs
theorem zx_bast {t q n : Nat} {a v : Int} (ha : zar t = (1, n)) (ht : ¬ t < 20) (h0 : 0 ≤ a) (h1 : a < (n : Int)) (hn : n < 2147483648) (hd : decode m.2.1 pc = .ok (.bastore, 1)) (kk : zX l w m M (pc + 1) ls st k (zput σ q a.toNat (zb8 v))) : zX l w m M pc ls (zi v :: zi a :: zf t q :: st) k σ := by
  intro p e s mid args below meth c C H locs Ls hR hS hl hol hos hc hs
  have ht2 := zar_lt ha (by decide) ht
  obtain ⟨hq, hsq⟩ := zok_obj (by omega) (zok_h (zok_t (zok_t hos)))
  have hat := zws_at (σ := σ) hq
  rw [zent_arr hsq ht ha (by decide) (by decide)] at hat
  obtain ⟨hin, e1⟩ := z_cl h0 h1 hn
  rw [List.map_cons, List.map_cons, List.map_cons, zc_f (by omega)]
  refine va_bast C.1 C.2.1 C.2.2.2.2.2.2.2.2.1.2.2.1 hR (zD_ok C.2.2.2.2.2.2.2.2.1.2.1 σ) hS q 1 hat (z_ty 1 .byte (Or.inr (Or.inl ⟨rfl, rfl⟩))) hin hd (fun H1 locs1 hP1 _ hS1 => ?_)
  rw [zws_arr (v := zb8 v) hq hsq ht ha (by decide) (by decide) e1 (by rw [vp_nar_byte]; unfold zb8; rw [z_of])] at hP1
  exact kk p e s mid args below meth c C H1 locs1 Ls hP1 hS1 hl hol (zok_t (zok_t (zok_t hos))) hc hs
theorem zx_zast {t q n : Nat} {a v : Int} (ha : zar t = (2, n)) (ht : ¬ t < 20) (hv : v = 0 ∨ v = 1) (h0 : 0 ≤ a) (h1 : a < (n : Int)) (hn : n < 2147483648) (hd : decode m.2.1 pc = .ok (.bastore, 1)) (kk : zX l w m M (pc + 1) ls st k (zput σ q a.toNat v)) : zX l w m M pc ls (zi v :: zi a :: zf t q :: st) k σ := by
  intro p e s mid args below meth c C H locs Ls hR hS hl hol hos hc hs
  have ht2 := zar_lt ha (by decide) ht
  obtain ⟨hq, hsq⟩ := zok_obj (by omega) (zok_h (zok_t (zok_t hos)))
  have hat := zws_at (σ := σ) hq
  rw [zent_arr hsq ht ha (by decide) (by decide)] at hat
  obtain ⟨hin, e1⟩ := z_cl h0 h1 hn
  rw [List.map_cons, List.map_cons, List.map_cons, zc_f (by omega)]
  refine va_zast C.1 C.2.1 C.2.2.2.2.2.2.2.2.1.2.2.1 hR (zD_ok C.2.2.2.2.2.2.2.2.1.2.1 σ) hS q 2 hat (z_ty 2 .boolean (Or.inr (Or.inr ⟨rfl, rfl⟩))) hin hd (fun H1 locs1 hP1 _ hS1 => ?_)
  rw [zws_arr (v := v) hq hsq ht ha (by decide) (by decide) e1 (by rcases hv with rfl | rfl <;> rfl)] at hP1
  exact kk p e s mid args below meth c C H1 locs1 Ls hP1 hS1 hl hol (zok_t (zok_t (zok_t hos))) hc hs
theorem zx_alen {t q kd n : Nat} (ha : zar t = (kd, n)) (h9 : kd ≠ 9) (h3 : kd = 0 ∨ kd = 1 ∨ kd = 2) (ht : ¬ t < 20) (hd : decode m.2.1 pc = .ok (.arraylength, 1)) (kk : zX l w m M (pc + 1) ls (zi (n : Int) :: st) k σ) : zX l w m M pc ls (zf t q :: st) k σ := by
  intro p e s mid args below meth c C H locs Ls hR hS hl hol hos hc hs
  have ht2 := zar_lt ha h9 ht
  obtain ⟨hq, hsq⟩ := zok_obj (by omega) (zok_h hos)
  have hat := zws_at (σ := σ) hq
  rw [zent_arr hsq ht ha (by omega) (by omega)] at hat
  rw [List.map_cons, zc_f (by omega)]
  obtain ⟨ty, hty⟩ : ∃ ty : FieldType, (ztys w)[kd]? = some (zA w kd, ty) := by rcases h3 with rfl | rfl | rfl <;> exact ⟨_, rfl⟩
  exact va_alen C.1 C.2.1 C.2.2.2.2.2.2.2.2.1.2.2.1 hR q kd hat hty (v := Int32.ofInt (n : Int)) (Int32.ofInt_eq_ofNat).symm hd (kk p e s mid args below meth c C H locs Ls hR hS hl hol (zok_c trivial (zok_t hos)) hc hs)
theorem zx_alenQ {q : Nat} (hd : decode m.2.1 pc = .ok (.arraylength, 1)) (kk : zX l w m M (pc + 1) ls (zi 9 :: st) k σ) : zX l w m M pc ls (zf 26 q :: st) k σ := by
  intro p e s mid args below meth c C H locs Ls hR hS hl hol hos hc hs
  obtain ⟨hq, hsq⟩ := zok_obj (by omega) (zok_h hos)
  have hat := zws_at (σ := σ) hq
  rw [zent_arrQ (n := 9) hsq (by decide) rfl] at hat
  rw [List.map_cons, zc_f (by omega)]
  exact va_alen C.1 C.2.1 C.2.2.2.2.2.2.2.2.1.2.2.1 hR q 4 hat (show (ztys w)[4]? = some (zA w 4, .object "ColophonDetective$Casebook") from rfl) (v := Int32.ofInt 9) rfl hd (kk p e s mid args below meth c C H locs Ls hR hS hl hol (zok_c trivial (zok_t hos)) hc hs)
theorem zx_aald {q : Nat} {a : Int} (h0 : 0 ≤ a) (h1 : a < 9) (hd : decode m.2.1 pc = .ok (.aaload, 1)) (kk : zX l w m M (pc + 1) ls (zf 1 (q + 1 + 20 * a.toNat) :: st) k σ) : zX l w m M pc ls (zi a :: zf 26 q :: st) k σ := by
  intro p e s mid args below meth c C H locs Ls hR hS hl hol hos hc hs
  obtain ⟨hq, hsq⟩ := zok_obj (by omega) (zok_h (zok_t hos))
  have hat := zws_at (σ := σ) hq
  rw [zent_arrQ (n := 9) hsq (by decide) rfl] at hat
  obtain ⟨hin, e1⟩ := z_cl (n := 9) h0 h1 (by decide)
  obtain ⟨g1, g2⟩ := zcl_q (i := a.toNat) C.2.2.2.2.2.2.2.2.1.2.1 hq hsq (by omega)
  have h := kk p e s mid args below meth c C H locs Ls hR hS hl hol (zok_c (Or.inr (Or.inr ⟨by decide, g1, g2⟩)) (zok_t (zok_t hos))) hc hs
  rw [List.map_cons, zc_f (by decide), ← e1] at h
  rw [List.map_cons, List.map_cons, zc_f (by omega)]
  exact va_aldq C.1 C.2.1 C.2.2.2.2.2.2.2.2.1.2.2.1 hR q 4 hat (show (ztys w)[4]? = some (zA w 4, .object "ColophonDetective$Casebook") from rfl) hin hd h
theorem zx_ifnull {t q : Nat} {off : Int} (hd : decode m.2.1 pc = .ok (.ifnull off, 3)) (kk : zX l w m M (pc + 3) ls st k σ) : zX l w m M pc ls (zf t q :: st) k σ := by
  intro p e s mid args below meth c C H locs Ls hR hS hl hol hos hc hs
  exact lv_ifnull C.1 C.2.1 hd (kk p e s mid args below meth c C H locs Ls hR hS hl hol (zok_t hos) hc hs)
theorem zx_tableIn {a dflt lo hi off : Int} {offs : Array Int} {len tgt : Nat} (hz : zr a) (hd : decode m.2.1 pc = .ok (.tableswitch dflt lo hi offs, len)) (h1 : lo ≤ a) (h2 : a ≤ hi) (ho : offs[(a - lo).toNat]? = some off) (ht : (pc : Int) + off = (tgt : Int)) (kk : zX l w m M tgt ls st k σ) : zX l w m M pc ls (zi a :: st) k σ := by
  intro p e s mid args below meth c C H locs Ls hR hS hl hol hos hc hs
  exact lv_tableIn C.1 C.2.1 hd (by rw [z_toInt hz]; omega) (by rw [z_toInt hz]; omega) (by rw [z_toInt hz]; exact ho) ht (kk p e s mid args below meth c C H locs Ls hR hS hl hol (zok_t hos) hc hs)
theorem zx_tableOut {a dflt lo hi : Int} {offs : Array Int} {len tgt : Nat} (hz : zr a) (hd : decode m.2.1 pc = .ok (.tableswitch dflt lo hi offs, len)) (h1 : a < lo ∨ hi < a) (ht : (pc : Int) + dflt = (tgt : Int)) (kk : zX l w m M tgt ls st k σ) : zX l w m M pc ls (zi a :: st) k σ := by
  intro p e s mid args below meth c C H locs Ls hR hS hl hol hos hc hs
  exact lv_tableOut C.1 C.2.1 hd (by rw [z_toInt hz]; exact h1) ht (kk p e s mid args below meth c C H locs Ls hR hS hl hol (zok_t hos) hc hs)
theorem zx_lookup {a dflt off : Int} {ps : Array (Int × Int)} {len tgt : Nat} (hz : zr a) (hd : decode m.2.1 pc = .ok (.lookupswitch dflt ps, len)) (hp : (ps.toList.zip (ps.toList.drop 1)).all (fun (a, next) => a.1 < next.1) = true) (ho : Op.lookupswitch.offset ps.toList dflt a = off) (ht : (pc : Int) + off = (tgt : Int)) (kk : zX l w m M tgt ls st k σ) : zX l w m M pc ls (zi a :: st) k σ := by
  intro p e s mid args below meth c C H locs Ls hR hS hl hol hos hc hs
  exact lv_lookup C.1 C.2.1 hd hp (by rw [z_toInt hz]; exact ho) ht (kk p e s mid args below meth c C H locs Ls hR hS hl hol (zok_t hos) hc hs)
theorem zx_i2d {a : Int} (hd : decode m.2.1 pc = .ok (.i2d, 1)) (kk : zX l w m M (pc + 1) ls (zd (FP.i2d (Int32.ofInt a)) :: st) k σ) : zX l w m M pc ls (zi a :: st) k σ := by
  intro p e s mid args below meth c C H locs Ls hR hS hl hol hos hc hs
  exact lv_i2d C.1 C.2.1 hd (kk p e s mid args below meth c C H locs Ls hR hS hl hol (zok_c trivial (zok_t hos)) hc hs)
theorem zx_ddiv {x y : UInt64} (hn : vf_n64 (FP.ddiv x y)) (hd : decode m.2.1 pc = .ok (.ddiv, 1)) (kk : zX l w m M (pc + 1) ls (zd (FP.ddiv x y) :: st) k σ) : zX l w m M pc ls (zd y :: zd x :: st) k σ := by
  intro p e s mid args below meth c C H locs Ls hR hS hl hol hos hc hs
  exact lv_ddiv C.1 C.2.1 hd hn (kk p e s mid args below meth c C H locs Ls hR hS hl hol (zok_c trivial (zok_t (zok_t hos))) hc hs)
theorem zx_dcmp {x y : UInt64} {op : CmpOp} {a : Int} (ha : Op.cmpValue (FP.dcmp x y) op = Int32.ofInt a) (hd : decode m.2.1 pc = .ok (.dcmp op, 1)) (kk : zX l w m M (pc + 1) ls (zi a :: st) k σ) : zX l w m M pc ls (zd y :: zd x :: st) k σ := by
  intro p e s mid args below meth c C H locs Ls hR hS hl hol hos hc hs
  refine lv_dcmp C.1 C.2.1 hd ?_
  rw [ha]
  exact kk p e s mid args below meth c C H locs Ls hR hS hl hol (zok_c trivial (zok_t (zok_t hos))) hc hs
theorem zx_dstore {j : Nat} {x : UInt64} (hd : decode m.2.1 pc = .ok (.dstore j, 2)) (hj : j + 1 < ls.length) (hn : j + 1 < m.2.2.1) (hp : zprev ls j = true) (kk : zX l w m M (pc + 2) ((ls.set j (zd x)).set (j + 1) zu) st k σ) : zX l w m M pc ls (zd x :: st) k σ := by
  intro p e s mid args below meth c C H locs Ls hR hS hl hol hos hc hs
  refine lv_dstore C.1 C.2.1 hd hl hn rfl (fun Ls' hl' => kk p e s mid args below meth c C H locs Ls' hR hS ⟨hl'.1, hl'.2.1, fun q hq => hl'.2.2 q ?_⟩ (zok_set trivial (zok_set trivial hol)) (zok_t hos) hc hs)
  obtain ⟨i, y, h1, h2, h3⟩ := zps_mem.mp hq
  by_cases hi1 : i = j + 1
  · subst hi1
    rw [List.getElem?_set_self (by simpa using hj)] at h1
    cases h1
    cases h2
  · rw [List.getElem?_set_ne (fun q => hi1 q.symm)] at h1
    by_cases hi : i = j
    · subst hi
      rw [List.getElem?_set_self (by omega)] at h1
      cases h1
      rw [h3]
      simp [zc]
    · rw [List.getElem?_set_ne (fun q => hi q.symm)] at h1
      refine List.mem_cons_of_mem _ (List.mem_filter.mpr ⟨zps_mem.mpr ⟨i, y, h1, h2, h3⟩, ?_⟩)
      rw [h3]
      simp only [Nat.zero_add, zcat_c]
      cases hb : (i + 1 == j) with
      | false => simp [hi, hi1]
      | true =>
        have hb : i + 1 = j := by simpa using hb
        subst hb
        have hp : zcat y = 1 := by simpa [zprev, h1] using hp
        simp [hp]
        omega
theorem zx_sld {a : Int} (h0 : 0 ≤ a) (h1 : a < (zSL w : Int)) (hn : zSL w < 2147483648) (hd : decode m.2.1 pc = .ok (.iaload, 1)) (kk : zX l w m M (pc + 1) ls (zi (zSx w a.toNat).toInt :: st) k σ) : zX l w m M pc ls (zi a :: zf 101 0 :: st) k σ := by
  intro p e s mid args below meth c C H locs Ls hR hS hl hol hos hc hs
  obtain ⟨hin, e1⟩ := z_cl h0 h1 hn
  obtain ⟨-, -, -, -, -, -, -, -, -, hX, hb, -⟩ := C.2.2.2.2.2.2.2.2.1
  have h := kk p e s mid args below meth c C H locs Ls hR hS hl hol (zok_c trivial (zok_t (zok_t hos))) hc hs
  have e2 : zc w (zi (zSx w a.toNat).toInt) = .int (zSx w (Int32.ofInt a).toNatClampNeg) := by rw [e1]; exact congrArg Value.int (z_of _)
  rw [List.map_cons, e2] at h
  have hlt : zSb w < s.heap.size := by
    obtain ⟨scr, hq, -⟩ := hX
    exact (Array.getElem?_eq_some_iff.mp hq).1
  exact va_sld C.1 C.2.1 hX hlt (show ¬ (zB w ≤ zSb w ∧ _) from fun q => by have := q.1; omega) hS hin hd h
theorem zx_slen (hd : decode m.2.1 pc = .ok (.arraylength, 1)) (kk : zX l w m M (pc + 1) ls (zi (zSL w : Int) :: st) k σ) : zX l w m M pc ls (zf 101 0 :: st) k σ := by
  intro p e s mid args below meth c C H locs Ls hR hS hl hol hos hc hs
  obtain ⟨-, -, -, -, -, -, -, -, -, hX, hb, -⟩ := C.2.2.2.2.2.2.2.2.1
  have h := kk p e s mid args below meth c C H locs Ls hR hS hl hol (zok_c trivial (zok_t hos)) hc hs
  have e2 : zc w (zi (zSL w : Int)) = .int (Int32.ofNat (zSL w)) := congrArg Value.int Int32.ofInt_eq_ofNat
  rw [List.map_cons, e2] at h
  have hlt : zSb w < s.heap.size := by
    obtain ⟨scr, hq, -⟩ := hX
    exact (Array.getElem?_eq_some_iff.mp hq).1
  exact va_slen C.1 C.2.1 hX hlt (show ¬ (zB w ≤ zSb w ∧ _) from fun q => by have := q.1; omega) hS hd h
/-! text constants -/
theorem zx_ldcS {ix j : Nat} {tx : String} (hq : (m.1.cls, ix, tx, j) ∈ zstrs) (hj : j < zNS) (hd : decode m.2.1 pc = .ok (.ldc ix, 2)) (kk : zX l w m M (pc + 2) ls (zf 100 j :: st) k σ) : zX l w m M pc ls st k σ := by
  intro p e s mid args below meth c C H locs Ls hR hS hl hol hos hc hs
  exact va_ldcS C.1 C.2.1 C.2.2.2.2.2.1 (C.2.2.2.2.2.2.2.2.1.2.2.2.2.2.2.1 _ hq) hd (kk p e s mid args below meth c C H locs Ls hR hS hl hol (zok_c (Or.inl ⟨Or.inl rfl, hj⟩) hos) hc hs)
theorem zx_ldcSw {ix j : Nat} {tx : String} (hq : (m.1.cls, ix, tx, j) ∈ zstrs) (hj : j < zNS) (hd : decode m.2.1 pc = .ok (.ldc_w ix, 3)) (kk : zX l w m M (pc + 3) ls (zf 100 j :: st) k σ) : zX l w m M pc ls st k σ := by
  intro p e s mid args below meth c C H locs Ls hR hS hl hol hos hc hs
  intro T hT X
  have hZ := C.2.2.2.2.2.2.2.2.1.2.2.2.2.2.2.1 _ hq
  obtain ⟨t, a1, b1⟩ := kk p e s mid args below meth c C H locs Ls hR hS hl hol (zok_c (Or.inl ⟨Or.inl rfl, hj⟩) hos) hc hs T hT X
  exact ⟨t, X.ldcStringW C.1 C.2.2.2.2.2.1 (text := tx) (a := zT w j) hZ.1 hZ.2 (g := F0 mid pc Ls (st.map (zc w))) rfl (by rw [C.2.1]; exact hd) t a1, b1⟩
theorem zok_str {j : Nat} (h : zok w (zf 100 j)) : j < zNS := by
  rcases h with ⟨-, h⟩ | h | h
  · exact h
  · omega
  · omega
theorem zok_byt {j : Nat} (h : zok w (zf 102 j)) : j < zNS := by
  rcases h with ⟨-, h⟩ | h | h
  · exact h
  · omega
  · omega
theorem zx_strV {ix j : Nat} (hw : Cond.fieldLink m.1.cls ix "java/lang/String" "value" "[B" ∈ zgood) (hd : decode m.2.1 pc = .ok (.getfield ix, 3)) (kk : zX l w m M (pc + 3) ls (zf 102 j :: st) k σ) : zX l w m M pc ls (zf 100 j :: st) k σ := by
  intro p e s mid args below meth c C H locs Ls hR hS hl hol hos hc hs
  have hj := zok_str (zok_h hos)
  exact vk_getf C.1 C.2.1 (C.2.2.2.2.2.2.2.2.1.2.2.2.2.2.2.2.1.1 j hj).2.2.1 hS C.2.2.2.2.2.1 (C.2.2.2.2.2.2.1 _ hw) (fun x hx => hx) hd (kk p e s mid args below meth c C H locs Ls hR hS hl hol (zok_c (Or.inl ⟨Or.inr rfl, hj⟩) (zok_t hos)) hc hs)
theorem zx_strC {ix j : Nat} (hw : Cond.fieldLink m.1.cls ix "java/lang/String" "coder" "B" ∈ zgood) (hd : decode m.2.1 pc = .ok (.getfield ix, 3)) (kk : zX l w m M (pc + 3) ls (zi 0 :: st) k σ) : zX l w m M pc ls (zf 100 j :: st) k σ := by
  intro p e s mid args below meth c C H locs Ls hR hS hl hol hos hc hs
  have hj := zok_str (zok_h hos)
  exact vk_getf C.1 C.2.1 (C.2.2.2.2.2.2.2.2.1.2.2.2.2.2.2.2.1.1 j hj).2.1 hS C.2.2.2.2.2.1 (C.2.2.2.2.2.2.1 _ hw) (fun x hx => hx) hd (kk p e s mid args below meth c C H locs Ls hR hS hl hol (zok_c trivial (zok_t hos)) hc hs)
theorem zx_strL {j : Nat} (hd : decode m.2.1 pc = .ok (.arraylength, 1)) (kk : zX l w m M (pc + 1) ls (zi ((zslen.getD j 0 : Nat) : Int) :: st) k σ) : zX l w m M pc ls (zf 102 j :: st) k σ := by
  intro p e s mid args below meth c C H locs Ls hR hS hl hol hos hc hs
  have hj := zok_byt (zok_h hos)
  exact va_tlen C.1 C.2.1 (C.2.2.2.2.2.2.2.2.1.2.2.2.2.2.2.2.1.1 j hj).2.2.2 hS (v := Int32.ofInt ((zslen.getD j 0 : Nat) : Int)) Int32.ofInt_eq_ofNat.symm hd (kk p e s mid args below meth c C H locs Ls hR hS hl hol (zok_c trivial (zok_t hos)) hc hs)
theorem zx_strB {j : Nat} {a : Int} (h0 : 0 ≤ a) (h1 : a < ((zslen.getD j 0 : Nat) : Int)) (hn : zslen.getD j 0 < 2147483648) (hd : decode m.2.1 pc = .ok (.baload, 1)) (kk : zX l w m M (pc + 1) ls (zi ((zsbyt.getD j []).getD a.toNat 0).toInt :: st) k σ) : zX l w m M pc ls (zi a :: zf 102 j :: st) k σ := by
  intro p e s mid args below meth c C H locs Ls hR hS hl hol hos hc hs
  have hj := zok_byt (zok_h (zok_t hos))
  obtain ⟨hin, e1⟩ := z_cl h0 h1 hn
  have h := kk p e s mid args below meth c C H locs Ls hR hS hl hol (zok_c trivial (zok_t (zok_t hos))) hc hs
  exact va_tb C.1 C.2.1 (C.2.2.2.2.2.2.2.2.1.2.2.2.2.2.2.2.1.1 j hj).2.2.2 hS hin (v := zc w (zi ((zsbyt.getD j []).getD a.toNat 0).toInt)) (by rw [e1]; exact (congrArg Value.int (z_of _)).symm) hd h
theorem zx_dyV {ix : Nat} (h0 : zDL w ≠ 0) (hw : Cond.fieldLink m.1.cls ix "java/lang/String" "value" "[B" ∈ zgood) (hd : decode m.2.1 pc = .ok (.getfield ix, 3)) (kk : zX l w m M (pc + 3) ls (zf 105 0 :: st) k σ) : zX l w m M pc ls (zf 104 0 :: st) k σ := by
  intro p e s mid args below meth c C H locs Ls hR hS hl hol hos hc hs
  rcases C.2.2.2.2.2.2.2.2.1.1 with h | h
  · exact absurd h h0
  exact vk_getf C.1 C.2.1 h.2.2.1 hS C.2.2.2.2.2.1 (C.2.2.2.2.2.2.1 _ hw) (fun x hx => hx) hd (kk p e s mid args below meth c C H locs Ls hR hS hl hol (zok_c (Or.inr (Or.inl (by omega))) (zok_t hos)) hc hs)
theorem zx_dyC {ix : Nat} (h0 : zDL w ≠ 0) (hw : Cond.fieldLink m.1.cls ix "java/lang/String" "coder" "B" ∈ zgood) (hd : decode m.2.1 pc = .ok (.getfield ix, 3)) (kk : zX l w m M (pc + 3) ls (zi 0 :: st) k σ) : zX l w m M pc ls (zf 104 0 :: st) k σ := by
  intro p e s mid args below meth c C H locs Ls hR hS hl hol hos hc hs
  rcases C.2.2.2.2.2.2.2.2.1.1 with h | h
  · exact absurd h h0
  exact vk_getf C.1 C.2.1 h.2.1 hS C.2.2.2.2.2.1 (C.2.2.2.2.2.2.1 _ hw) (fun x hx => hx) hd (kk p e s mid args below meth c C H locs Ls hR hS hl hol (zok_c trivial (zok_t hos)) hc hs)
theorem zx_dyL (h0 : zDL w ≠ 0) (hd : decode m.2.1 pc = .ok (.arraylength, 1)) (kk : zX l w m M (pc + 1) ls (zi ((zDL w : Nat) : Int) :: st) k σ) : zX l w m M pc ls (zf 105 0 :: st) k σ := by
  intro p e s mid args below meth c C H locs Ls hR hS hl hol hos hc hs
  rcases C.2.2.2.2.2.2.2.2.1.1 with h | h
  · exact absurd h h0
  exact va_tlen C.1 C.2.1 h.2.2.2 hS (v := Int32.ofInt ((zDL w : Nat) : Int)) Int32.ofInt_eq_ofNat.symm hd (kk p e s mid args below meth c C H locs Ls hR hS hl hol (zok_c trivial (zok_t hos)) hc hs)
theorem zx_dyB {a : Int} (h0 : 0 ≤ a) (h1 : a < ((zDL w : Nat) : Int)) (hn : zDL w < 2147483648) (hd : decode m.2.1 pc = .ok (.baload, 1)) (kk : zX l w m M (pc + 1) ls (zi (zDb w a.toNat).toInt :: st) k σ) : zX l w m M pc ls (zi a :: zf 105 0 :: st) k σ := by
  intro p e s mid args below meth c C H locs Ls hR hS hl hol hos hc hs
  rcases C.2.2.2.2.2.2.2.2.1.1 with h | h
  · omega
  obtain ⟨hin, e1⟩ := z_cl h0 h1 hn
  have h2 := kk p e s mid args below meth c C H locs Ls hR hS hl hol (zok_c trivial (zok_t (zok_t hos))) hc hs
  exact va_tb C.1 C.2.1 h.2.2.2 hS hin (v := zc w (zi (zDb w a.toNat).toInt)) (by rw [e1]; exact (congrArg Value.int (z_of _)).symm) hd h2
theorem zx_compact {ix : Nat} (hw : Cond.fieldLink m.1.cls ix "java/lang/String" "COMPACT_STRINGS" "Z" ∈ zgood) (hd : decode m.2.1 pc = .ok (.getstatic ix, 3)) (kk : zX l w m M (pc + 3) ls (zi 1 :: st) k σ) : zX l w m M pc ls st k σ := by
  intro p e s mid args below meth c C H locs Ls hR hS hl hol hos hc hs
  exact va_gets C.1 C.2.1 C.2.2.2.2.2.2.2.2.1.2.2.2.2.2.1 hS C.2.2.2.2.2.1 (C.2.2.2.2.2.2.1 _ hw) (fun x hx => hx) hd (kk p e s mid args below meth c C H locs Ls hR hS hl hol (zok_c trivial hos) hc hs)
theorem zx_fmt {ix : Nat} (hw : Cond.fieldLink m.1.cls ix "jdk/internal/util/Preconditions" "SIOOBE_FORMATTER" "Ljava/util/function/BiFunction;" ∈ zgood) (hd : decode m.2.1 pc = .ok (.getstatic ix, 3)) (k1 : zX l w m M (pc + 3) ls (.inr (.inr .null) :: st) k σ) (k2 : ∀ t : Nat, zX l w m M (pc + 3) ls (.inr (.inr (.ref t)) :: st) k σ) : zX l w m M pc ls st k σ := by
  intro p e s mid args below meth c C H locs Ls hR hS hl hol hos hc hs
  rcases C.2.2.2.2.2.2.2.2.1.2.2.2.2.2.2.2.2.2.2.2.1 with h | ⟨t, h⟩
  · exact va_gets C.1 C.2.1 h hS C.2.2.2.2.2.1 (C.2.2.2.2.2.2.1 _ hw) (fun x hx => hx) hd (k1 p e s mid args below meth c C H locs Ls hR hS hl hol (zok_c trivial hos) hc hs)
  · exact va_gets C.1 C.2.1 h hS C.2.2.2.2.2.1 (C.2.2.2.2.2.2.1 _ hw) (fun x hx => hx) hd (k2 t p e s mid args below meth c C H locs Ls hR hS hl hol (zok_c trivial hos) hc hs)
end ZR2
