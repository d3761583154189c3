/-! ===== the rules of the making, for methods of any kind ===== -/
section KK
variable {l : Launch} {w : zW} {m : zM} {M : zMo} {ini : Bool} {pc kc ks : Nat} {ls st : List zV} {E : List va_E}
theorem kk_iconst {n : Int} (hd : decode m.2.1 pc = .ok (.iconst n, 1)) (kk : zK l w m M ini (pc + 1) ls (zi n :: st) kc ks E) : zK l w m M ini pc ls st kc ks E := by
  intro p e s mid args below meth c C hnK H locs Ls hR hS hl hol hos hsz
  exact lv_iconst C.1 C.2.1 hd rfl (kk p e s mid args below meth c C hnK H locs Ls hR hS hl hol (zok_c trivial hos) hsz)
theorem kk_bipush {n : Int} (hd : decode m.2.1 pc = .ok (.bipush n, 2)) (hn : (Int8.ofInt n).toInt32 = Int32.ofInt n) (kk : zK l w m M ini (pc + 2) ls (zi n :: st) kc ks E) : zK l w m M ini pc ls st kc ks E := by
  intro p e s mid args below meth c C hnK H locs Ls hR hS hl hol hos hsz
  exact lv_bipush C.1 C.2.1 hd hn (kk p e s mid args below meth c C hnK H locs Ls hR hS hl hol (zok_c trivial hos) hsz)
theorem kk_sipush {n : Int} (hd : decode m.2.1 pc = .ok (.sipush n, 3)) (hn : (Int16.ofInt n).toInt32 = Int32.ofInt n) (kk : zK l w m M ini (pc + 3) ls (zi n :: st) kc ks E) : zK l w m M ini pc ls st kc ks E := by
  intro p e s mid args below meth c C hnK H locs Ls hR hS hl hol hos hsz
  exact lv_sipush C.1 C.2.1 hd hn (kk p e s mid args below meth c C hnK H locs Ls hR hS hl hol (zok_c trivial hos) hsz)
theorem kk_iloadN {j : Nat} {f : Fin 4} {a : Int} (hd : decode m.2.1 pc = .ok (.iload_n f, 1)) (hf : (f : Nat) = j) (hj : ls[j]? = some (zi a)) (kk : zK l w m M ini (pc + 1) ls (zi a :: st) kc ks E) : zK l w m M ini pc ls st kc ks E := by
  intro p e s mid args below meth c C hnK H locs Ls hR hS hl hol hos hsz
  exact lv_iload_n C.1 C.2.1 hd hf (zps_at hl hj rfl) (kk p e s mid args below meth c C hnK H locs Ls hR hS hl hol (zok_c trivial hos) hsz)
theorem kk_iload {j : Nat} {a : Int} (hd : decode m.2.1 pc = .ok (.iload j, 2)) (hj : ls[j]? = some (zi a)) (kk : zK l w m M ini (pc + 2) ls (zi a :: st) kc ks E) : zK l w m M ini pc ls st kc ks E := by
  intro p e s mid args below meth c C hnK H locs Ls hR hS hl hol hos hsz
  exact lv_iload C.1 C.2.1 hd (zps_at hl hj rfl) (kk p e s mid args below meth c C hnK H locs Ls hR hS hl hol (zok_c trivial hos) hsz)
theorem kk_aloadNF {j t i : Nat} {f : Fin 4} (hd : decode m.2.1 pc = .ok (.aload_n f, 1)) (hf : (f : Nat) = j) (hj : ls[j]? = some (zf t i)) (kk : zK l w m M ini (pc + 1) ls (zf t i :: st) kc ks E) : zK l w m M ini pc ls st kc ks E := by
  intro p e s mid args below meth c C hnK H locs Ls hR hS hl hol hos hsz
  exact lv_aload_n C.1 C.2.1 hd hf (zps_at hl hj rfl) (kk p e s mid args below meth c C hnK H locs Ls hR hS hl hol (zok_c (hol _ (List.mem_of_getElem? hj)) hos) hsz)
theorem kk_aloadN {j : Nat} {i : Addr} {f : Fin 4} (hd : decode m.2.1 pc = .ok (.aload_n f, 1)) (hf : (f : Nat) = j) (hj : ls[j]? = some (zV0 i)) (kk : zK l w m M ini (pc + 1) ls (zV0 i :: st) kc ks E) : zK l w m M ini pc ls st kc ks E := by
  intro p e s mid args below meth c C hnK H locs Ls hR hS hl hol hos hsz
  exact lv_aload_n C.1 C.2.1 hd hf (zps_at hl hj rfl) (kk p e s mid args below meth c C hnK H locs Ls hR hS hl hol (zok_c trivial hos) hsz)
theorem kk_aloadF {j t i : Nat} (hd : decode m.2.1 pc = .ok (.aload j, 2)) (hj : ls[j]? = some (zf t i)) (kk : zK l w m M ini (pc + 2) ls (zf t i :: st) kc ks E) : zK l w m M ini pc ls st kc ks E := by
  intro p e s mid args below meth c C hnK H locs Ls hR hS hl hol hos hsz
  exact lv_aload C.1 C.2.1 hd (zps_at hl hj rfl) (kk p e s mid args below meth c C hnK H locs Ls hR hS hl hol (zok_c (hol _ (List.mem_of_getElem? hj)) hos) hsz)
theorem kk_aload {j : Nat} {i : Addr} (hd : decode m.2.1 pc = .ok (.aload j, 2)) (hj : ls[j]? = some (zV0 i)) (kk : zK l w m M ini (pc + 2) ls (zV0 i :: st) kc ks E) : zK l w m M ini pc ls st kc ks E := by
  intro p e s mid args below meth c C hnK H locs Ls hR hS hl hol hos hsz
  exact lv_aload C.1 C.2.1 hd (zps_at hl hj rfl) (kk p e s mid args below meth c C hnK H locs Ls hR hS hl hol (zok_c trivial hos) hsz)
theorem kk_istoreN {j : Nat} {f : Fin 4} {a : Int} (hd : decode m.2.1 pc = .ok (.istore_n f, 1)) (hf : (f : Nat) = j) (hj : j < ls.length) (hn : j < m.2.2.1) (hp : zprev ls j = true) (kk : zK l w m M ini (pc + 1) (ls.set j (zi a)) st kc ks E) : zK l w m M ini pc ls (zi a :: st) kc ks E := by
  intro p e s mid args below meth c C hnK H locs Ls hR hS hl hol hos hsz
  exact lv_istore_n C.1 C.2.1 hd hf hl hn rfl (fun Ls' hl' => kk p e s mid args below meth c C hnK H locs Ls' hR hS (zps_store (v := zi a) hj hp hl') (zok_set trivial hol) (zok_t hos) hsz)
theorem kk_istore {j : Nat} {a : Int} (hd : decode m.2.1 pc = .ok (.istore j, 2)) (hj : j < ls.length) (hn : j < m.2.2.1) (hp : zprev ls j = true) (kk : zK l w m M ini (pc + 2) (ls.set j (zi a)) st kc ks E) : zK l w m M ini pc ls (zi a :: st) kc ks E := by
  intro p e s mid args below meth c C hnK H locs Ls hR hS hl hol hos hsz
  exact lv_istore C.1 C.2.1 hd hl hn rfl (fun Ls' hl' => kk p e s mid args below meth c C hnK H locs Ls' hR hS (zps_store (v := zi a) hj hp hl') (zok_set trivial hol) (zok_t hos) hsz)
theorem kk_astoreNF {j t i : Nat} {f : Fin 4} (hd : decode m.2.1 pc = .ok (.astore_n f, 1)) (hf : (f : Nat) = j) (hj : j < ls.length) (hn : j < m.2.2.1) (hp : zprev ls j = true) (kk : zK l w m M ini (pc + 1) (ls.set j (zf t i)) st kc ks E) : zK l w m M ini pc ls (zf t i :: st) kc ks E := by
  intro p e s mid args below meth c C hnK H locs Ls hR hS hl hol hos hsz
  exact lv_astore_n C.1 C.2.1 hd hf hl hn rfl (fun Ls' hl' => kk p e s mid args below meth c C hnK H locs Ls' hR hS (zps_store (v := zf t i) hj hp hl') (zok_set (zok_h hos) hol) (zok_t hos) hsz)
theorem kk_astoreN {j : Nat} {i : Addr} {f : Fin 4} (hd : decode m.2.1 pc = .ok (.astore_n f, 1)) (hf : (f : Nat) = j) (hj : j < ls.length) (hn : j < m.2.2.1) (hp : zprev ls j = true) (kk : zK l w m M ini (pc + 1) (ls.set j (zV0 i)) st kc ks E) : zK l w m M ini pc ls (zV0 i :: st) kc ks E := by
  intro p e s mid args below meth c C hnK H locs Ls hR hS hl hol hos hsz
  exact lv_astore_n C.1 C.2.1 hd hf hl hn rfl (fun Ls' hl' => kk p e s mid args below meth c C hnK H locs Ls' hR hS (zps_store (v := zV0 i) hj hp hl') (zok_set trivial hol) (zok_t hos) hsz)
theorem kk_astoreF {j t i : Nat} (hd : decode m.2.1 pc = .ok (.astore j, 2)) (hj : j < ls.length) (hn : j < m.2.2.1) (hp : zprev ls j = true) (kk : zK l w m M ini (pc + 2) (ls.set j (zf t i)) st kc ks E) : zK l w m M ini pc ls (zf t i :: st) kc ks E := by
  intro p e s mid args below meth c C hnK H locs Ls hR hS hl hol hos hsz
  exact lv_astore C.1 C.2.1 hd hl hn rfl (fun Ls' hl' => kk p e s mid args below meth c C hnK H locs Ls' hR hS (zps_store (v := zf t i) hj hp hl') (zok_set (zok_h hos) hol) (zok_t hos) hsz)
theorem kk_astore {j : Nat} {i : Addr} (hd : decode m.2.1 pc = .ok (.astore j, 2)) (hj : j < ls.length) (hn : j < m.2.2.1) (hp : zprev ls j = true) (kk : zK l w m M ini (pc + 2) (ls.set j (zV0 i)) st kc ks E) : zK l w m M ini pc ls (zV0 i :: st) kc ks E := by
  intro p e s mid args below meth c C hnK H locs Ls hR hS hl hol hos hsz
  exact lv_astore C.1 C.2.1 hd hl hn rfl (fun Ls' hl' => kk p e s mid args below meth c C hnK H locs Ls' hR hS (zps_store (v := zV0 i) hj hp hl') (zok_set trivial hol) (zok_t hos) hsz)
theorem kk_iinc {j : Nat} {n a b : Int} (hd : decode m.2.1 pc = .ok (.iinc j n, 3)) (hj : ls[j]? = some (zi a)) (hb : a + n = b) (hn : j < m.2.2.1) (hp : zprev ls j = true) (kk : zK l w m M ini (pc + 3) (ls.set j (zi b)) st kc ks E) : zK l w m M ini pc ls st kc ks E := by
  intro p e s mid args below meth c C hnK H locs Ls hR hS hl hol hos hsz
  obtain ⟨q, hq⟩ := List.getElem?_of_mem (zps_mem.mpr ⟨j, zi a, hj, rfl, rfl⟩ : (0 + j, zc w (zi a)) ∈ zps w 0 ls)
  rw [Nat.zero_add] at hq
  refine lv_iinc C.1 C.2.1 hd hl hq (v := Int32.ofInt b) (by rw [← hb, Int32.ofInt_add]) hn rfl (fun Ls' hl' => ?_)
  exact kk p e s mid args below meth c C hnK H locs Ls' hR hS (zps_store (v := zi b) (List.getElem?_eq_some_iff.mp hj).1 hp hl') (zok_set trivial hol) hos hsz
theorem kk_forget (ls' : List zV) (h : ∀ q ∈ zps w 0 ls', q ∈ zps w 0 ls) (ho : ∀ x ∈ ls', x = zu ∨ x ∈ ls) (kk : zK l w m M ini pc ls' st kc ks E) : zK l w m M ini pc ls st kc ks E := by
  intro p e s mid args below meth c C hnK H locs Ls hR hS hl hol hos hsz
  refine kk p e s mid args below meth c C hnK H locs Ls hR hS ⟨hl.1, hl.2.1, fun q hq => hl.2.2 q (h q hq)⟩ (fun x hx => ?_) hos hsz
  rcases ho x hx with rfl | h1
  · exact trivial
  · exact hol x h1
theorem kk_iadd {a b : Int} (hd : decode m.2.1 pc = .ok (.iadd, 1)) (kk : zK l w m M ini (pc + 1) ls (zi (a + b) :: st) kc ks E) : zK l w m M ini pc ls (zi b :: zi a :: st) kc ks E := by
  intro p e s mid args below meth c C hnK H locs Ls hR hS hl hol hos hsz
  refine lv_iadd C.1 C.2.1 hd ?_
  rw [← Int32.ofInt_add]
  exact kk p e s mid args below meth c C hnK H locs Ls hR hS hl hol (zok_c trivial (zok_t (zok_t hos))) hsz
theorem kk_isub {a b : Int} (hd : decode m.2.1 pc = .ok (.isub, 1)) (kk : zK l w m M ini (pc + 1) ls (zi (a - b) :: st) kc ks E) : zK l w m M ini pc ls (zi b :: zi a :: st) kc ks E := by
  intro p e s mid args below meth c C hnK H locs Ls hR hS hl hol hos hsz
  refine lv_isub C.1 C.2.1 hd ?_
  rw [← Int32.ofInt_sub]
  exact kk p e s mid args below meth c C hnK H locs Ls hR hS hl hol (zok_c trivial (zok_t (zok_t hos))) hsz
theorem kk_imul {a b : Int} (hd : decode m.2.1 pc = .ok (.imul, 1)) (kk : zK l w m M ini (pc + 1) ls (zi (a * b) :: st) kc ks E) : zK l w m M ini pc ls (zi b :: zi a :: st) kc ks E := by
  intro p e s mid args below meth c C hnK H locs Ls hR hS hl hol hos hsz
  refine lv_imul C.1 C.2.1 hd ?_
  rw [← Int32.ofInt_mul]
  exact kk p e s mid args below meth c C hnK H locs Ls hR hS hl hol (zok_c trivial (zok_t (zok_t hos))) hsz
theorem kk_iand {a b : Int} (hd : decode m.2.1 pc = .ok (.iand, 1)) (kk : zK l w m M ini (pc + 1) ls (zi (zand a b) :: st) kc ks E) : zK l w m M ini pc ls (zi b :: zi a :: st) kc ks E := by
  intro p e s mid args below meth c C hnK H locs Ls hR hS hl hol hos hsz
  refine lv_iand C.1 C.2.1 hd ?_
  have h := kk p e s mid args below meth c C hnK H locs Ls hR hS hl hol (zok_c trivial (zok_t (zok_t hos))) hsz
  have e1 : zc w (zi (zand a b)) = .int (Int32.ofInt (zand a b)) := rfl
  rw [List.map_cons, e1] at h
  unfold zand at h
  rw [z_of] at h
  exact h
theorem kk_ior {a b : Int} (hd : decode m.2.1 pc = .ok (.ior, 1)) (kk : zK l w m M ini (pc + 1) ls (zi (zor a b) :: st) kc ks E) : zK l w m M ini pc ls (zi b :: zi a :: st) kc ks E := by
  intro p e s mid args below meth c C hnK H locs Ls hR hS hl hol hos hsz
  refine lv_ior C.1 C.2.1 hd ?_
  have h := kk p e s mid args below meth c C hnK H locs Ls hR hS hl hol (zok_c trivial (zok_t (zok_t hos))) hsz
  have e1 : zc w (zi (zor a b)) = .int (Int32.ofInt (zor a b)) := rfl
  rw [List.map_cons, e1] at h
  unfold zor at h
  rw [z_of] at h
  exact h
theorem kk_ishl {a b : Int} (hd : decode m.2.1 pc = .ok (.ishl, 1)) (kk : zK l w m M ini (pc + 1) ls (zi (zshl a b) :: st) kc ks E) : zK l w m M ini pc ls (zi b :: zi a :: st) kc ks E := by
  intro p e s mid args below meth c C hnK H locs Ls hR hS hl hol hos hsz
  refine lv_ishl C.1 C.2.1 hd ?_
  have h := kk p e s mid args below meth c C hnK H locs Ls hR hS hl hol (zok_c trivial (zok_t (zok_t hos))) hsz
  have e1 : zc w (zi (zshl a b)) = .int (Int32.ofInt (zshl a b)) := rfl
  rw [List.map_cons, e1] at h
  unfold zshl at h
  rw [z_of] at h
  exact h
theorem kk_ishr {a b : Int} (hd : decode m.2.1 pc = .ok (.ishr, 1)) (kk : zK l w m M ini (pc + 1) ls (zi (zshr a b) :: st) kc ks E) : zK l w m M ini pc ls (zi b :: zi a :: st) kc ks E := by
  intro p e s mid args below meth c C hnK H locs Ls hR hS hl hol hos hsz
  refine lv_ishr C.1 C.2.1 hd ?_
  have h := kk p e s mid args below meth c C hnK H locs Ls hR hS hl hol (zok_c trivial (zok_t (zok_t hos))) hsz
  have e1 : zc w (zi (zshr a b)) = .int (Int32.ofInt (zshr a b)) := rfl
  rw [List.map_cons, e1] at h
  unfold zshr at h
  rw [z_of] at h
  exact h
theorem kk_i2b {a : Int} (hd : decode m.2.1 pc = .ok (.i2b, 1)) (kk : zK l w m M ini (pc + 1) ls (zi (zb8 a) :: st) kc ks E) : zK l w m M ini pc ls (zi a :: st) kc ks E := by
  intro p e s mid args below meth c C hnK H locs Ls hR hS hl hol hos hsz
  exact lv_i2b C.1 C.2.1 hd (v := Int32.ofInt (zb8 a)) (z_of _).symm (kk p e s mid args below meth c C hnK H locs Ls hR hS hl hol (zok_c trivial (zok_t hos)) hsz)
theorem kk_i2c {a : Int} (hd : decode m.2.1 pc = .ok (.i2c, 1)) (kk : zK l w m M ini (pc + 1) ls (zi (zc16 a) :: st) kc ks E) : zK l w m M ini pc ls (zi a :: st) kc ks E := by
  intro p e s mid args below meth c C hnK H locs Ls hR hS hl hol hos hsz
  exact lv_i2c C.1 C.2.1 hd (v := Int32.ofInt (zc16 a)) (z_of _).symm (kk p e s mid args below meth c C hnK H locs Ls hR hS hl hol (zok_c trivial (zok_t hos)) hsz)
theorem kk_idiv {a b : Int} (h0 : 0 ≤ a) (h1 : a ≤ 2147483647) (h2 : 0 < b) (h3 : b ≤ 2147483647) (hd : decode m.2.1 pc = .ok (.idiv, 1)) (kk : zK l w m M ini (pc + 1) ls (zi (a / b) :: st) kc ks E) : zK l w m M ini pc ls (zi b :: zi a :: st) kc ks E := by
  intro p e s mid args below meth c C hnK H locs Ls hR hS hl hol hos hsz
  refine lv_idiv C.1 C.2.1 hd (fun h => ?_) ?_
  · have := (z_eq ⟨by omega, h3⟩ zr0).mp h
    omega
  · have e1 : Int32.ofInt a / Int32.ofInt b = Int32.ofInt (a / b) := by
      rw [z_nat h0, z_nat (a := b) (by omega), z_nat (a := a / b) (Int.ediv_nonneg h0 (by omega)), pk_div (by omega) (by omega) (by omega)]
      congr 1
      have e2 : a / b = ((a.toNat / b.toNat : Nat) : Int) := by rw [Int.natCast_ediv, Int.toNat_of_nonneg h0, Int.toNat_of_nonneg (by omega : 0 ≤ b)]
      rw [e2]; rfl
    rw [e1]
    exact kk p e s mid args below meth c C hnK H locs Ls hR hS hl hol (zok_c trivial (zok_t (zok_t hos))) hsz
theorem kk_irem {a b : Int} (h0 : 0 ≤ a) (h1 : a ≤ 2147483647) (h2 : 0 < b) (h3 : b ≤ 2147483647) (hd : decode m.2.1 pc = .ok (.irem, 1)) (kk : zK l w m M ini (pc + 1) ls (zi (a % b) :: st) kc ks E) : zK l w m M ini pc ls (zi b :: zi a :: st) kc ks E := by
  intro p e s mid args below meth c C hnK H locs Ls hR hS hl hol hos hsz
  refine lv_irem C.1 C.2.1 hd (fun h => ?_) ?_
  · have := (z_eq ⟨by omega, h3⟩ zr0).mp h
    omega
  · have e1 : Int32.ofInt a - Int32.ofInt a / Int32.ofInt b * Int32.ofInt b = Int32.ofInt (a % b) := by
      rw [z_nat h0, z_nat (a := b) (by omega), z_nat (a := a % b) (Int.emod_nonneg a (by omega)), pk_rem (by omega) (by omega) (by omega)]
      congr 1
      have e2 : a % b = ((a.toNat % b.toNat : Nat) : Int) := by rw [Int.natCast_emod, Int.toNat_of_nonneg h0, Int.toNat_of_nonneg (by omega : 0 ≤ b)]
      rw [e2]; rfl
    rw [e1]
    exact kk p e s mid args below meth c C hnK H locs Ls hR hS hl hol (zok_c trivial (zok_t (zok_t hos))) hsz
theorem kk_dup {v : zV} (hv : zcat v = 1) (hd : decode m.2.1 pc = .ok (.dup, 1)) (kk : zK l w m M ini (pc + 1) ls (v :: v :: st) kc ks E) : zK l w m M ini pc ls (v :: st) kc ks E := by
  intro p e s mid args below meth c C hnK H locs Ls hR hS hl hol hos hsz
  exact lv_dup C.1 C.2.1 hd (by rw [zcat_c]; exact hv) (kk p e s mid args below meth c C hnK H locs Ls hR hS hl hol (zok_c (zok_h hos) hos) hsz)
theorem kk_pop {v : zV} (hv : zcat v = 1) (hd : decode m.2.1 pc = .ok (.pop, 1)) (kk : zK l w m M ini (pc + 1) ls st kc ks E) : zK l w m M ini pc ls (v :: st) kc ks E := by
  intro p e s mid args below meth c C hnK H locs Ls hR hS hl hol hos hsz
  exact lv_pop C.1 C.2.1 hd (by rw [zcat_c]; exact hv) (kk p e s mid args below meth c C hnK H locs Ls hR hS hl hol (zok_t hos) hsz)
theorem kk_goto {off : Int} {tgt : Nat} (hd : decode m.2.1 pc = .ok (.goto off, 3)) (ht : (pc : Int) + off = (tgt : Int)) (kk : zK l w m M ini tgt ls st kc ks E) : zK l w m M ini pc ls st kc ks E := by
  intro p e s mid args below meth c C hnK H locs Ls hR hS hl hol hos hsz
  exact lv_goto C.1 C.2.1 hd ht (kk p e s mid args below meth c C hnK H locs Ls hR hS hl hol hos hsz)
theorem kk_if_eq {a : Int} {off : Int} {tgt : Nat} (hz : zr a) (hd : decode m.2.1 pc = .ok (.ifCond .eq off, 3)) (ht : (pc : Int) + off = (tgt : Int)) (kt : a = 0 → zK l w m M ini tgt ls st kc ks E) (kf : ¬ a = 0 → zK l w m M ini (pc + 3) ls st kc ks E) : zK l w m M ini pc ls (zi a :: st) kc ks E := by
  intro p e s mid args below meth c C hnK H locs Ls hR hS hl hol hos hsz
  exact lv_if_eq C.1 C.2.1 hd ht (fun h => kt ((z_eq hz zr0).mp h) p e s mid args below meth c C hnK H locs Ls hR hS hl hol (zok_t hos) hsz) (fun h => kf (fun q => h ((z_eq hz zr0).mpr q)) p e s mid args below meth c C hnK H locs Ls hR hS hl hol (zok_t hos) hsz)
theorem kk_icmp_eq {a b : Int} {off : Int} {tgt : Nat} (hz : zr a) (hb : zr b) (hd : decode m.2.1 pc = .ok (.if_icmp .eq off, 3)) (ht : (pc : Int) + off = (tgt : Int)) (kt : a = b → zK l w m M ini tgt ls st kc ks E) (kf : ¬ a = b → zK l w m M ini (pc + 3) ls st kc ks E) : zK l w m M ini pc ls (zi b :: zi a :: st) kc ks E := by
  intro p e s mid args below meth c C hnK H locs Ls hR hS hl hol hos hsz
  exact lv_icmp_eq C.1 C.2.1 hd ht (fun h => kt ((z_eq hz hb).mp h) p e s mid args below meth c C hnK H locs Ls hR hS hl hol (zok_t (zok_t hos)) hsz) (fun h => kf (fun q => h ((z_eq hz hb).mpr q)) p e s mid args below meth c C hnK H locs Ls hR hS hl hol (zok_t (zok_t hos)) hsz)
theorem kk_if_ne {a : Int} {off : Int} {tgt : Nat} (hz : zr a) (hd : decode m.2.1 pc = .ok (.ifCond .ne off, 3)) (ht : (pc : Int) + off = (tgt : Int)) (kt : ¬ a = 0 → zK l w m M ini tgt ls st kc ks E) (kf : a = 0 → zK l w m M ini (pc + 3) ls st kc ks E) : zK l w m M ini pc ls (zi a :: st) kc ks E := by
  intro p e s mid args below meth c C hnK H locs Ls hR hS hl hol hos hsz
  exact lv_if_ne C.1 C.2.1 hd ht (fun h => kt (fun q => h ((z_eq hz zr0).mpr q)) p e s mid args below meth c C hnK H locs Ls hR hS hl hol (zok_t hos) hsz) (fun h => kf ((z_eq hz zr0).mp h) p e s mid args below meth c C hnK H locs Ls hR hS hl hol (zok_t hos) hsz)
theorem kk_icmp_ne {a b : Int} {off : Int} {tgt : Nat} (hz : zr a) (hb : zr b) (hd : decode m.2.1 pc = .ok (.if_icmp .ne off, 3)) (ht : (pc : Int) + off = (tgt : Int)) (kt : ¬ a = b → zK l w m M ini tgt ls st kc ks E) (kf : a = b → zK l w m M ini (pc + 3) ls st kc ks E) : zK l w m M ini pc ls (zi b :: zi a :: st) kc ks E := by
  intro p e s mid args below meth c C hnK H locs Ls hR hS hl hol hos hsz
  exact lv_icmp_ne C.1 C.2.1 hd ht (fun h => kt (fun q => h ((z_eq hz hb).mpr q)) p e s mid args below meth c C hnK H locs Ls hR hS hl hol (zok_t (zok_t hos)) hsz) (fun h => kf ((z_eq hz hb).mp h) p e s mid args below meth c C hnK H locs Ls hR hS hl hol (zok_t (zok_t hos)) hsz)
theorem kk_if_lt {a : Int} {off : Int} {tgt : Nat} (hz : zr a) (hd : decode m.2.1 pc = .ok (.ifCond .lt off, 3)) (ht : (pc : Int) + off = (tgt : Int)) (kt : a < 0 → zK l w m M ini tgt ls st kc ks E) (kf : 0 ≤ a → zK l w m M ini (pc + 3) ls st kc ks E) : zK l w m M ini pc ls (zi a :: st) kc ks E := by
  intro p e s mid args below meth c C hnK H locs Ls hR hS hl hol hos hsz
  exact lv_if_lt C.1 C.2.1 hd ht (fun h => kt ((z_lt hz zr0).mp h) p e s mid args below meth c C hnK H locs Ls hR hS hl hol (zok_t hos) hsz) (fun h => kf (Int.not_lt.mp (fun z => h ((z_lt hz zr0).mpr z))) p e s mid args below meth c C hnK H locs Ls hR hS hl hol (zok_t hos) hsz)
theorem kk_icmp_lt {a b : Int} {off : Int} {tgt : Nat} (hz : zr a) (hb : zr b) (hd : decode m.2.1 pc = .ok (.if_icmp .lt off, 3)) (ht : (pc : Int) + off = (tgt : Int)) (kt : a < b → zK l w m M ini tgt ls st kc ks E) (kf : b ≤ a → zK l w m M ini (pc + 3) ls st kc ks E) : zK l w m M ini pc ls (zi b :: zi a :: st) kc ks E := by
  intro p e s mid args below meth c C hnK H locs Ls hR hS hl hol hos hsz
  exact lv_icmp_lt C.1 C.2.1 hd ht (fun h => kt ((z_lt hz hb).mp h) p e s mid args below meth c C hnK H locs Ls hR hS hl hol (zok_t (zok_t hos)) hsz) (fun h => kf (Int.not_lt.mp (fun z => h ((z_lt hz hb).mpr z))) p e s mid args below meth c C hnK H locs Ls hR hS hl hol (zok_t (zok_t hos)) hsz)
theorem kk_if_ge {a : Int} {off : Int} {tgt : Nat} (hz : zr a) (hd : decode m.2.1 pc = .ok (.ifCond .ge off, 3)) (ht : (pc : Int) + off = (tgt : Int)) (kt : 0 ≤ a → zK l w m M ini tgt ls st kc ks E) (kf : a < 0 → zK l w m M ini (pc + 3) ls st kc ks E) : zK l w m M ini pc ls (zi a :: st) kc ks E := by
  intro p e s mid args below meth c C hnK H locs Ls hR hS hl hol hos hsz
  exact lv_if_ge C.1 C.2.1 hd ht (fun h => kt ((z_le zr0 hz).mp h) p e s mid args below meth c C hnK H locs Ls hR hS hl hol (zok_t hos) hsz) (fun h => kf (Int.not_le.mp (fun z => h ((z_le zr0 hz).mpr z))) p e s mid args below meth c C hnK H locs Ls hR hS hl hol (zok_t hos) hsz)
theorem kk_icmp_ge {a b : Int} {off : Int} {tgt : Nat} (hz : zr a) (hb : zr b) (hd : decode m.2.1 pc = .ok (.if_icmp .ge off, 3)) (ht : (pc : Int) + off = (tgt : Int)) (kt : b ≤ a → zK l w m M ini tgt ls st kc ks E) (kf : a < b → zK l w m M ini (pc + 3) ls st kc ks E) : zK l w m M ini pc ls (zi b :: zi a :: st) kc ks E := by
  intro p e s mid args below meth c C hnK H locs Ls hR hS hl hol hos hsz
  exact lv_icmp_ge C.1 C.2.1 hd ht (fun h => kt ((z_le hb hz).mp h) p e s mid args below meth c C hnK H locs Ls hR hS hl hol (zok_t (zok_t hos)) hsz) (fun h => kf (Int.not_le.mp (fun z => h ((z_le hb hz).mpr z))) p e s mid args below meth c C hnK H locs Ls hR hS hl hol (zok_t (zok_t hos)) hsz)
theorem kk_if_gt {a : Int} {off : Int} {tgt : Nat} (hz : zr a) (hd : decode m.2.1 pc = .ok (.ifCond .gt off, 3)) (ht : (pc : Int) + off = (tgt : Int)) (kt : 0 < a → zK l w m M ini tgt ls st kc ks E) (kf : a ≤ 0 → zK l w m M ini (pc + 3) ls st kc ks E) : zK l w m M ini pc ls (zi a :: st) kc ks E := by
  intro p e s mid args below meth c C hnK H locs Ls hR hS hl hol hos hsz
  exact lv_if_gt C.1 C.2.1 hd ht (fun h => kt ((z_lt zr0 hz).mp h) p e s mid args below meth c C hnK H locs Ls hR hS hl hol (zok_t hos) hsz) (fun h => kf (Int.not_lt.mp (fun z => h ((z_lt zr0 hz).mpr z))) p e s mid args below meth c C hnK H locs Ls hR hS hl hol (zok_t hos) hsz)
theorem kk_icmp_gt {a b : Int} {off : Int} {tgt : Nat} (hz : zr a) (hb : zr b) (hd : decode m.2.1 pc = .ok (.if_icmp .gt off, 3)) (ht : (pc : Int) + off = (tgt : Int)) (kt : b < a → zK l w m M ini tgt ls st kc ks E) (kf : a ≤ b → zK l w m M ini (pc + 3) ls st kc ks E) : zK l w m M ini pc ls (zi b :: zi a :: st) kc ks E := by
  intro p e s mid args below meth c C hnK H locs Ls hR hS hl hol hos hsz
  exact lv_icmp_gt C.1 C.2.1 hd ht (fun h => kt ((z_lt hb hz).mp h) p e s mid args below meth c C hnK H locs Ls hR hS hl hol (zok_t (zok_t hos)) hsz) (fun h => kf (Int.not_lt.mp (fun z => h ((z_lt hb hz).mpr z))) p e s mid args below meth c C hnK H locs Ls hR hS hl hol (zok_t (zok_t hos)) hsz)
theorem kk_if_le {a : Int} {off : Int} {tgt : Nat} (hz : zr a) (hd : decode m.2.1 pc = .ok (.ifCond .le off, 3)) (ht : (pc : Int) + off = (tgt : Int)) (kt : a ≤ 0 → zK l w m M ini tgt ls st kc ks E) (kf : 0 < a → zK l w m M ini (pc + 3) ls st kc ks E) : zK l w m M ini pc ls (zi a :: st) kc ks E := by
  intro p e s mid args below meth c C hnK H locs Ls hR hS hl hol hos hsz
  exact lv_if_le C.1 C.2.1 hd ht (fun h => kt ((z_le hz zr0).mp h) p e s mid args below meth c C hnK H locs Ls hR hS hl hol (zok_t hos) hsz) (fun h => kf (Int.not_le.mp (fun z => h ((z_le hz zr0).mpr z))) p e s mid args below meth c C hnK H locs Ls hR hS hl hol (zok_t hos) hsz)
theorem kk_icmp_le {a b : Int} {off : Int} {tgt : Nat} (hz : zr a) (hb : zr b) (hd : decode m.2.1 pc = .ok (.if_icmp .le off, 3)) (ht : (pc : Int) + off = (tgt : Int)) (kt : a ≤ b → zK l w m M ini tgt ls st kc ks E) (kf : b < a → zK l w m M ini (pc + 3) ls st kc ks E) : zK l w m M ini pc ls (zi b :: zi a :: st) kc ks E := by
  intro p e s mid args below meth c C hnK H locs Ls hR hS hl hol hos hsz
  exact lv_icmp_le C.1 C.2.1 hd ht (fun h => kt ((z_le hz hb).mp h) p e s mid args below meth c C hnK H locs Ls hR hS hl hol (zok_t (zok_t hos)) hsz) (fun h => kf (Int.not_le.mp (fun z => h ((z_le hz hb).mpr z))) p e s mid args below meth c C hnK H locs Ls hR hS hl hol (zok_t (zok_t hos)) hsz)
theorem kj_istoreN {j : Nat} {f : Fin 4} {a : Int} (ls' : List zV) (hd : decode m.2.1 pc = .ok (.istore_n f, 1)) (hf : (f : Nat) = j) (hj : j < ls.length) (hn : j < m.2.2.1) (hp : zprev ls j = true) (hs : ls.set j (zi a) = ls') (kk : zK l w m M ini (pc + 1) ls' st kc ks E) : zK l w m M ini pc ls (zi a :: st) kc ks E := kk_istoreN hd hf hj hn hp (by rw [hs]; exact kk)
theorem kj_istore {j : Nat} {a : Int} (ls' : List zV) (hd : decode m.2.1 pc = .ok (.istore j, 2)) (hj : j < ls.length) (hn : j < m.2.2.1) (hp : zprev ls j = true) (hs : ls.set j (zi a) = ls') (kk : zK l w m M ini (pc + 2) ls' st kc ks E) : zK l w m M ini pc ls (zi a :: st) kc ks E := kk_istore hd hj hn hp (by rw [hs]; exact kk)
theorem kj_iinc {j : Nat} {n a b : Int} (ls' : List zV) (hd : decode m.2.1 pc = .ok (.iinc j n, 3)) (hj : ls[j]? = some (zi a)) (hb : a + n = b) (hn : j < m.2.2.1) (hp : zprev ls j = true) (hs : ls.set j (zi b) = ls') (kk : zK l w m M ini (pc + 3) ls' st kc ks E) : zK l w m M ini pc ls st kc ks E := kk_iinc hd hj hb hn hp (by rw [hs]; exact kk)
theorem kj_drop (j : Nat) (ls' : List zV) (hs : ls.set j zu = ls') (kk : zK l w m M ini pc ls' st kc ks E) : zK l w m M ini pc ls st kc ks E := by
  subst hs
  refine kk_forget (ls.set j zu) (fun q hq => ?_) (fun x hx => ?_) kk
  · obtain ⟨i, x, h1, h2, h3⟩ := zps_mem.mp hq
    by_cases hi : i = j
    · subst hi
      by_cases hl : i < ls.length
      · rw [List.getElem?_set_self hl] at h1
        cases h1
        cases h2
      · rw [List.getElem?_eq_none (by simpa using Nat.le_of_not_lt hl)] at h1
        cases h1
    · rw [List.getElem?_set_ne (fun q => hi q.symm)] at h1
      exact zps_mem.mpr ⟨i, x, h1, h2, h3⟩
  · rcases List.mem_or_eq_of_mem_set hx with h1 | h1
    · exact Or.inr h1
    · exact Or.inl h1
theorem kj_top {a b : Int} (h : a = b) (kk : zK l w m M ini pc ls (zi b :: st) kc ks E) : zK l w m M ini pc ls (zi a :: st) kc ks E := by rw [h]; exact kk
theorem kk_ldcI {ix : Nat} {a : Int} (hd : decode m.2.1 pc = .ok (.ldc ix, 2)) (hw : Cond.constant m.1.cls ix (Int32.ofInt a) ∈ zgood) (kk : zK l w m M ini (pc + 2) ls (zi a :: st) kc ks E) : zK l w m M ini pc ls st kc ks E := by
  intro p e s mid args below meth c C hnK H locs Ls hR hS hl hol hos hsz
  exact lv_ldc C.1 C.2.1 C.2.2.2.2.2.1 (C.2.2.2.2.2.2.1 _ hw) hd (kk p e s mid args below meth c C hnK H locs Ls hR hS hl hol (zok_c trivial hos) hsz)
theorem kk_ldcS {ix j : Nat} {tx : String} (hq : (m.1.cls, ix, tx, j) ∈ zstrs) (hj : j < zNS) (hd : decode m.2.1 pc = .ok (.ldc ix, 2)) (kk : zK l w m M ini (pc + 2) ls (zf 100 j :: st) kc ks E) : zK l w m M ini pc ls st kc ks E := by
  intro p e s mid args below meth c C hnK H locs Ls hR hS hl hol hos hsz
  exact va_ldcS C.1 C.2.1 C.2.2.2.2.2.1 (C.2.2.2.2.2.2.2.2.1.2.2.2.2.2.2.1 _ hq) hd (kk p e s mid args below meth c C hnK H locs Ls hR hS hl hol (zok_c (Or.inl ⟨Or.inl rfl, hj⟩) hos) hsz)
theorem kk_ldcSw {ix j : Nat} {tx : String} (hq : (m.1.cls, ix, tx, j) ∈ zstrs) (hj : j < zNS) (hd : decode m.2.1 pc = .ok (.ldc_w ix, 3)) (kk : zK l w m M ini (pc + 3) ls (zf 100 j :: st) kc ks E) : zK l w m M ini pc ls st kc ks E := by
  intro p e s mid args below meth c C hnK H locs Ls hR hS hl hol hos hsz
  intro T hT X
  have hZ := C.2.2.2.2.2.2.2.2.1.2.2.2.2.2.2.1 _ hq
  obtain ⟨t, a1, b1⟩ := kk p e s mid args below meth c C hnK H locs Ls hR hS hl hol (zok_c (Or.inl ⟨Or.inl rfl, hj⟩) hos) hsz T hT X
  exact ⟨t, X.ldcStringW C.1 C.2.2.2.2.2.1 (text := tx) (a := zT w j) hZ.1 hZ.2 (g := F0 mid pc Ls (st.map (zc w))) rfl (by rw [C.2.1]; exact hd) t a1, b1⟩
theorem kk_compact {ix : Nat} (hw : Cond.fieldLink m.1.cls ix "java/lang/String" "COMPACT_STRINGS" "Z" ∈ zgood) (hd : decode m.2.1 pc = .ok (.getstatic ix, 3)) (kk : zK l w m M ini (pc + 3) ls (zi 1 :: st) kc ks E) : zK l w m M ini pc ls st kc ks E := by
  intro p e s mid args below meth c C hnK H locs Ls hR hS hl hol hos hsz
  exact va_gets C.1 C.2.1 C.2.2.2.2.2.2.2.2.1.2.2.2.2.2.1 hS C.2.2.2.2.2.1 (C.2.2.2.2.2.2.1 _ hw) (fun x hx => hx) hd (kk p e s mid args below meth c C hnK H locs Ls hR hS hl hol (zok_c trivial hos) hsz)
theorem kk_tmod {a b : Int} (ha : zr a) (h2 : 0 < b) (h3 : b ≤ 2147483647) (hd : decode m.2.1 pc = .ok (.irem, 1)) (kk : zK l w m M ini (pc + 1) ls (zi (a.tmod b) :: st) kc ks E) : zK l w m M ini pc ls (zi b :: zi a :: st) kc ks E := by
  intro p e s mid args below meth c C hnK H locs Ls hR hS hl hol hos hsz
  refine lv_irem C.1 C.2.1 hd (fun h => ?_) ?_
  · have := (z_eq ⟨by omega, h3⟩ zr0).mp h
    omega
  · rw [z_tmod ha h2 h3]
    exact kk p e s mid args below meth c C hnK H locs Ls hR hS hl hol (zok_c trivial (zok_t (zok_t hos))) hsz
end KK
/-! words of either kind -/
def zok2 (x : Cond) : Prop := x ∈ lw_tbl ∧ (goodWord x = true ∨ (x.onTables && x.keepsFace) = true)
theorem zall2 {ws : List Cond} (ps : List Nat) (h1 : ws.map some = ps.map (fun i => lw_tbl[i]?)) (h2 : ws.all (fun x => goodWord x || (x.onTables && x.keepsFace)) = true) : ∀ x ∈ ws, zok2 x := by
  intro x hx
  have h3 : some x ∈ ps.map (fun i => lw_tbl[i]?) := by rw [← h1]; exact List.mem_map.mpr ⟨x, hx, rfl⟩
  obtain ⟨i, -, hi⟩ := List.mem_map.mp h3
  have h4 := List.all_eq_true.mp h2 x hx
  exact ⟨List.mem_of_getElem? hi, (Bool.or_eq_true _ _).mp h4⟩
theorem zw2 {l : Launch} {w : zW} {m : zM} {p : Program} {s : State} {mid : MethodId} {args : Array Value} {meth : Method} {c : Code} (C : zCtx l w m p s mid args meth c) {x : Cond} (h : zok2 x) : x.before args s = true := by
  rcases h.2 with g | g
  · exact C.2.2.2.2.2.2.1 x (List.mem_filter.mpr ⟨h.1, g⟩)
  · exact zface_same (List.mem_filter.mpr ⟨h.1, g⟩) rfl (C.2.2.2.2.2.2.2.2.1.2.2.2.2.2.2.2.2.2.2.2.2.1 x (List.mem_filter.mpr ⟨h.1, g⟩))
/-- what a private method of a superclass is selected for -/
theorem z_selP {C : String} {y : MethodName} {s : State} {args : Array Value} {cC : ClassId} (hC : s.vm.findClass C = some cC) (hsame : (Cond.sameMethod y.cls y.cls y.name y.desc).before args s = true) (hpriv : (Cond.privateMethod y).before args s = true) (hinst : (Cond.instanceMethod y).before args s = true) : (Cond.selects C y y).before args s = true := by
  obtain ⟨mk, methM, hnamed, hmethM, -, -⟩ := Cond.instanceMethod_spec hinst
  have hsel : selectMethod {} s.vm cC mk = .method mk := selectMethod_private hmethM (Cond.privateMethod_at hpriv mk methM hnamed hmethM)
  have hn2 : s.methodNamed? ⟨y.cls, y.name, y.desc⟩ = some mk := hnamed
  have hfc := findClass_of_methodNamed hnamed
  simp only [Cond.before, Cond.holds, Cond.value, hfc, hn2, beq_iff_eq] at hsame
  cases hf : s.methodFound? y.cls y.name y.desc with
  | none => rw [hf] at hsame; simp at hsame
  | some r =>
    rw [hf] at hsame
    simp at hsame
    obtain ⟨rfl, hi⟩ := hsame
    simp only [Cond.before, Cond.holds, Cond.value, hC, hf, hnamed, hsel]
    simp
    exact hi
/-! ===== contracts over the list ===== -/
def kPc (w : zW) (as : List zV) (E : List va_E) : Array Value → State → Prop := fun v U => v = (as.map (zc w)).toArray ∧ zR w E U.heap ∧ zEnv w U ∧ U.heap.size = zB w + E.length ∧ zAO w U ∧ ∀ x ∈ as, zok w x
def kQc (w : zW) (r : Option zV) (n : Nat) (E : List va_E) (P : List va_E → Prop) : Array Value → State → Outcome → State → Prop := fun _ st o t => o = .returned (r.map (zc w)) ∧ (∃ E', P E' ∧ E'.length = E.length + n ∧ zR w E' t.heap) ∧ va_F (zAd w) st t
def kRm (h n sl : Nat) : Room := { frames := h, cells := n, slots := sl, locals := 34 * h }
def kM (w : zW) (h n sl : Nat) (r : Option zV) (E : List va_E) (P : List va_E → Prop) : zMo := (kRm h n sl, fun below args s => vx_MQ below (kQc w r n E P) (fun _ _ _ => False) args s n sl (zAd w), 0, 0)
def kSp (l : Launch) (w : zW) (m' : zM) (h n sl : Nat) (as : List zV) (E : List va_E) (r : Option zV) (P : List va_E → Prop) : Prop := Met l m'.1 (zwds m') (kRm h n sl) (kPc w as E) (kQc w r n E P) n sl (zAd w)
theorem kPc_blind (w : zW) (as : List zV) (E : List va_E) : FrameBlind (kPc w as E) := fun _ U _ _ h => ⟨h.1, h.2.1, zEnv_same (U := U) rfl rfl h.2.2.1, h.2.2.2.1, zAO_moved (u := U) (H := U.heap) (Vm.Alike.refl _) va_S.rf rfl h.2.2.2.2.1, h.2.2.2.2.2⟩
def kfit (M : zMo) (m' : zM) (h n sl kc ks : Nat) : Prop := h + 1 ≤ M.1.frames ∧ 8 + (m'.2.2.1 + 11) + 34 * h ≤ M.1.locals ∧ kc + n ≤ M.1.cells ∧ ks + sl ≤ M.1.slots
section KQ
variable {l : Launch} {w : zW} {m : zM} {M : zMo} {ini : Bool} {pc kc ks : Nat} {ls st : List zV} {E : List va_E}
theorem kk_enter {m' : zM} {h n sl : Nat} {as : List zV} {r : Option zV} {P : List va_E → Prop} (hfl : l.stackTraces = false) (hpl : plainName m'.1.cls = true) (hh : m'.2.2.2.2 = []) (ini : Bool) (hnm : ini = true → m'.1.name = "<init>") (pad : Nat) (hln : (zexp as).length + pad = m'.2.2.1) (kk : zK l w m' (kM w h n sl r E P) ini 0 (zexp as ++ List.replicate pad zu) [] 0 0 E) : kSp l w m' h n sl as E r P := by
  have hv : vx_Met l m'.1 (zwds m') (kRm h n sl) (kPc w as E) (kQc w r n E P) (fun _ _ _ => False) n sl (zAd w) := by
    refine vx_ofW (cc := m'.2.1) (maxL := m'.2.2.1) (ret := m'.2.2.2.1) hpl rfl ?_
    intro p e s mid args below meth c s₁ B hml ht hv
    obtain ⟨rfl, hR, hE, hsz, hAO, hok⟩ := hv
    have hts := atoms_spec (ws := zwds m') B.pre
    have hl := lv_entry (as.map (zc w)) (n := m'.2.2.1) (by rw [zexp_len]; omega)
    rw [lg_entry_eq]
    generalize (lg_sl (as.map (zc w)) ++ List.replicate (m'.2.2.1 - (lg_sl (as.map (zc w))).length) Slot.unset).toArray = Ls at hl ⊢
    have hC : zCtx l w m' p s mid ((as.map (zc w)).toArray) meth c := ⟨B.exec, B.bytes, hml, B.returns, by
      rw [hh]
      have : c.exceptionTable.toList = [] := List.eq_nil_iff_forall_not_mem.mpr ht
      rw [this]; rfl, findClass_of_methodNamed B.named, fun x hx => hts x (List.mem_cons_of_mem _ hx), B.notSynchronized, hE, hfl⟩
    exact kk p e s mid _ below meth c hC ⟨fun q => ((name_of_methodNamed B.named B.method).1).trans (hnm q), hAO⟩ s.heap [] Ls hR va_S.rf ⟨hl.1, hl.2.1, fun q hq => hl.2.2 q (zexp_in as 0 0 pad q hq)⟩ (zexp_ok as pad hok) (fun x hx => by cases hx) hsz
  intro p e ha hc hk s m args below hf happ hp hK
  obtain ⟨n, o, h1, h2, h3, h4⟩ := hv p e ha hc hk s m args below hf happ hp hK
  refine ⟨n, o, h1, h2, h3, ?_⟩
  rcases h4 with h4 | ⟨q, -, E, ce, L, hq, -⟩
  · exact h4
  · exact hq.elim
/-! ends -/
theorem kk_iret {h n sl : Nat} {a : Int} {ty : FieldType} {E0 : List va_E} {P : List va_E → Prop} (hr : m.2.2.2.1 = some ty) (hn : narrow ty (.int (Int32.ofInt a)) = .int (Int32.ofInt a)) (hd : decode m.2.1 pc = .ok (.ireturn, 1)) (hP : P E) (hlen : E.length = E0.length + n) (h1 : kc ≤ n) (h2 : ks ≤ sl) : zK l w m (kM w h n sl (some (zi a)) E0 P) ini pc ls [zi a] kc ks E := by
  intro p e s mid args below meth c C hnK H locs Ls hR hS hl hol hos hsz
  refine W.widen (k := n) (n := sl) h1 h2 ?_
  exact vx_ret (W.zret C.1 C.2.1 (by rw [C.2.2.2.1]; exact hr) hn (fun t ht hW => ⟨rfl, ⟨E, hP, hlen, by rw [ht]; exact hR⟩, hS.F ht⟩) (fun q hq => hS.2.2 q hq) hd C.2.2.2.2.2.2.2.1)
theorem kk_aret {h n sl : Nat} {a : Addr} {rt : FieldType} {E0 : List va_E} {P : List va_E → Prop} (hr : m.2.2.2.1 = some rt) (hrt : (∃ n, rt = .object n) ∨ ∃ t, rt = .array t) (hd : decode m.2.1 pc = .ok (.areturn, 1)) (hP : P E) (hlen : E.length = E0.length + n) (h1 : kc ≤ n) (h2 : ks ≤ sl) : zK l w m (kM w h n sl (some (zV0 a)) E0 P) ini pc ls [zV0 a] kc ks E := by
  intro p e s mid args below meth c C hnK H locs Ls hR hS hl hol hos hsz
  refine W.widen (k := n) (n := sl) h1 h2 ?_
  exact vx_ret (W.aret C.1 C.2.1 (by rw [C.2.2.2.1]; exact hr) hrt (Or.inr ⟨a, rfl⟩) (fun t ht hW => ⟨rfl, ⟨E, hP, hlen, by rw [ht]; exact hR⟩, hS.F ht⟩) (fun q hq => hS.2.2 q hq) hd C.2.2.2.2.2.2.2.1)
theorem kk_vret {h n sl : Nat} {E0 : List va_E} {P : List va_E → Prop} (hr : m.2.2.2.1 = none) (hd : decode m.2.1 pc = .ok (.return_, 1)) (hP : P E) (hlen : E.length = E0.length + n) (h1 : kc ≤ n) (h2 : ks ≤ sl) : zK l w m (kM w h n sl none E0 P) ini pc ls [] kc ks E := by
  intro p e s mid args below meth c C hnK H locs Ls hR hS hl hol hos hsz
  refine W.widen (k := n) (n := sl) h1 h2 ?_
  exact vx_ret (W.vret C.1 C.2.1 (by rw [C.2.2.2.1]; exact hr) (fun t ht hW => ⟨rfl, ⟨E, hP, hlen, by rw [ht]; exact hR⟩, hS.F ht⟩) (fun q hq => hS.2.2 q hq) hd C.2.2.2.2.2.2.2.1)
/-! calls -/
theorem kk_after {n sl : Nat} {p : Program} {e : Env} {s : State} {mid : MethodId} {args : Array Value} {below : List Frame} {meth : Method} {c : Code} (C : zCtx l w m p s mid args meth c) (hn : (ini = true → meth.name = "<init>") ∧ zAO w s) {H : Heap} {locs : List Loc} {Ls : Array Slot} (hS : va_S (zAd w) s.heap H locs) (hl : lv_has Ls m.2.2.1 (zps w 0 ls)) (hol : ∀ v ∈ ls, zok w v) (hos : ∀ v ∈ st, zok w v) (hsz : s.heap.size + kc = zB w + E.length)
    {r : Option zV} {P : List va_E → Prop} {st0 : List Value} {a : Array Value} (hrk : ∀ x ∈ r, zok w x) (hr : va_Run p l e M.1 s mid args below meth c H locs kc ks n sl (F0 mid pc Ls st0) (st.map (zc w)) (kQc w r n E P a) (zAd w)) (kk : ∀ E', P E' → E'.length = E.length + n → zK l w m M ini (pc + 3) ls (r.toList ++ st) (kc + n) (ks + sl) E') :
    W p l e M.1 s mid args below meth c H locs kc ks (M.2.1 below args s) (F0 mid pc Ls st0) := by
  intro T hT X
  obtain ⟨v, st₀, t, T', L, h0, X', hL, e1, e2, ⟨hv, ⟨E', hx, hlen, hrep⟩, hF⟩, stp⟩ := hr T hT X
  have hv : v = r.map (zc w) := by injection hv
  subst hv
  obtain ⟨k1, k2, k3⟩ := vx_keep (A0 := zAd w) (A1 := zAd w) (free := zAd w) h0 e1 hS (fun _ _ h => h) (fun _ h => h) hL hF
  obtain ⟨t2, a1, b1⟩ := kk E' hx hlen p e s mid args below meth c C hn T'.heap (locs ++ L) Ls (by rw [e1]; exact hrep) k3 hl hol (fun x hx => by
    rcases List.mem_append.mp hx with h1 | h1
    · exact hrk x (by simpa using h1)
    · exact hos x h1) (by omega) T' rfl X'
  refine ⟨t2, stp t2 ?_, b1⟩
  have e3 : (r.map (zc w)).toList ++ st.map (zc w) = (r.toList ++ st).map (zc w) := by cases r <;> rfl
  rw [e3]
  exact a1
theorem kk_callS {m' : zM} {h n sl ix np : Nat} (as : List zV) {r : Option zV} {P : List va_E → Prop} (hsp : kSp l w m' h n sl as E r P) (hd : decode m.2.1 pc = .ok (.invokestatic ix, 3)) (hw : zCwS m.1.cls ix m') (hm : zMok m' np) (hnp : as.length = np) (hst : (st.map zcat).sum ≤ 8) (hf : kfit M m' h n sl kc ks) (hE0 : E = [] → kc = 0) (hrk : ∀ x ∈ r, zok w x) (kk : ∀ E', P E' → E'.length = E.length + n → zK l w m M ini (pc + 3) ls (r.toList ++ st) (kc + n) (ks + sl) E') : zK l w m M ini pc ls (as.reverse ++ st) kc ks E := by
  intro p e s mid args below meth c C hnK H locs Ls hR hS hl hol hos hsz
  obtain ⟨ho1, ho2⟩ := zok_rev hos
  obtain ⟨hx, hb, hml, hr, htab, hown, hts, hlk, hE, hfl⟩ := id C
  have hG : GoodIn zgood (va_wsS m.1.cls ix m'.1 (zwds m')) := zgood_sub (fun x hx => by
    unfold va_wsS zwds at hx
    rcases List.mem_append.mp hx with h1 | h1
    · exact hw x (List.mem_append_left [Cond.code m'.1 m'.2.1 m'.2.2.1 m'.2.2.2.1] h1)
    · rcases List.mem_cons.mp h1 with h2 | h2
      · exact hw x (by rw [h2]; simp)
      · exact h2)
  rw [zrev]
  refine zk_pre (fun hle => ?_)
  have hHs := zk_size hR hS hE0 hsz hle
  exact kk_after C hnK hS hl hol ho2 hsz hrk (va_runS (As := as.map (zc w)) ⟨hx, hb, hml, hown, hts⟩ hsp (va_cwS np hts hG rfl rfl rfl ⟨hm.1, hm.2.1, hm.2.2⟩ ⟨hf.1, hf.2.1⟩) ⟨kPc_blind w as E, fun U hU hW => ⟨rfl, by rw [hU]; exact hR, zEnv_go hE hW hS hU, by rw [hU, hHs], zAO_moved hW.alike hS hU hnK.2, ho1⟩⟩ rfl (by rw [List.length_map, hnp]) hl.1 rfl (lv_room (zsum_c w hst)) hd ⟨hf.2.2.1, hf.2.2.2⟩) kk
theorem kk_callI {y : MethodName} {cc : ByteArray} {mx h n sl ix np : Nat} (as : List zV) {a : Addr} {P : List va_E → Prop} (hsp : kSp l w (y, cc, mx, none, []) h n sl (zV0 a :: as) E none P) (hd : decode m.2.1 pc = .ok (.invokespecial ix, 3)) (hw : ∀ x ∈ ([.methodLink m.1.cls ix y, .instanceMethod y, .initialized y.cls, .code y cc mx none] : List Cond), x ∈ zgood) (hm : zMok (y, cc, mx, none, []) np) (hy : y.name = "<init>") (hnp : as.length = np) (hst : (st.map zcat).sum ≤ 8) (hf : kfit M (y, cc, mx, none, []) h n sl kc ks) (hE0 : E = [] → kc = 0) (kk : ∀ E', P E' → E'.length = E.length + n → zK l w m M ini (pc + 3) ls st (kc + n) (ks + sl) E') : zK l w m M ini pc ls (as.reverse ++ zV0 a :: st) kc ks E := by
  intro p e s mid args below meth c C hnK H locs Ls hR hS hl hol hos hsz
  obtain ⟨ho1, ho2⟩ := zok_rev hos
  obtain ⟨hx, hb, hml, hr, htab, hown, hts, hlk, hE, hfl⟩ := id C
  have hG := zk_hG (y, cc, mx, none, []) (fun x hx => hw x (by rcases List.mem_singleton.mp hx with rfl; simp))
  rw [zrev, List.map_cons]
  refine zk_pre (fun hle => ?_)
  have hHs := zk_size hR hS hE0 hsz hle
  exact kk_after (r := none) C hnK hS hl hol (zok_t ho2) hsz (fun x hx => by cases hx) (va_runI (As := as.map (zc w)) (b := a) (rest := st.map (zc w)) ⟨hx, hb, hml, hown, hts⟩ hsp (cwI np hts hG rfl rfl rfl (hts _ (hw _ (by simp))) (hts _ (hw _ (by simp))) (hts _ (hw _ (by simp))) hy ⟨hm.1, hm.2.1, hm.2.2⟩ ⟨hf.1, hf.2.1⟩) ⟨kPc_blind w _ E, fun U hU hW => ⟨rfl, by rw [hU]; exact hR, zEnv_go hE hW hS hU, by rw [hU, hHs], zAO_moved hW.alike hS hU hnK.2, fun x hx => by
    rcases List.mem_cons.mp hx with h1 | h1
    · rw [h1]; trivial
    · exact ho1 x h1⟩⟩ rfl (by rw [List.length_map, hnp]) hl.1 rfl (lv_room (zsum_c w hst)) hd ⟨hf.2.2.1, hf.2.2.2⟩) kk
theorem kk_callV {m' : zM} {h n sl ix np t k : Nat} (as : List zV) {fs : List Value} {a : Addr} {r : Option zV} {P : List va_E → Prop} (hsp : kSp l w m' h n sl (zV0 a :: as) E r P) (ha : a = zB w + k) (he : E[k]? = some (.inr (t, fs))) (hcl : (vwCl[t]?).map (fun q => q.1) = some m'.1.cls) (hd : decode m.2.1 pc = .ok (.invokevirtual ix, 3)) (hw : zCwV m.1.cls ix m') (hm : zMok m' np) (hnp : as.length = np) (hst : (st.map zcat).sum ≤ 8) (hf : kfit M m' h n sl kc ks) (hE0 : E = [] → kc = 0) (hrk : ∀ x ∈ r, zok w x) (kk : ∀ E', P E' → E'.length = E.length + n → zK l w m M ini (pc + 3) ls (r.toList ++ st) (kc + n) (ks + sl) E') : zK l w m M ini pc ls (as.reverse ++ zV0 a :: st) kc ks E := by
  subst ha
  intro p e s mid args below meth c C hnK H locs Ls hR hS hl hol hos hsz
  obtain ⟨ho1, ho2⟩ := zok_rev hos
  obtain ⟨hx, hb, hml, hr, htab, hown, hts, hlk, hE, hfl⟩ := id C
  obtain ⟨qc, hqc, hqn⟩ := Option.map_eq_some_iff.mp hcl
  have hrc := va_recv hE.2.2.1 hR hqc (zLs_at he)
  rw [hqn] at hrc
  have hG : GoodIn zgood (wsV m.1.cls ix m'.1.cls m'.1 (zwds m')) := zgood_sub (fun x hx => by
    unfold wsV zwds at hx
    rcases List.mem_append.mp hx with h1 | h1
    · exact hw x (List.mem_append_left [Cond.code m'.1 m'.2.1 m'.2.2.1 m'.2.2.2.1] h1)
    · rcases List.mem_cons.mp h1 with h2 | h2
      · exact hw x (by rw [h2]; simp)
      · exact h2)
  rw [zrev, List.map_cons]
  refine zk_pre (fun hle => ?_)
  have hHs := zk_size hR hS hE0 hsz hle
  exact kk_after C hnK hS hl hol (zok_t ho2) hsz hrk (va_runV (As := as.map (zc w)) (b := zB w + k) ⟨hx, hb, hml, hown, hts⟩ hsp (cwV np hts hG rfl rfl rfl ⟨rfl, hm.1, hm.2.1, hm.2.2⟩ ⟨hf.1, hf.2.1⟩) ⟨kPc_blind w _ E, hrc, fun U hU hW => ⟨rfl, by rw [hU]; exact hR, zEnv_go hE hW hS hU, by rw [hU, hHs], zAO_moved hW.alike hS hU hnK.2, fun x hx => by
    rcases List.mem_cons.mp hx with h1 | h1
    · rw [h1]; trivial
    · exact ho1 x h1⟩⟩ rfl (by rw [List.length_map, hnp]) hl.1 rfl (lv_room (zsum_c w hst)) hd ⟨hf.2.2.1, hf.2.2.2⟩) kk
/-- a method of StringBuilder's superclass, named there; what is run is m' -/
def kCwU (own : String) (ix : Nat) (x : MethodName) (m' : zM) : Prop := (∃ b0 m0 r0, zok2 (.code x b0 m0 r0)) ∧ (∀ z ∈ ([.methodLink own ix x, .sameMethod x.cls x.cls x.name x.desc, .instanceMethod x, .instanceMethod m'.1] : List Cond), zok2 z) ∧ (∀ z ∈ ([.initialized m'.1.cls, .code m'.1 m'.2.1 m'.2.2.1 m'.2.2.2.1] : List Cond), z ∈ zgood) ∧ (zok2 (.selects "java/lang/StringBuilder" x m'.1) ∨ (m'.1 = x ∧ zok2 (.privateMethod x)))
theorem kk_callU {m' : zM} {x : MethodName} {h n sl ix np k : Nat} (as : List zV) {fs : List Value} {a : Addr} {r : Option zV} {P : List va_E → Prop} (hsp : kSp l w m' h n sl (zV0 a :: as) E r P) (ha : a = zB w + k) (he : E[k]? = some (.inr (10, fs))) (hd : decode m.2.1 pc = .ok (.invokevirtual ix, 3)) (hw : kCwU m.1.cls ix x m') (hm : x.cls ≠ "java/lang/invoke/MethodHandle" ∧ x.cls ≠ "java/lang/invoke/VarHandle" ∧ (parseMethodDescriptor x.desc).map (fun d => d.parameters.length) = some np) (hnp : as.length = np) (hst : (st.map zcat).sum ≤ 8) (hf : kfit M m' h n sl kc ks) (hE0 : E = [] → kc = 0) (hrk : ∀ x ∈ r, zok w x) (kk : ∀ E', P E' → E'.length = E.length + n → zK l w m M ini (pc + 3) ls (r.toList ++ st) (kc + n) (ks + sl) E') : zK l w m M ini pc ls (as.reverse ++ zV0 a :: st) kc ks E := by
  subst ha
  intro p e s mid args below meth c C hnK H locs Ls hR hS hl hol hos hsz
  obtain ⟨ho1, ho2⟩ := zok_rev hos
  obtain ⟨hx, hb, hml, hr, htab, hown, hts, hlk, hE, hfl⟩ := id C
  have hrc := va_recv hE.2.2.1 hR (show vwCl[10]? = some (RJ4, TJ4, 4) from rfl) (zLs_at he)
  obtain ⟨⟨b0, m0, r0, hc0⟩, hw1, hw2, hsl⟩ := hw
  have hfc := (hE.2.2.1.1 10 _ (show vwCl[10]? = some (RJ4, TJ4, 4) from rfl)).2.1
  have hsel : (Cond.selects "java/lang/StringBuilder" x m'.1).before args s = true := by
    rcases hsl with g | ⟨g1, g2⟩
    · exact zw2 C g
    · rw [g1]
      exact z_selP (cC := (zD w).1 10) hfc (zw2 C (hw1 _ (by simp))) (zw2 C g2) (zw2 C (hw1 _ (by simp)))
  have hG : GoodIn zgood (zwds m') := zgood_sub (fun x hx => by
    rcases List.mem_cons.mp hx with h2 | h2
    · exact hw2 x (by rw [h2]; simp)
    · exact h2)
  have cw : va_CU M.1 s args m.1.cls "java/lang/StringBuilder" x.cls ix x m'.1 m'.2.1 m'.2.2.1 m'.2.2.2.1 (zwds m') (kRm h n sl) n sl np :=
    ⟨⟨rfl, rfl, hf.1, hf.2.1, pay_in hts hG, List.mem_cons_self⟩, hts _ (hw2 _ (by simp)), hts _ (hw2 _ (by simp)), ⟨hm.1, hm.2.1⟩, fun sig h => by
      have h2 := hm.2.2
      rw [h] at h2
      exact (Option.some.inj h2).symm, zw2 C (hw1 _ (by simp)), zw2 C (hw1 _ (by simp)), va_Decl.of (zw2 C (hw1 (.instanceMethod x) (by simp))) (zw2 C hc0), hsel, zw2 C (hw1 _ (by simp))⟩
  rw [zrev, List.map_cons]
  refine zk_pre (fun hle => ?_)
  have hHs := zk_size hR hS hE0 hsz hle
  exact kk_after C hnK hS hl hol (zok_t ho2) hsz hrk (va_runU (As := as.map (zc w)) (b := zB w + k) ⟨hx, hb, hml, hown, hts⟩ hsp cw ⟨kPc_blind w _ E, hrc, fun U hU hW => ⟨rfl, by rw [hU]; exact hR, zEnv_go hE hW hS hU, by rw [hU, hHs], zAO_moved hW.alike hS hU hnK.2, fun x hx => by
    rcases List.mem_cons.mp hx with h1 | h1
    · rw [h1]; trivial
    · exact ho1 x h1⟩⟩ rfl (by rw [List.length_map, hnp]) hl.1 rfl (lv_room (zsum_c w hst)) hd ⟨hf.2.2.1, hf.2.2.2⟩) kk
/-- super.m() of StringBuilder -/
def kCwSU (own : String) (ix : Nat) (m' : zM) : Prop := (∀ z ∈ ([.methodLink own ix m'.1, .sameMethod m'.1.cls m'.1.cls m'.1.name m'.1.desc, .superclass own m'.1.cls, .instanceMethod m'.1] : List Cond), zok2 z) ∧ (∀ z ∈ ([.initialized m'.1.cls, .code m'.1 m'.2.1 m'.2.2.1 m'.2.2.2.1] : List Cond), z ∈ zgood)
theorem kk_callSU {m' : zM} {h n sl ix np k : Nat} (as : List zV) {fs : List Value} {a : Addr} {r : Option zV} {P : List va_E → Prop} (hsp : kSp l w m' h n sl (zV0 a :: as) E r P) (ha : a = zB w + k) (he : E[k]? = some (.inr (10, fs))) (hd : decode m.2.1 pc = .ok (.invokespecial ix, 3)) (hw : kCwSU m.1.cls ix m') (hno : m'.1.name ≠ "<init>") (hm : zMok m' np) (hnp : as.length = np) (hst : (st.map zcat).sum ≤ 8) (hf : kfit M m' h n sl kc ks) (hE0 : E = [] → kc = 0) (hrk : ∀ x ∈ r, zok w x) (kk : ∀ E', P E' → E'.length = E.length + n → zK l w m M ini (pc + 3) ls (r.toList ++ st) (kc + n) (ks + sl) E') : zK l w m M ini pc ls (as.reverse ++ zV0 a :: st) kc ks E := by
  subst ha
  intro p e s mid args below meth c C hnK H locs Ls hR hS hl hol hos hsz
  obtain ⟨ho1, ho2⟩ := zok_rev hos
  obtain ⟨hx, hb, hml, hr, htab, hown, hts, hlk, hE, hfl⟩ := id C
  have hrc := va_recv hE.2.2.1 hR (show vwCl[10]? = some (RJ4, TJ4, 4) from rfl) (zLs_at he)
  have hat := (hE.2.2.1.1 10 _ (show vwCl[10]? = some (RJ4, TJ4, 4) from rfl)).2
  obtain ⟨hw1, hw2⟩ := hw
  have hG : GoodIn zgood (zwds m') := zgood_sub (fun x hx => by
    rcases List.mem_cons.mp hx with h2 | h2
    · exact hw2 x (by rw [h2]; simp)
    · exact h2)
  have cw : va_CS M.1 s args m.1.cls ix m'.1 m'.2.1 m'.2.2.1 m'.2.2.2.1 (zwds m') (kRm h n sl) n sl np :=
    ⟨⟨rfl, rfl, hf.1, hf.2.1, pay_in hts hG, List.mem_cons_self⟩, zw2 C (hw1 _ (by simp)), zw2 C (hw1 _ (by simp)), zw2 C (hw1 _ (by simp)), zw2 C (hw1 _ (by simp)), hts _ (hw2 _ (by simp)), hts _ (hw2 _ (by simp)), hno, fun sig h => by
      have h2 := hm.2.2
      rw [h] at h2
      exact (Option.some.inj h2).symm⟩
  rw [zrev, List.map_cons]
  refine zk_pre (fun hle => ?_)
  have hHs := zk_size hR hS hE0 hsz hle
  exact kk_after C hnK hS hl hol (zok_t ho2) hsz hrk (va_runSU (As := as.map (zc w)) (b := zB w + k) hat ⟨hx, hb, hml, hown, hts⟩ hsp cw ⟨kPc_blind w _ E, hrc, fun U hU hW => ⟨rfl, by rw [hU]; exact hR, zEnv_go hE hW hS hU, by rw [hU, hHs], zAO_moved hW.alike hS hU hnK.2, fun x hx => by
    rcases List.mem_cons.mp hx with h1 | h1
    · rw [h1]; trivial
    · exact ho1 x h1⟩⟩ rfl (by rw [List.length_map, hnp]) hl.1 rfl (lv_room (zsum_c w hst)) hd ⟨hf.2.2.1, hf.2.2.2⟩) kk
/-- a method of String, on a constant -/
theorem kk_callT {m' : zM} {h n sl ix np j : Nat} (as : List zV) {r : Option zV} {P : List va_E → Prop} (hsp : kSp l w m' h n sl (zf 100 j :: as) E r P) (hcl : m'.1.cls = "java/lang/String") (hd : decode m.2.1 pc = .ok (.invokevirtual ix, 3)) (hw : zCwV m.1.cls ix m') (hm : zMok m' np) (hnp : as.length = np) (hst : (st.map zcat).sum ≤ 8) (hf : kfit M m' h n sl kc ks) (hE0 : E = [] → kc = 0) (hrk : ∀ x ∈ r, zok w x) (kk : ∀ E', P E' → E'.length = E.length + n → zK l w m M ini (pc + 3) ls (r.toList ++ st) (kc + n) (ks + sl) E') : zK l w m M ini pc ls (as.reverse ++ zf 100 j :: st) kc ks E := by
  intro p e s mid args below meth c C hnK H locs Ls hR hS hl hol hos hsz
  obtain ⟨ho1, ho2⟩ := zok_rev hos
  obtain ⟨hx, hb, hml, hr, htab, hown, hts, hlk, hE, hfl⟩ := id C
  have hj := zok_str (zok_h ho2)
  have hrc := vk_recv hE.2.2.2.2.2.2.2.1 hj hS
  have hG : GoodIn zgood (wsV m.1.cls ix m'.1.cls m'.1 (zwds m')) := zgood_sub (fun x hx => by
    unfold wsV zwds at hx
    rcases List.mem_append.mp hx with h1 | h1
    · exact hw x (List.mem_append_left [Cond.code m'.1 m'.2.1 m'.2.2.1 m'.2.2.2.1] h1)
    · rcases List.mem_cons.mp h1 with h2 | h2
      · exact hw x (by rw [h2]; simp)
      · exact h2)
  rw [zrev, List.map_cons]
  refine zk_pre (fun hle => ?_)
  have hHs := zk_size hR hS hE0 hsz hle
  rw [← hcl] at hrc
  exact kk_after C hnK hS hl hol (zok_t ho2) hsz hrk (va_runV (As := as.map (zc w)) (b := zT w j) ⟨hx, hb, hml, hown, hts⟩ hsp (cwV np hts hG rfl rfl rfl ⟨rfl, hm.1, hm.2.1, hm.2.2⟩ ⟨hf.1, hf.2.1⟩) ⟨kPc_blind w _ E, hrc, fun U hU hW => ⟨rfl, by rw [hU]; exact hR, zEnv_go hE hW hS hU, by rw [hU, hHs], zAO_moved hW.alike hS hU hnK.2, fun x hx => by
    rcases List.mem_cons.mp hx with h1 | h1
    · rw [h1]; exact zok_h ho2
    · exact ho1 x h1⟩⟩ rfl (by rw [List.length_map, hnp]) hl.1 rfl (lv_room (zsum_c w hst)) hd ⟨hf.2.2.1, hf.2.2.2⟩) kk
end KQ
/-! the list itself: one entry put anew, one entry more -/
theorem kset {E : List va_E} {k : Nat} {x y : va_E} (h : E[k]? = some y) : (E.set k x).length = E.length ∧ (E.set k x)[k]? = some x ∧ ∀ j, j ≠ k → (E.set k x)[j]? = E[j]? :=
  ⟨List.length_set, List.getElem?_set_self (List.getElem?_eq_some_iff.mp h).1, fun j hj => List.getElem?_set_ne (fun q => hj q.symm)⟩
theorem kpush (E : List va_E) (x : va_E) : (E ++ [x]).length = E.length + 1 ∧ (E ++ [x])[E.length]? = some x ∧ ∀ j, j < E.length → (E ++ [x])[j]? = E[j]? :=
  ⟨by rw [List.length_append]; rfl, by simp, fun j hj => List.getElem?_append_left hj⟩
/-- a field's link in a class of the list, the owner of the field named -/
def kFl (own : String) (ix t i : Nat) : Prop := ∃ (C : String) (T : u_T) (N : Nat), vwCl[t]? = some (C, T, N) ∧ i < N ∧ Cond.fieldLink own ix (T i).1 (T i).2.1 (T i).2.2.1 ∈ zgood
def kBy (f : Nat → Int32) : Prop := ∀ j, fits .byte (.int (f j)) = true
theorem kby_n : ∀ n : Nat, n < 128 → fits .byte (.int (Int32.ofInt (n : Int))) = true ∧ (Int32.ofInt (n : Int)).toInt8.toInt32 = Int32.ofInt (n : Int) := by decide +kernel
theorem kby_v {v : Int} (h0 : 0 ≤ v) (h1 : v < 128) : fits .byte (.int (Int32.ofInt v)) = true := by
  have h := (kby_n v.toNat (by omega)).1
  rw [show ((v.toNat : Nat) : Int) = v by omega] at h
  exact h
theorem kb8_v {v : Int} (h0 : 0 ≤ v) (h1 : v < 128) : zb8 v = v := by
  have h := (kby_n v.toNat (by omega)).2
  rw [show ((v.toNat : Nat) : Int) = v by omega] at h
  unfold zb8
  rw [h, z_toInt (by unfold zr; omega)]
theorem kBy_0 : kBy (fun _ => 0) := fun _ => rfl
theorem kBy_u {f : Nat → Int32} {i : Nat} {x : Int32} (h : kBy f) (hx : fits .byte (.int x) = true) : kBy (upd f i x) := fun j => by
  unfold upd
  split
  · exact hx
  · exact h j
theorem kBy_c {f g : Nat → Int32} {a b n : Nat} (h : kBy f) (h2 : kBy g) : kBy (va_cpy f g a b n) := fun j => by
  unfold va_cpy
  split
  · exact h _
  · exact h2 j
section KQ2
variable {l : Launch} {w : zW} {m : zM} {M : zMo} {ini : Bool} {pc kc ks : Nat} {ls st : List zV} {E : List va_E}
theorem kk_getf {t i ix k : Nat} {fs : List Value} {v : zV} {a : Addr} (ha : a = zB w + k) (hf : kFl m.1.cls ix t i) (he : E[k]? = some (.inr (t, fs))) (hv : fs[i]? = some (zc w v)) (hok : zok w v) (hd : decode m.2.1 pc = .ok (.getfield ix, 3)) (kk : zK l w m M ini (pc + 3) ls (v :: st) kc ks E) : zK l w m M ini pc ls (zV0 a :: st) kc ks E := by
  subst ha
  intro p e s mid args below meth c C hnK H locs Ls hR hS hl hol hos hsz
  obtain ⟨Cn, T, N, hc1, hiN, hlink⟩ := hf
  obtain ⟨hin, ⟨ty0, hty⟩, hnm, hN, ht⟩ := z_ucl hc1
  obtain ⟨hx, hb, hml, hr, htab, hown, hts, hlk, hEn, hfl⟩ := id C
  exact va_get hx hb hts hin hown hEn.2.2.1 hR k (zLs_at he) hc1 i hiN (hts _ hlink) (fun x hx => hx) hv hd (kk p e s mid args below meth c C hnK H locs Ls hR hS hl hol (zok_c hok (zok_t hos)) hsz)
theorem kk_putf {t i ix k : Nat} {fs : List Value} {v : zV} {ty : FieldType} {a : Addr} (ha : a = zB w + k) (hf : kFl m.1.cls ix t i) (he : E[k]? = some (.inr (t, fs))) (hi : i < fs.length) (hq : ∀ (Cn : String) (T : u_T) (N : Nat), vwCl[t]? = some (Cn, T, N) → parseFieldDescriptor (T i).2.2.1 = some ty ∧ ((T i).2.2.2 = false ∨ (ini = true ∧ (T i).2.2.2 = true ∧ (T i).1 = m.1.cls)))
    (hn1 : narrow ty (zc w v) = zc w v) (hfit : fits ty (zc w v) = true) (hd : decode m.2.1 pc = .ok (.putfield ix, 3)) (kk : ∀ E', E'.length = E.length → E'[k]? = some (.inr (t, fs.set i (zc w v))) → (∀ j, j ≠ k → E'[j]? = E[j]?) → zK l w m M ini (pc + 3) ls st kc ks E') : zK l w m M ini pc ls (v :: zV0 a :: st) kc ks E := by
  subst ha
  intro p e s mid args below meth c C hnK H locs Ls hR hS hl hol hos hsz
  obtain ⟨Cn, T, N, hc1, hiN, hlink⟩ := hf
  obtain ⟨hin, ⟨ty0, hty⟩, hnm, hN, ht⟩ := z_ucl hc1
  obtain ⟨hx, hb, hml, hr, htab, hown, hts, hlk, hEn, hfl⟩ := id C
  obtain ⟨hd1, hfin⟩ := hq _ _ _ hc1
  obtain ⟨g1, g2, g3⟩ := kset (x := .inr (t, fs.set i (zc w v))) he
  have go : ∀ (H1 : Heap) (locs1 : List Loc), va_P (zD w) vwCl ((zLs w E).set k (zB w + k, .inr (t, fs.set i (zc w v)))) H1 → va_D (zAd w) ((zLs w E).set k (zB w + k, .inr (t, fs.set i (zc w v)))) → va_S (zAd w) s.heap H1 locs1 → W p l e M.1 s mid args below meth c H1 locs1 kc ks (M.2.1 below args s) (F0 mid (pc + 3) Ls (st.map (zc w))) := fun H1 locs1 hP1 _ hS1 => by
    rw [zLs_set] at hP1
    exact kk _ g1 g2 g3 p e s mid args below meth c C hnK H1 locs1 Ls hP1 hS1 hl hol (zok_t (zok_t hos)) (by rw [g1]; exact hsz)
  rcases hfin with hfin | ⟨h1, h2, h3⟩
  · exact va_put (ty := ty) (v := zc w v) (fs := fs) hx hb hts hin ty0 hty hnm hown hEn.2.2.1 hR (zLs_D hnK.2.1 E) hS k (zLs_at he) hc1 i hiN (hts _ hlink) (fun x hx => hx) hfin hd1 hn1 hfit hi hd go
  · exact va_putF (ty := ty) (v := zc w v) (fs := fs) hx hb hts hin ty0 hty hnm hown hEn.2.2.1 hR (zLs_D hnK.2.1 E) hS k (zLs_at he) hc1 i hiN (hts _ hlink) (fun x hx => hx) h2 (hnK.1 h1) h3 hd1 hn1 hfit hi hd go
theorem kk_newb {n : Nat} {a : Addr} {nn : Int} (hnn : nn = (n : Int)) (hn : n ≤ 65536) (ha : a = zB w + E.length) (hE0 : E = [] → kc = 0) (hw : Cond.arrayClass .byte ∈ zgood) (hcells : kc + 1 ≤ M.1.cells) (hslots : ks + n ≤ M.1.slots) (hd : decode m.2.1 pc = .ok (.newarray .byte, 2)) (kk : ∀ E', E'.length = E.length + 1 → E'[E.length]? = some (.inl (zA w 1, n, .inl (fun _ => 0))) → (∀ j, j < E.length → E'[j]? = E[j]?) → zK l w m M ini (pc + 2) ls (zV0 a :: st) (kc + 1) (ks + n) E') : zK l w m M ini pc ls (zi nn :: st) kc ks E := by
  subst hnn
  obtain ⟨g1, g2, g3⟩ := kpush E (.inl (zA w 1, n, .inl (fun _ => 0)))
  refine zk_newa (ty := .byte) (q := 1) (a0 := (n, .inl (fun _ => 0))) ha hE0 hw rfl rfl (fun _ _ h => h) (fun _ => rfl) (fun h => ?_) ?_ (by show n * 1 ≤ 536870912; omega) hcells hslots hd (kk _ g1 g2 g3)
  · have := (z_lt (a := (n : Int)) (b := 0) (by unfold zr; omega) zr0).mp h; omega
  · show (Int32.ofInt (n : Int)).toInt.toNat = n
    rw [z_toInt (by unfold zr; omega)]; rfl
theorem kk_new {t ix N : Nat} {Cn : String} {T : u_T} {fs : List Value} {a : Addr} (ha : a = zB w + E.length) (hE0 : E = [] → kc = 0) (hc : vwCl[t]? = some (Cn, T, N)) (h1 : Cond.classLink m.1.cls ix Cn ∈ zgood) (h2 : Cond.instantiable Cn N ∈ zgood) (h3 : Cond.initialized Cn ∈ zgood) (hfs : ∀ ty : Nat → FieldType, (∀ k, k < N → parseFieldDescriptor (T k).2.2.1 = some (ty k)) → ∀ j, j < N → defaultValue (ty j) = vp_V fs j) (hcells : kc + 1 ≤ M.1.cells) (hslots : ks + N ≤ M.1.slots) (hd : decode m.2.1 pc = .ok (.new ix, 3)) (kk : ∀ E', E'.length = E.length + 1 → E'[E.length]? = some (.inr (t, fs)) → (∀ j, j < E.length → E'[j]? = E[j]?) → zK l w m M ini (pc + 3) ls (zV0 a :: st) (kc + 1) (ks + N) E') : zK l w m M ini pc ls st kc ks E := by
  obtain ⟨g1, g2, g3⟩ := kpush E (.inr (t, fs))
  exact zk_new ha hE0 hc h1 h2 h3 hfs hcells hslots hd (kk _ g1 g2 g3)
theorem kk_alen {k n : Nat} {f : Nat → Int32} {q : Nat} {ty : FieldType} {a : Addr} (ha : a = zB w + k) (he : E[k]? = some (.inl (zA w q, n, .inl f))) (hq : (ztys w)[q]? = some (zA w q, ty)) (hd : decode m.2.1 pc = .ok (.arraylength, 1)) (kk : zK l w m M ini (pc + 1) ls (zi (n : Int) :: st) kc ks E) : zK l w m M ini pc ls (zV0 a :: st) kc ks E := by
  subst ha
  intro p e s mid args below meth c C hnK H locs Ls hR hS hl hol hos hsz
  exact va_alen C.1 C.2.1 C.2.2.2.2.2.2.2.2.1.2.2.1 hR k q (zLs_at he) hq (v := Int32.ofInt (n : Int)) Int32.ofInt_eq_ofNat.symm hd (kk p e s mid args below meth c C hnK H locs Ls hR hS hl hol (zok_c trivial (zok_t hos)) hsz)
theorem kk_strL {j : Nat} (hd : decode m.2.1 pc = .ok (.arraylength, 1)) (kk : zK l w m M ini (pc + 1) ls (zi ((zslen.getD j 0 : Nat) : Int) :: st) kc ks E) : zK l w m M ini pc ls (zf 102 j :: st) kc ks E := by
  intro p e s mid args below meth c C hnK H locs Ls hR hS hl hol hos hsz
  have hj := zok_byt (zok_h hos)
  exact va_tlen C.1 C.2.1 (C.2.2.2.2.2.2.2.2.1.2.2.2.2.2.2.2.1.1 j hj).2.2.2 hS (v := Int32.ofInt ((zslen.getD j 0 : Nat) : Int)) Int32.ofInt_eq_ofNat.symm hd (kk p e s mid args below meth c C hnK H locs Ls hR hS hl hol (zok_c trivial (zok_t hos)) hsz)
theorem kk_strV {ix j : Nat} (hw : Cond.fieldLink m.1.cls ix "java/lang/String" "value" "[B" ∈ zgood) (hd : decode m.2.1 pc = .ok (.getfield ix, 3)) (kk : zK l w m M ini (pc + 3) ls (zf 102 j :: st) kc ks E) : zK l w m M ini pc ls (zf 100 j :: st) kc ks E := by
  intro p e s mid args below meth c C hnK H locs Ls hR hS hl hol hos hsz
  have hj := zok_str (zok_h hos)
  exact vk_getf C.1 C.2.1 (C.2.2.2.2.2.2.2.2.1.2.2.2.2.2.2.2.1.1 j hj).2.2.1 hS C.2.2.2.2.2.1 (C.2.2.2.2.2.2.1 _ hw) (fun x hx => hx) hd (kk p e s mid args below meth c C hnK H locs Ls hR hS hl hol (zok_c (Or.inl ⟨Or.inr rfl, hj⟩) (zok_t hos)) hsz)
theorem kk_strC {ix j : Nat} (hw : Cond.fieldLink m.1.cls ix "java/lang/String" "coder" "B" ∈ zgood) (hd : decode m.2.1 pc = .ok (.getfield ix, 3)) (kk : zK l w m M ini (pc + 3) ls (zi 0 :: st) kc ks E) : zK l w m M ini pc ls (zf 100 j :: st) kc ks E := by
  intro p e s mid args below meth c C hnK H locs Ls hR hS hl hol hos hsz
  have hj := zok_str (zok_h hos)
  exact vk_getf C.1 C.2.1 (C.2.2.2.2.2.2.2.2.1.2.2.2.2.2.2.2.1.1 j hj).2.1 hS C.2.2.2.2.2.1 (C.2.2.2.2.2.2.1 _ hw) (fun x hx => hx) hd (kk p e s mid args below meth c C hnK H locs Ls hR hS hl hol (zok_c trivial (zok_t hos)) hsz)
/-- Integer's tables -/
theorem kk_dig1 {ix : Nat} (hw : Cond.fieldLink m.1.cls ix "java/lang/Integer" "DigitOnes" "[B" ∈ zgood) (hd : decode m.2.1 pc = .ok (.getstatic ix, 3)) (kk : zK l w m M ini (pc + 3) ls (zf 106 0 :: st) kc ks E) : zK l w m M ini pc ls st kc ks E := by
  intro p e s mid args below meth c C hnK H locs Ls hR hS hl hol hos hsz
  exact va_gets C.1 C.2.1 hnK.2.2.2.1.1 hS C.2.2.2.2.2.1 (C.2.2.2.2.2.2.1 _ hw) (fun x hx => hx) hd (kk p e s mid args below meth c C hnK H locs Ls hR hS hl hol (zok_c (Or.inr (Or.inl (by omega))) hos) hsz)
theorem kk_dig2 {ix : Nat} (hw : Cond.fieldLink m.1.cls ix "java/lang/Integer" "DigitTens" "[B" ∈ zgood) (hd : decode m.2.1 pc = .ok (.getstatic ix, 3)) (kk : zK l w m M ini (pc + 3) ls (zf 107 0 :: st) kc ks E) : zK l w m M ini pc ls st kc ks E := by
  intro p e s mid args below meth c C hnK H locs Ls hR hS hl hol hos hsz
  exact va_gets C.1 C.2.1 hnK.2.2.2.2.1 hS C.2.2.2.2.2.1 (C.2.2.2.2.2.2.1 _ hw) (fun x hx => hx) hd (kk p e s mid args below meth c C hnK H locs Ls hR hS hl hol (zok_c (Or.inr (Or.inl (by omega))) hos) hsz)
theorem kk_dgl1 {a : Int} (h0 : 0 ≤ a) (h1 : a < 100) (hd : decode m.2.1 pc = .ok (.baload, 1)) (kk : zK l w m M ini (pc + 1) ls (zi (48 + a % 10) :: st) kc ks E) : zK l w m M ini pc ls (zi a :: zf 106 0 :: st) kc ks E := by
  intro p e s mid args below meth c C hnK H locs Ls hR hS hl hol hos hsz
  obtain ⟨hin, e1⟩ := z_cl (n := 100) h0 (by omega) (by omega)
  have h := kk p e s mid args below meth c C hnK H locs Ls hR hS hl hol (zok_c trivial (zok_t (zok_t hos))) hsz
  exact va_tb C.1 C.2.1 hnK.2.2.2.1.2 hS hin (v := zc w (zi (48 + a % 10))) (by rw [e1, show ((48 + a.toNat % 10 : Nat) : Int) = 48 + a % 10 by omega]; rfl) hd h
theorem kk_dgl2 {a : Int} (h0 : 0 ≤ a) (h1 : a < 100) (hd : decode m.2.1 pc = .ok (.baload, 1)) (kk : zK l w m M ini (pc + 1) ls (zi (48 + a / 10) :: st) kc ks E) : zK l w m M ini pc ls (zi a :: zf 107 0 :: st) kc ks E := by
  intro p e s mid args below meth c C hnK H locs Ls hR hS hl hol hos hsz
  obtain ⟨hin, e1⟩ := z_cl (n := 100) h0 (by omega) (by omega)
  have h := kk p e s mid args below meth c C hnK H locs Ls hR hS hl hol (zok_c trivial (zok_t (zok_t hos))) hsz
  exact va_tb C.1 C.2.1 hnK.2.2.2.2.2 hS hin (v := zc w (zi (48 + a / 10))) (by rw [e1, show ((48 + a.toNat / 10 : Nat) : Int) = 48 + a / 10 by omega]; rfl) hd h
theorem kk_bast {k n i : Nat} {f : Nat → Int32} {v x : Int} {a : Addr} (ha : a = zB w + k) (he : E[k]? = some (.inl (zA w 1, n, .inl f))) (hx : x = (i : Int)) (hi : i < n) (hn : n ≤ 65536) (hv0 : 0 ≤ v) (hv1 : v < 128) (hd : decode m.2.1 pc = .ok (.bastore, 1)) (kk : ∀ E', E'.length = E.length → E'[k]? = some (.inl (zA w 1, n, .inl (upd f i (Int32.ofInt v)))) → (∀ j, j ≠ k → E'[j]? = E[j]?) → zK l w m M ini (pc + 1) ls st kc ks E') : zK l w m M ini pc ls (zi v :: zi x :: zV0 a :: st) kc ks E := by
  subst ha hx
  intro p e s mid args below meth c C hnK H locs Ls hR hS hl hol hos hsz
  obtain ⟨hin, e1⟩ := z_cl (a := (i : Int)) (n := n) (by omega) (by omega) (by omega)
  rw [Int.toNat_natCast] at e1
  obtain ⟨g1, g2, g3⟩ := kset (x := .inl (zA w 1, n, .inl (upd f i (Int32.ofInt v)))) he
  refine va_bast C.1 C.2.1 C.2.2.2.2.2.2.2.2.1.2.2.1 hR (zLs_D hnK.2.1 E) hS k 1 (zLs_at he) (show (ztys w)[1]? = some (zA w 1, .byte) from rfl) hin hd (fun H1 locs1 hP1 _ hS1 => ?_)
  have e2 : vp_nar .byte (Int32.ofInt v) = Int32.ofInt v := by
    rw [vp_nar_byte]
    have h8 := kb8_v hv0 hv1
    unfold zb8 at h8
    rw [← z_of (Int32.ofInt v).toInt8.toInt32, h8]
  rw [e1, e2, zLs_set] at hP1
  exact kk _ g1 g2 g3 p e s mid args below meth c C hnK H1 locs1 Ls hP1 hS1 hl hol (zok_t (zok_t (zok_t hos))) (by rw [g1]; exact hsz)
theorem kk_copy {ix k0 k1 n0 n1 dp n : Nat} {f g : Nat → Int32} {x y : Int} {a0 a1 : Addr} (ha0 : a0 = zB w + k0) (ha1 : a1 = zB w + k1) (he0 : E[k0]? = some (.inl (zA w 1, n0, .inl f))) (he1 : E[k1]? = some (.inl (zA w 1, n1, .inl g))) (hx : x = (n : Int)) (hy : y = (dp : Int)) (h0 : n ≤ n0) (h1 : dp + n ≤ n1) (hb : n1 ≤ 65536) (hf : kBy f) (hw : ∀ x ∈ ([.methodLink m.1.cls ix arraycopyName, .native arraycopyName, .static arraycopyName, .initialized "java/lang/System"] : List Cond), x ∈ zgood) (hst : (st.map zcat).sum ≤ 8) (hM : 1 ≤ M.1.frames ∧ 8 + (nativeFrameWords "java/lang/System" "arraycopy" 5 + 11) ≤ M.1.locals) (hd : decode m.2.1 pc = .ok (.invokestatic ix, 3)) (kk : ∀ E', E'.length = E.length → E'[k1]? = some (.inl (zA w 1, n1, .inl (va_cpy f g 0 dp n))) → (∀ j, j ≠ k1 → E'[j]? = E[j]?) → zK l w m M ini (pc + 3) ls st kc ks E') : zK l w m M ini pc ls (zi x :: zi y :: zV0 a1 :: zi 0 :: zV0 a0 :: st) kc ks E := by
  subst ha0 ha1 hx hy
  intro p e s mid args below meth c C hnK H locs Ls hR hS hl hol hos hsz
  obtain ⟨hx, hb', hml, hr, htab, hown, hts, hlk, hE, hfl⟩ := id C
  have cl : ∀ q : Nat, q ≤ 65536 → (Int32.ofInt (q : Int)).toNatClampNeg = q ∧ ¬ Int32.ofInt (q : Int) < 0 := fun q hq => by
    have hz : zr (q : Int) := by unfold zr; omega
    refine ⟨?_, fun h => by have := (z_lt hz zr0).mp h; omega⟩
    show (Int32.ofInt (q : Int)).toInt.toNat = q
    rw [z_toInt hz]; rfl
  obtain ⟨c1, c2⟩ := cl n (by omega)
  obtain ⟨c3, c4⟩ := cl dp (by omega)
  have e0 : (Int32.ofInt 0).toNatClampNeg = 0 := rfl
  obtain ⟨g1, g2, g3⟩ := kset (x := .inl (zA w 1, n1, .inl (va_cpy f g 0 dp n))) he1
  refine va_copyi (ty := .byte) hx hb' (hml.trans hl.1.symm) hown (hts _ (hw _ (by simp))) (hts _ (hw _ (by simp))) (hts _ (hw _ (by simp))) (hts _ (hw _ (by simp))) hE.2.2.1 hR (zLs_D hnK.2.1 E) hS k0 k1 1 1 (zLs_at he0) (zLs_at he1) (show (ztys w)[1]? = some (zA w 1, .byte) from rfl) (show (ztys w)[1]? = some (zA w 1, .byte) from rfl) rfl (by decide) c4 c2 (by rw [e0, c1]; omega) (by rw [c3, c1]; omega) (fun _ _ => hf _) hM.1 (by have := zsum_c w hst; omega) hd (fun H1 locs1 hP1 _ hS1 => ?_)
  rw [e0, c1, c3, zLs_set] at hP1
  exact kk _ g1 g2 g3 p e s mid args below meth c C hnK H1 locs1 Ls hP1 hS1 hl hol (zok_t (zok_t (zok_t (zok_t (zok_t hos))))) (by rw [g1]; exact hsz)
theorem kk_copyT {ix j k1 n1 dp n : Nat} {g : Nat → Int32} {x y : Int} {a1 : Addr} (ha1 : a1 = zB w + k1) (he1 : E[k1]? = some (.inl (zA w 1, n1, .inl g))) (hx : x = (n : Int)) (hy : y = (dp : Int)) (h0 : n ≤ zslen.getD j 0) (h1 : dp + n ≤ n1) (hb : n1 ≤ 65536) (hf : kBy (fun i => (zsbyt.getD j []).getD i 0)) (hw : ∀ x ∈ ([.methodLink m.1.cls ix arraycopyName, .native arraycopyName, .static arraycopyName, .initialized "java/lang/System"] : List Cond), x ∈ zgood) (hst : (st.map zcat).sum ≤ 8) (hM : 1 ≤ M.1.frames ∧ 8 + (nativeFrameWords "java/lang/System" "arraycopy" 5 + 11) ≤ M.1.locals) (hd : decode m.2.1 pc = .ok (.invokestatic ix, 3)) (kk : ∀ E', E'.length = E.length → E'[k1]? = some (.inl (zA w 1, n1, .inl (va_cpy (fun i => (zsbyt.getD j []).getD i 0) g 0 dp n))) → (∀ j, j ≠ k1 → E'[j]? = E[j]?) → zK l w m M ini (pc + 3) ls st kc ks E') : zK l w m M ini pc ls (zi x :: zi y :: zV0 a1 :: zi 0 :: zf 102 j :: st) kc ks E := by
  subst ha1 hx hy
  intro p e s mid args below meth c C hnK H locs Ls hR hS hl hol hos hsz
  obtain ⟨hx, hb', hml, hr, htab, hown, hts, hlk, hE, hfl⟩ := id C
  have hj := zok_byt (zok_h (zok_t (zok_t (zok_t (zok_t hos)))))
  have cl : ∀ q : Nat, q ≤ 65536 → (Int32.ofInt (q : Int)).toNatClampNeg = q ∧ ¬ Int32.ofInt (q : Int) < 0 := fun q hq => by
    have hz : zr (q : Int) := by unfold zr; omega
    refine ⟨?_, fun h => by have := (z_lt hz zr0).mp h; omega⟩
    show (Int32.ofInt (q : Int)).toInt.toNat = q
    rw [z_toInt hz]; rfl
  obtain ⟨c1, c2⟩ := cl n (by omega)
  obtain ⟨c3, c4⟩ := cl dp (by omega)
  have e0 : (Int32.ofInt 0).toNatClampNeg = 0 := rfl
  obtain ⟨g1, g2, g3⟩ := kset (x := .inl (zA w 1, n1, .inl (va_cpy (fun i => (zsbyt.getD j []).getD i 0) g 0 dp n))) he1
  refine vk_copyt hx hb' (hml.trans hl.1.symm) hown (hts _ (hw _ (by simp))) (hts _ (hw _ (by simp))) (hts _ (hw _ (by simp))) (hts _ (hw _ (by simp))) hE.2.2.1 hR (zLs_D hnK.2.1 E) hS (f := fun i => (zsbyt.getD j []).getD i 0) (C.2.2.2.2.2.2.2.2.1.2.2.2.2.2.2.2.1.1 j hj).2.2.2 k1 1 (zLs_at he1) (show (ztys w)[1]? = some (zA w 1, .byte) from rfl) (by decide) c4 c2 (by rw [e0, c1]; omega) (by rw [c3, c1]; omega) (fun _ _ => hf _) hM.1 (by have := zsum_c w hst; omega) hd (fun H1 locs1 hP1 _ hS1 => ?_)
  rw [e0, c1, c3, zLs_set] at hP1
  exact kk _ g1 g2 g3 p e s mid args below meth c C hnK H1 locs1 Ls hP1 hS1 hl hol (zok_t (zok_t (zok_t (zok_t (zok_t hos))))) (by rw [g1]; exact hsz)
/-- single instructions -/
theorem kk_ifnn {x : Nat} {off : Int} {tgt : Nat} {j : Nat} (_ : x = 0) (hd : decode m.2.1 pc = .ok (.ifnonnull off, 3)) (ht : (pc : Int) + off = (tgt : Int)) (kk : zK l w m M ini tgt ls st kc ks E) : zK l w m M ini pc ls (zf 100 j :: st) kc ks E := by
  intro p e s mid args below meth c C hnK H locs Ls hR hS hl hol hos hsz
  exact lv_ifnonnull C.1 C.2.1 hd ht (kk p e s mid args below meth c C hnK H locs Ls hR hS hl hol (zok_t hos) hsz)
theorem kk_ineg {a : Int} (hd : decode m.2.1 pc = .ok (.ineg, 1)) (kk : zK l w m M ini (pc + 1) ls (zi (-a) :: st) kc ks E) : zK l w m M ini pc ls (zi a :: st) kc ks E := by
  intro p e s mid args below meth c C hnK H locs Ls hR hS hl hol hos hsz
  refine lv_ineg C.1 C.2.1 hd ?_
  rw [← Int32.ofInt_neg]
  exact kk p e s mid args below meth c C hnK H locs Ls hR hS hl hol (zok_c trivial (zok_t hos)) hsz
theorem kk_dupx1 {v u : zV} (hv : zcat v = 1) (hu : zcat u = 1) (hd : decode m.2.1 pc = .ok (.dup_x1, 1)) (kk : zK l w m M ini (pc + 1) ls (v :: u :: v :: st) kc ks E) : zK l w m M ini pc ls (v :: u :: st) kc ks E := by
  intro p e s mid args below meth c C hnK H locs Ls hR hS hl hol hos hsz
  exact lv_dup_x1 C.1 C.2.1 hd (by rw [zcat_c]; exact hv) (by rw [zcat_c]; exact hu) (kk p e s mid args below meth c C hnK H locs Ls hR hS hl hol (zok_c (zok_h hos) (zok_c (zok_h (zok_t hos)) (zok_c (zok_h hos) (zok_t (zok_t hos))))) hsz)
theorem kk_tdiv {a b : Int} (ha : zr a) (h2 : 1 < b) (h3 : b ≤ 2147483647) (hd : decode m.2.1 pc = .ok (.idiv, 1)) (kk : zK l w m M ini (pc + 1) ls (zi (a.tdiv b) :: st) kc ks E) : zK l w m M ini pc ls (zi b :: zi a :: st) kc ks E := by
  intro p e s mid args below meth c C hnK H locs Ls hR hS hl hol hos hsz
  have hb : zr b := ⟨by omega, h3⟩
  refine lv_idiv C.1 C.2.1 hd (fun h => ?_) ?_
  · have := (z_eq hb zr0).mp h
    omega
  have e0 := Int32.toInt_div (Int32.ofInt a) (Int32.ofInt b)
  rw [z_toInt ha, z_toInt hb] at e0
  have q1 : zr (a.tdiv b) := by
    unfold zr at ha ⊢
    by_cases h0 : 0 ≤ a
    · rw [Int.tdiv_eq_ediv_of_nonneg h0]
      have g1 := Int.ediv_nonneg h0 (show 0 ≤ b by omega)
      have g2 := Int.ediv_le_self b h0
      omega
    · have e3 : (-a).tdiv b = -(a.tdiv b) := Int.neg_tdiv a b
      rw [Int.tdiv_eq_ediv_of_nonneg (show 0 ≤ -a by omega)] at e3
      have g1 := Int.ediv_nonneg (show 0 ≤ -a by omega) (show 0 ≤ b by omega)
      have g2 := Int.ediv_le_self b (show 0 ≤ -a by omega)
      omega
  have e2 : Int32.ofInt a / Int32.ofInt b = Int32.ofInt (a.tdiv b) := by
    rw [← z_of (Int32.ofInt a / Int32.ofInt b), e0, Int.bmod_eq_of_le (by have := q1.1; omega) (by have := q1.2; omega)]
  rw [e2]
  exact kk p e s mid args below meth c C hnK H locs Ls hR hS hl hol (zok_c trivial (zok_t (zok_t hos))) hsz
theorem kk_max {ix : Nat} {a b : Int} (ha : zr a) (hb : zr b) (hw : ∀ x ∈ ([.methodLink m.1.cls ix Lib.Math.max.name, .static Lib.Math.max.name, .initialized "java/lang/Math", .code Lib.Math.max.name Lib.Math.max.code 2 (some .int)] : List Cond), x ∈ zgood) (hst : (st.map zcat).sum ≤ 8) (hM : 1 ≤ M.1.frames ∧ 21 ≤ M.1.locals) (hcs : kc ≤ M.1.cells ∧ ks ≤ M.1.slots) (hd : decode m.2.1 pc = .ok (.invokestatic ix, 3)) (kk : zK l w m M ini (pc + 3) ls (zi (max a b) :: st) kc ks E) : zK l w m M ini pc ls (zi b :: zi a :: st) kc ks E := by
  intro p e s mid args below meth c C hnK H locs Ls hR hS hl hol hos hsz
  obtain ⟨hx, hb', hml, hr, htab, hown, hts, hlk, hE, hfl⟩ := id C
  refine va_mmax hx hb' (hml.trans hl.1.symm) hown (hts _ (hw _ (by simp))) (hts _ (hw _ (by simp))) (hts _ (hw _ (by simp))) (hts _ (hw _ (by simp))) hM.1 (by have := zsum_c w hst; omega) hcs.1 hcs.2 hd ?_
  have e1 : (if Int32.ofInt a < Int32.ofInt b then Int32.ofInt b else Int32.ofInt a) = Int32.ofInt (max a b) := by
    simp only [z_lt ha hb]
    split
    · congr 1; omega
    · congr 1; omega
  rw [e1]
  exact kk p e s mid args below meth c C hnK H locs Ls hR hS hl hol (zok_c trivial (zok_t (zok_t hos))) hsz
theorem kk_min {ix : Nat} {a b : Int} (ha : zr a) (hb : zr b) (hw : ∀ x ∈ ([.methodLink m.1.cls ix Lib.Math.min.name, .static Lib.Math.min.name, .initialized "java/lang/Math", .code Lib.Math.min.name Lib.Math.min.code 2 (some .int)] : List Cond), x ∈ zgood) (hst : (st.map zcat).sum ≤ 8) (hM : 1 ≤ M.1.frames ∧ 21 ≤ M.1.locals) (hcs : kc ≤ M.1.cells ∧ ks ≤ M.1.slots) (hd : decode m.2.1 pc = .ok (.invokestatic ix, 3)) (kk : zK l w m M ini (pc + 3) ls (zi (min a b) :: st) kc ks E) : zK l w m M ini pc ls (zi b :: zi a :: st) kc ks E := by
  intro p e s mid args below meth c C hnK H locs Ls hR hS hl hol hos hsz
  obtain ⟨hx, hb', hml, hr, htab, hown, hts, hlk, hE, hfl⟩ := id C
  refine va_mmin hx hb' (hml.trans hl.1.symm) hown (hts _ (hw _ (by simp))) (hts _ (hw _ (by simp))) (hts _ (hw _ (by simp))) (hts _ (hw _ (by simp))) hM.1 (by have := zsum_c w hst; omega) hcs.1 hcs.2 hd ?_
  have e1 : (if Int32.ofInt b < Int32.ofInt a then Int32.ofInt b else Int32.ofInt a) = Int32.ofInt (min a b) := by
    simp only [z_lt hb ha]
    split
    · congr 1; omega
    · congr 1; omega
  rw [e1]
  exact kk p e s mid args below meth c C hnK H locs Ls hR hS hl hol (zok_c trivial (zok_t (zok_t hos))) hsz
end KQ2
/-! ===== the methods over numbered cells, called out of the making ===== -/
def zWv (w : zW) (b N u dl dk dv : Nat) (db : Nat → Int32) : zW := (b, zD w, zA w, zT w, zTV w, (zSb w, zSL w, zSx w), N, u, (dl, dk, dv, db, zI1 w, zI2 w))
def kC (v : zW) (σ : zS) : List va_E := (List.range (zN v)).map (zent v σ)
theorem kC_len (v : zW) (σ : zS) : (kC v σ).length = zN v := by unfold kC; simp
theorem kC_at {v : zW} {σ : zS} {k : Nat} (h : k < zN v) : (kC v σ)[k]? = some (zent v σ k) := by
  unfold kC
  simp [List.getElem?_map, List.getElem?_range h]
/-- the text that was made, in the list -/
def kDy (w v : zW) (E : List va_E) : Prop := zDL v = 0 ∨ ∃ (i j : Nat) (h z : Value), E[i]? = some (.inr (11, [.ref (zDV v), .int 0, h, z])) ∧ E[j]? = some (.inl (zA w 1, zDL v, .inl (zDb v))) ∧ zDK v = zB w + i ∧ zDV v = zB w + j ∧ ¬ zAd v (zDK v) ∧ ¬ zAd v (zDV v) ∧ zDL v ≤ 65536
theorem kDy_z {l : Launch} {w v : zW} {m : zM} {p : Program} {s : State} {mid : MethodId} {args : Array Value} {meth : Method} {c : Code} (C : zCtx l w m p s mid args meth c) {E : List va_E} {H : Heap} (hR : zR w E H) (hd : kDy w v E) : zDy v s H := by
  rcases hd with h | ⟨i, j, hh, z, h1, h2, h3, h4, h5, h6, h7⟩
  · exact Or.inl h
  refine Or.inr ?_
  have hK := C.2.2.2.2.2.2.2.2.1.2.2.1
  have hts := C.2.2.2.2.2.2.1
  obtain ⟨hin, -, -, -, -⟩ := z_ucl (show vwCl[11]? = some (RJ0, TJ0, 4) from rfl)
  obtain ⟨q', g1, cell, q1, q2, q3, q4⟩ := hR i _ (zLs_at h1)
  have g1 : some (RJ0, TJ0, 4) = some q' := g1
  cases g1
  obtain ⟨hS, hfc, kC, hkC, hkind⟩ := hK.1 11 _ (show vwCl[11]? = some (RJ0, TJ0, 4) from rfl)
  rw [← h3] at q1
  have hne : cell.vm ≠ .unknown := by rw [q3]; exact fun h => by cases h
  have fld : ∀ k, k < 4 → va_OF (TJ0 k).1 (TJ0 k).2.1 (TJ0 k).2.2.1 (vp_V [.ref (zDV v), .int 0, hh, z] k) (zDK v) (zAd v) s H := fun k hk => by
    obtain ⟨cf, kf, fi, f, hi, hsl⟩ := hS k hk
    exact ⟨cf, kf, fi, f, cell, hi, (u_facts hfc hkC (u_lays hts hin hk) hi).1, q1, hne, by rw [hsl]; exact q4 k hk, h5⟩
  refine ⟨⟨cell, q1, by rw [q3]; rfl, by rw [q2]; exact hfc, h5⟩, fld 1 (by decide), fld 0 (by decide), ?_⟩
  have hc : H[zDV v]? = some (vp_cell (zA w 1) (zDL v, .inl (zDb v))) := by
    have := hR j _ (zLs_at h2)
    rw [h4]; exact this
  have hA := (hK.2 1 (zA w 1, .byte) rfl).1
  refine ⟨_, hc, ?_, (fun q => by cases q), ?_, ?_, fun k hk => ?_, h6⟩
  · exact hA _ _
  · show _ ≤ (arrV _ _ _).slots.size
    rw [arrV_size]; exact Nat.le_refl _
  · show (arrV _ _ _).slots.size.toInt32 = _
    rw [arrV_size]
  · exact arrV_read _ _ hk
theorem zEnv_v {w : zW} {b N u dl dk dv : Nat} {db : Nat → Int32} {U : State} (h : zEnv w U) (h0 : zU w = 0) (hb : zB w ≤ b) (hN : zclb N = true) (hdy : zDy (zWv w b N u dl dk dv db) U U.heap) : zEnv (zWv w b N u dl dk dv db) U := by
  have hAB : ∀ q, zAd (zWv w b N u dl dk dv db) q → zAd w q := fun q hq => ⟨Nat.le_trans hb hq.1, Or.inl h0⟩
  obtain ⟨h1, h2, h3, h4, h5, h6, h7, h8, h9, h10, h11, h12, h13, h14⟩ := h
  exact ⟨hdy, hN, h3, h4.narrow hAB, h5.narrow hAB, h6.narrow hAB, h7, h8.narrow hAB, h9, h10, Nat.lt_of_lt_of_le h11 hb, h12.narrow hAB, h13, h14⟩
/-- where the numbered cells lie in the list -/
def kIn (w v : zW) (E1 E2 : List va_E) : Prop := zB v = zB w + E1.length ∧ (E2 = [] ∨ (zU v ≠ 0 ∧ zN v = 261))
theorem kIn_rep {w v : zW} {E1 E2 : List va_E} {σ : zS} {H : Heap} (hD : zD v = zD w) (hi : kIn w v E1 E2) (h : zR w (E1 ++ (kC v σ ++ E2)) H) : zRep v σ H := by
  intro k q hq
  have hk : k < zN v := by
    have := (List.getElem?_eq_some_iff.mp hq).1
    simpa [zws] using this
  rw [zws_at hk] at hq
  cases hq
  have e : (E1 ++ (kC v σ ++ E2))[E1.length + k]? = some (zent v σ k) := by
    rw [List.getElem?_append_right (by omega), show E1.length + k - E1.length = k by omega, List.getElem?_append_left (by rw [kC_len]; exact hk)]
    exact kC_at hk
  have h2 := h _ _ (zLs_at e)
  rw [show zB w + (E1.length + k) = zB v + k by rw [hi.1]; omega] at h2
  rw [hD]
  exact h2
theorem kIn_back {w v : zW} {E1 E2 : List va_E} {σ τ : zS} {H H1 : Heap} (hD : zD v = zD w) (hi : kIn w v E1 E2) (h : zR w (E1 ++ (kC v σ ++ E2)) H) (hr : zRep v τ H1) (hq : ∀ q : Nat, q < H.size → ¬ zAd v q → H1[q]? = H[q]?) : zR w (E1 ++ (kC v τ ++ E2)) H1 := by
  intro k q hk
  have hz : ∀ x : va_E, (E1 ++ (kC v τ ++ E2))[k]? = some x → q = (zB w + k, x) := fun x hx => by
    have := zLs_at (w := w) hx
    exact Option.some.inj (hk.symm.trans this)
  have keep : ∀ x : va_E, (E1 ++ (kC v σ ++ E2))[k]? = some x → ¬ zAd v (zB w + k) → va_at (zD w) vwCl (zB w + k, x) H1 := fun x hx hn => by
    have h2 := h _ _ (zLs_at hx)
    exact h2.kept (hq _ h2.lt hn)
  by_cases c1 : k < E1.length
  · obtain ⟨x, hx⟩ : ∃ x, E1[k]? = some x := ⟨_, List.getElem?_eq_getElem c1⟩
    have e : ∀ ρ : zS, (E1 ++ (kC v ρ ++ E2))[k]? = some x := fun ρ => by rw [List.getElem?_append_left c1]; exact hx
    rw [hz x (e τ)]
    refine keep x (e σ) (fun z => ?_)
    have := z.1
    have := hi.1
    omega
  · by_cases c2 : k < E1.length + zN v
    · have e : (E1 ++ (kC v τ ++ E2))[k]? = some (zent v τ (k - E1.length)) := by
        rw [List.getElem?_append_right (by omega), List.getElem?_append_left (by rw [kC_len]; omega)]
        exact kC_at (by omega)
      rw [hz _ e]
      have h2 := hr (k - E1.length) _ (zws_at (by omega))
      rw [hD] at h2
      rw [show zB w + k = zB v + (k - E1.length) by rw [hi.1]; omega]
      exact h2
    · have e : ∀ ρ : zS, (E1 ++ (kC v ρ ++ E2))[k]? = E2[k - E1.length - zN v]? := fun ρ => by
        rw [List.getElem?_append_right (by omega), List.getElem?_append_right (by rw [kC_len]; omega), kC_len]
      rcases hi.2 with g | ⟨g1, g2⟩
      · exfalso
        have hl : k < (E1 ++ (kC v τ ++ E2)).length := by
          have := (List.getElem?_eq_some_iff.mp hk).1
          simpa [zLs] using this
        rw [List.length_append, List.length_append, kC_len, g] at hl
        have : ([] : List va_E).length = 0 := rfl
        omega
      · obtain ⟨x, hx⟩ : ∃ x, (E1 ++ (kC v τ ++ E2))[k]? = some x := by
          have hl : k < (E1 ++ (kC v τ ++ E2)).length := by
            have := (List.getElem?_eq_some_iff.mp hk).1
            simpa [zLs] using this
          exact ⟨_, List.getElem?_eq_getElem hl⟩
        rw [hz x hx]
        refine keep x (by rw [e σ, ← e τ]; exact hx) (fun z => ?_)
        have q1 := hi.1
        rcases z.2 with z | z
        · exact g1 z
        · omega
section KQ3
variable {l : Launch} {w : zW} {m : zM} {M : zMo} {ini : Bool} {pc kc ks : Nat} {ls st : List zV}
theorem kk_afterX {v : zW} {E1 E2 : List va_E} {σ : zS} (hD : zD v = zD w) (hi : kIn w v E1 E2) {p : Program} {e : Env} {s : State} {mid : MethodId} {args : Array Value} {below : List Frame} {meth : Method} {c : Code} (C : zCtx l w m p s mid args meth c) (hn : (ini = true → meth.name = "<init>") ∧ zAO w s) {H : Heap} {locs : List Loc} {Ls : Array Slot} (hR : zR w (E1 ++ (kC v σ ++ E2)) H) (hS : va_S (zAd w) s.heap H locs) (hl : lv_has Ls m.2.2.1 (zps w 0 ls)) (hol : ∀ v ∈ ls, zok w v) (hos : ∀ v ∈ st, zok w v) (hsz : s.heap.size + kc = zB w + (E1 ++ (kC v σ ++ E2)).length)
    {r : Option zV} {R : zS → Prop} {st0 : List Value} {a : Array Value} (hrv : r.map (zc v) = r.map (zc w)) (hrk : ∀ x ∈ r, zok w x) (hr : vx_Run p l e M.1 s mid args below meth c H locs kc ks 0 0 (F0 mid pc Ls st0) (st.map (zc w)) (zQc v (zqv r R) a) (zXC v (zqv r R)) (zAd v)) (kk : ∀ τ, R τ → zK l w m M ini (pc + 3) ls (r.toList ++ st) kc ks (E1 ++ (kC v τ ++ E2))) :
    W p l e M.1 s mid args below meth c H locs kc ks (M.2.1 below args s) (F0 mid pc Ls st0) := by
  have hAB : ∀ q, zAd v q → zAd w q := fun q hq => ⟨by have := hi.1; have := hq.1; omega, Or.inl hn.2.1⟩
  intro T hT X
  rcases hr T hT X with ⟨x, st₀, t, T', L, h0, X', hL, e1, e2, ⟨r', τ, hv, hq, hrep, hF, hokr⟩, stp⟩ | ⟨q, st₀, t, T', L, E, ce, h0, X', hL, e1, e2, ⟨τ, hq, hrep, hF⟩, hce, hcv, hcl, stp⟩
  · obtain ⟨hq1, hq2⟩ := hq
    have hq1 : r' = r := by injection hq1
    subst hq1
    have hv : x = r'.map (zc v) := by injection hv
    rw [hrv] at hv
    subst hv
    obtain ⟨k1, k2, k3⟩ := vx_keep (A0 := zAd w) (A1 := zAd v) (free := zAd v) h0 e1 hS (fun q _ h => hAB q h) (fun q h => hAB q h) hL hF
    obtain ⟨t2, a1, b1⟩ := kk τ hq2 p e s mid args below meth c C hn T'.heap (locs ++ L) Ls (kIn_back hD hi hR (by rw [e1]; exact hrep) k2) k3 hl hol (fun x hx => by
      rcases List.mem_append.mp hx with h1 | h1
      · exact hrk x (by simpa using h1)
      · exact hos x h1) (by rw [hsz]; simp only [List.length_append, kC_len]) T' rfl X'
    refine ⟨t2, stp t2 ?_, b1⟩
    have e3 : (r'.map (zc w)).toList ++ st.map (zc w) = (r'.toList ++ st).map (zc w) := by cases r' <;> rfl
    rw [e3]
    exact a1
  · cases hq.1
/-- a static method of numbered cells -/
theorem kk_callXS {b N u dl dk dv : Nat} {db : Nat → Int32} {v : zW} (hv : v = zWv w b N u dl dk dv db) {E1 E2 : List va_E} {σ : zS} {m' : zM} {h' ix np : Nat} (as as' : List zV) {r : Option zV} {R : zS → Prop} (hsp : Sp l v m' h' 0 as σ (zqv r R)) (has : as'.map (zc w) = as.map (zc v)) (hoka : ∀ x ∈ as, zok v x) (hi : kIn w v E1 E2) (hN : zclb N = true) (hdy : kDy w v (E1 ++ (kC v σ ++ E2))) (hd : decode m.2.1 pc = .ok (.invokestatic ix, 3)) (hw : zCwS m.1.cls ix m') (hm : zMok m' np) (hnp : as.length = np) (hst : (st.map zcat).sum ≤ 8) (hf : kfit M m' h' 0 0 kc ks) (hrv : r.map (zc v) = r.map (zc w)) (hrk : ∀ x ∈ r, zok w x) (kk : ∀ τ, R τ → zK l w m M ini (pc + 3) ls (r.toList ++ st) kc ks (E1 ++ (kC v τ ++ E2))) : zK l w m M ini pc ls (as'.reverse ++ st) kc ks (E1 ++ (kC v σ ++ E2)) := by
  intro p e s mid args below meth c C hnK H locs Ls hR hS hl hol hos hsz
  obtain ⟨ho1, ho2⟩ := zok_rev hos
  obtain ⟨hx, hb, hml, hr, htab, hown, hts, hlk, hE, hfl⟩ := id C
  have hD : zD v = zD w := by rw [hv]; rfl
  have hG : GoodIn zgood (va_wsS m.1.cls ix m'.1 (zwds m')) := zgood_sub (fun x hx => by
    unfold va_wsS zwds at hx
    rcases List.mem_append.mp hx with h1 | h1
    · exact hw x (List.mem_append_left [Cond.code m'.1 m'.2.1 m'.2.2.1 m'.2.2.2.1] h1)
    · rcases List.mem_cons.mp h1 with h2 | h2
      · exact hw x (by rw [h2]; simp)
      · exact h2)
  rw [zrev, has]
  exact kk_afterX hD hi C hnK hR hS hl hol ho2 hsz hrv hrk (vx_runS (As := as.map (zc v)) ⟨hx, hb, hml, hown, hts⟩ hsp (va_cwS np hts hG rfl rfl rfl ⟨hm.1, hm.2.1, hm.2.2⟩ ⟨hf.1, hf.2.1⟩) ⟨zPc_blind v σ _, fun U hU hW => ⟨rfl, by rw [hU]; exact kIn_rep hD hi hR, by
    rw [hv]
    refine zEnv_v (zEnv_go hE hW hS hU) hnK.2.1 ?_ hN ?_
    · have := hi.1; rw [hv] at this; show zB w ≤ b; have e : zB (zWv w b N u dl dk dv db) = b := rfl; omega
    · rw [← hv, hU]; exact (kDy_z C hR hdy).moved hW.alike, hoka⟩⟩ rfl (by rw [List.length_map, hnp]) hl.1 rfl (lv_room (zsum_c w hst)) hd ⟨by have := hf.2.2.1; omega, by have := hf.2.2.2; omega⟩) kk
theorem kk_callXH {b N u dl dk dv : Nat} {db : Nat → Int32} {v : zW} (hv : v = zWv w b N u dl dk dv db) {E1 E2 : List va_E} {σ : zS} {m' : zM} {h' ix np : Nat} (as as' : List zV) {r : Option zV} {R : zS → Prop} (hsp : SpH l v m' h' 0 as σ (zqv r R)) (has : as'.map (zc w) = as.map (zc v)) (hoka : ∀ x ∈ as, zok v x) (hi : kIn w v E1 E2) (hN : zclb N = true) (hdy : kDy w v (E1 ++ (kC v σ ++ E2))) (hd : decode m.2.1 pc = .ok (.invokestatic ix, 3)) (hw : zCwH m.1.cls ix m') (hm : zMok m' np) (hnp : as.length = np) (hst : (st.map zcat).sum ≤ 8) (hf : kfit M m' h' 0 0 kc ks) (hrv : r.map (zc v) = r.map (zc w)) (hrk : ∀ x ∈ r, zok w x) (kk : ∀ τ, R τ → zK l w m M ini (pc + 3) ls (r.toList ++ st) kc ks (E1 ++ (kC v τ ++ E2))) : zK l w m M ini pc ls (as'.reverse ++ st) kc ks (E1 ++ (kC v σ ++ E2)) := by
  intro p e s mid args below meth c C hnK H locs Ls hR hS hl hol hos hsz
  obtain ⟨ho1, ho2⟩ := zok_rev hos
  obtain ⟨hx, hb, hml, hr, htab, hown, hts, hlk, hE, hfl⟩ := id C
  have hD : zD v = zD w := by rw [hv]; rfl
  have hG : GoodIn zgood (va_wsS m.1.cls ix m'.1 (zwdsH m')) := zgood_sub (fun x hx => by
    unfold va_wsS zwdsH at hx
    rcases List.mem_append.mp hx with h1 | h1
    · exact hw x (List.mem_append_left [Cond.codeWith m'.1 m'.2.1 m'.2.2.1 m'.2.2.2.1 m'.2.2.2.2] h1)
    · rcases List.mem_cons.mp h1 with h2 | h2
      · exact hw x (by rw [h2]; simp)
      · exact h2)
  rw [zrev, has]
  exact kk_afterX hD hi C hnK hR hS hl hol ho2 hsz hrv hrk (vx_runSX (hh := m'.2.2.2.2) (As := as.map (zc v)) ⟨hx, hb, hml, hown, hts⟩ hsp (vx_cwSW np hts hG rfl rfl rfl ⟨hm.1, hm.2.1, hm.2.2⟩ ⟨hf.1, hf.2.1⟩) ⟨zPc_blind v σ _, fun U hU hW => ⟨rfl, by rw [hU]; exact kIn_rep hD hi hR, by
    rw [hv]
    refine zEnv_v (zEnv_go hE hW hS hU) hnK.2.1 ?_ hN ?_
    · have := hi.1; rw [hv] at this; show zB w ≤ b; have e : zB (zWv w b N u dl dk dv db) = b := rfl; omega
    · rw [← hv, hU]; exact (kDy_z C hR hdy).moved hW.alike, hoka⟩⟩ rfl (by rw [List.length_map, hnp]) hl.1 rfl (lv_room (zsum_c w hst)) hd ⟨by have := hf.2.2.1; omega, by have := hf.2.2.2; omega⟩) kk
/-- a method of an object among the numbered cells -/
theorem kk_callXV {b N u dl dk dv : Nat} {db : Nat → Int32} {v : zW} (hv : v = zWv w b N u dl dk dv db) {E1 E2 : List va_E} {σ : zS} {m' : zM} {h' ix np t q : Nat} (as as' : List zV) {a : Addr} {r : Option zV} {R : zS → Prop} (hsp : Sp l v m' h' 0 (zf t q :: as) σ (zqv r R)) (has : as'.map (zc w) = as.map (zc v)) (hoka : ∀ x ∈ as, zok v x) (ha : a = zB v + q) (hq : q < zN v) (hsq : zsh q = t) (ht : t < 20) (hcl : (vwCl[t]?).map (fun q => q.1) = some m'.1.cls) (hi : kIn w v E1 E2) (hN : zclb N = true) (hdy : kDy w v (E1 ++ (kC v σ ++ E2))) (hd : decode m.2.1 pc = .ok (.invokevirtual ix, 3)) (hw : zCwV m.1.cls ix m') (hm : zMok m' np) (hnp : as.length = np) (hst : (st.map zcat).sum ≤ 8) (hf : kfit M m' h' 0 0 kc ks) (hrv : r.map (zc v) = r.map (zc w)) (hrk : ∀ x ∈ r, zok w x) (kk : ∀ τ, R τ → zK l w m M ini (pc + 3) ls (r.toList ++ st) kc ks (E1 ++ (kC v τ ++ E2))) : zK l w m M ini pc ls (as'.reverse ++ zV0 a :: st) kc ks (E1 ++ (kC v σ ++ E2)) := by
  intro p e s mid args below meth c C hnK H locs Ls hR hS hl hol hos hsz
  obtain ⟨ho1, ho2⟩ := zok_rev hos
  obtain ⟨hx, hb, hml, hr, htab, hown, hts, hlk, hE, hfl⟩ := id C
  have hD : zD v = zD w := by rw [hv]; rfl
  have hrep := kIn_rep hD hi hR
  have hat := zws_at (σ := σ) hq
  rw [zent_obj hsq ht] at hat
  obtain ⟨qc, hqc, hqn⟩ := Option.map_eq_some_iff.mp hcl
  have hrc := va_recv (D := zD v) (tys := ztys w) (by rw [hD]; exact hE.2.2.1) hrep hqc hat
  rw [hqn] at hrc
  have hG : GoodIn zgood (wsV m.1.cls ix m'.1.cls m'.1 (zwds m')) := zgood_sub (fun x hx => by
    unfold wsV zwds at hx
    rcases List.mem_append.mp hx with h1 | h1
    · exact hw x (List.mem_append_left [Cond.code m'.1 m'.2.1 m'.2.2.1 m'.2.2.2.1] h1)
    · rcases List.mem_cons.mp h1 with h2 | h2
      · exact hw x (by rw [h2]; simp)
      · exact h2)
  rw [zrev, List.map_cons, has]
  subst ha
  exact kk_afterX hD hi C hnK hR hS hl hol (zok_t ho2) hsz hrv hrk (vx_runV (As := as.map (zc v)) (b := zB v + q) ⟨hx, hb, hml, hown, hts⟩ hsp (cwV np hts hG rfl rfl rfl ⟨rfl, hm.1, hm.2.1, hm.2.2⟩ ⟨hf.1, hf.2.1⟩) ⟨zPc_blind v σ _, hrc, fun U hU hW => ⟨by rw [List.map_cons, zc_f (by omega)], by rw [hU]; exact hrep, by
    rw [hv]
    refine zEnv_v (zEnv_go hE hW hS hU) hnK.2.1 ?_ hN ?_
    · have := hi.1; rw [hv] at this; show zB w ≤ b; have e : zB (zWv w b N u dl dk dv db) = b := rfl; omega
    · rw [← hv, hU]; exact (kDy_z C hR hdy).moved hW.alike, fun x hx => by
      rcases List.mem_cons.mp hx with h1 | h1
      · rw [h1]; exact Or.inr (Or.inr ⟨by omega, hq, hsq⟩)
      · exact hoka x h1⟩⟩ rfl (by rw [List.length_map, hnp]) hl.1 rfl (lv_room (zsum_c w hst)) hd ⟨by have := hf.2.2.1; omega, by have := hf.2.2.2; omega⟩) kk
end KQ3
