/-! ===== objects in the making: the cells as a list, one behind the other ===== -/
def zLs (w : zW) (E : List va_E) : va_W := E.mapIdx (fun j e => (zB w + j, e))
theorem zLs_g (w : zW) (E : List va_E) (k : Nat) : (zLs w E)[k]? = (E[k]?).map (fun e => (zB w + k, e)) := by simp [zLs, List.getElem?_mapIdx]
theorem zLs_at {w : zW} {E : List va_E} {k : Nat} {e : va_E} (h : E[k]? = some e) : (zLs w E)[k]? = some (zB w + k, e) := by rw [zLs_g, h]; rfl
theorem zLs_set (w : zW) (E : List va_E) (k : Nat) (e : va_E) : (zLs w E).set k (zB w + k, e) = zLs w (E.set k e) := by
  apply List.ext_getElem?
  intro j
  rw [zLs_g, List.getElem?_set, List.getElem?_set, zLs_g]
  by_cases hj : k = j
  · subst hj
    rw [if_pos rfl, if_pos rfl]
    have e1 : (zLs w E).length = E.length := by simp [zLs]
    rw [e1]
    split <;> rfl
  · rw [if_neg hj, if_neg hj]
theorem zLs_push (w : zW) (E : List va_E) (e : va_E) : zLs w (E ++ [e]) = zLs w E ++ [(zB w + E.length, e)] := by simp [zLs, List.mapIdx_append]
theorem zLs_D (w : zW) (E : List va_E) : va_D (zAd w) (zLs w E) := by
  have key : ∀ (i : Nat) (p : Nat × va_E), (zLs w E)[i]? = some p → p.1 = zB w + i := by
    intro i p h
    rw [zLs_g] at h
    obtain ⟨e, -, rfl⟩ := Option.map_eq_some_iff.mp h
    rfl
  refine ⟨fun i j p q hp hq e => ?_, fun k q hq => ?_⟩
  · have h1 := key i p hp
    have h2 := key j q hq
    omega
  · have h1 := key k q hq
    show zB w ≤ q.1
    omega
def zR (w : zW) (E : List va_E) (H : Heap) : Prop := va_P (zD w) vwCl (zLs w E) H
abbrev zV0 (a : Addr) : zV := .inr (.inr (.ref a))
def zK (l : Launch) (w : zW) (m : zM) (M : zMo) (ini : Bool) (pc : Nat) (ls st : List zV) (kc ks : Nat) (E : List va_E) : Prop :=
  ∀ (p : Program) (e : Env) (s : State) (mid : MethodId) (args : Array Value) (below : List Frame) (meth : Method) (c : Code), zCtx l w m p s mid args meth c → (ini = true → meth.name = "<init>") →
  ∀ (H : Heap) (locs : List Loc) (Ls : Array Slot), zR w E H → va_S (zAd w) s.heap H locs → lv_has Ls m.2.2.1 (zps w 0 ls) → (∀ v ∈ ls, zok w v) → (∀ v ∈ st, zok w v) → s.heap.size + kc = zB w + E.length →
  W p l e M.1 s mid args below meth c H locs kc ks (M.2.1 below args s) (F0 mid pc Ls (st.map (zc w)))
section ZK
variable {l : Launch} {w : zW} {m : zM} {M : zMo} {ini : Bool} {pc kc ks : Nat} {ls st : List zV} {E : List va_E}
theorem zk_aloadN {j : Nat} {a : Addr} {f : Fin 4} (hd : decode m.2.1 pc = .ok (.aload_n f, 1)) (hf : (f : Nat) = j) (hj : ls[j]? = some (zV0 a)) (kk : zK l w m M ini (pc + 1) ls (zV0 a :: st) kc ks E) : zK l w m M ini pc ls st kc ks E := by
  intro p e s mid args below meth c C hn H locs Ls hR hS hl hol hos hsz
  exact lv_aload_n C.1 C.2.1 hd hf (zps_at hl hj rfl) (kk p e s mid args below meth c C hn H locs Ls hR hS hl hol (zok_c trivial hos) hsz)
theorem zk_iconst {n : Int} (hd : decode m.2.1 pc = .ok (.iconst n, 1)) (kk : zK l w m M ini (pc + 1) ls (zi n :: st) kc ks E) : zK l w m M ini pc ls st kc ks E := by
  intro p e s mid args below meth c C hn H locs Ls hR hS hl hol hos hsz
  exact lv_iconst C.1 C.2.1 hd rfl (kk p e s mid args below meth c C hn H locs Ls hR hS hl hol (zok_c trivial hos) hsz)
theorem zk_bipush {n : Int} (hd : decode m.2.1 pc = .ok (.bipush n, 2)) (hn1 : (Int8.ofInt n).toInt32 = Int32.ofInt n) (kk : zK l w m M ini (pc + 2) ls (zi n :: st) kc ks E) : zK l w m M ini pc ls st kc ks E := by
  intro p e s mid args below meth c C hn H locs Ls hR hS hl hol hos hsz
  exact lv_bipush C.1 C.2.1 hd hn1 (kk p e s mid args below meth c C hn H locs Ls hR hS hl hol (zok_c trivial hos) hsz)
theorem zk_sipush {n : Int} (hd : decode m.2.1 pc = .ok (.sipush n, 3)) (hn1 : (Int16.ofInt n).toInt32 = Int32.ofInt n) (kk : zK l w m M ini (pc + 3) ls (zi n :: st) kc ks E) : zK l w m M ini pc ls st kc ks E := by
  intro p e s mid args below meth c C hn H locs Ls hR hS hl hol hos hsz
  exact lv_sipush C.1 C.2.1 hd hn1 (kk p e s mid args below meth c C hn H locs Ls hR hS hl hol (zok_c trivial hos) hsz)
theorem zk_dup {v : zV} (hv : zcat v = 1) (hd : decode m.2.1 pc = .ok (.dup, 1)) (kk : zK l w m M ini (pc + 1) ls (v :: v :: st) kc ks E) : zK l w m M ini pc ls (v :: st) kc ks E := by
  intro p e s mid args below meth c C hn H locs Ls hR hS hl hol hos hsz
  exact lv_dup C.1 C.2.1 hd (by rw [zcat_c]; exact hv) (kk p e s mid args below meth c C hn H locs Ls hR hS hl hol (zok_c (zok_h hos) hos) hsz)
theorem zk_astoreN {j : Nat} {q : Addr} {f : Fin 4} (hd : decode m.2.1 pc = .ok (.astore_n f, 1)) (hf : (f : Nat) = j) (hj : j < ls.length) (hn : j < m.2.2.1) (hp : zprev ls j = true) (ls' : List zV) (hs : ls.set j (zV0 q) = ls') (kk : zK l w m M ini (pc + 1) ls' st kc ks E) : zK l w m M ini pc ls (zV0 q :: st) kc ks E := by
  subst hs
  intro p e s mid args below meth c C hn1 H locs Ls hR hS hl hol hos hsz
  exact lv_astore_n C.1 C.2.1 hd hf hl hn rfl (fun Ls' hl' => kk p e s mid args below meth c C hn1 H locs Ls' hR hS (zps_store (v := zV0 q) hj hp hl') (zok_set trivial hol) (zok_t hos) hsz)
theorem zk_istoreN {j : Nat} {a : Int} {f : Fin 4} (hd : decode m.2.1 pc = .ok (.istore_n f, 1)) (hf : (f : Nat) = j) (hj : j < ls.length) (hn : j < m.2.2.1) (hp : zprev ls j = true) (ls' : List zV) (hs : ls.set j (zi a) = ls') (kk : zK l w m M ini (pc + 1) ls' st kc ks E) : zK l w m M ini pc ls (zi a :: st) kc ks E := by
  subst hs
  intro p e s mid args below meth c C hn1 H locs Ls hR hS hl hol hos hsz
  exact lv_istore_n C.1 C.2.1 hd hf hl hn rfl (fun Ls' hl' => kk p e s mid args below meth c C hn1 H locs Ls' hR hS (zps_store (v := zi a) hj hp hl') (zok_set trivial hol) (zok_t hos) hsz)
theorem zk_iloadN {j : Nat} {f : Fin 4} {a : Int} (hd : decode m.2.1 pc = .ok (.iload_n f, 1)) (hf : (f : Nat) = j) (hj : ls[j]? = some (zi a)) (kk : zK l w m M ini (pc + 1) ls (zi a :: st) kc ks E) : zK l w m M ini pc ls st kc ks E := by
  intro p e s mid args below meth c C hn H locs Ls hR hS hl hol hos hsz
  exact lv_iload_n C.1 C.2.1 hd hf (zps_at hl hj rfl) (kk p e s mid args below meth c C hn H locs Ls hR hS hl hol (zok_c trivial hos) hsz)
theorem zk_iinc {j : Nat} {n a b : Int} (hd : decode m.2.1 pc = .ok (.iinc j n, 3)) (hj : ls[j]? = some (zi a)) (hb : a + n = b) (hn : j < m.2.2.1) (hp : zprev ls j = true) (ls' : List zV) (hs : ls.set j (zi b) = ls') (kk : zK l w m M ini (pc + 3) ls' st kc ks E) : zK l w m M ini pc ls st kc ks E := by
  subst hs
  intro p e s mid args below meth c C hn1 H locs Ls hR hS hl hol hos hsz
  obtain ⟨q, hq⟩ := List.getElem?_of_mem (zps_mem.mpr ⟨j, zi a, hj, rfl, rfl⟩ : (0 + j, zc w (zi a)) ∈ zps w 0 ls)
  rw [Nat.zero_add] at hq
  refine lv_iinc C.1 C.2.1 hd hl hq (v := Int32.ofInt b) (by rw [← hb, Int32.ofInt_add]) hn rfl (fun Ls' hl' => ?_)
  exact kk p e s mid args below meth c C hn1 H locs Ls' hR hS (zps_store (v := zi b) (List.getElem?_eq_some_iff.mp hj).1 hp hl') (zok_set trivial hol) hos hsz
theorem zk_goto {off : Int} {tgt : Nat} (hd : decode m.2.1 pc = .ok (.goto off, 3)) (ht : (pc : Int) + off = (tgt : Int)) (kk : zK l w m M ini tgt ls st kc ks E) : zK l w m M ini pc ls st kc ks E := by
  intro p e s mid args below meth c C hn H locs Ls hR hS hl hol hos hsz
  exact lv_goto C.1 C.2.1 hd ht (kk p e s mid args below meth c C hn H locs Ls hR hS hl hol hos hsz)
theorem zk_icmp_ge {a b : Int} {off : Int} {tgt : Nat} (hz : zr a) (hb : zr b) (hd : decode m.2.1 pc = .ok (.if_icmp .ge off, 3)) (ht : (pc : Int) + off = (tgt : Int)) (kt : b ≤ a → zK l w m M ini tgt ls st kc ks E) (kf : a < b → zK l w m M ini (pc + 3) ls st kc ks E) : zK l w m M ini pc ls (zi b :: zi a :: st) kc ks E := by
  intro p e s mid args below meth c C hn H locs Ls hR hS hl hol hos hsz
  exact lv_icmp_ge C.1 C.2.1 hd ht (fun h => kt ((z_le hb hz).mp (by first | exact h | exact Int32.not_lt.mp h)) p e s mid args below meth c C hn H locs Ls hR hS hl hol (zok_t (zok_t hos)) hsz) (fun h => kf ((z_lt hz hb).mp (by first | exact h | exact Int32.not_le.mp h)) p e s mid args below meth c C hn H locs Ls hR hS hl hol (zok_t (zok_t hos)) hsz)
theorem zk_obj {ix : Nat} {a : Addr} (hw : ∀ x ∈ ([.methodLink m.1.cls ix Lib.objectInit, .instanceMethod Lib.objectInit, .code Lib.objectInit ⟨#[0xb1]⟩ 1 none] : List Cond), x ∈ zgood) (hst : (st.map zcat).sum ≤ 8) (hM : 1 ≤ M.1.frames ∧ 20 ≤ M.1.locals) (hd : decode m.2.1 pc = .ok (.invokespecial ix, 3)) (kk : zK l w m M ini (pc + 3) ls st kc ks E) : zK l w m M ini pc ls (zV0 a :: st) kc ks E := by
  intro p e s mid args below meth c C hn H locs Ls hR hS hl hol hos hsz
  obtain ⟨hx, hb, hml, hr, htab, hown, hts, hlk, hE, hfl⟩ := id C
  refine W.objInit hx hb hown (hts _ (hw _ (by simp))) (hts _ (hw _ (by simp))) (hts _ (hw _ (by simp))) rfl (by rw [hml]; exact hl.1) rfl hd hM.1 (by have := zsum_c w hst; have h2 := hM.2; show 2 * 0 + _ + 12 ≤ M.1.locals; omega) ?_
  exact W.eq (g2 := F0 mid (pc + 3) Ls (st.map (zc w))) rfl (kk p e s mid args below meth c C hn H locs Ls hR hS hl hol (zok_t hos) hsz)
theorem zk_size {w : zW} {E : List va_E} {H0 H : Heap} {kc : Nat} {locs : List Loc} (hR : zR w E H) (hS : va_S (zAd w) H0 H locs) (h0 : E = [] → kc = 0) (hsz : H0.size + kc = zB w + E.length) (hle : H.size ≤ H0.size + kc) : H.size = zB w + E.length := by
  have h1 := hS.1
  rcases Nat.eq_zero_or_pos E.length with q | q
  · have := h0 (List.length_eq_zero_iff.mp q)
    omega
  · have h2 := (hR _ _ (zLs_at (k := E.length - 1) (List.getElem?_eq_getElem (by omega)))).lt
    have h3 : zB w + (E.length - 1) < H.size := h2
    omega
theorem zk_new {t ix N : Nat} {Cn : String} {T : u_T} {fs : List Value} {a : Addr} (ha : a = zB w + E.length) (hE0 : E = [] → kc = 0) (hc : vwCl[t]? = some (Cn, T, N)) (h1 : Cond.classLink m.1.cls ix Cn ∈ zgood) (h2 : Cond.instantiable Cn N ∈ zgood) (h3 : Cond.initialized Cn ∈ zgood) (hfs : ∀ ty : Nat → FieldType, (∀ k, k < N → parseFieldDescriptor (T k).2.2.1 = some (ty k)) → ∀ j, j < N → defaultValue (ty j) = vp_V fs j) (hcells : kc + 1 ≤ M.1.cells) (hslots : ks + N ≤ M.1.slots) (hd : decode m.2.1 pc = .ok (.new ix, 3)) (kk : zK l w m M ini (pc + 3) ls (zV0 a :: st) (kc + 1) (ks + N) (E ++ [.inr (t, fs)])) : zK l w m M ini pc ls st kc ks E := by
  intro p e s mid args below meth c C hn H locs Ls hR hS hl hol hos hsz
  obtain ⟨hin, ⟨ty0, hty⟩, hnm, hN, ht⟩ := z_ucl hc
  obtain ⟨hx, hb, hml, hr, htab, hown, hts, hlk, hEn, hfl⟩ := id C
  have hKn := hEn.2.2.1.1 t _ hc
  intro Tt hT X
  have hsa : H.size = a := (zk_size hR hS hE0 hsz (by rw [← hT]; exact X.same.2.2.1)).trans ha.symm
  refine W.newcK hx hb hown (hts _ h1) (hts _ h2) (hts _ h3) rfl hd hcells hslots hKn.2.1 hsa (fun H1 kC hkC e1 z1 o1 => ?_) Tt hT X
  have hk : ∀ (k : Nat) (x : Nat × va_E), (zLs w E)[k]? = some x → H1[x.1]? = H[x.1]? := fun k x hx => o1 x.1 (by rw [← hsa]; exact (hR k x hx).lt)
  refine kk p e s mid args below meth c C hn H1 locs Ls ?_ ⟨Nat.le_trans hS.1 (by omega), fun x h1 h2 => (o1 x (by rw [← hsa]; exact Nat.lt_of_lt_of_le h1 hS.1)).trans (hS.2.1 x h1 h2), hS.2.2⟩ hl hol (zok_c trivial hos) (by rw [List.length_append]; show _ = _ + (_ + 1); omega)
  · show va_P _ _ _ _
    rw [zLs_push]
    refine (va_P.kept hR hk).app (fun k x hx => ?_)
    have hz : k < 1 := (List.getElem?_eq_some_iff.mp hx).1
    rw [show k = 0 by omega] at hx
    cases hx
    refine ⟨_, hc, ?_⟩
    rw [← ha]
    exact (u_born ty0 hts hin hKn hkC e1 hty).to (hfs ty0 hty)
theorem zk_put {t i ix k : Nat} {fs : List Value} {v : zV} {ty : FieldType} {a : Addr} (ha : a = zB w + k) (hf : zFl m.1.cls ix t i) (he : E[k]? = some (.inr (t, fs))) (hi : i < fs.length) (hq : ∀ (Cn : String) (T : u_T) (N : Nat), vwCl[t]? = some (Cn, T, N) → parseFieldDescriptor (T i).2.2.1 = some ty ∧ ((T i).2.2.2 = false ∨ (ini = true ∧ (T i).2.2.2 = true ∧ (T i).1 = m.1.cls)))
    (hn1 : narrow ty (zc w v) = zc w v) (hfit : fits ty (zc w v) = true) (hd : decode m.2.1 pc = .ok (.putfield ix, 3)) {E' : List va_E} (hE' : E.set k (.inr (t, fs.set i (zc w v))) = E') (kk : zK l w m M ini (pc + 3) ls st kc ks E') : zK l w m M ini pc ls (v :: zV0 a :: st) kc ks E := by
  subst hE' ha
  intro p e s mid args below meth c C hn H locs Ls hR hS hl hol hos hsz
  obtain ⟨Cn, T, N, hc1, hiN, hlink, hC⟩ := hf
  obtain ⟨hin, ⟨ty0, hty⟩, hnm, hN, ht⟩ := z_ucl hc1
  obtain ⟨hx, hb, hml, hr, htab, hown, hts, hlk, hEn, hfl⟩ := id C
  obtain ⟨hd1, hfin⟩ := hq _ _ _ hc1
  have go : ∀ (H1 : Heap) (locs1 : List Loc), va_P (zD w) vwCl ((zLs w E).set k (zB w + k, .inr (t, fs.set i (zc w v)))) H1 → va_D (zAd w) ((zLs w E).set k (zB w + k, .inr (t, fs.set i (zc w v)))) → va_S (zAd w) s.heap H1 locs1 → W p l e M.1 s mid args below meth c H1 locs1 kc ks (M.2.1 below args s) (F0 mid (pc + 3) Ls (st.map (zc w))) := fun H1 locs1 hP1 _ hS1 => by
    rw [zLs_set] at hP1
    exact kk p e s mid args below meth c C hn H1 locs1 Ls hP1 hS1 hl hol (zok_t (zok_t hos)) (by rw [List.length_set]; exact hsz)
  rcases hfin with hfin | ⟨h1, h2, h3⟩
  · exact va_put (ty := ty) (v := zc w v) (fs := fs) hx hb hts hin ty0 hty hnm hown hEn.2.2.1 hR (zLs_D w E) hS k (zLs_at he) hc1 i hiN (hts _ hlink) (fun x hx => by rw [← hC]; exact hx) hfin hd1 hn1 hfit hi hd go
  · exact va_putF (ty := ty) (v := zc w v) (fs := fs) hx hb hts hin ty0 hty hnm hown hEn.2.2.1 hR (zLs_D w E) hS k (zLs_at he) hc1 i hiN (hts _ hlink) (fun x hx => by rw [← hC]; exact hx) h2 (hn h1) h3 hd1 hn1 hfit hi hd go
theorem zk_get {t i ix k : Nat} {fs : List Value} {v : zV} {a : Addr} (ha : a = zB w + k) (hf : zFl m.1.cls ix t i) (he : E[k]? = some (.inr (t, fs))) (hv : fs[i]? = some (zc w v)) (hok : zok w v) (hd : decode m.2.1 pc = .ok (.getfield ix, 3)) (kk : zK l w m M ini (pc + 3) ls (v :: st) kc ks E) : zK l w m M ini pc ls (zV0 a :: st) kc ks E := by
  subst ha
  intro p e s mid args below meth c C hn H locs Ls hR hS hl hol hos hsz
  obtain ⟨Cn, T, N, hc1, hiN, hlink, hC⟩ := hf
  obtain ⟨hin, ⟨ty0, hty⟩, hnm, hN, ht⟩ := z_ucl hc1
  obtain ⟨hx, hb, hml, hr, htab, hown, hts, hlk, hEn, hfl⟩ := id C
  exact va_get hx hb hts hin hown hEn.2.2.1 hR k (zLs_at he) hc1 i hiN (hts _ hlink) (fun x hx => by rw [← hC]; exact hx) hv hd (kk p e s mid args below meth c C hn H locs Ls hR hS hl hol (zok_c hok (zok_t hos)) hsz)
theorem zk_newa {at1 : ArrayType} {ty : FieldType} {n q : Nat} {a0 : vp_A} {a : Addr} {nn : Int} (ha : a = zB w + E.length) (hE0 : E = [] → kc = 0) (hw : Cond.arrayClass ty ∈ zgood) (hty : newarray.typeOf at1 = ty) (hq : (ztys w)[q]? = some (zA w q, ty)) (hRA : ∀ (U : State) (cA : ClassId), va_RA U cA ty → U.vm.findClass ("[" ++ ty.toString) = some cA) (ha0 : ∀ cA : ClassId, vp_cell cA a0 = arrV cA n (fun _ => defaultValue ty)) (hn0 : ¬ Int32.ofInt nn < 0) (hn1 : (Int32.ofInt nn).toNatClampNeg = n) (hby : n * componentBytes ty ≤ 536870912) (hcells : kc + 1 ≤ M.1.cells) (hslots : ks + n ≤ M.1.slots) (hd : decode m.2.1 pc = .ok (.newarray at1, 2)) (kk : zK l w m M ini (pc + 2) ls (zV0 a :: st) (kc + 1) (ks + n) (E ++ [.inl (zA w q, a0)])) : zK l w m M ini pc ls (zi nn :: st) kc ks E := by
  subst hty
  intro p e s mid args below meth c C hn H locs Ls hR hS hl hol hos hsz
  obtain ⟨hx, hb, hml, hr, htab, hown, hts, hlk, hEn, hfl⟩ := id C
  intro Tt hT X
  have hsa : H.size = a := (zk_size hR hS hE0 hsz (by rw [← hT]; exact X.same.2.2.1)).trans ha.symm
  refine va_newaK hx hb (hts _ hw) rfl hd rfl hn0 hn1 hby hcells hslots hsa (fun H1 cA e1 z1 o1 hAr hNm => ?_) Tt hT X
  have hcA : cA = zA w q := Option.some.inj (hNm.symm.trans (hRA _ _ (hEn.2.2.1.2 q _ hq).2))
  subst hcA
  have hk : ∀ (k : Nat) (x : Nat × va_E), (zLs w E)[k]? = some x → H1[x.1]? = H[x.1]? := fun k x hx => o1 x.1 (by rw [← hsa]; exact (hR k x hx).lt)
  refine kk p e s mid args below meth c C hn H1 locs Ls ?_ ⟨Nat.le_trans hS.1 (by omega), fun x h1 h2 => (o1 x (by rw [← hsa]; exact Nat.lt_of_lt_of_le h1 hS.1)).trans (hS.2.1 x h1 h2), hS.2.2⟩ hl hol (zok_c trivial (zok_t hos)) (by rw [List.length_append]; show _ = _ + (_ + 1); omega)
  show va_P _ _ _ _
  rw [zLs_push]
  refine (va_P.kept hR hk).app (fun k x hx => ?_)
  have hz : k < 1 := (List.getElem?_eq_some_iff.mp hx).1
  rw [show k = 0 by omega] at hx
  cases hx
  show H1[zB w + E.length]? = some (vp_cell _ _)
  rw [ha0, ← ha]
  exact e1
end ZK
