/-! ===== objects in the making: the cells as a list, one behind the other ===== -/
def zLs (w : zW) (E : List va_E) : va_W := E.mapIdx (fun j e => (zB w + j, e))
theorem zLs_g (w : zW) (E : List va_E) (k : Nat) : (zLs w E)[k]? = (E[k]?).map (fun e => (zB w + k, e)) := by simp [zLs, List.getElem?_mapIdx]
theorem zLs_at {w : zW} {E : List va_E} {k : Nat} {e : va_E} (h : E[k]? = some e) : (zLs w E)[k]? = some (zB w + k, e) := by rw [zLs_g, h]; rfl
theorem zLs_set (w : zW) (E : List va_E) (k : Nat) (e : va_E) : (zLs w E).set k (zB w + k, e) = zLs w (E.set k e) := by
  apply List.ext_getElem?
  intro j
  rw [zLs_g, List.getElem?_set, List.getElem?_set, zLs_g]
  by_cases hj : k = j
  · subst hj
    rw [if_pos rfl, if_pos rfl]
    have e1 : (zLs w E).length = E.length := by simp [zLs]
    rw [e1]
    split <;> rfl
  · rw [if_neg hj, if_neg hj]
theorem zLs_push (w : zW) (E : List va_E) (e : va_E) : zLs w (E ++ [e]) = zLs w E ++ [(zB w + E.length, e)] := by simp [zLs, List.mapIdx_append]
theorem zLs_D {w : zW} (h0 : zU w = 0) (E : List va_E) : va_D (zAd w) (zLs w E) := by
  have key : ∀ (i : Nat) (p : Nat × va_E), (zLs w E)[i]? = some p → p.1 = zB w + i := by
    intro i p h
    rw [zLs_g] at h
    obtain ⟨e, -, rfl⟩ := Option.map_eq_some_iff.mp h
    rfl
  refine ⟨fun i j p q hp hq e => ?_, fun k q hq => ?_⟩
  · have h1 := key i p hp
    have h2 := key j q hq
    omega
  · have h1 := key k q hq
    show zB w ≤ q.1 ∧ (zU w = 0 ∨ _)
    exact ⟨by omega, Or.inl h0⟩
def zR (w : zW) (E : List va_E) (H : Heap) : Prop := va_P (zD w) vwCl (zLs w E) H
abbrev zV0 (a : Addr) : zV := .inr (.inr (.ref a))
/-- Integer's two tables of digits -/
def zDg (w : zW) (s : State) (H : Heap) : Prop :=
  (va_Z "java/lang/Integer" "DigitOnes" "[B" (.ref (zI1 w)) (zAd w) s H ∧ va_T .byte (zI1 w) 100 (fun j => .int (Int32.ofInt ((48 + j % 10 : Nat) : Int))) (zAd w) s H) ∧
  va_Z "java/lang/Integer" "DigitTens" "[B" (.ref (zI2 w)) (zAd w) s H ∧ va_T .byte (zI2 w) 100 (fun j => .int (Int32.ofInt ((48 + j / 10 : Nat) : Int))) (zAd w) s H
theorem zDg.moved {w : zW} {u U : State} {H : Heap} (ha : u.vm.Alike U.vm) (h : zDg w u H) : zDg w U H := ⟨⟨va_Z.moved ha h.1.1, va_T.moved ha h.1.2⟩, va_Z.moved ha h.2.1, va_T.moved ha h.2.2⟩
theorem zDg.kept {w : zW} {U : State} {H H1 : Heap} (h : zDg w U H) (hq : ∀ a : Nat, a < H.size → ¬ zAd w a → H1[a]? = H[a]?) : zDg w U H1 := ⟨⟨h.1.1.kept hq, h.1.2.kept hq⟩, h.2.1.kept hq, h.2.2.kept hq⟩
def zAO (w : zW) (s : State) : Prop := zU w = 0 ∧ (Cond.arrayOver (.object "ColophonDetective$Casebook")).before #[] s = true ∧ zDg w s s.heap
theorem zAO_moved {w : zW} {u E : State} {H : Heap} {locs : List Loc} (hal : u.vm.Alike E.vm) (hS : va_S (zAd w) u.heap H locs) (hU : E.heap = H) (h : zAO w u) : zAO w E := by
  refine ⟨h.1, ?_, by rw [hU]; exact zDg.moved hal (h.2.2.kept hS.2.1)⟩
  replace h := h.2.1
  obtain ⟨comp, c, k, hc, hi, hk, hkind, hn⟩ := Cond.arrayOver_spec h
  have e1 : E.vm.findClass "ColophonDetective$Casebook" = some comp := by first | (rw [← hal.findClass]; exact hc) | (rw [hal.findClass]; exact hc)
  have e3 : E.vm.findClass ("[" ++ (FieldType.object "ColophonDetective$Casebook").toString) = some c := by first | (rw [← hal.findClass]; exact hn) | (rw [hal.findClass]; exact hn)
  have e2 : (E.vm.classes.findIdx? fun x => match x.kind with | .array component _ => component == comp | _ => false) = some c := by
    rw [hal.findIdx?_eq _ (fun _ => rfl)]; exact hi
  obtain ⟨k', hk', he⟩ := hal.2.2 _ _ hk
  have hkind' : k'.kind = .array comp (.object "ColophonDetective$Casebook") := by rw [he]; exact hkind
  simp only [Cond.before, Cond.holds, Cond.value, beq_iff_eq, e1, e2, hk', Option.bind_some, Option.map_some, hkind']
  simp [e3]
  refine Option.bind_eq_some_iff.mpr ⟨c, e2, ?_⟩
  simp [hk', hkind']
def zK (l : Launch) (w : zW) (m : zM) (M : zMo) (ini : Bool) (pc : Nat) (ls st : List zV) (kc ks : Nat) (E : List va_E) : Prop :=
  ∀ (p : Program) (e : Env) (s : State) (mid : MethodId) (args : Array Value) (below : List Frame) (meth : Method) (c : Code), zCtx l w m p s mid args meth c → (ini = true → meth.name = "<init>") ∧ zAO w s →
  ∀ (H : Heap) (locs : List Loc) (Ls : Array Slot), zR w E H → va_S (zAd w) s.heap H locs → lv_has Ls m.2.2.1 (zps w 0 ls) → (∀ v ∈ ls, zok w v) → (∀ v ∈ st, zok w v) → s.heap.size + kc = zB w + E.length →
  W p l e M.1 s mid args below meth c H locs kc ks (M.2.1 below args s) (F0 mid pc Ls (st.map (zc w)))
theorem zk_pre {p : Program} {l : Launch} {e : Env} {R : Room} {s : State} {m : MethodId} {args : Array Value} {below : List Frame} {meth : Method} {c : Code} {H : Heap} {locs : List Loc} {kc ks : Nat} {Q : State → Prop} {g : JFrame} (k : H.size ≤ s.heap.size + kc → W p l e R s m args below meth c H locs kc ks Q g) : W p l e R s m args below meth c H locs kc ks Q g := by
  intro T hT X
  have h := X.same.2.2.1
  have h2 : H.size ≤ s.heap.size + kc := by rw [← hT]; exact h
  exact k h2 T hT X
section ZK
variable {l : Launch} {w : zW} {m : zM} {M : zMo} {ini : Bool} {pc kc ks : Nat} {ls st : List zV} {E : List va_E}
theorem zk_aloadN {j : Nat} {a : Addr} {f : Fin 4} (hd : decode m.2.1 pc = .ok (.aload_n f, 1)) (hf : (f : Nat) = j) (hj : ls[j]? = some (zV0 a)) (kk : zK l w m M ini (pc + 1) ls (zV0 a :: st) kc ks E) : zK l w m M ini pc ls st kc ks E := by
  intro p e s mid args below meth c C hn H locs Ls hR hS hl hol hos hsz
  exact lv_aload_n C.1 C.2.1 hd hf (zps_at hl hj rfl) (kk p e s mid args below meth c C hn H locs Ls hR hS hl hol (zok_c trivial hos) hsz)
theorem zk_iconst {n : Int} (hd : decode m.2.1 pc = .ok (.iconst n, 1)) (kk : zK l w m M ini (pc + 1) ls (zi n :: st) kc ks E) : zK l w m M ini pc ls st kc ks E := by
  intro p e s mid args below meth c C hn H locs Ls hR hS hl hol hos hsz
  exact lv_iconst C.1 C.2.1 hd rfl (kk p e s mid args below meth c C hn H locs Ls hR hS hl hol (zok_c trivial hos) hsz)
theorem zk_bipush {n : Int} (hd : decode m.2.1 pc = .ok (.bipush n, 2)) (hn1 : (Int8.ofInt n).toInt32 = Int32.ofInt n) (kk : zK l w m M ini (pc + 2) ls (zi n :: st) kc ks E) : zK l w m M ini pc ls st kc ks E := by
  intro p e s mid args below meth c C hn H locs Ls hR hS hl hol hos hsz
  exact lv_bipush C.1 C.2.1 hd hn1 (kk p e s mid args below meth c C hn H locs Ls hR hS hl hol (zok_c trivial hos) hsz)
theorem zk_sipush {n : Int} (hd : decode m.2.1 pc = .ok (.sipush n, 3)) (hn1 : (Int16.ofInt n).toInt32 = Int32.ofInt n) (kk : zK l w m M ini (pc + 3) ls (zi n :: st) kc ks E) : zK l w m M ini pc ls st kc ks E := by
  intro p e s mid args below meth c C hn H locs Ls hR hS hl hol hos hsz
  exact lv_sipush C.1 C.2.1 hd hn1 (kk p e s mid args below meth c C hn H locs Ls hR hS hl hol (zok_c trivial hos) hsz)
theorem zk_dup {v : zV} (hv : zcat v = 1) (hd : decode m.2.1 pc = .ok (.dup, 1)) (kk : zK l w m M ini (pc + 1) ls (v :: v :: st) kc ks E) : zK l w m M ini pc ls (v :: st) kc ks E := by
  intro p e s mid args below meth c C hn H locs Ls hR hS hl hol hos hsz
  exact lv_dup C.1 C.2.1 hd (by rw [zcat_c]; exact hv) (kk p e s mid args below meth c C hn H locs Ls hR hS hl hol (zok_c (zok_h hos) hos) hsz)
theorem zk_astoreN {j : Nat} {q : Addr} {f : Fin 4} (hd : decode m.2.1 pc = .ok (.astore_n f, 1)) (hf : (f : Nat) = j) (hj : j < ls.length) (hn : j < m.2.2.1) (hp : zprev ls j = true) (ls' : List zV) (hs : ls.set j (zV0 q) = ls') (kk : zK l w m M ini (pc + 1) ls' st kc ks E) : zK l w m M ini pc ls (zV0 q :: st) kc ks E := by
  subst hs
  intro p e s mid args below meth c C hn1 H locs Ls hR hS hl hol hos hsz
  exact lv_astore_n C.1 C.2.1 hd hf hl hn rfl (fun Ls' hl' => kk p e s mid args below meth c C hn1 H locs Ls' hR hS (zps_store (v := zV0 q) hj hp hl') (zok_set trivial hol) (zok_t hos) hsz)
theorem zk_istoreN {j : Nat} {a : Int} {f : Fin 4} (hd : decode m.2.1 pc = .ok (.istore_n f, 1)) (hf : (f : Nat) = j) (hj : j < ls.length) (hn : j < m.2.2.1) (hp : zprev ls j = true) (ls' : List zV) (hs : ls.set j (zi a) = ls') (kk : zK l w m M ini (pc + 1) ls' st kc ks E) : zK l w m M ini pc ls (zi a :: st) kc ks E := by
  subst hs
  intro p e s mid args below meth c C hn1 H locs Ls hR hS hl hol hos hsz
  exact lv_istore_n C.1 C.2.1 hd hf hl hn rfl (fun Ls' hl' => kk p e s mid args below meth c C hn1 H locs Ls' hR hS (zps_store (v := zi a) hj hp hl') (zok_set trivial hol) (zok_t hos) hsz)
theorem zk_iloadN {j : Nat} {f : Fin 4} {a : Int} (hd : decode m.2.1 pc = .ok (.iload_n f, 1)) (hf : (f : Nat) = j) (hj : ls[j]? = some (zi a)) (kk : zK l w m M ini (pc + 1) ls (zi a :: st) kc ks E) : zK l w m M ini pc ls st kc ks E := by
  intro p e s mid args below meth c C hn H locs Ls hR hS hl hol hos hsz
  exact lv_iload_n C.1 C.2.1 hd hf (zps_at hl hj rfl) (kk p e s mid args below meth c C hn H locs Ls hR hS hl hol (zok_c trivial hos) hsz)
theorem zk_iinc {j : Nat} {n a b : Int} (hd : decode m.2.1 pc = .ok (.iinc j n, 3)) (hj : ls[j]? = some (zi a)) (hb : a + n = b) (hn : j < m.2.2.1) (hp : zprev ls j = true) (ls' : List zV) (hs : ls.set j (zi b) = ls') (kk : zK l w m M ini (pc + 3) ls' st kc ks E) : zK l w m M ini pc ls st kc ks E := by
  subst hs
  intro p e s mid args below meth c C hn1 H locs Ls hR hS hl hol hos hsz
  obtain ⟨q, hq⟩ := List.getElem?_of_mem (zps_mem.mpr ⟨j, zi a, hj, rfl, rfl⟩ : (0 + j, zc w (zi a)) ∈ zps w 0 ls)
  rw [Nat.zero_add] at hq
  refine lv_iinc C.1 C.2.1 hd hl hq (v := Int32.ofInt b) (by rw [← hb, Int32.ofInt_add]) hn rfl (fun Ls' hl' => ?_)
  exact kk p e s mid args below meth c C hn1 H locs Ls' hR hS (zps_store (v := zi b) (List.getElem?_eq_some_iff.mp hj).1 hp hl') (zok_set trivial hol) hos hsz
theorem zk_goto {off : Int} {tgt : Nat} (hd : decode m.2.1 pc = .ok (.goto off, 3)) (ht : (pc : Int) + off = (tgt : Int)) (kk : zK l w m M ini tgt ls st kc ks E) : zK l w m M ini pc ls st kc ks E := by
  intro p e s mid args below meth c C hn H locs Ls hR hS hl hol hos hsz
  exact lv_goto C.1 C.2.1 hd ht (kk p e s mid args below meth c C hn H locs Ls hR hS hl hol hos hsz)
theorem zk_icmp_ge {a b : Int} {off : Int} {tgt : Nat} (hz : zr a) (hb : zr b) (hd : decode m.2.1 pc = .ok (.if_icmp .ge off, 3)) (ht : (pc : Int) + off = (tgt : Int)) (kt : b ≤ a → zK l w m M ini tgt ls st kc ks E) (kf : a < b → zK l w m M ini (pc + 3) ls st kc ks E) : zK l w m M ini pc ls (zi b :: zi a :: st) kc ks E := by
  intro p e s mid args below meth c C hn H locs Ls hR hS hl hol hos hsz
  exact lv_icmp_ge C.1 C.2.1 hd ht (fun h => kt ((z_le hb hz).mp (by first | exact h | exact Int32.not_lt.mp h)) p e s mid args below meth c C hn H locs Ls hR hS hl hol (zok_t (zok_t hos)) hsz) (fun h => kf ((z_lt hz hb).mp (by first | exact h | exact Int32.not_le.mp h)) p e s mid args below meth c C hn H locs Ls hR hS hl hol (zok_t (zok_t hos)) hsz)
theorem zk_obj {ix : Nat} {a : Addr} (hw : ∀ x ∈ ([.methodLink m.1.cls ix Lib.objectInit, .instanceMethod Lib.objectInit, .code Lib.objectInit ⟨#[0xb1]⟩ 1 none] : List Cond), x ∈ zgood) (hst : (st.map zcat).sum ≤ 8) (hM : 1 ≤ M.1.frames ∧ 20 ≤ M.1.locals) (hd : decode m.2.1 pc = .ok (.invokespecial ix, 3)) (kk : zK l w m M ini (pc + 3) ls st kc ks E) : zK l w m M ini pc ls (zV0 a :: st) kc ks E := by
  intro p e s mid args below meth c C hn H locs Ls hR hS hl hol hos hsz
  obtain ⟨hx, hb, hml, hr, htab, hown, hts, hlk, hE, hfl⟩ := id C
  refine W.objInit hx hb hown (hts _ (hw _ (by simp))) (hts _ (hw _ (by simp))) (hts _ (hw _ (by simp))) rfl (by rw [hml]; exact hl.1) rfl hd hM.1 (by have := zsum_c w hst; have h2 := hM.2; show 2 * 0 + _ + 12 ≤ M.1.locals; omega) ?_
  exact W.eq (g2 := F0 mid (pc + 3) Ls (st.map (zc w))) rfl (kk p e s mid args below meth c C hn H locs Ls hR hS hl hol (zok_t hos) hsz)
theorem zk_size {w : zW} {E : List va_E} {H0 H : Heap} {kc : Nat} {locs : List Loc} (hR : zR w E H) (hS : va_S (zAd w) H0 H locs) (h0 : E = [] → kc = 0) (hsz : H0.size + kc = zB w + E.length) (hle : H.size ≤ H0.size + kc) : H.size = zB w + E.length := by
  have h1 := hS.1
  rcases Nat.eq_zero_or_pos E.length with q | q
  · have := h0 (List.length_eq_zero_iff.mp q)
    omega
  · have h2 := (hR _ _ (zLs_at (k := E.length - 1) (List.getElem?_eq_getElem (by omega)))).lt
    have h3 : zB w + (E.length - 1) < H.size := h2
    omega
theorem zk_new {t ix N : Nat} {Cn : String} {T : u_T} {fs : List Value} {a : Addr} (ha : a = zB w + E.length) (hE0 : E = [] → kc = 0) (hc : vwCl[t]? = some (Cn, T, N)) (h1 : Cond.classLink m.1.cls ix Cn ∈ zgood) (h2 : Cond.instantiable Cn N ∈ zgood) (h3 : Cond.initialized Cn ∈ zgood) (hfs : ∀ ty : Nat → FieldType, (∀ k, k < N → parseFieldDescriptor (T k).2.2.1 = some (ty k)) → ∀ j, j < N → defaultValue (ty j) = vp_V fs j) (hcells : kc + 1 ≤ M.1.cells) (hslots : ks + N ≤ M.1.slots) (hd : decode m.2.1 pc = .ok (.new ix, 3)) (kk : zK l w m M ini (pc + 3) ls (zV0 a :: st) (kc + 1) (ks + N) (E ++ [.inr (t, fs)])) : zK l w m M ini pc ls st kc ks E := by
  intro p e s mid args below meth c C hn H locs Ls hR hS hl hol hos hsz
  obtain ⟨hin, ⟨ty0, hty⟩, hnm, hN, ht⟩ := z_ucl hc
  obtain ⟨hx, hb, hml, hr, htab, hown, hts, hlk, hEn, hfl⟩ := id C
  have hKn := hEn.2.2.1.1 t _ hc
  refine zk_pre (fun hle => ?_)
  have hsa : H.size = a := (zk_size hR hS hE0 hsz hle).trans ha.symm
  refine W.newcK hx hb hown (hts _ h1) (hts _ h2) (hts _ h3) rfl hd hcells hslots hKn.2.1 hsa (fun H1 kC hkC e1 z1 o1 => ?_)
  have hk : ∀ (k : Nat) (x : Nat × va_E), (zLs w E)[k]? = some x → H1[x.1]? = H[x.1]? := fun k x hx => o1 x.1 (by rw [← hsa]; exact (hR k x hx).lt)
  refine kk p e s mid args below meth c C hn H1 locs Ls ?_ ⟨Nat.le_trans hS.1 (by omega), fun x h1 h2 => (o1 x (by rw [← hsa]; exact Nat.lt_of_lt_of_le h1 hS.1)).trans (hS.2.1 x h1 h2), hS.2.2⟩ hl hol (zok_c trivial hos) (by rw [List.length_append]; show s.heap.size + (kc + 1) = zB w + (E.length + 1); omega)
  · show va_P _ _ _ _
    rw [zLs_push]
    refine (va_P.kept hR hk).app (fun k x hx => ?_)
    have hz : k < 1 := (List.getElem?_eq_some_iff.mp hx).1
    rw [show k = 0 by omega] at hx
    cases hx
    refine ⟨_, hc, ?_⟩
    rw [← ha]
    exact (u_born ty0 hts hin hKn hkC e1 hty).to (hfs ty0 hty)
theorem zk_put {t i ix k : Nat} {fs : List Value} {v : zV} {ty : FieldType} {a : Addr} (ha : a = zB w + k) (hf : zFl m.1.cls ix t i) (he : E[k]? = some (.inr (t, fs))) (hi : i < fs.length) (hq : ∀ (Cn : String) (T : u_T) (N : Nat), vwCl[t]? = some (Cn, T, N) → parseFieldDescriptor (T i).2.2.1 = some ty ∧ ((T i).2.2.2 = false ∨ (ini = true ∧ (T i).2.2.2 = true ∧ (T i).1 = m.1.cls)))
    (hn1 : narrow ty (zc w v) = zc w v) (hfit : fits ty (zc w v) = true) (hd : decode m.2.1 pc = .ok (.putfield ix, 3)) {E' : List va_E} (hE' : E.set k (.inr (t, fs.set i (zc w v))) = E') (kk : zK l w m M ini (pc + 3) ls st kc ks E') : zK l w m M ini pc ls (v :: zV0 a :: st) kc ks E := by
  subst hE' ha
  intro p e s mid args below meth c C hn H locs Ls hR hS hl hol hos hsz
  obtain ⟨Cn, T, N, hc1, hiN, hlink, hC⟩ := hf
  obtain ⟨hin, ⟨ty0, hty⟩, hnm, hN, ht⟩ := z_ucl hc1
  obtain ⟨hx, hb, hml, hr, htab, hown, hts, hlk, hEn, hfl⟩ := id C
  obtain ⟨hd1, hfin⟩ := hq _ _ _ hc1
  have go : ∀ (H1 : Heap) (locs1 : List Loc), va_P (zD w) vwCl ((zLs w E).set k (zB w + k, .inr (t, fs.set i (zc w v)))) H1 → va_D (zAd w) ((zLs w E).set k (zB w + k, .inr (t, fs.set i (zc w v)))) → va_S (zAd w) s.heap H1 locs1 → W p l e M.1 s mid args below meth c H1 locs1 kc ks (M.2.1 below args s) (F0 mid (pc + 3) Ls (st.map (zc w))) := fun H1 locs1 hP1 _ hS1 => by
    rw [zLs_set] at hP1
    exact kk p e s mid args below meth c C hn H1 locs1 Ls hP1 hS1 hl hol (zok_t (zok_t hos)) (by rw [List.length_set]; exact hsz)
  rcases hfin with hfin | ⟨h1, h2, h3⟩
  · exact va_put (ty := ty) (v := zc w v) (fs := fs) hx hb hts hin ty0 hty hnm hown hEn.2.2.1 hR (zLs_D hn.2.1 E) hS k (zLs_at he) hc1 i hiN (hts _ hlink) (fun x hx => by rw [← hC]; exact hx) hfin hd1 hn1 hfit hi hd go
  · exact va_putF (ty := ty) (v := zc w v) (fs := fs) hx hb hts hin ty0 hty hnm hown hEn.2.2.1 hR (zLs_D hn.2.1 E) hS k (zLs_at he) hc1 i hiN (hts _ hlink) (fun x hx => by rw [← hC]; exact hx) h2 (hn.1 h1) h3 hd1 hn1 hfit hi hd go
theorem zk_get {t i ix k : Nat} {fs : List Value} {v : zV} {a : Addr} (ha : a = zB w + k) (hf : zFl m.1.cls ix t i) (he : E[k]? = some (.inr (t, fs))) (hv : fs[i]? = some (zc w v)) (hok : zok w v) (hd : decode m.2.1 pc = .ok (.getfield ix, 3)) (kk : zK l w m M ini (pc + 3) ls (v :: st) kc ks E) : zK l w m M ini pc ls (zV0 a :: st) kc ks E := by
  subst ha
  intro p e s mid args below meth c C hn H locs Ls hR hS hl hol hos hsz
  obtain ⟨Cn, T, N, hc1, hiN, hlink, hC⟩ := hf
  obtain ⟨hin, ⟨ty0, hty⟩, hnm, hN, ht⟩ := z_ucl hc1
  obtain ⟨hx, hb, hml, hr, htab, hown, hts, hlk, hEn, hfl⟩ := id C
  exact va_get hx hb hts hin hown hEn.2.2.1 hR k (zLs_at he) hc1 i hiN (hts _ hlink) (fun x hx => by rw [← hC]; exact hx) hv hd (kk p e s mid args below meth c C hn H locs Ls hR hS hl hol (zok_c hok (zok_t hos)) hsz)
theorem zk_newa {at1 : ArrayType} {ty : FieldType} {n q : Nat} {a0 : vp_A} {a : Addr} {nn : Int} (ha : a = zB w + E.length) (hE0 : E = [] → kc = 0) (hw : Cond.arrayClass ty ∈ zgood) (hty : newarray.typeOf at1 = ty) (hq : (ztys w)[q]? = some (zA w q, ty)) (hRA : ∀ (U : State) (cA : ClassId), va_RA U cA ty → U.vm.findClass ("[" ++ ty.toString) = some cA) (ha0 : ∀ cA : ClassId, vp_cell cA a0 = arrV cA n (fun _ => defaultValue ty)) (hn0 : ¬ Int32.ofInt nn < 0) (hn1 : (Int32.ofInt nn).toNatClampNeg = n) (hby : n * componentBytes ty ≤ 536870912) (hcells : kc + 1 ≤ M.1.cells) (hslots : ks + n ≤ M.1.slots) (hd : decode m.2.1 pc = .ok (.newarray at1, 2)) (kk : zK l w m M ini (pc + 2) ls (zV0 a :: st) (kc + 1) (ks + n) (E ++ [.inl (zA w q, a0)])) : zK l w m M ini pc ls (zi nn :: st) kc ks E := by
  subst hty
  intro p e s mid args below meth c C hn H locs Ls hR hS hl hol hos hsz
  obtain ⟨hx, hb, hml, hr, htab, hown, hts, hlk, hEn, hfl⟩ := id C
  refine zk_pre (fun hle => ?_)
  have hsa : H.size = a := (zk_size hR hS hE0 hsz hle).trans ha.symm
  refine va_newaK hx hb (hts _ hw) rfl hd rfl hn0 hn1 hby hcells hslots hsa (fun H1 cA e1 z1 o1 hAr hNm => ?_)
  have hcA : cA = zA w q := Option.some.inj (hNm.symm.trans (hRA _ _ (hEn.2.2.1.2 q _ hq).2))
  subst hcA
  have hk : ∀ (k : Nat) (x : Nat × va_E), (zLs w E)[k]? = some x → H1[x.1]? = H[x.1]? := fun k x hx => o1 x.1 (by rw [← hsa]; exact (hR k x hx).lt)
  refine kk p e s mid args below meth c C hn H1 locs Ls ?_ ⟨Nat.le_trans hS.1 (by omega), fun x h1 h2 => (o1 x (by rw [← hsa]; exact Nat.lt_of_lt_of_le h1 hS.1)).trans (hS.2.1 x h1 h2), hS.2.2⟩ hl hol (zok_c trivial (zok_t hos)) (by rw [List.length_append]; show s.heap.size + (kc + 1) = zB w + (E.length + 1); omega)
  show va_P _ _ _ _
  rw [zLs_push]
  refine (va_P.kept hR hk).app (fun k x hx => ?_)
  have hz : k < 1 := (List.getElem?_eq_some_iff.mp hx).1
  rw [show k = 0 by omega] at hx
  cases hx
  show H1[zB w + E.length]? = some (vp_cell _ _)
  rw [ha0, ← ha]
  exact e1
end ZK
def zRs (w : zW) {α : Type} (P : α → Prop) (F : α → List va_E) : Heap → Prop := fun H => ∃ x : α, P x ∧ zR w (F x) H
def zKPc (w : zW) (pre : List va_E) (e0 : va_E) : Array Value → State → Prop := fun v U => v = (([zV0 (zB w + pre.length)] : List zV).map (zc w)).toArray ∧ zR w (pre ++ [e0]) U.heap ∧ zEnv w U ∧ U.heap.size = zB w + (pre.length + 1) ∧ zAO w U
def zKQc (w : zW) (Rs : Heap → Prop) : Array Value → State → Outcome → State → Prop := fun _ st o t => o = .returned none ∧ Rs t.heap ∧ va_F (zAd w) st t
def zKM (w : zW) (h n sl : Nat) (Rs : Heap → Prop) : zMo := (({ frames := h, cells := n, slots := sl, locals := 34 * h } : Room), fun below args s => vx_MQ below (zKQc w Rs) (fun _ _ _ => False) args s n sl (zAd w), 0, 0)
def zCon (l : Launch) (w : zW) (m' : zM) (h n sl : Nat) (pre : List va_E) (e0 : va_E) (Rs : Heap → Prop) : Prop := Met l m'.1 (zwds m') ({ frames := h, cells := n, slots := sl, locals := 34 * h } : Room) (zKPc w pre e0) (zKQc w Rs) n sl (zAd w)
theorem zKPc_blind (w : zW) (pre : List va_E) (e0 : va_E) : FrameBlind (zKPc w pre e0) := fun _ U _ _ h => ⟨h.1, h.2.1, zEnv_same (U := U) rfl rfl h.2.2.1, h.2.2.2.1, zAO_moved (u := U) (H := U.heap) (Vm.Alike.refl _) va_S.rf rfl h.2.2.2.2⟩
section ZK2
variable {l : Launch} {w : zW} {m : zM} {M : zMo} {ini : Bool} {pc kc ks : Nat} {ls st : List zV} {E : List va_E}
theorem zk_enter {m' : zM} {h n sl : Nat} {pre : List va_E} {e0 : va_E} {Rs : Heap → Prop} (hfl : l.stackTraces = false) (hpl : plainName m'.1.cls = true) (hh : m'.2.2.2.2 = []) (hnm : m'.1.name = "<init>") (pad : Nat) (hln : 1 + pad = m'.2.2.1) (kk : zK l w m' (zKM w h n sl Rs) true 0 (zV0 (zB w + pre.length) :: List.replicate pad zu) [] 0 0 (pre ++ [e0])) : zCon l w m' h n sl pre e0 Rs := by
  have hv : vx_Met l m'.1 (zwds m') ({ frames := h, cells := n, slots := sl, locals := 34 * h } : Room) (zKPc w pre e0) (zKQc w Rs) (fun _ _ _ => False) n sl (zAd w) := by
    refine vx_ofW (cc := m'.2.1) (maxL := m'.2.2.1) (ret := m'.2.2.2.1) hpl rfl ?_
    intro p e s mid args below meth c s₁ B hml ht hv
    obtain ⟨rfl, hR, hE, hsz, hAO⟩ := hv
    have hts := atoms_spec (ws := zwds m') B.pre
    have hl := lv_entry (([zV0 (zB w + pre.length)] : List zV).map (zc w)) (n := m'.2.2.1) (by rw [zexp_len]; show 1 ≤ _; omega)
    rw [lg_entry_eq]
    generalize (lg_sl (([zV0 (zB w + pre.length)] : List zV).map (zc w)) ++ List.replicate (m'.2.2.1 - (lg_sl (([zV0 (zB w + pre.length)] : List zV).map (zc w))).length) Slot.unset).toArray = Ls at hl ⊢
    have hC : zCtx l w m' p s mid ((([zV0 (zB w + pre.length)] : List zV).map (zc w)).toArray) meth c := ⟨B.exec, B.bytes, hml, B.returns, by
      rw [hh]
      have : c.exceptionTable.toList = [] := List.eq_nil_iff_forall_not_mem.mpr ht
      rw [this]; rfl, findClass_of_methodNamed B.named, fun x hx => hts x (List.mem_cons_of_mem _ hx), B.notSynchronized, hE, hfl⟩
    exact kk p e s mid _ below meth c hC ⟨fun _ => ((name_of_methodNamed B.named B.method).1).trans hnm, hAO⟩ s.heap [] Ls hR va_S.rf ⟨hl.1, hl.2.1, fun q hq => hl.2.2 q (zexp_in (w := w) [zV0 (zB w + pre.length)] 0 0 pad q hq)⟩ (zexp_ok (w := w) [zV0 (zB w + pre.length)] pad (fun x hx => by rcases List.mem_singleton.mp hx with rfl; exact trivial)) (fun x hx => by cases hx) (by rw [List.length_append]; exact hsz)
  intro p e ha hc hk s m args below hf happ hp hK
  obtain ⟨n, o, h1, h2, h3, h4⟩ := hv p e ha hc hk s m args below hf happ hp hK
  refine ⟨n, o, h1, h2, h3, ?_⟩
  rcases h4 with h4 | ⟨q, -, E, ce, L, hq, -⟩
  · exact h4
  · exact hq.elim
theorem zk_vret {h n sl : Nat} {Rs : Heap → Prop} (hr : m.2.2.2.1 = none) (hd : decode m.2.1 pc = .ok (.return_, 1)) (hRs : ∀ H, zR w E H → Rs H) (h1 : kc ≤ n) (h2 : ks ≤ sl) : zK l w m (zKM w h n sl Rs) ini pc ls [] kc ks E := by
  intro p e s mid args below meth c C hn H locs Ls hR hS hl hol hos hsz
  refine W.widen (k := n) (n := sl) h1 h2 ?_
  exact vx_ret (W.vret C.1 C.2.1 (by rw [C.2.2.2.1]; exact hr) (fun t ht hW => ⟨rfl, by rw [ht]; exact hRs H hR, hS.F ht⟩) (fun q hq => hS.2.2 q hq) hd C.2.2.2.2.2.2.2.1)
theorem zk_after {n sl : Nat} {p : Program} {e : Env} {s : State} {mid : MethodId} {args : Array Value} {below : List Frame} {meth : Method} {c : Code} (C : zCtx l w m p s mid args meth c) (hn : (ini = true → meth.name = "<init>") ∧ zAO w s) {H : Heap} {locs : List Loc} {Ls : Array Slot} (hS : va_S (zAd w) s.heap H locs) (hl : lv_has Ls m.2.2.1 (zps w 0 ls)) (hol : ∀ v ∈ ls, zok w v) (hos : ∀ v ∈ st, zok w v) (hsz : s.heap.size + kc = zB w + E.length)
    {α : Type} {P : α → Prop} {F : α → List va_E} {st0 : List Value} {a : Array Value} (hr : va_Run p l e M.1 s mid args below meth c H locs kc ks n sl (F0 mid pc Ls st0) (st.map (zc w)) (zKQc w (zRs w P F) a) (zAd w)) (hlen : ∀ x, (F x).length = E.length + n) (kk : ∀ x, P x → zK l w m M ini (pc + 3) ls st (kc + n) (ks + sl) (F x)) :
    W p l e M.1 s mid args below meth c H locs kc ks (M.2.1 below args s) (F0 mid pc Ls st0) := by
  intro T hT X
  obtain ⟨v, st₀, t, T', L, h0, X', hL, e1, e2, ⟨hv, ⟨x, hx, hrep⟩, hF⟩, stp⟩ := hr T hT X
  have hv : v = none := by injection hv
  subst hv
  obtain ⟨k1, k2, k3⟩ := vx_keep (A0 := zAd w) (A1 := zAd w) (free := zAd w) h0 e1 hS (fun _ _ h => h) (fun _ h => h) hL hF
  obtain ⟨t2, a1, b1⟩ := kk x hx p e s mid args below meth c C hn T'.heap (locs ++ L) Ls (by rw [e1]; exact hrep) k3 hl hol hos (by rw [hlen]; omega) T' rfl X'
  exact ⟨t2, stp t2 a1, b1⟩
theorem zk_hG (m' : zM) (hw : ∀ x ∈ ([.code m'.1 m'.2.1 m'.2.2.1 m'.2.2.2.1] : List Cond), x ∈ zgood) : GoodIn zgood (zwds m') := zgood_sub (fun x hx => by
    rcases List.mem_cons.mp hx with h2 | h2
    · exact hw x (by rw [h2]; simp)
    · exact h2)
theorem zk_ctorN {y : MethodName} {cc : ByteArray} {mx h n sl ix : Nat} {pre : List va_E} {e0 : va_E} {a : Addr} {α : Type} {P : α → Prop} {F : α → List va_E} (hC : zCon l w (y, cc, mx, none, []) h n sl pre e0 (zRs w P F)) (ha : a = zB w + pre.length) (hE : E = pre ++ [e0]) (hE0 : E.length = pre.length + 1) (hd : decode m.2.1 pc = .ok (.invokespecial ix, 3)) (hw : (∃ host, (m.1.cls, ix, y, host) ∈ znest) ∧ ∀ x ∈ ([.instanceMethod y, .initialized y.cls, .code y cc mx none] : List Cond), x ∈ zgood) (hm : zMok (y, cc, mx, none, []) 0) (hy : y.name = "<init>") (hst : (st.map zcat).sum ≤ 8)
    (hf : h + 1 ≤ M.1.frames ∧ 8 + (mx + 11) + 34 * h ≤ M.1.locals ∧ kc + n ≤ M.1.cells ∧ ks + sl ≤ M.1.slots) (hlen : ∀ x, (F x).length = E.length + n) (hne : E = [] → kc = 0) (kk : ∀ x, P x → zK l w m M ini (pc + 3) ls st (kc + n) (ks + sl) (F x)) : zK l w m M ini pc ls (zV0 a :: st) kc ks E := by
  subst ha
  intro p e s mid args below meth c C hn H locs Ls hR hS hl hol hos hsz
  obtain ⟨hx, hb, hml, hr, htab, hown, hts, hlk, hEn, hfl⟩ := id C
  obtain ⟨⟨host, hnest⟩, hw⟩ := hw
  have hG := zk_hG (y, cc, mx, none, []) (fun x hx => hw x (by rcases List.mem_singleton.mp hx with rfl; simp))
  refine zk_pre (fun hle => ?_)
  have hHs := zk_size hR hS hne hsz hle
  refine zk_after (α := α) C hn hS hl hol (zok_t hos) hsz (va_runIN (As := []) (b := zB w + pre.length) (rest := st.map (zc w)) (host := host) ⟨hx, hb, hml, hown, hts⟩ hC ⟨va_cnB 0 hts hG rfl rfl rfl (hEn.2.2.2.2.2.2.2.2.1 _ hnest) (hts _ (hw _ (by simp))) ⟨hm.1, hm.2.1, hm.2.2⟩ ⟨hf.1, hf.2.1⟩, hy, hts _ (hw _ (by simp))⟩ ⟨zKPc_blind w pre e0, fun U hU hW => ⟨rfl, by rw [hU, ← hE]; exact hR, zEnv_go hEn hW hS hU, by rw [hU, hHs, hE0], zAO_moved hW.alike hS hU hn.2⟩⟩ rfl rfl hl.1 rfl (lv_room (zsum_c w hst)) hd ⟨hf.2.2.1, hf.2.2.2⟩) hlen kk
theorem zk_ctorI {y : MethodName} {cc : ByteArray} {mx h n sl ix : Nat} {pre : List va_E} {e0 : va_E} {a : Addr} {α : Type} {P : α → Prop} {F : α → List va_E} (hC : zCon l w (y, cc, mx, none, []) h n sl pre e0 (zRs w P F)) (ha : a = zB w + pre.length) (hE : E = pre ++ [e0]) (hE0 : E.length = pre.length + 1) (hd : decode m.2.1 pc = .ok (.invokespecial ix, 3)) (hw : ∀ x ∈ ([.methodLink m.1.cls ix y, .instanceMethod y, .initialized y.cls, .code y cc mx none] : List Cond), x ∈ zgood) (hm : zMok (y, cc, mx, none, []) 0) (hy : y.name = "<init>") (hst : (st.map zcat).sum ≤ 8)
    (hf : h + 1 ≤ M.1.frames ∧ 8 + (mx + 11) + 34 * h ≤ M.1.locals ∧ kc + n ≤ M.1.cells ∧ ks + sl ≤ M.1.slots) (hlen : ∀ x, (F x).length = E.length + n) (hne : E = [] → kc = 0) (kk : ∀ x, P x → zK l w m M ini (pc + 3) ls st (kc + n) (ks + sl) (F x)) : zK l w m M ini pc ls (zV0 a :: st) kc ks E := by
  subst ha
  intro p e s mid args below meth c C hn H locs Ls hR hS hl hol hos hsz
  obtain ⟨hx, hb, hml, hr, htab, hown, hts, hlk, hEn, hfl⟩ := id C
  have hG := zk_hG (y, cc, mx, none, []) (fun x hx => hw x (by rcases List.mem_singleton.mp hx with rfl; simp))
  refine zk_pre (fun hle => ?_)
  have hHs := zk_size hR hS hne hsz hle
  refine zk_after (α := α) C hn hS hl hol (zok_t hos) hsz (va_runI (As := []) (b := zB w + pre.length) (rest := st.map (zc w)) ⟨hx, hb, hml, hown, hts⟩ hC (cwI 0 hts hG rfl rfl rfl (hts _ (hw _ (by simp))) (hts _ (hw _ (by simp))) (hts _ (hw _ (by simp))) hy ⟨hm.1, hm.2.1, hm.2.2⟩ ⟨hf.1, hf.2.1⟩) ⟨zKPc_blind w pre e0, fun U hU hW => ⟨rfl, by rw [hU, ← hE]; exact hR, zEnv_go hEn hW hS hU, by rw [hU, hHs, hE0], zAO_moved hW.alike hS hU hn.2⟩⟩ rfl rfl hl.1 rfl (lv_room (zsum_c w hst)) hd ⟨hf.2.2.1, hf.2.2.2⟩) hlen kk
theorem zk_newq {ix n : Nat} {a : Addr} {nn : Int} (ha : a = zB w + E.length) (hE0 : E = [] → kc = 0) (h1 : Cond.classLink m.1.cls ix "ColophonDetective$Casebook" ∈ zgood) (hn0 : ¬ Int32.ofInt nn < 0) (hn1 : (Int32.ofInt nn).toNatClampNeg = n) (hby : n * 4 ≤ 536870912) (hcells : kc + 1 ≤ M.1.cells) (hslots : ks + n ≤ M.1.slots) (hd : decode m.2.1 pc = .ok (.anewarray ix, 3)) (kk : zK l w m M ini (pc + 3) ls (zV0 a :: st) (kc + 1) (ks + n) (E ++ [.inl (zA w 4, n, .inr (.inr (.inr (.inr (fun _ => none)))))])) : zK l w m M ini pc ls (zi nn :: st) kc ks E := by
  subst hn1
  intro p e s mid args below meth c C hn H locs Ls hR hS hl hol hos hsz
  obtain ⟨hx, hb, hml, hr, htab, hown, hts, hlk, hEn, hfl⟩ := id C
  refine zk_pre (fun hle => ?_)
  have hsa : H.size = a := (zk_size hR hS hE0 hsz hle).trans ha.symm
  refine W.anew hx hb hown (hts _ h1) (show (Cond.arrayOver (.object "ColophonDetective$Casebook")).before args s = true from hn.2.2.1) rfl hd rfl hn0 hby hcells hslots (fun cA kA comp f1 f2 f3 f4 => ?_)
  have hcA : cA = zA w 4 := by
    obtain ⟨kA', comp', g1, g2, g3, g4⟩ := (hEn.2.2.1.2 4 (zA w 4, .object "ColophonDetective$Casebook") rfl).2
    exact Option.some.inj (f1.symm.trans g4)
  subst hcA
  generalize hH1 : H.push ({ cls := zA w 4, slots := Array.replicate (Int32.ofInt nn).toNatClampNeg .null, vm := .none } : Cell) = H1
  have z1 : H1.size = H.size + 1 := by rw [← hH1, Array.size_push]
  have e1 : H1[H.size]? = some (arrV (zA w 4) (Int32.ofInt nn).toNatClampNeg (fun _ => .null)) := by rw [← hH1, Array.getElem?_push_size, ← arrV_new]
  have o1 : ∀ q : Nat, q < H.size → H1[q]? = H[q]? := fun q hq => by rw [← hH1, Array.getElem?_push, if_neg (Nat.ne_of_lt hq)]
  have hk : ∀ (k : Nat) (x : Nat × va_E), (zLs w E)[k]? = some x → H1[x.1]? = H[x.1]? := fun k x hx => o1 x.1 ((hR k x hx).lt)
  rw [hsa]
  refine kk p e s mid args below meth c C hn H1 locs Ls ?_ ⟨Nat.le_trans hS.1 (by omega), fun x h1 h2 => (o1 x (Nat.lt_of_lt_of_le h1 hS.1)).trans (hS.2.1 x h1 h2), hS.2.2⟩ hl hol (zok_c trivial (zok_t hos)) (by rw [List.length_append]; show s.heap.size + (kc + 1) = zB w + (E.length + 1); omega)
  show va_P _ _ _ _
  rw [zLs_push]
  refine (va_P.kept hR hk).app (fun k x hx => ?_)
  have hz : k < 1 := (List.getElem?_eq_some_iff.mp hx).1
  rw [show k = 0 by omega] at hx
  cases hx
  show H1[zB w + E.length]? = some (vp_cell _ _)
  rw [← ha, ← hsa, e1]
  rfl
theorem zk_alenq {k n : Nat} {f : Nat → Option Nat} {a : Addr} (ha : a = zB w + k) (hk : E[k]? = some (.inl (zA w 4, n, .inr (.inr (.inr (.inr f)))))) (hd : decode m.2.1 pc = .ok (.arraylength, 1)) (kk : zK l w m M ini (pc + 1) ls (zi (n : Int) :: st) kc ks E) : zK l w m M ini pc ls (zV0 a :: st) kc ks E := by
  subst ha
  intro p e s mid args below meth c C hn H locs Ls hR hS hl hol hos hsz
  exact va_alen C.1 C.2.1 C.2.2.2.2.2.2.2.2.1.2.2.1 hR k 4 (zLs_at hk) (show (ztys w)[4]? = some (zA w 4, .object "ColophonDetective$Casebook") from rfl) (v := Int32.ofInt (n : Int)) rfl hd (kk p e s mid args below meth c C hn H locs Ls hR hS hl hol (zok_c trivial (zok_t hos)) hsz)
theorem zk_astq {k kv n i : Nat} {vs : List Value} {f : Nat → Option Nat} {a v : Addr} (ha : a = zB w + k) (hv : v = zB w + kv) (hk : E[k]? = some (.inl (zA w 4, n, .inr (.inr (.inr (.inr f)))))) (hkv : E[kv]? = some (.inr (1, vs))) (hi : i < n) (hn : n < 2147483648) (hd : decode m.2.1 pc = .ok (.aastore, 1)) {E' : List va_E} (hE' : E.set k (.inl (zA w 4, n, .inr (.inr (.inr (.inr (va_up f i (some v))))))) = E') (kk : zK l w m M ini (pc + 1) ls st kc ks E') : zK l w m M ini pc ls (zV0 v :: zi (i : Int) :: zV0 a :: st) kc ks E := by
  subst ha hv hE'
  intro p e s mid args below meth c C hn1 H locs Ls hR hS hl hol hos hsz
  obtain ⟨g1, g2⟩ := z_cl (a := (i : Int)) (n := n) (by omega) (by omega) hn
  rw [Int.toNat_natCast] at g2
  refine va_astq C.1 C.2.1 C.2.2.2.2.2.2.2.2.1.2.2.1 hR (zLs_D hn1.2.1 E) hS k 4 kv 1 (r := ("ColophonDetective$Casebook", TX1, 2)) (zLs_at hk) (show (ztys w)[4]? = some (zA w 4, .object "ColophonDetective$Casebook") from rfl) (zLs_at hkv) rfl g1 hd (fun H1 locs1 hP1 _ hS1 => ?_)
  rw [g2, zLs_set] at hP1
  exact kk p e s mid args below meth c C hn1 H1 locs1 Ls hP1 hS1 hl hol (zok_t (zok_t (zok_t hos))) (by rw [List.length_set]; exact hsz)
end ZK2
