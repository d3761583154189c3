/-! one object in the making: its fields so far, and the finished cells behind it -/
def eT (w : zW) (σ : zS) (t k : Nat) : va_E :=
  if t < 20 then .inr (t, zfs w σ t k)
  else if (zar t).1 = 3 then .inl (zA w 3, (zar t).2, .inr (.inl fun j => if j = 0 then Int64.ofInt σ.2 else 0))
  else if (zar t).1 = 4 then .inl (zA w 4, (zar t).2, .inr (.inr (.inr (.inr (fun i => some (zB w + (k + 1 + 20 * i)))))))
  else .inl (zA w (zar t).1, (zar t).2, .inl (fun i => Int32.ofInt (σ.1 k i)))
theorem zent_eT (w : zW) (σ : zS) (k : Nat) : zent w σ k = eT w σ (zsh k) k := rfl
def eL (w : zW) (σ : zS) : List Nat → Nat → List va_E
  | [], _ => []
  | t :: T, k => eT w σ t k :: eL w σ T (k + 1)
theorem eL_len (w : zW) (σ : zS) : ∀ (T : List Nat) (k : Nat), (eL w σ T k).length = T.length
  | [], _ => rfl
  | t :: T, k => by rw [eL, List.length_cons, eL_len w σ T, List.length_cons]
theorem eL_app (w : zW) (σ : zS) : ∀ (T1 T2 : List Nat) (k : Nat), eL w σ (T1 ++ T2) k = eL w σ T1 k ++ eL w σ T2 (k + T1.length)
  | [], T2, k => rfl
  | t :: T1, T2, k => by
    rw [List.cons_append, eL, eL, eL_app w σ T1 T2, List.cons_append, List.length_cons]
    have e : k + 1 + T1.length = k + (T1.length + 1) := by omega
    rw [e]
theorem eT_0 {w : zW} {σ : zS} {g q n k : Nat} (hg : ¬ g < 20) (ha : zar g = (q, n)) (h3 : q ≠ 3) (h4 : q ≠ 4) (hσ : ∀ i, σ.1 k i = 0) : eT w σ g k = .inl (zA w q, n, .inl (fun _ => 0)) := by
  unfold eT
  rw [if_neg hg, ha, if_neg h3, if_neg h4]
  have e : (fun i => Int32.ofInt (σ.1 k i)) = fun _ => (0 : Int32) := funext fun i => by rw [hσ]; rfl
  rw [e]
def zfc (w : zW) (c : Nat → Int) (t k : Nat) : List Value := (List.range (znf t)).map (fun i => match zfk t i with
  | none => Value.int (Int32.ofInt (c i))
  | some (_, o) => .ref (zB w + (k + o)))
theorem zfs_c {w : zW} {σ : zS} {c : Nat → Int} {t k : Nat} (h : ∀ i, σ.1 k i = c i) : zfs w σ t k = zfc w c t k := by
  unfold zfs zfc
  apply List.map_congr_left
  intro i _
  unfold zfv
  rw [h]
  cases zfk t i <;> rfl
def eX (w : zW) (σ : zS) (pre : List va_E) (t : Nat) (fs : List Value) (T : List Nat) : List va_E := pre ++ (.inr (t, fs) :: eL w σ T (pre.length + 1))
section KX
variable {l : Launch} {w : zW} {m : zM} {M : zMo} {ini : Bool} {pc kc ks : Nat} {ls st : List zV} {σ : zS} {pre : List va_E} {t : Nat} {fs : List Value} {T : List Nat}
theorem eX_len : (eX w σ pre t fs T).length = pre.length + 1 + T.length := by
  unfold eX
  rw [List.length_append, List.length_cons, eL_len]; omega
theorem eX_ne : eX w σ pre t fs T = [] → kc = 0 := fun h => by
  have h1 := congrArg List.length h
  rw [eX_len] at h1
  have h2 : ([] : List va_E).length = 0 := rfl
  omega
theorem eX_at : (eX w σ pre t fs T)[pre.length]? = some (.inr (t, fs)) := by unfold eX; simp
theorem eX_set (fs' : List Value) : (eX w σ pre t fs T).set pre.length (.inr (t, fs')) = eX w σ pre t fs' T := by unfold eX; simp
theorem eX_push {g : Nat} {e : va_E} (h : eT w σ g (pre.length + 1 + T.length) = e) : eX w σ pre t fs T ++ [e] = eX w σ pre t fs (T ++ [g]) := by
  unfold eX
  rw [List.append_assoc, List.cons_append, eL_app, ← h]
  rfl
theorem eX_app (T' : List Nat) : eX w σ pre t fs T ++ eL w σ T' (pre.length + 1 + T.length) = eX w σ pre t fs (T ++ T') := by
  unfold eX
  rw [List.append_assoc, List.cons_append, eL_app]
theorem eX_end {c : Nat → Int} (ht : t < 20) (h : ∀ i, σ.1 pre.length i = c i) (hf : fs = zfc w c t pre.length) : eX w σ pre t fs T = pre ++ eL w σ (t :: T) pre.length := by
  unfold eX
  rw [eL]
  unfold eT
  rw [if_pos ht, zfs_c h, hf]
theorem kx_put {v : zV} {ty : FieldType} {i ix : Nat} (hf : zFl m.1.cls ix t i) (hi : i < fs.length) (hq : ∀ (Cn : String) (T : u_T) (N : Nat), vwCl[t]? = some (Cn, T, N) → parseFieldDescriptor (T i).2.2.1 = some ty ∧ ((T i).2.2.2 = false ∨ (ini = true ∧ (T i).2.2.2 = true ∧ (T i).1 = m.1.cls))) (hn1 : narrow ty (zc w v) = zc w v) (hfit : fits ty (zc w v) = true) (hd : decode m.2.1 pc = .ok (.putfield ix, 3)) {fs' : List Value} (hs : fs.set i (zc w v) = fs') (kk : zK l w m M ini (pc + 3) ls st kc ks (eX w σ pre t fs' T)) : zK l w m M ini pc ls (v :: zV0 (zB w + pre.length) :: st) kc ks (eX w σ pre t fs T) := by
  subst hs
  exact zk_put rfl hf eX_at hi hq hn1 hfit hd (eX_set _) kk
theorem kx_newa {at1 : ArrayType} {ty : FieldType} {n q g : Nat} {nn : Int} {T' : List Nat} {a : Addr} (ha : a = zB w + (pre.length + 1 + T.length)) (hw : Cond.arrayClass ty ∈ zgood) (hty : newarray.typeOf at1 = ty) (hq : (ztys w)[q]? = some (zA w q, ty)) (hRA : ∀ (U : State) (cA : ClassId), va_RA U cA ty → U.vm.findClass ("[" ++ ty.toString) = some cA) (hdf : defaultValue ty = .int 0) (hg : ¬ g < 20) (hzar : zar g = (q, n)) (h3 : q ≠ 3) (h4 : q ≠ 4) (hσ : ∀ i, σ.1 (pre.length + 1 + T.length) i = 0) (hn0 : ¬ Int32.ofInt nn < 0) (hn1 : (Int32.ofInt nn).toNatClampNeg = n) (hby : n * componentBytes ty ≤ 536870912) (hcells : kc + 1 ≤ M.1.cells) (hslots : ks + n ≤ M.1.slots) (hd : decode m.2.1 pc = .ok (.newarray at1, 2)) (hT : T ++ [g] = T')
    (kk : zK l w m M ini (pc + 2) ls (zV0 a :: st) (kc + 1) (ks + n) (eX w σ pre t fs T')) : zK l w m M ini pc ls (zi nn :: st) kc ks (eX w σ pre t fs T) := by
  subst hT ha
  refine zk_newa (a0 := (n, .inl (fun _ => 0))) (by rw [eX_len]) eX_ne hw hty hq hRA (fun cA => by rw [hdf]; rfl) hn0 hn1 hby hcells hslots hd ?_
  rw [eX_push (eT_0 hg hzar h3 h4 hσ)]
  exact kk
theorem kx_ctor {t' ix ic N mx h n sl : Nat} {Cn : String} {Tt : u_T} {df : List Value} {y : MethodName} {cc : ByteArray} {T' T2 : List Nat} {a : Addr} (ha : a = zB w + (pre.length + 1 + T.length)) (hc : vwCl[t']? = some (Cn, Tt, N)) (h1 : Cond.classLink m.1.cls ix Cn ∈ zgood) (h2 : Cond.instantiable Cn N ∈ zgood) (h3 : Cond.initialized Cn ∈ zgood) (hfs : ∀ ty : Nat → FieldType, (∀ k, k < N → parseFieldDescriptor (Tt k).2.2.1 = some (ty k)) → ∀ j, j < N → defaultValue (ty j) = vp_V df j)
    (d0 : decode m.2.1 pc = .ok (.new ix, 3)) (d3 : decode m.2.1 (pc + 3) = .ok (.dup, 1)) (d4 : decode m.2.1 (pc + 4) = .ok (.invokespecial ic, 3)) (hC : ∀ pre' : List va_E, pre'.length = pre.length + 1 + T.length → zCon l w (y, cc, mx, none, []) h n sl pre' (.inr (t', df)) (zRs w (fun _ : Unit => True) (fun _ => pre' ++ eL w σ (t' :: T') pre'.length))) (hn : T'.length = n) (hw : (∃ host, (m.1.cls, ic, y, host) ∈ znest) ∧ ∀ x ∈ ([.instanceMethod y, .initialized y.cls, .code y cc mx none] : List Cond), x ∈ zgood) (hm : zMok (y, cc, mx, none, []) 0) (hy : y.name = "<init>") (hst : (st.map zcat).sum ≤ 7)
    (hf : h + 1 ≤ M.1.frames ∧ 8 + (mx + 11) + 34 * h ≤ M.1.locals ∧ kc + 1 + n ≤ M.1.cells ∧ ks + N + sl ≤ M.1.slots) (hT2 : T ++ (t' :: T') = T2) (kk : zK l w m M ini (pc + 4 + 3) ls (zV0 a :: st) (kc + 1 + n) (ks + N + sl) (eX w σ pre t fs T2)) : zK l w m M ini pc ls st kc ks (eX w σ pre t fs T) := by
  subst hT2 ha
  have hln := eX_len (w := w) (σ := σ) (pre := pre) (t := t) (fs := fs) (T := T)
  refine zk_new (a := zB w + (pre.length + 1 + T.length)) (by rw [eX_len]) eX_ne hc h1 h2 h3 hfs (by have := hf.2.2.1; omega) (by have := hf.2.2.2; omega) d0 ?_
  refine zk_dup rfl d3 ?_
  have hst2 : ((zV0 (zB w + (pre.length + 1 + T.length)) :: st).map zcat).sum ≤ 8 := by
    rw [List.map_cons, List.sum_cons]
    show 1 + _ ≤ 8
    omega
  refine zk_ctorN (hC (eX w σ pre t fs T) hln) (by rw [hln]) rfl (by rw [List.length_append]; rfl) d4 hw hm hy hst2 hf (fun _ => by rw [List.length_append, List.length_append, eL_len, List.length_cons, hn]; show _ = _ + 1 + n; omega) (fun q => by
    have h1 := congrArg List.length q
    rw [List.length_append, hln] at h1
    have h2 : ([] : List va_E).length = 0 := rfl
    omega) (fun _ _ => ?_)
  rw [hln, eX_app]
  exact kk
end KX
