section ZR3
variable {l : Launch} {w : zW} {m : zM} {M : zMo} {pc k : Nat} {ls st : List zV} {σ : zS}
/-! ends -/
theorem zx_iret {h n : Nat} {Q : zQ} {a : Int} {ty : FieldType} (hr : m.2.2.2.1 = some ty) (hn : narrow ty (.int (Int32.ofInt a)) = .int (Int32.ofInt a)) (hd : decode m.2.1 pc = .ok (.ireturn, 1)) (hQ : Q (.inl (some (zi a))) σ) : zX l w m (zMQ w h n Q) pc ls [zi a] k σ := by
  intro p e s mid args below meth c C H locs Ls hR hS hl hol hos hc hs
  have hk : 0 + k ≤ n := hc
  refine W.widen (k := n) (n := 6 * n) (by show 0 + k ≤ n; omega) (by show 0 + 6 * k ≤ 6 * n; omega) ?_
  exact vx_ret (W.zret C.1 C.2.1 (by rw [C.2.2.2.1]; exact hr) hn (fun t ht hW => ⟨some (zi a), σ, rfl, hQ, by rw [ht]; exact hR, hS.F ht, fun x hx => by cases hx; exact trivial⟩) (fun q hq => hS.2.2 q hq) hd C.2.2.2.2.2.2.2.1)
theorem zx_dret {h n : Nat} {Q : zQ} {x : UInt64} (hr : m.2.2.2.1 = some .double) (hd : decode m.2.1 pc = .ok (.dreturn, 1)) (hQ : Q (.inl (some (zd x))) σ) : zX l w m (zMQ w h n Q) pc ls [zd x] k σ := by
  intro p e s mid args below meth c C H locs Ls hR hS hl hol hos hc hs
  have hk : 0 + k ≤ n := hc
  refine W.widen (k := n) (n := 6 * n) (by show 0 + k ≤ n; omega) (by show 0 + 6 * k ≤ 6 * n; omega) ?_
  exact vx_ret (W.dret C.1 C.2.1 (by rw [C.2.2.2.1]; exact hr) (fun t ht hW => ⟨some (zd x), σ, rfl, hQ, by rw [ht]; exact hR, hS.F ht, fun x hx => by cases hx; exact trivial⟩) (fun q hq => hS.2.2 q hq) hd C.2.2.2.2.2.2.2.1)
theorem zx_vret {h n : Nat} {Q : zQ} (hr : m.2.2.2.1 = none) (hd : decode m.2.1 pc = .ok (.return_, 1)) (hQ : Q (.inl none) σ) : zX l w m (zMQ w h n Q) pc ls [] k σ := by
  intro p e s mid args below meth c C H locs Ls hR hS hl hol hos hc hs
  have hk : 0 + k ≤ n := hc
  refine W.widen (k := n) (n := 6 * n) (by show 0 + k ≤ n; omega) (by show 0 + 6 * k ≤ 6 * n; omega) ?_
  exact vx_ret (W.vret C.1 C.2.1 (by rw [C.2.2.2.1]; exact hr) (fun t ht hW => ⟨none, σ, rfl, hQ, by rw [ht]; exact hR, hS.F ht, fun x hx => by cases hx⟩) (fun q hq => hS.2.2 q hq) hd C.2.2.2.2.2.2.2.1)
theorem zxt_out {h n : Nat} {Q : zQ} {E : String} (hh : m.2.2.2.2 = []) (hQ : Q (.inr E) σ) : zXT l w m (zMQ w h n Q) pc ls k σ E := by
  intro p e s mid args below meth c C H locs Ls rest q ce hR hS hl hol hq hv hcl hc hs
  have hk : 0 + k ≤ n := hc
  refine vx_out (fun x hx => ?_) C.2.2.2.2.2.2.2.1 hq hv hcl (fun t ht hW => ⟨σ, hQ, by rw [ht]; exact hR, hS.F ht⟩) (fun q hq => hS.2.2 q hq) (by show 0 + k ≤ n; omega) (by show 0 + 6 * k ≤ 6 * n; omega)
  rw [C.2.2.2.2.1, hh] at hx
  exact absurd hx (by unfold tableOf; simp)
/-- throw new E("text") -/
theorem zx_throw {h n : Nat} {Q : zQ} {E tx : String} {names : List String} {ik is ic j : Nat} (hh : m.2.2.2.2 = []) (hcls : Bundle.fit E = true) (hnames : ∀ x ∈ names, Bundle.fit x = true)
    (hwk : Cond.classLink m.1.cls ik E ∈ zgood) (hwi : Cond.initialized E ∈ zgood) (hq : (m.1.cls, is, tx, j) ∈ zstrs) (hat : ∀ x ∈ vx_atS m.1.cls ic E names, x ∈ lw_tbl) (hot : ∀ x ∈ Cond.classLink m.1.cls ik E :: Cond.initialized E :: vx_atS m.1.cls ic E names, vx_ot x = true) (hgo : ∀ x ∈ vx_atS m.1.cls ic E names, goodWord x = true ∨ (x.onTables && x.keepsFace) = true)
    (d0 : decode m.2.1 pc = .ok (.new ik, 3)) (d3 : decode m.2.1 (pc + 3) = .ok (.dup, 1)) (d4 : decode m.2.1 (pc + 4) = .ok (.ldc is, 2)) (d6 : decode m.2.1 (pc + 6) = .ok (.invokespecial ic, 3)) (d9 : decode m.2.1 (pc + 9) = .ok (.athrow, 1))
    (hst : (st.map zcat).sum ≤ 8) (hn1 : names.length + 3 < h) (hn2 : 8 + (13 * (names.length + 1) + 43) ≤ 34 * h) (hk : k + 1 ≤ n) (hQ : Q (.inr E) σ) : zX l w m (zMQ w h n Q) pc ls st k σ := by
  intro p e s mid args below meth c C H locs Ls hR hS hl hol hos hc hs
  obtain ⟨hx, hb, hml, hr, htab, hown, hts, hlk, hE, hfl⟩ := id C
  have hg : ∀ x ∈ vx_atS m.1.cls ic E names, x.before args s = true := fun x hx => by
    rcases hgo x hx with g | g
    · exact hts x (List.mem_filter.mpr ⟨hat x hx, g⟩)
    · exact zface_same (List.mem_filter.mpr ⟨hat x hx, g⟩) rfl (hE.2.2.2.2.2.2.2.2.2.2.2.2.1 x (List.mem_filter.mpr ⟨hat x hx, g⟩))
  have hsum : ((st.map (zc w)).map fun v => v.category).sum ≤ 8 := by
    rw [List.map_map]
    have : ((fun v : Value => v.category) ∘ zc w) = zcat := funext fun v => zcat_c w v
    rw [this]
    exact hst
  refine vx_throwS (mc := n) (ms := 6 * n) hx hb hfl hown hcls hnames (hts _ hwk) (hts _ hwi) (hE.2.2.2.2.2.2.1 _ hq) hg hot hE.2.2.2.1 hE.2.2.2.2.1 hS (hl.1.trans hml.symm) d0 d3 d4 d6 d9 (fun x hx => ?_) hn1 ?_ (by show 0 + k + 1 ≤ n; omega) (by show 0 + 6 * k + 6 ≤ 6 * n; omega) hlk (fun t hvm hz hkp => ?_) (fun z hz => hS.2.2 z hz) (by show 0 + k + 1 ≤ n; omega) (by show 0 + 6 * k + 6 ≤ 6 * n; omega)
  · rw [htab, hh] at hx
    exact absurd hx (by unfold tableOf; simp)
  · show _ ≤ 34 * h
    omega
  · refine ⟨σ, hQ, fun i q hq => (hR i q hq).kept (hkp _ (hR i q hq).lt), Nat.le_trans hS.1 hz, fun q h1 h2 => ?_⟩
    rw [hkp q (Nat.lt_of_lt_of_le h1 hS.1)]
    exact hS.2.1 q h1 h2
/-! the start -/
def zexp : List zV → List zV
  | [] => []
  | v :: r => if zcat v = 2 then v :: zu :: zexp r else v :: zexp r
theorem zexp_in {w : zW} : ∀ (as : List zV) (i j : Nat) (pad : Nat), ∀ q ∈ zps w i (zexp as ++ List.replicate pad zu), q ∈ lv_args i (as.map (zc w)) := by
  intro as
  induction as with
  | nil =>
    intro i j pad q hq
    obtain ⟨x, v, h1, h2, h3⟩ := zps_mem.mp hq
    have h4 := List.mem_of_getElem? h1
    rw [show zexp [] = [] from rfl, List.nil_append] at h4
    rw [List.eq_of_mem_replicate h4] at h2
    cases h2
  | cons v r ih =>
    intro i j pad q hq
    show q ∈ (i, zc w v) :: lv_args (if (zc w v).category = 2 then i + 2 else i + 1) (r.map (zc w))
    rw [zcat_c]
    by_cases hv : zcat v = 2
    · rw [if_pos hv]
      unfold zexp at hq
      rw [if_pos hv] at hq
      simp only [List.cons_append, zps] at hq
      have hl2 : zlive zu = false := rfl
      rw [hl2] at hq
      simp only [Bool.false_eq_true, if_false] at hq
      split at hq
      · rcases List.mem_cons.mp hq with h1 | h1
        · rw [h1]; exact List.mem_cons_self
        · exact List.mem_cons_of_mem _ (ih _ j pad q h1)
      · exact List.mem_cons_of_mem _ (ih _ j pad q hq)
    · rw [if_neg hv]
      unfold zexp at hq
      rw [if_neg hv] at hq
      simp only [List.cons_append, zps] at hq
      split at hq
      · rcases List.mem_cons.mp hq with h1 | h1
        · rw [h1]; exact List.mem_cons_self
        · exact List.mem_cons_of_mem _ (ih _ j pad q h1)
      · exact List.mem_cons_of_mem _ (ih _ j pad q hq)
theorem zexp_len {w : zW} : ∀ as : List zV, (lg_sl (as.map (zc w))).length = (zexp as).length := by
  intro as
  induction as with
  | nil => rfl
  | cons v r ih =>
    unfold lg_sl at ih ⊢
    rw [List.map_cons, List.flatMap_cons, List.length_append, ih]
    rw [show zexp (v :: r) = if zcat v = 2 then v :: zu :: zexp r else v :: zexp r from rfl]
    rw [zcat_c]
    by_cases hv : zcat v = 2
    · rw [if_pos hv, if_pos hv]
      simp
      omega
    · rw [if_neg hv, if_neg hv]
      simp
      omega
theorem zexp_ok {w : zW} (as : List zV) (pad : Nat) (h : ∀ x ∈ as, zok w x) : ∀ x ∈ zexp as ++ List.replicate pad zu, zok w x := by
  intro x hx
  rcases List.mem_append.mp hx with h1 | h1
  · induction as with
    | nil => cases h1
    | cons v r ih =>
      have hr := fun y hy => h y (List.mem_cons_of_mem _ hy)
      unfold zexp at h1
      split at h1
      · rcases List.mem_cons.mp h1 with rfl | h2
        · exact h _ List.mem_cons_self
        · rcases List.mem_cons.mp h2 with rfl | h3
          · exact trivial
          · exact ih hr (List.mem_append_left _ h3) h3
      · rcases List.mem_cons.mp h1 with rfl | h2
        · exact h _ List.mem_cons_self
        · exact ih hr (List.mem_append_left _ h2) h2
  · rw [List.eq_of_mem_replicate h1]
    exact trivial
theorem zx_enter {h n : Nat} {as : List zV} {Q : zQ} (hfl : l.stackTraces = false) (hpl : plainName m.1.cls = true) (hh : m.2.2.2.2 = []) (pad : Nat) (hln : (zexp as).length + pad = m.2.2.1) (kk : zX l w m (zMQ w h n Q) 0 (zexp as ++ List.replicate pad zu) [] 0 σ) : Sp l w m h n as σ Q := by
  refine vx_ofW (cc := m.2.1) (maxL := m.2.2.1) (ret := m.2.2.2.1) hpl rfl ?_
  intro p e s mid args below meth c s₁ B hml ht hv
  obtain ⟨rfl, hR, hE, hok⟩ := hv
  have hts := atoms_spec (ws := zwds m) B.pre
  have hl := lv_entry (as.map (zc w)) (n := m.2.2.1) (by rw [zexp_len]; omega)
  rw [lg_entry_eq]
  generalize (lg_sl (as.map (zc w)) ++ List.replicate (m.2.2.1 - (lg_sl (as.map (zc w))).length) Slot.unset).toArray = Ls at hl ⊢
  have hC : zCtx l w m p s mid ((as.map (zc w)).toArray) meth c := ⟨B.exec, B.bytes, hml, B.returns, by
    rw [hh]
    have : c.exceptionTable.toList = [] := List.eq_nil_iff_forall_not_mem.mpr ht
    rw [this]; rfl, findClass_of_methodNamed B.named, fun x hx => hts x (List.mem_cons_of_mem _ hx), B.notSynchronized, hE, hfl⟩
  exact kk p e s mid _ below meth c hC s.heap [] Ls hR va_S.rf ⟨hl.1, hl.2.1, fun q hq => hl.2.2 q (zexp_in as 0 0 pad q hq)⟩ (zexp_ok as pad hok) (fun x hx => by cases hx) (Nat.zero_le _) (Nat.zero_le _)
theorem zx_enterH {h n : Nat} {as : List zV} {Q : zQ} (hfl : l.stackTraces = false) (hpl : plainName m.1.cls = true) (pad : Nat) (hln : (zexp as).length + pad = m.2.2.1) (kk : zX l w m (zMQ w h n Q) 0 (zexp as ++ List.replicate pad zu) [] 0 σ) : SpH l w m h n as σ Q := by
  refine vx_ofWH (cc := m.2.1) (maxL := m.2.2.1) (ret := m.2.2.2.1) (hh := m.2.2.2.2) hpl rfl ?_
  intro p e s mid args below meth c s₁ B hml hv
  obtain ⟨rfl, hR, hE, hok⟩ := hv
  have hts := atoms_spec (ws := zwdsH m) B.pre
  have hl := lv_entry (as.map (zc w)) (n := m.2.2.1) (by rw [zexp_len]; omega)
  rw [lg_entry_eq]
  generalize (lg_sl (as.map (zc w)) ++ List.replicate (m.2.2.1 - (lg_sl (as.map (zc w))).length) Slot.unset).toArray = Ls at hl ⊢
  have hC : zCtx l w m p s mid ((as.map (zc w)).toArray) meth c := ⟨B.exec, B.bytes, hml, B.returns, vx_table (x := m.1) B (hts _ List.mem_cons_self), findClass_of_methodNamed B.named, fun x hx => hts x (List.mem_cons_of_mem _ hx), B.notSynchronized, hE, hfl⟩
  exact kk p e s mid _ below meth c hC s.heap [] Ls hR va_S.rf ⟨hl.1, hl.2.1, fun q hq => hl.2.2 q (zexp_in as 0 0 pad q hq)⟩ (zexp_ok as pad hok) (fun x hx => by cases hx) (Nat.zero_le _) (Nat.zero_le _)
/-! calls -/
theorem zsum_c (w : zW) (h : (st.map zcat).sum ≤ 8) : ((st.map (zc w)).map fun v => v.category).sum ≤ 8 := by
  rw [List.map_map]
  have : ((fun v : Value => v.category) ∘ zc w) = zcat := funext fun v => zcat_c w v
  rw [this]
  exact h
theorem zx_go {p : Program} {e : Env} {s : State} {mid : MethodId} {args : Array Value} {below : List Frame} {meth : Method} {c : Code} (C : zCtx l w m p s mid args meth c) {H : Heap} {locs : List Loc} {Ls : Array Slot} (hS : va_S (zAd w) s.heap H locs) (hl : lv_has Ls m.2.2.1 (zps w 0 ls)) (hol : ∀ v ∈ ls, zok w v) (hos : ∀ v ∈ st, zok w v)
    {st0 : List Value} {a : Array Value} {n' : Nat} {Q' : zQ} (hr : vx_Run p l e M.1 s mid args below meth c H locs (M.2.2.1 + k) (M.2.2.2 + 6 * k) n' (6 * n') (F0 mid pc Ls st0) (st.map (zc w)) (zQc w Q' a) (zXC w Q') (zAd w))
    (hn1 : M.2.2.1 + (k + n') ≤ M.1.cells) (hn2 : M.2.2.2 + 6 * (k + n') ≤ M.1.slots)
    (kret : ∀ (r : Option zV) (τ : zS), Q' (.inl r) τ → zX l w m M (pc + 3) ls (r.toList ++ st) (k + n') τ) (kthr : ∀ (E : String) (τ : zS), Q' (.inr E) τ → zXT l w m M pc ls (k + n') τ E) :
    W p l e M.1 s mid args below meth c H locs (M.2.2.1 + k) (M.2.2.2 + 6 * k) (M.2.1 below args s) (F0 mid pc Ls st0) := by
  intro T hT X
  rcases hr T hT X with ⟨v, st₀, t, T', L, h0, X', hL, e1, e2, ⟨r, τ, hv, hq, hrep, hF, hokr⟩, stp⟩ | ⟨q, st₀, t, T', L, E, ce, h0, X', hL, e1, e2, ⟨τ, hq, hrep, hF⟩, hce, hcv, hcl, stp⟩
  · cases hv
    obtain ⟨k1, k2, k3⟩ := vx_keep (A0 := zAd w) (A1 := zAd w) (free := zAd w) h0 e1 hS (fun _ _ h => h) (fun _ h => h) hL hF
    have c1 : M.2.2.1 + k + n' = M.2.2.1 + (k + n') := by omega
    have c2 : M.2.2.2 + 6 * k + 6 * n' = M.2.2.2 + 6 * (k + n') := by omega
    rw [c1, c2] at X'
    obtain ⟨t2, a1, b1⟩ := kret r τ hq p e s mid args below meth c C T'.heap (locs ++ L) Ls (by rw [e1]; exact hrep) k3 hl hol (fun x hx => by
      rcases List.mem_append.mp hx with h1 | h1
      · exact hokr x (by simpa using h1)
      · exact hos x h1) hn1 hn2 T' rfl X'
    refine ⟨t2, stp t2 ?_, b1⟩
    have e3 : (r.map (zc w)).toList ++ st.map (zc w) = (r.toList ++ st).map (zc w) := by cases r <;> rfl
    rw [e3]
    exact a1
  · obtain ⟨k1, k2, k3⟩ := vx_keep (A0 := zAd w) (A1 := zAd w) (free := zAd w) h0 e1 hS (fun _ _ h => h) (fun _ h => h) hL hF
    have c1 : M.2.2.1 + k + n' = M.2.2.1 + (k + n') := by omega
    have c2 : M.2.2.2 + 6 * k + 6 * n' = M.2.2.2 + 6 * (k + n') := by omega
    rw [c1, c2] at X'
    obtain ⟨t2, a1, b1⟩ := kthr E τ hq p e s mid args below meth c C T'.heap (locs ++ L) Ls (st.map (zc w)) q ce (by rw [e1]; exact hrep) k3 hl hol (by rw [e1]; exact hce) hcv hcl hn1 hn2 T' rfl X'
    exact ⟨t2, stp.trans a1, b1⟩
/-- the words of a call's link and of its callee -/
def zCwV (own : String) (ix : Nat) (m' : zM) : Prop := ∀ x ∈ ([.methodLink own ix m'.1, .instanceMethod m'.1, .selects m'.1.cls m'.1 m'.1, .initialized m'.1.cls, .code m'.1 m'.2.1 m'.2.2.1 m'.2.2.2.1] : List Cond), x ∈ zgood
def zCwS (own : String) (ix : Nat) (m' : zM) : Prop := ∀ x ∈ ([.methodLink own ix m'.1, .static m'.1, .initialized m'.1.cls, .code m'.1 m'.2.1 m'.2.2.1 m'.2.2.2.1] : List Cond), x ∈ zgood
def zCwH (own : String) (ix : Nat) (m' : zM) : Prop := ∀ x ∈ ([.methodLink own ix m'.1, .static m'.1, .initialized m'.1.cls, .codeWith m'.1 m'.2.1 m'.2.2.1 m'.2.2.2.1 m'.2.2.2.2] : List Cond), x ∈ zgood
def zCwN (own : String) (ix : Nat) (m' : zM) : Prop := (∃ host, (own, ix, m'.1, host) ∈ znest) ∧ ∀ x ∈ ([.static m'.1, .initialized m'.1.cls, .code m'.1 m'.2.1 m'.2.2.1 m'.2.2.2.1] : List Cond), x ∈ zgood
def zMok (m' : zM) (np : Nat) : Prop := m'.1.cls ≠ "java/lang/invoke/MethodHandle" ∧ m'.1.cls ≠ "java/lang/invoke/VarHandle" ∧ (parseMethodDescriptor m'.1.desc).map (fun d => d.parameters.length) = some np
def zfit (M : zMo) (m' : zM) (h' n' k : Nat) : Prop := h' + 1 ≤ M.1.frames ∧ 8 + (m'.2.2.1 + 11) + 34 * h' ≤ M.1.locals ∧ M.2.2.1 + (k + n') ≤ M.1.cells ∧ M.2.2.2 + 6 * (k + n') ≤ M.1.slots
theorem zrev (as : List zV) (x : List zV) : (as.reverse ++ x).map (zc w) = (as.map (zc w)).reverse ++ x.map (zc w) := by rw [List.map_append, List.map_reverse]
theorem zok_rev {as x : List zV} (h : ∀ v ∈ as.reverse ++ x, zok w v) : (∀ v ∈ as, zok w v) ∧ ∀ v ∈ x, zok w v := ⟨fun v hv => h v (List.mem_append_left _ (List.mem_reverse.mpr hv)), fun v hv => h v (List.mem_append_right _ hv)⟩
theorem zx_callV {m' : zM} {h' n' ix t q np : Nat} {as : List zV} {Q' : zQ} (hsp : Sp l w m' h' n' (zf t q :: as) σ Q') (hd : decode m.2.1 pc = .ok (.invokevirtual ix, 3)) (ht : t < 20) (hcl : (vwCl[t]?).map (fun q => q.1) = some m'.1.cls) (hw : zCwV m.1.cls ix m') (hm : zMok m' np) (hnp : as.length = np) (hst : (st.map zcat).sum ≤ 8) (hf : zfit M m' h' n' k)
    (kret : ∀ (r : Option zV) (τ : zS), Q' (.inl r) τ → zX l w m M (pc + 3) ls (r.toList ++ st) (k + n') τ) (kthr : ∀ (E : String) (τ : zS), Q' (.inr E) τ → zXT l w m M pc ls (k + n') τ E) :
    zX l w m M pc ls (as.reverse ++ zf t q :: st) k σ := by
  intro p e s mid args below meth c C H locs Ls hR hS hl hol hos hc hs
  obtain ⟨ho1, ho2⟩ := zok_rev hos
  obtain ⟨hq, hsq⟩ := zok_obj (by omega) (zok_h ho2)
  have hat := zws_at (σ := σ) hq
  rw [zent_obj hsq ht] at hat
  obtain ⟨hx, hb, hml, hr, htab, hown, hts, hlk, hE, hfl⟩ := id C
  obtain ⟨qc, hqc, hqn⟩ := Option.map_eq_some_iff.mp hcl
  have hrc := va_recv hE.2.2.1 hR hqc hat
  rw [hqn] at hrc
  have hG : GoodIn zgood (wsV m.1.cls ix m'.1.cls m'.1 (zwds m')) := zgood_sub (fun x hx => by
    unfold wsV zwds at hx
    rcases List.mem_append.mp hx with h1 | h1
    · exact hw x (List.mem_append_left [Cond.code m'.1 m'.2.1 m'.2.2.1 m'.2.2.2.1] h1)
    · rcases List.mem_cons.mp h1 with h2 | h2
      · exact hw x (by rw [h2]; simp)
      · exact h2)
  rw [zrev, List.map_cons]
  refine zx_go C hS hl hol (zok_t ho2) (vx_runV (As := as.map (zc w)) (b := zB w + q) ⟨hx, hb, hml, hown, hts⟩ hsp (cwV np hts hG rfl rfl rfl ⟨rfl, hm.1, hm.2.1, hm.2.2⟩ ⟨hf.1, hf.2.1⟩) ⟨zPc_blind w σ _, hrc, fun U hU hW => ⟨by rw [List.map_cons, zc_f (by omega)], by rw [hU]; exact hR, zEnv_go hE hW hS hU, fun x hx => ?_⟩⟩ rfl (by rw [List.length_map, hnp]) hl.1 (by rw [zc_f (by omega)]) (lv_room (zsum_c w hst)) hd ⟨by have := hf.2.2.1; omega, by have := hf.2.2.2; omega⟩) hf.2.2.1 hf.2.2.2 kret kthr
  rcases List.mem_cons.mp hx with h1 | h1
  · rw [h1]; exact zok_h ho2
  · exact ho1 x h1
theorem zx_callS {m' : zM} {h' n' ix np : Nat} {as : List zV} {Q' : zQ} (hsp : Sp l w m' h' n' as σ Q') (hd : decode m.2.1 pc = .ok (.invokestatic ix, 3)) (hw : zCwS m.1.cls ix m') (hm : zMok m' np) (hnp : as.length = np) (hst : (st.map zcat).sum ≤ 8) (hf : zfit M m' h' n' k)
    (kret : ∀ (r : Option zV) (τ : zS), Q' (.inl r) τ → zX l w m M (pc + 3) ls (r.toList ++ st) (k + n') τ) (kthr : ∀ (E : String) (τ : zS), Q' (.inr E) τ → zXT l w m M pc ls (k + n') τ E) :
    zX l w m M pc ls (as.reverse ++ st) k σ := by
  intro p e s mid args below meth c C H locs Ls hR hS hl hol hos hc hs
  obtain ⟨ho1, ho2⟩ := zok_rev hos
  obtain ⟨hx, hb, hml, hr, htab, hown, hts, hlk, hE, hfl⟩ := id C
  have hG : GoodIn zgood (va_wsS m.1.cls ix m'.1 (zwds m')) := zgood_sub (fun x hx => by
    unfold va_wsS zwds at hx
    rcases List.mem_append.mp hx with h1 | h1
    · exact hw x (List.mem_append_left [Cond.code m'.1 m'.2.1 m'.2.2.1 m'.2.2.2.1] h1)
    · rcases List.mem_cons.mp h1 with h2 | h2
      · exact hw x (by rw [h2]; simp)
      · exact h2)
  rw [zrev]
  exact zx_go C hS hl hol ho2 (vx_runS (As := as.map (zc w)) ⟨hx, hb, hml, hown, hts⟩ hsp (va_cwS np hts hG rfl rfl rfl ⟨hm.1, hm.2.1, hm.2.2⟩ ⟨hf.1, hf.2.1⟩) ⟨zPc_blind w σ _, fun U hU hW => ⟨rfl, by rw [hU]; exact hR, zEnv_go hE hW hS hU, ho1⟩⟩ rfl (by rw [List.length_map, hnp]) hl.1 rfl (lv_room (zsum_c w hst)) hd ⟨by have := hf.2.2.1; omega, by have := hf.2.2.2; omega⟩) hf.2.2.1 hf.2.2.2 kret kthr
theorem zx_callH {m' : zM} {h' n' ix np : Nat} {as : List zV} {Q' : zQ} (hsp : SpH l w m' h' n' as σ Q') (hd : decode m.2.1 pc = .ok (.invokestatic ix, 3)) (hw : zCwH m.1.cls ix m') (hm : zMok m' np) (hnp : as.length = np) (hst : (st.map zcat).sum ≤ 8) (hf : zfit M m' h' n' k)
    (kret : ∀ (r : Option zV) (τ : zS), Q' (.inl r) τ → zX l w m M (pc + 3) ls (r.toList ++ st) (k + n') τ) (kthr : ∀ (E : String) (τ : zS), Q' (.inr E) τ → zXT l w m M pc ls (k + n') τ E) :
    zX l w m M pc ls (as.reverse ++ st) k σ := by
  intro p e s mid args below meth c C H locs Ls hR hS hl hol hos hc hs
  obtain ⟨ho1, ho2⟩ := zok_rev hos
  obtain ⟨hx, hb, hml, hr, htab, hown, hts, hlk, hE, hfl⟩ := id C
  have hG : GoodIn zgood (va_wsS m.1.cls ix m'.1 (zwdsH m')) := zgood_sub (fun x hx => by
    unfold va_wsS zwdsH at hx
    rcases List.mem_append.mp hx with h1 | h1
    · exact hw x (List.mem_append_left [Cond.codeWith m'.1 m'.2.1 m'.2.2.1 m'.2.2.2.1 m'.2.2.2.2] h1)
    · rcases List.mem_cons.mp h1 with h2 | h2
      · exact hw x (by rw [h2]; simp)
      · exact h2)
  rw [zrev]
  exact zx_go C hS hl hol ho2 (vx_runSX (hh := m'.2.2.2.2) (As := as.map (zc w)) ⟨hx, hb, hml, hown, hts⟩ hsp (vx_cwSW np hts hG rfl rfl rfl ⟨hm.1, hm.2.1, hm.2.2⟩ ⟨hf.1, hf.2.1⟩) ⟨zPc_blind w σ _, fun U hU hW => ⟨rfl, by rw [hU]; exact hR, zEnv_go hE hW hS hU, ho1⟩⟩ rfl (by rw [List.length_map, hnp]) hl.1 rfl (lv_room (zsum_c w hst)) hd ⟨by have := hf.2.2.1; omega, by have := hf.2.2.2; omega⟩) hf.2.2.1 hf.2.2.2 kret kthr
/-- a contract without throws -/
theorem zMet {m' : zM} {h' n' : Nat} {as : List zV} {Q' : zQ} (hsp : Sp l w m' h' n' as σ Q') (hno : ∀ E τ, ¬ Q' (.inr E) τ) : Met l m'.1 (zwds m') (zroom h' n') (zPc w σ as) (zQc w Q') n' (6 * n') (zAd w) := by
  intro p e ha hc hk s m args below hf happ hp hK
  obtain ⟨n, o, h1, h2, h3, h4⟩ := hsp p e ha hc hk s m args below hf happ hp hK
  refine ⟨n, o, h1, h2, h3, ?_⟩
  rcases h4 with h4 | ⟨q, -, E, ce, L, ⟨τ, hq, -⟩, -⟩
  · exact h4
  · exact absurd hq (hno E τ)
theorem zx_callN {m' : zM} {h' n' ix np : Nat} {as : List zV} {Q' : zQ} (hsp : Sp l w m' h' n' as σ Q') (hno : ∀ E τ, ¬ Q' (.inr E) τ) (hd : decode m.2.1 pc = .ok (.invokestatic ix, 3)) (hw : zCwN m.1.cls ix m') (hm : zMok m' np) (hnp : as.length = np) (hst : (st.map zcat).sum ≤ 8) (hf : zfit M m' h' n' k)
    (kret : ∀ (r : Option zV) (τ : zS), Q' (.inl r) τ → zX l w m M (pc + 3) ls (r.toList ++ st) (k + n') τ) :
    zX l w m M pc ls (as.reverse ++ st) k σ := by
  intro p e s mid args below meth c C H locs Ls hR hS hl hol hos hc hs
  obtain ⟨ho1, ho2⟩ := zok_rev hos
  obtain ⟨hx, hb, hml, hr, htab, hown, hts, hlk, hE, hfl⟩ := id C
  obtain ⟨⟨host, hnest⟩, hw⟩ := hw
  have hG : GoodIn zgood (zwds m') := zgood_sub (fun x hx => by
    rcases List.mem_cons.mp hx with h2 | h2
    · exact hw x (by rw [h2]; simp)
    · exact h2)
  rw [zrev]
  refine zx_go C hS hl hol ho2 (Q' := Q') (n' := n') (a := (as.map (zc w)).toArray) ?_ hf.2.2.1 hf.2.2.2 kret (fun E τ hq => absurd hq (hno E τ))
  intro T hT X
  exact Or.inl (va_runSN (As := as.map (zc w)) (host := host) ⟨hx, hb, hml, hown, hts⟩ (zMet hsp hno) ⟨va_cnB np hts hG rfl rfl rfl (hE.2.2.2.2.2.2.2.2.1 _ hnest) (hts _ (hw _ (by simp))) ⟨hm.1, hm.2.1, hm.2.2⟩ ⟨hf.1, hf.2.1⟩, hts _ (hw _ (by simp)), trivial⟩ ⟨zPc_blind w σ _, fun U hU hW => ⟨rfl, by rw [hU]; exact hR, zEnv_go hE hW hS hU, ho1⟩⟩ rfl (by rw [List.length_map, hnp]) hl.1 rfl (lv_room (zsum_c w hst)) hd ⟨by have := hf.2.2.1; omega, by have := hf.2.2.2; omega⟩ T hT X)
/-! the machine's own methods -/
def zcpy (σ : zS) (q0 q1 n : Nat) : zS := (fun k i => if k = q1 ∧ i < n then σ.1 q0 i else σ.1 k i, σ.2)
theorem zx_copy {ix t0 t1 q0 q1 n0 n1 : Nat} {n : Int} (h0 : zar t0 = (0, n0)) (g0 : ¬ t0 < 20) (h1 : zar t1 = (0, n1)) (g1 : ¬ t1 < 20) (hn0 : 0 ≤ n) (hn1 : n ≤ (n0 : Int)) (hn2 : n ≤ (n1 : Int)) (hb : n < 2147483648) (hw : ∀ x ∈ ([.methodLink m.1.cls ix arraycopyName, .native arraycopyName, .static arraycopyName, .initialized "java/lang/System"] : List Cond), x ∈ zgood) (hst : (st.map zcat).sum ≤ 8) (hM : 1 ≤ M.1.frames ∧ 8 + (nativeFrameWords "java/lang/System" "arraycopy" 5 + 11) ≤ M.1.locals) (hd : decode m.2.1 pc = .ok (.invokestatic ix, 3)) (kk : zX l w m M (pc + 3) ls st k (zcpy σ q0 q1 n.toNat)) : zX l w m M pc ls (zi n :: zi 0 :: zf t1 q1 :: zi 0 :: zf t0 q0 :: st) k σ := by
  intro p e s mid args below meth c C H locs Ls hR hS hl hol hos hc hs
  obtain ⟨hx, hb', hml, hr, htab, hown, hts, hlk, hE, hfl⟩ := id C
  have k0 := zar_lt h0 (by decide) g0
  have k1 := zar_lt h1 (by decide) g1
  obtain ⟨hq1, hs1⟩ := zok_obj (by omega) (zok_h (zok_t (zok_t hos)))
  obtain ⟨hq0, hs0⟩ := zok_obj (by omega) (zok_h (zok_t (zok_t (zok_t (zok_t hos)))))
  have hat0 := zws_at (σ := σ) hq0
  rw [zent_arr hs0 g0 h0 (by decide) (by decide)] at hat0
  have hat1 := zws_at (σ := σ) hq1
  rw [zent_arr hs1 g1 h1 (by decide) (by decide)] at hat1
  have hz : zr n := ⟨by omega, by omega⟩
  have e1 : (Int32.ofInt n).toNatClampNeg = n.toNat := by
    show (Int32.ofInt n).toInt.toNat = n.toNat
    rw [z_toInt hz]
  have e0 : (Int32.ofInt 0).toNatClampNeg = 0 := rfl
  have hneg : ¬ Int32.ofInt n < 0 := fun h => by have := (z_lt hz zr0).mp h; omega
  have hz0 : ¬ Int32.ofInt 0 < 0 := by decide
  rw [List.map_cons, List.map_cons, List.map_cons, List.map_cons, List.map_cons, zc_f (by omega), zc_f (by omega)]
  refine va_copyi (ty := .int) hx hb' (hml.trans hl.1.symm) hown (hts _ (hw _ (by simp))) (hts _ (hw _ (by simp))) (hts _ (hw _ (by simp))) (hts _ (hw _ (by simp))) hE.2.2.1 hR (zD_ok C.2.2.2.2.2.2.2.2.1.2.1 σ) hS q0 q1 0 0 hat0 hat1 (show (ztys w)[0]? = some (zA w 0, .int) from rfl) (show (ztys w)[0]? = some (zA w 0, .int) from rfl) rfl hz0 hz0 hneg (by rw [e0, e1]; omega) (by rw [e0, e1]; omega) (fun _ _ => rfl) hM.1 (by have := zsum_c w hst; omega) hd (fun H1 locs1 hP1 _ hS1 => ?_)
  have e2 : (zws w σ).set q1 (zB w + q1, .inl (zA w 0, n1, .inl (va_cpy (fun i => Int32.ofInt (σ.1 q0 i)) (fun i => Int32.ofInt (σ.1 q1 i)) (Int32.ofInt 0).toNatClampNeg (Int32.ofInt 0).toNatClampNeg (Int32.ofInt n).toNatClampNeg))) = zws w (zcpy σ q0 q1 n.toNat) := by
    refine zws_set hq1 (fun j hj => ?_) ?_
    · have e : ∀ x, (zcpy σ q0 q1 n.toNat).1 j x = σ.1 j x := fun x => by simp [zcpy, hj]
      have e1 : zfs w (zcpy σ q0 q1 n.toNat) (zsh j) j = zfs w σ (zsh j) j := by
        unfold zfs
        apply List.map_congr_left
        intro x _
        unfold zfv
        rw [e]
      unfold zent
      rw [e1]
      simp only [e]
      rfl
    · rw [zent_arr hs1 g1 h1 (by decide) (by decide)]
      congr 4
      funext j
      rw [e0, e1]
      unfold va_cpy zcpy
      by_cases hj : j < n.toNat
      · simp [hj]
      · simp [hj]
  rw [e2] at hP1
  exact kk p e s mid args below meth c C H1 locs1 Ls hP1 hS1 hl hol (zok_t (zok_t (zok_t (zok_t (zok_t hos))))) hc hs
theorem zx_max {ix : Nat} {a b : Int} (ha : zr a) (hb : zr b) (hw : ∀ x ∈ ([.methodLink m.1.cls ix Lib.Math.max.name, .static Lib.Math.max.name, .initialized "java/lang/Math", .code Lib.Math.max.name Lib.Math.max.code 2 (some .int)] : List Cond), x ∈ zgood) (hst : (st.map zcat).sum ≤ 8) (hM : 1 ≤ M.1.frames ∧ 21 ≤ M.1.locals) (hd : decode m.2.1 pc = .ok (.invokestatic ix, 3)) (kk : zX l w m M (pc + 3) ls (zi (max a b) :: st) k σ) : zX l w m M pc ls (zi b :: zi a :: st) k σ := by
  intro p e s mid args below meth c C H locs Ls hR hS hl hol hos hc hs
  obtain ⟨hx, hb', hml, hr, htab, hown, hts, hlk, hE, hfl⟩ := id C
  refine va_mmax hx hb' (hml.trans hl.1.symm) hown (hts _ (hw _ (by simp))) (hts _ (hw _ (by simp))) (hts _ (hw _ (by simp))) (hts _ (hw _ (by simp))) hM.1 (by have := zsum_c w hst; omega) hc hs hd ?_
  have e1 : (if Int32.ofInt a < Int32.ofInt b then Int32.ofInt b else Int32.ofInt a) = Int32.ofInt (max a b) := by
    simp only [z_lt ha hb]
    split
    · congr 1; omega
    · congr 1; omega
  rw [e1]
  exact kk p e s mid args below meth c C H locs Ls hR hS hl hol (zok_c trivial (zok_t (zok_t hos))) hc hs
theorem zx_min {ix : Nat} {a b : Int} (ha : zr a) (hb : zr b) (hw : ∀ x ∈ ([.methodLink m.1.cls ix Lib.Math.min.name, .static Lib.Math.min.name, .initialized "java/lang/Math", .code Lib.Math.min.name Lib.Math.min.code 2 (some .int)] : List Cond), x ∈ zgood) (hst : (st.map zcat).sum ≤ 8) (hM : 1 ≤ M.1.frames ∧ 21 ≤ M.1.locals) (hd : decode m.2.1 pc = .ok (.invokestatic ix, 3)) (kk : zX l w m M (pc + 3) ls (zi (min a b) :: st) k σ) : zX l w m M pc ls (zi b :: zi a :: st) k σ := by
  intro p e s mid args below meth c C H locs Ls hR hS hl hol hos hc hs
  obtain ⟨hx, hb', hml, hr, htab, hown, hts, hlk, hE, hfl⟩ := id C
  refine va_mmin hx hb' (hml.trans hl.1.symm) hown (hts _ (hw _ (by simp))) (hts _ (hw _ (by simp))) (hts _ (hw _ (by simp))) (hts _ (hw _ (by simp))) hM.1 (by have := zsum_c w hst; omega) hc hs hd ?_
  have e1 : (if Int32.ofInt b < Int32.ofInt a then Int32.ofInt b else Int32.ofInt a) = Int32.ofInt (min a b) := by
    simp only [z_lt hb ha]
    split
    · congr 1; omega
    · congr 1; omega
  rw [e1]
  exact kk p e s mid args below meth c C H locs Ls hR hS hl hol (zok_c trivial (zok_t (zok_t hos))) hc hs
theorem zx_abs {ix : Nat} {a : Int} (ha : zr a) (hw : ∀ x ∈ ([.methodLink m.1.cls ix Lib.Math.abs.name, .static Lib.Math.abs.name, .initialized "java/lang/Math", .code Lib.Math.abs.name Lib.Math.abs.code 1 (some .int)] : List Cond), x ∈ zgood) (hst : (st.map zcat).sum ≤ 8) (hM : 1 ≤ M.1.frames ∧ 21 ≤ M.1.locals) (hd : decode m.2.1 pc = .ok (.invokestatic ix, 3)) (kk : zX l w m M (pc + 3) ls (zi (if 0 ≤ a then a else 0 - a) :: st) k σ) : zX l w m M pc ls (zi a :: st) k σ := by
  intro p e s mid args below meth c C H locs Ls hR hS hl hol hos hc hs
  obtain ⟨hx, hb', hml, hr, htab, hown, hts, hlk, hE, hfl⟩ := id C
  refine va_mabs hx hb' (hml.trans hl.1.symm) hown (hts _ (hw _ (by simp))) (hts _ (hw _ (by simp))) (hts _ (hw _ (by simp))) (hts _ (hw _ (by simp))) hM.1 (by have := zsum_c w hst; omega) hc hs hd ?_
  have e1 : (if 0 ≤ Int32.ofInt a then Int32.ofInt a else 0 - Int32.ofInt a) = Int32.ofInt (if 0 ≤ a then a else 0 - a) := by
    have h := z_le zr0 ha
    rw [z_0] at h
    simp only [h]
    split
    · rfl
    · rw [Int32.ofInt_sub]; rfl
  rw [e1]
  exact kk p e s mid args below meth c C H locs Ls hR hS hl hol (zok_c trivial (zok_t hos)) hc hs
end ZR3
