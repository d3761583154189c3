abbrev mX5_init : zM := (yX5_init, cX5_init, 2, none, [])
theorem okX5_init : zMok mX5_init 0 := ⟨by decide, by decide, by decide +kernel⟩
theorem kl_RX5_11 : Cond.classLink RX5 11 RX1 ∈ zgood := zmem1 254 (by decide +kernel) rfl
theorem cn_RX5_24 : (∃ host, (RX5, 24, yX1_init, host) ∈ znest) ∧ ∀ x ∈ ([.instanceMethod yX1_init, .initialized yX1_init.cls, .code yX1_init cX1_init 1 none] : List Cond), x ∈ zgood := ⟨⟨_, List.mem_of_getElem? (i := 7) rfl⟩, zall [94, 34, 95] (by decide +kernel) (by decide +kernel)⟩
theorem dX5_init_25 : decode cX5_init 25 = .ok (.iload_n 1, 1) := by decide +kernel
theorem dX5_init_26 : decode cX5_init 26 = .ok (.aload_n 0, 1) := by decide +kernel
theorem dX5_init_27 : decode cX5_init 27 = .ok (.getfield 13, 3) := by decide +kernel
theorem dX5_init_30 : decode cX5_init 30 = .ok (.arraylength, 1) := by decide +kernel
theorem dX5_init_31 : decode cX5_init 31 = .ok (.if_icmp .ge 22, 3) := by decide +kernel
theorem dX5_init_53 : decode cX5_init 53 = .ok (.return_, 1) := by decide +kernel
theorem dX5_init_34 : decode cX5_init 34 = .ok (.aload_n 0, 1) := by decide +kernel
theorem dX5_init_35 : decode cX5_init 35 = .ok (.getfield 13, 3) := by decide +kernel
theorem dX5_init_38 : decode cX5_init 38 = .ok (.iload_n 1, 1) := by decide +kernel
theorem dX5_init_39 : decode cX5_init 39 = .ok (.new 11, 3) := by decide +kernel
theorem dX5_init_42 : decode cX5_init 42 = .ok (.dup, 1) := by decide +kernel
theorem dX5_init_43 : decode cX5_init 43 = .ok (.invokespecial 24, 3) := by decide +kernel
theorem dX5_init_46 : decode cX5_init 46 = .ok (.aastore, 1) := by decide +kernel
theorem dX5_init_47 : decode cX5_init 47 = .ok (.iinc 1 1, 3) := by decide +kernel
theorem dX5_init_50 : decode cX5_init 50 = .ok (.goto (-25), 3) := by decide +kernel
theorem dX5_init_0 : decode cX5_init 0 = .ok (.aload_n 0, 1) := by decide +kernel
theorem ob_RX5_3 : ∀ x ∈ ([.methodLink RX5 3 Lib.objectInit, .instanceMethod Lib.objectInit, .code Lib.objectInit ⟨#[0xb1]⟩ 1 none] : List Cond), x ∈ zgood := zall [253, 53, 54] (by decide +kernel) (by decide +kernel)
theorem dX5_init_1 : decode cX5_init 1 = .ok (.invokespecial 3, 3) := by decide +kernel
theorem dX5_init_4 : decode cX5_init 4 = .ok (.aload_n 0, 1) := by decide +kernel
theorem dX5_init_5 : decode cX5_init 5 = .ok (.bipush 9, 2) := by decide +kernel
theorem dX5_init_7 : decode cX5_init 7 = .ok (.anewarray 11, 3) := by decide +kernel
theorem dX5_init_10 : decode cX5_init 10 = .ok (.putfield 13, 3) := by decide +kernel
theorem dX5_init_13 : decode cX5_init 13 = .ok (.aload_n 0, 1) := by decide +kernel
theorem dX5_init_14 : decode cX5_init 14 = .ok (.iconst 0, 1) := by decide +kernel
theorem dX5_init_15 : decode cX5_init 15 = .ok (.putfield 17, 3) := by decide +kernel
theorem dX5_init_18 : decode cX5_init 18 = .ok (.aload_n 0, 1) := by decide +kernel
theorem dX5_init_19 : decode cX5_init 19 = .ok (.iconst 0, 1) := by decide +kernel
theorem dX5_init_20 : decode cX5_init 20 = .ok (.putfield 21, 3) := by decide +kernel
theorem dX5_init_23 : decode cX5_init 23 = .ok (.iconst 0, 1) := by decide +kernel
theorem dX5_init_24 : decode cX5_init 24 = .ok (.istore_n 1, 1) := by decide +kernel
/-! the history's rows: an array of books in the making -/
theorem zR_as {w : zW} {E E' : List va_E} {H : Heap} (h : zR w E H) (hs : ∀ (k : Nat) (e : va_E), E'[k]? = some e → ∃ e0 : va_E, E[k]? = some e0 ∧ (e = e0 ∨ ∃ (cA : ClassId) (a0 a1 : vp_A), e0 = .inl (cA, a0) ∧ e = .inl (cA, a1) ∧ vp_cell cA a0 = vp_cell cA a1)) : zR w E' H := by
  intro k q hq
  rw [zLs_g] at hq
  obtain ⟨e, he, rfl⟩ := Option.map_eq_some_iff.mp hq
  obtain ⟨e0, h0, rfl | ⟨cA, a0, a1, rfl, rfl, hc⟩⟩ := hs k e he
  · exact h k _ (zLs_at h0)
  · have h1 : H[zB w + k]? = some (vp_cell cA a0) := h k _ (zLs_at h0)
    show H[zB w + k]? = some (vp_cell cA a1)
    rw [h1, hc]
theorem zk_conv {l : Launch} {w : zW} {m : zM} {M : zMo} {ini : Bool} {pc kc ks : Nat} {ls st : List zV} {E E' : List va_E} (h : ∀ H, zR w E H → zR w E' H) (hl : E'.length = E.length) (kk : zK l w m M ini pc ls st kc ks E') : zK l w m M ini pc ls st kc ks E := by
  intro p e s mid args below meth c C hn H locs Ls hR hS hl2 hol hos hsz
  exact kk p e s mid args below meth c C hn H locs Ls (h H hR) hS hl2 hol hos (by rw [hl]; exact hsz)
def zrow (w : zW) (f : Nat → Option Nat) : va_E := .inl (zA w 4, 9, .inr (.inr (.inr (.inr f))))
def zBL : List Nat := [0, 21, 21, 21, 21, 21, 21, 21, 21, 22, 22, 2, 23, 23, 23, 23, 24, 24, 23]
def zTB : Nat → List Nat
  | 0 => []
  | n + 1 => zTB n ++ (1 :: zBL)
theorem zTB_len : ∀ n : Nat, (zTB n).length = 20 * n
  | 0 => rfl
  | n + 1 => by
    have h : (1 :: zBL).length = 20 := rfl
    rw [zTB, List.length_append, zTB_len n, h]; omega
def eH (w : zW) (σ : zS) (pre : List va_E) (fs : List Value) (f : Nat → Option Nat) (T : List Nat) : List va_E := pre ++ (.inr (5, fs) :: zrow w f :: eL w σ T (pre.length + 2))
section KY
variable {l : Launch} {w : zW} {m : zM} {M : zMo} {ini : Bool} {pc kc ks : Nat} {ls st : List zV} {σ : zS} {pre : List va_E} {fs : List Value} {T : List Nat} {f : Nat → Option Nat}
theorem eH_len : (eH w σ pre fs f T).length = pre.length + 2 + T.length := by
  unfold eH
  rw [List.length_append, List.length_cons, List.length_cons, eL_len]; omega
theorem eH_at0 : (eH w σ pre fs f T)[pre.length]? = some (.inr (5, fs)) := by unfold eH; simp
theorem eH_at1 : (eH w σ pre fs f T)[pre.length + 1]? = some (zrow w f) := by
  unfold eH
  rw [List.getElem?_append_right (by omega), show pre.length + 1 - pre.length = 1 by omega]; rfl
theorem eH_set0 (fs' : List Value) : (eH w σ pre fs f T).set pre.length (.inr (5, fs')) = eH w σ pre fs' f T := by unfold eH; simp
theorem eH_set1 (f' : Nat → Option Nat) : (eH w σ pre fs f T).set (pre.length + 1) (zrow w f') = eH w σ pre fs f' T := by
  unfold eH
  rw [List.set_append_right _ _ (by omega), show pre.length + 1 - pre.length = 1 by omega]; rfl
theorem eH_app (T' : List Nat) : eH w σ pre fs f T ++ eL w σ T' (pre.length + 2 + T.length) = eH w σ pre fs f (T ++ T') := by
  unfold eH
  rw [List.append_assoc, List.cons_append, List.cons_append, eL_app]
theorem eH_ne : eH w σ pre fs f T = [] → kc = 0 := fun h => by
  have h1 := congrArg List.length h
  rw [eH_len] at h1
  have h2 : ([] : List va_E).length = 0 := rfl
  omega
theorem eH_put {v : zV} {ty : FieldType} {i ix : Nat} (hf : zFl m.1.cls ix 5 i) (hi : i < fs.length) (hq : ∀ (Cn : String) (T : u_T) (N : Nat), vwCl[5]? = some (Cn, T, N) → parseFieldDescriptor (T i).2.2.1 = some ty ∧ ((T i).2.2.2 = false ∨ (ini = true ∧ (T i).2.2.2 = true ∧ (T i).1 = m.1.cls))) (hn1 : narrow ty (zc w v) = zc w v) (hfit : fits ty (zc w v) = true) (hd : decode m.2.1 pc = .ok (.putfield ix, 3)) {fs' : List Value} (hs : fs.set i (zc w v) = fs') (kk : zK l w m M ini (pc + 3) ls st kc ks (eH w σ pre fs' f T)) : zK l w m M ini pc ls (v :: zV0 (zB w + pre.length) :: st) kc ks (eH w σ pre fs f T) := by
  subst hs
  exact zk_put rfl hf eH_at0 hi hq hn1 hfit hd (eH_set0 _) kk
theorem eH_ctor {t' ix ic N mx h n sl : Nat} {Cn : String} {Tt : u_T} {df : List Value} {y : MethodName} {cc : ByteArray} {T' : List Nat} {a : Addr} (ha : a = zB w + (pre.length + 2 + T.length)) (hc : vwCl[t']? = some (Cn, Tt, N)) (h1 : Cond.classLink m.1.cls ix Cn ∈ zgood) (h2 : Cond.instantiable Cn N ∈ zgood) (h3 : Cond.initialized Cn ∈ zgood) (hfs : ∀ ty : Nat → FieldType, (∀ k, k < N → parseFieldDescriptor (Tt k).2.2.1 = some (ty k)) → ∀ j, j < N → defaultValue (ty j) = vp_V df j)
    (d0 : decode m.2.1 pc = .ok (.new ix, 3)) (d3 : decode m.2.1 (pc + 3) = .ok (.dup, 1)) (d4 : decode m.2.1 (pc + 4) = .ok (.invokespecial ic, 3)) (hC : ∀ pre' : List va_E, pre'.length = pre.length + 2 + T.length → zCon l w (y, cc, mx, none, []) h n sl pre' (.inr (t', df)) (zRs w (fun _ : Unit => True) (fun _ => pre' ++ eL w σ (t' :: T') pre'.length))) (hn : T'.length = n) (hw : (∃ host, (m.1.cls, ic, y, host) ∈ znest) ∧ ∀ x ∈ ([.instanceMethod y, .initialized y.cls, .code y cc mx none] : List Cond), x ∈ zgood) (hm : zMok (y, cc, mx, none, []) 0) (hy : y.name = "<init>") (hst : (st.map zcat).sum ≤ 7)
    (hf : h + 1 ≤ M.1.frames ∧ 8 + (mx + 11) + 34 * h ≤ M.1.locals ∧ kc + 1 + n ≤ M.1.cells ∧ ks + N + sl ≤ M.1.slots) (kk : zK l w m M ini (pc + 4 + 3) ls (zV0 a :: st) (kc + 1 + n) (ks + N + sl) (eH w σ pre fs f (T ++ (t' :: T')))) : zK l w m M ini pc ls st kc ks (eH w σ pre fs f T) := by
  subst ha
  have hln := eH_len (w := w) (σ := σ) (pre := pre) (fs := fs) (f := f) (T := T)
  refine zk_new (a := zB w + (pre.length + 2 + T.length)) (by rw [eH_len]) eH_ne hc h1 h2 h3 hfs (by have := hf.2.2.1; omega) (by have := hf.2.2.2; omega) d0 ?_
  refine zk_dup rfl d3 ?_
  have hst2 : ((zV0 (zB w + (pre.length + 2 + T.length)) :: st).map zcat).sum ≤ 8 := by
    rw [List.map_cons, List.sum_cons]
    show 1 + _ ≤ 8
    omega
  refine zk_ctorN (hC (eH w σ pre fs f T) hln) (by rw [hln]) rfl (by rw [List.length_append]; rfl) d4 hw hm hy hst2 hf (fun _ => by rw [List.length_append, List.length_append, eL_len, List.length_cons, hn]; show _ = _ + 1 + n; omega) (fun q => by
    have h1 := congrArg List.length q
    rw [List.length_append, hln] at h1
    have h2 : ([] : List va_E).length = 0 := rfl
    omega) (fun _ _ => ?_)
  rw [hln, eH_app]
  exact kk
end KY
def zfn (w : zW) (o n : Nat) : Nat → Option Nat := fun i => if i < n then some (zB w + (o + 20 * i)) else none
theorem zfn_s (w : zW) (o n : Nat) : va_up (zfn w o n) n (some (zB w + (o + 20 * n))) = zfn w o (n + 1) := by
  funext i
  unfold va_up zfn
  rcases Nat.lt_trichotomy i n with h | h | h
  · rw [if_neg (by omega), if_pos h, if_pos (by omega)]
  · subst h; rw [if_pos rfl, if_pos (by omega)]
  · rw [if_neg (by omega), if_neg (by omega), if_neg (by omega)]
theorem arr9 {cA : ClassId} {n : Nat} {f g : Nat → Value} (h : ∀ x, x < n → f x = g x) : arrV cA n f = arrV cA n g := by
  have e : (fun j : Fin n => f j.val) = fun j : Fin n => g j.val := funext fun j => h j.val j.isLt
  unfold arrV
  rw [e]

set_option maxRecDepth 20000 in
set_option maxHeartbeats 4000000 in
theorem con_X5_loop {l : Launch} {w : zW} (hfl : l.stackTraces = false) {σ : zS} {pre : List va_E} (hσ : ∀ j, pre.length ≤ j → j < pre.length + 182 → ∀ i, σ.1 j i = 0) : ∀ (q n : Nat), n + q = 9 → zK l w mX5_init (zKM w 3 181 3528 (zRs w (fun _ : Unit => True) (fun _ => pre ++ eL w σ (5 :: 26 :: zTB 9) pre.length))) true 25 [zV0 (zB w + pre.length), zi (n : Int)] [] (1 + 20 * n) (9 + 391 * n) (eH w σ pre [.ref (zB w + (pre.length + 1)), Value.int (Int32.ofInt 0), Value.int (Int32.ofInt 0)] (zfn w (pre.length + 2) n) (zTB n)) := by
  intro q
  induction q with
  | zero =>
    intro n hn
    obtain rfl : n = 9 := by omega
    refine zk_iloadN dX5_init_25 rfl rfl ?_
    refine zk_aloadN dX5_init_26 rfl rfl ?_
    refine zk_get (v := zV0 (zB w + (pre.length + 1))) rfl fl_RX5_13 eH_at0 rfl trivial dX5_init_27 ?_
    refine zk_alenq rfl eH_at1 dX5_init_30 ?_
    refine zk_icmp_ge (by unfold zr; omega) (by unfold zr; omega) dX5_init_31 (tgt := 53) (by decide) (fun _ => ?_) (fun h => by omega)
    refine zk_vret rfl dX5_init_53 (fun H hR => ⟨(), trivial, ?_⟩) (by omega) (by omega)
    refine zR_as hR (fun j e he => ?_)
    unfold eH
    rw [eL, eL] at he
    rcases Nat.lt_trichotomy j pre.length with hj | hj | hj
    · rw [List.getElem?_append_left hj] at he
      exact ⟨e, by rw [List.getElem?_append_left hj]; exact he, Or.inl rfl⟩
    · subst hj
      rw [List.getElem?_append_right (Nat.le_refl _), Nat.sub_self] at he ⊢
      refine ⟨_, rfl, Or.inl ?_⟩
      have e1 : eT w σ 5 pre.length = .inr (5, [.ref (zB w + (pre.length + 1)), Value.int (Int32.ofInt 0), Value.int (Int32.ofInt 0)]) := by
        unfold eT
        rw [if_pos (by decide), zfs_c (c := fun _ => 0) (hσ _ (by omega) (by omega))]
        rfl
      rw [← e1]
      exact (Option.some.inj he).symm
    · obtain ⟨i, rfl⟩ : ∃ i, j = pre.length + 1 + i := ⟨j - (pre.length + 1), by omega⟩
      have hs : pre.length + 1 + i - pre.length = i + 1 := by omega
      rw [List.getElem?_append_right (by omega), hs] at he ⊢
      cases i with
      | zero =>
        refine ⟨_, rfl, Or.inr ⟨zA w 4, _, _, rfl, (Option.some.inj he).symm, ?_⟩⟩
        show vp_cell (zA w 4) (9, .inr (.inr (.inr (.inr (zfn w (pre.length + 2) 9))))) = vp_cell (zA w 4) (9, .inr (.inr (.inr (.inr (fun i => some (zB w + (pre.length + 1 + 1 + 20 * i)))))))
        rw [vp_cell_q, vp_cell_q]
        exact arr9 (fun x hx => by
          show va_rf (zfn w (pre.length + 2) 9 x) = _
          unfold zfn
          rw [if_pos hx])
      | succ i => exact ⟨e, he, Or.inl rfl⟩
  | succ q ih =>
    intro n hn
    have hlt : ((n : Nat) : Int) < 9 := by omega
    refine zk_iloadN dX5_init_25 rfl rfl ?_
    refine zk_aloadN dX5_init_26 rfl rfl ?_
    refine zk_get (v := zV0 (zB w + (pre.length + 1))) rfl fl_RX5_13 eH_at0 rfl trivial dX5_init_27 ?_
    refine zk_alenq rfl eH_at1 dX5_init_30 ?_
    refine zk_icmp_ge (by unfold zr; omega) (by unfold zr; omega) dX5_init_31 (tgt := 53) (by decide) (fun h => by omega) (fun _ => ?_)
    refine zk_aloadN dX5_init_34 rfl rfl ?_
    refine zk_get (v := zV0 (zB w + (pre.length + 1))) rfl fl_RX5_13 eH_at0 rfl trivial dX5_init_35 ?_
    refine zk_iloadN dX5_init_38 rfl rfl ?_
    have hL := zTB_len n
    have hC1 : ∀ pre' : List va_E, pre'.length = pre.length + 2 + (zTB n).length → zCon l w mX1_init 2 19 389 pre' (.inr (1, [Value.null, Value.null])) (zRs w (fun _ : Unit => True) (fun _ => pre' ++ eL w σ (1 :: zBL) pre'.length)) := fun pre' hp => by
      rw [hL] at hp
      exact con_X1 hfl (fun j h1 h2 => hσ j (by omega) (by omega))
    refine eH_ctor (t' := 1) (N := 2) (h := 2) (n := 19) (sl := 389) (T' := zBL) (Cn := RX1) (Tt := TX1) (a := zB w + (pre.length + 2 + 20 * n)) (by rw [hL]) rfl kl_RX5_11 it_X1 iz_X1 df_X1 dX5_init_39 dX5_init_42 dX5_init_43 hC1 rfl cn_RX5_24 okX1_init rfl (Nat.le_of_ble_eq_true rfl) ⟨(Nat.le_of_ble_eq_true rfl), (Nat.le_of_ble_eq_true rfl), by show 1 + 20 * n + 1 + 19 ≤ 181; omega, by show 9 + 391 * n + 2 + 389 ≤ 3528; omega⟩ ?_
    refine zk_astq (k := pre.length + 1) (kv := pre.length + 2 + 20 * n) (n := 9) (i := n) (vs := zfs w σ 1 (pre.length + 2 + 20 * n)) rfl rfl eH_at1 ?_ (by omega) (by decide) dX5_init_46 (eH_set1 _) ?_
    · unfold eH
      rw [List.getElem?_append_right (by omega), show pre.length + 2 + 20 * n - pre.length = 20 * n + 1 + 1 by omega]
      show (eL w σ (zTB n ++ (1 :: zBL)) (pre.length + 2))[20 * n]? = _
      rw [eL_app, List.getElem?_append_right (by rw [eL_len, hL]; exact Nat.le_refl _), eL_len, hL, Nat.sub_self]
      rfl
    rw [zfn_s]
    refine zk_iinc (b := ((n + 1 : Nat) : Int)) dX5_init_47 rfl (by omega) (by show 1 < 2; omega) rfl _ rfl ?_
    refine zk_goto (tgt := 25) dX5_init_50 (by decide) ?_
    have e1 : 1 + 20 * n + 1 + 19 = 1 + 20 * (n + 1) := by omega
    have e2 : 9 + 391 * n + 2 + 389 = 9 + 391 * (n + 1) := by omega
    rw [e1, e2]
    exact ih (n + 1) (by omega)
set_option maxRecDepth 20000 in
set_option maxHeartbeats 4000000 in
theorem con_X5 {l : Launch} {w : zW} (hfl : l.stackTraces = false) {σ : zS} {pre : List va_E} (hσ : ∀ j, pre.length ≤ j → j < pre.length + 182 → ∀ i, σ.1 j i = 0) : zCon l w mX5_init 3 181 3528 pre (.inr (5, [Value.null, Value.int 0, Value.int 0])) (zRs w (fun _ : Unit => True) (fun _ => pre ++ eL w σ (5 :: 26 :: zTB 9) pre.length)) := by
  refine zk_enter hfl (by decide) rfl rfl 1 rfl ?_
  refine zk_aloadN dX5_init_0 rfl rfl ?_
  refine zk_obj ob_RX5_3 (Nat.le_of_ble_eq_true rfl) ⟨(Nat.le_of_ble_eq_true rfl), (Nat.le_of_ble_eq_true rfl)⟩ dX5_init_1 ?_
  refine zk_aloadN dX5_init_4 rfl rfl ?_
  refine zk_bipush dX5_init_5 rfl ?_
  refine zk_newq (n := 9) (a := zB w + (pre.length + 1)) (by rw [List.length_append]; rfl) (fun h => by simp at h) kl_RX5_11 (by decide) (by decide) (by decide) (Nat.le_of_ble_eq_true rfl) (Nat.le_of_ble_eq_true rfl) dX5_init_7 ?_
  have e0 : pre ++ [.inr (5, [Value.null, Value.int 0, Value.int 0])] ++ [.inl (zA w 4, 9, .inr (.inr (.inr (.inr (fun _ => none)))))] = eH w σ pre [Value.null, Value.int 0, Value.int 0] (zfn w (pre.length + 2) 0) (zTB 0) := by
    have e1 : (fun _ => none : Nat → Option Nat) = zfn w (pre.length + 2) 0 := rfl
    rw [List.append_assoc, e1]; rfl
  rw [e0]
  refine eH_put (ty := .array (.object "ColophonDetective$Casebook")) fl_RX5_13 (Nat.le_of_ble_eq_true rfl) (fun _ _ _ h => by cases h; exact ⟨by decide +kernel, Or.inr ⟨rfl, rfl, rfl⟩⟩) rfl rfl dX5_init_10 rfl ?_
  refine zk_aloadN dX5_init_13 rfl rfl ?_
  refine zk_iconst dX5_init_14 ?_
  refine eH_put (ty := .int) fl_RX5_17 (Nat.le_of_ble_eq_true rfl) (fun _ _ _ h => by cases h; exact ⟨by decide +kernel, Or.inl rfl⟩) rfl rfl dX5_init_15 rfl ?_
  refine zk_aloadN dX5_init_18 rfl rfl ?_
  refine zk_iconst dX5_init_19 ?_
  refine eH_put (ty := .int) fl_RX5_21 (Nat.le_of_ble_eq_true rfl) (fun _ _ _ h => by cases h; exact ⟨by decide +kernel, Or.inl rfl⟩) rfl rfl dX5_init_20 rfl ?_
  refine zk_iconst dX5_init_23 ?_
  refine zk_istoreN dX5_init_24 rfl (Nat.le_of_ble_eq_true rfl) (Nat.le_of_ble_eq_true rfl) rfl _ rfl ?_
  exact con_X5_loop hfl hσ 9 0 rfl

