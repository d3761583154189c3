abbrev mX10_byteAt : zM := (yX10_byteAt, cX10_byteAt, 2, (some .int), [])
theorem okX10_byteAt : zMok mX10_byteAt 1 := ⟨by decide, by decide, by decide +kernel⟩
theorem dX10_byteAt_0 : decode cX10_byteAt 0 = .ok (.iload_n 1, 1) := by decide +kernel
theorem dX10_byteAt_1 : decode cX10_byteAt 1 = .ok (.aload_n 0, 1) := by decide +kernel
theorem dX10_byteAt_2 : decode cX10_byteAt 2 = .ok (.getfield 61, 3) := by decide +kernel
theorem dX10_byteAt_5 : decode cX10_byteAt 5 = .ok (.if_icmp .ge 12, 3) := by decide +kernel
theorem dX10_byteAt_17 : decode cX10_byteAt 17 = .ok (.iconst (-1), 1) := by decide +kernel
theorem dX10_byteAt_18 : decode cX10_byteAt 18 = .ok (.ireturn, 1) := by decide +kernel
theorem dX10_byteAt_8 : decode cX10_byteAt 8 = .ok (.aload_n 0, 1) := by decide +kernel
theorem dX10_byteAt_9 : decode cX10_byteAt 9 = .ok (.getfield 31, 3) := by decide +kernel
theorem dX10_byteAt_12 : decode cX10_byteAt 12 = .ok (.iload_n 1, 1) := by decide +kernel
theorem dX10_byteAt_13 : decode cX10_byteAt 13 = .ok (.iaload, 1) := by decide +kernel
theorem dX10_byteAt_14 : decode cX10_byteAt 14 = .ok (.goto 4, 3) := by decide +kernel
abbrev mX10_next : zM := (yX10_next, cX10_next, 1, (some .int), [])
theorem okX10_next : zMok mX10_next 0 := ⟨by decide, by decide, by decide +kernel⟩
theorem dX10_next_0 : decode cX10_next 0 = .ok (.aload_n 0, 1) := by decide +kernel
theorem dX10_next_1 : decode cX10_next 1 = .ok (.aload_n 0, 1) := by decide +kernel
theorem dX10_next_2 : decode cX10_next 2 = .ok (.getfield 227, 3) := by decide +kernel
theorem fl_RX10_227 : zFl RX10 227 10 17 := ⟨RX10, TX10, 28, rfl, by decide, zmem1 1670 (by decide +kernel) rfl, rfl⟩
theorem dX10_next_5 : decode cX10_next 5 = .ok (.invokevirtual 230, 3) := by decide +kernel
theorem cw_RX10_230 : zCwV RX10 230 mX10_byteAt := zall [1534, 1536, 26, 128, 1537] (by decide +kernel) (by decide +kernel)
theorem dX10_next_8 : decode cX10_next 8 = .ok (.bipush 32, 2) := by decide +kernel
theorem dX10_next_10 : decode cX10_next 10 = .ok (.if_icmp .ne 16, 3) := by decide +kernel
theorem dX10_next_26 : decode cX10_next 26 = .ok (.aload_n 0, 1) := by decide +kernel
theorem dX10_next_27 : decode cX10_next 27 = .ok (.aload_n 0, 1) := by decide +kernel
theorem dX10_next_28 : decode cX10_next 28 = .ok (.getfield 227, 3) := by decide +kernel
theorem dX10_next_31 : decode cX10_next 31 = .ok (.putfield 233, 3) := by decide +kernel
theorem fl_RX10_233 : zFl RX10 233 10 18 := ⟨RX10, TX10, 28, rfl, by decide, zmem1 1671 (by decide +kernel) rfl, rfl⟩
theorem fp_10_18 : zFi 10 18 "I" := ⟨RX10, TX10, 28, rfl, rfl, rfl⟩
theorem dX10_next_34 : decode cX10_next 34 = .ok (.aload_n 0, 1) := by decide +kernel
theorem dX10_next_35 : decode cX10_next 35 = .ok (.iconst 0, 1) := by decide +kernel
theorem dX10_next_36 : decode cX10_next 36 = .ok (.putfield 236, 3) := by decide +kernel
theorem fl_RX10_236 : zFl RX10 236 10 19 := ⟨RX10, TX10, 28, rfl, by decide, zmem1 1672 (by decide +kernel) rfl, rfl⟩
theorem fp_10_19 : zFi 10 19 "I" := ⟨RX10, TX10, 28, rfl, rfl, rfl⟩
theorem dX10_next_39 : decode cX10_next 39 = .ok (.aload_n 0, 1) := by decide +kernel
theorem dX10_next_40 : decode cX10_next 40 = .ok (.aload_n 0, 1) := by decide +kernel
theorem dX10_next_41 : decode cX10_next 41 = .ok (.getfield 233, 3) := by decide +kernel
theorem dX10_next_44 : decode cX10_next 44 = .ok (.aload_n 0, 1) := by decide +kernel
theorem dX10_next_45 : decode cX10_next 45 = .ok (.getfield 236, 3) := by decide +kernel
theorem dX10_next_48 : decode cX10_next 48 = .ok (.iadd, 1) := by decide +kernel
theorem dX10_next_49 : decode cX10_next 49 = .ok (.invokevirtual 230, 3) := by decide +kernel
theorem dX10_next_52 : decode cX10_next 52 = .ok (.i2l, 1) := by decide +kernel
theorem dX10_next_53 : decode cX10_next 53 = .ok (.ldc2_w 239, 3) := by decide +kernel
theorem lk_RX10_239 : Cond.constantLong RX10 239 (Int64.ofInt 97) ∈ zgood := zmem1 1538 (by decide +kernel) rfl
theorem dX10_next_56 : decode cX10_next 56 = .ok (.ldc2_w 241, 3) := by decide +kernel
theorem lk_RX10_241 : Cond.constantLong RX10 241 (Int64.ofInt 122) ∈ zgood := zmem1 1539 (by decide +kernel) rfl
theorem dX10_next_59 : decode cX10_next 59 = .ok (.invokestatic 74, 3) := by decide +kernel
theorem dX10_next_62 : decode cX10_next 62 = .ok (.ifCond .eq 16, 3) := by decide +kernel
theorem dX10_next_78 : decode cX10_next 78 = .ok (.aload_n 0, 1) := by decide +kernel
theorem dX10_next_79 : decode cX10_next 79 = .ok (.aload_n 0, 1) := by decide +kernel
theorem dX10_next_80 : decode cX10_next 80 = .ok (.getfield 227, 3) := by decide +kernel
theorem dX10_next_83 : decode cX10_next 83 = .ok (.invokevirtual 230, 3) := by decide +kernel
theorem dX10_next_86 : decode cX10_next 86 = .ok (.ireturn, 1) := by decide +kernel
theorem dX10_next_65 : decode cX10_next 65 = .ok (.aload_n 0, 1) := by decide +kernel
theorem dX10_next_66 : decode cX10_next 66 = .ok (.dup, 1) := by decide +kernel
theorem dX10_next_67 : decode cX10_next 67 = .ok (.getfield 236, 3) := by decide +kernel
theorem dX10_next_70 : decode cX10_next 70 = .ok (.iconst 1, 1) := by decide +kernel
theorem dX10_next_71 : decode cX10_next 71 = .ok (.iadd, 1) := by decide +kernel
theorem dX10_next_72 : decode cX10_next 72 = .ok (.putfield 236, 3) := by decide +kernel
theorem dX10_next_75 : decode cX10_next 75 = .ok (.goto (-36), 3) := by decide +kernel
theorem dX10_next_13 : decode cX10_next 13 = .ok (.aload_n 0, 1) := by decide +kernel
theorem dX10_next_14 : decode cX10_next 14 = .ok (.dup, 1) := by decide +kernel
theorem dX10_next_15 : decode cX10_next 15 = .ok (.getfield 227, 3) := by decide +kernel
theorem dX10_next_18 : decode cX10_next 18 = .ok (.iconst 1, 1) := by decide +kernel
theorem dX10_next_19 : decode cX10_next 19 = .ok (.iadd, 1) := by decide +kernel
theorem dX10_next_20 : decode cX10_next 20 = .ok (.putfield 227, 3) := by decide +kernel
theorem fp_10_17 : zFi 10 17 "I" := ⟨RX10, TX10, 28, rfl, rfl, rfl⟩
theorem dX10_next_23 : decode cX10_next 23 = .ok (.goto (-23), 3) := by decide +kernel
abbrev mX10_must : zM := (yX10_must, cX10_must, 3, none, [])
theorem okX10_must : zMok mX10_must 2 := ⟨by decide, by decide, by decide +kernel⟩
theorem dX10_must_0 : decode cX10_must 0 = .ok (.iload_n 1, 1) := by decide +kernel
theorem dX10_must_1 : decode cX10_must 1 = .ok (.ifCond .ne 10, 3) := by decide +kernel
theorem dX10_must_11 : decode cX10_must 11 = .ok (.return_, 1) := by decide +kernel
theorem dX10_must_4 : decode cX10_must 4 = .ok (.aload_n 0, 1) := by decide +kernel
theorem dX10_must_5 : decode cX10_must 5 = .ok (.getfield 243, 3) := by decide +kernel
theorem fl_RX10_243 : zFl RX10 243 10 20 := ⟨RX10, TX10, 28, rfl, by decide, zmem1 1673 (by decide +kernel) rfl, rfl⟩
theorem dX10_must_8 : decode cX10_must 8 = .ok (.ifCond .eq 4, 3) := by decide +kernel
theorem dX10_must_12 : decode cX10_must 12 = .ok (.aload_n 0, 1) := by decide +kernel
theorem dX10_must_13 : decode cX10_must 13 = .ok (.iload_n 2, 1) := by decide +kernel
theorem dX10_must_14 : decode cX10_must 14 = .ok (.putfield 243, 3) := by decide +kernel
theorem fp_10_20 : zFi 10 20 "I" := ⟨RX10, TX10, 28, rfl, rfl, rfl⟩
theorem dX10_must_17 : decode cX10_must 17 = .ok (.aload_n 0, 1) := by decide +kernel
theorem dX10_must_18 : decode cX10_must 18 = .ok (.aload_n 0, 1) := by decide +kernel
theorem dX10_must_19 : decode cX10_must 19 = .ok (.getfield 233, 3) := by decide +kernel
theorem dX10_must_22 : decode cX10_must 22 = .ok (.putfield 246, 3) := by decide +kernel
theorem fl_RX10_246 : zFl RX10 246 10 21 := ⟨RX10, TX10, 28, rfl, by decide, zmem1 1674 (by decide +kernel) rfl, rfl⟩
theorem fp_10_21 : zFi 10 21 "I" := ⟨RX10, TX10, 28, rfl, rfl, rfl⟩
theorem dX10_must_25 : decode cX10_must 25 = .ok (.return_, 1) := by decide +kernel
/-! what the model's reader sees -/
def TM (t : Nat → Int) (n : Nat) (σ : zS) : Prop := ∀ i, i < n → 0 ≤ σ.1 269 i ∧ (σ.1 269 i = t i ∨ (t i < 0 ∧ 128 ≤ σ.1 269 i))
def uM (σ : zS) (n k : Nat) : Int := if k < n then σ.1 269 k else -1
noncomputable def xW (t : Nat → Int) (n p : Nat) : Nat := rnE (isWd t) n (xS t n p) - xS t n p
theorem uM_in {σ : zS} {n k : Nat} (h : k < n) : uM σ n k = σ.1 269 k := if_pos h
theorem uM_out {σ : zS} {n k : Nat} (h : ¬ k < n) : uM σ n k = -1 := if_neg h
theorem uM_c {t : Nat → Int} {n : Nat} {σ : zS} (h : TM t n σ) (k : Nat) : (k < n ∧ 0 ≤ uM σ n k ∧ (uM σ n k = t k ∨ (t k < 0 ∧ 128 ≤ uM σ n k))) ∨ (n ≤ k ∧ uM σ n k = -1) := by
  by_cases q : k < n
  · rw [uM_in q]; exact Or.inl ⟨q, h k q⟩
  · rw [uM_out q]; exact Or.inr ⟨by omega, rfl⟩
theorem uM_sp {t : Nat → Int} {n k : Nat} {σ : zS} (h : TM t n σ) : uM σ n k = 32 ↔ k < n ∧ isSp t k := by
  have := uM_c h k; unfold isSp; omega
theorem uM_wd {t : Nat → Int} {n k : Nat} {σ : zS} (h : TM t n σ) : (97 ≤ uM σ n k ∧ uM σ n k ≤ 122) ↔ k < n ∧ isWd t k := by
  have := uM_c h k; unfold isWd; omega
theorem uM_dg {t : Nat → Int} {n k : Nat} {σ : zS} (h : TM t n σ) : (48 ≤ uM σ n k ∧ uM σ n k ≤ 57) ↔ k < n ∧ isDg t k := by
  have := uM_c h k; unfold isDg; omega
theorem uM_59 {t : Nat → Int} {n k : Nat} {σ : zS} (h : TM t n σ) : uM σ n k = 59 ↔ k < n ∧ t k = 59 := by
  have := uM_c h k; omega
theorem uM_n {t : Nat → Int} {n k : Nat} {σ : zS} (h : TM t n σ) : uM σ n k = -1 ↔ n ≤ k := by
  have := uM_c h k; omega
theorem uM_t {t : Nat → Int} {n k : Nat} {σ : zS} (h : TM t n σ) (hk : k < n) (h0 : 0 ≤ t k) : uM σ n k = t k := by
  have := uM_c h k; omega
theorem TM_e {t : Nat → Int} {n : Nat} {σ τ : zS} (e : ∀ i, τ.1 269 i = σ.1 269 i) (h : TM t n σ) : TM t n τ := fun i hi => by rw [e]; exact h i hi
theorem uM_e {n k : Nat} {σ τ : zS} (e : ∀ i, τ.1 269 i = σ.1 269 i) : uM τ n k = uM σ n k := by unfold uM; rw [e]
theorem uM_z {σ : zS} (hz : zOK σ) (n k : Nat) : zr (uM σ n k) := by
  unfold uM; split
  · exact hz _ _
  · unfold zr; omega
def MX (σ τ : zS) : Prop := mfr σ τ (fun _ => False) (fun i => 17 ≤ i ∧ i ≤ 21)
theorem MX_tr {σ τ υ : zS} (h : MX σ τ) (h' : MX τ υ) : MX σ υ := mfr_tr h h' (fun _ q => q.elim id id) (fun _ q => q.elim id id)
theorem MX_rf (σ : zS) : MX σ σ := mfr_rf _ _ _
theorem MX_put {σ τ : zS} {i : Nat} {v : Int} (hi : 17 ≤ i ∧ i ≤ 21) (h : MX σ τ) : MX σ (zput τ 261 i v) := mfr_mo (mfr_put261 h) (fun _ q => q) (fun j q => q.elim id (fun e => e ▸ hi))
theorem MX_t {σ τ : zS} (h : MX σ τ) : ∀ i, τ.1 269 i = σ.1 269 i := fun i => h.1 269 (fun q => q) (by decide) i
theorem MX_c {σ τ : zS} (h : MX σ τ) {i : Nat} (hi : i < 17 ∨ 21 < i) : τ.1 261 i = σ.1 261 i := h.2.1 i (by omega)
/-- the model's reader in its cells -/
def PM (t : Nat → Int) (n : Nat) (S : zP) (σ : zS) : Prop := TM t n σ ∧ (σ.1 261 16 = (n : Int) ∧ n ≤ 1400) ∧ S.1 ≤ n ∧ (σ.1 261 20 = S.2.1 ∧ σ.1 261 21 = S.2.2) ∧ ((0 ≤ σ.1 261 17 ∧ σ.1 261 17 ≤ 1401) ∧ 0 ≤ σ.1 261 18 ∧ 0 ≤ σ.1 261 19 ∧ σ.1 261 18 + σ.1 261 19 ≤ 1401) ∧ (S.2.1 = 0 → S.2.2 = -1 ∧ σ.1 261 17 ≤ n ∧ xS t n (σ.1 261 17).toNat = xS t n S.1)
def PN (t : Nat → Int) (n : Nat) (S : zP) (σ : zS) : Prop := PM t n S σ ∧ (S.2.1 = 0 → σ.1 261 17 = xS t n S.1 ∧ σ.1 261 18 = xS t n S.1 ∧ σ.1 261 19 = xW t n S.1)
theorem xW_1 {t : Nat → Int} {n p : Nat} (h : xK t n p = 1) : xE t n p = xS t n p + xW t n p := by
  have a := (tok_w h).1
  have b := rnE_le (isWd t) n (xS t n p)
  unfold xW; omega
theorem xW_0 {t : Nat → Int} {n p : Nat} (h : ¬ xK t n p = 1) : xW t n p = 0 := by
  unfold xW
  rw [rnE_n (fun q => h ?_)]
  · omega
  · unfold xK; rw [if_neg (by omega)]; exact kb_1.mpr q.2
theorem xW_p {t : Nat → Int} {n p : Nat} (hp : p ≤ n) (h : xK t n p = 1) : 1 ≤ xW t n p := by
  have a := xW_1 h
  have b := xE_lt hp (by omega : ¬ xK t n p = 0)
  omega
theorem xW_k {t : Nat → Int} {n p : Nat} (hp : p ≤ n) : 1 ≤ xW t n p ↔ xK t n p = 1 := ⟨fun q => by
  by_cases c : xK t n p = 1
  · exact c
  · have := xW_0 c; omega, xW_p hp⟩
theorem xW_a {t : Nat → Int} {n p q : Nat} (h : xS t n p = xS t n q) : xW t n p = xW t n q := by unfold xW; rw [h]
theorem PM_i {t : Nat → Int} {n : Nat} {S : zP} {σ : zS} (h : PM t n S σ) : xS t n (σ.1 261 17).toNat ≤ 1401 := by
  have := rnE_le (isSp t) n (σ.1 261 17).toNat
  obtain ⟨-, h2, -, -, h5, -⟩ := h
  unfold xS; omega
theorem PN_e {t : Nat → Int} {n : Nat} {S : zP} {σ τ : zS} (e : ∀ k i, τ.1 k i = σ.1 k i) (h : PN t n S σ) : PN t n S τ := by
  have ef : τ.1 = σ.1 := funext (fun k => funext (fun i => e k i))
  unfold PN PM TM at *
  rw [ef]; exact h
theorem PN_must {t : Nat → Int} {n : Nat} {S : zP} {σ τ : zS} {A : Prop} {c : Int} (h : PN t n S σ) (hc : 1 ≤ c) (m : MX σ τ) (q17 : ∀ i, i ≠ 20 → i ≠ 21 → τ.1 261 i = σ.1 261 i) (h1 : (A ∨ ¬ σ.1 261 20 = 0) → ∀ k i, τ.1 k i = σ.1 k i) (h2 : ¬ A → σ.1 261 20 = 0 → τ.1 261 20 = c ∧ τ.1 261 21 = σ.1 261 18) : PN t n (@ite zP A (Classical.propDecidable _) S (pF t n S c)) τ := by
  by_cases a : A
  · rw [if_pos a]; exact PN_e (h1 (Or.inl a)) h
  · rw [if_neg a]
    by_cases z : S.2.1 = 0
    · have h0 : σ.1 261 20 = 0 := h.1.2.2.2.1.1.trans z
      obtain ⟨e1, e2⟩ := h2 a h0
      rw [pF_0 z]
      obtain ⟨⟨p1, p2, p3, p4, p5, p6⟩, p7⟩ := h
      have e18 := (p7 z).2.1
      refine ⟨⟨TM_e (MX_t m) p1, ⟨(MX_c m (by omega)).trans p2.1, p2.2⟩, p3, ⟨e1, e2.trans e18⟩, ?_, fun q => ?_⟩, fun q => ?_⟩
      · rw [q17 17 (by decide) (by decide), q17 18 (by decide) (by decide), q17 19 (by decide) (by decide)]; exact p5
      · have q2 : c = 0 := q
        omega
      · have q2 : c = 0 := q
        omega
    · rw [pF_n z]
      exact PN_e (h1 (Or.inr (fun q => z (h.1.2.2.2.1.1.symm.trans q)))) h

set_option maxRecDepth 20000 in
set_option maxHeartbeats 2000000 in
theorem sX10_byteAt {l : Launch} {w : zW} (hfl : l.stackTraces = false) {σ : zS} {n k : Nat} (hz : zOK σ) (hn : σ.1 261 16 = (n : Int) ∧ n ≤ 1400) (hk : k ≤ 3000) : Sp l w mX10_byteAt 0 0 [zf 10 261, zi ((k : Nat) : Int)] σ (zret (zi (uM σ n k)) σ) := by
  obtain ⟨Q, hQ⟩ : ∃ Q : zQ, Q = (zret (zi (uM σ n k)) σ) := ⟨_, rfl⟩
  rw [← hQ]
  refine zx_enter hfl (by decide) rfl 0 rfl ?_
  show zX l w mX10_byteAt (zMQ w 0 0 Q) 0 [zf 10 261, zi ((k : Nat) : Int)] [] 0 σ
  refine zx_iloadN dX10_byteAt_0 rfl rfl ?_
  refine zx_aloadN dX10_byteAt_1 rfl rfl ?_
  refine zy_getI fl_RX10_61 rfl dX10_byteAt_2 rfl ?_
  refine zx_icmp_ge (tgt := 17) (by first | exact hz _ _ | assumption | exact zr_b _ | exact zcmp_r _ _ | (unfold zr at *; omega)) (by first | exact hz _ _ | assumption | exact zr_b _ | exact zcmp_r _ _ | (unfold zr at *; omega)) dX10_byteAt_5 (by decide) (fun h5 => ?_) (fun h5 => ?_)
  · refine zx_iconst dX10_byteAt_17 ?_
    refine zx_iret rfl rfl dX10_byteAt_18 ?_
    rw [hQ]
    refine ⟨congrArg (fun z : Int => (Sum.inl (some (zi z)) : Option zV ⊕ String)) ?_, by first | rfl | (exfalso; omega)⟩
    first | exact (uM_in (by omega)).symm | exact (uM_out (by omega)).symm
  · refine zx_aloadN dX10_byteAt_8 rfl rfl ?_
    refine zy_getR (q' := 269) fl_RX10_31 rfl dX10_byteAt_9 rfl ?_
    refine zx_iloadN dX10_byteAt_12 rfl rfl ?_
    refine zy_iald (v := σ.1 269 k) rfl (by decide) (by decide) dX10_byteAt_13 (by omega) (by omega) rfl ?_
    refine zx_goto (tgt := 18) dX10_byteAt_14 (by decide) ?_
    refine zx_iret rfl rfl dX10_byteAt_18 ?_
    rw [hQ]
    refine ⟨congrArg (fun z : Int => (Sum.inl (some (zi z)) : Option zV ⊕ String)) ?_, by first | rfl | (exfalso; omega)⟩
    first | exact (uM_in (by omega)).symm | exact (uM_out (by omega)).symm
set_option maxRecDepth 20000 in
set_option maxHeartbeats 2000000 in
theorem sX10_next {l : Launch} {w : zW} (hfl : l.stackTraces = false) {σ : zS} {t : Nat → Int} {n : Nat} {S : zP}  (hz : zOK σ) (hP : PM t n S σ) : Sp l w mX10_next 1 0 [zf 10 261] σ (zqv (some (zi (uM σ n (xS t n (σ.1 261 17).toNat)))) (fun τ => zOK τ ∧ MX σ τ ∧ PN t n S τ)) := by
  obtain ⟨Q, hQ⟩ : ∃ Q : zQ, Q = (zqv (some (zi (uM σ n (xS t n (σ.1 261 17).toNat)))) (fun τ => zOK τ ∧ MX σ τ ∧ PN t n S τ)) := ⟨_, rfl⟩
  rw [← hQ]
  refine zx_enter hfl (by decide) rfl 0 rfl ?_
  show zX l w mX10_next (zMQ w 1 0 Q) 0 [zf 10 261] [] 0 σ
  have hPM := hP
  obtain ⟨pT, pn, pp, pe, pb, ps⟩ := hP
  have hi0 := PM_i hPM
  have L0 : ∀ (N : Nat) (τ : zS) (p : Nat), (zOK τ) → (MX σ τ) → (τ.1 261 17 = ((p : Nat) : Int)) → (τ.1 261 18 = σ.1 261 18 ∧ τ.1 261 19 = σ.1 261 19) → (τ.1 261 20 = σ.1 261 20 ∧ τ.1 261 21 = σ.1 261 21) → (xS t n (σ.1 261 17).toNat = rnE (isSp t) n p) → (p ≤ 1401) → (1402 - p) < N → zX l w mX10_next (zMQ w 1 0 Q) 0 [zf 10 261] [] 0 τ := by
    intro N
    induction N with
    | zero => intro τ p _ _ _ _ _ _ _ _; exact absurd (by assumption) (Nat.not_lt_zero _)
    | succ N ih0 =>
      intro τ p hz h1 h2 h2b h2c h3 hp hN
      have hTt := TM_e (MX_t h1) pT
      have hn16 : τ.1 261 16 = (n : Int) := (MX_c h1 (by decide)).trans pn.1
      refine zx_aloadN dX10_next_0 rfl rfl ?_
      refine zx_aloadN dX10_next_1 rfl rfl ?_
      refine zy_getI fl_RX10_227 rfl dX10_next_2 rfl ?_
      refine zy_top (b := ((p : Nat) : Int)) (h2) ?_
      refine zy_cv [zi ((p : Nat) : Int)] (sX10_byteAt (n := n) (k := p) hfl hz ⟨hn16, pn.2⟩ (by first | assumption | omega)) dX10_next_5 (by decide) rfl cw_RX10_230 okX10_byteAt rfl (Nat.le_of_ble_eq_true rfl) ⟨Nat.le_of_ble_eq_true rfl, Nat.le_of_ble_eq_true rfl, Nat.le_of_ble_eq_true rfl, Nat.le_of_ble_eq_true rfl⟩ ?_
      refine zx_bipush dX10_next_8 rfl ?_
      refine zx_icmp_ne (tgt := 26) (by first | exact hz _ _ | assumption | exact zr_b _ | exact zcmp_r _ _ | exact uM_z (by assumption) _ _ | (unfold zr at *; omega)) (by first | exact hz _ _ | assumption | exact zr_b _ | exact zcmp_r _ _ | exact uM_z (by assumption) _ _ | (unfold zr at *; omega)) dX10_next_10 (by decide) (fun h10 => ?_) (fun h10 => ?_)
      · have hS : xS t n (σ.1 261 17).toNat = p := by
          rw [h3]; exact rnE_n (fun q => h10 ((uM_sp hTt).mpr q))
        refine zx_aloadN dX10_next_26 rfl rfl ?_
        refine zx_aloadN dX10_next_27 rfl rfl ?_
        refine zy_getI fl_RX10_227 rfl dX10_next_28 rfl ?_
        refine zy_top (b := ((p : Nat) : Int)) (h2) ?_
        refine zx_putI fl_RX10_233 rfl (Or.inl fp_10_18) dX10_next_31 ?_
        refine zx_aloadN dX10_next_34 rfl rfl ?_
        refine zx_iconst dX10_next_35 ?_
        refine zx_putI fl_RX10_236 rfl (Or.inl fp_10_19) dX10_next_36 ?_
        have L39 : ∀ (N : Nat) (υ : zS) (v : Nat), (zOK υ) → (MX σ υ) → (υ.1 261 17 = ((p : Nat) : Int) ∧ υ.1 261 18 = ((p : Nat) : Int) ∧ υ.1 261 19 = ((v : Nat) : Int) ∧ υ.1 261 20 = σ.1 261 20 ∧ υ.1 261 21 = σ.1 261 21) → (rnE (isWd t) n p = rnE (isWd t) n (p + v)) → (p + v ≤ 1401) → (1402 - (p + v)) < N → zX l w mX10_next (zMQ w 1 0 Q) 39 [zf 10 261] [] 0 υ := by
          intro N
          induction N with
          | zero => intro υ v _ _ _ _ _ _; exact absurd (by assumption) (Nat.not_lt_zero _)
          | succ N ih39 =>
            intro υ v hz h4 h5 h6 hw hN
            have hTu := TM_e (MX_t h4) pT
            have hu16 : υ.1 261 16 = (n : Int) := (MX_c h4 (by decide)).trans pn.1
            obtain ⟨u17, u18, u19, u20⟩ := id h5
            refine zx_aloadN dX10_next_39 rfl rfl ?_
            refine zx_aloadN dX10_next_40 rfl rfl ?_
            refine zy_getI fl_RX10_233 rfl dX10_next_41 rfl ?_
            refine zy_top (b := ((p : Nat) : Int)) (u18) ?_
            refine zx_aloadN dX10_next_44 rfl rfl ?_
            refine zy_getI fl_RX10_236 rfl dX10_next_45 rfl ?_
            refine zy_top (b := ((v : Nat) : Int)) (u19) ?_
            refine zx_iadd dX10_next_48 ?_
            refine zy_top (b := ((p + v : Nat) : Int)) (by omega) ?_
            refine zy_cv [zi ((p + v : Nat) : Int)] (sX10_byteAt (n := n) (k := (p + v)) hfl hz ⟨hu16, pn.2⟩ (by first | assumption | omega)) dX10_next_49 (by decide) rfl cw_RX10_230 okX10_byteAt rfl (Nat.le_of_ble_eq_true rfl) ⟨Nat.le_of_ble_eq_true rfl, Nat.le_of_ble_eq_true rfl, Nat.le_of_ble_eq_true rfl, Nat.le_of_ble_eq_true rfl⟩ ?_
            refine zx_i2l (by first | exact hz _ _ | assumption | exact zr_b _ | exact zcmp_r _ _ | exact uM_z (by assumption) _ _ | (unfold zr at *; omega)) dX10_next_52 ?_
            refine zx_ldc2 (a := 97) dX10_next_53 lk_RX10_239 ?_
            refine zx_ldc2 (a := 122) dX10_next_56 lk_RX10_241 ?_
            refine zy_cs [zl (uM υ n (p + v)), zl 97, zl 122] (sX10_in  hfl hz (by first | exact hz _ _ | assumption | exact zr_b _ | exact zcmp_r _ _ | exact uM_z (by assumption) _ _ | (unfold zr at *; omega)) (by first | exact hz _ _ | assumption | exact zr_b _ | exact zcmp_r _ _ | exact uM_z (by assumption) _ _ | (unfold zr at *; omega)) (by first | exact hz _ _ | assumption | exact zr_b _ | exact zcmp_r _ _ | exact uM_z (by assumption) _ _ | (unfold zr at *; omega))) dX10_next_59 cw_RX10_74 okX10_in rfl (Nat.le_of_ble_eq_true rfl) ⟨Nat.le_of_ble_eq_true rfl, Nat.le_of_ble_eq_true rfl, Nat.le_of_ble_eq_true rfl, Nat.le_of_ble_eq_true rfl⟩ ?_
            refine zx_if_eq (tgt := 78) (by first | exact hz _ _ | assumption | exact zr_b _ | exact zcmp_r _ _ | exact uM_z (by assumption) _ _ | (unfold zr at *; omega)) dX10_next_62 (by decide) (fun h62 => ?_) (fun h62 => ?_)
            · have h62 := zb_0.mp h62
              refine zx_aloadN dX10_next_78 rfl rfl ?_
              refine zx_aloadN dX10_next_79 rfl rfl ?_
              refine zy_getI fl_RX10_227 rfl dX10_next_80 rfl ?_
              refine zy_top (b := ((p : Nat) : Int)) (u17) ?_
              refine zy_cv [zi ((p : Nat) : Int)] (sX10_byteAt (n := n) (k := p) hfl hz ⟨hu16, pn.2⟩ (by first | assumption | omega)) dX10_next_83 (by decide) rfl cw_RX10_230 okX10_byteAt rfl (Nat.le_of_ble_eq_true rfl) ⟨Nat.le_of_ble_eq_true rfl, Nat.le_of_ble_eq_true rfl, Nat.le_of_ble_eq_true rfl, Nat.le_of_ble_eq_true rfl⟩ ?_
              refine zx_iret rfl rfl dX10_next_86 ?_
              rw [hQ]
              refine ⟨congrArg (fun z : Int => (Sum.inl (some (zi z)) : Option zV ⊕ String)) ?_, ?_⟩
              · rw [hS]; exact uM_e (MX_t h4)
              have hW : rnE (isWd t) n p = p + v := by
                rw [h6]; exact rnE_n (fun q => h62 ((uM_wd hTu).mpr q))
              refine ⟨hz, h4, ⟨hTu, ⟨hu16, pn.2⟩, pp, ⟨u20.1.trans pe.1, u20.2.trans pe.2⟩, by omega, fun z => ?_⟩, fun z => ?_⟩
              · obtain ⟨z1, z2, z3⟩ := ps z
                have z4 := xS_le (t := t) (n := n) (p := (σ.1 261 17).toNat) (by omega)
                have z5 := xS_le (t := t) pp
                refine ⟨z1, by omega, ?_⟩
                rw [u17, Int.toNat_natCast, ← z3, ← hS]; exact xS_tS _ _ _
              · obtain ⟨z1, z2, z3⟩ := ps z
                have e : xS t n S.1 = p := z3.symm.trans hS
                refine ⟨u17.trans (by rw [e]), u18.trans (by rw [e]), u19.trans ?_⟩
                unfold xW
                rw [e, hW]; omega
            · have h62 := zb_n.mp h62
              refine zx_aloadN dX10_next_65 rfl rfl ?_
              refine zx_dup rfl dX10_next_66 ?_
              refine zy_getI fl_RX10_236 rfl dX10_next_67 rfl ?_
              refine zy_top (b := ((v : Nat) : Int)) (u19) ?_
              refine zx_iconst dX10_next_70 ?_
              refine zx_iadd dX10_next_71 ?_
              refine zx_putI fl_RX10_236 rfl (Or.inl fp_10_19) dX10_next_72 ?_
              refine zx_goto (tgt := 39) dX10_next_75 (by decide) ?_
              exact ih39 (zput υ 261 19 (((v : Nat) : Int) + 1)) (v + 1) (zOK_put hz (by first | exact hz _ _ | assumption | exact zr_b _ | exact zcmp_r _ _ | exact uM_z (by assumption) _ _ | (unfold zr at *; omega))) (MX_put (by decide) h4) (by simp only [zput_e]; simp; exact ⟨h5.1, h5.2.1, h5.2.2.2⟩) (by rw [h6, show p + (v + 1) = (p + v) + 1 by omega]; exact rnE_y ((uM_wd hTu).mp (by assumption)).1 ((uM_wd hTu).mp (by assumption)).2) (by have := ((uM_wd (k := p + v) hTu).mp (by assumption)).1; omega) (by omega)
        exact L39 _ (zput (zput τ 261 18 ((p : Nat) : Int)) 261 19 0) 0 (zOK_put (zOK_put hz (by first | exact hz _ _ | assumption | exact zr_b _ | exact zcmp_r _ _ | exact uM_z (by assumption) _ _ | (unfold zr at *; omega))) (by unfold zr; omega)) (MX_put (by decide) (MX_put (by decide) h1)) (by simp only [zput_e]; simp; exact ⟨h2, h2c⟩) rfl (by omega) (Nat.lt_succ_self _)
      · refine zx_aloadN dX10_next_13 rfl rfl ?_
        refine zx_dup rfl dX10_next_14 ?_
        refine zy_getI fl_RX10_227 rfl dX10_next_15 rfl ?_
        refine zy_top (b := ((p : Nat) : Int)) (h2) ?_
        refine zx_iconst dX10_next_18 ?_
        refine zx_iadd dX10_next_19 ?_
        refine zx_putI fl_RX10_227 rfl (Or.inl fp_10_17) dX10_next_20 ?_
        refine zx_goto (tgt := 0) dX10_next_23 (by decide) ?_
        exact ih0 (zput τ 261 17 (((p : Nat) : Int) + 1)) (p + 1) (zOK_put hz (by first | exact hz _ _ | assumption | exact zr_b _ | exact zcmp_r _ _ | exact uM_z (by assumption) _ _ | (unfold zr at *; omega))) (MX_put (by decide) h1) ((zput_s _ _ _ _).trans (by omega)) ⟨(zput_i _ _ _ _ _ (by decide)).trans h2b.1, (zput_i _ _ _ _ _ (by decide)).trans h2b.2⟩ ⟨(zput_i _ _ _ _ _ (by decide)).trans h2c.1, (zput_i _ _ _ _ _ (by decide)).trans h2c.2⟩ (by rw [h3]; exact rnE_y ((uM_sp hTt).mp (by omega)).1 ((uM_sp hTt).mp (by omega)).2) (by have := ((uM_sp (k := p) hTt).mp (by omega)).1; omega) (by omega)
  exact L0 _ σ ((σ.1 261 17).toNat) hz (MX_rf _) (by omega) ⟨rfl, rfl⟩ ⟨rfl, rfl⟩ rfl (by omega) (Nat.lt_succ_self _)
set_option maxRecDepth 20000 in
set_option maxHeartbeats 2000000 in
theorem sX10_must {l : Launch} {w : zW} (hfl : l.stackTraces = false) {σ : zS} {t : Nat → Int} {n : Nat} {S : zP} {A : Prop} {x : Int} (hz : zOK σ) (hP : PN t n S σ) (hx : 1 ≤ x ∧ x ≤ 5) : Sp l w mX10_must 0 0 [zf 10 261, zi (zb A), zi x] σ (zqv (none) (fun τ => zOK τ ∧ MX σ τ ∧ PN t n (@ite zP A (Classical.propDecidable _) S (pF t n S x)) τ ∧ ∀ i, i ≠ 20 → i ≠ 21 → τ.1 261 i = σ.1 261 i)) := by
  obtain ⟨Q, hQ⟩ : ∃ Q : zQ, Q = (zqv (none) (fun τ => zOK τ ∧ MX σ τ ∧ PN t n (@ite zP A (Classical.propDecidable _) S (pF t n S x)) τ ∧ ∀ i, i ≠ 20 → i ≠ 21 → τ.1 261 i = σ.1 261 i)) := ⟨_, rfl⟩
  rw [← hQ]
  refine zx_enter hfl (by decide) rfl 0 rfl ?_
  show zX l w mX10_must (zMQ w 0 0 Q) 0 [zf 10 261, zi (zb A), zi x] [] 0 σ
  have hzx : zr x := by unfold zr; omega
  refine zx_iloadN dX10_must_0 rfl rfl ?_
  refine zx_if_ne (tgt := 11) (by first | exact hz _ _ | assumption | exact zr_b _ | exact zcmp_r _ _ | (unfold zr at *; omega)) dX10_must_1 (by decide) (fun h1 => ?_) (fun h1 => ?_)
  · have h1 := zb_n.mp h1
    refine zx_vret rfl dX10_must_11 ?_
    rw [hQ]
    refine ⟨rfl, ?_⟩
    first
    | exact ⟨hz, MX_rf _, PN_must hP hx.1 (MX_rf _) (fun _ _ _ => rfl) (fun _ _ _ => rfl) (fun a b => by first | exact absurd (by assumption) a | exact absurd b (by assumption)), fun _ _ _ => rfl⟩
    | exact ⟨hz, MX_put (by decide) (MX_put (by decide) (MX_rf _)), PN_must hP hx.1 (MX_put (by decide) (MX_put (by decide) (MX_rf _))) (fun i h1 h2 => (zput_i _ _ _ _ _ h2).trans (zput_i _ _ _ _ _ h1)) (fun a => by rcases a with a | a <;> first | exact absurd a (by assumption) | exact absurd (by assumption) a) (fun _ _ => ⟨(zput_i _ _ _ _ _ (by decide)).trans (zput_s _ _ _ _), zput_s _ _ _ _⟩), fun i h1 h2 => (zput_i _ _ _ _ _ h2).trans (zput_i _ _ _ _ _ h1)⟩
  · have h1 := zb_0.mp h1
    refine zx_aloadN dX10_must_4 rfl rfl ?_
    refine zy_getI fl_RX10_243 rfl dX10_must_5 rfl ?_
    refine zx_if_eq (tgt := 12) (by first | exact hz _ _ | assumption | exact zr_b _ | exact zcmp_r _ _ | (unfold zr at *; omega)) dX10_must_8 (by decide) (fun h8 => ?_) (fun h8 => ?_)
    · refine zx_aloadN dX10_must_12 rfl rfl ?_
      refine zx_iloadN dX10_must_13 rfl rfl ?_
      refine zx_putI fl_RX10_243 rfl (Or.inl fp_10_20) dX10_must_14 ?_
      refine zx_aloadN dX10_must_17 rfl rfl ?_
      refine zx_aloadN dX10_must_18 rfl rfl ?_
      refine zy_getI (v := σ.1 261 18) fl_RX10_233 rfl dX10_must_19 (zput_i _ _ _ _ _ (by omega)) ?_
      refine zx_putI fl_RX10_246 rfl (Or.inl fp_10_21) dX10_must_22 ?_
      refine zx_vret rfl dX10_must_25 ?_
      rw [hQ]
      refine ⟨rfl, ?_⟩
      first
      | exact ⟨(zOK_put (zOK_put hz (by first | exact hz _ _ | assumption | exact zr_b _ | exact zcmp_r _ _ | (unfold zr at *; omega))) (by first | exact hz _ _ | assumption | exact zr_b _ | exact zcmp_r _ _ | (unfold zr at *; omega))), MX_rf _, PN_must hP hx.1 (MX_rf _) (fun _ _ _ => rfl) (fun _ _ _ => rfl) (fun a b => by first | exact absurd (by assumption) a | exact absurd b (by assumption)), fun _ _ _ => rfl⟩
      | exact ⟨(zOK_put (zOK_put hz (by first | exact hz _ _ | assumption | exact zr_b _ | exact zcmp_r _ _ | (unfold zr at *; omega))) (by first | exact hz _ _ | assumption | exact zr_b _ | exact zcmp_r _ _ | (unfold zr at *; omega))), MX_put (by decide) (MX_put (by decide) (MX_rf _)), PN_must hP hx.1 (MX_put (by decide) (MX_put (by decide) (MX_rf _))) (fun i h1 h2 => (zput_i _ _ _ _ _ h2).trans (zput_i _ _ _ _ _ h1)) (fun a => by rcases a with a | a <;> first | exact absurd a (by assumption) | exact absurd (by assumption) a) (fun _ _ => ⟨(zput_i _ _ _ _ _ (by decide)).trans (zput_s _ _ _ _), zput_s _ _ _ _⟩), fun i h1 h2 => (zput_i _ _ _ _ _ h2).trans (zput_i _ _ _ _ _ h1)⟩
    · refine zx_vret rfl dX10_must_11 ?_
      rw [hQ]
      refine ⟨rfl, ?_⟩
      first
      | exact ⟨hz, MX_rf _, PN_must hP hx.1 (MX_rf _) (fun _ _ _ => rfl) (fun _ _ _ => rfl) (fun a b => by first | exact absurd (by assumption) a | exact absurd b (by assumption)), fun _ _ _ => rfl⟩
      | exact ⟨hz, MX_put (by decide) (MX_put (by decide) (MX_rf _)), PN_must hP hx.1 (MX_put (by decide) (MX_put (by decide) (MX_rf _))) (fun i h1 h2 => (zput_i _ _ _ _ _ h2).trans (zput_i _ _ _ _ _ h1)) (fun a => by rcases a with a | a <;> first | exact absurd a (by assumption) | exact absurd (by assumption) a) (fun _ _ => ⟨(zput_i _ _ _ _ _ (by decide)).trans (zput_s _ _ _ _), zput_s _ _ _ _⟩), fun i h1 h2 => (zput_i _ _ _ _ _ h2).trans (zput_i _ _ _ _ _ h1)⟩
set_option maxRecDepth 20000 in
set_option maxHeartbeats 2000000 in
theorem sX10_must_r {l : Launch} {w : zW} (hfl : l.stackTraces = false) {σ : zS} {A : Prop} {x : Int} (hz : zOK σ) (hx : 1 ≤ x ∧ x ≤ 5) : Sp l w mX10_must 0 0 [zf 10 261, zi (zb A), zi x] σ (zqv (none) (fun τ => zOK τ ∧ MX σ τ ∧ (∀ i, i ≠ 20 → i ≠ 21 → τ.1 261 i = σ.1 261 i) ∧ ((A ∨ ¬ σ.1 261 20 = 0) → τ.1 261 20 = σ.1 261 20 ∧ τ.1 261 21 = σ.1 261 21) ∧ (¬ A → σ.1 261 20 = 0 → τ.1 261 20 = x ∧ τ.1 261 21 = σ.1 261 18))) := by
  obtain ⟨Q, hQ⟩ : ∃ Q : zQ, Q = (zqv (none) (fun τ => zOK τ ∧ MX σ τ ∧ (∀ i, i ≠ 20 → i ≠ 21 → τ.1 261 i = σ.1 261 i) ∧ ((A ∨ ¬ σ.1 261 20 = 0) → τ.1 261 20 = σ.1 261 20 ∧ τ.1 261 21 = σ.1 261 21) ∧ (¬ A → σ.1 261 20 = 0 → τ.1 261 20 = x ∧ τ.1 261 21 = σ.1 261 18))) := ⟨_, rfl⟩
  rw [← hQ]
  refine zx_enter hfl (by decide) rfl 0 rfl ?_
  show zX l w mX10_must (zMQ w 0 0 Q) 0 [zf 10 261, zi (zb A), zi x] [] 0 σ
  have hzx : zr x := by unfold zr; omega
  refine zx_iloadN dX10_must_0 rfl rfl ?_
  refine zx_if_ne (tgt := 11) (by first | exact hz _ _ | assumption | exact zr_b _ | exact zcmp_r _ _ | (unfold zr at *; omega)) dX10_must_1 (by decide) (fun h1 => ?_) (fun h1 => ?_)
  · have h1 := zb_n.mp h1
    refine zx_vret rfl dX10_must_11 ?_
    rw [hQ]
    refine ⟨rfl, ?_⟩
    first
    | exact ⟨hz, MX_rf _, fun _ _ _ => rfl, fun _ => ⟨rfl, rfl⟩, fun a b => by first | exact absurd (by assumption) a | exact absurd b (by assumption)⟩
    | exact ⟨hz, MX_put (by decide) (MX_put (by decide) (MX_rf _)), fun i h1 h2 => (zput_i _ _ _ _ _ h2).trans (zput_i _ _ _ _ _ h1), fun a => by rcases a with a | a <;> first | exact absurd a (by assumption) | exact absurd (by assumption) a, fun _ _ => ⟨(zput_i _ _ _ _ _ (by decide)).trans (zput_s _ _ _ _), zput_s _ _ _ _⟩⟩
  · have h1 := zb_0.mp h1
    refine zx_aloadN dX10_must_4 rfl rfl ?_
    refine zy_getI fl_RX10_243 rfl dX10_must_5 rfl ?_
    refine zx_if_eq (tgt := 12) (by first | exact hz _ _ | assumption | exact zr_b _ | exact zcmp_r _ _ | (unfold zr at *; omega)) dX10_must_8 (by decide) (fun h8 => ?_) (fun h8 => ?_)
    · refine zx_aloadN dX10_must_12 rfl rfl ?_
      refine zx_iloadN dX10_must_13 rfl rfl ?_
      refine zx_putI fl_RX10_243 rfl (Or.inl fp_10_20) dX10_must_14 ?_
      refine zx_aloadN dX10_must_17 rfl rfl ?_
      refine zx_aloadN dX10_must_18 rfl rfl ?_
      refine zy_getI (v := σ.1 261 18) fl_RX10_233 rfl dX10_must_19 (zput_i _ _ _ _ _ (by omega)) ?_
      refine zx_putI fl_RX10_246 rfl (Or.inl fp_10_21) dX10_must_22 ?_
      refine zx_vret rfl dX10_must_25 ?_
      rw [hQ]
      refine ⟨rfl, ?_⟩
      first
      | exact ⟨(zOK_put (zOK_put hz (by first | exact hz _ _ | assumption | exact zr_b _ | exact zcmp_r _ _ | (unfold zr at *; omega))) (by first | exact hz _ _ | assumption | exact zr_b _ | exact zcmp_r _ _ | (unfold zr at *; omega))), MX_rf _, fun _ _ _ => rfl, fun _ => ⟨rfl, rfl⟩, fun a b => by first | exact absurd (by assumption) a | exact absurd b (by assumption)⟩
      | exact ⟨(zOK_put (zOK_put hz (by first | exact hz _ _ | assumption | exact zr_b _ | exact zcmp_r _ _ | (unfold zr at *; omega))) (by first | exact hz _ _ | assumption | exact zr_b _ | exact zcmp_r _ _ | (unfold zr at *; omega))), MX_put (by decide) (MX_put (by decide) (MX_rf _)), fun i h1 h2 => (zput_i _ _ _ _ _ h2).trans (zput_i _ _ _ _ _ h1), fun a => by rcases a with a | a <;> first | exact absurd a (by assumption) | exact absurd (by assumption) a, fun _ _ => ⟨(zput_i _ _ _ _ _ (by decide)).trans (zput_s _ _ _ _), zput_s _ _ _ _⟩⟩
    · refine zx_vret rfl dX10_must_11 ?_
      rw [hQ]
      refine ⟨rfl, ?_⟩
      first
      | exact ⟨hz, MX_rf _, fun _ _ _ => rfl, fun _ => ⟨rfl, rfl⟩, fun a b => by first | exact absurd (by assumption) a | exact absurd b (by assumption)⟩
      | exact ⟨hz, MX_put (by decide) (MX_put (by decide) (MX_rf _)), fun i h1 h2 => (zput_i _ _ _ _ _ h2).trans (zput_i _ _ _ _ _ h1), fun a => by rcases a with a | a <;> first | exact absurd a (by assumption) | exact absurd (by assumption) a, fun _ _ => ⟨(zput_i _ _ _ _ _ (by decide)).trans (zput_s _ _ _ _), zput_s _ _ _ _⟩⟩

