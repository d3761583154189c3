abbrev mX10_markLine : zM := (yX10_markLine, cX10_markLine, 3, none, [])
theorem okX10_markLine : zMok mX10_markLine 0 := ⟨by decide, by decide, by decide +kernel⟩
theorem dX10_markLine_0 : decode cX10_markLine 0 = .ok (.aload_n 0, 1) := by decide +kernel
theorem dX10_markLine_1 : decode cX10_markLine 1 = .ok (.ldc_w 303, 3) := by decide +kernel
theorem dX10_markLine_4 : decode cX10_markLine 4 = .ok (.aload_n 0, 1) := by decide +kernel
theorem dX10_markLine_5 : decode cX10_markLine 5 = .ok (.getfield 7, 3) := by decide +kernel
theorem dX10_markLine_8 : decode cX10_markLine 8 = .ok (.iconst 1, 1) := by decide +kernel
theorem dX10_markLine_9 : decode cX10_markLine 9 = .ok (.iaload, 1) := by decide +kernel
theorem dX10_markLine_10 : decode cX10_markLine 10 = .ok (.bipush 8, 2) := by decide +kernel
theorem dX10_markLine_12 : decode cX10_markLine 12 = .ok (.invokevirtual 287, 3) := by decide +kernel
theorem cw_RX10_287 : zCwV RX10 287 mX10_starts := zall [1547, 1549, 28, 128, 1550] (by decide +kernel) (by decide +kernel)
theorem dX10_markLine_15 : decode cX10_markLine 15 = .ok (.ifCond .ne 4, 3) := by decide +kernel
theorem dX10_markLine_19 : decode cX10_markLine 19 = .ok (.aload_n 0, 1) := by decide +kernel
theorem dX10_markLine_20 : decode cX10_markLine 20 = .ok (.invokevirtual 294, 3) := by decide +kernel
theorem dX10_markLine_23 : decode cX10_markLine 23 = .ok (.istore_n 1, 1) := by decide +kernel
theorem dX10_markLine_24 : decode cX10_markLine 24 = .ok (.aload_n 0, 1) := by decide +kernel
theorem dX10_markLine_25 : decode cX10_markLine 25 = .ok (.iload_n 1, 1) := by decide +kernel
theorem dX10_markLine_26 : decode cX10_markLine 26 = .ok (.sipush 1999, 3) := by decide +kernel
theorem dX10_markLine_29 : decode cX10_markLine 29 = .ok (.invokevirtual 282, 3) := by decide +kernel
theorem dX10_markLine_32 : decode cX10_markLine 32 = .ok (.istore_n 2, 1) := by decide +kernel
theorem dX10_markLine_33 : decode cX10_markLine 33 = .ok (.aload_n 0, 1) := by decide +kernel
theorem dX10_markLine_34 : decode cX10_markLine 34 = .ok (.invokevirtual 297, 3) := by decide +kernel
theorem dX10_markLine_37 : decode cX10_markLine 37 = .ok (.aload_n 0, 1) := by decide +kernel
theorem dX10_markLine_38 : decode cX10_markLine 38 = .ok (.getfield 243, 3) := by decide +kernel
theorem dX10_markLine_41 : decode cX10_markLine 41 = .ok (.ifCond .eq 4, 3) := by decide +kernel
theorem dX10_markLine_45 : decode cX10_markLine 45 = .ok (.aload_n 0, 1) := by decide +kernel
theorem dX10_markLine_46 : decode cX10_markLine 46 = .ok (.getfield 7, 3) := by decide +kernel
theorem dX10_markLine_49 : decode cX10_markLine 49 = .ok (.bipush 100, 2) := by decide +kernel
theorem dX10_markLine_51 : decode cX10_markLine 51 = .ok (.iconst 2, 1) := by decide +kernel
theorem dX10_markLine_52 : decode cX10_markLine 52 = .ok (.aload_n 0, 1) := by decide +kernel
theorem dX10_markLine_53 : decode cX10_markLine 53 = .ok (.getfield 7, 3) := by decide +kernel
theorem dX10_markLine_56 : decode cX10_markLine 56 = .ok (.iconst 1, 1) := by decide +kernel
theorem dX10_markLine_57 : decode cX10_markLine 57 = .ok (.iaload, 1) := by decide +kernel
theorem dX10_markLine_58 : decode cX10_markLine 58 = .ok (.imul, 1) := by decide +kernel
theorem dX10_markLine_59 : decode cX10_markLine 59 = .ok (.iadd, 1) := by decide +kernel
theorem dX10_markLine_60 : decode cX10_markLine 60 = .ok (.iload_n 1, 1) := by decide +kernel
theorem dX10_markLine_61 : decode cX10_markLine 61 = .ok (.iastore, 1) := by decide +kernel
theorem dX10_markLine_62 : decode cX10_markLine 62 = .ok (.aload_n 0, 1) := by decide +kernel
theorem dX10_markLine_63 : decode cX10_markLine 63 = .ok (.getfield 7, 3) := by decide +kernel
theorem dX10_markLine_66 : decode cX10_markLine 66 = .ok (.bipush 100, 2) := by decide +kernel
theorem dX10_markLine_68 : decode cX10_markLine 68 = .ok (.iconst 2, 1) := by decide +kernel
theorem dX10_markLine_69 : decode cX10_markLine 69 = .ok (.aload_n 0, 1) := by decide +kernel
theorem dX10_markLine_70 : decode cX10_markLine 70 = .ok (.getfield 7, 3) := by decide +kernel
theorem dX10_markLine_73 : decode cX10_markLine 73 = .ok (.iconst 1, 1) := by decide +kernel
theorem dX10_markLine_74 : decode cX10_markLine 74 = .ok (.iaload, 1) := by decide +kernel
theorem dX10_markLine_75 : decode cX10_markLine 75 = .ok (.imul, 1) := by decide +kernel
theorem dX10_markLine_76 : decode cX10_markLine 76 = .ok (.iadd, 1) := by decide +kernel
theorem dX10_markLine_77 : decode cX10_markLine 77 = .ok (.iconst 1, 1) := by decide +kernel
theorem dX10_markLine_78 : decode cX10_markLine 78 = .ok (.iadd, 1) := by decide +kernel
theorem dX10_markLine_79 : decode cX10_markLine 79 = .ok (.iload_n 2, 1) := by decide +kernel
theorem dX10_markLine_80 : decode cX10_markLine 80 = .ok (.iastore, 1) := by decide +kernel
theorem dX10_markLine_81 : decode cX10_markLine 81 = .ok (.aload_n 0, 1) := by decide +kernel
theorem dX10_markLine_82 : decode cX10_markLine 82 = .ok (.getfield 7, 3) := by decide +kernel
theorem dX10_markLine_85 : decode cX10_markLine 85 = .ok (.iconst 1, 1) := by decide +kernel
theorem dX10_markLine_86 : decode cX10_markLine 86 = .ok (.dup2, 1) := by decide +kernel
theorem dX10_markLine_87 : decode cX10_markLine 87 = .ok (.iaload, 1) := by decide +kernel
theorem dX10_markLine_88 : decode cX10_markLine 88 = .ok (.iconst 1, 1) := by decide +kernel
theorem dX10_markLine_89 : decode cX10_markLine 89 = .ok (.iadd, 1) := by decide +kernel
theorem dX10_markLine_90 : decode cX10_markLine 90 = .ok (.iastore, 1) := by decide +kernel
theorem dX10_markLine_91 : decode cX10_markLine 91 = .ok (.return_, 1) := by decide +kernel
theorem dX10_markLine_44 : decode cX10_markLine 44 = .ok (.return_, 1) := by decide +kernel
theorem dX10_markLine_18 : decode cX10_markLine 18 = .ok (.return_, 1) := by decide +kernel
/-! lines of a configuration on the row -/
theorem nmOK_e {D D' : zBk} {r r' : Nat → Int} {p : Nat} (h : nmOK D r p) (e : ∀ j, j ≤ 6 → r' (4 + 12 * p + j) = r (4 + 12 * p + j)) (d : D' 2 p = D 2 p) : nmOK D' r' p := by
  obtain ⟨n1, n2, n3⟩ := h
  have e0 : r' (4 + 12 * p) = r (4 + 12 * p) := e 0 (by omega)
  have ek : ∀ k : Nat, (k : Int) < r (4 + 12 * p) → r' (4 + 12 * p + 1 + k) = r (4 + 12 * p + 1 + k) := fun k hk => by
    have := e (1 + k) (by omega)
    rw [show 4 + 12 * p + (1 + k) = 4 + 12 * p + 1 + k by omega] at this
    exact this
  refine ⟨by rw [e0]; exact n1, fun k hk => ?_, ?_⟩
  · rw [e0] at hk
    rw [ek k hk]; exact n2 k hk
  · rw [d, n3, e0]
    exact pkF_cg (fun i hi => (ek i (by omega)).symm)
theorem Rel_adM {D : zBk} {r r' : Nat → Int} {a b : Int} (w : WF D) (h : Rel D r) (hM : D 1 7 < 8) (e : ∀ i, r' i = if i = 1 then D 1 7 + 1 else if i = 100 + 2 * (D 1 7).toNat + 1 then b else if i = 100 + 2 * (D 1 7).toNat then a else r i) : Rel (adM D a b) r' := by
  have hn := w.1
  unfold WFn at hn
  obtain ⟨a1, a2, a3, a4, a5⟩ := h
  have g : ∀ o i, o ≠ 1 → o ≠ 8 → o ≠ 9 → adM D a b o i = D o i := fun o i x y z => by unfold adM; rw [if_neg (by omega), if_neg (by omega)]
  have g0 : adM D a b 1 7 = D 1 7 + 1 := if_pos ⟨rfl, rfl⟩
  have g1 : ∀ i, i ≠ 7 → adM D a b 1 i = D 1 i := fun i h => by unfold adM; rw [if_neg (by omega), if_neg (by omega)]
  have k : ∀ i, i ≠ 1 → i ≠ 100 + 2 * (D 1 7).toNat + 1 → i ≠ 100 + 2 * (D 1 7).toNat → r' i = r i := fun i x y z => by rw [e, if_neg x, if_neg y, if_neg z]
  refine ⟨⟨?_, ?_, ?_, ?_⟩, fun p hp => ⟨?_, fun o h1 h2 => ?_⟩, fun q hq => ?_, fun q hq => ?_, fun c hc o ho => ?_⟩
  · rw [k 0 (by omega) (by omega) (by omega), g1 0 (by decide)]; exact a1.1
  · rw [e, if_pos rfl, g0]
  · rw [k 2 (by omega) (by omega) (by omega), g1 10 (by decide)]; exact a1.2.2.1
  · rw [k 3 (by omega) (by omega) (by omega), g 12 0 (by decide) (by decide) (by decide)]; exact a1.2.2.2
  · rw [g1 0 (by decide)] at hp
    exact nmOK_e (a2 p hp).1 (fun j hj => k _ (by omega) (by omega) (by omega)) (g 2 p (by decide) (by decide) (by decide))
  · rw [g1 0 (by decide)] at hp
    rw [k _ (by omega) (by omega) (by omega), g (o - 4) p (by omega) (by omega) (by omega)]; exact (a2 p hp).2 o h1 h2
  · rw [g0] at hq
    by_cases c : (q : Int) = D 1 7
    · have e8 : adM D a b 8 q = a := by unfold adM; rw [if_neg (by omega), if_pos ⟨c, by omega⟩]; rfl
      have e9 : adM D a b 9 q = b := by unfold adM; rw [if_neg (by omega), if_pos ⟨c, by omega⟩]; rfl
      rw [e8, e9, e, e, if_neg (by omega), if_neg (by omega), if_pos (by omega), if_neg (by omega), if_pos (by omega)]
      exact ⟨rfl, rfl⟩
    · have e' : ∀ o, 2 ≤ o → adM D a b o q = D o q := fun o ho => by unfold adM; rw [if_neg (by omega), if_neg (fun z => c z.1)]
      rw [e' 8 (by omega), e' 9 (by omega), k _ (by omega) (by omega) (by omega), k _ (by omega) (by omega) (by omega)]; exact a3 q (by omega)
  · rw [g1 10 (by decide)] at hq
    rw [g 10 q (by decide) (by decide) (by decide), g 11 q (by decide) (by decide) (by decide), k _ (by omega) (by omega) (by omega), k _ (by omega) (by omega) (by omega)]; exact a4 q hq
  · rw [g 12 0 (by decide) (by decide) (by decide)] at hc
    rw [k _ (by omega) (by omega) (by omega), g (13 + o) c (by omega) (by omega) (by omega)]; exact a5 c hc o ho
theorem Rel_adE {D : zBk} {r r' : Nat → Int} {a b : Int} (w : WF D) (h : Rel D r) (hM : D 1 10 < 12) (e : ∀ i, r' i = if i = 2 then D 1 10 + 1 else if i = 116 + 2 * (D 1 10).toNat + 1 then b else if i = 116 + 2 * (D 1 10).toNat then a else r i) : Rel (adE D a b) r' := by
  have hn := w.1
  unfold WFn at hn
  obtain ⟨a1, a2, a3, a4, a5⟩ := h
  have g : ∀ o i, o ≠ 1 → o ≠ 10 → o ≠ 11 → adE D a b o i = D o i := fun o i x y z => by unfold adE; rw [if_neg (by omega), if_neg (by omega)]
  have g0 : adE D a b 1 10 = D 1 10 + 1 := if_pos ⟨rfl, rfl⟩
  have g1 : ∀ i, i ≠ 10 → adE D a b 1 i = D 1 i := fun i h => by unfold adE; rw [if_neg (by omega), if_neg (by omega)]
  have k : ∀ i, i ≠ 2 → i ≠ 116 + 2 * (D 1 10).toNat + 1 → i ≠ 116 + 2 * (D 1 10).toNat → r' i = r i := fun i x y z => by rw [e, if_neg x, if_neg y, if_neg z]
  refine ⟨⟨?_, ?_, ?_, ?_⟩, fun p hp => ⟨?_, fun o h1 h2 => ?_⟩, fun q hq => ?_, fun q hq => ?_, fun c hc o ho => ?_⟩
  · rw [k 0 (by omega) (by omega) (by omega), g1 0 (by decide)]; exact a1.1
  · rw [k 1 (by omega) (by omega) (by omega), g1 7 (by decide)]; exact a1.2.1
  · rw [e, if_pos rfl, g0]
  · rw [k 3 (by omega) (by omega) (by omega), g 12 0 (by decide) (by decide) (by decide)]; exact a1.2.2.2
  · rw [g1 0 (by decide)] at hp
    exact nmOK_e (a2 p hp).1 (fun j hj => k _ (by omega) (by omega) (by omega)) (g 2 p (by decide) (by decide) (by decide))
  · rw [g1 0 (by decide)] at hp
    rw [k _ (by omega) (by omega) (by omega), g (o - 4) p (by omega) (by omega) (by omega)]; exact (a2 p hp).2 o h1 h2
  · rw [g1 7 (by decide)] at hq
    rw [g 8 q (by decide) (by decide) (by decide), g 9 q (by decide) (by decide) (by decide), k _ (by omega) (by omega) (by omega), k _ (by omega) (by omega) (by omega)]; exact a3 q hq
  · rw [g0] at hq
    by_cases c : (q : Int) = D 1 10
    · have e8 : adE D a b 10 q = a := by unfold adE; rw [if_neg (by omega), if_pos ⟨c, by omega⟩]; rfl
      have e9 : adE D a b 11 q = b := by unfold adE; rw [if_neg (by omega), if_pos ⟨c, by omega⟩]; rfl
      rw [e8, e9, e, e, if_neg (by omega), if_neg (by omega), if_pos (by omega), if_neg (by omega), if_pos (by omega)]
      exact ⟨rfl, rfl⟩
    · have e' : ∀ o, 2 ≤ o → adE D a b o q = D o q := fun o ho => by unfold adE; rw [if_neg (by omega), if_neg (fun z => c z.1)]
      rw [e' 10 (by omega), e' 11 (by omega), k _ (by omega) (by omega) (by omega), k _ (by omega) (by omega) (by omega)]; exact a4 q (by omega)
  · rw [g 12 0 (by decide) (by decide) (by decide)] at hc
    rw [k _ (by omega) (by omega) (by omega), g (13 + o) c (by omega) (by omega) (by omega)]; exact a5 c hc o ho
theorem pW_s {t : Nat → Int} {n j : Nat} {S : zP} {A : Prop} (h : (pW t n S j A).2.1 = 0) : S.2.1 = 0 ∧ isW t n S.1 j ∧ A ∧ pW t n S j A = pN t n S := by
  unfold pW at h ⊢
  by_cases b : isW t n S.1 j
  · rw [if_pos b] at h ⊢
    by_cases a : A
    · rw [if_pos a] at h ⊢
      by_cases z : S.2.1 = 0
      · rw [if_pos z]; exact ⟨z, b, a, rfl⟩
      · rw [if_neg z] at h; exact absurd h z
    · rw [if_neg a] at h; exact absurd h (pF_nz (by decide))
  · rw [if_neg b] at h; exact absurd h (pF_nz (by decide))
noncomputable def lS (t : Nat → Int) (n : Nat) (k : Int) (j : Nat) (A : Prop) (D : zBk) (S : zP) : zP := if (pW t n S j A).2.1 = 0 then sStS t n k D (pN t n S) else pW t n S j A
noncomputable def lB (t : Nat → Int) (n : Nat) (k : Int) (j : Nat) (A : Prop) (D : zBk) (S : zP) : zBk := if (pW t n S j A).2.1 = 0 then sBk t n k D (pN t n S) else D
def ML (σ τ : zS) : Prop := mfr σ τ (fun k => k = 262) (fun i => i = 14 ∨ (17 ≤ i ∧ i ≤ 21))
theorem ML_x {σ τ υ : zS} (h : ML σ τ) (h' : MX τ υ) : ML σ υ := mfr_tr h h' (fun k q => q.elim id (fun e => absurd e id)) (fun _ q => q.elim id Or.inr)
theorem ML_p {σ τ : zS} {i : Nat} {v : Int} (h : ML σ τ) : ML σ (zput τ 262 i v) := mfr_put h rfl (by decide)
theorem ML_rf (σ : zS) : ML σ σ := mfr_rf _ _ _
theorem ML_tr {σ τ υ : zS} (h : ML σ τ) (h' : ML τ υ) : ML σ υ := mfr_tr h h' (fun _ q => q.elim id id) (fun _ q => q.elim id id)
theorem PM_r {t : Nat → Int} {n : Nat} {S : zP} {σ τ : zS} (h : PM t n S σ) (m : mfr σ τ (fun k => k = 262) (fun i => i = 14)) : PM t n S τ := by
  obtain ⟨p1, p2⟩ := h
  have e : ∀ j, j ≠ 14 → τ.1 261 j = σ.1 261 j := fun j hj => m.2.1 j hj
  refine ⟨TM_e (fun j => m.1 269 (by decide) (by decide) j) p1, ?_⟩
  rw [e 16 (by decide), e 17 (by decide), e 18 (by decide), e 19 (by decide), e 20 (by decide), e 21 (by decide)]; exact p2

set_option maxRecDepth 20000 in
set_option maxHeartbeats 2000000 in
theorem sX10_markLine {l : Launch} {w : zW} (hfl : l.stackTraces = false) {σ : zS} {D : zBk} {t : Nat → Int} {n : Nat} {S : zP}  (hz : zOK σ) (hW : WF D) (hR : Rel D (σ.1 262)) (hU : PM t n S σ) : Sp l w mX10_markLine 6 0 [zf 10 261] σ (zqv (none) (fun τ => zOK τ ∧ ML σ τ ∧ PM t n (lS t n 3 10 (D 1 7 < 8) D S) τ ∧ Rel (lB t n 3 10 (D 1 7 < 8) D S) (τ.1 262))) := by
  obtain ⟨Q, hQ⟩ : ∃ Q : zQ, Q = (zqv (none) (fun τ => zOK τ ∧ ML σ τ ∧ PM t n (lS t n 3 10 (D 1 7 < 8) D S) τ ∧ Rel (lB t n 3 10 (D 1 7 < 8) D S) (τ.1 262))) := ⟨_, rfl⟩
  rw [← hQ]
  refine zx_enter hfl (by decide) rfl 2 rfl ?_
  show zX l w mX10_markLine (zMQ w 6 0 Q) 0 [zf 10 261, zu, zu] [] 0 σ
  have hP : 0 ≤ D 1 0 ∧ D 1 0 ≤ 8 := hW.1.1
  have hM : 0 ≤ D 1 7 ∧ D 1 7 ≤ 8 := hW.1.2.1
  have hE : 0 ≤ D 1 10 ∧ D 1 10 ≤ 12 := hW.1.2.2.1
  have hK : 0 ≤ D 12 0 ∧ D 12 0 ≤ 40 := hW.1.2.2.2
  have r0 : σ.1 262 0 = D 1 0 := hR.1.1
  have r1 : σ.1 262 1 = D 1 7 := hR.1.2.1
  have r2 : σ.1 262 2 = D 1 10 := hR.1.2.2.1
  have r3 : σ.1 262 3 = D 12 0 := hR.1.2.2.2
  have hM := hW.1.2.1
  refine zx_aloadN dX10_markLine_0 rfl rfl ?_
  refine zx_ldcSw (List.mem_of_getElem? (i := 42) rfl) (by decide) dX10_markLine_1 ?_
  refine zx_aloadN dX10_markLine_4 rfl rfl ?_
  refine zy_getR (q' := 262) fl_RX10_7 rfl dX10_markLine_5 rfl ?_
  refine zx_iconst dX10_markLine_8 ?_
  refine zy_iald (v := σ.1 262 1) rfl (by decide) (by decide) dX10_markLine_9 (by omega) (by omega) rfl ?_
  refine zy_top (b := D 1 7) (hR.1.2.1) ?_
  refine zx_bipush dX10_markLine_10 rfl ?_
  refine zy_cvR [zf 100 10, zi (D 1 7), zi 8] (sX10_starts (j := 10) (a := (D 1 7)) (b := 8) hfl hz hU (by decide) (by first | exact hz _ _ | assumption | exact zr_b _ | exact zcmp_r _ _ | (unfold zr at *; omega)) (by first | exact hz _ _ | assumption | exact zr_b _ | exact zcmp_r _ _ | (unfold zr at *; omega))) dX10_markLine_12 (by decide) rfl cw_RX10_287 okX10_starts rfl (Nat.le_of_ble_eq_true rfl) ⟨Nat.le_of_ble_eq_true rfl, Nat.le_of_ble_eq_true rfl, Nat.le_of_ble_eq_true rfl, Nat.le_of_ble_eq_true rfl⟩ (fun τ12 hr12 => ?_)
  have hz12 : zOK τ12 := hr12.1
  have m0 : ML σ τ12 := ML_x (ML_rf _) hr12.2.1
  have R0 : Rel D (τ12.1 262) := MX_R hr12.2.1 hR
  have p0 := hr12.2.2
  refine zx_if_ne (tgt := 19) (by first | exact hz12 _ _ | assumption | exact zr_b _ | exact zcmp_r _ _ | (unfold zr at *; omega)) dX10_markLine_15 (by decide) (fun h15 => ?_) (fun h15 => ?_)
  · have h15 := zb_n.mp h15
    obtain ⟨z, hw, hA, hpw⟩ := pW_s h15
    have pS : PM t n (pN t n S) τ12 := hpw ▸ p0
    refine zx_aloadN dX10_markLine_19 rfl rfl ?_
    refine zy_cvR [] (sX10_yearHere (S := (pN t n S)) hfl hz12 pS) dX10_markLine_20 (by decide) rfl cw_RX10_294 okX10_yearHere rfl (Nat.le_of_ble_eq_true rfl) ⟨Nat.le_of_ble_eq_true rfl, Nat.le_of_ble_eq_true rfl, Nat.le_of_ble_eq_true rfl, Nat.le_of_ble_eq_true rfl⟩ (fun τ20 hr20 => ?_)
    have hz20 : zOK τ20 := hr20.1
    refine zy_top (b := if (w1 t n (pN t n S)).2.1 = 0 then pV t n ((pN t n S)).1 else 1450) (rfl) ?_
    have p20 : PM t n (w1 t n (pN t n S)) τ20 := hr20.2.2
    have m20 : ML σ τ20 := ML_x m0 hr20.2.1
    have R20 : Rel D (τ20.1 262) := MX_R hr20.2.1 R0
    refine zy_istoreN [zf 10 261, zi (if (w1 t n (pN t n S)).2.1 = 0 then pV t n ((pN t n S)).1 else 1450), zu] dX10_markLine_23 rfl (Nat.le_of_ble_eq_true rfl) (Nat.le_of_ble_eq_true rfl) rfl rfl ?_
    refine zx_aloadN dX10_markLine_24 rfl rfl ?_
    refine zx_iloadN dX10_markLine_25 rfl rfl ?_
    refine zx_sipush dX10_markLine_26 rfl ?_
    have e29 : pNum t n (w1 t n (pN t n S)) (if (w1 t n (pN t n S)).2.1 = 0 then pV t n ((pN t n S)).1 else 1450) 1999 = w2 t n (pN t n S) := by
      unfold w2
      refine pNum_lo (fun q => ?_)
      rw [if_pos q]; exact ⟨rfl, rfl⟩
    have hv20 : zr (if (w1 t n (pN t n S)).2.1 = 0 then pV t n ((pN t n S)).1 else 1450) := by
      split
      · rename_i zz; have := pNum_v (lo := 1450) (hi := 1999) zz; unfold zr; omega
      · unfold zr; omega
    refine zy_cvR [zi (if (w1 t n (pN t n S)).2.1 = 0 then pV t n ((pN t n S)).1 else 1450), zi 1999] (sX10_number (S := (w1 t n (pN t n S))) (a := (if (w1 t n (pN t n S)).2.1 = 0 then pV t n ((pN t n S)).1 else 1450)) (b := 1999) hfl hz20 p20 (by first | exact hz20 _ _ | assumption | exact zr_b _ | exact zcmp_r _ _ | (unfold zr at *; omega)) (by first | exact hz20 _ _ | assumption | exact zr_b _ | exact zcmp_r _ _ | (unfold zr at *; omega))) dX10_markLine_29 (by decide) rfl cw_RX10_282 okX10_number rfl (Nat.le_of_ble_eq_true rfl) ⟨Nat.le_of_ble_eq_true rfl, Nat.le_of_ble_eq_true rfl, Nat.le_of_ble_eq_true rfl, Nat.le_of_ble_eq_true rfl⟩ (fun τ29 hr29 => ?_)
    have hz29 : zOK τ29 := hr29.1
    refine zy_top (b := if (w2 t n (pN t n S)).2.1 = 0 then pV t n (w1 t n (pN t n S)).1 else (if (w1 t n (pN t n S)).2.1 = 0 then pV t n ((pN t n S)).1 else 1450)) (by rw [e29]) ?_
    have p29 : PM t n (w2 t n (pN t n S)) τ29 := by rw [← e29]; exact hr29.2.2
    have m29 : ML σ τ29 := ML_x m20 hr29.2.1
    have R29 : Rel D (τ29.1 262) := MX_R hr29.2.1 R20
    have hv29 : zr (if (w2 t n (pN t n S)).2.1 = 0 then pV t n (w1 t n (pN t n S)).1 else (if (w1 t n (pN t n S)).2.1 = 0 then pV t n ((pN t n S)).1 else 1450)) := by
      split
      · rename_i zz; have := pNum_v (lo := pV t n ((pN t n S)).1) (hi := 1999) zz; unfold zr; omega
      · exact hv20
    refine zy_istoreN [zf 10 261, zi (if (w1 t n (pN t n S)).2.1 = 0 then pV t n ((pN t n S)).1 else 1450), zi (if (w2 t n (pN t n S)).2.1 = 0 then pV t n (w1 t n (pN t n S)).1 else (if (w1 t n (pN t n S)).2.1 = 0 then pV t n ((pN t n S)).1 else 1450))] dX10_markLine_32 rfl (Nat.le_of_ble_eq_true rfl) (Nat.le_of_ble_eq_true rfl) rfl rfl ?_
    refine zx_aloadN dX10_markLine_33 rfl rfl ?_
    refine zy_cvvR [] (sX10_semicolon (S := w2 t n (pN t n S)) hfl hz29 p29) dX10_markLine_34 (by decide) rfl cw_RX10_297 okX10_semicolon rfl (Nat.le_of_ble_eq_true rfl) ⟨Nat.le_of_ble_eq_true rfl, Nat.le_of_ble_eq_true rfl, Nat.le_of_ble_eq_true rfl, Nat.le_of_ble_eq_true rfl⟩ (fun τ34 hr34 => ?_)
    have hz34 : zOK τ34 := hr34.1
    have p34 : PM t n (w3 t n (pN t n S)) τ34 := hr34.2.2
    have m34 : ML σ τ34 := ML_x m29 hr34.2.1
    have R34 : Rel D (τ34.1 262) := MX_R hr34.2.1 R29
    refine zx_aloadN dX10_markLine_37 rfl rfl ?_
    refine zy_getI fl_RX10_243 rfl dX10_markLine_38 rfl ?_
    refine zx_if_eq (tgt := 45) (by first | exact hz34 _ _ | assumption | exact zr_b _ | exact zcmp_r _ _ | (unfold zr at *; omega)) dX10_markLine_41 (by decide) (fun h41 => ?_) (fun h41 => ?_)
    · have z3 : (w3 t n (pN t n S)).2.1 = 0 := p34.2.2.2.1.1.symm.trans h41
      have s2 := pNum_s (t := t) (n := n) (S := w1 t n (pN t n S)) (lo := pV t n ((pN t n S)).1) (hi := 1999) (pSem_s z3).1
      have s1 := pNum_s (t := t) (n := n) (S := (pN t n S)) (lo := 1450) (hi := 1999) s2.1
      have ev20 : (if (w1 t n (pN t n S)).2.1 = 0 then pV t n ((pN t n S)).1 else 1450) = pV t n ((pN t n S)).1 := if_pos s2.1
      have ev29 : (if (w2 t n (pN t n S)).2.1 = 0 then pV t n (w1 t n (pN t n S)).1 else (if (w1 t n (pN t n S)).2.1 = 0 then pV t n ((pN t n S)).1 else 1450)) = pV t n (w1 t n (pN t n S)).1 := if_pos (pSem_s z3).1
      have r1 : τ34.1 262 1 = D 1 7 := R34.1.2.1
      refine zx_aloadN dX10_markLine_45 rfl rfl ?_
      refine zy_getR (q' := 262) fl_RX10_7 rfl dX10_markLine_46 rfl ?_
      refine zx_bipush dX10_markLine_49 rfl ?_
      refine zx_iconst dX10_markLine_51 ?_
      refine zx_aloadN dX10_markLine_52 rfl rfl ?_
      refine zy_getR (q' := 262) fl_RX10_7 rfl dX10_markLine_53 rfl ?_
      refine zx_iconst dX10_markLine_56 ?_
      refine zy_iald (v := τ34.1 262 1) rfl (by decide) (by decide) dX10_markLine_57 (by omega) (by omega) rfl ?_
      refine zx_imul dX10_markLine_58 ?_
      refine zx_iadd dX10_markLine_59 ?_
      refine zy_top (b := ((100 + 2 * (D 1 7).toNat : Nat) : Int)) (by omega) ?_
      refine zx_iloadN dX10_markLine_60 rfl rfl ?_
      refine zy_top (b := pV t n ((pN t n S)).1) (ev20) ?_
      refine zy_iast (i := 100 + 2 * (D 1 7).toNat) rfl (by decide) (by decide) dX10_markLine_61 (by omega) (by omega) rfl ?_
      refine zx_aloadN dX10_markLine_62 rfl rfl ?_
      refine zy_getR (q' := 262) fl_RX10_7 rfl dX10_markLine_63 rfl ?_
      refine zx_bipush dX10_markLine_66 rfl ?_
      refine zx_iconst dX10_markLine_68 ?_
      refine zx_aloadN dX10_markLine_69 rfl rfl ?_
      refine zy_getR (q' := 262) fl_RX10_7 rfl dX10_markLine_70 rfl ?_
      refine zx_iconst dX10_markLine_73 ?_
      refine zy_iald (v := τ34.1 262 1) rfl (by decide) (by decide) dX10_markLine_74 (by omega) (by omega) (zput_i _ _ _ _ _ (by omega)) ?_
      refine zx_imul dX10_markLine_75 ?_
      refine zx_iadd dX10_markLine_76 ?_
      refine zx_iconst dX10_markLine_77 ?_
      refine zx_iadd dX10_markLine_78 ?_
      refine zy_top (b := ((100 + 2 * (D 1 7).toNat + 1 : Nat) : Int)) (by omega) ?_
      refine zx_iloadN dX10_markLine_79 rfl rfl ?_
      refine zy_top (b := pV t n (w1 t n (pN t n S)).1) (ev29) ?_
      refine zy_iast (i := 100 + 2 * (D 1 7).toNat + 1) rfl (by decide) (by decide) dX10_markLine_80 (by omega) (by omega) rfl ?_
      refine zx_aloadN dX10_markLine_81 rfl rfl ?_
      refine zy_getR (q' := 262) fl_RX10_7 rfl dX10_markLine_82 rfl ?_
      refine zx_iconst dX10_markLine_85 ?_
      refine zx_dup2 rfl rfl dX10_markLine_86 ?_
      refine zy_iald (v := τ34.1 262 1) rfl (by decide) (by decide) dX10_markLine_87 (by omega) (by omega) ((zput_i _ _ _ _ _ (by omega)).trans (zput_i _ _ _ _ _ (by omega))) ?_
      refine zy_top (b := D 1 7) (by first | exact r1 | exact (zput_i _ _ _ _ _ (by omega)).trans r1 | exact (zput_i _ _ _ _ _ (by omega)).trans ((zput_i _ _ _ _ _ (by omega)).trans r1)) ?_
      refine zx_iconst dX10_markLine_88 ?_
      refine zx_iadd dX10_markLine_89 ?_
      refine zy_iast (i := 1) rfl (by decide) (by decide) dX10_markLine_90 (by omega) (by omega) rfl ?_
      refine zx_vret rfl dX10_markLine_91 ?_
      rw [hQ]
      refine ⟨rfl, ?_⟩
      first
      | (have hn : ¬ (pW t n S 10 (D 1 7 < 8)).2.1 = 0 := h15
         unfold lS lB
         rw [if_neg hn, if_neg hn]
         exact ⟨(zOK_put (zOK_put (zOK_put hz34 (by first | exact hz34 _ _ | assumption | exact zr_b _ | exact zcmp_r _ _ | (unfold zr at *; omega))) (by first | exact hz34 _ _ | assumption | exact zr_b _ | exact zcmp_r _ _ | (unfold zr at *; omega))) (by first | exact hz34 _ _ | assumption | exact zr_b _ | exact zcmp_r _ _ | (unfold zr at *; omega))), m0, p0, R0⟩)
      | (have z3 : ¬ (w3 t n (pN t n S)).2.1 = 0 := fun q => h41 (p34.2.2.2.1.1.trans q)
         have e1 : lS t n 3 10 (D 1 7 < 8) D S = w3 t n (pN t n S) := by unfold lS sStS; rw [if_pos h15, if_neg (by decide), if_neg (by decide), if_neg (by decide), if_pos rfl]
         have e2 : lB t n 3 10 (D 1 7 < 8) D S = D := by
           have e3 : sStS t n 3 D (pN t n S) = w3 t n (pN t n S) := by unfold sStS; rw [if_neg (by decide), if_neg (by decide), if_neg (by decide), if_pos rfl]
           unfold lB sBk; rw [if_pos h15, e3, if_neg z3]
         rw [e1, e2]
         exact ⟨(zOK_put (zOK_put (zOK_put hz34 (by first | exact hz34 _ _ | assumption | exact zr_b _ | exact zcmp_r _ _ | (unfold zr at *; omega))) (by first | exact hz34 _ _ | assumption | exact zr_b _ | exact zcmp_r _ _ | (unfold zr at *; omega))) (by first | exact hz34 _ _ | assumption | exact zr_b _ | exact zcmp_r _ _ | (unfold zr at *; omega))), m34, p34, R34⟩)
      | (have e1 : lS t n 3 10 (D 1 7 < 8) D S = w3 t n (pN t n S) := by unfold lS sStS; rw [if_pos h15, if_neg (by decide), if_neg (by decide), if_neg (by decide), if_pos rfl]
         have e2 : lB t n 3 10 (D 1 7 < 8) D S = adM D (pV t n ((pN t n S)).1) (pV t n (w1 t n (pN t n S)).1) := by
           have e3 : sStS t n 3 D (pN t n S) = w3 t n (pN t n S) := by unfold sStS; rw [if_neg (by decide), if_neg (by decide), if_neg (by decide), if_pos rfl]
           unfold lB sBk; rw [if_pos h15, e3, if_pos z3]; unfold sStB; rw [if_neg (by decide), if_neg (by decide), if_neg (by decide), if_pos rfl]
         rw [e1, e2]
         refine ⟨(zOK_put (zOK_put (zOK_put hz34 (by first | exact hz34 _ _ | assumption | exact zr_b _ | exact zcmp_r _ _ | (unfold zr at *; omega))) (by first | exact hz34 _ _ | assumption | exact zr_b _ | exact zcmp_r _ _ | (unfold zr at *; omega))) (by first | exact hz34 _ _ | assumption | exact zr_b _ | exact zcmp_r _ _ | (unfold zr at *; omega))), ML_p (ML_p (ML_p m34)), PM_r p34 (mfr_put (mfr_put (mfr_put (mfr_rf _ _ _) rfl (by decide)) rfl (by decide)) rfl (by decide)), Rel_adM hW R34 hA (fun i => ?_)⟩
         simp only [zput_e, true_and])
    · refine zx_vret rfl dX10_markLine_44 ?_
      rw [hQ]
      refine ⟨rfl, ?_⟩
      first
      | (have hn : ¬ (pW t n S 10 (D 1 7 < 8)).2.1 = 0 := h15
         unfold lS lB
         rw [if_neg hn, if_neg hn]
         exact ⟨hz34, m0, p0, R0⟩)
      | (have z3 : ¬ (w3 t n (pN t n S)).2.1 = 0 := fun q => h41 (p34.2.2.2.1.1.trans q)
         have e1 : lS t n 3 10 (D 1 7 < 8) D S = w3 t n (pN t n S) := by unfold lS sStS; rw [if_pos h15, if_neg (by decide), if_neg (by decide), if_neg (by decide), if_pos rfl]
         have e2 : lB t n 3 10 (D 1 7 < 8) D S = D := by
           have e3 : sStS t n 3 D (pN t n S) = w3 t n (pN t n S) := by unfold sStS; rw [if_neg (by decide), if_neg (by decide), if_neg (by decide), if_pos rfl]
           unfold lB sBk; rw [if_pos h15, e3, if_neg z3]
         rw [e1, e2]
         exact ⟨hz34, m34, p34, R34⟩)
      | (have e1 : lS t n 3 10 (D 1 7 < 8) D S = w3 t n (pN t n S) := by unfold lS sStS; rw [if_pos h15, if_neg (by decide), if_neg (by decide), if_neg (by decide), if_pos rfl]
         have e2 : lB t n 3 10 (D 1 7 < 8) D S = adM D (pV t n ((pN t n S)).1) (pV t n (w1 t n (pN t n S)).1) := by
           have e3 : sStS t n 3 D (pN t n S) = w3 t n (pN t n S) := by unfold sStS; rw [if_neg (by decide), if_neg (by decide), if_neg (by decide), if_pos rfl]
           unfold lB sBk; rw [if_pos h15, e3, if_pos z3]; unfold sStB; rw [if_neg (by decide), if_neg (by decide), if_neg (by decide), if_pos rfl]
         rw [e1, e2]
         refine ⟨hz34, ML_p (ML_p (ML_p m34)), PM_r p34 (mfr_put (mfr_put (mfr_put (mfr_rf _ _ _) rfl (by decide)) rfl (by decide)) rfl (by decide)), Rel_adM hW R34 hA (fun i => ?_)⟩
         simp only [zput_e, true_and])
  · have h15 := zb_0.mp h15
    refine zx_vret rfl dX10_markLine_18 ?_
    rw [hQ]
    refine ⟨rfl, ?_⟩
    first
    | (have hn : ¬ (pW t n S 10 (D 1 7 < 8)).2.1 = 0 := h15
       unfold lS lB
       rw [if_neg hn, if_neg hn]
       exact ⟨hz12, m0, p0, R0⟩)
    | (have z3 : ¬ (w3 t n (pN t n S)).2.1 = 0 := fun q => h41 (p34.2.2.2.1.1.trans q)
       have e1 : lS t n 3 10 (D 1 7 < 8) D S = w3 t n (pN t n S) := by unfold lS sStS; rw [if_pos h15, if_neg (by decide), if_neg (by decide), if_neg (by decide), if_pos rfl]
       have e2 : lB t n 3 10 (D 1 7 < 8) D S = D := by
         have e3 : sStS t n 3 D (pN t n S) = w3 t n (pN t n S) := by unfold sStS; rw [if_neg (by decide), if_neg (by decide), if_neg (by decide), if_pos rfl]
         unfold lB sBk; rw [if_pos h15, e3, if_neg z3]
       rw [e1, e2]
       exact ⟨hz12, m34, p34, R34⟩)
    | (have e1 : lS t n 3 10 (D 1 7 < 8) D S = w3 t n (pN t n S) := by unfold lS sStS; rw [if_pos h15, if_neg (by decide), if_neg (by decide), if_neg (by decide), if_pos rfl]
       have e2 : lB t n 3 10 (D 1 7 < 8) D S = adM D (pV t n ((pN t n S)).1) (pV t n (w1 t n (pN t n S)).1) := by
         have e3 : sStS t n 3 D (pN t n S) = w3 t n (pN t n S) := by unfold sStS; rw [if_neg (by decide), if_neg (by decide), if_neg (by decide), if_pos rfl]
         unfold lB sBk; rw [if_pos h15, e3, if_pos z3]; unfold sStB; rw [if_neg (by decide), if_neg (by decide), if_neg (by decide), if_pos rfl]
       rw [e1, e2]
       refine ⟨hz12, ML_p (ML_p (ML_p m34)), PM_r p34 (mfr_put (mfr_put (mfr_put (mfr_rf _ _ _) rfl (by decide)) rfl (by decide)) rfl (by decide)), Rel_adM hW R34 hA (fun i => ?_)⟩
       simp only [zput_e, true_and])

