theorem it_X9 : Cond.instantiable RX9 9 ∈ zgood := zmem1 48 (by decide +kernel) rfl
theorem iz_X9 : Cond.initialized RX9 ∈ zgood := zmem1 31 (by decide +kernel) rfl
theorem kl_RL_15 : Cond.classLink RL 15 RX9 ∈ zgood := zmem1 47 (by decide +kernel) rfl
theorem df_X9 : ∀ ty : Nat → FieldType, (∀ k, k < 9 → parseFieldDescriptor (TX9 k).2.2.1 = some (ty k)) → ∀ j, j < 9 → defaultValue (ty j) = vp_V [Value.null, Value.null, Value.null, Value.null, Value.null, Value.int 0, Value.null, Value.null, Value.null] j := fun ty hty j hj => by
  rw [Option.some.inj ((hty j hj).symm.trans (tyX9_ok j hj))]
  exact (by decide +kernel : ∀ j, j < 9 → defaultValue (tyX9 j) = vp_V [Value.null, Value.null, Value.null, Value.null, Value.null, Value.int 0, Value.null, Value.null, Value.null] j) j hj
theorem ci_RL_265 : ∀ x ∈ ([.methodLink RL 265 yX9_init, .instanceMethod yX9_init, .initialized yX9_init.cls, .code yX9_init cX9_init 1 none] : List Cond), x ∈ zgood := zall [49, 50, 31, 51] (by decide +kernel) (by decide +kernel)
theorem dL_law_348 : decode cL_law 348 = .ok (.new 15, 3) := by decide +kernel
theorem dL_law_351 : decode cL_law 351 = .ok (.dup, 1) := by decide +kernel
theorem dL_law_352 : decode cL_law 352 = .ok (.invokespecial 265, 3) := by decide +kernel
theorem dL_law_355 : decode cL_law 355 = .ok (.astore 4, 2) := by decide +kernel
theorem dL_law_357 : decode cL_law 357 = .ok (.aload 4, 2) := by decide +kernel
theorem dL_law_359 : decode cL_law 359 = .ok (.aload_n 3, 1) := by decide +kernel
theorem dL_law_360 : decode cL_law 360 = .ok (.invokevirtual 266, 3) := by decide +kernel
theorem cw_RL_266 : zCwV RL 266 mJ4_toString_0e30d := zall [1378, 1379, 1380, 21, 1381] (by decide +kernel) (by decide +kernel)
theorem dL_law_363 : decode cL_law 363 = .ok (.invokestatic 270, 3) := by decide +kernel
theorem cw_RL_270 : zCwS RL 270 mL_load := zall [679, 680, 18, 681] (by decide +kernel) (by decide +kernel)
theorem dL_law_366 : decode cL_law 366 = .ok (.ifCond .ne 17, 3) := by decide +kernel

set_option maxRecDepth 20000 in
set_option maxHeartbeats 4000000 in
theorem lB {l : Launch} {w : zW} (hfl : l.stackTraces = false) {hh : List (Nat × Nat × Nat × Nat)} {Z : List Frame → Array Value → State → State → Prop} (hSL : zSL w ≤ 260) {P Q : Nat} (hP : 1 ≤ P ∧ P ≤ 4) (hQ : Q ≤ 2) (K : ∀ (v : zW) (τ : zS), zSL v ≤ 260 → zB w ≤ zB v → zOK τ → HN τ → HBA τ → LB ((Q : Nat) : Int) (bK τ) → zX l v (mL_law hh) (room_1, Z, 1000, 400000) 369 [zf 101 0, zi ((P : Nat) : Int), zi ((Q : Nat) : Int), zu, zf 9 0, zu, zu, zu, zu, zu, zu, zu, zu, zu] [] 0 τ) : ∀ (E : List va_E) (b mm : Nat) (L : List Int), BS w E 0 b mm L → mm ≤ 1300 → E.length ≤ 98 → L.length ≤ 232 → LT L → GL 3 P Q L → zK l w (mL_law hh) (room_1, Z, 0, 0) false 348 [zV0 (zSb w), zi ((P : Nat) : Int), zi ((Q : Nat) : Int), zV0 (zB w + 0), zu, zu, zu, zu, zu, zu, zu, zu, zu, zu] [] E.length (2000 * 98) E := by
  intro E b mm L hB hm hE hl hT hG
  have hne : E = [] → E.length = 0 := fun q => by rw [q]; rfl
  refine zk_new (t := 9) (N := 9) (Cn := RX9) (T := TX9) (fs := [Value.null, Value.null, Value.null, Value.null, Value.null, Value.int 0, Value.null, Value.null, Value.null]) (a := zB w + E.length) rfl hne rfl kl_RL_15 it_X9 iz_X9 df_X9 (by show _ ≤ 600086; omega) (by show _ ≤ 7301442; omega) dL_law_348 ?_
  refine kk_dup rfl dL_law_351 ?_
  refine kk_ctorX (con_X9 (w := k0 w E) hfl) rfl dL_law_352 ci_RL_265 okX9_init rfl (Nat.le_of_ble_eq_true rfl) ⟨Nat.le_of_ble_eq_true rfl, Nat.le_of_ble_eq_true rfl, by show _ ≤ 600086; omega, by show _ ≤ 7301442; omega⟩ (fun x => by rw [eL_len]; decide +kernel) (fun σ hC => ?_)
  rw [eL_kC]
  have el : (E ++ kC (kV w E) σ).length = E.length + 261 := by rw [List.length_append, kC_len]; rfl
  have hB2 : BS w (E ++ kC (kV w E) σ) 0 b mm L := BS_more hB
  refine kk_astore dL_law_355 (Nat.le_of_ble_eq_true rfl) (Nat.le_of_ble_eq_true rfl) rfl ?_
  refine kk_aload dL_law_357 rfl ?_
  refine kk_aloadN dL_law_359 rfl rfl ?_
  refine kk_callV [] (kToS hfl hB2 (by omega)) rfl hB2.1 rfl dL_law_360 cw_RL_266 okJ4_toString_0e30d rfl (Nat.le_of_ble_eq_true rfl) ⟨Nat.le_of_ble_eq_true rfl, Nat.le_of_ble_eq_true rfl, by show _ ≤ 600086; omega, by show _ ≤ 7301442; omega⟩ (fun q_ => absurd (congrArg List.length q_) (by rw [el]; show ¬ (E.length + 261 = 0); omega)) (fun x q => by cases q; trivial) (fun E360 q360 z360 => ?_)
  obtain ⟨g, g1, g2, g3, g4⟩ := q360
  have hT0 : E360 = kT w E L.length g σ [] := kT_of g4 g1 g2 z360
  subst hT0
  rw [el]
  refine kk_callS [zV0 (zB w + E.length), zV0 (zB w + (E.length + 261))] (kLoad (E1 := E) (G := []) (L := L) (g := g) (σ := σ) (R := FB P Q) hfl (LT_g hT) (by omega) g3 hC.1 hC.2.2.2.2.1 hC.2.2.2.1 (fun D f => f.2.2.2.1) (fun t ht X m h1 h2 => GL_end hG hP.1 ht h1 h2)) dL_law_363 cw_RL_270 okL_load rfl (Nat.le_of_ble_eq_true rfl) ⟨Nat.le_of_ble_eq_true rfl, Nat.le_of_ble_eq_true rfl, by show _ ≤ 600086; omega, by show _ ≤ 7301442; omega⟩ (fun q_ => kT_ne q_ _) (fun x q => by cases q; trivial) (fun E363 q363 z363 => ?_)
  obtain ⟨τ, G, e363, f1, f2, f3, f4, ⟨D, d1, d2, d3⟩, f6, f7⟩ := q363
  subst e363
  refine kk_if_ne (tgt := 383) (by first | assumption | (unfold zr at *; omega)) dL_law_366 (by decide) (fun h366 => ?_) (fun h366 => ?_)
  · exact absurd h366 (by decide)
  · refine kj_drop 3 [zV0 (zSb w), zi ((P : Nat) : Int), zi ((Q : Nat) : Int), zu, zV0 (zB w + E.length), zu, zu, zu, zu, zu, zu, zu, zu, zu] rfl ?_
    refine kk_zx (v := kV w E) (c0 := 1000) (s0 := 400000) (ls' := [zf 101 0, zi ((P : Nat) : Int), zi ((Q : Nat) : Int), zu, zf 9 0, zu, zu, zu, zu, zu, zu, zu, zu, zu]) rfl rfl (E1 := E) (E2 := _ :: _ :: G) (σ := τ) ⟨rfl, Or.inr ⟨Nat.one_ne_zero, rfl⟩⟩ (by rw [kT_len (G := [])] at z363; show _ = (kT w E L.length g τ G).length; have : ([] : List va_E).length = 0 := rfl; omega) (by omega) (by omega) rfl (fun x hx => ?_) (Nat.le_of_ble_eq_true rfl) (Nat.le_of_ble_eq_true rfl) ?_
    · rcases List.mem_append.mp (show x ∈ [zf 101 0, zi ((P : Nat) : Int), zi ((Q : Nat) : Int), zu, zf 9 0] ++ List.replicate 9 zu from hx) with h | h
      · simp only [List.mem_cons, List.not_mem_nil, or_false] at h
        rcases h with rfl | rfl | rfl | rfl | rfl
        · exact Or.inr (Or.inl (Or.inl rfl))
        · exact trivial
        · exact trivial
        · exact trivial
        · exact Or.inr (Or.inr ⟨by decide, by show 0 < 261; omega, rfl⟩)
      · rw [List.eq_of_mem_replicate h]; exact trivial
    · have hk := hC.2.2.2.2.2.1 70 (Or.inr (by omega)) 1
      have w1 : WF (bk τ 30) := WF_eq d3 d2
      have hl2 : lEq D (bK τ) := lEq_tr (lEq_z d2 d3) (pEq_lK τ)
      refine K (kV w E) τ hSL (Nat.le_add_right _ _) f1 ⟨?_, ?_⟩ f2 (LB_l hl2 (tr_WF w1) ⟨by rw [d1.1]; omega, d1.2.1, fun p hp => (d1.2.2.2.2 p (by rw [d1.1] at hp; omega)).2⟩)
      · rw [f6, hk]
        exact ⟨by decide, by decide⟩
      · rw [f7]
        exact ⟨by decide, by decide⟩

