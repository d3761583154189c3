abbrev mX10_commandHere : zM := (yX10_commandHere, cX10_commandHere, 1, (some .int), [])
theorem okX10_commandHere : zMok mX10_commandHere 0 := ⟨by decide, by decide, by decide +kernel⟩
theorem dX10_commandHere_0 : decode cX10_commandHere 0 = .ok (.aload_n 0, 1) := by decide +kernel
theorem dX10_commandHere_1 : decode cX10_commandHere 1 = .ok (.ldc_w 315, 3) := by decide +kernel
theorem dX10_commandHere_4 : decode cX10_commandHere 4 = .ok (.invokevirtual 278, 3) := by decide +kernel
theorem dX10_commandHere_7 : decode cX10_commandHere 7 = .ok (.ifCond .eq 5, 3) := by decide +kernel
theorem dX10_commandHere_12 : decode cX10_commandHere 12 = .ok (.aload_n 0, 1) := by decide +kernel
theorem dX10_commandHere_13 : decode cX10_commandHere 13 = .ok (.ldc_w 351, 3) := by decide +kernel
theorem dX10_commandHere_16 : decode cX10_commandHere 16 = .ok (.invokevirtual 278, 3) := by decide +kernel
theorem dX10_commandHere_19 : decode cX10_commandHere 19 = .ok (.ifCond .eq 5, 3) := by decide +kernel
theorem dX10_commandHere_24 : decode cX10_commandHere 24 = .ok (.aload_n 0, 1) := by decide +kernel
theorem dX10_commandHere_25 : decode cX10_commandHere 25 = .ok (.ldc_w 353, 3) := by decide +kernel
theorem dX10_commandHere_28 : decode cX10_commandHere 28 = .ok (.invokevirtual 278, 3) := by decide +kernel
theorem dX10_commandHere_31 : decode cX10_commandHere 31 = .ok (.ifCond .eq 5, 3) := by decide +kernel
theorem dX10_commandHere_36 : decode cX10_commandHere 36 = .ok (.aload_n 0, 1) := by decide +kernel
theorem dX10_commandHere_37 : decode cX10_commandHere 37 = .ok (.ldc_w 354, 3) := by decide +kernel
theorem dX10_commandHere_40 : decode cX10_commandHere 40 = .ok (.invokevirtual 278, 3) := by decide +kernel
theorem dX10_commandHere_43 : decode cX10_commandHere 43 = .ok (.ifCond .eq 5, 3) := by decide +kernel
theorem dX10_commandHere_48 : decode cX10_commandHere 48 = .ok (.aload_n 0, 1) := by decide +kernel
theorem dX10_commandHere_49 : decode cX10_commandHere 49 = .ok (.ldc_w 356, 3) := by decide +kernel
theorem dX10_commandHere_52 : decode cX10_commandHere 52 = .ok (.invokevirtual 278, 3) := by decide +kernel
theorem dX10_commandHere_55 : decode cX10_commandHere 55 = .ok (.ifCond .eq 5, 3) := by decide +kernel
theorem dX10_commandHere_60 : decode cX10_commandHere 60 = .ok (.aload_n 0, 1) := by decide +kernel
theorem dX10_commandHere_61 : decode cX10_commandHere 61 = .ok (.ldc_w 358, 3) := by decide +kernel
theorem dX10_commandHere_64 : decode cX10_commandHere 64 = .ok (.invokevirtual 278, 3) := by decide +kernel
theorem dX10_commandHere_67 : decode cX10_commandHere 67 = .ok (.ifCond .eq 7, 3) := by decide +kernel
theorem dX10_commandHere_74 : decode cX10_commandHere 74 = .ok (.iconst (-1), 1) := by decide +kernel
theorem dX10_commandHere_75 : decode cX10_commandHere 75 = .ok (.ireturn, 1) := by decide +kernel
theorem dX10_commandHere_70 : decode cX10_commandHere 70 = .ok (.iconst 5, 1) := by decide +kernel
theorem dX10_commandHere_71 : decode cX10_commandHere 71 = .ok (.goto 4, 3) := by decide +kernel
theorem dX10_commandHere_58 : decode cX10_commandHere 58 = .ok (.iconst 4, 1) := by decide +kernel
theorem dX10_commandHere_59 : decode cX10_commandHere 59 = .ok (.ireturn, 1) := by decide +kernel
theorem dX10_commandHere_46 : decode cX10_commandHere 46 = .ok (.iconst 3, 1) := by decide +kernel
theorem dX10_commandHere_47 : decode cX10_commandHere 47 = .ok (.ireturn, 1) := by decide +kernel
theorem dX10_commandHere_34 : decode cX10_commandHere 34 = .ok (.iconst 2, 1) := by decide +kernel
theorem dX10_commandHere_35 : decode cX10_commandHere 35 = .ok (.ireturn, 1) := by decide +kernel
theorem dX10_commandHere_22 : decode cX10_commandHere 22 = .ok (.iconst 1, 1) := by decide +kernel
theorem dX10_commandHere_23 : decode cX10_commandHere 23 = .ok (.ireturn, 1) := by decide +kernel
theorem dX10_commandHere_10 : decode cX10_commandHere 10 = .ok (.iconst 0, 1) := by decide +kernel
theorem dX10_commandHere_11 : decode cX10_commandHere 11 = .ok (.ireturn, 1) := by decide +kernel
abbrev mX10_partsOf : zM := (yX10_partsOf, cX10_partsOf, 3, none, [])
theorem okX10_partsOf : zMok mX10_partsOf 2 := ⟨by decide, by decide, by decide +kernel⟩
theorem dX10_partsOf_0 : decode cX10_partsOf 0 = .ok (.iload_n 1, 1) := by decide +kernel
theorem dX10_partsOf_1 : decode cX10_partsOf 1 = .ok (.tableswitch 179 0 5 #[39, 101, 179, 179, 115, 141], 39) := by decide +kernel
theorem dX10_partsOf_40 : decode cX10_partsOf 40 = .ok (.aload_n 0, 1) := by decide +kernel
theorem dX10_partsOf_41 : decode cX10_partsOf 41 = .ok (.getfield 38, 3) := by decide +kernel
theorem fl_RX10_38 : zFl RX10 38 10 24 := ⟨RX10, TX10, 28, rfl, by decide, zmem1 1677 (by decide +kernel) rfl, rfl⟩
theorem dX10_partsOf_44 : decode cX10_partsOf 44 = .ok (.iload_n 2, 1) := by decide +kernel
theorem dX10_partsOf_45 : decode cX10_partsOf 45 = .ok (.aload_n 0, 1) := by decide +kernel
theorem dX10_partsOf_46 : decode cX10_partsOf 46 = .ok (.iconst 1, 1) := by decide +kernel
theorem dX10_partsOf_47 : decode cX10_partsOf 47 = .ok (.sipush 999, 3) := by decide +kernel
theorem dX10_partsOf_50 : decode cX10_partsOf 50 = .ok (.invokevirtual 282, 3) := by decide +kernel
theorem dX10_partsOf_53 : decode cX10_partsOf 53 = .ok (.iastore, 1) := by decide +kernel
theorem dX10_partsOf_54 : decode cX10_partsOf 54 = .ok (.aload_n 0, 1) := by decide +kernel
theorem dX10_partsOf_55 : decode cX10_partsOf 55 = .ok (.getfield 38, 3) := by decide +kernel
theorem dX10_partsOf_58 : decode cX10_partsOf 58 = .ok (.iload_n 2, 1) := by decide +kernel
theorem dX10_partsOf_59 : decode cX10_partsOf 59 = .ok (.iconst 1, 1) := by decide +kernel
theorem dX10_partsOf_60 : decode cX10_partsOf 60 = .ok (.iadd, 1) := by decide +kernel
theorem dX10_partsOf_61 : decode cX10_partsOf 61 = .ok (.aload_n 0, 1) := by decide +kernel
theorem dX10_partsOf_62 : decode cX10_partsOf 62 = .ok (.invokevirtual 317, 3) := by decide +kernel
theorem cw_RX10_317 : zCwV RX10 317 mX10_kindHere := zall [1627, 1629, 46, 128, 1630] (by decide +kernel) (by decide +kernel)
theorem dX10_partsOf_65 : decode cX10_partsOf 65 = .ok (.iastore, 1) := by decide +kernel
theorem dX10_partsOf_66 : decode cX10_partsOf 66 = .ok (.aload_n 0, 1) := by decide +kernel
theorem dX10_partsOf_67 : decode cX10_partsOf 67 = .ok (.getfield 38, 3) := by decide +kernel
theorem dX10_partsOf_70 : decode cX10_partsOf 70 = .ok (.iload_n 2, 1) := by decide +kernel
theorem dX10_partsOf_71 : decode cX10_partsOf 71 = .ok (.iconst 2, 1) := by decide +kernel
theorem dX10_partsOf_72 : decode cX10_partsOf 72 = .ok (.iadd, 1) := by decide +kernel
theorem dX10_partsOf_73 : decode cX10_partsOf 73 = .ok (.aload_n 0, 1) := by decide +kernel
theorem dX10_partsOf_74 : decode cX10_partsOf 74 = .ok (.aload_n 0, 1) := by decide +kernel
theorem dX10_partsOf_75 : decode cX10_partsOf 75 = .ok (.getfield 38, 3) := by decide +kernel
theorem dX10_partsOf_78 : decode cX10_partsOf 78 = .ok (.iload_n 2, 1) := by decide +kernel
theorem dX10_partsOf_79 : decode cX10_partsOf 79 = .ok (.iconst 1, 1) := by decide +kernel
theorem dX10_partsOf_80 : decode cX10_partsOf 80 = .ok (.iadd, 1) := by decide +kernel
theorem dX10_partsOf_81 : decode cX10_partsOf 81 = .ok (.iaload, 1) := by decide +kernel
theorem dX10_partsOf_82 : decode cX10_partsOf 82 = .ok (.invokevirtual 320, 3) := by decide +kernel
theorem cw_RX10_320 : zCwV RX10 320 mX10_valueHere := zall [1633, 1635, 47, 128, 1636] (by decide +kernel) (by decide +kernel)
theorem dX10_partsOf_85 : decode cX10_partsOf 85 = .ok (.iastore, 1) := by decide +kernel
theorem dX10_partsOf_86 : decode cX10_partsOf 86 = .ok (.aload_n 0, 1) := by decide +kernel
theorem dX10_partsOf_87 : decode cX10_partsOf 87 = .ok (.getfield 38, 3) := by decide +kernel
theorem dX10_partsOf_90 : decode cX10_partsOf 90 = .ok (.iload_n 2, 1) := by decide +kernel
theorem dX10_partsOf_91 : decode cX10_partsOf 91 = .ok (.iconst 3, 1) := by decide +kernel
theorem dX10_partsOf_92 : decode cX10_partsOf 92 = .ok (.iadd, 1) := by decide +kernel
theorem dX10_partsOf_93 : decode cX10_partsOf 93 = .ok (.aload_n 0, 1) := by decide +kernel
theorem dX10_partsOf_94 : decode cX10_partsOf 94 = .ok (.iconst 1, 1) := by decide +kernel
theorem dX10_partsOf_95 : decode cX10_partsOf 95 = .ok (.bipush 9, 2) := by decide +kernel
theorem dX10_partsOf_97 : decode cX10_partsOf 97 = .ok (.invokevirtual 282, 3) := by decide +kernel
theorem dX10_partsOf_100 : decode cX10_partsOf 100 = .ok (.iastore, 1) := by decide +kernel
theorem dX10_partsOf_101 : decode cX10_partsOf 101 = .ok (.return_, 1) := by decide +kernel
theorem dX10_partsOf_102 : decode cX10_partsOf 102 = .ok (.aload_n 0, 1) := by decide +kernel
theorem dX10_partsOf_103 : decode cX10_partsOf 103 = .ok (.getfield 38, 3) := by decide +kernel
theorem dX10_partsOf_106 : decode cX10_partsOf 106 = .ok (.iload_n 2, 1) := by decide +kernel
theorem dX10_partsOf_107 : decode cX10_partsOf 107 = .ok (.aload_n 0, 1) := by decide +kernel
theorem dX10_partsOf_108 : decode cX10_partsOf 108 = .ok (.iconst 1, 1) := by decide +kernel
theorem dX10_partsOf_109 : decode cX10_partsOf 109 = .ok (.bipush 40, 2) := by decide +kernel
theorem dX10_partsOf_111 : decode cX10_partsOf 111 = .ok (.invokevirtual 282, 3) := by decide +kernel
theorem dX10_partsOf_114 : decode cX10_partsOf 114 = .ok (.iastore, 1) := by decide +kernel
theorem dX10_partsOf_115 : decode cX10_partsOf 115 = .ok (.return_, 1) := by decide +kernel
theorem dX10_partsOf_180 : decode cX10_partsOf 180 = .ok (.aload_n 0, 1) := by decide +kernel
theorem dX10_partsOf_181 : decode cX10_partsOf 181 = .ok (.getfield 38, 3) := by decide +kernel
theorem dX10_partsOf_184 : decode cX10_partsOf 184 = .ok (.iload_n 2, 1) := by decide +kernel
theorem dX10_partsOf_185 : decode cX10_partsOf 185 = .ok (.aload_n 0, 1) := by decide +kernel
theorem dX10_partsOf_186 : decode cX10_partsOf 186 = .ok (.invokevirtual 360, 3) := by decide +kernel
theorem cw_RX10_360 : zCwV RX10 360 mX10_clueHere := zall [1784, 1786, 56, 128, 1787] (by decide +kernel) (by decide +kernel)
theorem dX10_partsOf_189 : decode cX10_partsOf 189 = .ok (.iastore, 1) := by decide +kernel
theorem dX10_partsOf_190 : decode cX10_partsOf 190 = .ok (.return_, 1) := by decide +kernel
theorem dX10_partsOf_116 : decode cX10_partsOf 116 = .ok (.aload_n 0, 1) := by decide +kernel
theorem dX10_partsOf_117 : decode cX10_partsOf 117 = .ok (.getfield 38, 3) := by decide +kernel
theorem dX10_partsOf_120 : decode cX10_partsOf 120 = .ok (.iload_n 2, 1) := by decide +kernel
theorem dX10_partsOf_121 : decode cX10_partsOf 121 = .ok (.aload_n 0, 1) := by decide +kernel
theorem dX10_partsOf_122 : decode cX10_partsOf 122 = .ok (.invokevirtual 360, 3) := by decide +kernel
theorem dX10_partsOf_125 : decode cX10_partsOf 125 = .ok (.iastore, 1) := by decide +kernel
theorem dX10_partsOf_126 : decode cX10_partsOf 126 = .ok (.aload_n 0, 1) := by decide +kernel
theorem dX10_partsOf_127 : decode cX10_partsOf 127 = .ok (.getfield 38, 3) := by decide +kernel
theorem dX10_partsOf_130 : decode cX10_partsOf 130 = .ok (.iload_n 2, 1) := by decide +kernel
theorem dX10_partsOf_131 : decode cX10_partsOf 131 = .ok (.iconst 1, 1) := by decide +kernel
theorem dX10_partsOf_132 : decode cX10_partsOf 132 = .ok (.iadd, 1) := by decide +kernel
theorem dX10_partsOf_133 : decode cX10_partsOf 133 = .ok (.aload_n 0, 1) := by decide +kernel
theorem dX10_partsOf_134 : decode cX10_partsOf 134 = .ok (.iconst 1, 1) := by decide +kernel
theorem dX10_partsOf_135 : decode cX10_partsOf 135 = .ok (.bipush 9, 2) := by decide +kernel
theorem dX10_partsOf_137 : decode cX10_partsOf 137 = .ok (.invokevirtual 282, 3) := by decide +kernel
theorem dX10_partsOf_140 : decode cX10_partsOf 140 = .ok (.iastore, 1) := by decide +kernel
theorem dX10_partsOf_141 : decode cX10_partsOf 141 = .ok (.return_, 1) := by decide +kernel
theorem dX10_partsOf_142 : decode cX10_partsOf 142 = .ok (.aload_n 0, 1) := by decide +kernel
theorem dX10_partsOf_143 : decode cX10_partsOf 143 = .ok (.getfield 38, 3) := by decide +kernel
theorem dX10_partsOf_146 : decode cX10_partsOf 146 = .ok (.iload_n 2, 1) := by decide +kernel
theorem dX10_partsOf_147 : decode cX10_partsOf 147 = .ok (.aload_n 0, 1) := by decide +kernel
theorem dX10_partsOf_148 : decode cX10_partsOf 148 = .ok (.invokevirtual 300, 3) := by decide +kernel
theorem cw_RX10_300 : zCwV RX10 300 mX10_mustBe := zall [1599, 1601, 40, 128, 1602] (by decide +kernel) (by decide +kernel)
theorem dX10_partsOf_151 : decode cX10_partsOf 151 = .ok (.iastore, 1) := by decide +kernel
theorem dX10_partsOf_152 : decode cX10_partsOf 152 = .ok (.aload_n 0, 1) := by decide +kernel
theorem dX10_partsOf_153 : decode cX10_partsOf 153 = .ok (.getfield 38, 3) := by decide +kernel
theorem dX10_partsOf_156 : decode cX10_partsOf 156 = .ok (.iload_n 2, 1) := by decide +kernel
theorem dX10_partsOf_157 : decode cX10_partsOf 157 = .ok (.iconst 1, 1) := by decide +kernel
theorem dX10_partsOf_158 : decode cX10_partsOf 158 = .ok (.iadd, 1) := by decide +kernel
theorem dX10_partsOf_159 : decode cX10_partsOf 159 = .ok (.aload_n 0, 1) := by decide +kernel
theorem dX10_partsOf_160 : decode cX10_partsOf 160 = .ok (.invokevirtual 300, 3) := by decide +kernel
theorem dX10_partsOf_163 : decode cX10_partsOf 163 = .ok (.iastore, 1) := by decide +kernel
theorem dX10_partsOf_164 : decode cX10_partsOf 164 = .ok (.aload_n 0, 1) := by decide +kernel
theorem dX10_partsOf_165 : decode cX10_partsOf 165 = .ok (.getfield 38, 3) := by decide +kernel
theorem dX10_partsOf_168 : decode cX10_partsOf 168 = .ok (.iload_n 2, 1) := by decide +kernel
theorem dX10_partsOf_169 : decode cX10_partsOf 169 = .ok (.iconst 2, 1) := by decide +kernel
theorem dX10_partsOf_170 : decode cX10_partsOf 170 = .ok (.iadd, 1) := by decide +kernel
theorem dX10_partsOf_171 : decode cX10_partsOf 171 = .ok (.aload_n 0, 1) := by decide +kernel
theorem dX10_partsOf_172 : decode cX10_partsOf 172 = .ok (.iconst 0, 1) := by decide +kernel
theorem dX10_partsOf_173 : decode cX10_partsOf 173 = .ok (.bipush 31, 2) := by decide +kernel
theorem dX10_partsOf_175 : decode cX10_partsOf 175 = .ok (.invokevirtual 282, 3) := by decide +kernel
theorem dX10_partsOf_178 : decode cX10_partsOf 178 = .ok (.iastore, 1) := by decide +kernel
theorem dX10_partsOf_179 : decode cX10_partsOf 179 = .ok (.return_, 1) := by decide +kernel
/-! commands in the model's table -/
def MT (σ τ : zS) : Prop := mfr σ τ (fun q => q = 270) (fun i => 17 ≤ i ∧ i ≤ 21)
theorem MT_rf (σ : zS) : MT σ σ := mfr_rf _ _ _
theorem MT_x {σ τ υ : zS} (h : MT σ τ) (h' : MX τ υ) : MT σ υ := mfr_tr h h' (fun k q => q.elim id (fun e => absurd e id)) (fun _ q => q.elim id id)
theorem MT_p {σ τ : zS} {i : Nat} {v : Int} (h : MT σ τ) : MT σ (zput τ 270 i v) := mfr_put h rfl (by decide)
theorem MX_270 {σ τ : zS} (h : MX σ τ) (i : Nat) : τ.1 270 i = σ.1 270 i := h.1 270 (fun q => q) (by decide) i
theorem PM_put {t : Nat → Int} {n : Nat} {S : zP} {σ : zS} {i : Nat} {v : Int} (h : PM t n S σ) : PM t n S (zput σ 270 i v) := by
  obtain ⟨p1, p2⟩ := h
  have e : ∀ j, (zput σ 270 i v).1 261 j = σ.1 261 j := fun j => zput_k _ _ _ _ _ (by decide)
  refine ⟨TM_e (fun j => zput_k _ _ _ _ _ (by decide)) p1, ?_⟩
  rw [e 16, e 17, e 18, e 19, e 20, e 21]; exact p2
theorem PN_put {t : Nat → Int} {n : Nat} {S : zP} {σ : zS} {i : Nat} {v : Int} (h : PN t n S σ) : PN t n S (zput σ 270 i v) := by
  refine ⟨PM_put h.1, ?_⟩
  have e : ∀ j, (zput σ 270 i v).1 261 j = σ.1 261 j := fun j => zput_k _ _ _ _ _ (by decide)
  rw [e 17, e 18, e 19]; exact h.2
noncomputable def cP (t : Nat → Int) (n : Nat) (v : Int) (D : zBk) (S : zP) : zP := if v = 0 then u4 t n D S else if v = 1 then a1 t n 1 40 S else if v = 4 then g1 t n S else if v = 5 then l2 t n D S else a1 t n 0 39 S
theorem cP_s {t : Nat → Int} {n : Nat} {v : Int} {D : zBk} {S : zP} : pSem t n (cP t n v D S) = cS t n v D S := by
  unfold cP cS
  (repeat' split) <;> rfl

set_option maxRecDepth 20000 in
set_option maxHeartbeats 2000000 in
theorem sX10_commandHere {l : Launch} {w : zW} (hfl : l.stackTraces = false) {σ : zS} {t : Nat → Int} {n : Nat} {S : zP}  (hz : zOK σ) (hP : PM t n S σ) : Sp l w mX10_commandHere 5 0 [zf 10 261] σ (zqv (some (zi (if S.2.1 = 0 then vct t n S.1 else -1))) (fun τ => zOK τ ∧ MX σ τ ∧ PN t n S τ)) := by
  obtain ⟨Q, hQ⟩ : ∃ Q : zQ, Q = (zqv (some (zi (if S.2.1 = 0 then vct t n S.1 else -1))) (fun τ => zOK τ ∧ MX σ τ ∧ PN t n S τ)) := ⟨_, rfl⟩
  rw [← hQ]
  refine zx_enter hfl (by decide) rfl 0 rfl ?_
  show zX l w mX10_commandHere (zMQ w 5 0 Q) 0 [zf 10 261] [] 0 σ
  refine zx_aloadN dX10_commandHere_0 rfl rfl ?_
  refine zx_ldcSw (List.mem_of_getElem? (i := 44) rfl) (by decide) dX10_commandHere_1 ?_
  refine zy_cvR [zf 100 12] (sX10_sees (j := 12) hfl hz hP (by decide)) dX10_commandHere_4 (by decide) rfl cw_RX10_278 okX10_sees rfl (Nat.le_of_ble_eq_true rfl) ⟨Nat.le_of_ble_eq_true rfl, Nat.le_of_ble_eq_true rfl, Nat.le_of_ble_eq_true rfl, Nat.le_of_ble_eq_true rfl⟩ (fun τ4 hr4 => ?_)
  have hz4 : zOK τ4 := hr4.1
  have mL := hr4.2.1
  have nL := hr4.2.2
  refine zx_if_eq (tgt := 12) (by first | exact hz4 _ _ | assumption | exact zr_b _ | exact zcmp_r _ _ | (unfold zr at *; omega)) dX10_commandHere_7 (by decide) (fun h7 => ?_) (fun h7 => ?_)
  · have h7 := zb_0.mp h7
    refine zx_aloadN dX10_commandHere_12 rfl rfl ?_
    refine zx_ldcSw (List.mem_of_getElem? (i := 47) rfl) (by decide) dX10_commandHere_13 ?_
    refine zy_cvR [zf 100 18] (sX10_sees (j := 18) hfl hz4 nL.1 (by decide)) dX10_commandHere_16 (by decide) rfl cw_RX10_278 okX10_sees rfl (Nat.le_of_ble_eq_true rfl) ⟨Nat.le_of_ble_eq_true rfl, Nat.le_of_ble_eq_true rfl, Nat.le_of_ble_eq_true rfl, Nat.le_of_ble_eq_true rfl⟩ (fun τ16 hr16 => ?_)
    have hz16 : zOK τ16 := hr16.1
    have mL := MX_tr mL hr16.2.1
    have nL := hr16.2.2
    refine zx_if_eq (tgt := 24) (by first | exact hz16 _ _ | assumption | exact zr_b _ | exact zcmp_r _ _ | (unfold zr at *; omega)) dX10_commandHere_19 (by decide) (fun h19 => ?_) (fun h19 => ?_)
    · have h19 := zb_0.mp h19
      refine zx_aloadN dX10_commandHere_24 rfl rfl ?_
      refine zx_ldcSw (List.mem_of_getElem? (i := 48) rfl) (by decide) dX10_commandHere_25 ?_
      refine zy_cvR [zf 100 19] (sX10_sees (j := 19) hfl hz16 nL.1 (by decide)) dX10_commandHere_28 (by decide) rfl cw_RX10_278 okX10_sees rfl (Nat.le_of_ble_eq_true rfl) ⟨Nat.le_of_ble_eq_true rfl, Nat.le_of_ble_eq_true rfl, Nat.le_of_ble_eq_true rfl, Nat.le_of_ble_eq_true rfl⟩ (fun τ28 hr28 => ?_)
      have hz28 : zOK τ28 := hr28.1
      have mL := MX_tr mL hr28.2.1
      have nL := hr28.2.2
      refine zx_if_eq (tgt := 36) (by first | exact hz28 _ _ | assumption | exact zr_b _ | exact zcmp_r _ _ | (unfold zr at *; omega)) dX10_commandHere_31 (by decide) (fun h31 => ?_) (fun h31 => ?_)
      · have h31 := zb_0.mp h31
        refine zx_aloadN dX10_commandHere_36 rfl rfl ?_
        refine zx_ldcSw (List.mem_of_getElem? (i := 49) rfl) (by decide) dX10_commandHere_37 ?_
        refine zy_cvR [zf 100 20] (sX10_sees (j := 20) hfl hz28 nL.1 (by decide)) dX10_commandHere_40 (by decide) rfl cw_RX10_278 okX10_sees rfl (Nat.le_of_ble_eq_true rfl) ⟨Nat.le_of_ble_eq_true rfl, Nat.le_of_ble_eq_true rfl, Nat.le_of_ble_eq_true rfl, Nat.le_of_ble_eq_true rfl⟩ (fun τ40 hr40 => ?_)
        have hz40 : zOK τ40 := hr40.1
        have mL := MX_tr mL hr40.2.1
        have nL := hr40.2.2
        refine zx_if_eq (tgt := 48) (by first | exact hz40 _ _ | assumption | exact zr_b _ | exact zcmp_r _ _ | (unfold zr at *; omega)) dX10_commandHere_43 (by decide) (fun h43 => ?_) (fun h43 => ?_)
        · have h43 := zb_0.mp h43
          refine zx_aloadN dX10_commandHere_48 rfl rfl ?_
          refine zx_ldcSw (List.mem_of_getElem? (i := 50) rfl) (by decide) dX10_commandHere_49 ?_
          refine zy_cvR [zf 100 21] (sX10_sees (j := 21) hfl hz40 nL.1 (by decide)) dX10_commandHere_52 (by decide) rfl cw_RX10_278 okX10_sees rfl (Nat.le_of_ble_eq_true rfl) ⟨Nat.le_of_ble_eq_true rfl, Nat.le_of_ble_eq_true rfl, Nat.le_of_ble_eq_true rfl, Nat.le_of_ble_eq_true rfl⟩ (fun τ52 hr52 => ?_)
          have hz52 : zOK τ52 := hr52.1
          have mL := MX_tr mL hr52.2.1
          have nL := hr52.2.2
          refine zx_if_eq (tgt := 60) (by first | exact hz52 _ _ | assumption | exact zr_b _ | exact zcmp_r _ _ | (unfold zr at *; omega)) dX10_commandHere_55 (by decide) (fun h55 => ?_) (fun h55 => ?_)
          · have h55 := zb_0.mp h55
            refine zx_aloadN dX10_commandHere_60 rfl rfl ?_
            refine zx_ldcSw (List.mem_of_getElem? (i := 51) rfl) (by decide) dX10_commandHere_61 ?_
            refine zy_cvR [zf 100 22] (sX10_sees (j := 22) hfl hz52 nL.1 (by decide)) dX10_commandHere_64 (by decide) rfl cw_RX10_278 okX10_sees rfl (Nat.le_of_ble_eq_true rfl) ⟨Nat.le_of_ble_eq_true rfl, Nat.le_of_ble_eq_true rfl, Nat.le_of_ble_eq_true rfl, Nat.le_of_ble_eq_true rfl⟩ (fun τ64 hr64 => ?_)
            have hz64 : zOK τ64 := hr64.1
            have mL := MX_tr mL hr64.2.1
            have nL := hr64.2.2
            refine zx_if_eq (tgt := 74) (by first | exact hz64 _ _ | assumption | exact zr_b _ | exact zcmp_r _ _ | (unfold zr at *; omega)) dX10_commandHere_67 (by decide) (fun h67 => ?_) (fun h67 => ?_)
            · have h67 := zb_0.mp h67
              refine zx_iconst dX10_commandHere_74 ?_
              refine zx_iret rfl rfl dX10_commandHere_75 ?_
              rw [hQ]
              refine ⟨congrArg (fun z : Int => (Sum.inl (some (zi z)) : Option zV ⊕ String)) ?_, ?_⟩
              · unfold vct
                by_cases z : S.2.1 = 0
                · rw [if_pos z]
                  first
                  | (rw [if_pos h7.2])
                  | (rw [if_neg (fun q => h7 ⟨z, q⟩), if_pos h19.2])
                  | (rw [if_neg (fun q => h7 ⟨z, q⟩), if_neg (fun q => h19 ⟨z, q⟩), if_pos h31.2])
                  | (rw [if_neg (fun q => h7 ⟨z, q⟩), if_neg (fun q => h19 ⟨z, q⟩), if_neg (fun q => h31 ⟨z, q⟩), if_pos h43.2])
                  | (rw [if_neg (fun q => h7 ⟨z, q⟩), if_neg (fun q => h19 ⟨z, q⟩), if_neg (fun q => h31 ⟨z, q⟩), if_neg (fun q => h43 ⟨z, q⟩), if_pos h55.2])
                  | (rw [if_neg (fun q => h7 ⟨z, q⟩), if_neg (fun q => h19 ⟨z, q⟩), if_neg (fun q => h31 ⟨z, q⟩), if_neg (fun q => h43 ⟨z, q⟩), if_neg (fun q => h55 ⟨z, q⟩), if_pos h67.2])
                  | (rw [if_neg (fun q => h7 ⟨z, q⟩), if_neg (fun q => h19 ⟨z, q⟩), if_neg (fun q => h31 ⟨z, q⟩), if_neg (fun q => h43 ⟨z, q⟩), if_neg (fun q => h55 ⟨z, q⟩), if_neg (fun q => h67 ⟨z, q⟩)])
                · first
                  | exact absurd h7.1 z
                  | exact absurd h19.1 z
                  | exact absurd h31.1 z
                  | exact absurd h43.1 z
                  | exact absurd h55.1 z
                  | exact absurd h67.1 z
                  | rw [if_neg z]
              exact ⟨hz64, mL, nL⟩
            · have h67 := zb_n.mp h67
              refine zx_iconst dX10_commandHere_70 ?_
              refine zx_goto (tgt := 75) dX10_commandHere_71 (by decide) ?_
              refine zx_iret rfl rfl dX10_commandHere_75 ?_
              rw [hQ]
              refine ⟨congrArg (fun z : Int => (Sum.inl (some (zi z)) : Option zV ⊕ String)) ?_, ?_⟩
              · unfold vct
                by_cases z : S.2.1 = 0
                · rw [if_pos z]
                  first
                  | (rw [if_pos h7.2])
                  | (rw [if_neg (fun q => h7 ⟨z, q⟩), if_pos h19.2])
                  | (rw [if_neg (fun q => h7 ⟨z, q⟩), if_neg (fun q => h19 ⟨z, q⟩), if_pos h31.2])
                  | (rw [if_neg (fun q => h7 ⟨z, q⟩), if_neg (fun q => h19 ⟨z, q⟩), if_neg (fun q => h31 ⟨z, q⟩), if_pos h43.2])
                  | (rw [if_neg (fun q => h7 ⟨z, q⟩), if_neg (fun q => h19 ⟨z, q⟩), if_neg (fun q => h31 ⟨z, q⟩), if_neg (fun q => h43 ⟨z, q⟩), if_pos h55.2])
                  | (rw [if_neg (fun q => h7 ⟨z, q⟩), if_neg (fun q => h19 ⟨z, q⟩), if_neg (fun q => h31 ⟨z, q⟩), if_neg (fun q => h43 ⟨z, q⟩), if_neg (fun q => h55 ⟨z, q⟩), if_pos h67.2])
                  | (rw [if_neg (fun q => h7 ⟨z, q⟩), if_neg (fun q => h19 ⟨z, q⟩), if_neg (fun q => h31 ⟨z, q⟩), if_neg (fun q => h43 ⟨z, q⟩), if_neg (fun q => h55 ⟨z, q⟩), if_neg (fun q => h67 ⟨z, q⟩)])
                · first
                  | exact absurd h7.1 z
                  | exact absurd h19.1 z
                  | exact absurd h31.1 z
                  | exact absurd h43.1 z
                  | exact absurd h55.1 z
                  | exact absurd h67.1 z
                  | rw [if_neg z]
              exact ⟨hz64, mL, nL⟩
          · have h55 := zb_n.mp h55
            refine zx_iconst dX10_commandHere_58 ?_
            refine zx_iret rfl rfl dX10_commandHere_59 ?_
            rw [hQ]
            refine ⟨congrArg (fun z : Int => (Sum.inl (some (zi z)) : Option zV ⊕ String)) ?_, ?_⟩
            · unfold vct
              by_cases z : S.2.1 = 0
              · rw [if_pos z]
                first
                | (rw [if_pos h7.2])
                | (rw [if_neg (fun q => h7 ⟨z, q⟩), if_pos h19.2])
                | (rw [if_neg (fun q => h7 ⟨z, q⟩), if_neg (fun q => h19 ⟨z, q⟩), if_pos h31.2])
                | (rw [if_neg (fun q => h7 ⟨z, q⟩), if_neg (fun q => h19 ⟨z, q⟩), if_neg (fun q => h31 ⟨z, q⟩), if_pos h43.2])
                | (rw [if_neg (fun q => h7 ⟨z, q⟩), if_neg (fun q => h19 ⟨z, q⟩), if_neg (fun q => h31 ⟨z, q⟩), if_neg (fun q => h43 ⟨z, q⟩), if_pos h55.2])
                | (rw [if_neg (fun q => h7 ⟨z, q⟩), if_neg (fun q => h19 ⟨z, q⟩), if_neg (fun q => h31 ⟨z, q⟩), if_neg (fun q => h43 ⟨z, q⟩), if_neg (fun q => h55 ⟨z, q⟩), if_pos h67.2])
                | (rw [if_neg (fun q => h7 ⟨z, q⟩), if_neg (fun q => h19 ⟨z, q⟩), if_neg (fun q => h31 ⟨z, q⟩), if_neg (fun q => h43 ⟨z, q⟩), if_neg (fun q => h55 ⟨z, q⟩), if_neg (fun q => h67 ⟨z, q⟩)])
              · first
                | exact absurd h7.1 z
                | exact absurd h19.1 z
                | exact absurd h31.1 z
                | exact absurd h43.1 z
                | exact absurd h55.1 z
                | exact absurd h67.1 z
                | rw [if_neg z]
            exact ⟨hz52, mL, nL⟩
        · have h43 := zb_n.mp h43
          refine zx_iconst dX10_commandHere_46 ?_
          refine zx_iret rfl rfl dX10_commandHere_47 ?_
          rw [hQ]
          refine ⟨congrArg (fun z : Int => (Sum.inl (some (zi z)) : Option zV ⊕ String)) ?_, ?_⟩
          · unfold vct
            by_cases z : S.2.1 = 0
            · rw [if_pos z]
              first
              | (rw [if_pos h7.2])
              | (rw [if_neg (fun q => h7 ⟨z, q⟩), if_pos h19.2])
              | (rw [if_neg (fun q => h7 ⟨z, q⟩), if_neg (fun q => h19 ⟨z, q⟩), if_pos h31.2])
              | (rw [if_neg (fun q => h7 ⟨z, q⟩), if_neg (fun q => h19 ⟨z, q⟩), if_neg (fun q => h31 ⟨z, q⟩), if_pos h43.2])
              | (rw [if_neg (fun q => h7 ⟨z, q⟩), if_neg (fun q => h19 ⟨z, q⟩), if_neg (fun q => h31 ⟨z, q⟩), if_neg (fun q => h43 ⟨z, q⟩), if_pos h55.2])
              | (rw [if_neg (fun q => h7 ⟨z, q⟩), if_neg (fun q => h19 ⟨z, q⟩), if_neg (fun q => h31 ⟨z, q⟩), if_neg (fun q => h43 ⟨z, q⟩), if_neg (fun q => h55 ⟨z, q⟩), if_pos h67.2])
              | (rw [if_neg (fun q => h7 ⟨z, q⟩), if_neg (fun q => h19 ⟨z, q⟩), if_neg (fun q => h31 ⟨z, q⟩), if_neg (fun q => h43 ⟨z, q⟩), if_neg (fun q => h55 ⟨z, q⟩), if_neg (fun q => h67 ⟨z, q⟩)])
            · first
              | exact absurd h7.1 z
              | exact absurd h19.1 z
              | exact absurd h31.1 z
              | exact absurd h43.1 z
              | exact absurd h55.1 z
              | exact absurd h67.1 z
              | rw [if_neg z]
          exact ⟨hz40, mL, nL⟩
      · have h31 := zb_n.mp h31
        refine zx_iconst dX10_commandHere_34 ?_
        refine zx_iret rfl rfl dX10_commandHere_35 ?_
        rw [hQ]
        refine ⟨congrArg (fun z : Int => (Sum.inl (some (zi z)) : Option zV ⊕ String)) ?_, ?_⟩
        · unfold vct
          by_cases z : S.2.1 = 0
          · rw [if_pos z]
            first
            | (rw [if_pos h7.2])
            | (rw [if_neg (fun q => h7 ⟨z, q⟩), if_pos h19.2])
            | (rw [if_neg (fun q => h7 ⟨z, q⟩), if_neg (fun q => h19 ⟨z, q⟩), if_pos h31.2])
            | (rw [if_neg (fun q => h7 ⟨z, q⟩), if_neg (fun q => h19 ⟨z, q⟩), if_neg (fun q => h31 ⟨z, q⟩), if_pos h43.2])
            | (rw [if_neg (fun q => h7 ⟨z, q⟩), if_neg (fun q => h19 ⟨z, q⟩), if_neg (fun q => h31 ⟨z, q⟩), if_neg (fun q => h43 ⟨z, q⟩), if_pos h55.2])
            | (rw [if_neg (fun q => h7 ⟨z, q⟩), if_neg (fun q => h19 ⟨z, q⟩), if_neg (fun q => h31 ⟨z, q⟩), if_neg (fun q => h43 ⟨z, q⟩), if_neg (fun q => h55 ⟨z, q⟩), if_pos h67.2])
            | (rw [if_neg (fun q => h7 ⟨z, q⟩), if_neg (fun q => h19 ⟨z, q⟩), if_neg (fun q => h31 ⟨z, q⟩), if_neg (fun q => h43 ⟨z, q⟩), if_neg (fun q => h55 ⟨z, q⟩), if_neg (fun q => h67 ⟨z, q⟩)])
          · first
            | exact absurd h7.1 z
            | exact absurd h19.1 z
            | exact absurd h31.1 z
            | exact absurd h43.1 z
            | exact absurd h55.1 z
            | exact absurd h67.1 z
            | rw [if_neg z]
        exact ⟨hz28, mL, nL⟩
    · have h19 := zb_n.mp h19
      refine zx_iconst dX10_commandHere_22 ?_
      refine zx_iret rfl rfl dX10_commandHere_23 ?_
      rw [hQ]
      refine ⟨congrArg (fun z : Int => (Sum.inl (some (zi z)) : Option zV ⊕ String)) ?_, ?_⟩
      · unfold vct
        by_cases z : S.2.1 = 0
        · rw [if_pos z]
          first
          | (rw [if_pos h7.2])
          | (rw [if_neg (fun q => h7 ⟨z, q⟩), if_pos h19.2])
          | (rw [if_neg (fun q => h7 ⟨z, q⟩), if_neg (fun q => h19 ⟨z, q⟩), if_pos h31.2])
          | (rw [if_neg (fun q => h7 ⟨z, q⟩), if_neg (fun q => h19 ⟨z, q⟩), if_neg (fun q => h31 ⟨z, q⟩), if_pos h43.2])
          | (rw [if_neg (fun q => h7 ⟨z, q⟩), if_neg (fun q => h19 ⟨z, q⟩), if_neg (fun q => h31 ⟨z, q⟩), if_neg (fun q => h43 ⟨z, q⟩), if_pos h55.2])
          | (rw [if_neg (fun q => h7 ⟨z, q⟩), if_neg (fun q => h19 ⟨z, q⟩), if_neg (fun q => h31 ⟨z, q⟩), if_neg (fun q => h43 ⟨z, q⟩), if_neg (fun q => h55 ⟨z, q⟩), if_pos h67.2])
          | (rw [if_neg (fun q => h7 ⟨z, q⟩), if_neg (fun q => h19 ⟨z, q⟩), if_neg (fun q => h31 ⟨z, q⟩), if_neg (fun q => h43 ⟨z, q⟩), if_neg (fun q => h55 ⟨z, q⟩), if_neg (fun q => h67 ⟨z, q⟩)])
        · first
          | exact absurd h7.1 z
          | exact absurd h19.1 z
          | exact absurd h31.1 z
          | exact absurd h43.1 z
          | exact absurd h55.1 z
          | exact absurd h67.1 z
          | rw [if_neg z]
      exact ⟨hz16, mL, nL⟩
  · have h7 := zb_n.mp h7
    refine zx_iconst dX10_commandHere_10 ?_
    refine zx_iret rfl rfl dX10_commandHere_11 ?_
    rw [hQ]
    refine ⟨congrArg (fun z : Int => (Sum.inl (some (zi z)) : Option zV ⊕ String)) ?_, ?_⟩
    · unfold vct
      by_cases z : S.2.1 = 0
      · rw [if_pos z]
        first
        | (rw [if_pos h7.2])
        | (rw [if_neg (fun q => h7 ⟨z, q⟩), if_pos h19.2])
        | (rw [if_neg (fun q => h7 ⟨z, q⟩), if_neg (fun q => h19 ⟨z, q⟩), if_pos h31.2])
        | (rw [if_neg (fun q => h7 ⟨z, q⟩), if_neg (fun q => h19 ⟨z, q⟩), if_neg (fun q => h31 ⟨z, q⟩), if_pos h43.2])
        | (rw [if_neg (fun q => h7 ⟨z, q⟩), if_neg (fun q => h19 ⟨z, q⟩), if_neg (fun q => h31 ⟨z, q⟩), if_neg (fun q => h43 ⟨z, q⟩), if_pos h55.2])
        | (rw [if_neg (fun q => h7 ⟨z, q⟩), if_neg (fun q => h19 ⟨z, q⟩), if_neg (fun q => h31 ⟨z, q⟩), if_neg (fun q => h43 ⟨z, q⟩), if_neg (fun q => h55 ⟨z, q⟩), if_pos h67.2])
        | (rw [if_neg (fun q => h7 ⟨z, q⟩), if_neg (fun q => h19 ⟨z, q⟩), if_neg (fun q => h31 ⟨z, q⟩), if_neg (fun q => h43 ⟨z, q⟩), if_neg (fun q => h55 ⟨z, q⟩), if_neg (fun q => h67 ⟨z, q⟩)])
      · first
        | exact absurd h7.1 z
        | exact absurd h19.1 z
        | exact absurd h31.1 z
        | exact absurd h43.1 z
        | exact absurd h55.1 z
        | exact absurd h67.1 z
        | rw [if_neg z]
    exact ⟨hz4, mL, nL⟩
set_option maxRecDepth 20000 in
set_option maxHeartbeats 2000000 in
theorem sX10_partsOf_0 {l : Launch} {w : zW} (hfl : l.stackTraces = false) {σ : zS} {D : zBk} {t : Nat → Int} {n : Nat} {S : zP} {x : Int} {to : Nat} (hz : zOK σ) (hW : WF D) (hR : Rel D (σ.1 262)) (hU : PM t n S σ) (hto : to + 4 ≤ 150) (hs : x = 0) : Sp l w mX10_partsOf 6 0 [zf 10 261, zi x, zi ((to : Nat) : Int)] σ (zqv (none) (fun τ => zOK τ ∧ MT σ τ ∧ (∀ i, (i < to ∨ to + 3 < i) → τ.1 270 i = σ.1 270 i) ∧ PM t n (cP t n x D S) τ ∧ ((cP t n x D S).2.1 = 0 → τ.1 270 to = cV t n x D S 1 ∧ ((x = 0 ∨ x = 4 ∨ x = 5) → τ.1 270 (to + 1) = cV t n x D S 2) ∧ ((x = 0 ∨ x = 5) → τ.1 270 (to + 2) = cV t n x D S 3) ∧ (x = 0 → τ.1 270 (to + 3) = cV t n x D S 4)))) := by
  obtain ⟨Q, hQ⟩ : ∃ Q : zQ, Q = (zqv (none) (fun τ => zOK τ ∧ MT σ τ ∧ (∀ i, (i < to ∨ to + 3 < i) → τ.1 270 i = σ.1 270 i) ∧ PM t n (cP t n x D S) τ ∧ ((cP t n x D S).2.1 = 0 → τ.1 270 to = cV t n x D S 1 ∧ ((x = 0 ∨ x = 4 ∨ x = 5) → τ.1 270 (to + 1) = cV t n x D S 2) ∧ ((x = 0 ∨ x = 5) → τ.1 270 (to + 2) = cV t n x D S 3) ∧ (x = 0 → τ.1 270 (to + 3) = cV t n x D S 4)))) := ⟨_, rfl⟩
  rw [← hQ]
  refine zx_enter hfl (by decide) rfl 0 rfl ?_
  show zX l w mX10_partsOf (zMQ w 6 0 Q) 0 [zf 10 261, zi x, zi ((to : Nat) : Int)] [] 0 σ
  have hP : 0 ≤ D 1 0 ∧ D 1 0 ≤ 8 := hW.1.1
  have hM : 0 ≤ D 1 7 ∧ D 1 7 ≤ 8 := hW.1.2.1
  have hE : 0 ≤ D 1 10 ∧ D 1 10 ≤ 12 := hW.1.2.2.1
  have hK : 0 ≤ D 12 0 ∧ D 12 0 ≤ 40 := hW.1.2.2.2
  have r0 : σ.1 262 0 = D 1 0 := hR.1.1
  have r1 : σ.1 262 1 = D 1 7 := hR.1.2.1
  have r2 : σ.1 262 2 = D 1 10 := hR.1.2.2.1
  have r3 : σ.1 262 3 = D 12 0 := hR.1.2.2.2
  have hpp := hU.2.2.1
  have hzx : zr x := by unfold zr; omega
  have e1 : cP t n x D S = u4 t n D S := by rw [hs]; rfl
  have hR0 := hR
  refine zx_iloadN dX10_partsOf_0 rfl rfl ?_
  refine zy_top (b := 0) (hs) ?_
  refine zx_tableIn (off := 39) (tgt := 40) (by unfold zr; omega) dX10_partsOf_1 (by omega) (by omega) rfl (by decide) ?_
  refine zx_aloadN dX10_partsOf_40 rfl rfl ?_
  refine zy_getR (q' := 270) fl_RX10_38 rfl dX10_partsOf_41 rfl ?_
  refine zx_iloadN dX10_partsOf_44 rfl rfl ?_
  refine zx_aloadN dX10_partsOf_45 rfl rfl ?_
  refine zx_iconst dX10_partsOf_46 ?_
  refine zx_sipush dX10_partsOf_47 rfl ?_
  refine zy_cvR [zi 1, zi 999] (sX10_number (S := S) (a := 1) (b := 999) hfl hz hU (by first | exact hz _ _ | assumption | exact zr_b _ | exact zcmp_r _ _ | (unfold zr at *; omega)) (by first | exact hz _ _ | assumption | exact zr_b _ | exact zcmp_r _ _ | (unfold zr at *; omega))) dX10_partsOf_50 (by decide) rfl cw_RX10_282 okX10_number rfl (Nat.le_of_ble_eq_true rfl) ⟨Nat.le_of_ble_eq_true rfl, Nat.le_of_ble_eq_true rfl, Nat.le_of_ble_eq_true rfl, Nat.le_of_ble_eq_true rfl⟩ (fun τ50 hr50 => ?_)
  have hz50 : zOK τ50 := hr50.1
  refine zy_top (b := if (u1 t n S).2.1 = 0 then pV t n (S).1 else 1) (rfl) ?_
  have hq50 : PM t n (u1 t n S) τ50 := hr50.2.2
  have hm50 : MT σ τ50 := MT_x (MT_rf _) hr50.2.1
  have hR50 : Rel D (τ50.1 262) := mfr_R hm50 (by decide) hR0
  have hv50 : zr (if (u1 t n S).2.1 = 0 then pV t n (S).1 else 1) := by
    split
    · rename_i zz; have := pNum_v zz; unfold zr; omega
    · unfold zr; omega
  refine zy_iast (i := to) rfl (by decide) (by decide) dX10_partsOf_53 (by omega) (by omega) rfl ?_
  refine zx_aloadN dX10_partsOf_54 rfl rfl ?_
  refine zy_getR (q' := 270) fl_RX10_38 rfl dX10_partsOf_55 rfl ?_
  refine zx_iloadN dX10_partsOf_58 rfl rfl ?_
  refine zx_iconst dX10_partsOf_59 ?_
  refine zx_iadd dX10_partsOf_60 ?_
  refine zy_top (b := ((to + 1 : Nat) : Int)) (by omega) ?_
  refine zx_aloadN dX10_partsOf_61 rfl rfl ?_
  refine zy_cvR [] (sX10_kindHere (S := (u1 t n S)) hfl (zOK_put hz50 (by first | exact hz50 _ _ | assumption | exact zr_b _ | exact zcmp_r _ _ | (unfold zr at *; omega))) (PM_put hq50)) dX10_partsOf_62 (by decide) rfl cw_RX10_317 okX10_kindHere rfl (Nat.le_of_ble_eq_true rfl) ⟨Nat.le_of_ble_eq_true rfl, Nat.le_of_ble_eq_true rfl, Nat.le_of_ble_eq_true rfl, Nat.le_of_ble_eq_true rfl⟩ (fun τ62 hr62 => ?_)
  have hz62 : zOK τ62 := hr62.1
  refine zy_top (b := if (u1 t n S).2.1 = 0 then kdv t n (u1 t n S).1 else 0) (rfl) ?_
  have hq62 : PM t n (u2 t n S) τ62 := hr62.2.2
  have hm62 : MT σ τ62 := MT_x (MT_p hm50) hr62.2.1
  have hR62 : Rel D (τ62.1 262) := mfr_R hm62 (by decide) hR0
  have hv62 : zr (if (u1 t n S).2.1 = 0 then kdv t n (u1 t n S).1 else 0) := by have := kdv_r t n (u1 t n S).1; unfold zr; split <;> omega
  refine zy_iast (i := to + 1) rfl (by decide) (by decide) dX10_partsOf_65 (by omega) (by omega) rfl ?_
  refine zx_aloadN dX10_partsOf_66 rfl rfl ?_
  refine zy_getR (q' := 270) fl_RX10_38 rfl dX10_partsOf_67 rfl ?_
  refine zx_iloadN dX10_partsOf_70 rfl rfl ?_
  refine zx_iconst dX10_partsOf_71 ?_
  refine zx_iadd dX10_partsOf_72 ?_
  refine zy_top (b := ((to + 2 : Nat) : Int)) (by omega) ?_
  refine zx_aloadN dX10_partsOf_73 rfl rfl ?_
  refine zx_aloadN dX10_partsOf_74 rfl rfl ?_
  refine zy_getR (q' := 270) fl_RX10_38 rfl dX10_partsOf_75 rfl ?_
  refine zx_iloadN dX10_partsOf_78 rfl rfl ?_
  refine zx_iconst dX10_partsOf_79 ?_
  refine zx_iadd dX10_partsOf_80 ?_
  refine zy_top (b := ((to + 1 : Nat) : Int)) (by omega) ?_
  refine zy_iald (v := if (u1 t n S).2.1 = 0 then kdv t n (u1 t n S).1 else 0) rfl (by decide) (by decide) dX10_partsOf_81 (by omega) (by omega) (zput_s _ _ _ _) ?_
  have e82 : pNum t n (u2 t n S) (loM (if (u1 t n S).2.1 = 0 then kdv t n (u1 t n S).1 else 0)) (hiK D (if (u1 t n S).2.1 = 0 then kdv t n (u1 t n S).1 else 0)) = u3 t n D S := by
    unfold u3
    refine pNum_lo (fun q => ?_)
    have hk := pKd_s (t := t) (n := n) (S := u1 t n S) q
    have hkr := kdv_r t n (u1 t n S).1
    have hkn := hk.2.1
    rw [if_pos hk.1]
    refine ⟨?_, rfl⟩
    unfold loM loK
    (repeat' split) <;> omega
  refine zy_cvR [zi (if (u1 t n S).2.1 = 0 then kdv t n (u1 t n S).1 else 0)] (sX10_valueHere (D := D) (S := (u2 t n S)) hfl (zOK_put hz62 (by first | exact hz62 _ _ | assumption | exact zr_b _ | exact zcmp_r _ _ | (unfold zr at *; omega))) (by first | assumption | omega) (by first | exact hR62 | (refine Rel_put (by decide) ?_; exact hR62) | (show Rel D ((zput τ62 270 _ _).1 262); exact (mfr_R (mfr_put (A := fun q => q = 270) (F := fun _ => False) (mfr_rf _ _ _) rfl (by decide)) (by decide) hR62))) (PM_put hq62) (by split; (have := kdv_r t n (u1 t n S).1; omega); omega)) dX10_partsOf_82 (by decide) rfl cw_RX10_320 okX10_valueHere rfl (Nat.le_of_ble_eq_true rfl) ⟨Nat.le_of_ble_eq_true rfl, Nat.le_of_ble_eq_true rfl, Nat.le_of_ble_eq_true rfl, Nat.le_of_ble_eq_true rfl⟩ (fun τ82 hr82 => ?_)
  have hz82 : zOK τ82 := hr82.1
  refine zy_top (b := if (u3 t n D S).2.1 = 0 then pV t n (u2 t n S).1 else loM (if (u1 t n S).2.1 = 0 then kdv t n (u1 t n S).1 else 0)) (by rw [e82]) ?_
  have hq82 : PM t n (u3 t n D S) τ82 := by rw [← e82]; exact hr82.2.2
  have hm82 : MT σ τ82 := MT_x (MT_p hm62) hr82.2.1
  have hR82 : Rel D (τ82.1 262) := mfr_R hm82 (by decide) hR0
  have hv82 : zr (if (u3 t n D S).2.1 = 0 then pV t n (u2 t n S).1 else loM (if (u1 t n S).2.1 = 0 then kdv t n (u1 t n S).1 else 0)) := by
    split
    · rename_i zz; have := pNum_v zz; unfold zr; omega
    · unfold zr loM; split <;> omega
  refine zy_iast (i := to + 2) rfl (by decide) (by decide) dX10_partsOf_85 (by omega) (by omega) rfl ?_
  refine zx_aloadN dX10_partsOf_86 rfl rfl ?_
  refine zy_getR (q' := 270) fl_RX10_38 rfl dX10_partsOf_87 rfl ?_
  refine zx_iloadN dX10_partsOf_90 rfl rfl ?_
  refine zx_iconst dX10_partsOf_91 ?_
  refine zx_iadd dX10_partsOf_92 ?_
  refine zy_top (b := ((to + 3 : Nat) : Int)) (by omega) ?_
  refine zx_aloadN dX10_partsOf_93 rfl rfl ?_
  refine zx_iconst dX10_partsOf_94 ?_
  refine zx_bipush dX10_partsOf_95 rfl ?_
  refine zy_cvR [zi 1, zi 9] (sX10_number (S := (u3 t n D S)) (a := 1) (b := 9) hfl (zOK_put hz82 (by first | exact hz82 _ _ | assumption | exact zr_b _ | exact zcmp_r _ _ | (unfold zr at *; omega))) (PM_put hq82) (by first | exact hz82 _ _ | assumption | exact zr_b _ | exact zcmp_r _ _ | (unfold zr at *; omega)) (by first | exact hz82 _ _ | assumption | exact zr_b _ | exact zcmp_r _ _ | (unfold zr at *; omega))) dX10_partsOf_97 (by decide) rfl cw_RX10_282 okX10_number rfl (Nat.le_of_ble_eq_true rfl) ⟨Nat.le_of_ble_eq_true rfl, Nat.le_of_ble_eq_true rfl, Nat.le_of_ble_eq_true rfl, Nat.le_of_ble_eq_true rfl⟩ (fun τ97 hr97 => ?_)
  have hz97 : zOK τ97 := hr97.1
  refine zy_top (b := if (u4 t n D S).2.1 = 0 then pV t n (u3 t n D S).1 else 1) (rfl) ?_
  have hq97 : PM t n (u4 t n D S) τ97 := hr97.2.2
  have hm97 : MT σ τ97 := MT_x (MT_p hm82) hr97.2.1
  have hR97 : Rel D (τ97.1 262) := mfr_R hm97 (by decide) hR0
  have hv97 : zr (if (u4 t n D S).2.1 = 0 then pV t n (u3 t n D S).1 else 1) := by
    split
    · rename_i zz; have := pNum_v zz; unfold zr; omega
    · unfold zr; omega
  refine zy_iast (i := to + 3) rfl (by decide) (by decide) dX10_partsOf_100 (by omega) (by omega) rfl ?_
  refine zx_vret rfl dX10_partsOf_101 ?_
  rw [hQ]
  refine ⟨rfl, ?_⟩
  have hV : (u4 t n D S).2.1 = 0 → ((zput τ97 270 (to + 3) (if (u4 t n D S).2.1 = 0 then pV t n (u3 t n D S).1 else 1)).1 270 to = cV t n x D S 1 ∧ ((x = 0 ∨ x = 4 ∨ x = 5) → (zput τ97 270 (to + 3) (if (u4 t n D S).2.1 = 0 then pV t n (u3 t n D S).1 else 1)).1 270 (to + 1) = cV t n x D S 2) ∧ ((x = 0 ∨ x = 5) → (zput τ97 270 (to + 3) (if (u4 t n D S).2.1 = 0 then pV t n (u3 t n D S).1 else 1)).1 270 (to + 2) = cV t n x D S 3) ∧ (x = 0 → (zput τ97 270 (to + 3) (if (u4 t n D S).2.1 = 0 then pV t n (u3 t n D S).1 else 1)).1 270 (to + 3) = cV t n x D S 4)) := fun z => by
    have s3 := pNum_s (t := t) (n := n) (S := u3 t n D S) z
    have s2 := pNum_s (t := t) (n := n) (S := u2 t n S) s3.1
    have s1 := pKd_s (t := t) (n := n) (S := u1 t n S) s2.1
    have s0 := pNum_s (t := t) (n := n) (S := S) s1.1
    exact ⟨(by rw [zput_i _ _ _ _ _ (by omega), MX_270 hr97.2.1, zput_i _ _ _ _ _ (by omega), MX_270 hr82.2.1, zput_i _ _ _ _ _ (by omega), MX_270 hr62.2.1, zput_s, if_pos s1.1]; rw [hs]; rfl), fun _ => by rw [zput_i _ _ _ _ _ (by omega), MX_270 hr97.2.1, zput_i _ _ _ _ _ (by omega), MX_270 hr82.2.1, zput_s, if_pos s1.1]; rw [hs]; rfl, fun _ => by rw [zput_i _ _ _ _ _ (by omega), MX_270 hr97.2.1, zput_s, if_pos s3.1]; rw [hs]; rfl, fun _ => by rw [zput_s, if_pos z]; rw [hs]; rfl⟩
  refine ⟨(zOK_put hz97 (by first | exact hz97 _ _ | assumption | exact zr_b _ | exact zcmp_r _ _ | (unfold zr at *; omega))), MT_p hm97, fun i hi => by rw [zput_i _ _ _ _ _ (by omega), MX_270 hr97.2.1, zput_i _ _ _ _ _ (by omega), MX_270 hr82.2.1, zput_i _ _ _ _ _ (by omega), MX_270 hr62.2.1, zput_i _ _ _ _ _ (by omega), MX_270 hr50.2.1], by rw [e1]; exact PM_put hq97, by rw [e1]; exact hV⟩
set_option maxRecDepth 20000 in
set_option maxHeartbeats 2000000 in
theorem sX10_partsOf_1 {l : Launch} {w : zW} (hfl : l.stackTraces = false) {σ : zS} {D : zBk} {t : Nat → Int} {n : Nat} {S : zP} {x : Int} {to : Nat} (hz : zOK σ) (hW : WF D) (hR : Rel D (σ.1 262)) (hU : PM t n S σ) (hto : to + 4 ≤ 150) (hs : x = 1) : Sp l w mX10_partsOf 6 0 [zf 10 261, zi x, zi ((to : Nat) : Int)] σ (zqv (none) (fun τ => zOK τ ∧ MT σ τ ∧ (∀ i, (i < to ∨ to + 3 < i) → τ.1 270 i = σ.1 270 i) ∧ PM t n (cP t n x D S) τ ∧ ((cP t n x D S).2.1 = 0 → τ.1 270 to = cV t n x D S 1 ∧ ((x = 0 ∨ x = 4 ∨ x = 5) → τ.1 270 (to + 1) = cV t n x D S 2) ∧ ((x = 0 ∨ x = 5) → τ.1 270 (to + 2) = cV t n x D S 3) ∧ (x = 0 → τ.1 270 (to + 3) = cV t n x D S 4)))) := by
  obtain ⟨Q, hQ⟩ : ∃ Q : zQ, Q = (zqv (none) (fun τ => zOK τ ∧ MT σ τ ∧ (∀ i, (i < to ∨ to + 3 < i) → τ.1 270 i = σ.1 270 i) ∧ PM t n (cP t n x D S) τ ∧ ((cP t n x D S).2.1 = 0 → τ.1 270 to = cV t n x D S 1 ∧ ((x = 0 ∨ x = 4 ∨ x = 5) → τ.1 270 (to + 1) = cV t n x D S 2) ∧ ((x = 0 ∨ x = 5) → τ.1 270 (to + 2) = cV t n x D S 3) ∧ (x = 0 → τ.1 270 (to + 3) = cV t n x D S 4)))) := ⟨_, rfl⟩
  rw [← hQ]
  refine zx_enter hfl (by decide) rfl 0 rfl ?_
  show zX l w mX10_partsOf (zMQ w 6 0 Q) 0 [zf 10 261, zi x, zi ((to : Nat) : Int)] [] 0 σ
  have hP : 0 ≤ D 1 0 ∧ D 1 0 ≤ 8 := hW.1.1
  have hM : 0 ≤ D 1 7 ∧ D 1 7 ≤ 8 := hW.1.2.1
  have hE : 0 ≤ D 1 10 ∧ D 1 10 ≤ 12 := hW.1.2.2.1
  have hK : 0 ≤ D 12 0 ∧ D 12 0 ≤ 40 := hW.1.2.2.2
  have r0 : σ.1 262 0 = D 1 0 := hR.1.1
  have r1 : σ.1 262 1 = D 1 7 := hR.1.2.1
  have r2 : σ.1 262 2 = D 1 10 := hR.1.2.2.1
  have r3 : σ.1 262 3 = D 12 0 := hR.1.2.2.2
  have hpp := hU.2.2.1
  have hzx : zr x := by unfold zr; omega
  have e1 : cP t n x D S = a1 t n 1 40 S := by rw [hs]; rfl
  have hR0 := hR
  refine zx_iloadN dX10_partsOf_0 rfl rfl ?_
  refine zy_top (b := 1) (hs) ?_
  refine zx_tableIn (off := 101) (tgt := 102) (by unfold zr; omega) dX10_partsOf_1 (by omega) (by omega) rfl (by decide) ?_
  refine zx_aloadN dX10_partsOf_102 rfl rfl ?_
  refine zy_getR (q' := 270) fl_RX10_38 rfl dX10_partsOf_103 rfl ?_
  refine zx_iloadN dX10_partsOf_106 rfl rfl ?_
  refine zx_aloadN dX10_partsOf_107 rfl rfl ?_
  refine zx_iconst dX10_partsOf_108 ?_
  refine zx_bipush dX10_partsOf_109 rfl ?_
  refine zy_cvR [zi 1, zi 40] (sX10_number (S := S) (a := 1) (b := 40) hfl hz hU (by first | exact hz _ _ | assumption | exact zr_b _ | exact zcmp_r _ _ | (unfold zr at *; omega)) (by first | exact hz _ _ | assumption | exact zr_b _ | exact zcmp_r _ _ | (unfold zr at *; omega))) dX10_partsOf_111 (by decide) rfl cw_RX10_282 okX10_number rfl (Nat.le_of_ble_eq_true rfl) ⟨Nat.le_of_ble_eq_true rfl, Nat.le_of_ble_eq_true rfl, Nat.le_of_ble_eq_true rfl, Nat.le_of_ble_eq_true rfl⟩ (fun τ111 hr111 => ?_)
  have hz111 : zOK τ111 := hr111.1
  refine zy_top (b := if (a1 t n 1 40 S).2.1 = 0 then pV t n (S).1 else 1) (rfl) ?_
  have hq111 : PM t n (a1 t n 1 40 S) τ111 := hr111.2.2
  have hm111 : MT σ τ111 := MT_x (MT_rf _) hr111.2.1
  have hR111 : Rel D (τ111.1 262) := mfr_R hm111 (by decide) hR0
  have hv111 : zr (if (a1 t n 1 40 S).2.1 = 0 then pV t n (S).1 else 1) := by
    split
    · rename_i zz; have := pNum_v zz; unfold zr; omega
    · unfold zr; omega
  refine zy_iast (i := to) rfl (by decide) (by decide) dX10_partsOf_114 (by omega) (by omega) rfl ?_
  refine zx_vret rfl dX10_partsOf_115 ?_
  rw [hQ]
  refine ⟨rfl, ?_⟩
  have hV : (a1 t n 1 40 S).2.1 = 0 → ((zput τ111 270 to (if (a1 t n 1 40 S).2.1 = 0 then pV t n (S).1 else 1)).1 270 to = cV t n x D S 1 ∧ ((x = 0 ∨ x = 4 ∨ x = 5) → (zput τ111 270 to (if (a1 t n 1 40 S).2.1 = 0 then pV t n (S).1 else 1)).1 270 (to + 1) = cV t n x D S 2) ∧ ((x = 0 ∨ x = 5) → (zput τ111 270 to (if (a1 t n 1 40 S).2.1 = 0 then pV t n (S).1 else 1)).1 270 (to + 2) = cV t n x D S 3) ∧ (x = 0 → (zput τ111 270 to (if (a1 t n 1 40 S).2.1 = 0 then pV t n (S).1 else 1)).1 270 (to + 3) = cV t n x D S 4)) := fun z => by
    have z0 := z
    exact ⟨(by rw [zput_s, if_pos z]; rw [hs]; rfl), fun q => by omega, fun q => by omega, fun q => by omega⟩
  refine ⟨(zOK_put hz111 (by first | exact hz111 _ _ | assumption | exact zr_b _ | exact zcmp_r _ _ | (unfold zr at *; omega))), MT_p hm111, fun i hi => by rw [zput_i _ _ _ _ _ (by omega), MX_270 hr111.2.1], by rw [e1]; exact PM_put hq111, by rw [e1]; exact hV⟩
set_option maxRecDepth 20000 in
set_option maxHeartbeats 2000000 in
theorem sX10_partsOf_2 {l : Launch} {w : zW} (hfl : l.stackTraces = false) {σ : zS} {D : zBk} {t : Nat → Int} {n : Nat} {S : zP} {x : Int} {to : Nat} (hz : zOK σ) (hW : WF D) (hR : Rel D (σ.1 262)) (hU : PM t n S σ) (hto : to + 4 ≤ 150) (hs : x = 2) : Sp l w mX10_partsOf 6 0 [zf 10 261, zi x, zi ((to : Nat) : Int)] σ (zqv (none) (fun τ => zOK τ ∧ MT σ τ ∧ (∀ i, (i < to ∨ to + 3 < i) → τ.1 270 i = σ.1 270 i) ∧ PM t n (cP t n x D S) τ ∧ ((cP t n x D S).2.1 = 0 → τ.1 270 to = cV t n x D S 1 ∧ ((x = 0 ∨ x = 4 ∨ x = 5) → τ.1 270 (to + 1) = cV t n x D S 2) ∧ ((x = 0 ∨ x = 5) → τ.1 270 (to + 2) = cV t n x D S 3) ∧ (x = 0 → τ.1 270 (to + 3) = cV t n x D S 4)))) := by
  obtain ⟨Q, hQ⟩ : ∃ Q : zQ, Q = (zqv (none) (fun τ => zOK τ ∧ MT σ τ ∧ (∀ i, (i < to ∨ to + 3 < i) → τ.1 270 i = σ.1 270 i) ∧ PM t n (cP t n x D S) τ ∧ ((cP t n x D S).2.1 = 0 → τ.1 270 to = cV t n x D S 1 ∧ ((x = 0 ∨ x = 4 ∨ x = 5) → τ.1 270 (to + 1) = cV t n x D S 2) ∧ ((x = 0 ∨ x = 5) → τ.1 270 (to + 2) = cV t n x D S 3) ∧ (x = 0 → τ.1 270 (to + 3) = cV t n x D S 4)))) := ⟨_, rfl⟩
  rw [← hQ]
  refine zx_enter hfl (by decide) rfl 0 rfl ?_
  show zX l w mX10_partsOf (zMQ w 6 0 Q) 0 [zf 10 261, zi x, zi ((to : Nat) : Int)] [] 0 σ
  have hP : 0 ≤ D 1 0 ∧ D 1 0 ≤ 8 := hW.1.1
  have hM : 0 ≤ D 1 7 ∧ D 1 7 ≤ 8 := hW.1.2.1
  have hE : 0 ≤ D 1 10 ∧ D 1 10 ≤ 12 := hW.1.2.2.1
  have hK : 0 ≤ D 12 0 ∧ D 12 0 ≤ 40 := hW.1.2.2.2
  have r0 : σ.1 262 0 = D 1 0 := hR.1.1
  have r1 : σ.1 262 1 = D 1 7 := hR.1.2.1
  have r2 : σ.1 262 2 = D 1 10 := hR.1.2.2.1
  have r3 : σ.1 262 3 = D 12 0 := hR.1.2.2.2
  have hpp := hU.2.2.1
  have hzx : zr x := by unfold zr; omega
  have e1 : cP t n x D S = a1 t n 0 39 S := by rw [hs]; rfl
  have hR0 := hR
  refine zx_iloadN dX10_partsOf_0 rfl rfl ?_
  refine zy_top (b := 2) (hs) ?_
  refine zx_tableIn (off := 179) (tgt := 180) (by unfold zr; omega) dX10_partsOf_1 (by omega) (by omega) rfl (by decide) ?_
  refine zx_aloadN dX10_partsOf_180 rfl rfl ?_
  refine zy_getR (q' := 270) fl_RX10_38 rfl dX10_partsOf_181 rfl ?_
  refine zx_iloadN dX10_partsOf_184 rfl rfl ?_
  refine zx_aloadN dX10_partsOf_185 rfl rfl ?_
  refine zy_cvR [] (sX10_clueHere (S := S) hfl hz hU) dX10_partsOf_186 (by decide) rfl cw_RX10_360 okX10_clueHere rfl (Nat.le_of_ble_eq_true rfl) ⟨Nat.le_of_ble_eq_true rfl, Nat.le_of_ble_eq_true rfl, Nat.le_of_ble_eq_true rfl, Nat.le_of_ble_eq_true rfl⟩ (fun τ186 hr186 => ?_)
  have hz186 : zOK τ186 := hr186.1
  refine zy_top (b := if (a1 t n 0 39 S).2.1 = 0 then pV t n (S).1 else 0) (rfl) ?_
  have hq186 : PM t n (a1 t n 0 39 S) τ186 := hr186.2.2
  have hm186 : MT σ τ186 := MT_x (MT_rf _) hr186.2.1
  have hR186 : Rel D (τ186.1 262) := mfr_R hm186 (by decide) hR0
  have hv186 : zr (if (a1 t n 0 39 S).2.1 = 0 then pV t n (S).1 else 0) := by
    split
    · rename_i zz; have := pNum_v zz; unfold zr; omega
    · unfold zr; omega
  refine zy_iast (i := to) rfl (by decide) (by decide) dX10_partsOf_189 (by omega) (by omega) rfl ?_
  refine zx_vret rfl dX10_partsOf_190 ?_
  rw [hQ]
  refine ⟨rfl, ?_⟩
  have hV : (a1 t n 0 39 S).2.1 = 0 → ((zput τ186 270 to (if (a1 t n 0 39 S).2.1 = 0 then pV t n (S).1 else 0)).1 270 to = cV t n x D S 1 ∧ ((x = 0 ∨ x = 4 ∨ x = 5) → (zput τ186 270 to (if (a1 t n 0 39 S).2.1 = 0 then pV t n (S).1 else 0)).1 270 (to + 1) = cV t n x D S 2) ∧ ((x = 0 ∨ x = 5) → (zput τ186 270 to (if (a1 t n 0 39 S).2.1 = 0 then pV t n (S).1 else 0)).1 270 (to + 2) = cV t n x D S 3) ∧ (x = 0 → (zput τ186 270 to (if (a1 t n 0 39 S).2.1 = 0 then pV t n (S).1 else 0)).1 270 (to + 3) = cV t n x D S 4)) := fun z => by
    have z0 := z
    exact ⟨(by rw [zput_s, if_pos z]; rw [hs]; rfl), fun q => by omega, fun q => by omega, fun q => by omega⟩
  refine ⟨(zOK_put hz186 (by first | exact hz186 _ _ | assumption | exact zr_b _ | exact zcmp_r _ _ | (unfold zr at *; omega))), MT_p hm186, fun i hi => by rw [zput_i _ _ _ _ _ (by omega), MX_270 hr186.2.1], by rw [e1]; exact PM_put hq186, by rw [e1]; exact hV⟩
set_option maxRecDepth 20000 in
set_option maxHeartbeats 2000000 in
theorem sX10_partsOf_3 {l : Launch} {w : zW} (hfl : l.stackTraces = false) {σ : zS} {D : zBk} {t : Nat → Int} {n : Nat} {S : zP} {x : Int} {to : Nat} (hz : zOK σ) (hW : WF D) (hR : Rel D (σ.1 262)) (hU : PM t n S σ) (hto : to + 4 ≤ 150) (hs : x = 3) : Sp l w mX10_partsOf 6 0 [zf 10 261, zi x, zi ((to : Nat) : Int)] σ (zqv (none) (fun τ => zOK τ ∧ MT σ τ ∧ (∀ i, (i < to ∨ to + 3 < i) → τ.1 270 i = σ.1 270 i) ∧ PM t n (cP t n x D S) τ ∧ ((cP t n x D S).2.1 = 0 → τ.1 270 to = cV t n x D S 1 ∧ ((x = 0 ∨ x = 4 ∨ x = 5) → τ.1 270 (to + 1) = cV t n x D S 2) ∧ ((x = 0 ∨ x = 5) → τ.1 270 (to + 2) = cV t n x D S 3) ∧ (x = 0 → τ.1 270 (to + 3) = cV t n x D S 4)))) := by
  obtain ⟨Q, hQ⟩ : ∃ Q : zQ, Q = (zqv (none) (fun τ => zOK τ ∧ MT σ τ ∧ (∀ i, (i < to ∨ to + 3 < i) → τ.1 270 i = σ.1 270 i) ∧ PM t n (cP t n x D S) τ ∧ ((cP t n x D S).2.1 = 0 → τ.1 270 to = cV t n x D S 1 ∧ ((x = 0 ∨ x = 4 ∨ x = 5) → τ.1 270 (to + 1) = cV t n x D S 2) ∧ ((x = 0 ∨ x = 5) → τ.1 270 (to + 2) = cV t n x D S 3) ∧ (x = 0 → τ.1 270 (to + 3) = cV t n x D S 4)))) := ⟨_, rfl⟩
  rw [← hQ]
  refine zx_enter hfl (by decide) rfl 0 rfl ?_
  show zX l w mX10_partsOf (zMQ w 6 0 Q) 0 [zf 10 261, zi x, zi ((to : Nat) : Int)] [] 0 σ
  have hP : 0 ≤ D 1 0 ∧ D 1 0 ≤ 8 := hW.1.1
  have hM : 0 ≤ D 1 7 ∧ D 1 7 ≤ 8 := hW.1.2.1
  have hE : 0 ≤ D 1 10 ∧ D 1 10 ≤ 12 := hW.1.2.2.1
  have hK : 0 ≤ D 12 0 ∧ D 12 0 ≤ 40 := hW.1.2.2.2
  have r0 : σ.1 262 0 = D 1 0 := hR.1.1
  have r1 : σ.1 262 1 = D 1 7 := hR.1.2.1
  have r2 : σ.1 262 2 = D 1 10 := hR.1.2.2.1
  have r3 : σ.1 262 3 = D 12 0 := hR.1.2.2.2
  have hpp := hU.2.2.1
  have hzx : zr x := by unfold zr; omega
  have e1 : cP t n x D S = a1 t n 0 39 S := by rw [hs]; rfl
  have hR0 := hR
  refine zx_iloadN dX10_partsOf_0 rfl rfl ?_
  refine zy_top (b := 3) (hs) ?_
  refine zx_tableIn (off := 179) (tgt := 180) (by unfold zr; omega) dX10_partsOf_1 (by omega) (by omega) rfl (by decide) ?_
  refine zx_aloadN dX10_partsOf_180 rfl rfl ?_
  refine zy_getR (q' := 270) fl_RX10_38 rfl dX10_partsOf_181 rfl ?_
  refine zx_iloadN dX10_partsOf_184 rfl rfl ?_
  refine zx_aloadN dX10_partsOf_185 rfl rfl ?_
  refine zy_cvR [] (sX10_clueHere (S := S) hfl hz hU) dX10_partsOf_186 (by decide) rfl cw_RX10_360 okX10_clueHere rfl (Nat.le_of_ble_eq_true rfl) ⟨Nat.le_of_ble_eq_true rfl, Nat.le_of_ble_eq_true rfl, Nat.le_of_ble_eq_true rfl, Nat.le_of_ble_eq_true rfl⟩ (fun τ186 hr186 => ?_)
  have hz186 : zOK τ186 := hr186.1
  refine zy_top (b := if (a1 t n 0 39 S).2.1 = 0 then pV t n (S).1 else 0) (rfl) ?_
  have hq186 : PM t n (a1 t n 0 39 S) τ186 := hr186.2.2
  have hm186 : MT σ τ186 := MT_x (MT_rf _) hr186.2.1
  have hR186 : Rel D (τ186.1 262) := mfr_R hm186 (by decide) hR0
  have hv186 : zr (if (a1 t n 0 39 S).2.1 = 0 then pV t n (S).1 else 0) := by
    split
    · rename_i zz; have := pNum_v zz; unfold zr; omega
    · unfold zr; omega
  refine zy_iast (i := to) rfl (by decide) (by decide) dX10_partsOf_189 (by omega) (by omega) rfl ?_
  refine zx_vret rfl dX10_partsOf_190 ?_
  rw [hQ]
  refine ⟨rfl, ?_⟩
  have hV : (a1 t n 0 39 S).2.1 = 0 → ((zput τ186 270 to (if (a1 t n 0 39 S).2.1 = 0 then pV t n (S).1 else 0)).1 270 to = cV t n x D S 1 ∧ ((x = 0 ∨ x = 4 ∨ x = 5) → (zput τ186 270 to (if (a1 t n 0 39 S).2.1 = 0 then pV t n (S).1 else 0)).1 270 (to + 1) = cV t n x D S 2) ∧ ((x = 0 ∨ x = 5) → (zput τ186 270 to (if (a1 t n 0 39 S).2.1 = 0 then pV t n (S).1 else 0)).1 270 (to + 2) = cV t n x D S 3) ∧ (x = 0 → (zput τ186 270 to (if (a1 t n 0 39 S).2.1 = 0 then pV t n (S).1 else 0)).1 270 (to + 3) = cV t n x D S 4)) := fun z => by
    have z0 := z
    exact ⟨(by rw [zput_s, if_pos z]; rw [hs]; rfl), fun q => by omega, fun q => by omega, fun q => by omega⟩
  refine ⟨(zOK_put hz186 (by first | exact hz186 _ _ | assumption | exact zr_b _ | exact zcmp_r _ _ | (unfold zr at *; omega))), MT_p hm186, fun i hi => by rw [zput_i _ _ _ _ _ (by omega), MX_270 hr186.2.1], by rw [e1]; exact PM_put hq186, by rw [e1]; exact hV⟩
set_option maxRecDepth 20000 in
set_option maxHeartbeats 2000000 in
theorem sX10_partsOf_4 {l : Launch} {w : zW} (hfl : l.stackTraces = false) {σ : zS} {D : zBk} {t : Nat → Int} {n : Nat} {S : zP} {x : Int} {to : Nat} (hz : zOK σ) (hW : WF D) (hR : Rel D (σ.1 262)) (hU : PM t n S σ) (hto : to + 4 ≤ 150) (hs : x = 4) : Sp l w mX10_partsOf 6 0 [zf 10 261, zi x, zi ((to : Nat) : Int)] σ (zqv (none) (fun τ => zOK τ ∧ MT σ τ ∧ (∀ i, (i < to ∨ to + 3 < i) → τ.1 270 i = σ.1 270 i) ∧ PM t n (cP t n x D S) τ ∧ ((cP t n x D S).2.1 = 0 → τ.1 270 to = cV t n x D S 1 ∧ ((x = 0 ∨ x = 4 ∨ x = 5) → τ.1 270 (to + 1) = cV t n x D S 2) ∧ ((x = 0 ∨ x = 5) → τ.1 270 (to + 2) = cV t n x D S 3) ∧ (x = 0 → τ.1 270 (to + 3) = cV t n x D S 4)))) := by
  obtain ⟨Q, hQ⟩ : ∃ Q : zQ, Q = (zqv (none) (fun τ => zOK τ ∧ MT σ τ ∧ (∀ i, (i < to ∨ to + 3 < i) → τ.1 270 i = σ.1 270 i) ∧ PM t n (cP t n x D S) τ ∧ ((cP t n x D S).2.1 = 0 → τ.1 270 to = cV t n x D S 1 ∧ ((x = 0 ∨ x = 4 ∨ x = 5) → τ.1 270 (to + 1) = cV t n x D S 2) ∧ ((x = 0 ∨ x = 5) → τ.1 270 (to + 2) = cV t n x D S 3) ∧ (x = 0 → τ.1 270 (to + 3) = cV t n x D S 4)))) := ⟨_, rfl⟩
  rw [← hQ]
  refine zx_enter hfl (by decide) rfl 0 rfl ?_
  show zX l w mX10_partsOf (zMQ w 6 0 Q) 0 [zf 10 261, zi x, zi ((to : Nat) : Int)] [] 0 σ
  have hP : 0 ≤ D 1 0 ∧ D 1 0 ≤ 8 := hW.1.1
  have hM : 0 ≤ D 1 7 ∧ D 1 7 ≤ 8 := hW.1.2.1
  have hE : 0 ≤ D 1 10 ∧ D 1 10 ≤ 12 := hW.1.2.2.1
  have hK : 0 ≤ D 12 0 ∧ D 12 0 ≤ 40 := hW.1.2.2.2
  have r0 : σ.1 262 0 = D 1 0 := hR.1.1
  have r1 : σ.1 262 1 = D 1 7 := hR.1.2.1
  have r2 : σ.1 262 2 = D 1 10 := hR.1.2.2.1
  have r3 : σ.1 262 3 = D 12 0 := hR.1.2.2.2
  have hpp := hU.2.2.1
  have hzx : zr x := by unfold zr; omega
  have e1 : cP t n x D S = g1 t n S := by rw [hs]; rfl
  have hR0 := hR
  refine zx_iloadN dX10_partsOf_0 rfl rfl ?_
  refine zy_top (b := 4) (hs) ?_
  refine zx_tableIn (off := 115) (tgt := 116) (by unfold zr; omega) dX10_partsOf_1 (by omega) (by omega) rfl (by decide) ?_
  refine zx_aloadN dX10_partsOf_116 rfl rfl ?_
  refine zy_getR (q' := 270) fl_RX10_38 rfl dX10_partsOf_117 rfl ?_
  refine zx_iloadN dX10_partsOf_120 rfl rfl ?_
  refine zx_aloadN dX10_partsOf_121 rfl rfl ?_
  refine zy_cvR [] (sX10_clueHere (S := S) hfl hz hU) dX10_partsOf_122 (by decide) rfl cw_RX10_360 okX10_clueHere rfl (Nat.le_of_ble_eq_true rfl) ⟨Nat.le_of_ble_eq_true rfl, Nat.le_of_ble_eq_true rfl, Nat.le_of_ble_eq_true rfl, Nat.le_of_ble_eq_true rfl⟩ (fun τ122 hr122 => ?_)
  have hz122 : zOK τ122 := hr122.1
  refine zy_top (b := if (a1 t n 0 39 S).2.1 = 0 then pV t n (S).1 else 0) (rfl) ?_
  have hq122 : PM t n (a1 t n 0 39 S) τ122 := hr122.2.2
  have hm122 : MT σ τ122 := MT_x (MT_rf _) hr122.2.1
  have hR122 : Rel D (τ122.1 262) := mfr_R hm122 (by decide) hR0
  have hv122 : zr (if (a1 t n 0 39 S).2.1 = 0 then pV t n (S).1 else 0) := by
    split
    · rename_i zz; have := pNum_v zz; unfold zr; omega
    · unfold zr; omega
  refine zy_iast (i := to) rfl (by decide) (by decide) dX10_partsOf_125 (by omega) (by omega) rfl ?_
  refine zx_aloadN dX10_partsOf_126 rfl rfl ?_
  refine zy_getR (q' := 270) fl_RX10_38 rfl dX10_partsOf_127 rfl ?_
  refine zx_iloadN dX10_partsOf_130 rfl rfl ?_
  refine zx_iconst dX10_partsOf_131 ?_
  refine zx_iadd dX10_partsOf_132 ?_
  refine zy_top (b := ((to + 1 : Nat) : Int)) (by omega) ?_
  refine zx_aloadN dX10_partsOf_133 rfl rfl ?_
  refine zx_iconst dX10_partsOf_134 ?_
  refine zx_bipush dX10_partsOf_135 rfl ?_
  refine zy_cvR [zi 1, zi 9] (sX10_number (S := (a1 t n 0 39 S)) (a := 1) (b := 9) hfl (zOK_put hz122 (by first | exact hz122 _ _ | assumption | exact zr_b _ | exact zcmp_r _ _ | (unfold zr at *; omega))) (PM_put hq122) (by first | exact hz122 _ _ | assumption | exact zr_b _ | exact zcmp_r _ _ | (unfold zr at *; omega)) (by first | exact hz122 _ _ | assumption | exact zr_b _ | exact zcmp_r _ _ | (unfold zr at *; omega))) dX10_partsOf_137 (by decide) rfl cw_RX10_282 okX10_number rfl (Nat.le_of_ble_eq_true rfl) ⟨Nat.le_of_ble_eq_true rfl, Nat.le_of_ble_eq_true rfl, Nat.le_of_ble_eq_true rfl, Nat.le_of_ble_eq_true rfl⟩ (fun τ137 hr137 => ?_)
  have hz137 : zOK τ137 := hr137.1
  refine zy_top (b := if (g1 t n S).2.1 = 0 then pV t n (a1 t n 0 39 S).1 else 1) (rfl) ?_
  have hq137 : PM t n (g1 t n S) τ137 := hr137.2.2
  have hm137 : MT σ τ137 := MT_x (MT_p hm122) hr137.2.1
  have hR137 : Rel D (τ137.1 262) := mfr_R hm137 (by decide) hR0
  have hv137 : zr (if (g1 t n S).2.1 = 0 then pV t n (a1 t n 0 39 S).1 else 1) := by
    split
    · rename_i zz; have := pNum_v zz; unfold zr; omega
    · unfold zr; omega
  refine zy_iast (i := to + 1) rfl (by decide) (by decide) dX10_partsOf_140 (by omega) (by omega) rfl ?_
  refine zx_vret rfl dX10_partsOf_141 ?_
  rw [hQ]
  refine ⟨rfl, ?_⟩
  have hV : (g1 t n S).2.1 = 0 → ((zput τ137 270 (to + 1) (if (g1 t n S).2.1 = 0 then pV t n (a1 t n 0 39 S).1 else 1)).1 270 to = cV t n x D S 1 ∧ ((x = 0 ∨ x = 4 ∨ x = 5) → (zput τ137 270 (to + 1) (if (g1 t n S).2.1 = 0 then pV t n (a1 t n 0 39 S).1 else 1)).1 270 (to + 1) = cV t n x D S 2) ∧ ((x = 0 ∨ x = 5) → (zput τ137 270 (to + 1) (if (g1 t n S).2.1 = 0 then pV t n (a1 t n 0 39 S).1 else 1)).1 270 (to + 2) = cV t n x D S 3) ∧ (x = 0 → (zput τ137 270 (to + 1) (if (g1 t n S).2.1 = 0 then pV t n (a1 t n 0 39 S).1 else 1)).1 270 (to + 3) = cV t n x D S 4)) := fun z => by
    have s1 := pNum_s (t := t) (n := n) (S := a1 t n 0 39 S) z
    exact ⟨(by rw [zput_i _ _ _ _ _ (by omega), MX_270 hr137.2.1, zput_s, if_pos s1.1]; rw [hs]; rfl), fun _ => by rw [zput_s, if_pos z]; rw [hs]; rfl, fun q => by omega, fun q => by omega⟩
  refine ⟨(zOK_put hz137 (by first | exact hz137 _ _ | assumption | exact zr_b _ | exact zcmp_r _ _ | (unfold zr at *; omega))), MT_p hm137, fun i hi => by rw [zput_i _ _ _ _ _ (by omega), MX_270 hr137.2.1, zput_i _ _ _ _ _ (by omega), MX_270 hr122.2.1], by rw [e1]; exact PM_put hq137, by rw [e1]; exact hV⟩
set_option maxRecDepth 20000 in
set_option maxHeartbeats 2000000 in
theorem sX10_partsOf_5 {l : Launch} {w : zW} (hfl : l.stackTraces = false) {σ : zS} {D : zBk} {t : Nat → Int} {n : Nat} {S : zP} {x : Int} {to : Nat} (hz : zOK σ) (hW : WF D) (hR : Rel D (σ.1 262)) (hU : PM t n S σ) (hto : to + 4 ≤ 150) (hs : x = 5) : Sp l w mX10_partsOf 6 0 [zf 10 261, zi x, zi ((to : Nat) : Int)] σ (zqv (none) (fun τ => zOK τ ∧ MT σ τ ∧ (∀ i, (i < to ∨ to + 3 < i) → τ.1 270 i = σ.1 270 i) ∧ PM t n (cP t n x D S) τ ∧ ((cP t n x D S).2.1 = 0 → τ.1 270 to = cV t n x D S 1 ∧ ((x = 0 ∨ x = 4 ∨ x = 5) → τ.1 270 (to + 1) = cV t n x D S 2) ∧ ((x = 0 ∨ x = 5) → τ.1 270 (to + 2) = cV t n x D S 3) ∧ (x = 0 → τ.1 270 (to + 3) = cV t n x D S 4)))) := by
  obtain ⟨Q, hQ⟩ : ∃ Q : zQ, Q = (zqv (none) (fun τ => zOK τ ∧ MT σ τ ∧ (∀ i, (i < to ∨ to + 3 < i) → τ.1 270 i = σ.1 270 i) ∧ PM t n (cP t n x D S) τ ∧ ((cP t n x D S).2.1 = 0 → τ.1 270 to = cV t n x D S 1 ∧ ((x = 0 ∨ x = 4 ∨ x = 5) → τ.1 270 (to + 1) = cV t n x D S 2) ∧ ((x = 0 ∨ x = 5) → τ.1 270 (to + 2) = cV t n x D S 3) ∧ (x = 0 → τ.1 270 (to + 3) = cV t n x D S 4)))) := ⟨_, rfl⟩
  rw [← hQ]
  refine zx_enter hfl (by decide) rfl 0 rfl ?_
  show zX l w mX10_partsOf (zMQ w 6 0 Q) 0 [zf 10 261, zi x, zi ((to : Nat) : Int)] [] 0 σ
  have hP : 0 ≤ D 1 0 ∧ D 1 0 ≤ 8 := hW.1.1
  have hM : 0 ≤ D 1 7 ∧ D 1 7 ≤ 8 := hW.1.2.1
  have hE : 0 ≤ D 1 10 ∧ D 1 10 ≤ 12 := hW.1.2.2.1
  have hK : 0 ≤ D 12 0 ∧ D 12 0 ≤ 40 := hW.1.2.2.2
  have r0 : σ.1 262 0 = D 1 0 := hR.1.1
  have r1 : σ.1 262 1 = D 1 7 := hR.1.2.1
  have r2 : σ.1 262 2 = D 1 10 := hR.1.2.2.1
  have r3 : σ.1 262 3 = D 12 0 := hR.1.2.2.2
  have hpp := hU.2.2.1
  have hzx : zr x := by unfold zr; omega
  have e1 : cP t n x D S = l2 t n D S := by rw [hs]; rfl
  have hR0 := hR
  refine zx_iloadN dX10_partsOf_0 rfl rfl ?_
  refine zy_top (b := 5) (hs) ?_
  refine zx_tableIn (off := 141) (tgt := 142) (by unfold zr; omega) dX10_partsOf_1 (by omega) (by omega) rfl (by decide) ?_
  refine zx_aloadN dX10_partsOf_142 rfl rfl ?_
  refine zy_getR (q' := 270) fl_RX10_38 rfl dX10_partsOf_143 rfl ?_
  refine zx_iloadN dX10_partsOf_146 rfl rfl ?_
  refine zx_aloadN dX10_partsOf_147 rfl rfl ?_
  refine zy_cvR [] (sX10_mustBe (D := D) (S := S) hfl hz (by first | assumption | omega) hR hU) dX10_partsOf_148 (by decide) rfl cw_RX10_300 okX10_mustBe rfl (Nat.le_of_ble_eq_true rfl) ⟨Nat.le_of_ble_eq_true rfl, Nat.le_of_ble_eq_true rfl, Nat.le_of_ble_eq_true rfl, Nat.le_of_ble_eq_true rfl⟩ (fun τ148 hr148 => ?_)
  have hz148 : zOK τ148 := hr148.1
  refine zy_top (b := if (o1 t n D S).2.1 = 0 then fz (D 2) (D 1 0) (nmv t n S) else 0) (rfl) ?_
  have hq148 : PM t n (o1 t n D S) τ148 := hr148.2.2
  have hm148 : MT σ τ148 := MT_x (MT_rf _) hr148.2.1
  have hR148 : Rel D (τ148.1 262) := mfr_R hm148 (by decide) hR0
  have hv148 : zr (if (o1 t n D S).2.1 = 0 then fz (D 2) (D 1 0) (nmv t n S) else 0) := by have := fz_r (D 2) hW.1.1 (nmv t n S); have := hW.1.1; unfold zr; split <;> omega
  refine zy_iast (i := to) rfl (by decide) (by decide) dX10_partsOf_151 (by omega) (by omega) rfl ?_
  refine zx_aloadN dX10_partsOf_152 rfl rfl ?_
  refine zy_getR (q' := 270) fl_RX10_38 rfl dX10_partsOf_153 rfl ?_
  refine zx_iloadN dX10_partsOf_156 rfl rfl ?_
  refine zx_iconst dX10_partsOf_157 ?_
  refine zx_iadd dX10_partsOf_158 ?_
  refine zy_top (b := ((to + 1 : Nat) : Int)) (by omega) ?_
  refine zx_aloadN dX10_partsOf_159 rfl rfl ?_
  refine zy_cvR [] (sX10_mustBe (D := D) (S := (o1 t n D S)) hfl (zOK_put hz148 (by first | exact hz148 _ _ | assumption | exact zr_b _ | exact zcmp_r _ _ | (unfold zr at *; omega))) (by first | assumption | omega) (by first | exact hR148 | (refine Rel_put (by decide) ?_; exact hR148) | (show Rel D ((zput τ148 270 _ _).1 262); exact (mfr_R (mfr_put (A := fun q => q = 270) (F := fun _ => False) (mfr_rf _ _ _) rfl (by decide)) (by decide) hR148))) (PM_put hq148)) dX10_partsOf_160 (by decide) rfl cw_RX10_300 okX10_mustBe rfl (Nat.le_of_ble_eq_true rfl) ⟨Nat.le_of_ble_eq_true rfl, Nat.le_of_ble_eq_true rfl, Nat.le_of_ble_eq_true rfl, Nat.le_of_ble_eq_true rfl⟩ (fun τ160 hr160 => ?_)
  have hz160 : zOK τ160 := hr160.1
  refine zy_top (b := if (l1 t n D S).2.1 = 0 then fz (D 2) (D 1 0) (nmv t n (o1 t n D S)) else 0) (rfl) ?_
  have hq160 : PM t n (l1 t n D S) τ160 := hr160.2.2
  have hm160 : MT σ τ160 := MT_x (MT_p hm148) hr160.2.1
  have hR160 : Rel D (τ160.1 262) := mfr_R hm160 (by decide) hR0
  have hv160 : zr (if (l1 t n D S).2.1 = 0 then fz (D 2) (D 1 0) (nmv t n (o1 t n D S)) else 0) := by have := fz_r (D 2) hW.1.1 (nmv t n (o1 t n D S)); have := hW.1.1; unfold zr; split <;> omega
  refine zy_iast (i := to + 1) rfl (by decide) (by decide) dX10_partsOf_163 (by omega) (by omega) rfl ?_
  refine zx_aloadN dX10_partsOf_164 rfl rfl ?_
  refine zy_getR (q' := 270) fl_RX10_38 rfl dX10_partsOf_165 rfl ?_
  refine zx_iloadN dX10_partsOf_168 rfl rfl ?_
  refine zx_iconst dX10_partsOf_169 ?_
  refine zx_iadd dX10_partsOf_170 ?_
  refine zy_top (b := ((to + 2 : Nat) : Int)) (by omega) ?_
  refine zx_aloadN dX10_partsOf_171 rfl rfl ?_
  refine zx_iconst dX10_partsOf_172 ?_
  refine zx_bipush dX10_partsOf_173 rfl ?_
  refine zy_cvR [zi 0, zi 31] (sX10_number (S := (l1 t n D S)) (a := 0) (b := 31) hfl (zOK_put hz160 (by first | exact hz160 _ _ | assumption | exact zr_b _ | exact zcmp_r _ _ | (unfold zr at *; omega))) (PM_put hq160) (by first | exact hz160 _ _ | assumption | exact zr_b _ | exact zcmp_r _ _ | (unfold zr at *; omega)) (by first | exact hz160 _ _ | assumption | exact zr_b _ | exact zcmp_r _ _ | (unfold zr at *; omega))) dX10_partsOf_175 (by decide) rfl cw_RX10_282 okX10_number rfl (Nat.le_of_ble_eq_true rfl) ⟨Nat.le_of_ble_eq_true rfl, Nat.le_of_ble_eq_true rfl, Nat.le_of_ble_eq_true rfl, Nat.le_of_ble_eq_true rfl⟩ (fun τ175 hr175 => ?_)
  have hz175 : zOK τ175 := hr175.1
  refine zy_top (b := if (l2 t n D S).2.1 = 0 then pV t n (l1 t n D S).1 else 0) (rfl) ?_
  have hq175 : PM t n (l2 t n D S) τ175 := hr175.2.2
  have hm175 : MT σ τ175 := MT_x (MT_p hm160) hr175.2.1
  have hR175 : Rel D (τ175.1 262) := mfr_R hm175 (by decide) hR0
  have hv175 : zr (if (l2 t n D S).2.1 = 0 then pV t n (l1 t n D S).1 else 0) := by
    split
    · rename_i zz; have := pNum_v zz; unfold zr; omega
    · unfold zr; omega
  refine zy_iast (i := to + 2) rfl (by decide) (by decide) dX10_partsOf_178 (by omega) (by omega) rfl ?_
  refine zx_vret rfl dX10_partsOf_179 ?_
  rw [hQ]
  refine ⟨rfl, ?_⟩
  have hV : (l2 t n D S).2.1 = 0 → ((zput τ175 270 (to + 2) (if (l2 t n D S).2.1 = 0 then pV t n (l1 t n D S).1 else 0)).1 270 to = cV t n x D S 1 ∧ ((x = 0 ∨ x = 4 ∨ x = 5) → (zput τ175 270 (to + 2) (if (l2 t n D S).2.1 = 0 then pV t n (l1 t n D S).1 else 0)).1 270 (to + 1) = cV t n x D S 2) ∧ ((x = 0 ∨ x = 5) → (zput τ175 270 (to + 2) (if (l2 t n D S).2.1 = 0 then pV t n (l1 t n D S).1 else 0)).1 270 (to + 2) = cV t n x D S 3) ∧ (x = 0 → (zput τ175 270 (to + 2) (if (l2 t n D S).2.1 = 0 then pV t n (l1 t n D S).1 else 0)).1 270 (to + 3) = cV t n x D S 4)) := fun z => by
    have s2 := pNum_s (t := t) (n := n) (S := l1 t n D S) z
    have s1 := pPrn_s (t := t) (n := n) (S := o1 t n D S) (f := D 2) (P := D 1 0) s2.1
    exact ⟨(by rw [zput_i _ _ _ _ _ (by omega), MX_270 hr175.2.1, zput_i _ _ _ _ _ (by omega), MX_270 hr160.2.1, zput_s, if_pos s1.1]; rw [hs]; rfl), fun _ => by rw [zput_i _ _ _ _ _ (by omega), MX_270 hr175.2.1, zput_s, if_pos s2.1]; rw [hs]; rfl, fun _ => by rw [zput_s, if_pos z]; rw [hs]; rfl, fun q => by omega⟩
  refine ⟨(zOK_put hz175 (by first | exact hz175 _ _ | assumption | exact zr_b _ | exact zcmp_r _ _ | (unfold zr at *; omega))), MT_p hm175, fun i hi => by rw [zput_i _ _ _ _ _ (by omega), MX_270 hr175.2.1, zput_i _ _ _ _ _ (by omega), MX_270 hr160.2.1, zput_i _ _ _ _ _ (by omega), MX_270 hr148.2.1], by rw [e1]; exact PM_put hq175, by rw [e1]; exact hV⟩

